section
-- ===== PART A: goes FIRST, ahead of the names: the tables' words, and 'selects' of the private methods out of them =====
/-- a private method of a class that the tables say can be made, by its rows of tables_1 -/
def lw_okq (q : MethodName × Nat) : Prop := (q.1.cls ≠ "java/lang/invoke/MethodHandle" ∧ q.1.cls ≠ "java/lang/invoke/VarHandle") ∧ Cond.instantiable q.1.cls q.2 ∈ tables_1 ∧ Cond.privateMethod q.1 ∈ tables_1 ∧ Cond.instanceMethod q.1 ∈ tables_1
theorem lw_p0 : lw_okq (⟨"TapeRings$Splicer", "firstWrong", "()I"⟩, 7) := ⟨⟨by decide +kernel, by decide +kernel⟩, List.mem_of_getElem? (i := 31) (by decide +kernel), List.mem_of_getElem? (i := 383) (by decide +kernel), List.mem_of_getElem? (i := 384) (by decide +kernel)⟩
theorem lw_p1 : lw_okq (⟨"TapeRings$Splicer", "behind", "(II)I"⟩, 7) := ⟨⟨by decide +kernel, by decide +kernel⟩, List.mem_of_getElem? (i := 31) (by decide +kernel), List.mem_of_getElem? (i := 387) (by decide +kernel), List.mem_of_getElem? (i := 388) (by decide +kernel)⟩
theorem lw_p2 : lw_okq (⟨"TapeRings$Splicer", "behindAtomStart", "(I)I"⟩, 7) := ⟨⟨by decide +kernel, by decide +kernel⟩, List.mem_of_getElem? (i := 31) (by decide +kernel), List.mem_of_getElem? (i := 391) (by decide +kernel), List.mem_of_getElem? (i := 392) (by decide +kernel)⟩
theorem lw_p3 : lw_okq (⟨"TapeRings$Splicer", "behindTermSign", "(I)I"⟩, 7) := ⟨⟨by decide +kernel, by decide +kernel⟩, List.mem_of_getElem? (i := 31) (by decide +kernel), List.mem_of_getElem? (i := 398) (by decide +kernel), List.mem_of_getElem? (i := 399) (by decide +kernel)⟩
theorem lw_p4 : lw_okq (⟨"TapeRings$Splicer", "putTogether", "()I"⟩, 7) := ⟨⟨by decide +kernel, by decide +kernel⟩, List.mem_of_getElem? (i := 31) (by decide +kernel), List.mem_of_getElem? (i := 402) (by decide +kernel), List.mem_of_getElem? (i := 403) (by decide +kernel)⟩
theorem lw_p5 : lw_okq (⟨"TapeRings$Splicer", "openRow", "()V"⟩, 7) := ⟨⟨by decide +kernel, by decide +kernel⟩, List.mem_of_getElem? (i := 31) (by decide +kernel), List.mem_of_getElem? (i := 406) (by decide +kernel), List.mem_of_getElem? (i := 407) (by decide +kernel)⟩
theorem lw_p6 : lw_okq (⟨"TapeRings$Splicer", "readDigit", "(I)I"⟩, 7) := ⟨⟨by decide +kernel, by decide +kernel⟩, List.mem_of_getElem? (i := 31) (by decide +kernel), List.mem_of_getElem? (i := 410) (by decide +kernel), List.mem_of_getElem? (i := 411) (by decide +kernel)⟩
theorem lw_p7 : lw_okq (⟨"TapeRings$Splicer", "repeatTerm", "(I)I"⟩, 7) := ⟨⟨by decide +kernel, by decide +kernel⟩, List.mem_of_getElem? (i := 31) (by decide +kernel), List.mem_of_getElem? (i := 414) (by decide +kernel), List.mem_of_getElem? (i := 415) (by decide +kernel)⟩
theorem lw_p8 : lw_okq (⟨"TapeRings$Splicer", "beginTerm", "(I)I"⟩, 7) := ⟨⟨by decide +kernel, by decide +kernel⟩, List.mem_of_getElem? (i := 31) (by decide +kernel), List.mem_of_getElem? (i := 433) (by decide +kernel), List.mem_of_getElem? (i := 434) (by decide +kernel)⟩
theorem lw_p9 : lw_okq (⟨"TapeRings$Splicer", "layTerm", "()I"⟩, 7) := ⟨⟨by decide +kernel, by decide +kernel⟩, List.mem_of_getElem? (i := 31) (by decide +kernel), List.mem_of_getElem? (i := 437) (by decide +kernel), List.mem_of_getElem? (i := 438) (by decide +kernel)⟩
theorem lw_p10 : lw_okq (⟨"TapeRings$Splicer", "readSign", "(I)I"⟩, 7) := ⟨⟨by decide +kernel, by decide +kernel⟩, List.mem_of_getElem? (i := 31) (by decide +kernel), List.mem_of_getElem? (i := 452) (by decide +kernel), List.mem_of_getElem? (i := 453) (by decide +kernel)⟩
theorem lw_p11 : lw_okq (⟨"TapeRings$Splicer", "open", "()I"⟩, 7) := ⟨⟨by decide +kernel, by decide +kernel⟩, List.mem_of_getElem? (i := 31) (by decide +kernel), List.mem_of_getElem? (i := 460) (by decide +kernel), List.mem_of_getElem? (i := 461) (by decide +kernel)⟩
theorem lw_p12 : lw_okq (⟨"TapeRings$Splicer", "close", "()I"⟩, 7) := ⟨⟨by decide +kernel, by decide +kernel⟩, List.mem_of_getElem? (i := 31) (by decide +kernel), List.mem_of_getElem? (i := 464) (by decide +kernel), List.mem_of_getElem? (i := 465) (by decide +kernel)⟩
theorem lw_p13 : lw_okq (⟨"TapeRings$Ring", "listen", "()V"⟩, 6) := ⟨⟨by decide +kernel, by decide +kernel⟩, List.mem_of_getElem? (i := 109) (by decide +kernel), List.mem_of_getElem? (i := 503) (by decide +kernel), List.mem_of_getElem? (i := 504) (by decide +kernel)⟩
theorem lw_p14 : lw_okq (⟨"TapeRings$Ring", "soundsUnder", "(II)I"⟩, 6) := ⟨⟨by decide +kernel, by decide +kernel⟩, List.mem_of_getElem? (i := 109) (by decide +kernel), List.mem_of_getElem? (i := 511) (by decide +kernel), List.mem_of_getElem? (i := 512) (by decide +kernel)⟩
theorem lw_p15 : lw_okq (⟨"TapeRings$Meeting", "turnsOf", "(LTapeRings$Studio;LTapeRings$Ring;I)I"⟩, 4) := ⟨⟨by decide +kernel, by decide +kernel⟩, List.mem_of_getElem? (i := 159) (by decide +kernel), List.mem_of_getElem? (i := 648) (by decide +kernel), List.mem_of_getElem? (i := 649) (by decide +kernel)⟩
def lw_privs_1 : List (MethodName × Nat) := [(⟨"TapeRings$Splicer", "firstWrong", "()I"⟩, 7), (⟨"TapeRings$Splicer", "behind", "(II)I"⟩, 7), (⟨"TapeRings$Splicer", "behindAtomStart", "(I)I"⟩, 7), (⟨"TapeRings$Splicer", "behindTermSign", "(I)I"⟩, 7), (⟨"TapeRings$Splicer", "putTogether", "()I"⟩, 7), (⟨"TapeRings$Splicer", "openRow", "()V"⟩, 7), (⟨"TapeRings$Splicer", "readDigit", "(I)I"⟩, 7), (⟨"TapeRings$Splicer", "repeatTerm", "(I)I"⟩, 7), (⟨"TapeRings$Splicer", "beginTerm", "(I)I"⟩, 7), (⟨"TapeRings$Splicer", "layTerm", "()I"⟩, 7), (⟨"TapeRings$Splicer", "readSign", "(I)I"⟩, 7), (⟨"TapeRings$Splicer", "open", "()I"⟩, 7), (⟨"TapeRings$Splicer", "close", "()I"⟩, 7), (⟨"TapeRings$Ring", "listen", "()V"⟩, 6), (⟨"TapeRings$Ring", "soundsUnder", "(II)I"⟩, 6), (⟨"TapeRings$Meeting", "turnsOf", "(LTapeRings$Studio;LTapeRings$Ring;I)I"⟩, 4)]
theorem lw_r1 : ∀ q ∈ lw_privs_1, lw_okq q := List.forall_mem_cons.mpr ⟨lw_p0, List.forall_mem_cons.mpr ⟨lw_p1, List.forall_mem_cons.mpr ⟨lw_p2, List.forall_mem_cons.mpr ⟨lw_p3, List.forall_mem_cons.mpr ⟨lw_p4, List.forall_mem_cons.mpr ⟨lw_p5, List.forall_mem_cons.mpr ⟨lw_p6, List.forall_mem_cons.mpr ⟨lw_p7, List.forall_mem_cons.mpr ⟨lw_p8, List.forall_mem_cons.mpr ⟨lw_p9, List.forall_mem_cons.mpr ⟨lw_p10, List.forall_mem_cons.mpr ⟨lw_p11, List.forall_mem_cons.mpr ⟨lw_p12, List.forall_mem_cons.mpr ⟨lw_p13, List.forall_mem_cons.mpr ⟨lw_p14, List.forall_mem_cons.mpr ⟨lw_p15, fun _ h => absurd h List.not_mem_nil⟩⟩⟩⟩⟩⟩⟩⟩⟩⟩⟩⟩⟩⟩⟩⟩
theorem lw_p16 : lw_okq (⟨"TapeRings$Meeting", "sharedTicks", "()I"⟩, 4) := ⟨⟨by decide +kernel, by decide +kernel⟩, List.mem_of_getElem? (i := 159) (by decide +kernel), List.mem_of_getElem? (i := 690) (by decide +kernel), List.mem_of_getElem? (i := 691) (by decide +kernel)⟩
theorem lw_p17 : lw_okq (⟨"TapeRings$Meeting", "turnsAlike", "(III)I"⟩, 4) := ⟨⟨by decide +kernel, by decide +kernel⟩, List.mem_of_getElem? (i := 159) (by decide +kernel), List.mem_of_getElem? (i := 695) (by decide +kernel), List.mem_of_getElem? (i := 696) (by decide +kernel)⟩
theorem lw_p18 : lw_okq (⟨"TapeRings$Meeting", "firstSteady", "(J)J"⟩, 4) := ⟨⟨by decide +kernel, by decide +kernel⟩, List.mem_of_getElem? (i := 159) (by decide +kernel), List.mem_of_getElem? (i := 703) (by decide +kernel), List.mem_of_getElem? (i := 704) (by decide +kernel)⟩
theorem lw_p19 : lw_okq (⟨"TapeRings$Meeting", "ticksToTurn", "(II)I"⟩, 4) := ⟨⟨by decide +kernel, by decide +kernel⟩, List.mem_of_getElem? (i := 159) (by decide +kernel), List.mem_of_getElem? (i := 708) (by decide +kernel), List.mem_of_getElem? (i := 709) (by decide +kernel)⟩
theorem lw_p20 : lw_okq (⟨"TapeRings$Planner", "listTrue", "(LTapeRings$Ring;LTapeRings$Motor;[I)V"⟩, 9) := ⟨⟨by decide +kernel, by decide +kernel⟩, List.mem_of_getElem? (i := 178) (by decide +kernel), List.mem_of_getElem? (i := 750) (by decide +kernel), List.mem_of_getElem? (i := 751) (by decide +kernel)⟩
theorem lw_p21 : lw_okq (⟨"TapeRings$Planner", "trueFrom", "(II)I"⟩, 9) := ⟨⟨by decide +kernel, by decide +kernel⟩, List.mem_of_getElem? (i := 178) (by decide +kernel), List.mem_of_getElem? (i := 756) (by decide +kernel), List.mem_of_getElem? (i := 757) (by decide +kernel)⟩
theorem lw_p22 : lw_okq (⟨"TapeRings$Planner", "listCheapest", "(LTapeRings$Ring;[I)V"⟩, 9) := ⟨⟨by decide +kernel, by decide +kernel⟩, List.mem_of_getElem? (i := 178) (by decide +kernel), List.mem_of_getElem? (i := 761) (by decide +kernel), List.mem_of_getElem? (i := 762) (by decide +kernel)⟩
theorem lw_p23 : lw_okq (⟨"TapeRings$Planner", "addCosts", "([I[I)V"⟩, 9) := ⟨⟨by decide +kernel, by decide +kernel⟩, List.mem_of_getElem? (i := 178) (by decide +kernel), List.mem_of_getElem? (i := 772) (by decide +kernel), List.mem_of_getElem? (i := 773) (by decide +kernel)⟩
theorem lw_p24 : lw_okq (⟨"TapeRings$Planner", "choose", "(LTapeRings$Ring;II)I"⟩, 9) := ⟨⟨by decide +kernel, by decide +kernel⟩, List.mem_of_getElem? (i := 178) (by decide +kernel), List.mem_of_getElem? (i := 776) (by decide +kernel), List.mem_of_getElem? (i := 777) (by decide +kernel)⟩
theorem lw_p25 : lw_okq (⟨"TapeRings", "tell", "([II)V"⟩, 11) := ⟨⟨by decide +kernel, by decide +kernel⟩, List.mem_of_getElem? (i := 23) (by decide +kernel), List.mem_of_getElem? (i := 780) (by decide +kernel), List.mem_of_getElem? (i := 781) (by decide +kernel)⟩
theorem lw_p26 : lw_okq (⟨"TapeRings$Echo", "loudness", "(I)I"⟩, 8) := ⟨⟨by decide +kernel, by decide +kernel⟩, List.mem_of_getElem? (i := 216) (by decide +kernel), List.mem_of_getElem? (i := 832) (by decide +kernel), List.mem_of_getElem? (i := 833) (by decide +kernel)⟩
theorem lw_p27 : lw_okq (⟨"TapeRings$Echo", "behind", "(II)I"⟩, 8) := ⟨⟨by decide +kernel, by decide +kernel⟩, List.mem_of_getElem? (i := 216) (by decide +kernel), List.mem_of_getElem? (i := 836) (by decide +kernel), List.mem_of_getElem? (i := 837) (by decide +kernel)⟩
theorem lw_p28 : lw_okq (⟨"TapeRings$Echo", "firstSilence", "()I"⟩, 8) := ⟨⟨by decide +kernel, by decide +kernel⟩, List.mem_of_getElem? (i := 216) (by decide +kernel), List.mem_of_getElem? (i := 855) (by decide +kernel), List.mem_of_getElem? (i := 856) (by decide +kernel)⟩
theorem lw_p29 : lw_okq (⟨"TapeRings$Echo", "comesBackIn", "()I"⟩, 8) := ⟨⟨by decide +kernel, by decide +kernel⟩, List.mem_of_getElem? (i := 216) (by decide +kernel), List.mem_of_getElem? (i := 859) (by decide +kernel), List.mem_of_getElem? (i := 860) (by decide +kernel)⟩
theorem lw_p30 : lw_okq (⟨"TapeRings$Echo", "alike", "(II)Z"⟩, 8) := ⟨⟨by decide +kernel, by decide +kernel⟩, List.mem_of_getElem? (i := 216) (by decide +kernel), List.mem_of_getElem? (i := 863) (by decide +kernel), List.mem_of_getElem? (i := 864) (by decide +kernel)⟩
theorem lw_p31 : lw_okq (⟨"TapeRings$OldTape", "spanFits", "(I)Z"⟩, 4) := ⟨⟨by decide +kernel, by decide +kernel⟩, List.mem_of_getElem? (i := 252) (by decide +kernel), List.mem_of_getElem? (i := 899) (by decide +kernel), List.mem_of_getElem? (i := 900) (by decide +kernel)⟩
def lw_privs_2 : List (MethodName × Nat) := [(⟨"TapeRings$Meeting", "sharedTicks", "()I"⟩, 4), (⟨"TapeRings$Meeting", "turnsAlike", "(III)I"⟩, 4), (⟨"TapeRings$Meeting", "firstSteady", "(J)J"⟩, 4), (⟨"TapeRings$Meeting", "ticksToTurn", "(II)I"⟩, 4), (⟨"TapeRings$Planner", "listTrue", "(LTapeRings$Ring;LTapeRings$Motor;[I)V"⟩, 9), (⟨"TapeRings$Planner", "trueFrom", "(II)I"⟩, 9), (⟨"TapeRings$Planner", "listCheapest", "(LTapeRings$Ring;[I)V"⟩, 9), (⟨"TapeRings$Planner", "addCosts", "([I[I)V"⟩, 9), (⟨"TapeRings$Planner", "choose", "(LTapeRings$Ring;II)I"⟩, 9), (⟨"TapeRings", "tell", "([II)V"⟩, 11), (⟨"TapeRings$Echo", "loudness", "(I)I"⟩, 8), (⟨"TapeRings$Echo", "behind", "(II)I"⟩, 8), (⟨"TapeRings$Echo", "firstSilence", "()I"⟩, 8), (⟨"TapeRings$Echo", "comesBackIn", "()I"⟩, 8), (⟨"TapeRings$Echo", "alike", "(II)Z"⟩, 8), (⟨"TapeRings$OldTape", "spanFits", "(I)Z"⟩, 4)]
theorem lw_r2 : ∀ q ∈ lw_privs_2, lw_okq q := List.forall_mem_cons.mpr ⟨lw_p16, List.forall_mem_cons.mpr ⟨lw_p17, List.forall_mem_cons.mpr ⟨lw_p18, List.forall_mem_cons.mpr ⟨lw_p19, List.forall_mem_cons.mpr ⟨lw_p20, List.forall_mem_cons.mpr ⟨lw_p21, List.forall_mem_cons.mpr ⟨lw_p22, List.forall_mem_cons.mpr ⟨lw_p23, List.forall_mem_cons.mpr ⟨lw_p24, List.forall_mem_cons.mpr ⟨lw_p25, List.forall_mem_cons.mpr ⟨lw_p26, List.forall_mem_cons.mpr ⟨lw_p27, List.forall_mem_cons.mpr ⟨lw_p28, List.forall_mem_cons.mpr ⟨lw_p29, List.forall_mem_cons.mpr ⟨lw_p30, List.forall_mem_cons.mpr ⟨lw_p31, fun _ h => absurd h List.not_mem_nil⟩⟩⟩⟩⟩⟩⟩⟩⟩⟩⟩⟩⟩⟩⟩⟩
theorem lw_p32 : lw_okq (⟨"TapeRings$OldTape", "pairFits", "(II)Z"⟩, 4) := ⟨⟨by decide +kernel, by decide +kernel⟩, List.mem_of_getElem? (i := 252) (by decide +kernel), List.mem_of_getElem? (i := 914) (by decide +kernel), List.mem_of_getElem? (i := 915) (by decide +kernel)⟩
theorem lw_p33 : lw_okq (⟨"TapeRings$OldTape", "makeGreatest", "([II)V"⟩, 4) := ⟨⟨by decide +kernel, by decide +kernel⟩, List.mem_of_getElem? (i := 252) (by decide +kernel), List.mem_of_getElem? (i := 918) (by decide +kernel), List.mem_of_getElem? (i := 919) (by decide +kernel)⟩
theorem lw_p34 : lw_okq (⟨"TapeRings$Pieces", "keepBetter", "(I)V"⟩, 6) := ⟨⟨by decide +kernel, by decide +kernel⟩, List.mem_of_getElem? (i := 272) (by decide +kernel), List.mem_of_getElem? (i := 957) (by decide +kernel), List.mem_of_getElem? (i := 958) (by decide +kernel)⟩
theorem lw_p35 : lw_okq (⟨"TapeRings$Pieces", "laidIsLess", "(I)Z"⟩, 6) := ⟨⟨by decide +kernel, by decide +kernel⟩, List.mem_of_getElem? (i := 272) (by decide +kernel), List.mem_of_getElem? (i := 961) (by decide +kernel), List.mem_of_getElem? (i := 962) (by decide +kernel)⟩
theorem lw_p36 : lw_okq (⟨"TapeRings$Pieces", "layPiece", "(IZI)I"⟩, 6) := ⟨⟨by decide +kernel, by decide +kernel⟩, List.mem_of_getElem? (i := 272) (by decide +kernel), List.mem_of_getElem? (i := 966) (by decide +kernel), List.mem_of_getElem? (i := 967) (by decide +kernel)⟩
theorem lw_p37 : lw_okq (⟨"TapeRings$Pieces", "alike", "(IZII)Z"⟩, 6) := ⟨⟨by decide +kernel, by decide +kernel⟩, List.mem_of_getElem? (i := 272) (by decide +kernel), List.mem_of_getElem? (i := 971) (by decide +kernel), List.mem_of_getElem? (i := 972) (by decide +kernel)⟩
theorem lw_p38 : lw_okq (⟨"TapeRings$Pieces", "sound", "(IZI)I"⟩, 6) := ⟨⟨by decide +kernel, by decide +kernel⟩, List.mem_of_getElem? (i := 272) (by decide +kernel), List.mem_of_getElem? (i := 975) (by decide +kernel), List.mem_of_getElem? (i := 976) (by decide +kernel)⟩
theorem lw_p39 : lw_okq (⟨"TapeRings$Versions", "editsTurned", "(LTapeRings$Strip;LTapeRings$Strip;I)I"⟩, 5) := ⟨⟨by decide +kernel, by decide +kernel⟩, List.mem_of_getElem? (i := 300) (by decide +kernel), List.mem_of_getElem? (i := 1014) (by decide +kernel), List.mem_of_getElem? (i := 1015) (by decide +kernel)⟩
theorem lw_p40 : lw_okq (⟨"java/lang/Throwable", "fillInStackTrace", "(I)Ljava/lang/Throwable;"⟩, 6) := ⟨⟨by decide +kernel, by decide +kernel⟩, List.mem_of_getElem? (i := 1064) (by decide +kernel), List.mem_of_getElem? (i := 1062) (by decide +kernel), List.mem_of_getElem? (i := 1063) (by decide +kernel)⟩
theorem lw_p41 : lw_okq (⟨"TapeRingsModel", "skipRow", "(I)Z"⟩, 50) := ⟨⟨by decide +kernel, by decide +kernel⟩, List.mem_of_getElem? (i := 1106) (by decide +kernel), List.mem_of_getElem? (i := 1281) (by decide +kernel), List.mem_of_getElem? (i := 1282) (by decide +kernel)⟩
theorem lw_p42 : lw_okq (⟨"TapeRingsModel", "skipTerm", "(I)Z"⟩, 50) := ⟨⟨by decide +kernel, by decide +kernel⟩, List.mem_of_getElem? (i := 1106) (by decide +kernel), List.mem_of_getElem? (i := 1285) (by decide +kernel), List.mem_of_getElem? (i := 1286) (by decide +kernel)⟩
theorem lw_p43 : lw_okq (⟨"TapeRingsModel", "skipAtom", "(I)Z"⟩, 50) := ⟨⟨by decide +kernel, by decide +kernel⟩, List.mem_of_getElem? (i := 1106) (by decide +kernel), List.mem_of_getElem? (i := 1289) (by decide +kernel), List.mem_of_getElem? (i := 1290) (by decide +kernel)⟩
theorem lw_p44 : lw_okq (⟨"TapeRingsModel", "has", "(II)Z"⟩, 50) := ⟨⟨by decide +kernel, by decide +kernel⟩, List.mem_of_getElem? (i := 1106) (by decide +kernel), List.mem_of_getElem? (i := 1293) (by decide +kernel), List.mem_of_getElem? (i := 1294) (by decide +kernel)⟩
theorem lw_p45 : lw_okq (⟨"TapeRingsModel", "isWrong", "()Z"⟩, 50) := ⟨⟨by decide +kernel, by decide +kernel⟩, List.mem_of_getElem? (i := 1106) (by decide +kernel), List.mem_of_getElem? (i := 1297) (by decide +kernel), List.mem_of_getElem? (i := 1298) (by decide +kernel)⟩
theorem lw_p46 : lw_okq (⟨"TapeRingsModel", "makeRow", "(I)I"⟩, 50) := ⟨⟨by decide +kernel, by decide +kernel⟩, List.mem_of_getElem? (i := 1106) (by decide +kernel), List.mem_of_getElem? (i := 1301) (by decide +kernel), List.mem_of_getElem? (i := 1302) (by decide +kernel)⟩
theorem lw_p47 : lw_okq (⟨"TapeRingsModel", "makeTerm", "(I)I"⟩, 50) := ⟨⟨by decide +kernel, by decide +kernel⟩, List.mem_of_getElem? (i := 1106) (by decide +kernel), List.mem_of_getElem? (i := 1305) (by decide +kernel), List.mem_of_getElem? (i := 1306) (by decide +kernel)⟩
def lw_privs_3 : List (MethodName × Nat) := [(⟨"TapeRings$OldTape", "pairFits", "(II)Z"⟩, 4), (⟨"TapeRings$OldTape", "makeGreatest", "([II)V"⟩, 4), (⟨"TapeRings$Pieces", "keepBetter", "(I)V"⟩, 6), (⟨"TapeRings$Pieces", "laidIsLess", "(I)Z"⟩, 6), (⟨"TapeRings$Pieces", "layPiece", "(IZI)I"⟩, 6), (⟨"TapeRings$Pieces", "alike", "(IZII)Z"⟩, 6), (⟨"TapeRings$Pieces", "sound", "(IZI)I"⟩, 6), (⟨"TapeRings$Versions", "editsTurned", "(LTapeRings$Strip;LTapeRings$Strip;I)I"⟩, 5), (⟨"java/lang/Throwable", "fillInStackTrace", "(I)Ljava/lang/Throwable;"⟩, 6), (⟨"TapeRingsModel", "skipRow", "(I)Z"⟩, 50), (⟨"TapeRingsModel", "skipTerm", "(I)Z"⟩, 50), (⟨"TapeRingsModel", "skipAtom", "(I)Z"⟩, 50), (⟨"TapeRingsModel", "has", "(II)Z"⟩, 50), (⟨"TapeRingsModel", "isWrong", "()Z"⟩, 50), (⟨"TapeRingsModel", "makeRow", "(I)I"⟩, 50), (⟨"TapeRingsModel", "makeTerm", "(I)I"⟩, 50)]
theorem lw_r3 : ∀ q ∈ lw_privs_3, lw_okq q := List.forall_mem_cons.mpr ⟨lw_p32, List.forall_mem_cons.mpr ⟨lw_p33, List.forall_mem_cons.mpr ⟨lw_p34, List.forall_mem_cons.mpr ⟨lw_p35, List.forall_mem_cons.mpr ⟨lw_p36, List.forall_mem_cons.mpr ⟨lw_p37, List.forall_mem_cons.mpr ⟨lw_p38, List.forall_mem_cons.mpr ⟨lw_p39, List.forall_mem_cons.mpr ⟨lw_p40, List.forall_mem_cons.mpr ⟨lw_p41, List.forall_mem_cons.mpr ⟨lw_p42, List.forall_mem_cons.mpr ⟨lw_p43, List.forall_mem_cons.mpr ⟨lw_p44, List.forall_mem_cons.mpr ⟨lw_p45, List.forall_mem_cons.mpr ⟨lw_p46, List.forall_mem_cons.mpr ⟨lw_p47, fun _ h => absurd h List.not_mem_nil⟩⟩⟩⟩⟩⟩⟩⟩⟩⟩⟩⟩⟩⟩⟩⟩
theorem lw_p48 : lw_okq (⟨"TapeRingsModel", "isRing", "(I)Z"⟩, 50) := ⟨⟨by decide +kernel, by decide +kernel⟩, List.mem_of_getElem? (i := 1106) (by decide +kernel), List.mem_of_getElem? (i := 1327) (by decide +kernel), List.mem_of_getElem? (i := 1328) (by decide +kernel)⟩
theorem lw_p49 : lw_okq (⟨"TapeRingsModel", "round", "(I)I"⟩, 50) := ⟨⟨by decide +kernel, by decide +kernel⟩, List.mem_of_getElem? (i := 1106) (by decide +kernel), List.mem_of_getElem? (i := 1356) (by decide +kernel), List.mem_of_getElem? (i := 1357) (by decide +kernel)⟩
theorem lw_p50 : lw_okq (⟨"TapeRingsModel", "lastSpeed", "(I)I"⟩, 50) := ⟨⟨by decide +kernel, by decide +kernel⟩, List.mem_of_getElem? (i := 1106) (by decide +kernel), List.mem_of_getElem? (i := 1360) (by decide +kernel), List.mem_of_getElem? (i := 1361) (by decide +kernel)⟩
theorem lw_p51 : lw_okq (⟨"TapeRingsModel", "wayEarly", "(IJ)J"⟩, 50) := ⟨⟨by decide +kernel, by decide +kernel⟩, List.mem_of_getElem? (i := 1106) (by decide +kernel), List.mem_of_getElem? (i := 1377) (by decide +kernel), List.mem_of_getElem? (i := 1378) (by decide +kernel)⟩
theorem lw_p52 : lw_okq (⟨"TapeRingsModel", "heardInAll", "(J)I"⟩, 50) := ⟨⟨by decide +kernel, by decide +kernel⟩, List.mem_of_getElem? (i := 1106) (by decide +kernel), List.mem_of_getElem? (i := 1385) (by decide +kernel), List.mem_of_getElem? (i := 1386) (by decide +kernel)⟩
theorem lw_p53 : lw_okq (⟨"TapeRingsModel", "heardOf", "(IJ)I"⟩, 50) := ⟨⟨by decide +kernel, by decide +kernel⟩, List.mem_of_getElem? (i := 1106) (by decide +kernel), List.mem_of_getElem? (i := 1389) (by decide +kernel), List.mem_of_getElem? (i := 1390) (by decide +kernel)⟩
theorem lw_p54 : lw_okq (⟨"TapeRingsModel", "wayBy", "(IJI)I"⟩, 50) := ⟨⟨by decide +kernel, by decide +kernel⟩, List.mem_of_getElem? (i := 1106) (by decide +kernel), List.mem_of_getElem? (i := 1393) (by decide +kernel), List.mem_of_getElem? (i := 1394) (by decide +kernel)⟩
theorem lw_p55 : lw_okq (⟨"TapeRingsModel", "steady", "(I)I"⟩, 50) := ⟨⟨by decide +kernel, by decide +kernel⟩, List.mem_of_getElem? (i := 1106) (by decide +kernel), List.mem_of_getElem? (i := 1397) (by decide +kernel), List.mem_of_getElem? (i := 1398) (by decide +kernel)⟩
theorem lw_p56 : lw_okq (⟨"TapeRingsModel", "heardAt", "(II)I"⟩, 50) := ⟨⟨by decide +kernel, by decide +kernel⟩, List.mem_of_getElem? (i := 1106) (by decide +kernel), List.mem_of_getElem? (i := 1404) (by decide +kernel), List.mem_of_getElem? (i := 1405) (by decide +kernel)⟩
theorem lw_p57 : lw_okq (⟨"TapeRingsModel", "allRounds", "()J"⟩, 50) := ⟨⟨by decide +kernel, by decide +kernel⟩, List.mem_of_getElem? (i := 1106) (by decide +kernel), List.mem_of_getElem? (i := 1412) (by decide +kernel), List.mem_of_getElem? (i := 1413) (by decide +kernel)⟩
theorem lw_p58 : lw_okq (⟨"TapeRingsModel", "steadyAll", "()I"⟩, 50) := ⟨⟨by decide +kernel, by decide +kernel⟩, List.mem_of_getElem? (i := 1106) (by decide +kernel), List.mem_of_getElem? (i := 1429) (by decide +kernel), List.mem_of_getElem? (i := 1430) (by decide +kernel)⟩
theorem lw_p59 : lw_okq (⟨"TapeRingsModel", "meetsAt", "(J)Z"⟩, 50) := ⟨⟨by decide +kernel, by decide +kernel⟩, List.mem_of_getElem? (i := 1106) (by decide +kernel), List.mem_of_getElem? (i := 1434) (by decide +kernel), List.mem_of_getElem? (i := 1435) (by decide +kernel)⟩
theorem lw_p60 : lw_okq (⟨"TapeRingsModel", "findHeard", "(J)V"⟩, 50) := ⟨⟨by decide +kernel, by decide +kernel⟩, List.mem_of_getElem? (i := 1106) (by decide +kernel), List.mem_of_getElem? (i := 1438) (by decide +kernel), List.mem_of_getElem? (i := 1439) (by decide +kernel)⟩
theorem lw_p61 : lw_okq (⟨"TapeRingsModel", "meetsBehind", "(I)Z"⟩, 50) := ⟨⟨by decide +kernel, by decide +kernel⟩, List.mem_of_getElem? (i := 1106) (by decide +kernel), List.mem_of_getElem? (i := 1442) (by decide +kernel), List.mem_of_getElem? (i := 1443) (by decide +kernel)⟩
theorem lw_p62 : lw_okq (⟨"TapeRingsModel", "truths", "(III)I"⟩, 50) := ⟨⟨by decide +kernel, by decide +kernel⟩, List.mem_of_getElem? (i := 1106) (by decide +kernel), List.mem_of_getElem? (i := 1459) (by decide +kernel), List.mem_of_getElem? (i := 1460) (by decide +kernel)⟩
theorem lw_p63 : lw_okq (⟨"TapeRingsModel", "findPlan", "()I"⟩, 50) := ⟨⟨by decide +kernel, by decide +kernel⟩, List.mem_of_getElem? (i := 1106) (by decide +kernel), List.mem_of_getElem? (i := 1467) (by decide +kernel), List.mem_of_getElem? (i := 1468) (by decide +kernel)⟩
def lw_privs_4 : List (MethodName × Nat) := [(⟨"TapeRingsModel", "isRing", "(I)Z"⟩, 50), (⟨"TapeRingsModel", "round", "(I)I"⟩, 50), (⟨"TapeRingsModel", "lastSpeed", "(I)I"⟩, 50), (⟨"TapeRingsModel", "wayEarly", "(IJ)J"⟩, 50), (⟨"TapeRingsModel", "heardInAll", "(J)I"⟩, 50), (⟨"TapeRingsModel", "heardOf", "(IJ)I"⟩, 50), (⟨"TapeRingsModel", "wayBy", "(IJI)I"⟩, 50), (⟨"TapeRingsModel", "steady", "(I)I"⟩, 50), (⟨"TapeRingsModel", "heardAt", "(II)I"⟩, 50), (⟨"TapeRingsModel", "allRounds", "()J"⟩, 50), (⟨"TapeRingsModel", "steadyAll", "()I"⟩, 50), (⟨"TapeRingsModel", "meetsAt", "(J)Z"⟩, 50), (⟨"TapeRingsModel", "findHeard", "(J)V"⟩, 50), (⟨"TapeRingsModel", "meetsBehind", "(I)Z"⟩, 50), (⟨"TapeRingsModel", "truths", "(III)I"⟩, 50), (⟨"TapeRingsModel", "findPlan", "()I"⟩, 50)]
theorem lw_r4 : ∀ q ∈ lw_privs_4, lw_okq q := List.forall_mem_cons.mpr ⟨lw_p48, List.forall_mem_cons.mpr ⟨lw_p49, List.forall_mem_cons.mpr ⟨lw_p50, List.forall_mem_cons.mpr ⟨lw_p51, List.forall_mem_cons.mpr ⟨lw_p52, List.forall_mem_cons.mpr ⟨lw_p53, List.forall_mem_cons.mpr ⟨lw_p54, List.forall_mem_cons.mpr ⟨lw_p55, List.forall_mem_cons.mpr ⟨lw_p56, List.forall_mem_cons.mpr ⟨lw_p57, List.forall_mem_cons.mpr ⟨lw_p58, List.forall_mem_cons.mpr ⟨lw_p59, List.forall_mem_cons.mpr ⟨lw_p60, List.forall_mem_cons.mpr ⟨lw_p61, List.forall_mem_cons.mpr ⟨lw_p62, List.forall_mem_cons.mpr ⟨lw_p63, fun _ h => absurd h List.not_mem_nil⟩⟩⟩⟩⟩⟩⟩⟩⟩⟩⟩⟩⟩⟩⟩⟩
theorem lw_p64 : lw_okq (⟨"TapeRingsModel", "costOf", "(III)I"⟩, 50) := ⟨⟨by decide +kernel, by decide +kernel⟩, List.mem_of_getElem? (i := 1106) (by decide +kernel), List.mem_of_getElem? (i := 1472) (by decide +kernel), List.mem_of_getElem? (i := 1473) (by decide +kernel)⟩
theorem lw_p65 : lw_okq (⟨"TapeRingsModel", "findOuts", "(I)V"⟩, 50) := ⟨⟨by decide +kernel, by decide +kernel⟩, List.mem_of_getElem? (i := 1106) (by decide +kernel), List.mem_of_getElem? (i := 1501) (by decide +kernel), List.mem_of_getElem? (i := 1502) (by decide +kernel)⟩
theorem lw_p66 : lw_okq (⟨"TapeRingsModel", "areAlike", "(II)Z"⟩, 50) := ⟨⟨by decide +kernel, by decide +kernel⟩, List.mem_of_getElem? (i := 1106) (by decide +kernel), List.mem_of_getElem? (i := 1509) (by decide +kernel), List.mem_of_getElem? (i := 1510) (by decide +kernel)⟩
theorem lw_p67 : lw_okq (⟨"TapeRingsModel", "isSpan", "(I)Z"⟩, 50) := ⟨⟨by decide +kernel, by decide +kernel⟩, List.mem_of_getElem? (i := 1106) (by decide +kernel), List.mem_of_getElem? (i := 1533) (by decide +kernel), List.mem_of_getElem? (i := 1534) (by decide +kernel)⟩
theorem lw_p68 : lw_okq (⟨"TapeRingsModel", "pairAt", "(I)I"⟩, 50) := ⟨⟨by decide +kernel, by decide +kernel⟩, List.mem_of_getElem? (i := 1106) (by decide +kernel), List.mem_of_getElem? (i := 1541) (by decide +kernel), List.mem_of_getElem? (i := 1542) (by decide +kernel)⟩
theorem lw_p69 : lw_okq (⟨"TapeRingsModel", "isPair", "(II)Z"⟩, 50) := ⟨⟨by decide +kernel, by decide +kernel⟩, List.mem_of_getElem? (i := 1106) (by decide +kernel), List.mem_of_getElem? (i := 1545) (by decide +kernel), List.mem_of_getElem? (i := 1546) (by decide +kernel)⟩
theorem lw_p70 : lw_okq (⟨"TapeRingsModel", "most", "(II)I"⟩, 50) := ⟨⟨by decide +kernel, by decide +kernel⟩, List.mem_of_getElem? (i := 1106) (by decide +kernel), List.mem_of_getElem? (i := 1549) (by decide +kernel), List.mem_of_getElem? (i := 1550) (by decide +kernel)⟩
theorem lw_p71 : lw_okq (⟨"TapeRingsModel", "joinFrom", "(III)V"⟩, 50) := ⟨⟨by decide +kernel, by decide +kernel⟩, List.mem_of_getElem? (i := 1106) (by decide +kernel), List.mem_of_getElem? (i := 1569) (by decide +kernel), List.mem_of_getElem? (i := 1570) (by decide +kernel)⟩
theorem lw_p72 : lw_okq (⟨"TapeRingsModel", "lies", "(IIIZI)Z"⟩, 50) := ⟨⟨by decide +kernel, by decide +kernel⟩, List.mem_of_getElem? (i := 1106) (by decide +kernel), List.mem_of_getElem? (i := 1573) (by decide +kernel), List.mem_of_getElem? (i := 1574) (by decide +kernel)⟩
theorem lw_p73 : lw_okq (⟨"TapeRingsModel", "sound", "(IZI)I"⟩, 50) := ⟨⟨by decide +kernel, by decide +kernel⟩, List.mem_of_getElem? (i := 1106) (by decide +kernel), List.mem_of_getElem? (i := 1577) (by decide +kernel), List.mem_of_getElem? (i := 1578) (by decide +kernel)⟩
theorem lw_p74 : lw_okq (⟨"TapeRingsModel", "editsBy", "(III)I"⟩, 50) := ⟨⟨by decide +kernel, by decide +kernel⟩, List.mem_of_getElem? (i := 1106) (by decide +kernel), List.mem_of_getElem? (i := 1597) (by decide +kernel), List.mem_of_getElem? (i := 1598) (by decide +kernel)⟩
def lw_privs_5 : List (MethodName × Nat) := [(⟨"TapeRingsModel", "costOf", "(III)I"⟩, 50), (⟨"TapeRingsModel", "findOuts", "(I)V"⟩, 50), (⟨"TapeRingsModel", "areAlike", "(II)Z"⟩, 50), (⟨"TapeRingsModel", "isSpan", "(I)Z"⟩, 50), (⟨"TapeRingsModel", "pairAt", "(I)I"⟩, 50), (⟨"TapeRingsModel", "isPair", "(II)Z"⟩, 50), (⟨"TapeRingsModel", "most", "(II)I"⟩, 50), (⟨"TapeRingsModel", "joinFrom", "(III)V"⟩, 50), (⟨"TapeRingsModel", "lies", "(IIIZI)Z"⟩, 50), (⟨"TapeRingsModel", "sound", "(IZI)I"⟩, 50), (⟨"TapeRingsModel", "editsBy", "(III)I"⟩, 50)]
theorem lw_r5 : ∀ q ∈ lw_privs_5, lw_okq q := List.forall_mem_cons.mpr ⟨lw_p64, List.forall_mem_cons.mpr ⟨lw_p65, List.forall_mem_cons.mpr ⟨lw_p66, List.forall_mem_cons.mpr ⟨lw_p67, List.forall_mem_cons.mpr ⟨lw_p68, List.forall_mem_cons.mpr ⟨lw_p69, List.forall_mem_cons.mpr ⟨lw_p70, List.forall_mem_cons.mpr ⟨lw_p71, List.forall_mem_cons.mpr ⟨lw_p72, List.forall_mem_cons.mpr ⟨lw_p73, List.forall_mem_cons.mpr ⟨lw_p74, fun _ h => absurd h List.not_mem_nil⟩⟩⟩⟩⟩⟩⟩⟩⟩⟩⟩
def lw_privs : List (MethodName × Nat) := lw_privs_1 ++ (lw_privs_2 ++ (lw_privs_3 ++ (lw_privs_4 ++ (lw_privs_5))))
def lw_tbl : List Cond := k2_sels lw_privs ++ tables_1
theorem lw_privs_ok : ∀ q ∈ lw_privs, lw_okq q := by
  show ∀ q ∈ lw_privs_1 ++ (lw_privs_2 ++ (lw_privs_3 ++ (lw_privs_4 ++ (lw_privs_5)))), lw_okq q
  exact List.forall_mem_append.mpr ⟨lw_r1, List.forall_mem_append.mpr ⟨lw_r2, List.forall_mem_append.mpr ⟨lw_r3, List.forall_mem_append.mpr ⟨lw_r4, lw_r5⟩⟩⟩⟩
end
section
/-! ===== BEGIN words of one list among another's, by their places ===== -/
theorem goodIn_r {big : List Cond} (ws : List Cond) (ps : List Nat) (hp : ws = ps.filterMap (fun i => big[i]?)) (h : ws.all goodWord = true) : GoodIn big ws := by
  intro w hw
  have h1 := List.all_eq_true.mp h w hw
  rw [hp] at hw
  obtain ⟨i, -, hi⟩ := List.mem_filterMap.mp hw
  have hm : w ∈ big := by first | exact List.mem_of_getElem? hi | exact List.getElem?_mem hi
  exact ⟨hm, good_of_word h1⟩
theorem goodIn_app {big a b : List Cond} (ha : GoodIn big a) (hb : GoodIn big b) : GoodIn big (a ++ b) := fun w h => (List.mem_append.mp h).elim (ha w) (hb w)
theorem goodIn_ca {big a b : List Cond} {c : Cond} (ha : GoodIn big (c :: a)) (hb : GoodIn big b) : GoodIn big (c :: (a ++ b)) := fun w h => (List.mem_cons.mp h).elim (fun e => ha w (List.mem_cons.mpr (Or.inl e))) (fun h => (List.mem_append.mp h).elim (fun h => ha w (List.mem_cons.mpr (Or.inr h))) (hb w))
theorem goodIn_sub {big ws : List Cond} (hm : ∀ w ∈ ws, w ∈ big) (h : ws.all goodWord = true) : GoodIn big ws := fun w hw => ⟨hm w hw, good_of_word (List.all_eq_true.mp h w hw)⟩
/-! ===== END ===== -/
/-! ===== BEGIN exceptions that leave a method, and their catching by the caller (launches without stack traces) ===== -/
section VXA
/-! The laws vx_back, vx_callV, vx_callS, vx_callSW, vx_throw0, vx_throwS follow proofs of the library, with one case more: JvmDerived/Free/Laws.lean (Back.of_free), Shelf42/LK1.lean (callV, callS), Shelf/KitTraced.lean (throwNew0V, throwNewS). -/
/-- where a method has thrown q: the class by its name, the cell, what was written, the world -/
def vx_T (XC : String → State → State → Prop) (st : State) (q : Addr) (t : State) (mc ms : Nat) (free : Addr → Prop) : Prop :=
  ∃ (E : String) (ce : Cell) (L : List Loc), XC E st t ∧ t.heap[q]? = some ce ∧ ce.vm = .none ∧ st.vm.findClass E = some ce.cls ∧ st.WarmedH t.vm ∧ st.sameButNew ({ t with vm := st.vm } : State) L mc ms ∧ ∀ z ∈ L, free z.base
def vx_Q (Qc : Array Value → State → Outcome → State → Prop) (XC : String → State → State → Prop) (mc ms : Nat) (free : Addr → Prop) : Array Value → State → Outcome → State → Prop := fun a st o t =>
  (Qc a st o t ∧ ∃ L, FrameEnd st o t L mc ms ∧ ∀ q ∈ L, free q.base) ∨ ∃ q, o = .threw q ∧ vx_T XC st q t mc ms free
/-- a callee that returns or throws -/
def vx_Met (l : Launch) (y : MethodName) (ws : List Cond) (rm : Room) (Pc : Array Value → State → Prop) (Qc : Array Value → State → Outcome → State → Prop) (XC : String → State → State → Prop) (mc ms : Nat) (free : Addr → Prop) : Prop :=
  MetFree l y (headSpec ws rm) Pc (fun _ _ _ _ _ => True) (vx_Q Qc XC mc ms free)
def vx_Post (XC : String → State → State → Prop) (mc ms : Nat) (free : Addr → Prop) : Pt → Array Value → Addr → Pt → Prop := fun A a q B =>
  ∃ (g : JFrame) (mk : MethodId) (t : State) (L : List Loc) (E : String) (ce : Cell), B.U.heap = t.heap ∧ B.U.vm = t.vm ∧ XC E (A.U.calling g mk a) t ∧ t.heap[q]? = some ce ∧ ce.vm = .none ∧ A.U.vm.findClass E = some ce.cls ∧ B.locs = A.locs ++ L ∧ (∀ z ∈ L, free z.base) ∧ B.cells = A.cells + mc ∧ B.slots = A.slots + ms
def vx_Back (l : Launch) (R : Room) (p : Program) (e : Env) (below : List Frame) (s : State) (sargs : Array Value) (y : MethodName) (len W9 : Nat)
    (Pre : Pt → Array Value → Prop) (Post : Pt → Array Value → Option Value → Pt → Prop) (PostX : Pt → Array Value → Addr → Pt → Prop) : Prop :=
  ∀ (m : MethodId) (meth : Method) (c : Code) (A : Pt) (g : JFrame) (ig : Instr) (mk : MethodId) (a : Array Value),
    Stand p l e R s m sargs below meth c A.U A.locs A.cells A.slots → g.method = m → g.locals.size = c.maxLocals → decode c.code g.pc = .ok (ig, len) →
    2 * g.monitorRoom + (g.stack.map fun v => v.category).sum ≤ W9 → A.U.methodNamed? y = some mk → Pre A a →
    (∃ (v : Option Value) (B : Pt), Stand p l e R s m sargs below meth c B.U B.locs B.cells B.slots ∧ Post A a v B ∧
      Steps p.tables e below (doInvoke e (A.U.setTop g) [] mk a).1 (B.U.setTop { g with pc := g.pc + len, stack := v.toList ++ g.stack })) ∨
    (∃ (q : Addr) (B : Pt), Stand p l e R s m sargs below meth c B.U B.locs B.cells B.slots ∧ PostX A a q B ∧
      Steps p.tables e below (doInvoke e (A.U.setTop g) [] mk a).1 ((B.U.setTop g).pushFrame (.throwing q)))
section Payer
variable {l : Launch} {R : Room} {p : Program} {e : Env} {below : List Frame} {s : State} {sargs : Array Value} {y : MethodName} {len W9 : Nat}
theorem vx_back {ws : List Cond} {rm : Room} {Pc : Array Value → State → Prop} {Qc : Array Value → State → Outcome → State → Prop} {XC : String → State → State → Prop} {mc ms : Nat} {free : Addr → Prop} {bytes : ByteArray} {maxL : Nat} {ret : Option FieldType}
    (hM : vx_Met l y ws rm Pc Qc XC mc ms free) (hblind : FrameBlind Pc) (hrc : rm.cells = mc) (hrs : rm.slots = ms)
    (hframes : rm.frames + 1 ≤ R.frames) (hlocals : W9 + (maxL + 11) + rm.locals ≤ R.locals)
    (hws : ∀ w ∈ ws, ∀ a' U, s.WarmedH U.vm → w.before a' U = true) (hcode : Cond.code y bytes maxL ret ∈ ws) (hinit : ∀ a' U, s.WarmedH U.vm → (Cond.initialized y.cls).before a' U = true) :
    vx_Back l R p e below s sargs y len W9 (PreOf R mc ms Pc) (PostOf Qc mc ms free) (vx_Post XC mc ms free) := by
  intro m meth c A g ig mk a X hg hsize hdg hW hn hp
  have h1 : (headSpec ws rm).pre.before a A.U = true := atoms_intro fun w hw => hws w hw _ _ X.warmed
  have h2 : (Cond.code y bytes maxL ret).before a A.U = true := hws _ hcode _ _ X.warmed
  have h3 : (Cond.initialized y.cls).before a A.U = true := hinit _ _ X.warmed
  have h4 : A.cells + (headSpec ws rm).room.cells ≤ R.cells := by rw [show (headSpec ws rm).room.cells = mc from hrc]; exact hp.1
  have h5 : A.slots + (headSpec ws rm).room.slots ≤ R.slots := by rw [show (headSpec ws rm).room.slots = ms from hrs]; exact hp.2.1
  have hPc : Pc a (A.U.calling g mk a) := hblind _ _ _ _ hp.2.2
  obtain ⟨U, Ls, c0, s0⟩ := A
  dsimp only [Pt.U, Pt.locs, Pt.cells, Pt.slots] at h1 h2 h3 h4 h5 X hn hPc ⊢
  obtain ⟨methY, cY, hmY, hcY, -, hlY, -, -, -, -⟩ := Cond.code_spec hn h2
  obtain ⟨kY, hkY, -⟩ := className_of_methodNamed hn
  have hinitY : kY.init = .initialized := Cond.initialized_spec (findClass_of_methodNamed hn) hkY h3
  have h : At U g.method c below := by rw [hg]; exact X.here
  have hlocals9 : W9 + (maxL + 11) + (headSpec ws rm).room.locals ≤ R.locals := hlocals
  have happ : (headSpec ws rm).appliesLoose y e.platform (U.calling g mk a) = true :=
    Spec.appliesLoose_calling (g := g) h hdg hn hkY hinitY
      (X.room_calling (g := g) (R' := (headSpec ws rm).room) hsize hmY hcY hframes (by rw [hlY]; omega) h4 h5) h1
  obtain ⟨mid, hmid⟩ := h.above
  have hfr : (U.setTop g).frames = (.java g :: mid) ++ below := by rw [State.frames_setTop' g h.top, hmid]; rfl
  obtain ⟨o, s₂, hsteps, -, hend, hq⟩ := Steps.callFree hM p X.admits X.cas X.clock (acts := []) hfr happ hPc trivial
  have hq' : vx_Q Qc XC mc ms free a (U.calling g mk a) o s₂ := hq
  rw [State.frames_setTop' g h.top] at hend
  obtain ⟨g₀, hg0⟩ := Option.isSome_iff_exists.mp h.top
  obtain ⟨r, hr⟩ := State.topJava?_eq_some.mp hg0
  have hr' : (({ U with heap := s₂.heap, slotsUsed := s₂.slotsUsed } : State).setVm s₂.vm).frames = .java g₀ :: r := hr
  rcases hq' with ⟨hqc, L, hfe, hL⟩ | ⟨q, rfl, E, ce, L, hx, hce, hcv, hcl, hW₂, hsm, hL⟩
  · obtain ⟨⟨v, rfl⟩, hW₂, e2, q2, q3, q4, q5, q6⟩ := id hfe
    have e3 : s₂ = ({ (U.calling g mk a).setFrames s₂.frames with heap := s₂.heap, slotsUsed := s₂.slotsUsed } : State).setVm s₂.vm := by
      have : s₂ = ({ s₂ with vm := (U.calling g mk a).vm } : State).setVm s₂.vm := rfl
      rw [e2] at this
      exact this
    obtain ⟨c₂, i₂, len₂, hc₂, hd₂, hf₂⟩ := hend
    have hW' : U.WarmedH s₂.vm := hW₂
    have hcc : c₂ = c := by
      have h1 : s₂.code? g.method = U.code? g.method := by
        rw [State.code?_eq, State.code?_eq, hW'.alike.method?]
      exact Option.some.inj (hc₂.symm.trans (h1.trans h.code))
    subst hcc
    have hlen : len₂ = len := by rw [hdg] at hd₂; cases hd₂; rfl
    subst hlen
    have hs₂ : s₂ = (({ U with heap := s₂.heap, slotsUsed := s₂.slotsUsed } : State).setVm s₂.vm).setTop { g with pc := g.pc + len₂, stack := v.toList ++ g.stack } := by
      refine e3.trans ?_
      rw [hf₂, State.calling_eq h.top, State.setFrames_setFrames, State.setTop_of_frames _ hr', hr]
      rfl
    have hsame : U.sameButNew ({ U with heap := s₂.heap, slotsUsed := s₂.slotsUsed } : State) L mc ms := by
      refine ⟨?_, q2, q3, q4, q5, q6⟩
      obtain ⟨t, ht, -⟩ := State.frames_cons hr
      show ({ U with heap := s₂.heap, slotsUsed := s₂.slotsUsed } : State) = { U.setFrames U.frames with heap := s₂.heap, slotsUsed := s₂.slotsUsed }
      rw [State.setFrames_self ht]
    subst hg
    refine Or.inl ⟨v, ⟨(({ U with heap := s₂.heap, slotsUsed := s₂.slotsUsed } : State).setVm s₂.vm), Ls ++ L, c0 + mc, s0 + ms⟩,
      ⟨X.admits, X.cas, X.clock, X.frames, X.room, X.hears, X.method, X.code, (X.here.setHeapUsed s₂.heap s₂.slotsUsed).setVm hW'.alike, X.tail, State.WarmedH.trans X.warmed hW', X.limits, X.bytes, X.same.trans (hsame.setVm s.vm)⟩,
      ⟨g, mk, s₂, L, rfl, rfl, hqc, rfl, hL, rfl, rfl⟩, ?_⟩
    show Steps p.tables e below _ ((({ U with heap := s₂.heap, slotsUsed := s₂.slotsUsed } : State).setVm s₂.vm).setTop { g with pc := g.pc + len₂, stack := v.toList ++ g.stack })
    rw [← hs₂]
    exact hsteps
  · obtain ⟨e2, q2, q3, q4, q5, q6⟩ := id hsm
    have e3 : s₂ = ({ (U.calling g mk a).setFrames s₂.frames with heap := s₂.heap, slotsUsed := s₂.slotsUsed } : State).setVm s₂.vm := by
      have : s₂ = ({ s₂ with vm := (U.calling g mk a).vm } : State).setVm s₂.vm := rfl
      rw [e2] at this
      exact this
    have hf₂ : s₂.frames = .throwing q :: .java g :: U.frames.tail := hend
    have hW' : U.WarmedH s₂.vm := hW₂
    have hs₂ : s₂ = ((({ U with heap := s₂.heap, slotsUsed := s₂.slotsUsed } : State).setVm s₂.vm).setTop g).pushFrame (.throwing q) := by
      refine e3.trans ?_
      rw [hf₂, State.calling_eq h.top, State.setFrames_setFrames, State.pushFrame, State.frames_setTop _ hr', State.setTop_of_frames _ hr', State.setFrames_setFrames, hr]
      rfl
    have hsame : U.sameButNew ({ U with heap := s₂.heap, slotsUsed := s₂.slotsUsed } : State) L mc ms := by
      refine ⟨?_, q2, q3, q4, q5, q6⟩
      obtain ⟨t, ht, -⟩ := State.frames_cons hr
      show ({ U with heap := s₂.heap, slotsUsed := s₂.slotsUsed } : State) = { U.setFrames U.frames with heap := s₂.heap, slotsUsed := s₂.slotsUsed }
      rw [State.setFrames_self ht]
    subst hg
    refine Or.inr ⟨q, ⟨(({ U with heap := s₂.heap, slotsUsed := s₂.slotsUsed } : State).setVm s₂.vm), Ls ++ L, c0 + mc, s0 + ms⟩,
      ⟨X.admits, X.cas, X.clock, X.frames, X.room, X.hears, X.method, X.code, (X.here.setHeapUsed s₂.heap s₂.slotsUsed).setVm hW'.alike, X.tail, State.WarmedH.trans X.warmed hW', X.limits, X.bytes, X.same.trans (hsame.setVm s.vm)⟩,
      ⟨g, mk, s₂, L, E, ce, rfl, rfl, hx, hce, hcv, hcl, rfl, hL, rfl, rfl⟩, ?_⟩
    show Steps p.tables e below _ (((({ U with heap := s₂.heap, slotsUsed := s₂.slotsUsed } : State).setVm s₂.vm).setTop g).pushFrame (.throwing q))
    rw [← hs₂]
    exact hsteps
end Payer
section Calls
variable {p : Program} {l : Launch} {e : Env} {R : Room} {s : State} {m : MethodId} {args : Array Value} {below : List Frame} {meth : Method} {c : Code} {T : State} {locs : List Loc} {cells slots : Nat}
theorem vx_callV (X : Stand p l e R s m args below meth c T locs cells slots) (hexec : p.tables.exec = Jvm.exec) {own C : String} {index : Nat} {y : MethodName} {bytes : ByteArray} {maxL : Nat} {ret : Option FieldType}
    (hown : s.vm.findClass own = some m.cls) (hlink : (Cond.methodLink own index y).before args s = true) (hinst : (Cond.instanceMethod y).before args s = true) (hsel : (Cond.selects C y y).before args s = true)
    (hcode : (Cond.code y bytes maxL ret).before args s = true) (hy : y.cls ≠ "java/lang/invoke/MethodHandle" ∧ y.cls ≠ "java/lang/invoke/VarHandle")
    {W9 : Nat} {Pre : Pt → Array Value → Prop} {Post : Pt → Array Value → Option Value → Pt → Prop} {PostX : Pt → Array Value → Addr → Pt → Prop} (hK : vx_Back l R p e below s args y 3 W9 Pre Post PostX)
    {b : Addr} {cellB : Cell} (hcell : T.heap[b]? = some cellB) (hobj : cellB.vm.isStatics = false) (hcls : s.vm.findClass C = some cellB.cls)
    {g : JFrame} (hg : g.method = m) (hsize : g.locals.size = c.maxLocals) {argsL rest : List Value} (hlen : ∀ sig, parseMethodDescriptor y.desc = some sig → argsL.length = sig.parameters.length)
    (hstack : g.stack = argsL.reverse ++ .ref b :: rest) (hW : 2 * g.monitorRoom + (rest.map fun v => v.category).sum ≤ W9) (hdg : decode c.code g.pc = .ok (.invokevirtual index, 3))
    (hpre : ∀ vm₁, s.WarmedH vm₁ → Pre ⟨T.setVm vm₁, locs, cells, slots⟩ (Value.ref b :: argsL).toArray) :
    (∃ (v : Option Value) (vm₁ : Vm) (B : Pt), s.WarmedH vm₁ ∧ Stand p l e R s m args below meth c B.U B.locs B.cells B.slots ∧ Post ⟨T.setVm vm₁, locs, cells, slots⟩ (Value.ref b :: argsL).toArray v B ∧
      ∀ target, Steps p.tables e below (B.U.setTop { g with pc := g.pc + 3, stack := v.toList ++ rest }) target → Steps p.tables e below (T.setTop g) target) ∨
    (∃ (q : Addr) (vm₁ : Vm) (B : Pt), s.WarmedH vm₁ ∧ Stand p l e R s m args below meth c B.U B.locs B.cells B.slots ∧ PostX ⟨T.setVm vm₁, locs, cells, slots⟩ (Value.ref b :: argsL).toArray q B ∧
      Steps p.tables e below (T.setTop g) ((B.U.setTop { g with stack := rest }).pushFrame (.throwing q))) := by
  obtain ⟨mk, methM, hnamed, hmethM, hstM, habM⟩ := Cond.instanceMethod_spec hinst
  obtain ⟨methM', cM, hmethM', -, -, -, -, -, -, hsigM⟩ := Cond.code_spec hnamed hcode
  cases hmethM.symm.trans hmethM'
  obtain ⟨c2, r2, m2, q1, q2, q3, q4, kP, hkP, hkPi⟩ := Cond.selects_spec hsel
  cases hcls.symm.trans q1
  cases (State.methodFound?_of_named hnamed hy).symm.trans q2
  cases hnamed.symm.trans q3
  have hselP : selectMethod e.platform s.vm cellB.cls mk = .method mk := by rw [Launch.admits_selectMethod X.admits]; exact q4
  obtain ⟨vm₁, X₁, hstep₁⟩ := X.invokevirtual hexec hown hlink hnamed hmethM hstM hkP hkPi hy (a := b) (cell := cellB) hcell
    (fun z h => by rw [h] at hobj; cases hobj) hselP hmethM habM hkP hkPi (g := g) hg (argsL := argsL) (rest := rest) (hlen _ hsigM) hstack hdg
  rcases hK m meth c ⟨T.setVm vm₁, locs, cells, slots⟩ { g with stack := rest } (.invokevirtual index) mk (Value.ref b :: argsL).toArray X₁ hg hsize hdg hW (X₁.named hnamed) (hpre vm₁ X₁.warmed) with ⟨v, B, X', hpost, hsteps⟩ | ⟨q, B, X', hpost, hsteps⟩
  · exact Or.inl ⟨v, vm₁, B, X₁.warmed, X', hpost, fun target h => hstep₁ _ fun acts => by rw [doInvoke_state]; exact hsteps.trans h⟩
  · exact Or.inr ⟨q, vm₁, B, X₁.warmed, X', hpost, hstep₁ _ fun acts => by rw [doInvoke_state]; exact hsteps⟩
theorem vx_callS (X : Stand p l e R s m args below meth c T locs cells slots) (hexec : p.tables.exec = Jvm.exec) {own : String} {index : Nat} {y : MethodName} {bytes : ByteArray} {maxL : Nat} {ret : Option FieldType}
    (hown : s.vm.findClass own = some m.cls) (hlink : (Cond.methodLink own index y).before args s = true) (hstat : (Cond.static y).before args s = true) (hinit : (Cond.initialized y.cls).before args s = true)
    (hcode : (Cond.code y bytes maxL ret).before args s = true) (hy : y.cls ≠ "java/lang/invoke/MethodHandle" ∧ y.cls ≠ "java/lang/invoke/VarHandle")
    {W9 : Nat} {Pre : Pt → Array Value → Prop} {Post : Pt → Array Value → Option Value → Pt → Prop} {PostX : Pt → Array Value → Addr → Pt → Prop} (hK : vx_Back l R p e below s args y 3 W9 Pre Post PostX)
    {g : JFrame} (hg : g.method = m) (hsize : g.locals.size = c.maxLocals) {argsL rest : List Value} (hlen : ∀ sig, parseMethodDescriptor y.desc = some sig → argsL.length = sig.parameters.length)
    (hstack : g.stack = argsL.reverse ++ rest) (hW : 2 * g.monitorRoom + (rest.map fun v => v.category).sum ≤ W9) (hdg : decode c.code g.pc = .ok (.invokestatic index, 3))
    (hpre : ∀ vm₁, s.WarmedH vm₁ → Pre ⟨T.setVm vm₁, locs, cells, slots⟩ argsL.toArray) :
    (∃ (v : Option Value) (vm₁ : Vm) (B : Pt), s.WarmedH vm₁ ∧ Stand p l e R s m args below meth c B.U B.locs B.cells B.slots ∧ Post ⟨T.setVm vm₁, locs, cells, slots⟩ argsL.toArray v B ∧
      ∀ target, Steps p.tables e below (B.U.setTop { g with pc := g.pc + 3, stack := v.toList ++ rest }) target → Steps p.tables e below (T.setTop g) target) ∨
    (∃ (q : Addr) (vm₁ : Vm) (B : Pt), s.WarmedH vm₁ ∧ Stand p l e R s m args below meth c B.U B.locs B.cells B.slots ∧ PostX ⟨T.setVm vm₁, locs, cells, slots⟩ argsL.toArray q B ∧
      Steps p.tables e below (T.setTop g) ((B.U.setTop { g with stack := rest }).pushFrame (.throwing q))) := by
  obtain ⟨mk, hnamed⟩ := Cond.code_named hcode
  obtain ⟨methM, cM, hmethM, -, -, -, -, -, -, hsigM⟩ := Cond.code_spec hnamed hcode
  have hstatic : methM.isStatic = true := Cond.static_spec hnamed hmethM hstat
  obtain ⟨kP, hkP, -⟩ := className_of_methodNamed hnamed
  have hinitP : kP.init = .initialized := Cond.initialized_spec (findClass_of_methodNamed hnamed) hkP hinit
  obtain ⟨vm₁, X₁, hstep₁⟩ := X.invokestatic hexec hown hlink hnamed hmethM hstatic hkP hinitP hy (g := g) hg (argsL := argsL) (rest := rest) (hlen _ hsigM) hstack hdg
  rcases hK m meth c ⟨T.setVm vm₁, locs, cells, slots⟩ { g with stack := rest } (.invokestatic index) mk argsL.toArray X₁ hg hsize hdg hW (X₁.named hnamed) (hpre vm₁ X₁.warmed) with ⟨v, B, X', hpost, hsteps⟩ | ⟨q, B, X', hpost, hsteps⟩
  · exact Or.inl ⟨v, vm₁, B, X₁.warmed, X', hpost, fun target h => hstep₁ _ fun acts => by rw [doInvoke_state]; exact hsteps.trans h⟩
  · exact Or.inr ⟨q, vm₁, B, X₁.warmed, X', hpost, hstep₁ _ fun acts => by rw [doInvoke_state]; exact hsteps⟩
end Calls
theorem vx_cls {s : State} {T : State} {vm₁ : Vm} {E : String} {k : ClassId} (hW : s.WarmedH vm₁) (h : (T.setVm vm₁).vm.findClass E = some k) : s.vm.findClass E = some k := by
  have h1 : vm₁.findClass E = some k := h
  rw [hW.alike.findClass] at h1
  exact h1
/-- the method's frame g, with q thrown over it -/
def vx_W (p : Program) (l : Launch) (e : Env) (R : Room) (s : State) (m : MethodId) (args : Array Value) (below : List Frame) (meth : Method) (c : Code) (H : Heap) (locs : List Loc) (cells slots : Nat) (Q : State → Prop) (g : JFrame) (q : Addr) : Prop :=
  ∀ T : State, T.heap = H → Stand p l e R s m args below meth c T locs cells slots → ∃ t, Steps p.tables e below ((T.setTop g).pushFrame (.throwing q)) t ∧ Q t
def vx_Run (p : Program) (l : Launch) (e : Env) (R : Room) (s : State) (m : MethodId) (args : Array Value) (below : List Frame) (meth : Method) (c : Code) (H : Heap) (locs : List Loc) (cells slots mc ms : Nat) (g : JFrame) (rest : List Value) (Qa : State → Outcome → State → Prop) (XC : String → State → State → Prop) (free : Addr → Prop) : Prop :=
  ∀ T : State, T.heap = H → Stand p l e R s m args below meth c T locs cells slots →
    (∃ (v : Option Value) (st₀ t T' : State) (L : List Loc), st₀.heap = H ∧ Stand p l e R s m args below meth c T' (locs ++ L) (cells + mc) (slots + ms) ∧ (∀ q ∈ L, free q.base) ∧ T'.heap = t.heap ∧ T'.vm = t.vm ∧ Qa st₀ (.returned v) t ∧
      Goes p e below T g T' { g with pc := g.pc + 3, stack := v.toList ++ rest }) ∨
    (∃ (q : Addr) (st₀ t T' : State) (L : List Loc) (E : String) (ce : Cell), st₀.heap = H ∧ Stand p l e R s m args below meth c T' (locs ++ L) (cells + mc) (slots + ms) ∧ (∀ z ∈ L, free z.base) ∧ T'.heap = t.heap ∧ T'.vm = t.vm ∧ XC E st₀ t ∧ t.heap[q]? = some ce ∧ ce.vm = .none ∧ s.vm.findClass E = some ce.cls ∧
      Steps p.tables e below (T.setTop g) ((T'.setTop { g with stack := rest }).pushFrame (.throwing q)))
def vx_X {S : Type} (px : S → Prop) (B : String → S → State → Prop) (A : Nat → Prop) : String → State → State → Prop := fun E st t => ∃ u : S, px u ∧ B E u t ∧ va_F A st t
section Runs
variable {p : Program} {l : Launch} {e : Env} {R : Room} {s : State} {m : MethodId} {args : Array Value} {below : List Frame} {meth : Method} {c : Code} {H : Heap} {locs : List Loc} {cells slots : Nat}
variable {y : MethodName} {bytes cc : ByteArray} {maxL nL mc ms n index : Nat} {ret : Option FieldType} {ws : List Cond} {rm : Room} {Pc : Array Value → State → Prop} {Qc : Array Value → State → Outcome → State → Prop} {XC : String → State → State → Prop} {free : Addr → Prop} {Ts : List Cond} {own C : String} {b : Addr} {As rest : List Value} {g : JFrame}
theorem vx_callBack (cb : CallB R s args own index y bytes maxL ret ws rm mc ms n) (hM : vx_Met l y ws rm Pc Qc XC mc ms free) (hbl : FrameBlind Pc) : vx_Back l R p e below s args y 3 8 (PreOf R mc ms Pc) (PostOf Qc mc ms free) (vx_Post XC mc ms free) := by
  obtain ⟨hrc, hrs, hfr, hlo, hws, hcw, -, hini, -⟩ := cb
  exact vx_back (bytes := bytes) (maxL := maxL) (ret := ret) hM hbl hrc hrs hfr hlo hws hcw (fun a' U hW => word_at hW (Or.inl (by first | rfl | simp [Cond.onTables, Cond.keeps, Cond.steady])) hini)
theorem vx_runV (S : CallFix p m c cc nL s args Ts own) (hM : vx_Met l y ws rm Pc Qc XC mc ms free) (cw : CallW R s args own C index y bytes maxL ret ws rm mc ms n) (hp : PreV s H C b Pc As)
    (hg : g.method = m) (hn : As.length = n) (hsize : g.locals.size = nL) (hstack : g.stack = As.reverse ++ .ref b :: rest) (hW : 2 * g.monitorRoom + (rest.map fun v => v.category).sum ≤ 8) (hdg : decode cc g.pc = .ok (.invokevirtual index, 3)) (hf : cells + mc ≤ R.cells ∧ slots + ms ≤ R.slots) :
    vx_Run p l e R s m args below meth c H locs cells slots mc ms g rest (Qc (Value.ref b :: As).toArray) XC free := by
  have hK : vx_Back l R p e below s args y 3 8 (PreOf R mc ms Pc) (PostOf Qc mc ms free) (vx_Post XC mc ms free) := vx_callBack cw.1 hM hp.1
  obtain ⟨⟨-, -, -, -, -, -, hcode, -, hy, hlen, hl⟩, hin, hse⟩ := cw
  obtain ⟨hx, hb, hml, ho, -⟩ := S
  obtain ⟨-, ⟨cellB, hcB, hoB, hclB⟩, hPc⟩ := hp
  intro T hT X
  rcases vx_callV X hx (C := C) (bytes := bytes) (maxL := maxL) (ret := ret) ho hl hin hse hcode hy hK (by rw [hT]; exact hcB) hoB hclB hg (hsize.trans hml.symm) (argsL := As) (rest := rest) (fun sig h => hn.trans (hlen sig h)) hstack hW (by rw [hb]; exact hdg)
    (fun vm₁ hW₁ => ⟨hf.1, hf.2, hPc (T.setVm vm₁) hT hW₁⟩) with ⟨v, vm₁, ⟨U', l2, c2, s2⟩, hW₁, X', ⟨g', mk, t, L, e1, e2, hq, h1, hL, h2, h3⟩, st⟩ | ⟨q, vm₁, ⟨U', l2, c2, s2⟩, hW₁, X', ⟨g', mk, t, L, E, ce, e1, e2, hq, hce, hcv, hcl, h1, hL, h2, h3⟩, st⟩
  · dsimp only [Pt.U, Pt.locs, Pt.cells, Pt.slots] at X' e1 e2 h1 h2 h3 st
    subst h1; subst h2; subst h3
    exact Or.inl ⟨v, (T.setVm vm₁).calling g' mk (Value.ref b :: As).toArray, t, U', L, hT, X', hL, e1, e2, hq, st⟩
  · dsimp only [Pt.U, Pt.locs, Pt.cells, Pt.slots] at X' e1 e2 h1 h2 h3 st hcl
    subst h1; subst h2; subst h3
    exact Or.inr ⟨q, (T.setVm vm₁).calling g' mk (Value.ref b :: As).toArray, t, U', L, E, ce, hT, X', hL, e1, e2, hq, hce, hcv, vx_cls hW₁ hcl, st⟩
theorem vx_runS (S : CallFix p m c cc nL s args Ts own) (hM : vx_Met l y ws rm Pc Qc XC mc ms free) (cw : CallB R s args own index y bytes maxL ret ws rm mc ms n ∧ (Cond.static y).before args s = true) (hp : PreS s H Pc As)
    (hg : g.method = m) (hn : As.length = n) (hsize : g.locals.size = nL) (hstack : g.stack = As.reverse ++ rest) (hW : 2 * g.monitorRoom + (rest.map fun v => v.category).sum ≤ 8) (hdg : decode cc g.pc = .ok (.invokestatic index, 3)) (hf : cells + mc ≤ R.cells ∧ slots + ms ≤ R.slots) :
    vx_Run p l e R s m args below meth c H locs cells slots mc ms g rest (Qc As.toArray) XC free := by
  have hK : vx_Back l R p e below s args y 3 8 (PreOf R mc ms Pc) (PostOf Qc mc ms free) (vx_Post XC mc ms free) := vx_callBack cw.1 hM hp.1
  obtain ⟨⟨-, -, -, -, -, -, hcode, hini, hy, hlen, hl⟩, hstt⟩ := cw
  obtain ⟨hx, hb, hml, ho, -⟩ := S
  intro T hT X
  rcases vx_callS X hx (bytes := bytes) (maxL := maxL) (ret := ret) ho hl hstt hini hcode hy hK hg (hsize.trans hml.symm) (argsL := As) (rest := rest) (fun sig h => hn.trans (hlen sig h)) hstack hW (by rw [hb]; exact hdg)
    (fun vm₁ hW₁ => ⟨hf.1, hf.2, hp.2 (T.setVm vm₁) hT hW₁⟩) with ⟨v, vm₁, ⟨U', l2, c2, s2⟩, hW₁, X', ⟨g', mk, t, L, e1, e2, hq, h1, hL, h2, h3⟩, st⟩ | ⟨q, vm₁, ⟨U', l2, c2, s2⟩, hW₁, X', ⟨g', mk, t, L, E, ce, e1, e2, hq, hce, hcv, hcl, h1, hL, h2, h3⟩, st⟩
  · dsimp only [Pt.U, Pt.locs, Pt.cells, Pt.slots] at X' e1 e2 h1 h2 h3 st
    subst h1; subst h2; subst h3
    exact Or.inl ⟨v, (T.setVm vm₁).calling g' mk As.toArray, t, U', L, hT, X', hL, e1, e2, hq, st⟩
  · dsimp only [Pt.U, Pt.locs, Pt.cells, Pt.slots] at X' e1 e2 h1 h2 h3 st hcl
    subst h1; subst h2; subst h3
    exact Or.inr ⟨q, (T.setVm vm₁).calling g' mk As.toArray, t, U', L, E, ce, hT, X', hL, e1, e2, hq, hce, hcv, vx_cls hW₁ hcl, st⟩
end Runs
section Rows
variable {p : Program} {l : Launch} {e : Env} {R : Room} {s : State} {m : MethodId} {args : Array Value} {below : List Frame} {meth : Method} {c : Code} {H : Heap} {locs : List Loc} {cells slots : Nat} {Q : State → Prop}
variable {mc ms : Nat} {free : Addr → Prop} {A0 A1 : Nat → Prop} {H0 : Heap} {a : Array Value} {pc : Nat} {ls : Array Slot} {st0 rest : List Value}
theorem vx_keep {st₀ t T' : State} {L : List Loc} (h0 : st₀.heap = H) (e1 : T'.heap = t.heap) (hS : va_S A0 H0 H locs) (hA : ∀ q, q < H.size → A1 q → A0 q) (hf : ∀ q, free q → A0 q) (hL : ∀ q ∈ L, free q.base) (hF : va_F A1 st₀ t) :
    H.size ≤ T'.heap.size ∧ (∀ q : Nat, q < H.size → ¬ A1 q → T'.heap[q]? = H[q]?) ∧ va_S A0 H0 T'.heap (locs ++ L) := by
  obtain ⟨hz, hk⟩ := hF
  rw [h0] at hz hk
  exact ⟨by rw [e1]; exact hz, fun q h1 h2 => by rw [e1]; exact hk q h1 h2,
    ⟨Nat.le_trans hS.1 (by rw [e1]; exact hz), fun q h1 h2 => by rw [e1, hk q (Nat.lt_of_lt_of_le h1 hS.1) (fun z => h2 (hA q (Nat.lt_of_lt_of_le h1 hS.1) z))]; exact hS.2.1 q h1 h2, fun q hq => by
      rcases List.mem_append.mp hq with h | h
      · exact hS.2.2 q h
      · exact hf _ (hL q h)⟩⟩
theorem vx_calli {S SX : Type} {post : Int32 → S → Prop} {px : SX → Prop} {B : S → State → Prop} {BX : String → SX → State → Prop} {AX : Nat → Prop} (hr : vx_Run p l e R s m args below meth c H locs cells slots mc ms (F0 m pc ls st0) rest (va_Qi post B A1 a) (vx_X px BX AX) free) (hS : va_S A0 H0 H locs) (hA : ∀ q, q < H.size → A1 q → A0 q) (hf : ∀ q, free q → A0 q) (hAX : ∀ q, q < H.size → AX q → A0 q)
    (kx : ∀ (E : String) (ce : Cell) (q9 : Addr) (u : SX) (t : State) (H1 : Heap) (locs1 : List Loc), t.heap = H1 → s.vm.Alike t.vm → px u → BX E u t → H.size ≤ H1.size → (∀ q : Nat, q < H.size → ¬ AX q → H1[q]? = H[q]?) → va_S A0 H0 H1 locs1 → H1[q9]? = some ce → ce.vm = .none → s.vm.findClass E = some ce.cls → vx_W p l e R s m args below meth c H1 locs1 (cells + mc) (slots + ms) Q (F0 m pc ls rest) q9)
    (kk : ∀ (r : Int32) (u : S) (t : State) (H1 : Heap) (locs1 : List Loc), t.heap = H1 → s.vm.Alike t.vm → post r u → B u t → H.size ≤ H1.size → (∀ q : Nat, q < H.size → ¬ A1 q → H1[q]? = H[q]?) → va_S A0 H0 H1 locs1 → W p l e R s m args below meth c H1 locs1 (cells + mc) (slots + ms) Q (F0 m (pc + 3) ls (.int r :: rest))) : W p l e R s m args below meth c H locs cells slots Q (F0 m pc ls st0) := by
  intro T hT X
  rcases hr T hT X with ⟨v, st₀, t, T', L, h0, X', hL, e1, e2, ⟨⟨r, u, hv, hp, hb⟩, hF⟩, st⟩ | ⟨q, st₀, t, T', L, E, ce, h0, X', hL, e1, e2, ⟨u, hp, hb, hF⟩, hce, hcv, hcl, st⟩
  · cases hv
    obtain ⟨k1, k2, k3⟩ := vx_keep h0 e1 hS hA hf hL hF
    obtain ⟨t2, a1, b1⟩ := kk r u t T'.heap (locs ++ L) e1.symm (by rw [← e2]; exact X'.warmed.alike) hp hb k1 k2 k3 T' rfl X'
    exact ⟨t2, st t2 a1, b1⟩
  · obtain ⟨k1, k2, k3⟩ := vx_keep h0 e1 hS hAX hf hL hF
    obtain ⟨t2, a1, b1⟩ := kx E ce q u t T'.heap (locs ++ L) e1.symm (by rw [← e2]; exact X'.warmed.alike) hp hb k1 k2 k3 (by rw [e1]; exact hce) hcv hcl T' rfl X'
    exact ⟨t2, st.trans a1, b1⟩
theorem vx_calll {S SX : Type} {post : Int64 → S → Prop} {px : SX → Prop} {B : S → State → Prop} {BX : String → SX → State → Prop} {AX : Nat → Prop} (hr : vx_Run p l e R s m args below meth c H locs cells slots mc ms (F0 m pc ls st0) rest (va_Ql post B A1 a) (vx_X px BX AX) free) (hS : va_S A0 H0 H locs) (hA : ∀ q, q < H.size → A1 q → A0 q) (hf : ∀ q, free q → A0 q) (hAX : ∀ q, q < H.size → AX q → A0 q)
    (kx : ∀ (E : String) (ce : Cell) (q9 : Addr) (u : SX) (t : State) (H1 : Heap) (locs1 : List Loc), t.heap = H1 → s.vm.Alike t.vm → px u → BX E u t → H.size ≤ H1.size → (∀ q : Nat, q < H.size → ¬ AX q → H1[q]? = H[q]?) → va_S A0 H0 H1 locs1 → H1[q9]? = some ce → ce.vm = .none → s.vm.findClass E = some ce.cls → vx_W p l e R s m args below meth c H1 locs1 (cells + mc) (slots + ms) Q (F0 m pc ls rest) q9)
    (kk : ∀ (r : Int64) (u : S) (t : State) (H1 : Heap) (locs1 : List Loc), t.heap = H1 → s.vm.Alike t.vm → post r u → B u t → H.size ≤ H1.size → (∀ q : Nat, q < H.size → ¬ A1 q → H1[q]? = H[q]?) → va_S A0 H0 H1 locs1 → W p l e R s m args below meth c H1 locs1 (cells + mc) (slots + ms) Q (F0 m (pc + 3) ls (.long r :: rest))) : W p l e R s m args below meth c H locs cells slots Q (F0 m pc ls st0) := by
  intro T hT X
  rcases hr T hT X with ⟨v, st₀, t, T', L, h0, X', hL, e1, e2, ⟨⟨r, u, hv, hp, hb⟩, hF⟩, st⟩ | ⟨q, st₀, t, T', L, E, ce, h0, X', hL, e1, e2, ⟨u, hp, hb, hF⟩, hce, hcv, hcl, st⟩
  · cases hv
    obtain ⟨k1, k2, k3⟩ := vx_keep h0 e1 hS hA hf hL hF
    obtain ⟨t2, a1, b1⟩ := kk r u t T'.heap (locs ++ L) e1.symm (by rw [← e2]; exact X'.warmed.alike) hp hb k1 k2 k3 T' rfl X'
    exact ⟨t2, st t2 a1, b1⟩
  · obtain ⟨k1, k2, k3⟩ := vx_keep h0 e1 hS hAX hf hL hF
    obtain ⟨t2, a1, b1⟩ := kx E ce q u t T'.heap (locs ++ L) e1.symm (by rw [← e2]; exact X'.warmed.alike) hp hb k1 k2 k3 (by rw [e1]; exact hce) hcv hcl T' rfl X'
    exact ⟨t2, st.trans a1, b1⟩
theorem vx_callf {S SX : Type} {post : UInt32 → S → Prop} {px : SX → Prop} {B : S → State → Prop} {BX : String → SX → State → Prop} {AX : Nat → Prop} (hr : vx_Run p l e R s m args below meth c H locs cells slots mc ms (F0 m pc ls st0) rest (va_Qf post B A1 a) (vx_X px BX AX) free) (hS : va_S A0 H0 H locs) (hA : ∀ q, q < H.size → A1 q → A0 q) (hf : ∀ q, free q → A0 q) (hAX : ∀ q, q < H.size → AX q → A0 q)
    (kx : ∀ (E : String) (ce : Cell) (q9 : Addr) (u : SX) (t : State) (H1 : Heap) (locs1 : List Loc), t.heap = H1 → s.vm.Alike t.vm → px u → BX E u t → H.size ≤ H1.size → (∀ q : Nat, q < H.size → ¬ AX q → H1[q]? = H[q]?) → va_S A0 H0 H1 locs1 → H1[q9]? = some ce → ce.vm = .none → s.vm.findClass E = some ce.cls → vx_W p l e R s m args below meth c H1 locs1 (cells + mc) (slots + ms) Q (F0 m pc ls rest) q9)
    (kk : ∀ (r : UInt32) (u : S) (t : State) (H1 : Heap) (locs1 : List Loc), t.heap = H1 → s.vm.Alike t.vm → post r u → B u t → H.size ≤ H1.size → (∀ q : Nat, q < H.size → ¬ A1 q → H1[q]? = H[q]?) → va_S A0 H0 H1 locs1 → W p l e R s m args below meth c H1 locs1 (cells + mc) (slots + ms) Q (F0 m (pc + 3) ls (.float r :: rest))) : W p l e R s m args below meth c H locs cells slots Q (F0 m pc ls st0) := by
  intro T hT X
  rcases hr T hT X with ⟨v, st₀, t, T', L, h0, X', hL, e1, e2, ⟨⟨r, u, hv, hp, hb⟩, hF⟩, st⟩ | ⟨q, st₀, t, T', L, E, ce, h0, X', hL, e1, e2, ⟨u, hp, hb, hF⟩, hce, hcv, hcl, st⟩
  · cases hv
    obtain ⟨k1, k2, k3⟩ := vx_keep h0 e1 hS hA hf hL hF
    obtain ⟨t2, a1, b1⟩ := kk r u t T'.heap (locs ++ L) e1.symm (by rw [← e2]; exact X'.warmed.alike) hp hb k1 k2 k3 T' rfl X'
    exact ⟨t2, st t2 a1, b1⟩
  · obtain ⟨k1, k2, k3⟩ := vx_keep h0 e1 hS hAX hf hL hF
    obtain ⟨t2, a1, b1⟩ := kx E ce q u t T'.heap (locs ++ L) e1.symm (by rw [← e2]; exact X'.warmed.alike) hp hb k1 k2 k3 (by rw [e1]; exact hce) hcv hcl T' rfl X'
    exact ⟨t2, st.trans a1, b1⟩
theorem vx_calld {S SX : Type} {post : UInt64 → S → Prop} {px : SX → Prop} {B : S → State → Prop} {BX : String → SX → State → Prop} {AX : Nat → Prop} (hr : vx_Run p l e R s m args below meth c H locs cells slots mc ms (F0 m pc ls st0) rest (va_Qd post B A1 a) (vx_X px BX AX) free) (hS : va_S A0 H0 H locs) (hA : ∀ q, q < H.size → A1 q → A0 q) (hf : ∀ q, free q → A0 q) (hAX : ∀ q, q < H.size → AX q → A0 q)
    (kx : ∀ (E : String) (ce : Cell) (q9 : Addr) (u : SX) (t : State) (H1 : Heap) (locs1 : List Loc), t.heap = H1 → s.vm.Alike t.vm → px u → BX E u t → H.size ≤ H1.size → (∀ q : Nat, q < H.size → ¬ AX q → H1[q]? = H[q]?) → va_S A0 H0 H1 locs1 → H1[q9]? = some ce → ce.vm = .none → s.vm.findClass E = some ce.cls → vx_W p l e R s m args below meth c H1 locs1 (cells + mc) (slots + ms) Q (F0 m pc ls rest) q9)
    (kk : ∀ (r : UInt64) (u : S) (t : State) (H1 : Heap) (locs1 : List Loc), t.heap = H1 → s.vm.Alike t.vm → post r u → B u t → H.size ≤ H1.size → (∀ q : Nat, q < H.size → ¬ A1 q → H1[q]? = H[q]?) → va_S A0 H0 H1 locs1 → W p l e R s m args below meth c H1 locs1 (cells + mc) (slots + ms) Q (F0 m (pc + 3) ls (.double r :: rest))) : W p l e R s m args below meth c H locs cells slots Q (F0 m pc ls st0) := by
  intro T hT X
  rcases hr T hT X with ⟨v, st₀, t, T', L, h0, X', hL, e1, e2, ⟨⟨r, u, hv, hp, hb⟩, hF⟩, st⟩ | ⟨q, st₀, t, T', L, E, ce, h0, X', hL, e1, e2, ⟨u, hp, hb, hF⟩, hce, hcv, hcl, st⟩
  · cases hv
    obtain ⟨k1, k2, k3⟩ := vx_keep h0 e1 hS hA hf hL hF
    obtain ⟨t2, a1, b1⟩ := kk r u t T'.heap (locs ++ L) e1.symm (by rw [← e2]; exact X'.warmed.alike) hp hb k1 k2 k3 T' rfl X'
    exact ⟨t2, st t2 a1, b1⟩
  · obtain ⟨k1, k2, k3⟩ := vx_keep h0 e1 hS hAX hf hL hF
    obtain ⟨t2, a1, b1⟩ := kx E ce q u t T'.heap (locs ++ L) e1.symm (by rw [← e2]; exact X'.warmed.alike) hp hb k1 k2 k3 (by rw [e1]; exact hce) hcv hcl T' rfl X'
    exact ⟨t2, st.trans a1, b1⟩
theorem vx_callv {S SX : Type} {post : S → Prop} {px : SX → Prop} {B : S → State → Prop} {BX : String → SX → State → Prop} {AX : Nat → Prop} (hr : vx_Run p l e R s m args below meth c H locs cells slots mc ms (F0 m pc ls st0) rest (va_Qv post B A1 a) (vx_X px BX AX) free) (hS : va_S A0 H0 H locs) (hA : ∀ q, q < H.size → A1 q → A0 q) (hf : ∀ q, free q → A0 q) (hAX : ∀ q, q < H.size → AX q → A0 q)
    (kx : ∀ (E : String) (ce : Cell) (q9 : Addr) (u : SX) (t : State) (H1 : Heap) (locs1 : List Loc), t.heap = H1 → s.vm.Alike t.vm → px u → BX E u t → H.size ≤ H1.size → (∀ q : Nat, q < H.size → ¬ AX q → H1[q]? = H[q]?) → va_S A0 H0 H1 locs1 → H1[q9]? = some ce → ce.vm = .none → s.vm.findClass E = some ce.cls → vx_W p l e R s m args below meth c H1 locs1 (cells + mc) (slots + ms) Q (F0 m pc ls rest) q9)
    (kk : ∀ (u : S) (t : State) (H1 : Heap) (locs1 : List Loc), t.heap = H1 → s.vm.Alike t.vm → post u → B u t → H.size ≤ H1.size → (∀ q : Nat, q < H.size → ¬ A1 q → H1[q]? = H[q]?) → va_S A0 H0 H1 locs1 → W p l e R s m args below meth c H1 locs1 (cells + mc) (slots + ms) Q (F0 m (pc + 3) ls (rest))) : W p l e R s m args below meth c H locs cells slots Q (F0 m pc ls st0) := by
  intro T hT X
  rcases hr T hT X with ⟨v, st₀, t, T', L, h0, X', hL, e1, e2, ⟨⟨u, hv, hp, hb⟩, hF⟩, st⟩ | ⟨q, st₀, t, T', L, E, ce, h0, X', hL, e1, e2, ⟨u, hp, hb, hF⟩, hce, hcv, hcl, st⟩
  · cases hv
    obtain ⟨k1, k2, k3⟩ := vx_keep h0 e1 hS hA hf hL hF
    obtain ⟨t2, a1, b1⟩ := kk u t T'.heap (locs ++ L) e1.symm (by rw [← e2]; exact X'.warmed.alike) hp hb k1 k2 k3 T' rfl X'
    exact ⟨t2, st t2 a1, b1⟩
  · obtain ⟨k1, k2, k3⟩ := vx_keep h0 e1 hS hAX hf hL hF
    obtain ⟨t2, a1, b1⟩ := kx E ce q u t T'.heap (locs ++ L) e1.symm (by rw [← e2]; exact X'.warmed.alike) hp hb k1 k2 k3 (by rw [e1]; exact hce) hcv hcl T' rfl X'
    exact ⟨t2, st.trans a1, b1⟩
/-- caught by the row x of this method's table; the rows ahead don't take it -/
theorem vx_catch {own name : String} {E : String} {ce : Cell} {q : Addr} (hown : s.vm.findClass own = some m.cls) (pre : List ExceptionTableEntry) (x : ExceptionTableEntry) (suf : List ExceptionTableEntry) (hsplit : c.exceptionTable.toList = pre ++ x :: suf)
    (hpass : ∀ z ∈ pre, covers z pc = false ∨ (z.catchType ≠ 0 ∧ ∃ nm : String, (Cond.classLink own z.catchType nm).before args s = true ∧ va_Nc E nm s)) (hx : covers x pc = true) (h0 : x.catchType ≠ 0)
    (hlink : (Cond.classLink own x.catchType name).before args s = true) (hcast : (Cond.castable E name).before args s = true) (hcell : H[q]? = some ce) (hv : ce.vm = .none) (hcl : s.vm.findClass E = some ce.cls)
    (kk : W p l e R s m args below meth c H locs cells slots Q (F0 m x.handlerPc ls [.ref q])) : vx_W p l e R s m args below meth c H locs cells slots Q (F0 m pc ls rest) q := by
  intro T hT X
  have hpl : e.platform.magicAccessors = ({} : Platform).magicAccessors := by rw [X.admits.platform]
  obtain ⟨c3, c4, hc3, hc4, hasg⟩ := Cond.castable_spec hcast
  cases Option.some.inj (hc3.symm.trans hcl)
  obtain ⟨c5, hc5, hcl5⟩ := Cond.classLink_spec hown hlink e.platform hpl
  cases Option.some.inj (hc4.symm.trans hc5)
  obtain ⟨vm', X', st⟩ := X.thenCaughtThrough q (g := F0 m pc ls rest) rfl (Steps.refl _) (by rw [hT]; exact hcell) (by rw [hv]; rfl) (by obtain ⟨k9, h9, -⟩ := Vm.findClass_spec hcl; exact ⟨k9, h9⟩) pre x suf hsplit
    (fun z hz => by
      rcases hpass z hz with h | ⟨hz0, nm, hl1, hn1⟩
      · exact Or.inl h
      · obtain ⟨c6, hc6, hcl6⟩ := Cond.classLink_spec hown hl1 e.platform hpl
        obtain ⟨a8, b8, h1, h2, h3⟩ := hn1
        cases Option.some.inj (h1.symm.trans hcl)
        cases Option.some.inj (h2.symm.trans hc6)
        exact Or.inr ⟨hz0, _, hcl6, h3⟩) hx (Or.inr ⟨h0, c4, hcl5, hasg⟩)
  obtain ⟨t, a1, b1⟩ := kk (T.setVm vm') hT X'
  exact ⟨t, st.trans a1, b1⟩
end Rows
section Ends
variable {p : Program} {l : Launch} {e : Env} {R : Room} {s : State} {m : MethodId} {args : Array Value} {below : List Frame} {meth : Method} {c : Code} {H : Heap} {locs : List Loc} {cells slots : Nat} {Q : State → Prop}
variable {mc ms : Nat} {free : Addr → Prop} {A0 A1 : Nat → Prop} {H0 : Heap} {a : Array Value} {ls : Array Slot} {st0 rest : List Value}
variable {Qc : Array Value → State → Outcome → State → Prop} {XC : String → State → State → Prop}
/-- what a body that may throw owes at its end -/
def vx_MQ (below : List Frame) (Qc : Array Value → State → Outcome → State → Prop) (XC : String → State → State → Prop) (a : Array Value) (s : State) (mc ms : Nat) (free : Addr → Prop) : State → Prop := fun t =>
  ∃ o, t.status = .running ∧ Ended t below o ∧ vx_Q Qc XC mc ms free a s o t
theorem vx_ret {g : JFrame} {mc ms : Nat} (k : W p l e R s m args below meth c H locs cells slots (MQ below Qc args s mc ms free) g) : W p l e R s m args below meth c H locs cells slots (vx_MQ below Qc XC args s mc ms free) g := by
  intro T hT X
  obtain ⟨t, a1, o, b1, b2, b3, b4⟩ := k T hT X
  exact ⟨t, a1, o, b1, b2, Or.inl ⟨b3, b4⟩⟩
/-- not caught here: it goes on to the caller -/
theorem vx_widen {g : JFrame} {q : Addr} {k n : Nat} (h1 : cells ≤ k) (h2 : slots ≤ n) (kk : vx_W p l e R s m args below meth c H locs k n Q g q) : vx_W p l e R s m args below meth c H locs cells slots Q g q := fun T hT X => kk T hT (stand_widen X h1 h2)
theorem vx_out {pc : Nat} {E : String} {ce : Cell} {q : Addr} {mc ms : Nat} (hout : ∀ x ∈ c.exceptionTable.toList, covers x pc = false) (hlocks : meth.locks = false) (hcell : H[q]? = some ce) (hv : ce.vm = .none) (hcl : s.vm.findClass E = some ce.cls)
    (hx : ∀ t : State, t.heap = H → s.vm.Alike t.vm → XC E s t) (hf : ∀ z ∈ locs, free z.base) (hc : cells ≤ mc) (hs : slots ≤ ms) :
    vx_W p l e R s m args below meth c H locs cells slots (vx_MQ below Qc XC args s mc ms free) (F0 m pc ls rest) q := by
  intro T hT X
  obtain ⟨st1, hrun, hend, hW, hsm⟩ := X.leaveThrown q (g := F0 m pc ls rest) rfl rfl rfl hout hlocks
  have hcell9 : (T.setFrames (.throwing q :: below)).heap[q]? = some ce := by
    show T.heap[q]? = some ce
    rw [hT]; exact hcell
  exact ⟨_, st1, .threw q, hrun, hend, Or.inr ⟨q, rfl, E, ce, locs, hx _ hT hW.alike, hcell9, hv, hcl, hW, hsm.mono hc hs, hf⟩⟩
theorem vx_frame {U : State} {k n : Nat} (h : s.sameButNew ({ U with vm := s.vm } : State) locs k n) : s.heap.size ≤ U.heap.size ∧ ∀ q : Nat, q < s.heap.size → (∀ z ∈ locs, z.base ≠ q) → U.heap[q]? = s.heap[q]? := by
  obtain ⟨-, h2, -, -, -, h6⟩ := h
  refine ⟨h2, fun q hq hz => ?_⟩
  obtain ⟨c9, e1, e2, e3, e4⟩ := h6 q _ (Array.getElem?_eq_getElem hq)
  have hs : c9.slots = (s.heap[q]).slots := Array.ext_getElem? fun i => e4 i fun hm => hz _ hm rfl
  have h9 : c9 = s.heap[q] := by
    rw [hs] at e2
    exact e2
  have e5 : U.heap[q]? = some c9 := e1
  rw [e5, h9, Array.getElem?_eq_getElem hq]
/-- the words of a throw but the four that speak of the heap -/
def vx_no (w : Cond) : Bool := decide (w ≠ .isRef (.static Bundle.tN "UNASSIGNED_STACK" Bundle.steD)) && decide (w ≠ .isRef (.static Bundle.tN "SUPPRESSED_SENTINEL" Bundle.listD)) && decide (w ≠ .laysStatic Bundle.tN "UNASSIGNED_STACK" Bundle.steD) && decide (w ≠ .laysStatic Bundle.tN "SUPPRESSED_SENTINEL" Bundle.listD)
def vx_at0 (own : String) (ic : Nat) (X : String) (names : List String) : List Cond := (Bundle.ownAtoms0 own ic X names).filter vx_no
def vx_atS (own : String) (ic : Nat) (X : String) (names : List String) : List Cond := (Bundle.ownAtoms own ic X names).filter vx_no
/-- a word that the tables alone decide, or a good one -/
def vx_ot (w : Cond) : Bool := w.onTables || goodWord w
theorem vx_ot_at {args a' : Array Value} {s U : State} {w : Cond} (hW : s.WarmedH U.vm) (hvm : s.vm = U.vm) (hg : vx_ot w = true) (h : w.before args s = true) : w.before a' U = true := by
  simp only [vx_ot, Bool.or_eq_true] at hg
  rcases hg with hg | hg
  · exact va_tabs hg hvm h
  · exact word_at hW (good_of_word hg) h
/-- a list's words: the good ones out of the method's own list, the others by premises of their own -/
theorem vx_hat {args : Array Value} {s : State} {L B : List Cond} (h1 : ∀ w ∈ L.filter goodWord, w.before args s = true) (h2 : ∀ w ∈ L.filter (fun w => !goodWord w), w ∈ B) (h3 : ∀ w ∈ B, w.before args s = true) : ∀ w ∈ L, w.before args s = true := by
  intro w hw
  by_cases g : goodWord w = true
  · exact h1 w (List.mem_filter.mpr ⟨hw, g⟩)
  · refine h3 w (h2 w (List.mem_filter.mpr ⟨hw, ?_⟩))
    show (!goodWord w) = true
    cases hgw : goodWord w
    · rfl
    · exact absurd hgw g
theorem vx_c {args : Array Value} {s : State} {w : Cond} {B : List Cond} (h : w.before args s = true) (t : ∀ w ∈ B, w.before args s = true) : ∀ w' ∈ w :: B, w'.before args s = true := fun w' h' => (List.mem_cons.mp h').elim (fun e => by rw [e]; exact h) (t w')
theorem vx_n {args : Array Value} {s : State} : ∀ w ∈ ([] : List Cond), w.before args s = true := fun _ h => nomatch h
theorem vx_own {args : Array Value} {s : State} {L : List Cond} (h1 : ∀ w ∈ L.filter vx_no, w.before args s = true)
    (hU : (Cond.isRef (.static Bundle.tN "UNASSIGNED_STACK" Bundle.steD)).before args s = true) (hN : (Cond.isRef (.static Bundle.tN "SUPPRESSED_SENTINEL" Bundle.listD)).before args s = true)
    (lU : (Cond.laysStatic Bundle.tN "UNASSIGNED_STACK" Bundle.steD).before args s = true) (lN : (Cond.laysStatic Bundle.tN "SUPPRESSED_SENTINEL" Bundle.listD).before args s = true) : ∀ w ∈ L, w.before args s = true := by
  intro w hw
  by_cases e1 : w = .isRef (.static Bundle.tN "UNASSIGNED_STACK" Bundle.steD)
  · rw [e1]; exact hU
  · by_cases e2 : w = .isRef (.static Bundle.tN "SUPPRESSED_SENTINEL" Bundle.listD)
    · rw [e2]; exact hN
    · by_cases e3 : w = .laysStatic Bundle.tN "UNASSIGNED_STACK" Bundle.steD
      · rw [e3]; exact lU
      · by_cases e4 : w = .laysStatic Bundle.tN "SUPPRESSED_SENTINEL" Bundle.listD
        · rw [e4]; exact lN
        · exact h1 w (List.mem_filter.mpr ⟨hw, by unfold vx_no; rw [decide_eq_true e1, decide_eq_true e2, decide_eq_true e3, decide_eq_true e4]; rfl⟩)
/-- where a static field lies, its class's statics cell in H -/
def vx_L (C n d : String) (A : Nat → Prop) (U : State) (H : Heap) : Prop := ∃ (c : ClassId) (k : Class) (i : Nat) (f : Field) (a : Nat) (cell : Cell), U.vm.findClass C = some c ∧ U.fieldFound? C n d = some (c, k, i, f) ∧ f.isStatic = true ∧ k.statics = some a ∧ H[a]? = some cell ∧ cell.vm.isStatics = true ∧ cell.cls = c ∧ f.slot < cell.slots.size ∧ k.staticTypes[f.slot]? = some f.type ∧ ¬ A a
theorem vx_L.moved {C n d : String} {A : Nat → Prop} {u U : State} {H : Heap} (hvm : u.vm.Alike U.vm) (h : vx_L C n d A u H) : vx_L C n d A U H := by
  obtain ⟨c, k, i, f, a, cell, h1, h2, h3, h4, h5, h6, h7, h8, h9, h10⟩ := h
  obtain ⟨k', hi', he⟩ := State.fieldFound?_setVm hvm h2
  exact ⟨c, k', i, f, a, cell, by rw [hvm.findClass]; exact h1, hi', h3, by rw [he]; exact h4, h5, h6, h7, h8, by rw [he]; exact h9, h10⟩
theorem vx_L.kept {C n d : String} {A : Nat → Prop} {U : State} {H H1 : Heap} (h : vx_L C n d A U H) (hq : ∀ a : Nat, a < H.size → ¬ A a → H1[a]? = H[a]?) : vx_L C n d A U H1 := by
  obtain ⟨c, k, i, f, a, cell, h1, h2, h3, h4, h5, h6, h7, h8, h9, h10⟩ := h
  exact ⟨c, k, i, f, a, cell, h1, h2, h3, h4, by rw [hq a (Array.getElem?_eq_some_iff.mp h5).1 h10]; exact h5, h6, h7, h8, h9, h10⟩
theorem vx_L.narrow {C n d : String} {A B : Nat → Prop} {U : State} {H : Heap} (h : vx_L C n d A U H) (hAB : ∀ q, B q → A q) : vx_L C n d B U H := by
  obtain ⟨c, k, i, f, a, cell, h1, h2, h3, h4, h5, h6, h7, h8, h9, h10⟩ := h
  exact ⟨c, k, i, f, a, cell, h1, h2, h3, h4, h5, h6, h7, h8, h9, fun z => h10 (hAB _ z)⟩
theorem vx_L.word {C n d : String} {A : Nat → Prop} {s : State} {args : Array Value} (h : vx_L C n d A s s.heap) : (Cond.laysStatic C n d).before args s = true := by
  obtain ⟨c, k, i, f, a, cell, h1, h2, h3, h4, h5, h6, h7, h8, h9, -⟩ := h
  show (Cond.laysStatic C n d).holds args s none s [] = true
  exact Cond.laysStatic_of h1 h2 h3 h4 h5 h6 h7 h8 h9
/-- .. and what it holds: null or some reference -/
def vx_Zq (C n d : String) (A : Nat → Prop) (U : State) (H : Heap) : Prop := va_Zq C n d A U H ∧ vx_L C n d A U H
theorem vx_Zq.moved {C n d : String} {A : Nat → Prop} {u U : State} {H : Heap} (hvm : u.vm.Alike U.vm) (h : vx_Zq C n d A u H) : vx_Zq C n d A U H := ⟨va_Zq.moved hvm h.1, vx_L.moved hvm h.2⟩
theorem vx_Zq.kept {C n d : String} {A : Nat → Prop} {U : State} {H H1 : Heap} (h : vx_Zq C n d A U H) (hq : ∀ a : Nat, a < H.size → ¬ A a → H1[a]? = H[a]?) : vx_Zq C n d A U H1 := ⟨va_Zq.kept h.1 hq, vx_L.kept h.2 hq⟩
theorem vx_Zq.narrow {C n d : String} {A B : Nat → Prop} {U : State} {H : Heap} (h : vx_Zq C n d A U H) (hAB : ∀ q, B q → A q) : vx_Zq C n d B U H := ⟨va_Zq.narrow h.1 hAB, vx_L.narrow h.2 hAB⟩
theorem vx_Zqof {args : Array Value} {s : State} {C n d : String} {A : Nat → Prop} (hl : (Cond.laysStatic C n d).before args s = true) (hini : (Cond.initialized C).before args s = true) (h : (Cond.isRef (.static C n d)).before args s = true) (hA : ∀ a : Nat, a < s.heap.size → ¬ A a) : vx_Zq C n d A s s.heap := by
  refine ⟨va_Zqof hl hini h hA, ?_⟩
  obtain ⟨c, k, i, f, a, cell, h1, h2, h3, h4, h5, h6, h7, h8, h9⟩ := Cond.laysStatic_spec hl
  exact ⟨c, k, i, f, a, cell, h1, h2, h3, h4, h5, h6, h7, h8, h9, hA a (Array.getElem?_eq_some_iff.mp h5).1⟩
theorem vx_isRef {C n d : String} {v : Value} {A : Nat → Prop} {s : State} {args : Array Value} (h : va_Z C n d v A s s.heap) (hv : v.isRef = true) : (Cond.isRef (.static C n d)).before args s = true := by
  obtain ⟨cf, kf, fi, f, a, cell, h1, h2, h3, h4, h5, h6, h7, -⟩ := h
  have he : (Term.static C n d).eval args s none [] s = some v := by
    simp [Term.eval, State.fieldNamed?, h1, h2, h4, h5, h6, h7]
  simp only [Cond.before, Cond.holds, Cond.value, he]
  cases v <;> simp_all [Value.isRef]
theorem vx_isRefq {C n d : String} {A : Nat → Prop} {s : State} {args : Array Value} (h : va_Zq C n d A s s.heap) : (Cond.isRef (.static C n d)).before args s = true := by
  rcases h with h | ⟨t, h⟩
  · exact vx_isRef h rfl
  · exact vx_isRef h rfl
/-- the same frame, seen from here: as if the method were called anew in this heap -/
theorem vx_rebase {T : State} (X : Stand p l e R s m args below meth c T locs cells slots) {R' : Room} (hf : R'.frames ≤ R.frames) (hl : R'.locals ≤ R.locals) (hc : cells + R'.cells ≤ R.cells) (hs : slots + R'.slots ≤ R.slots) :
    Stand p l e R' ((T.setVm s.vm).setFrames (.invoking m args :: below)) m args below meth c T [] 0 0 := by
  have htop : (T.setVm s.vm).topJava?.isSome := X.here.top
  have hF : ((T.setVm s.vm).setFrames (.invoking m args :: below)).frames = .invoking m args :: below := State.frames_setFrames _ (State.cur_lt_of_top htop)
  obtain ⟨g₀, hg0⟩ := Option.isSome_iff_exists.mp htop
  obtain ⟨r, hr⟩ := State.topJava?_eq_some.mp hg0
  have hl9 : e.platform.stackLimits (T.setVm s.vm).me = e.platform.stackLimits s.me := X.limits
  have hb9 : (T.setVm s.vm).me.stackBytes = s.me.stackBytes := X.bytes
  refine ⟨X.admits, X.cas, X.clock, hF, ?_, X.hears, X.method, X.code, X.here, X.tail, X.warmed, ?_, ?_, ?_⟩
  · have h := X.room
    have hU : ((T.setVm s.vm).setFrames (.invoking m args :: below)).localsInUse = s.localsInUse := by
      rw [State.localsInUse_invoking hF (meth := meth) (c := c) X.method X.code, State.localsInUse_invoking X.frames X.method X.code]
    simp only [State.hasRoom, Bool.and_eq_true, decide_eq_true_eq] at h ⊢
    obtain ⟨⟨⟨⟨h1, h2, h3, h4, h5, h6⟩, h7⟩, h8⟩, h9⟩ := h
    rw [X.frames, List.length_cons] at h2 h3
    have q1 := X.heapSize
    have q2 := X.used
    simp only [hF, hU, List.length_cons, State.stackLimits_setFrames, State.stackBytes_setFrames, hl9, hb9]
    refine ⟨⟨⟨⟨by omega, by omega, by omega, by omega, by omega, h6⟩, ?_⟩, ?_⟩, X.book⟩
    · show T.heap.size + R'.cells ≤ e.platform.maxCells
      omega
    · show T.slotsUsed + R'.slots ≤ e.platform.maxSlots
      omega
  · rw [State.stackLimits_setFrames]; rfl
  · rw [State.stackBytes_setFrames]; rfl
  · refine ⟨?_, Nat.le_refl _, Nat.le_refl _, ?_, ?_, fun a c9 h9 => ⟨c9, h9, rfl, rfl, fun _ _ => rfl⟩⟩
    · obtain ⟨t, ht, -⟩ := State.frames_cons hr
      show T.setVm s.vm = { ((T.setVm s.vm).setFrames (.invoking m args :: below)).setFrames (T.setVm s.vm).frames with heap := T.heap, slotsUsed := T.slotsUsed }
      rw [State.setFrames_setFrames, State.setFrames_self ht]
      rfl
    · show T.slotsUsed = T.slotsUsed + ((T.heap.toList.drop T.heap.size).map (·.slots.size)).sum
      rw [List.drop_eq_nil_of_le (Nat.le_of_eq Array.length_toList)]
      rfl
    · show ((T.heap.toList.drop T.heap.size).map (·.slots.size)).sum ≤ 0
      rw [List.drop_eq_nil_of_le (Nat.le_of_eq Array.length_toList)]
      exact Nat.le_refl _
/-- 'throw new E()': new; dup; invokespecial; athrow -/
theorem vx_throw0 {cc : ByteArray} {pc : Nat} (hexec : p.tables.exec = Jvm.exec) (hb : c.code = cc) (hl : l.stackTraces = false) {own cls : String} {names : List String} {ik ic mc ms : Nat} {A : Nat → Prop}
    (hown : s.vm.findClass own = some m.cls) (hcls : Bundle.fit cls = true) (hnames : ∀ n ∈ names, Bundle.fit n = true)
    (hk : (Cond.classLink own ik cls).before args s = true) (hini : (Cond.initialized cls).before args s = true) (hat : ∀ w ∈ vx_at0 own ic cls names, w.before args s = true)
    (hgood : ∀ w ∈ Cond.classLink own ik cls :: Cond.initialized cls :: vx_at0 own ic cls names, vx_ot w = true)
    (hU : vx_Zq Bundle.tN "UNASSIGNED_STACK" Bundle.steD A s s.heap) (hN : vx_Zq Bundle.tN "SUPPRESSED_SENTINEL" Bundle.listD A s s.heap) (hS : va_S A s.heap H locs) (hsize : ls.size = c.maxLocals)
    (d0 : decode cc pc = .ok (.new ik, 3)) (d3 : decode cc (pc + 3) = .ok (.dup, 1)) (d4 : decode cc (pc + 4) = .ok (.invokespecial ic, 3)) (d7 : decode cc (pc + 7) = .ok (.athrow, 1))
    (hout : ∀ x ∈ c.exceptionTable.toList, covers x (pc + 7) = false)
    (hRframes : names.length + 3 < R.frames) (hRlocals : (rest.map fun v => v.category).sum + (13 * (names.length + 1) + 42) ≤ R.locals) (hRcells : cells + 1 ≤ R.cells) (hRslots : slots + 6 ≤ R.slots) (hlocks : meth.locks = false)
    (hx : ∀ t : State, s.vm.Alike t.vm → H.size ≤ t.heap.size → (∀ q : Nat, q < H.size → t.heap[q]? = H[q]?) → XC cls s t)
    (hf : ∀ z ∈ locs, free z.base) (hc : cells + 1 ≤ mc) (hs : slots + 6 ≤ ms) :
    W p l e R s m args below meth c H locs cells slots (vx_MQ below Qc XC args s mc ms free) (F0 m pc ls rest) := by
  intro T hT X
  have htr : e.platform.stackTraces = false := (show e.platform.stackTraces = l.stackTraces by rw [X.admits.platform]).trans hl
  have Y := vx_rebase X (R' := { frames := R.frames, locals := R.locals, cells := 1, slots := 6 }) (Nat.le_refl _) (Nat.le_refl _) hRcells hRslots
  obtain ⟨s', hA⟩ : ∃ z, z = (T.setVm s.vm).setFrames (.invoking m args :: below) := ⟨_, rfl⟩
  rw [← hA] at Y
  have hvm : s'.vm = s.vm := by rw [hA]; rfl
  have hhp : s'.heap = H := by rw [hA]; exact hT
  have hW0 : s.WarmedH s'.vm := by rw [hvm]; exact State.WarmedH.refl s
  have hat' : ∀ w ∈ vx_at0 own ic cls names, w.before args s' = true := fun w hw => vx_ot_at hW0 hvm.symm (hgood w (List.mem_cons_of_mem _ (List.mem_cons_of_mem _ hw))) (hat w hw)
  have hk' : (Cond.classLink own ik cls).before args s' = true := vx_ot_at hW0 hvm.symm (hgood _ List.mem_cons_self) hk
  have hini' : (Cond.initialized cls).before args s' = true := vx_ot_at hW0 hvm.symm (hgood _ (List.mem_cons_of_mem _ List.mem_cons_self)) hini
  have hU' : vx_Zq Bundle.tN "UNASSIGNED_STACK" Bundle.steD A s' s'.heap := by rw [hhp]; exact vx_Zq.moved hW0.alike (hU.kept hS.2.1)
  have hN' : vx_Zq Bundle.tN "SUPPRESSED_SENTINEL" Bundle.listD A s' s'.heap := by rw [hhp]; exact vx_Zq.moved hW0.alike (hN.kept hS.2.1)
  have h : ∀ w ∈ Bundle.ownAtoms0 own ic cls names, w.before args s' = true := vx_own hat' (vx_isRefq hU'.1) (vx_isRefq hN'.1) hU'.2.word hN'.2.word
  have hown' : s'.vm.findClass own = some m.cls := by rw [hvm]; exact hown
  have hins : (Cond.instantiable cls 6).before args s' = true := h _ (by simp [Bundle.ownAtoms0])
  obtain ⟨vm₁, cX, kX, hfX, hkX, -, -, X₁, st1⟩ := Y.newCold hexec (own := own) (C := cls) (index := ik) (n := 6) hown' hk' hins hini'
    (g := F0 m pc ls rest) rfl (by rw [hb]; exact d0) (Nat.le_refl _) (Nat.le_refl _)
  generalize hT1 : (T.setVm vm₁).pushCell { cls := cX, slots := kX.instanceTypes.map defaultValue, vm := .none } = T1 at X₁ st1
  have hcat : (Value.ref T.heap.size).category = 1 := rfl
  have hcellA : T1.heap[T.heap.size]? = some (freshCell cX kX) := by rw [← hT1]; exact State.heap_pushCell_size _ _
  have d3' : decode c.code (pc + 3) = .ok (.dup, 1) := by rw [hb]; exact d3
  obtain ⟨U, hsteps, hrun, hend, hW, hsame, ce, hce, hO⟩ := X₁.ctorThrow0 hexec htr (own := own) (cls := cls) (names := names) (ic := ic) hown' hcls hnames h (fun x hx => nomatch hx) hfX hkX hcellA (by rw [hhp, hT]; exact Nat.le_refl _)
    (g := { method := m, pc := pc + 4, locals := ls, stack := .ref T.heap.size :: .ref T.heap.size :: rest, locked := none }) rfl hsize rfl rfl (rest := rest) rfl
    (by rw [hb]; exact d4) (by rw [hb]; exact d7) hout hRframes (by simp only [List.map_cons, List.sum_cons, hcat]; omega) hlocks
  obtain ⟨f1, f2⟩ := vx_frame hsame
  rw [hhp] at f1 f2
  have hWs : s.WarmedH U.vm := State.WarmedH.trans hW0 hW
  have hcl : s.vm.findClass cls = some ce.cls := by
    have h9 := hO.cls
    rw [hvm] at h9
    exact h9
  have hall : s.sameButNew ({ U with vm := s.vm } : State) locs mc ms := by
    subst hA
    obtain ⟨e1, e2⟩ := hsame
    rw [State.setFrames_setFrames] at e1
    have h2 : (T.setVm s.vm).sameButNew ({ U with vm := s.vm } : State) [] (0 + 1) (0 + 6) := ⟨e1, e2⟩
    have h3 := X.same.trans h2
    rw [List.append_nil] at h3
    exact h3.mono hc hs
  refine ⟨U, ?_, .threw T.heap.size, hrun, hend, Or.inr ⟨T.heap.size, rfl, cls, ce, locs, hx U hWs.alike f1 (fun q hq => f2 q hq (fun z hz => nomatch hz)), hce, hO.vm, hcl, hWs, hall, hf⟩⟩
  refine st1 _ ?_
  show Steps p.tables e below (T1.setTop { method := m, pc := pc + 3, locals := ls, stack := .ref T.heap.size :: rest, locked := none }) _
  jvm_step X₁.here [X₁.here.top, hexec, d3', Value.category]
  exact hsteps
/-- 'throw new E("text")': new; dup; ldc; invokespecial; athrow -/
theorem vx_throwS {cc : ByteArray} {pc : Nat} (hexec : p.tables.exec = Jvm.exec) (hb : c.code = cc) (hl : l.stackTraces = false) {own cls text : String} {names : List String} {ik is ic mc ms sa : Nat} {A : Nat → Prop}
    (hown : s.vm.findClass own = some m.cls) (hcls : Bundle.fit cls = true) (hnames : ∀ n ∈ names, Bundle.fit n = true)
    (hk : (Cond.classLink own ik cls).before args s = true) (hini : (Cond.initialized cls).before args s = true) (hstr : vk_R own is text sa s) (hat : ∀ w ∈ vx_atS own ic cls names, w.before args s = true)
    (hgood : ∀ w ∈ Cond.classLink own ik cls :: Cond.initialized cls :: vx_atS own ic cls names, vx_ot w = true)
    (hU : vx_Zq Bundle.tN "UNASSIGNED_STACK" Bundle.steD A s s.heap) (hN : vx_Zq Bundle.tN "SUPPRESSED_SENTINEL" Bundle.listD A s s.heap) (hS : va_S A s.heap H locs) (hsize : ls.size = c.maxLocals)
    (d0 : decode cc pc = .ok (.new ik, 3)) (d3 : decode cc (pc + 3) = .ok (.dup, 1)) (d4 : decode cc (pc + 4) = .ok (.ldc is, 2)) (d6 : decode cc (pc + 6) = .ok (.invokespecial ic, 3)) (d9 : decode cc (pc + 9) = .ok (.athrow, 1))
    (hout : ∀ x ∈ c.exceptionTable.toList, covers x (pc + 9) = false)
    (hRframes : names.length + 3 < R.frames) (hRlocals : (rest.map fun v => v.category).sum + (13 * (names.length + 1) + 43) ≤ R.locals) (hRcells : cells + 1 ≤ R.cells) (hRslots : slots + 6 ≤ R.slots) (hlocks : meth.locks = false)
    (hx : ∀ t : State, s.vm.Alike t.vm → H.size ≤ t.heap.size → (∀ q : Nat, q < H.size → t.heap[q]? = H[q]?) → XC cls s t)
    (hf : ∀ z ∈ locs, free z.base) (hc : cells + 1 ≤ mc) (hs : slots + 6 ≤ ms) :
    W p l e R s m args below meth c H locs cells slots (vx_MQ below Qc XC args s mc ms free) (F0 m pc ls rest) := by
  intro T hT X
  have htr : e.platform.stackTraces = false := (show e.platform.stackTraces = l.stackTraces by rw [X.admits.platform]).trans hl
  have Y := vx_rebase X (R' := { frames := R.frames, locals := R.locals, cells := 1, slots := 6 }) (Nat.le_refl _) (Nat.le_refl _) hRcells hRslots
  obtain ⟨s', hA⟩ : ∃ z, z = (T.setVm s.vm).setFrames (.invoking m args :: below) := ⟨_, rfl⟩
  rw [← hA] at Y
  have hvm : s'.vm = s.vm := by rw [hA]; rfl
  have hhp : s'.heap = H := by rw [hA]; exact hT
  have hW0 : s.WarmedH s'.vm := by rw [hvm]; exact State.WarmedH.refl s
  have hat' : ∀ w ∈ vx_atS own ic cls names, w.before args s' = true := fun w hw => vx_ot_at hW0 hvm.symm (hgood w (List.mem_cons_of_mem _ (List.mem_cons_of_mem _ hw))) (hat w hw)
  have hk' : (Cond.classLink own ik cls).before args s' = true := vx_ot_at hW0 hvm.symm (hgood _ List.mem_cons_self) hk
  have hini' : (Cond.initialized cls).before args s' = true := vx_ot_at hW0 hvm.symm (hgood _ (List.mem_cons_of_mem _ List.mem_cons_self)) hini
  have hU' : vx_Zq Bundle.tN "UNASSIGNED_STACK" Bundle.steD A s' s'.heap := by rw [hhp]; exact vx_Zq.moved hW0.alike (hU.kept hS.2.1)
  have hN' : vx_Zq Bundle.tN "SUPPRESSED_SENTINEL" Bundle.listD A s' s'.heap := by rw [hhp]; exact vx_Zq.moved hW0.alike (hN.kept hS.2.1)
  have h : ∀ w ∈ Bundle.ownAtoms own ic cls names, w.before args s' = true := vx_own hat' (vx_isRefq hU'.1) (vx_isRefq hN'.1) hU'.2.word hN'.2.word
  have hown' : s'.vm.findClass own = some m.cls := by rw [hvm]; exact hown
  have hins : (Cond.instantiable cls 6).before args s' = true := h _ (by simp [Bundle.ownAtoms])
  obtain ⟨vm₁, cX, kX, hfX, hkX, -, -, X₁, st1⟩ := Y.newCold hexec (own := own) (C := cls) (index := ik) (n := 6) hown' hk' hins hini'
    (g := F0 m pc ls rest) rfl (by rw [hb]; exact d0) (Nat.le_refl _) (Nat.le_refl _)
  generalize hT1 : (T.setVm vm₁).pushCell { cls := cX, slots := kX.instanceTypes.map defaultValue, vm := .none } = T1 at X₁ st1
  have hcat : (Value.ref T.heap.size).category = 1 := rfl
  have hcellA : T1.heap[T.heap.size]? = some (freshCell cX kX) := by rw [← hT1]; exact State.heap_pushCell_size _ _
  have d3' : decode c.code (pc + 3) = .ok (.dup, 1) := by rw [hb]; exact d3
  have d4' : decode c.code (pc + 4) = .ok (.ldc is, 2) := by rw [hb]; exact d4
  have hstr' : vk_R own is text sa s' := vk_R.warm hW0 hstr
  obtain ⟨U, hsteps, hrun, hend, hW, hsame, ce, hce, hO⟩ := X₁.ctorThrowS hexec htr (own := own) (cls := cls) (names := names) (ic := ic) hown' hcls hnames h (fun x hx => nomatch hx) hfX hkX hcellA (by rw [hhp, hT]; exact Nat.le_refl _) (msg := .ref sa) rfl
    (g := { method := m, pc := pc + 6, locals := ls, stack := .ref sa :: .ref T.heap.size :: .ref T.heap.size :: rest, locked := none }) rfl hsize rfl rfl (rest := rest) rfl
    (by rw [hb]; exact d6) (by rw [hb]; exact d9) hout hRframes (by simp only [List.map_cons, List.sum_cons, hcat]; omega) hlocks
  obtain ⟨f1, f2⟩ := vx_frame hsame
  rw [hhp] at f1 f2
  have hWs : s.WarmedH U.vm := State.WarmedH.trans hW0 hW
  have hcl : s.vm.findClass cls = some ce.cls := by
    have h9 := hO.cls
    rw [hvm] at h9
    exact h9
  have hall : s.sameButNew ({ U with vm := s.vm } : State) locs mc ms := by
    subst hA
    obtain ⟨e1, e2⟩ := hsame
    rw [State.setFrames_setFrames] at e1
    have h2 : (T.setVm s.vm).sameButNew ({ U with vm := s.vm } : State) [] (0 + 1) (0 + 6) := ⟨e1, e2⟩
    have h3 := X.same.trans h2
    rw [List.append_nil] at h3
    exact h3.mono hc hs
  refine ⟨U, ?_, .threw T.heap.size, hrun, hend, Or.inr ⟨T.heap.size, rfl, cls, ce, locs, hx U hWs.alike f1 (fun q hq => f2 q hq (fun z hz => nomatch hz)), hce, hO.vm, hcl, hWs, hall, hf⟩⟩
  refine st1 _ ?_
  show Steps p.tables e below (T1.setTop { method := m, pc := pc + 3, locals := ls, stack := .ref T.heap.size :: rest, locked := none }) _
  jvm_step X₁.here [X₁.here.top, hexec, d3', Value.category]
  exact X₁.ldcString hexec (own := own) (text := text) (index := is) (a := sa) hown' hstr'.1 hstr'.2
    (g := { method := m, pc := pc + 4, locals := ls, stack := .ref T.heap.size :: .ref T.heap.size :: rest, locked := none }) rfl d4' _ hsteps
/-- 'throw new E("text")', the text by a wide index -/
theorem vx_throwSW {cc : ByteArray} {pc : Nat} (hexec : p.tables.exec = Jvm.exec) (hb : c.code = cc) (hl : l.stackTraces = false) {own cls text : String} {names : List String} {ik is ic mc ms sa : Nat} {A : Nat → Prop}
    (hown : s.vm.findClass own = some m.cls) (hcls : Bundle.fit cls = true) (hnames : ∀ n ∈ names, Bundle.fit n = true)
    (hk : (Cond.classLink own ik cls).before args s = true) (hini : (Cond.initialized cls).before args s = true) (hstr : vk_R own is text sa s) (hat : ∀ w ∈ vx_atS own ic cls names, w.before args s = true)
    (hgood : ∀ w ∈ Cond.classLink own ik cls :: Cond.initialized cls :: vx_atS own ic cls names, vx_ot w = true)
    (hU : vx_Zq Bundle.tN "UNASSIGNED_STACK" Bundle.steD A s s.heap) (hN : vx_Zq Bundle.tN "SUPPRESSED_SENTINEL" Bundle.listD A s s.heap) (hS : va_S A s.heap H locs) (hsize : ls.size = c.maxLocals)
    (d0 : decode cc pc = .ok (.new ik, 3)) (d3 : decode cc (pc + 3) = .ok (.dup, 1)) (d4 : decode cc (pc + 4) = .ok (.ldc_w is, 3)) (d7 : decode cc (pc + 7) = .ok (.invokespecial ic, 3)) (d10 : decode cc (pc + 10) = .ok (.athrow, 1))
    (hout : ∀ x ∈ c.exceptionTable.toList, covers x (pc + 10) = false)
    (hRframes : names.length + 3 < R.frames) (hRlocals : (rest.map fun v => v.category).sum + (13 * (names.length + 1) + 43) ≤ R.locals) (hRcells : cells + 1 ≤ R.cells) (hRslots : slots + 6 ≤ R.slots) (hlocks : meth.locks = false)
    (hx : ∀ t : State, s.vm.Alike t.vm → H.size ≤ t.heap.size → (∀ q : Nat, q < H.size → t.heap[q]? = H[q]?) → XC cls s t)
    (hf : ∀ z ∈ locs, free z.base) (hc : cells + 1 ≤ mc) (hs : slots + 6 ≤ ms) :
    W p l e R s m args below meth c H locs cells slots (vx_MQ below Qc XC args s mc ms free) (F0 m pc ls rest) := by
  intro T hT X
  have htr : e.platform.stackTraces = false := (show e.platform.stackTraces = l.stackTraces by rw [X.admits.platform]).trans hl
  have Y := vx_rebase X (R' := { frames := R.frames, locals := R.locals, cells := 1, slots := 6 }) (Nat.le_refl _) (Nat.le_refl _) hRcells hRslots
  obtain ⟨s', hA⟩ : ∃ z, z = (T.setVm s.vm).setFrames (.invoking m args :: below) := ⟨_, rfl⟩
  rw [← hA] at Y
  have hvm : s'.vm = s.vm := by rw [hA]; rfl
  have hhp : s'.heap = H := by rw [hA]; exact hT
  have hW0 : s.WarmedH s'.vm := by rw [hvm]; exact State.WarmedH.refl s
  have hat' : ∀ w ∈ vx_atS own ic cls names, w.before args s' = true := fun w hw => vx_ot_at hW0 hvm.symm (hgood w (List.mem_cons_of_mem _ (List.mem_cons_of_mem _ hw))) (hat w hw)
  have hk' : (Cond.classLink own ik cls).before args s' = true := vx_ot_at hW0 hvm.symm (hgood _ List.mem_cons_self) hk
  have hini' : (Cond.initialized cls).before args s' = true := vx_ot_at hW0 hvm.symm (hgood _ (List.mem_cons_of_mem _ List.mem_cons_self)) hini
  have hU' : vx_Zq Bundle.tN "UNASSIGNED_STACK" Bundle.steD A s' s'.heap := by rw [hhp]; exact vx_Zq.moved hW0.alike (hU.kept hS.2.1)
  have hN' : vx_Zq Bundle.tN "SUPPRESSED_SENTINEL" Bundle.listD A s' s'.heap := by rw [hhp]; exact vx_Zq.moved hW0.alike (hN.kept hS.2.1)
  have h : ∀ w ∈ Bundle.ownAtoms own ic cls names, w.before args s' = true := vx_own hat' (vx_isRefq hU'.1) (vx_isRefq hN'.1) hU'.2.word hN'.2.word
  have hown' : s'.vm.findClass own = some m.cls := by rw [hvm]; exact hown
  have hins : (Cond.instantiable cls 6).before args s' = true := h _ (by simp [Bundle.ownAtoms])
  obtain ⟨vm₁, cX, kX, hfX, hkX, -, -, X₁, st1⟩ := Y.newCold hexec (own := own) (C := cls) (index := ik) (n := 6) hown' hk' hins hini'
    (g := F0 m pc ls rest) rfl (by rw [hb]; exact d0) (Nat.le_refl _) (Nat.le_refl _)
  generalize hT1 : (T.setVm vm₁).pushCell { cls := cX, slots := kX.instanceTypes.map defaultValue, vm := .none } = T1 at X₁ st1
  have hcat : (Value.ref T.heap.size).category = 1 := rfl
  have hcellA : T1.heap[T.heap.size]? = some (freshCell cX kX) := by rw [← hT1]; exact State.heap_pushCell_size _ _
  have d3' : decode c.code (pc + 3) = .ok (.dup, 1) := by rw [hb]; exact d3
  have d4' : decode c.code (pc + 4) = .ok (.ldc_w is, 3) := by rw [hb]; exact d4
  have hstr' : vk_R own is text sa s' := vk_R.warm hW0 hstr
  obtain ⟨U, hsteps, hrun, hend, hW, hsame, ce, hce, hO⟩ := X₁.ctorThrowS hexec htr (own := own) (cls := cls) (names := names) (ic := ic) hown' hcls hnames h (fun x hx => nomatch hx) hfX hkX hcellA (by rw [hhp, hT]; exact Nat.le_refl _) (msg := .ref sa) rfl
    (g := { method := m, pc := pc + 7, locals := ls, stack := .ref sa :: .ref T.heap.size :: .ref T.heap.size :: rest, locked := none }) rfl hsize rfl rfl (rest := rest) rfl
    (by rw [hb]; exact d7) (by rw [hb]; exact d10) hout hRframes (by simp only [List.map_cons, List.sum_cons, hcat]; omega) hlocks
  obtain ⟨f1, f2⟩ := vx_frame hsame
  rw [hhp] at f1 f2
  have hWs : s.WarmedH U.vm := State.WarmedH.trans hW0 hW
  have hcl : s.vm.findClass cls = some ce.cls := by
    have h9 := hO.cls
    rw [hvm] at h9
    exact h9
  have hall : s.sameButNew ({ U with vm := s.vm } : State) locs mc ms := by
    subst hA
    obtain ⟨e1, e2⟩ := hsame
    rw [State.setFrames_setFrames] at e1
    have h2 : (T.setVm s.vm).sameButNew ({ U with vm := s.vm } : State) [] (0 + 1) (0 + 6) := ⟨e1, e2⟩
    have h3 := X.same.trans h2
    rw [List.append_nil] at h3
    exact h3.mono hc hs
  refine ⟨U, ?_, .threw T.heap.size, hrun, hend, Or.inr ⟨T.heap.size, rfl, cls, ce, locs, hx U hWs.alike f1 (fun q hq => f2 q hq (fun z hz => nomatch hz)), hce, hO.vm, hcl, hWs, hall, hf⟩⟩
  refine st1 _ ?_
  show Steps p.tables e below (T1.setTop { method := m, pc := pc + 3, locals := ls, stack := .ref T.heap.size :: rest, locked := none }) _
  jvm_step X₁.here [X₁.here.top, hexec, d3', Value.category]
  exact X₁.ldcStringW hexec (own := own) (text := text) (index := is) (a := sa) hown' hstr'.1 hstr'.2
    (g := { method := m, pc := pc + 4, locals := ls, stack := .ref T.heap.size :: .ref T.heap.size :: rest, locked := none }) rfl d4' _ hsteps
end Ends
section Bodies
variable {l : Launch}
theorem vx_ofW {y : MethodName} {ws ws' : List Cond} {rm : Room} {Pc : Array Value → State → Prop} {Qc : Array Value → State → Outcome → State → Prop} {XC : String → State → State → Prop} {mc ms : Nat} {free : Addr → Prop} {cc : ByteArray} {maxL : Nat} {ret : Option FieldType}
    (hy : plainName y.cls = true) (hw : ws = Cond.code y cc maxL ret :: ws')
    (body : ∀ p e s m args below meth c s₁, BodyLoose p l y (headSpec ws rm) cc maxL ret e s m args below meth c s₁ → c.maxLocals = maxL → (∀ x ∈ c.exceptionTable.toList, False) → Pc args s →
      W p l e (headSpec ws rm).room s m args below meth c s.heap [] 0 0 (vx_MQ below Qc XC args s mc ms free) (entryFrame m args maxL)) : vx_Met l y ws rm Pc Qc XC mc ms free := by
  refine MetFree.of_bodyS (code := cc) (maxLocals := maxL) (ret := ret) hy ?_ ?_
  · intro args s m h hn
    obtain ⟨meth, c, h1, h2, h3, h4, h5, h6, -, -⟩ := Cond.code_spec hn (atoms_spec (ws := ws) h _ (by rw [hw]; exact List.mem_cons_self))
    exact ⟨meth, c, h1, h2, h3, h4, h5, h6⟩
  · intro p e s m args below meth c s₁ B hml hP _
    have hh0 : s₁.heap = s.heap := by rw [B.state]; rfl
    have ht : ∀ x ∈ c.exceptionTable.toList, False := by
      obtain ⟨meth9, c9, h1, h2, -, -, -, -, h7, -⟩ := Cond.code_spec B.named (atoms_spec (ws := ws) B.pre _ (by rw [hw]; exact List.mem_cons_self))
      cases Option.some.inj (h1.symm.trans B.method)
      cases Option.some.inj (h2.symm.trans (Stand.of_body B).code)
      intro x hx
      rw [Array.isEmpty_iff.mp h7] at hx
      cases hx
    obtain ⟨t, a1, o, b1, b2, b3⟩ := body p e s m args below meth c s₁ B hml ht hP s₁ hh0 (Stand.of_body B)
    exact ⟨t, o, a1, b1, b2, b3⟩
/-- the table of a body with handlers -/
theorem vx_table {p : Program} {x y : MethodName} {S : Spec} {cc bytes : ByteArray} {maxL maxL' : Nat} {ret ret' : Option FieldType} {e : Env} {s s₁ : State} {m : MethodId} {args : Array Value} {below : List Frame} {meth : Method} {c : Code} {hh : List (Nat × Nat × Nat × Nat)}
    (B : BodyLoose p l y S cc maxL ret e s m args below meth c s₁) (h : (Cond.codeWith y bytes maxL' ret' hh).before args s = true) : c.exceptionTable.toList = tableOf hh := by
  obtain ⟨m9, meth9, c9, hn9, h1, h2, -, -, h6, -⟩ := Cond.codeWith_spec h
  cases Option.some.inj (hn9.symm.trans B.named)
  cases Option.some.inj (h1.symm.trans B.method)
  cases Option.some.inj (h2.symm.trans (Stand.of_body B).code)
  rw [← h6, table_eq]
end Bodies
end VXA
/-! ===== END ===== -/
/-! ===== BEGIN a static call of a method with an exception table ===== -/
section VXS
variable {p : Program} {l : Launch} {e : Env} {R : Room} {s : State} {m : MethodId} {args : Array Value} {below : List Frame} {meth : Method} {c : Code} {T : State} {H : Heap} {locs : List Loc} {cells slots : Nat}
abbrev vx_CSW (R : Room) (s : State) (args : Array Value) (own : String) (index : Nat) (y : MethodName) (bytes : ByteArray) (maxL : Nat) (ret : Option FieldType) (hh : List (Nat × Nat × Nat × Nat)) (ws : List Cond) (rm : Room) (mc ms n : Nat) : Prop :=
  (rm.cells = mc ∧ rm.slots = ms ∧ rm.frames + 1 ≤ R.frames ∧ 8 + (maxL + 11) + rm.locals ≤ R.locals ∧ (∀ w ∈ ws, ∀ (a' : Array Value) (U : State), s.WarmedH U.vm → w.before a' U = true) ∧ Cond.codeWith y bytes maxL ret hh ∈ ws) ∧
  (Cond.codeWith y bytes maxL ret hh).before args s = true ∧ (Cond.initialized y.cls).before args s = true ∧ (y.cls ≠ "java/lang/invoke/MethodHandle" ∧ y.cls ≠ "java/lang/invoke/VarHandle") ∧
  (∀ sig, parseMethodDescriptor y.desc = some sig → n = sig.parameters.length) ∧ (Cond.methodLink own index y).before args s = true ∧ (Cond.static y).before args s = true
theorem vx_cwSW {own : String} {index maxL mc ms : Nat} {y : MethodName} {bytes : ByteArray} {ret : Option FieldType} {hh : List (Nat × Nat × Nat × Nat)} {Ts ws ws' : List Cond} {rm : Room} (n : Nat) (ht : ∀ w ∈ Ts, w.before args s = true) (hT : GoodIn Ts (va_wsS own index y ws)) (hw : ws = Cond.codeWith y bytes maxL ret hh :: ws') (hrc : rm.cells = mc) (hrs : rm.slots = ms)
    (hd : y.cls ≠ "java/lang/invoke/MethodHandle" ∧ y.cls ≠ "java/lang/invoke/VarHandle" ∧ (parseMethodDescriptor y.desc).map (fun d => d.parameters.length) = some n) (hR : rm.frames + 1 ≤ R.frames ∧ 8 + (maxL + 11) + rm.locals ≤ R.locals) :
    vx_CSW R s args own index y bytes maxL ret hh ws rm mc ms n := by
  have ok : ∀ w ∈ va_wsS own index y ws, w.before args s = true := fun w h => ht w (hT w h).1
  have hG : GoodIn Ts ws := fun w h => hT w (by unfold va_wsS; exact List.mem_append_right _ h)
  have hc : Cond.codeWith y bytes maxL ret hh ∈ ws := by rw [hw]; exact List.mem_cons_self
  refine ⟨⟨hrc, hrs, hR.1, hR.2, pay_in ht hG, hc⟩, ht _ (hG _ hc).1, ok _ (by simp [va_wsS]), ⟨hd.1, hd.2.1⟩, fun sig h => ?_, ok _ (by simp [va_wsS]), ok _ (by simp [va_wsS])⟩
  have h2 := hd.2.2
  rw [h] at h2
  exact (Option.some.inj h2).symm
theorem vx_callSW (X : Stand p l e R s m args below meth c T locs cells slots) (hexec : p.tables.exec = Jvm.exec) {own : String} {index : Nat} {y : MethodName} {bytes : ByteArray} {maxL : Nat} {ret : Option FieldType} {hh : List (Nat × Nat × Nat × Nat)}
    (hown : s.vm.findClass own = some m.cls) (hlink : (Cond.methodLink own index y).before args s = true) (hstat : (Cond.static y).before args s = true) (hinit : (Cond.initialized y.cls).before args s = true)
    (hcode : (Cond.codeWith y bytes maxL ret hh).before args s = true) (hy : y.cls ≠ "java/lang/invoke/MethodHandle" ∧ y.cls ≠ "java/lang/invoke/VarHandle")
    {W9 : Nat} {Pre : Pt → Array Value → Prop} {Post : Pt → Array Value → Option Value → Pt → Prop} (hK : Back l R p e below s args y 3 W9 Pre Post)
    {g : JFrame} (hg : g.method = m) (hsize : g.locals.size = c.maxLocals) {argsL rest : List Value} (hlen : ∀ sig, parseMethodDescriptor y.desc = some sig → argsL.length = sig.parameters.length)
    (hstack : g.stack = argsL.reverse ++ rest) (hW : 2 * g.monitorRoom + (rest.map fun v => v.category).sum ≤ W9) (hdg : decode c.code g.pc = .ok (.invokestatic index, 3))
    (hpre : ∀ vm₁, s.WarmedH vm₁ → Pre ⟨T.setVm vm₁, locs, cells, slots⟩ argsL.toArray) :
    ∃ (v : Option Value) (vm₁ : Vm) (B : Pt), s.WarmedH vm₁ ∧ Stand p l e R s m args below meth c B.U B.locs B.cells B.slots ∧ Post ⟨T.setVm vm₁, locs, cells, slots⟩ argsL.toArray v B ∧
      ∀ target, Steps p.tables e below (B.U.setTop { g with pc := g.pc + 3, stack := v.toList ++ rest }) target → Steps p.tables e below (T.setTop g) target := by
  obtain ⟨mk, methM, cM, hnamed, hmethM, -, -, -, -, -, -, hsigM⟩ := Cond.codeWith_spec hcode
  have hstatic : methM.isStatic = true := Cond.static_spec hnamed hmethM hstat
  obtain ⟨kP, hkP, -⟩ := className_of_methodNamed hnamed
  have hinitP : kP.init = .initialized := Cond.initialized_spec (findClass_of_methodNamed hnamed) hkP hinit
  obtain ⟨vm₁, X₁, hstep₁⟩ := X.invokestatic hexec hown hlink hnamed hmethM hstatic hkP hinitP hy (g := g) hg (argsL := argsL) (rest := rest) (hlen _ hsigM) hstack hdg
  obtain ⟨v, B, X', hpost, hsteps⟩ := hK m meth c ⟨T.setVm vm₁, locs, cells, slots⟩ { g with stack := rest } (.invokestatic index) mk argsL.toArray X₁ hg hsize hdg hW (X₁.named hnamed) (hpre vm₁ X₁.warmed)
  exact ⟨v, vm₁, B, X₁.warmed, X', hpost, fun target h => hstep₁ _ fun acts => by rw [doInvoke_state]; exact hsteps.trans h⟩
theorem vx_runSW {y : MethodName} {bytes cc : ByteArray} {maxL nL mc ms n index : Nat} {ret : Option FieldType} {hh : List (Nat × Nat × Nat × Nat)} {ws : List Cond} {rm : Room} {Pc : Array Value → State → Prop} {Qc : Array Value → State → Outcome → State → Prop} {free : Addr → Prop} {Ts : List Cond} {own : String} {As rest : List Value} {g : JFrame}
    (S : CallFix p m c cc nL s args Ts own) (hM : Met l y ws rm Pc Qc mc ms free) (cw : vx_CSW R s args own index y bytes maxL ret hh ws rm mc ms n) (hp : PreS s H Pc As)
    (hg : g.method = m) (hn : As.length = n) (hsize : g.locals.size = nL) (hstack : g.stack = As.reverse ++ rest) (hW : 2 * g.monitorRoom + (rest.map fun v => v.category).sum ≤ 8) (hdg : decode cc g.pc = .ok (.invokestatic index, 3)) (hf : cells + mc ≤ R.cells ∧ slots + ms ≤ R.slots) :
    va_Run p l e R s m args below meth c H locs cells slots mc ms g rest (Qc As.toArray) (free) := by
  obtain ⟨⟨hrc, hrs, hfr, hlo, hws, hcw⟩, hcode, hini, hy, hlen, hl, hstt⟩ := cw
  have hK : Back l R p e below s args y 3 8 (PreOf R mc ms Pc) (PostOf Qc mc ms free) := va_backW (hh := hh) (bytes := bytes) (maxL := maxL) (ret := ret) hM hp.1 hrc hrs hfr hlo hws hcw (fun a' U hW => word_at hW (Or.inl (by first | rfl | simp [Cond.onTables, Cond.keeps, Cond.steady])) hini)
  obtain ⟨hx, hb, hml, ho, -⟩ := S
  intro T hT X
  obtain ⟨v, vm₁, ⟨U', l2, c2, s2⟩, hW₁, X', ⟨g', mk, t, L, e1, e2, hq, h1, hL, h2, h3⟩, st⟩ := vx_callSW X hx (hh := hh) (bytes := bytes) (maxL := maxL) (ret := ret) ho hl hstt hini hcode hy hK hg (hsize.trans hml.symm) (argsL := As) (rest := rest) (fun sig h => hn.trans (hlen sig h)) hstack hW (by rw [hb]; exact hdg)
    (fun vm₁ hW₁ => ⟨hf.1, hf.2, hp.2 (T.setVm vm₁) hT hW₁⟩)
  dsimp only [Pt.U, Pt.locs, Pt.cells, Pt.slots] at X' e1 e2 h1 h2 h3 st
  subst h1; subst h2; subst h3
  exact ⟨v, (T.setVm vm₁).calling g' mk As.toArray, t, U', L, hT, X', hL, e1, e2, hq, st⟩
/-- not caught here, past rows that name other classes: it goes on to the caller -/
theorem vx_outP {p : Program} {l : Launch} {e : Env} {R : Room} {s : State} {m : MethodId} {args : Array Value} {below : List Frame} {meth : Method} {c : Code} {H : Heap} {locs : List Loc} {cells slots : Nat} {free : Addr → Prop} {ls : Array Slot} {rest : List Value} {Qc : Array Value → State → Outcome → State → Prop} {XC : String → State → State → Prop}
    {pc : Nat} {own E : String} {ce : Cell} {q : Addr} {mc ms : Nat} (hown : s.vm.findClass own = some m.cls) (hlocks : meth.locks = false)
    (hpass : ∀ z ∈ c.exceptionTable.toList, covers z pc = false ∨ (z.catchType ≠ 0 ∧ ∃ nm : String, (Cond.classLink own z.catchType nm).before args s = true ∧ va_Nc E nm s)) (hcell : H[q]? = some ce) (hv : ce.vm = .none) (hcl : s.vm.findClass E = some ce.cls)
    (hx : ∀ t : State, t.heap = H → s.vm.Alike t.vm → XC E s t) (hf : ∀ z ∈ locs, free z.base) (hc : cells ≤ mc) (hs : slots ≤ ms) :
    vx_W p l e R s m args below meth c H locs cells slots (vx_MQ below Qc XC args s mc ms free) (F0 m pc ls rest) q := by
  intro T hT X
  have hpl : e.platform.magicAccessors = ({} : Platform).magicAccessors := by rw [X.admits.platform]
  obtain ⟨vm', hW', X', st⟩ := X.outThrough hlocks q (g := F0 m pc ls rest) rfl rfl rfl (cell := ce) (by rw [hT]; exact hcell) (by rw [hv]; rfl)
    (by obtain ⟨k9, h9, -⟩ := Vm.findClass_spec hcl; exact ⟨k9, h9⟩) (fun z hz => by
      rcases hpass z hz with h | ⟨hz0, nm, hl1, hn1⟩
      · exact Or.inl h
      · obtain ⟨c6, hc6, hcl6⟩ := Cond.classLink_spec hown hl1 e.platform hpl
        obtain ⟨a8, b8, h1, h2, h3⟩ := hn1
        cases Option.some.inj (h1.symm.trans hcl)
        cases Option.some.inj (h2.symm.trans hc6)
        exact Or.inr ⟨hz0, _, hcl6, h3⟩)
  obtain ⟨g₀, hfr⟩ := X'.frames_eq
  have hcell9 : ((T.setVm vm').setFrames (.throwing q :: below)).heap[q]? = some ce := by
    show T.heap[q]? = some ce
    rw [hT]; exact hcell
  have hend : Ended ((T.setVm vm').setFrames (.throwing q :: below)) below (.threw q) := State.frames_setFrames _ (State.cur_lt_of_frames hfr)
  refine ⟨(T.setVm vm').setFrames (.throwing q :: below), ?_, .threw q, X'.here.running, hend, Or.inr ⟨q, rfl, E, ce, locs, hx _ hT (X'.ends _).1.alike, hcell9, hv, hcl, (X'.ends _).1, (X'.ends _).2.mono hc hs, hf⟩⟩
  rw [X.pushThrowing_eq]
  exact st
/-- a thing of a world lies in the heap -/
theorem vx_lt {D : va_G} {cl : List vw_C} {ws : va_W} {H1 : Heap} (h : va_P D cl ws H1) {k : Nat} {q : Nat × va_E} (hk : ws[k]? = some q) : q.1 < H1.size := (h k q hk).lt
end VXS
/-! ===== END ===== -/
/-! ===== BEGIN methods with a table of their own: called by a name, returning or throwing ===== -/
section VXH
/-! vx_backW, vx_callVX, vx_callSX, vx_callVW, vx_runVW, vx_runVX, vx_runSX, vx_ofWH follow the same proofs as their sisters above (Free/Laws.lean, Shelf42/LK1.lean); vx_outP calls Shelf42/NT130.lean (outThrough). -/
section
variable {l : Launch} {R : Room} {p : Program} {e : Env} {below : List Frame} {s : State} {sargs : Array Value} {y : MethodName} {len W9 : Nat}
theorem vx_backW {ws : List Cond} {rm : Room} {Pc : Array Value → State → Prop} {Qc : Array Value → State → Outcome → State → Prop} {XC : String → State → State → Prop} {mc ms : Nat} {free : Addr → Prop} {bytes : ByteArray} {maxL : Nat} {ret : Option FieldType} {hh : List (Nat × Nat × Nat × Nat)}
    (hM : vx_Met l y ws rm Pc Qc XC mc ms free) (hblind : FrameBlind Pc) (hrc : rm.cells = mc) (hrs : rm.slots = ms)
    (hframes : rm.frames + 1 ≤ R.frames) (hlocals : W9 + (maxL + 11) + rm.locals ≤ R.locals)
    (hws : ∀ w ∈ ws, ∀ a' U, s.WarmedH U.vm → w.before a' U = true) (hcode : Cond.codeWith y bytes maxL ret hh ∈ ws) (hinit : ∀ a' U, s.WarmedH U.vm → (Cond.initialized y.cls).before a' U = true) :
    vx_Back l R p e below s sargs y len W9 (PreOf R mc ms Pc) (PostOf Qc mc ms free) (vx_Post XC mc ms free) := by
  intro m meth c A g ig mk a X hg hsize hdg hW hn hp
  have h1 : (headSpec ws rm).pre.before a A.U = true := atoms_intro fun w hw => hws w hw _ _ X.warmed
  have h2 : (Cond.codeWith y bytes maxL ret hh).before a A.U = true := hws _ hcode _ _ X.warmed
  have h3 : (Cond.initialized y.cls).before a A.U = true := hinit _ _ X.warmed
  have h4 : A.cells + (headSpec ws rm).room.cells ≤ R.cells := by rw [show (headSpec ws rm).room.cells = mc from hrc]; exact hp.1
  have h5 : A.slots + (headSpec ws rm).room.slots ≤ R.slots := by rw [show (headSpec ws rm).room.slots = ms from hrs]; exact hp.2.1
  have hPc : Pc a (A.U.calling g mk a) := hblind _ _ _ _ hp.2.2
  obtain ⟨U, Ls, c0, s0⟩ := A
  dsimp only [Pt.U, Pt.locs, Pt.cells, Pt.slots] at h1 h2 h3 h4 h5 X hn hPc ⊢
  obtain ⟨m9, methY, cY, hn9, hmY, hcY, -, hlY, -⟩ := Cond.codeWith_spec h2
  cases Option.some.inj (hn9.symm.trans hn)
  obtain ⟨kY, hkY, -⟩ := className_of_methodNamed hn
  have hinitY : kY.init = .initialized := Cond.initialized_spec (findClass_of_methodNamed hn) hkY h3
  have h : At U g.method c below := by rw [hg]; exact X.here
  have hlocals9 : W9 + (maxL + 11) + (headSpec ws rm).room.locals ≤ R.locals := hlocals
  have happ : (headSpec ws rm).appliesLoose y e.platform (U.calling g mk a) = true :=
    Spec.appliesLoose_calling (g := g) h hdg hn hkY hinitY
      (X.room_calling (g := g) (R' := (headSpec ws rm).room) hsize hmY hcY hframes (by rw [hlY]; omega) h4 h5) h1
  obtain ⟨mid, hmid⟩ := h.above
  have hfr : (U.setTop g).frames = (.java g :: mid) ++ below := by rw [State.frames_setTop' g h.top, hmid]; rfl
  obtain ⟨o, s₂, hsteps, -, hend, hq⟩ := Steps.callFree hM p X.admits X.cas X.clock (acts := []) hfr happ hPc trivial
  have hq' : vx_Q Qc XC mc ms free a (U.calling g mk a) o s₂ := hq
  rw [State.frames_setTop' g h.top] at hend
  obtain ⟨g₀, hg0⟩ := Option.isSome_iff_exists.mp h.top
  obtain ⟨r, hr⟩ := State.topJava?_eq_some.mp hg0
  have hr' : (({ U with heap := s₂.heap, slotsUsed := s₂.slotsUsed } : State).setVm s₂.vm).frames = .java g₀ :: r := hr
  rcases hq' with ⟨hqc, L, hfe, hL⟩ | ⟨q, rfl, E, ce, L, hx, hce, hcv, hcl, hW₂, hsm, hL⟩
  · obtain ⟨⟨v, rfl⟩, hW₂, e2, q2, q3, q4, q5, q6⟩ := id hfe
    have e3 : s₂ = ({ (U.calling g mk a).setFrames s₂.frames with heap := s₂.heap, slotsUsed := s₂.slotsUsed } : State).setVm s₂.vm := by
      have : s₂ = ({ s₂ with vm := (U.calling g mk a).vm } : State).setVm s₂.vm := rfl
      rw [e2] at this
      exact this
    obtain ⟨c₂, i₂, len₂, hc₂, hd₂, hf₂⟩ := hend
    have hW' : U.WarmedH s₂.vm := hW₂
    have hcc : c₂ = c := by
      have h1 : s₂.code? g.method = U.code? g.method := by
        rw [State.code?_eq, State.code?_eq, hW'.alike.method?]
      exact Option.some.inj (hc₂.symm.trans (h1.trans h.code))
    subst hcc
    have hlen : len₂ = len := by rw [hdg] at hd₂; cases hd₂; rfl
    subst hlen
    have hs₂ : s₂ = (({ U with heap := s₂.heap, slotsUsed := s₂.slotsUsed } : State).setVm s₂.vm).setTop { g with pc := g.pc + len₂, stack := v.toList ++ g.stack } := by
      refine e3.trans ?_
      rw [hf₂, State.calling_eq h.top, State.setFrames_setFrames, State.setTop_of_frames _ hr', hr]
      rfl
    have hsame : U.sameButNew ({ U with heap := s₂.heap, slotsUsed := s₂.slotsUsed } : State) L mc ms := by
      refine ⟨?_, q2, q3, q4, q5, q6⟩
      obtain ⟨t, ht, -⟩ := State.frames_cons hr
      show ({ U with heap := s₂.heap, slotsUsed := s₂.slotsUsed } : State) = { U.setFrames U.frames with heap := s₂.heap, slotsUsed := s₂.slotsUsed }
      rw [State.setFrames_self ht]
    subst hg
    refine Or.inl ⟨v, ⟨(({ U with heap := s₂.heap, slotsUsed := s₂.slotsUsed } : State).setVm s₂.vm), Ls ++ L, c0 + mc, s0 + ms⟩,
      ⟨X.admits, X.cas, X.clock, X.frames, X.room, X.hears, X.method, X.code, (X.here.setHeapUsed s₂.heap s₂.slotsUsed).setVm hW'.alike, X.tail, State.WarmedH.trans X.warmed hW', X.limits, X.bytes, X.same.trans (hsame.setVm s.vm)⟩,
      ⟨g, mk, s₂, L, rfl, rfl, hqc, rfl, hL, rfl, rfl⟩, ?_⟩
    show Steps p.tables e below _ ((({ U with heap := s₂.heap, slotsUsed := s₂.slotsUsed } : State).setVm s₂.vm).setTop { g with pc := g.pc + len₂, stack := v.toList ++ g.stack })
    rw [← hs₂]
    exact hsteps
  · obtain ⟨e2, q2, q3, q4, q5, q6⟩ := id hsm
    have e3 : s₂ = ({ (U.calling g mk a).setFrames s₂.frames with heap := s₂.heap, slotsUsed := s₂.slotsUsed } : State).setVm s₂.vm := by
      have : s₂ = ({ s₂ with vm := (U.calling g mk a).vm } : State).setVm s₂.vm := rfl
      rw [e2] at this
      exact this
    have hf₂ : s₂.frames = .throwing q :: .java g :: U.frames.tail := hend
    have hW' : U.WarmedH s₂.vm := hW₂
    have hs₂ : s₂ = ((({ U with heap := s₂.heap, slotsUsed := s₂.slotsUsed } : State).setVm s₂.vm).setTop g).pushFrame (.throwing q) := by
      refine e3.trans ?_
      rw [hf₂, State.calling_eq h.top, State.setFrames_setFrames, State.pushFrame, State.frames_setTop _ hr', State.setTop_of_frames _ hr', State.setFrames_setFrames, hr]
      rfl
    have hsame : U.sameButNew ({ U with heap := s₂.heap, slotsUsed := s₂.slotsUsed } : State) L mc ms := by
      refine ⟨?_, q2, q3, q4, q5, q6⟩
      obtain ⟨t, ht, -⟩ := State.frames_cons hr
      show ({ U with heap := s₂.heap, slotsUsed := s₂.slotsUsed } : State) = { U.setFrames U.frames with heap := s₂.heap, slotsUsed := s₂.slotsUsed }
      rw [State.setFrames_self ht]
    subst hg
    refine Or.inr ⟨q, ⟨(({ U with heap := s₂.heap, slotsUsed := s₂.slotsUsed } : State).setVm s₂.vm), Ls ++ L, c0 + mc, s0 + ms⟩,
      ⟨X.admits, X.cas, X.clock, X.frames, X.room, X.hears, X.method, X.code, (X.here.setHeapUsed s₂.heap s₂.slotsUsed).setVm hW'.alike, X.tail, State.WarmedH.trans X.warmed hW', X.limits, X.bytes, X.same.trans (hsame.setVm s.vm)⟩,
      ⟨g, mk, s₂, L, E, ce, rfl, rfl, hx, hce, hcv, hcl, rfl, hL, rfl, rfl⟩, ?_⟩
    show Steps p.tables e below _ (((({ U with heap := s₂.heap, slotsUsed := s₂.slotsUsed } : State).setVm s₂.vm).setTop g).pushFrame (.throwing q))
    rw [← hs₂]
    exact hsteps
end
variable {p : Program} {l : Launch} {e : Env} {R : Room} {s : State} {m : MethodId} {args : Array Value} {below : List Frame} {meth : Method} {c : Code} {T : State} {H : Heap} {locs : List Loc} {cells slots : Nat}
theorem vx_callVX (X : Stand p l e R s m args below meth c T locs cells slots) (hexec : p.tables.exec = Jvm.exec) {own C : String} {index : Nat} {y : MethodName} {bytes : ByteArray} {maxL : Nat} {ret : Option FieldType} {hh : List (Nat × Nat × Nat × Nat)}
    (hown : s.vm.findClass own = some m.cls) (hlink : (Cond.methodLink own index y).before args s = true) (hinst : (Cond.instanceMethod y).before args s = true) (hsel : (Cond.selects C y y).before args s = true)
    (hcode : (Cond.codeWith y bytes maxL ret hh).before args s = true) (hy : y.cls ≠ "java/lang/invoke/MethodHandle" ∧ y.cls ≠ "java/lang/invoke/VarHandle")
    {W9 : Nat} {Pre : Pt → Array Value → Prop} {Post : Pt → Array Value → Option Value → Pt → Prop} {PostX : Pt → Array Value → Addr → Pt → Prop} (hK : vx_Back l R p e below s args y 3 W9 Pre Post PostX)
    {b : Addr} {cellB : Cell} (hcell : T.heap[b]? = some cellB) (hobj : cellB.vm.isStatics = false) (hcls : s.vm.findClass C = some cellB.cls)
    {g : JFrame} (hg : g.method = m) (hsize : g.locals.size = c.maxLocals) {argsL rest : List Value} (hlen : ∀ sig, parseMethodDescriptor y.desc = some sig → argsL.length = sig.parameters.length)
    (hstack : g.stack = argsL.reverse ++ .ref b :: rest) (hW : 2 * g.monitorRoom + (rest.map fun v => v.category).sum ≤ W9) (hdg : decode c.code g.pc = .ok (.invokevirtual index, 3))
    (hpre : ∀ vm₁, s.WarmedH vm₁ → Pre ⟨T.setVm vm₁, locs, cells, slots⟩ (Value.ref b :: argsL).toArray) :
    (∃ (v : Option Value) (vm₁ : Vm) (B : Pt), s.WarmedH vm₁ ∧ Stand p l e R s m args below meth c B.U B.locs B.cells B.slots ∧ Post ⟨T.setVm vm₁, locs, cells, slots⟩ (Value.ref b :: argsL).toArray v B ∧
      ∀ target, Steps p.tables e below (B.U.setTop { g with pc := g.pc + 3, stack := v.toList ++ rest }) target → Steps p.tables e below (T.setTop g) target) ∨
    (∃ (q : Addr) (vm₁ : Vm) (B : Pt), s.WarmedH vm₁ ∧ Stand p l e R s m args below meth c B.U B.locs B.cells B.slots ∧ PostX ⟨T.setVm vm₁, locs, cells, slots⟩ (Value.ref b :: argsL).toArray q B ∧
      Steps p.tables e below (T.setTop g) ((B.U.setTop { g with stack := rest }).pushFrame (.throwing q))) := by
  obtain ⟨mk, methM, hnamed, hmethM, hstM, habM⟩ := Cond.instanceMethod_spec hinst
  obtain ⟨m8, methM', cM, hn8, hmethM', -, -, -, -, -, -, hsigM⟩ := Cond.codeWith_spec hcode
  cases Option.some.inj (hn8.symm.trans hnamed)
  cases hmethM.symm.trans hmethM'
  obtain ⟨c2, r2, m2, q1, q2, q3, q4, kP, hkP, hkPi⟩ := Cond.selects_spec hsel
  cases hcls.symm.trans q1
  cases (State.methodFound?_of_named hnamed hy).symm.trans q2
  cases hnamed.symm.trans q3
  have hselP : selectMethod e.platform s.vm cellB.cls mk = .method mk := by rw [Launch.admits_selectMethod X.admits]; exact q4
  obtain ⟨vm₁, X₁, hstep₁⟩ := X.invokevirtual hexec hown hlink hnamed hmethM hstM hkP hkPi hy (a := b) (cell := cellB) hcell
    (fun z h => by rw [h] at hobj; cases hobj) hselP hmethM habM hkP hkPi (g := g) hg (argsL := argsL) (rest := rest) (hlen _ hsigM) hstack hdg
  rcases hK m meth c ⟨T.setVm vm₁, locs, cells, slots⟩ { g with stack := rest } (.invokevirtual index) mk (Value.ref b :: argsL).toArray X₁ hg hsize hdg hW (X₁.named hnamed) (hpre vm₁ X₁.warmed) with ⟨v, B, X', hpost, hsteps⟩ | ⟨q, B, X', hpost, hsteps⟩
  · exact Or.inl ⟨v, vm₁, B, X₁.warmed, X', hpost, fun target h => hstep₁ _ fun acts => by rw [doInvoke_state]; exact hsteps.trans h⟩
  · exact Or.inr ⟨q, vm₁, B, X₁.warmed, X', hpost, hstep₁ _ fun acts => by rw [doInvoke_state]; exact hsteps⟩
theorem vx_callSX (X : Stand p l e R s m args below meth c T locs cells slots) (hexec : p.tables.exec = Jvm.exec) {own : String} {index : Nat} {y : MethodName} {bytes : ByteArray} {maxL : Nat} {ret : Option FieldType} {hh : List (Nat × Nat × Nat × Nat)}
    (hown : s.vm.findClass own = some m.cls) (hlink : (Cond.methodLink own index y).before args s = true) (hstat : (Cond.static y).before args s = true) (hinit : (Cond.initialized y.cls).before args s = true)
    (hcode : (Cond.codeWith y bytes maxL ret hh).before args s = true) (hy : y.cls ≠ "java/lang/invoke/MethodHandle" ∧ y.cls ≠ "java/lang/invoke/VarHandle")
    {W9 : Nat} {Pre : Pt → Array Value → Prop} {Post : Pt → Array Value → Option Value → Pt → Prop} {PostX : Pt → Array Value → Addr → Pt → Prop} (hK : vx_Back l R p e below s args y 3 W9 Pre Post PostX)
    {g : JFrame} (hg : g.method = m) (hsize : g.locals.size = c.maxLocals) {argsL rest : List Value} (hlen : ∀ sig, parseMethodDescriptor y.desc = some sig → argsL.length = sig.parameters.length)
    (hstack : g.stack = argsL.reverse ++ rest) (hW : 2 * g.monitorRoom + (rest.map fun v => v.category).sum ≤ W9) (hdg : decode c.code g.pc = .ok (.invokestatic index, 3))
    (hpre : ∀ vm₁, s.WarmedH vm₁ → Pre ⟨T.setVm vm₁, locs, cells, slots⟩ argsL.toArray) :
    (∃ (v : Option Value) (vm₁ : Vm) (B : Pt), s.WarmedH vm₁ ∧ Stand p l e R s m args below meth c B.U B.locs B.cells B.slots ∧ Post ⟨T.setVm vm₁, locs, cells, slots⟩ argsL.toArray v B ∧
      ∀ target, Steps p.tables e below (B.U.setTop { g with pc := g.pc + 3, stack := v.toList ++ rest }) target → Steps p.tables e below (T.setTop g) target) ∨
    (∃ (q : Addr) (vm₁ : Vm) (B : Pt), s.WarmedH vm₁ ∧ Stand p l e R s m args below meth c B.U B.locs B.cells B.slots ∧ PostX ⟨T.setVm vm₁, locs, cells, slots⟩ argsL.toArray q B ∧
      Steps p.tables e below (T.setTop g) ((B.U.setTop { g with stack := rest }).pushFrame (.throwing q))) := by
  obtain ⟨mk, methM, cM, hnamed, hmethM, -, -, -, -, -, -, hsigM⟩ := Cond.codeWith_spec hcode
  have hstatic : methM.isStatic = true := Cond.static_spec hnamed hmethM hstat
  obtain ⟨kP, hkP, -⟩ := className_of_methodNamed hnamed
  have hinitP : kP.init = .initialized := Cond.initialized_spec (findClass_of_methodNamed hnamed) hkP hinit
  obtain ⟨vm₁, X₁, hstep₁⟩ := X.invokestatic hexec hown hlink hnamed hmethM hstatic hkP hinitP hy (g := g) hg (argsL := argsL) (rest := rest) (hlen _ hsigM) hstack hdg
  rcases hK m meth c ⟨T.setVm vm₁, locs, cells, slots⟩ { g with stack := rest } (.invokestatic index) mk argsL.toArray X₁ hg hsize hdg hW (X₁.named hnamed) (hpre vm₁ X₁.warmed) with ⟨v, B, X', hpost, hsteps⟩ | ⟨q, B, X', hpost, hsteps⟩
  · exact Or.inl ⟨v, vm₁, B, X₁.warmed, X', hpost, fun target h => hstep₁ _ fun acts => by rw [doInvoke_state]; exact hsteps.trans h⟩
  · exact Or.inr ⟨q, vm₁, B, X₁.warmed, X', hpost, hstep₁ _ fun acts => by rw [doInvoke_state]; exact hsteps⟩
theorem vx_callVW (X : Stand p l e R s m args below meth c T locs cells slots) (hexec : p.tables.exec = Jvm.exec) {own C : String} {index : Nat} {y : MethodName} {bytes : ByteArray} {maxL : Nat} {ret : Option FieldType} {hh : List (Nat × Nat × Nat × Nat)}
    (hown : s.vm.findClass own = some m.cls) (hlink : (Cond.methodLink own index y).before args s = true) (hinst : (Cond.instanceMethod y).before args s = true) (hsel : (Cond.selects C y y).before args s = true)
    (hcode : (Cond.codeWith y bytes maxL ret hh).before args s = true) (hy : y.cls ≠ "java/lang/invoke/MethodHandle" ∧ y.cls ≠ "java/lang/invoke/VarHandle")
    {W9 : Nat} {Pre : Pt → Array Value → Prop} {Post : Pt → Array Value → Option Value → Pt → Prop} (hK : Back l R p e below s args y 3 W9 Pre Post)
    {b : Addr} {cellB : Cell} (hcell : T.heap[b]? = some cellB) (hobj : cellB.vm.isStatics = false) (hcls : s.vm.findClass C = some cellB.cls)
    {g : JFrame} (hg : g.method = m) (hsize : g.locals.size = c.maxLocals) {argsL rest : List Value} (hlen : ∀ sig, parseMethodDescriptor y.desc = some sig → argsL.length = sig.parameters.length)
    (hstack : g.stack = argsL.reverse ++ .ref b :: rest) (hW : 2 * g.monitorRoom + (rest.map fun v => v.category).sum ≤ W9) (hdg : decode c.code g.pc = .ok (.invokevirtual index, 3))
    (hpre : ∀ vm₁, s.WarmedH vm₁ → Pre ⟨T.setVm vm₁, locs, cells, slots⟩ (Value.ref b :: argsL).toArray) :
    ∃ (v : Option Value) (vm₁ : Vm) (B : Pt), s.WarmedH vm₁ ∧ Stand p l e R s m args below meth c B.U B.locs B.cells B.slots ∧ Post ⟨T.setVm vm₁, locs, cells, slots⟩ (Value.ref b :: argsL).toArray v B ∧
      ∀ target, Steps p.tables e below (B.U.setTop { g with pc := g.pc + 3, stack := v.toList ++ rest }) target → Steps p.tables e below (T.setTop g) target := by
  obtain ⟨mk, methM, hnamed, hmethM, hstM, habM⟩ := Cond.instanceMethod_spec hinst
  obtain ⟨m8, methM', cM, hn8, hmethM', -, -, -, -, -, -, hsigM⟩ := Cond.codeWith_spec hcode
  cases Option.some.inj (hn8.symm.trans hnamed)
  cases hmethM.symm.trans hmethM'
  obtain ⟨c2, r2, m2, q1, q2, q3, q4, kP, hkP, hkPi⟩ := Cond.selects_spec hsel
  cases hcls.symm.trans q1
  cases (State.methodFound?_of_named hnamed hy).symm.trans q2
  cases hnamed.symm.trans q3
  have hselP : selectMethod e.platform s.vm cellB.cls mk = .method mk := by rw [Launch.admits_selectMethod X.admits]; exact q4
  obtain ⟨vm₁, X₁, hstep₁⟩ := X.invokevirtual hexec hown hlink hnamed hmethM hstM hkP hkPi hy (a := b) (cell := cellB) hcell
    (fun z h => by rw [h] at hobj; cases hobj) hselP hmethM habM hkP hkPi (g := g) hg (argsL := argsL) (rest := rest) (hlen _ hsigM) hstack hdg
  obtain ⟨v, B, X', hpost, hsteps⟩ := hK m meth c ⟨T.setVm vm₁, locs, cells, slots⟩ { g with stack := rest } (.invokevirtual index) mk (Value.ref b :: argsL).toArray X₁ hg hsize hdg hW (X₁.named hnamed) (hpre vm₁ X₁.warmed)
  exact ⟨v, vm₁, B, X₁.warmed, X', hpost, fun target h => hstep₁ _ fun acts => by rw [doInvoke_state]; exact hsteps.trans h⟩
abbrev vx_CVW (R : Room) (s : State) (args : Array Value) (own C : String) (index : Nat) (y : MethodName) (bytes : ByteArray) (maxL : Nat) (ret : Option FieldType) (hh : List (Nat × Nat × Nat × Nat)) (ws : List Cond) (rm : Room) (mc ms n : Nat) : Prop :=
  (rm.cells = mc ∧ rm.slots = ms ∧ rm.frames + 1 ≤ R.frames ∧ 8 + (maxL + 11) + rm.locals ≤ R.locals ∧ (∀ w ∈ ws, ∀ (a' : Array Value) (U : State), s.WarmedH U.vm → w.before a' U = true) ∧ Cond.codeWith y bytes maxL ret hh ∈ ws) ∧
  (Cond.codeWith y bytes maxL ret hh).before args s = true ∧ (Cond.initialized y.cls).before args s = true ∧ (y.cls ≠ "java/lang/invoke/MethodHandle" ∧ y.cls ≠ "java/lang/invoke/VarHandle") ∧
  (∀ sig, parseMethodDescriptor y.desc = some sig → n = sig.parameters.length) ∧ (Cond.methodLink own index y).before args s = true ∧ (Cond.instanceMethod y).before args s = true ∧ (Cond.selects C y y).before args s = true
theorem vx_cwVW {own C : String} {index maxL mc ms : Nat} {y : MethodName} {bytes : ByteArray} {ret : Option FieldType} {hh : List (Nat × Nat × Nat × Nat)} {Ts ws ws' : List Cond} {rm : Room} (n : Nat) (ht : ∀ w ∈ Ts, w.before args s = true) (hT : GoodIn Ts (wsV own index C y ws)) (hw : ws = Cond.codeWith y bytes maxL ret hh :: ws') (hrc : rm.cells = mc) (hrs : rm.slots = ms)
    (hd : y.cls = C ∧ y.cls ≠ "java/lang/invoke/MethodHandle" ∧ y.cls ≠ "java/lang/invoke/VarHandle" ∧ (parseMethodDescriptor y.desc).map (fun d => d.parameters.length) = some n) (hR : rm.frames + 1 ≤ R.frames ∧ 8 + (maxL + 11) + rm.locals ≤ R.locals) :
    vx_CVW R s args own C index y bytes maxL ret hh ws rm mc ms n := by
  obtain ⟨hC, hd⟩ := hd
  subst hC
  have ok : ∀ w ∈ wsV own index y.cls y ws, w.before args s = true := fun w h => ht w (hT w h).1
  have hG : GoodIn Ts ws := fun w h => hT w (by unfold wsV; exact List.mem_append_right _ h)
  have hc : Cond.codeWith y bytes maxL ret hh ∈ ws := by rw [hw]; exact List.mem_cons_self
  refine ⟨⟨hrc, hrs, hR.1, hR.2, pay_in ht hG, hc⟩, ht _ (hG _ hc).1, ok _ (by simp [wsV]), ⟨hd.1, hd.2.1⟩, fun sig h => ?_, ok _ (by simp [wsV]), ok _ (by simp [wsV]), ok _ (by simp [wsV])⟩
  have h2 := hd.2.2
  rw [h] at h2
  exact (Option.some.inj h2).symm
theorem vx_runVW {y : MethodName} {bytes cc : ByteArray} {maxL nL mc ms n index : Nat} {ret : Option FieldType} {hh : List (Nat × Nat × Nat × Nat)} {ws : List Cond} {rm : Room} {Pc : Array Value → State → Prop} {Qc : Array Value → State → Outcome → State → Prop} {free : Addr → Prop} {Ts : List Cond} {own C : String} {b : Addr} {As rest : List Value} {g : JFrame}
    (S : CallFix p m c cc nL s args Ts own) (hM : Met l y ws rm Pc Qc mc ms free) (cw : vx_CVW R s args own C index y bytes maxL ret hh ws rm mc ms n) (hp : PreV s H C b Pc As)
    (hg : g.method = m) (hn : As.length = n) (hsize : g.locals.size = nL) (hstack : g.stack = As.reverse ++ .ref b :: rest) (hW : 2 * g.monitorRoom + (rest.map fun v => v.category).sum ≤ 8) (hdg : decode cc g.pc = .ok (.invokevirtual index, 3)) (hf : cells + mc ≤ R.cells ∧ slots + ms ≤ R.slots) :
    va_Run p l e R s m args below meth c H locs cells slots mc ms g rest (Qc (Value.ref b :: As).toArray) free := by
  obtain ⟨⟨hrc, hrs, hfr, hlo, hws, hcw⟩, hcode, hini, hy, hlen, hl, hin, hse⟩ := cw
  have hK : Back l R p e below s args y 3 8 (PreOf R mc ms Pc) (PostOf Qc mc ms free) := va_backW (hh := hh) (bytes := bytes) (maxL := maxL) (ret := ret) hM hp.1 hrc hrs hfr hlo hws hcw (fun a' U hW => word_at hW (Or.inl (by first | rfl | simp [Cond.onTables, Cond.keeps, Cond.steady])) hini)
  obtain ⟨hx, hb, hml, ho, -⟩ := S
  obtain ⟨-, ⟨cellB, hcB, hoB, hclB⟩, hPc⟩ := hp
  intro T hT X
  obtain ⟨v, vm₁, ⟨U', l2, c2, s2⟩, hW₁, X', ⟨g', mk, t, L, e1, e2, hq, h1, hL, h2, h3⟩, st⟩ := vx_callVW X hx (C := C) (hh := hh) (bytes := bytes) (maxL := maxL) (ret := ret) ho hl hin hse hcode hy hK (by rw [hT]; exact hcB) hoB hclB hg (hsize.trans hml.symm) (argsL := As) (rest := rest) (fun sig h => hn.trans (hlen sig h)) hstack hW (by rw [hb]; exact hdg)
    (fun vm₁ hW₁ => ⟨hf.1, hf.2, hPc (T.setVm vm₁) hT hW₁⟩)
  dsimp only [Pt.U, Pt.locs, Pt.cells, Pt.slots] at X' e1 e2 h1 h2 h3 st
  subst h1; subst h2; subst h3
  exact ⟨v, (T.setVm vm₁).calling g' mk (Value.ref b :: As).toArray, t, U', L, hT, X', hL, e1, e2, hq, st⟩
section
variable {y : MethodName} {bytes cc : ByteArray} {maxL nL mc ms n index : Nat} {ret : Option FieldType} {ws : List Cond} {rm : Room} {Pc : Array Value → State → Prop} {Qc : Array Value → State → Outcome → State → Prop} {XC : String → State → State → Prop} {free : Addr → Prop} {Ts : List Cond} {own C : String} {b : Addr} {As rest : List Value} {g : JFrame}
theorem vx_runVX {hh : List (Nat × Nat × Nat × Nat)} (S : CallFix p m c cc nL s args Ts own) (hM : vx_Met l y ws rm Pc Qc XC mc ms free) (cw : vx_CVW R s args own C index y bytes maxL ret hh ws rm mc ms n) (hp : PreV s H C b Pc As)
    (hg : g.method = m) (hn : As.length = n) (hsize : g.locals.size = nL) (hstack : g.stack = As.reverse ++ .ref b :: rest) (hW : 2 * g.monitorRoom + (rest.map fun v => v.category).sum ≤ 8) (hdg : decode cc g.pc = .ok (.invokevirtual index, 3)) (hf : cells + mc ≤ R.cells ∧ slots + ms ≤ R.slots) :
    vx_Run p l e R s m args below meth c H locs cells slots mc ms g rest (Qc (Value.ref b :: As).toArray) XC free := by
  obtain ⟨⟨hrc, hrs, hfr, hlo, hws, hcw⟩, hcode, hini, hy, hlen, hl, hin, hse⟩ := cw
  have hK : vx_Back l R p e below s args y 3 8 (PreOf R mc ms Pc) (PostOf Qc mc ms free) (vx_Post XC mc ms free) := vx_backW (hh := hh) (bytes := bytes) (maxL := maxL) (ret := ret) hM hp.1 hrc hrs hfr hlo hws hcw (fun a' U hW => word_at hW (Or.inl (by first | rfl | simp [Cond.onTables, Cond.keeps, Cond.steady])) hini)
  obtain ⟨hx, hb, hml, ho, -⟩ := S
  obtain ⟨-, ⟨cellB, hcB, hoB, hclB⟩, hPc⟩ := hp
  intro T hT X
  rcases vx_callVX X hx (C := C) (hh := hh) (bytes := bytes) (maxL := maxL) (ret := ret) ho hl hin hse hcode hy hK (by rw [hT]; exact hcB) hoB hclB hg (hsize.trans hml.symm) (argsL := As) (rest := rest) (fun sig h => hn.trans (hlen sig h)) hstack hW (by rw [hb]; exact hdg)
    (fun vm₁ hW₁ => ⟨hf.1, hf.2, hPc (T.setVm vm₁) hT hW₁⟩) with ⟨v, vm₁, ⟨U', l2, c2, s2⟩, hW₁, X', ⟨g', mk, t, L, e1, e2, hq, h1, hL, h2, h3⟩, st⟩ | ⟨q, vm₁, ⟨U', l2, c2, s2⟩, hW₁, X', ⟨g', mk, t, L, E, ce, e1, e2, hq, hce, hcv, hcl, h1, hL, h2, h3⟩, st⟩
  · dsimp only [Pt.U, Pt.locs, Pt.cells, Pt.slots] at X' e1 e2 h1 h2 h3 st
    subst h1; subst h2; subst h3
    exact Or.inl ⟨v, (T.setVm vm₁).calling g' mk (Value.ref b :: As).toArray, t, U', L, hT, X', hL, e1, e2, hq, st⟩
  · dsimp only [Pt.U, Pt.locs, Pt.cells, Pt.slots] at X' e1 e2 h1 h2 h3 st hcl
    subst h1; subst h2; subst h3
    exact Or.inr ⟨q, (T.setVm vm₁).calling g' mk (Value.ref b :: As).toArray, t, U', L, E, ce, hT, X', hL, e1, e2, hq, hce, hcv, vx_cls hW₁ hcl, st⟩
theorem vx_runSX {hh : List (Nat × Nat × Nat × Nat)} (S : CallFix p m c cc nL s args Ts own) (hM : vx_Met l y ws rm Pc Qc XC mc ms free) (cw : vx_CSW R s args own index y bytes maxL ret hh ws rm mc ms n) (hp : PreS s H Pc As)
    (hg : g.method = m) (hn : As.length = n) (hsize : g.locals.size = nL) (hstack : g.stack = As.reverse ++ rest) (hW : 2 * g.monitorRoom + (rest.map fun v => v.category).sum ≤ 8) (hdg : decode cc g.pc = .ok (.invokestatic index, 3)) (hf : cells + mc ≤ R.cells ∧ slots + ms ≤ R.slots) :
    vx_Run p l e R s m args below meth c H locs cells slots mc ms g rest (Qc As.toArray) XC free := by
  obtain ⟨⟨hrc, hrs, hfr, hlo, hws, hcw⟩, hcode, hini, hy, hlen, hl, hstt⟩ := cw
  have hK : vx_Back l R p e below s args y 3 8 (PreOf R mc ms Pc) (PostOf Qc mc ms free) (vx_Post XC mc ms free) := vx_backW (hh := hh) (bytes := bytes) (maxL := maxL) (ret := ret) hM hp.1 hrc hrs hfr hlo hws hcw (fun a' U hW => word_at hW (Or.inl (by first | rfl | simp [Cond.onTables, Cond.keeps, Cond.steady])) hini)
  obtain ⟨hx, hb, hml, ho, -⟩ := S
  intro T hT X
  rcases vx_callSX X hx (hh := hh) (bytes := bytes) (maxL := maxL) (ret := ret) ho hl hstt hini hcode hy hK hg (hsize.trans hml.symm) (argsL := As) (rest := rest) (fun sig h => hn.trans (hlen sig h)) hstack hW (by rw [hb]; exact hdg)
    (fun vm₁ hW₁ => ⟨hf.1, hf.2, hp.2 (T.setVm vm₁) hT hW₁⟩) with ⟨v, vm₁, ⟨U', l2, c2, s2⟩, hW₁, X', ⟨g', mk, t, L, e1, e2, hq, h1, hL, h2, h3⟩, st⟩ | ⟨q, vm₁, ⟨U', l2, c2, s2⟩, hW₁, X', ⟨g', mk, t, L, E, ce, e1, e2, hq, hce, hcv, hcl, h1, hL, h2, h3⟩, st⟩
  · dsimp only [Pt.U, Pt.locs, Pt.cells, Pt.slots] at X' e1 e2 h1 h2 h3 st
    subst h1; subst h2; subst h3
    exact Or.inl ⟨v, (T.setVm vm₁).calling g' mk As.toArray, t, U', L, hT, X', hL, e1, e2, hq, st⟩
  · dsimp only [Pt.U, Pt.locs, Pt.cells, Pt.slots] at X' e1 e2 h1 h2 h3 st hcl
    subst h1; subst h2; subst h3
    exact Or.inr ⟨q, (T.setVm vm₁).calling g' mk As.toArray, t, U', L, E, ce, hT, X', hL, e1, e2, hq, hce, hcv, vx_cls hW₁ hcl, st⟩
end
end VXH
theorem vx_ofWH {l : Launch} {y : MethodName} {ws ws' : List Cond} {rm : Room} {Pc : Array Value → State → Prop} {Qc : Array Value → State → Outcome → State → Prop} {XC : String → State → State → Prop} {mc ms : Nat} {free : Addr → Prop} {cc : ByteArray} {maxL : Nat} {ret : Option FieldType} {hh : List (Nat × Nat × Nat × Nat)}
    (hy : plainName y.cls = true) (hw : ws = Cond.codeWith y cc maxL ret hh :: ws')
    (body : ∀ p e s m args below meth c s₁, BodyLoose p l y (headSpec ws rm) cc maxL ret e s m args below meth c s₁ → c.maxLocals = maxL → Pc args s →
      W p l e (headSpec ws rm).room s m args below meth c s.heap [] 0 0 (vx_MQ below Qc XC args s mc ms free) (entryFrame m args maxL)) : vx_Met l y ws rm Pc Qc XC mc ms free := by
  refine MetFree.of_bodyS (code := cc) (maxLocals := maxL) (ret := ret) hy ?_ ?_
  · intro args s m h hn
    obtain ⟨m9, meth, c, hn9, h1, h2, h3, h4, -, h5, h6, -⟩ := Cond.codeWith_spec (atoms_spec (ws := ws) h _ (by rw [hw]; exact List.mem_cons_self))
    cases hn.symm.trans hn9
    exact ⟨meth, c, h1, h2, h3, h4, h5, h6⟩
  · intro p e s m args below meth c s₁ B hml hP _
    have hh0 : s₁.heap = s.heap := by rw [B.state]; rfl
    obtain ⟨t, a1, o, b1, b2, b3⟩ := body p e s m args below meth c s₁ B hml hP s₁ hh0 (Stand.of_body B)
    exact ⟨t, o, a1, b1, b2, b3⟩
/-! ===== END ===== -/
end
section
/-! names, fields, methods: out of the printed list -/
def RX0 : String := "TapeRings$Echo"
def TX0 : u_T := fun k => match k with
  | 0 => ("TapeRings$Echo", "stop", "I", false)
  | 1 => ("TapeRings$Echo", "comesBack", "[I", true)
  | 2 => ("TapeRings$Echo", "weights", "[I", true)
  | 3 => ("TapeRings$Echo", "firstDelay", "I", false)
  | 4 => ("TapeRings$Echo", "firstGain", "I", false)
  | 5 => ("TapeRings$Echo", "secondDelay", "I", false)
  | 6 => ("TapeRings$Echo", "secondGain", "I", false)
  | _ => ("TapeRings$Echo", "outs", "[I", true)
def tyX0 : Nat → FieldType := fun k => match k with
  | 0 => .int
  | 1 => .array .int
  | 2 => .array .int
  | 3 => .int
  | 4 => .int
  | 5 => .int
  | 6 => .int
  | _ => .array .int
theorem nmX0 : ∀ a, a < 8 → ∀ b, b < 8 → a ≠ b → (TX0 a).2.1 ≠ (TX0 b).2.1 := by decide +kernel
theorem tyX0_ok : ∀ k, k < 8 → parseFieldDescriptor (TX0 k).2.2.1 = some (tyX0 k) := by decide +kernel
abbrev cX0_init : ByteArray := prog_2_method_1_code
def yX0_init : MethodName := ⟨RX0, "<init>", "()V"⟩
abbrev cX0_weigh : ByteArray := prog_2_method_2_code
def yX0_weigh : MethodName := ⟨RX0, "weigh", "(II)I"⟩
abbrev cX0_place : ByteArray := prog_2_method_3_code
def yX0_place : MethodName := ⟨RX0, "place", "(IIII)V"⟩
abbrev cX0_run : ByteArray := prog_2_method_4_code
def yX0_run : MethodName := ⟨RX0, "run", "(LTapeRings$Studio;I)V"⟩
abbrev cX0_loudness : ByteArray := prog_2_method_5_code
def yX0_loudness : MethodName := ⟨RX0, "loudness", "(I)I"⟩
abbrev cX0_behind : ByteArray := prog_2_method_6_code
def yX0_behind : MethodName := ⟨RX0, "behind", "(II)I"⟩
abbrev cX0_outAt : ByteArray := prog_2_method_7_code
def yX0_outAt : MethodName := ⟨RX0, "outAt", "(I)I"⟩
abbrev cX0_fate : ByteArray := prog_2_method_8_code
def yX0_fate : MethodName := ⟨RX0, "fate", "(LTapeRings$Studio;)I"⟩
abbrev cX0_firstSilence : ByteArray := prog_2_method_9_code
def yX0_firstSilence : MethodName := ⟨RX0, "firstSilence", "()I"⟩
abbrev cX0_comesBackIn : ByteArray := prog_2_method_10_code
def yX0_comesBackIn : MethodName := ⟨RX0, "comesBackIn", "()I"⟩
abbrev cX0_alike : ByteArray := prog_2_method_11_code
def yX0_alike : MethodName := ⟨RX0, "alike", "(II)Z"⟩
def RX1 : String := "TapeRings$Meeting"
def TX1 : u_T := fun k => match k with
  | 0 => ("TapeRings$Meeting", "count", "I", false)
  | 1 => ("TapeRings$Meeting", "steady", "J", false)
  | 2 => ("TapeRings$Meeting", "rounds", "[I", true)
  | _ => ("TapeRings$Meeting", "turns", "[I", true)
def tyX1 : Nat → FieldType := fun k => match k with
  | 0 => .int
  | 1 => .long
  | 2 => .array .int
  | _ => .array .int
theorem nmX1 : ∀ a, a < 4 → ∀ b, b < 4 → a ≠ b → (TX1 a).2.1 ≠ (TX1 b).2.1 := by decide +kernel
theorem tyX1_ok : ∀ k, k < 4 → parseFieldDescriptor (TX1 k).2.2.1 = some (tyX1 k) := by decide +kernel
abbrev cX1_init : ByteArray := prog_3_method_1_code
def yX1_init : MethodName := ⟨RX1, "<init>", "()V"⟩
abbrev cX1_look : ByteArray := prog_3_method_2_code
def yX1_look : MethodName := ⟨RX1, "look", "(LTapeRings$Studio;)V"⟩
abbrev cX1_turnsOf : ByteArray := prog_3_method_3_code
def yX1_turnsOf : MethodName := ⟨RX1, "turnsOf", "(LTapeRings$Studio;LTapeRings$Ring;I)I"⟩
abbrev cX1_allTicks : ByteArray := prog_3_method_4_code
def yX1_allTicks : MethodName := ⟨RX1, "allTicks", "()J"⟩
abbrev cX1_howOften : ByteArray := prog_3_method_5_code
def yX1_howOften : MethodName := ⟨RX1, "howOften", "()J"⟩
abbrev cX1_sharedTicks : ByteArray := prog_3_method_6_code
def yX1_sharedTicks : MethodName := ⟨RX1, "sharedTicks", "()I"⟩
abbrev cX1_turnsAlike : ByteArray := prog_3_method_7_code
def yX1_turnsAlike : MethodName := ⟨RX1, "turnsAlike", "(III)I"⟩
abbrev cX1_first : ByteArray := prog_3_method_8_code
def yX1_first : MethodName := ⟨RX1, "first", "(LTapeRings$Studio;J)J"⟩
abbrev cX1_firstSteady : ByteArray := prog_3_method_9_code
def yX1_firstSteady : MethodName := ⟨RX1, "firstSteady", "(J)J"⟩
abbrev cX1_ticksToTurn : ByteArray := prog_3_method_10_code
def yX1_ticksToTurn : MethodName := ⟨RX1, "ticksToTurn", "(II)I"⟩
def RX2 : String := "TapeRings$Motor"
def TX2 : u_T := fun k => match k with
  | 0 => ("TapeRings$Motor", "ticks", "[I", true)
  | 1 => ("TapeRings$Motor", "speeds", "[I", true)
  | _ => ("TapeRings$Motor", "count", "I", false)
def tyX2 : Nat → FieldType := fun k => match k with
  | 0 => .array .int
  | 1 => .array .int
  | _ => .int
theorem nmX2 : ∀ a, a < 3 → ∀ b, b < 3 → a ≠ b → (TX2 a).2.1 ≠ (TX2 b).2.1 := by decide +kernel
theorem tyX2_ok : ∀ k, k < 3 → parseFieldDescriptor (TX2 k).2.2.1 = some (tyX2 k) := by decide +kernel
abbrev cX2_init : ByteArray := prog_4_method_1_code
def yX2_init : MethodName := ⟨RX2, "<init>", "()V"⟩
abbrev cX2_forget : ByteArray := prog_4_method_2_code
def yX2_forget : MethodName := ⟨RX2, "forget", "()V"⟩
abbrev cX2_tell : ByteArray := prog_4_method_3_code
def yX2_tell : MethodName := ⟨RX2, "tell", "(II)Z"⟩
abbrev cX2_steady : ByteArray := prog_4_method_4_code
def yX2_steady : MethodName := ⟨RX2, "steady", "()I"⟩
abbrev cX2_lastSpeed : ByteArray := prog_4_method_5_code
def yX2_lastSpeed : MethodName := ⟨RX2, "lastSpeed", "()I"⟩
abbrev cX2_wayTo : ByteArray := prog_4_method_6_code
def yX2_wayTo : MethodName := ⟨RX2, "wayTo", "(J)J"⟩
abbrev cX2_wayBy : ByteArray := prog_4_method_7_code
def yX2_wayBy : MethodName := ⟨RX2, "wayBy", "(JI)I"⟩
abbrev cX2_round : ByteArray := prog_4_method_8_code
def yX2_round : MethodName := ⟨RX2, "round", "(I)I"⟩
def RX3 : String := "TapeRings$OldTape"
def TX3 : u_T := fun k => match k with
  | 0 => ("TapeRings$OldTape", "places", "[I", true)
  | 1 => ("TapeRings$OldTape", "count", "I", false)
  | 2 => ("TapeRings$OldTape", "first", "[I", true)
  | _ => ("TapeRings$OldTape", "second", "[I", true)
def tyX3 : Nat → FieldType := fun k => match k with
  | 0 => .array .int
  | 1 => .int
  | 2 => .array .int
  | _ => .array .int
theorem nmX3 : ∀ a, a < 4 → ∀ b, b < 4 → a ≠ b → (TX3 a).2.1 ≠ (TX3 b).2.1 := by decide +kernel
theorem tyX3_ok : ∀ k, k < 4 → parseFieldDescriptor (TX3 k).2.2.1 = some (tyX3 k) := by decide +kernel
abbrev cX3_init : ByteArray := prog_5_method_1_code
def yX3_init : MethodName := ⟨RX3, "<init>", "()V"⟩
abbrev cX3_add : ByteArray := prog_5_method_2_code
def yX3_add : MethodName := ⟨RX3, "add", "(I)I"⟩
abbrev cX3_makeGap : ByteArray := prog_5_method_3_code
def yX3_makeGap : MethodName := ⟨RX3, "makeGap", "(I)Z"⟩
abbrev cX3_spanNumber : ByteArray := prog_5_method_4_code
def yX3_spanNumber : MethodName := ⟨RX3, "spanNumber", "(I)I"⟩
abbrev cX3_spanFits : ByteArray := prog_5_method_5_code
def yX3_spanFits : MethodName := ⟨RX3, "spanFits", "(I)Z"⟩
abbrev cX3_pairNumber : ByteArray := prog_5_method_6_code
def yX3_pairNumber : MethodName := ⟨RX3, "pairNumber", "(I)I"⟩
abbrev cX3_pairFits : ByteArray := prog_5_method_7_code
def yX3_pairFits : MethodName := ⟨RX3, "pairFits", "(II)Z"⟩
abbrev cX3_makeGreatest : ByteArray := prog_5_method_8_code
def yX3_makeGreatest : MethodName := ⟨RX3, "makeGreatest", "([II)V"⟩
abbrev cX3_mendedAt : ByteArray := prog_5_method_9_code
def yX3_mendedAt : MethodName := ⟨RX3, "mendedAt", "(I)I"⟩
def RX4 : String := "TapeRings$Pieces"
def TX4 : u_T := fun k => match k with
  | 0 => ("TapeRings$Pieces", "count", "I", false)
  | 1 => ("TapeRings$Pieces", "best", "[I", true)
  | 2 => ("TapeRings$Pieces", "bestLength", "I", false)
  | 3 => ("TapeRings$Pieces", "sounds", "[[I", true)
  | 4 => ("TapeRings$Pieces", "lengths", "[I", true)
  | _ => ("TapeRings$Pieces", "laid", "[I", true)
def tyX4 : Nat → FieldType := fun k => match k with
  | 0 => .int
  | 1 => .array .int
  | 2 => .int
  | 3 => .array (.array .int)
  | 4 => .array .int
  | _ => .array .int
theorem nmX4 : ∀ a, a < 6 → ∀ b, b < 6 → a ≠ b → (TX4 a).2.1 ≠ (TX4 b).2.1 := by decide +kernel
theorem tyX4_ok : ∀ k, k < 6 → parseFieldDescriptor (TX4 k).2.2.1 = some (tyX4 k) := by decide +kernel
abbrev cX4_init : ByteArray := prog_6_method_1_code
def yX4_init : MethodName := ⟨RX4, "<init>", "()V"⟩
abbrev cX4_add : ByteArray := prog_6_method_2_code
def yX4_add : MethodName := ⟨RX4, "add", "(II)I"⟩
abbrev cX4_digit : ByteArray := prog_6_method_3_code
def yX4_digit : MethodName := ⟨RX4, "digit", "(II)I"⟩
abbrev cX4_joinAll : ByteArray := prog_6_method_4_code
def yX4_joinAll : MethodName := ⟨RX4, "joinAll", "()I"⟩
abbrev cX4_layRest : ByteArray := prog_6_method_5_code
def yX4_layRest : MethodName := ⟨RX4, "layRest", "(LTapeRings$Pieces;III)V"⟩
abbrev cX4_layPiece : ByteArray := prog_6_method_6_code
def yX4_layPiece : MethodName := ⟨RX4, "layPiece", "(IZI)I"⟩
abbrev cX4_alike : ByteArray := prog_6_method_7_code
def yX4_alike : MethodName := ⟨RX4, "alike", "(IZII)Z"⟩
abbrev cX4_sound : ByteArray := prog_6_method_8_code
def yX4_sound : MethodName := ⟨RX4, "sound", "(IZI)I"⟩
abbrev cX4_keepBetter : ByteArray := prog_6_method_9_code
def yX4_keepBetter : MethodName := ⟨RX4, "keepBetter", "(I)V"⟩
abbrev cX4_laidIsLess : ByteArray := prog_6_method_10_code
def yX4_laidIsLess : MethodName := ⟨RX4, "laidIsLess", "(I)Z"⟩
def RX5 : String := "TapeRings$Planner"
def TX5 : u_T := fun k => match k with
  | 0 => ("TapeRings$Planner", "ticks", "[I", true)
  | 1 => ("TapeRings$Planner", "sounds", "[I", true)
  | 2 => ("TapeRings$Planner", "count", "I", false)
  | 3 => ("TapeRings$Planner", "plan", "[I", true)
  | 4 => ("TapeRings$Planner", "trueBy", "[[I", true)
  | 5 => ("TapeRings$Planner", "costs", "[[I", true)
  | 6 => ("TapeRings$Planner", "cheapest", "[I", true)
  | 7 => ("TapeRings$Planner", "under", "[I", true)
  | _ => ("TapeRings$Planner", "ways", "[I", true)
def tyX5 : Nat → FieldType := fun k => match k with
  | 0 => .array .int
  | 1 => .array .int
  | 2 => .int
  | 3 => .array .int
  | 4 => .array (.array .int)
  | 5 => .array (.array .int)
  | 6 => .array .int
  | 7 => .array .int
  | _ => .array .int
theorem nmX5 : ∀ a, a < 9 → ∀ b, b < 9 → a ≠ b → (TX5 a).2.1 ≠ (TX5 b).2.1 := by decide +kernel
theorem tyX5_ok : ∀ k, k < 9 → parseFieldDescriptor (TX5 k).2.2.1 = some (tyX5 k) := by decide +kernel
abbrev cX5_init : ByteArray := prog_7_method_1_code
def yX5_init : MethodName := ⟨RX5, "<init>", "()V"⟩
abbrev cX5_add : ByteArray := prog_7_method_2_code
def yX5_add : MethodName := ⟨RX5, "add", "(II)I"⟩
abbrev cX5_marksTrue : ByteArray := prog_7_method_3_code
def yX5_marksTrue : MethodName := ⟨RX5, "marksTrue", "(LTapeRings$Studio;)I"⟩
abbrev cX5_find : ByteArray := prog_7_method_4_code
def yX5_find : MethodName := ⟨RX5, "find", "(LTapeRings$Studio;)I"⟩
abbrev cX5_listTrue : ByteArray := prog_7_method_5_code
def yX5_listTrue : MethodName := ⟨RX5, "listTrue", "(LTapeRings$Ring;LTapeRings$Motor;[I)V"⟩
abbrev cX5_trueFrom : ByteArray := prog_7_method_6_code
def yX5_trueFrom : MethodName := ⟨RX5, "trueFrom", "(II)I"⟩
abbrev cX5_listCheapest : ByteArray := prog_7_method_7_code
def yX5_listCheapest : MethodName := ⟨RX5, "listCheapest", "(LTapeRings$Ring;[I)V"⟩
abbrev cX5_cost : ByteArray := prog_7_method_8_code
def yX5_cost : MethodName := ⟨RX5, "cost", "(LTapeRings$Ring;II)I"⟩
abbrev cX5_addCosts : ByteArray := prog_7_method_9_code
def yX5_addCosts : MethodName := ⟨RX5, "addCosts", "([I[I)V"⟩
abbrev cX5_choose : ByteArray := prog_7_method_10_code
def yX5_choose : MethodName := ⟨RX5, "choose", "(LTapeRings$Ring;II)I"⟩
abbrev cX5_carryOut : ByteArray := prog_7_method_11_code
def yX5_carryOut : MethodName := ⟨RX5, "carryOut", "(LTapeRings$Studio;)V"⟩
def RX6 : String := "TapeRings$Ring"
def TX6 : u_T := fun k => match k with
  | 0 => ("TapeRings$Ring", "strip", "LTapeRings$Strip;", true)
  | 1 => ("TapeRings$Ring", "motor", "I", false)
  | 2 => ("TapeRings$Ring", "start", "I", false)
  | 3 => ("TapeRings$Ring", "heads", "I", false)
  | 4 => ("TapeRings$Ring", "wish", "I", false)
  | _ => ("TapeRings$Ring", "under", "[I", true)
def tyX6 : Nat → FieldType := fun k => match k with
  | 0 => .object "TapeRings$Strip"
  | 1 => .int
  | 2 => .int
  | 3 => .int
  | 4 => .int
  | _ => .array .int
theorem nmX6 : ∀ a, a < 6 → ∀ b, b < 6 → a ≠ b → (TX6 a).2.1 ≠ (TX6 b).2.1 := by decide +kernel
theorem tyX6_ok : ∀ k, k < 6 → parseFieldDescriptor (TX6 k).2.2.1 = some (tyX6 k) := by decide +kernel
abbrev cX6_init : ByteArray := prog_8_method_1_code
def yX6_init : MethodName := ⟨RX6, "<init>", "()V"⟩
abbrev cX6_begin : ByteArray := prog_8_method_2_code
def yX6_begin : MethodName := ⟨RX6, "begin", "(LTapeRings$Strip;II)V"⟩
abbrev cX6_listen : ByteArray := prog_8_method_3_code
def yX6_listen : MethodName := ⟨RX6, "listen", "()V"⟩
abbrev cX6_fillUnder : ByteArray := prog_8_method_4_code
def yX6_fillUnder : MethodName := ⟨RX6, "fillUnder", "([II)V"⟩
abbrev cX6_soundsUnder : ByteArray := prog_8_method_5_code
def yX6_soundsUnder : MethodName := ⟨RX6, "soundsUnder", "(II)I"⟩
abbrev cX6_heardBehind : ByteArray := prog_8_method_6_code
def yX6_heardBehind : MethodName := ⟨RX6, "heardBehind", "(I)I"⟩
abbrev cX6_layOver : ByteArray := prog_8_method_7_code
def yX6_layOver : MethodName := ⟨RX6, "layOver", "(LTapeRings$Strip;IZ)I"⟩
abbrev cX6_putHead : ByteArray := prog_8_method_8_code
def yX6_putHead : MethodName := ⟨RX6, "putHead", "(IZ)I"⟩
abbrev cX6_cutBy : ByteArray := prog_8_method_9_code
def yX6_cutBy : MethodName := ⟨RX6, "cutBy", "(I)V"⟩
def RX7 : String := "TapeRings$Splicer"
def TX7 : u_T := fun k => match k with
  | 0 => ("TapeRings$Splicer", "signs", "[I", true)
  | 1 => ("TapeRings$Splicer", "count", "I", false)
  | 2 => ("TapeRings$Splicer", "level", "I", false)
  | 3 => ("TapeRings$Splicer", "ahead", "I", false)
  | 4 => ("TapeRings$Splicer", "rows", "[LTapeRings$Strip;", true)
  | 5 => ("TapeRings$Splicer", "terms", "[LTapeRings$Strip;", true)
  | _ => ("TapeRings$Splicer", "shared", "[I", true)
def tyX7 : Nat → FieldType := fun k => match k with
  | 0 => .array .int
  | 1 => .int
  | 2 => .int
  | 3 => .int
  | 4 => .array (.object "TapeRings$Strip")
  | 5 => .array (.object "TapeRings$Strip")
  | _ => .array .int
theorem nmX7 : ∀ a, a < 7 → ∀ b, b < 7 → a ≠ b → (TX7 a).2.1 ≠ (TX7 b).2.1 := by decide +kernel
theorem tyX7_ok : ∀ k, k < 7 → parseFieldDescriptor (TX7 k).2.2.1 = some (tyX7 k) := by decide +kernel
abbrev cX7_init : ByteArray := prog_9_method_1_code
def yX7_init : MethodName := ⟨RX7, "<init>", "()V"⟩
abbrev cX7_add : ByteArray := prog_9_method_2_code
def yX7_add : MethodName := ⟨RX7, "add", "(I)I"⟩
abbrev cX7_keepFirst : ByteArray := prog_9_method_3_code
def yX7_keepFirst : MethodName := ⟨RX7, "keepFirst", "(I)Z"⟩
abbrev cX7_putInto : ByteArray := prog_9_method_4_code
def yX7_putInto : MethodName := ⟨RX7, "putInto", "(LTapeRings$Strip;)I"⟩
abbrev cX7_firstWrong : ByteArray := prog_9_method_5_code
def yX7_firstWrong : MethodName := ⟨RX7, "firstWrong", "()I"⟩
abbrev cX7_behind : ByteArray := prog_9_method_6_code
def yX7_behind : MethodName := ⟨RX7, "behind", "(II)I"⟩
abbrev cX7_behindAtomStart : ByteArray := prog_9_method_7_code
def yX7_behindAtomStart : MethodName := ⟨RX7, "behindAtomStart", "(I)I"⟩
abbrev cX7_behindTermSign : ByteArray := prog_9_method_8_code
def yX7_behindTermSign : MethodName := ⟨RX7, "behindTermSign", "(I)I"⟩
abbrev cX7_isDigit : ByteArray := prog_9_method_9_code
def yX7_isDigit : MethodName := ⟨RX7, "isDigit", "(IC)Z"⟩
abbrev cX7_putTogether : ByteArray := prog_9_method_10_code
def yX7_putTogether : MethodName := ⟨RX7, "putTogether", "()I"⟩
abbrev cX7_readSign : ByteArray := prog_9_method_11_code
def yX7_readSign : MethodName := ⟨RX7, "readSign", "(I)I"⟩
abbrev cX7_readDigit : ByteArray := prog_9_method_12_code
def yX7_readDigit : MethodName := ⟨RX7, "readDigit", "(I)I"⟩
abbrev cX7_beginTerm : ByteArray := prog_9_method_13_code
def yX7_beginTerm : MethodName := ⟨RX7, "beginTerm", "(I)I"⟩
abbrev cX7_repeatTerm : ByteArray := prog_9_method_14_code
def yX7_repeatTerm : MethodName := ⟨RX7, "repeatTerm", "(I)I"⟩
abbrev cX7_layTerm : ByteArray := prog_9_method_15_code
def yX7_layTerm : MethodName := ⟨RX7, "layTerm", "()I"⟩
abbrev cX7_openRow : ByteArray := prog_9_method_16_code
def yX7_openRow : MethodName := ⟨RX7, "openRow", "()V"⟩
abbrev cX7_open : ByteArray := prog_9_method_17_code
def yX7_open : MethodName := ⟨RX7, "open", "()I"⟩
abbrev cX7_close : ByteArray := prog_9_method_18_code
def yX7_close : MethodName := ⟨RX7, "close", "()I"⟩
def RX8 : String := "TapeRings$Strip"
def TX8 : u_T := fun k => match k with
  | 0 => ("TapeRings$Strip", "inches", "[I", true)
  | _ => ("TapeRings$Strip", "length", "I", false)
def tyX8 : Nat → FieldType := fun k => match k with
  | 0 => .array .int
  | _ => .int
theorem nmX8 : ∀ a, a < 2 → ∀ b, b < 2 → a ≠ b → (TX8 a).2.1 ≠ (TX8 b).2.1 := by decide +kernel
theorem tyX8_ok : ∀ k, k < 2 → parseFieldDescriptor (TX8 k).2.2.1 = some (tyX8 k) := by decide +kernel
abbrev cX8_init : ByteArray := prog_10_method_1_code
def yX8_init : MethodName := ⟨RX8, "<init>", "()V"⟩
abbrev cX8_has : ByteArray := prog_10_method_2_code
def yX8_has : MethodName := ⟨RX8, "has", "(I)Z"⟩
abbrev cX8_at : ByteArray := prog_10_method_3_code
def yX8_at : MethodName := ⟨RX8, "at", "(I)I"⟩
abbrev cX8_copy : ByteArray := prog_10_method_4_code
def yX8_copy : MethodName := ⟨RX8, "copy", "(LTapeRings$Strip;)V"⟩
abbrev cX8_becomeInch : ByteArray := prog_10_method_5_code
def yX8_becomeInch : MethodName := ⟨RX8, "becomeInch", "(I)V"⟩
abbrev cX8_addTo : ByteArray := prog_10_method_6_code
def yX8_addTo : MethodName := ⟨RX8, "addTo", "(II)V"⟩
abbrev cX8_repeat : ByteArray := prog_10_method_7_code
def yX8_repeat : MethodName := ⟨RX8, "repeat", "(I)V"⟩
abbrev cX8_turn : ByteArray := prog_10_method_8_code
def yX8_turn : MethodName := ⟨RX8, "turn", "()V"⟩
abbrev cX8_putBehind : ByteArray := prog_10_method_9_code
def yX8_putBehind : MethodName := ⟨RX8, "putBehind", "(LTapeRings$Strip;I)V"⟩
def RX9 : String := "TapeRings$Studio"
def TX9 : u_T := fun k => match k with
  | 0 => ("TapeRings$Studio", "motors", "[LTapeRings$Motor;", true)
  | 1 => ("TapeRings$Studio", "rings", "[LTapeRings$Ring;", true)
  | _ => ("TapeRings$Studio", "count", "I", false)
def tyX9 : Nat → FieldType := fun k => match k with
  | 0 => .array (.object "TapeRings$Motor")
  | 1 => .array (.object "TapeRings$Ring")
  | _ => .int
theorem nmX9 : ∀ a, a < 3 → ∀ b, b < 3 → a ≠ b → (TX9 a).2.1 ≠ (TX9 b).2.1 := by decide +kernel
theorem tyX9_ok : ∀ k, k < 3 → parseFieldDescriptor (TX9 k).2.2.1 = some (tyX9 k) := by decide +kernel
abbrev cX9_init : ByteArray := prog_11_method_1_code
def yX9_init : MethodName := ⟨RX9, "<init>", "()V"⟩
abbrev cX9_find : ByteArray := prog_11_method_2_code
def yX9_find : MethodName := ⟨RX9, "find", "(I)LTapeRings$Ring;"⟩
abbrev cX9_add : ByteArray := prog_11_method_3_code
def yX9_add : MethodName := ⟨RX9, "add", "(LTapeRings$Strip;II)I"⟩
abbrev cX9_empty : ByteArray := prog_11_method_4_code
def yX9_empty : MethodName := ⟨RX9, "empty", "()I"⟩
abbrev cX9_motorOf : ByteArray := prog_11_method_5_code
def yX9_motorOf : MethodName := ⟨RX9, "motorOf", "(I)LTapeRings$Motor;"⟩
abbrev cX9_steady : ByteArray := prog_11_method_6_code
def yX9_steady : MethodName := ⟨RX9, "steady", "()I"⟩
abbrev cX9_roundOf : ByteArray := prog_11_method_7_code
def yX9_roundOf : MethodName := ⟨RX9, "roundOf", "(LTapeRings$Ring;)I"⟩
abbrev cX9_heardOf : ByteArray := prog_11_method_8_code
def yX9_heardOf : MethodName := ⟨RX9, "heardOf", "(LTapeRings$Ring;J)I"⟩
abbrev cX9_heardInAll : ByteArray := prog_11_method_9_code
def yX9_heardInAll : MethodName := ⟨RX9, "heardInAll", "(J)I"⟩
abbrev cX9_grants : ByteArray := prog_11_method_10_code
def yX9_grants : MethodName := ⟨RX9, "grants", "(LTapeRings$Ring;J)Z"⟩
abbrev cX9_meetsAt : ByteArray := prog_11_method_11_code
def yX9_meetsAt : MethodName := ⟨RX9, "meetsAt", "(J)Z"⟩
def RX10 : String := "TapeRings$Versions"
def TX10 : u_T := fun k => match k with
  | 0 => ("TapeRings$Versions", "count", "I", false)
  | 1 => ("TapeRings$Versions", "strips", "[LTapeRings$Strip;", true)
  | 2 => ("TapeRings$Versions", "rings", "[I", true)
  | 3 => ("TapeRings$Versions", "days", "[I", true)
  | _ => ("TapeRings$Versions", "steps", "[I", true)
def tyX10 : Nat → FieldType := fun k => match k with
  | 0 => .int
  | 1 => .array (.object "TapeRings$Strip")
  | 2 => .array .int
  | 3 => .array .int
  | _ => .array .int
theorem nmX10 : ∀ a, a < 5 → ∀ b, b < 5 → a ≠ b → (TX10 a).2.1 ≠ (TX10 b).2.1 := by decide +kernel
theorem tyX10_ok : ∀ k, k < 5 → parseFieldDescriptor (TX10 k).2.2.1 = some (tyX10 k) := by decide +kernel
abbrev cX10_init : ByteArray := prog_12_method_1_code
def yX10_init : MethodName := ⟨RX10, "<init>", "()V"⟩
abbrev cX10_add : ByteArray := prog_12_method_2_code
def yX10_add : MethodName := ⟨RX10, "add", "(LTapeRings$Strip;II)I"⟩
abbrev cX10_find : ByteArray := prog_12_method_3_code
def yX10_find : MethodName := ⟨RX10, "find", "(I)LTapeRings$Strip;"⟩
abbrev cX10_latest : ByteArray := prog_12_method_4_code
def yX10_latest : MethodName := ⟨RX10, "latest", "(II)I"⟩
abbrev cX10_fewestEdits : ByteArray := prog_12_method_5_code
def yX10_fewestEdits : MethodName := ⟨RX10, "fewestEdits", "(LTapeRings$Strip;LTapeRings$Strip;)I"⟩
abbrev cX10_editsTurned : ByteArray := prog_12_method_6_code
def yX10_editsTurned : MethodName := ⟨RX10, "editsTurned", "(LTapeRings$Strip;LTapeRings$Strip;I)I"⟩
def RX11 : String := "TapeRings"
def TX11 : u_T := fun k => match k with
  | 0 => ("TapeRings", "text", "LTapeRings$Splicer;", true)
  | 1 => ("TapeRings", "inHand", "LTapeRings$Strip;", true)
  | 2 => ("TapeRings", "studio", "LTapeRings$Studio;", true)
  | 3 => ("TapeRings", "meeting", "LTapeRings$Meeting;", true)
  | 4 => ("TapeRings", "planner", "LTapeRings$Planner;", true)
  | 5 => ("TapeRings", "echo", "LTapeRings$Echo;", true)
  | 6 => ("TapeRings", "old", "LTapeRings$OldTape;", true)
  | 7 => ("TapeRings", "pieces", "LTapeRings$Pieces;", true)
  | 8 => ("TapeRings", "versions", "LTapeRings$Versions;", true)
  | 9 => ("TapeRings", "told", "[I", true)
  | _ => ("TapeRings", "toldCount", "I", false)
def tyX11 : Nat → FieldType := fun k => match k with
  | 0 => .object "TapeRings$Splicer"
  | 1 => .object "TapeRings$Strip"
  | 2 => .object "TapeRings$Studio"
  | 3 => .object "TapeRings$Meeting"
  | 4 => .object "TapeRings$Planner"
  | 5 => .object "TapeRings$Echo"
  | 6 => .object "TapeRings$OldTape"
  | 7 => .object "TapeRings$Pieces"
  | 8 => .object "TapeRings$Versions"
  | 9 => .array .int
  | _ => .int
theorem nmX11 : ∀ a, a < 11 → ∀ b, b < 11 → a ≠ b → (TX11 a).2.1 ≠ (TX11 b).2.1 := by decide +kernel
theorem tyX11_ok : ∀ k, k < 11 → parseFieldDescriptor (TX11 k).2.2.1 = some (tyX11 k) := by decide +kernel
abbrev cX11_init : ByteArray := prog_1_method_1_code
def yX11_init : MethodName := ⟨RX11, "<init>", "()V"⟩
abbrev cX11_sign : ByteArray := prog_1_method_2_code
def yX11_sign : MethodName := ⟨RX11, "sign", "(I)I"⟩
abbrev cX11_end : ByteArray := prog_1_method_3_code
def yX11_end : MethodName := ⟨RX11, "end", "(I)Z"⟩
abbrev cX11_splice : ByteArray := prog_1_method_4_code
def yX11_splice : MethodName := ⟨RX11, "splice", "()I"⟩
abbrev cX11_hand : ByteArray := prog_1_method_5_code
def yX11_hand : MethodName := ⟨RX11, "hand", "(I)I"⟩
abbrev cX11_ring : ByteArray := prog_1_method_6_code
def yX11_ring : MethodName := ⟨RX11, "ring", "(II)I"⟩
abbrev cX11_over : ByteArray := prog_1_method_7_code
def yX11_over : MethodName := ⟨RX11, "over", "(III)I"⟩
abbrev cX11_set : ByteArray := prog_1_method_8_code
def yX11_set : MethodName := ⟨RX11, "set", "(III)I"⟩
abbrev cX11_head : ByteArray := prog_1_method_9_code
def yX11_head : MethodName := ⟨RX11, "head", "(IIZ)I"⟩
abbrev cX11_motor : ByteArray := prog_1_method_10_code
def yX11_motor : MethodName := ⟨RX11, "motor", "(III)Z"⟩
abbrev cX11_clear : ByteArray := prog_1_method_11_code
def yX11_clear : MethodName := ⟨RX11, "clear", "()I"⟩
abbrev cX11_count : ByteArray := prog_1_method_12_code
def yX11_count : MethodName := ⟨RX11, "count", "(I)I"⟩
abbrev cX11_of : ByteArray := prog_1_method_13_code
def yX11_of : MethodName := ⟨RX11, "of", "(II)I"⟩
abbrev cX11_inch : ByteArray := prog_1_method_14_code
def yX11_inch : MethodName := ⟨RX11, "inch", "(II)I"⟩
abbrev cX11_way : ByteArray := prog_1_method_15_code
def yX11_way : MethodName := ⟨RX11, "way", "(II)J"⟩
abbrev cX11_heard : ByteArray := prog_1_method_16_code
def yX11_heard : MethodName := ⟨RX11, "heard", "(IJ)I"⟩
abbrev cX11_all : ByteArray := prog_1_method_17_code
def yX11_all : MethodName := ⟨RX11, "all", "()J"⟩
abbrev cX11_wish : ByteArray := prog_1_method_18_code
def yX11_wish : MethodName := ⟨RX11, "wish", "(II)Z"⟩
abbrev cX11_meets : ByteArray := prog_1_method_19_code
def yX11_meets : MethodName := ⟨RX11, "meets", "(J)J"⟩
abbrev cX11_often : ByteArray := prog_1_method_20_code
def yX11_often : MethodName := ⟨RX11, "often", "()J"⟩
abbrev cX11_mark : ByteArray := prog_1_method_21_code
def yX11_mark : MethodName := ⟨RX11, "mark", "(II)I"⟩
abbrev cX11_kept : ByteArray := prog_1_method_22_code
def yX11_kept : MethodName := ⟨RX11, "kept", "()I"⟩
abbrev cX11_plan : ByteArray := prog_1_method_23_code
def yX11_plan : MethodName := ⟨RX11, "plan", "()I"⟩
abbrev cX11_make : ByteArray := prog_1_method_24_code
def yX11_make : MethodName := ⟨RX11, "make", "()I"⟩
abbrev cX11_cut : ByteArray := prog_1_method_25_code
def yX11_cut : MethodName := ⟨RX11, "cut", "(II)I"⟩
abbrev cX11_weight : ByteArray := prog_1_method_26_code
def yX11_weight : MethodName := ⟨RX11, "weight", "(II)I"⟩
abbrev cX11_heads : ByteArray := prog_1_method_27_code
def yX11_heads : MethodName := ⟨RX11, "heads", "(IIII)Z"⟩
abbrev cX11_stop : ByteArray := prog_1_method_28_code
def yX11_stop : MethodName := ⟨RX11, "stop", "(I)I"⟩
abbrev cX11_out : ByteArray := prog_1_method_29_code
def yX11_out : MethodName := ⟨RX11, "out", "(I)I"⟩
abbrev cX11_dies : ByteArray := prog_1_method_30_code
def yX11_dies : MethodName := ⟨RX11, "dies", "()I"⟩
abbrev cX11_tape : ByteArray := prog_1_method_31_code
def yX11_tape : MethodName := ⟨RX11, "tape", "(I)I"⟩
abbrev cX11_take : ByteArray := prog_1_method_32_code
def yX11_take : MethodName := ⟨RX11, "take", "(II)Z"⟩
abbrev cX11_gap : ByteArray := prog_1_method_33_code
def yX11_gap : MethodName := ⟨RX11, "gap", "(I)Z"⟩
abbrev cX11_wipe : ByteArray := prog_1_method_34_code
def yX11_wipe : MethodName := ⟨RX11, "wipe", "()I"⟩
abbrev cX11_span : ByteArray := prog_1_method_35_code
def yX11_span : MethodName := ⟨RX11, "span", "(I)I"⟩
abbrev cX11_pair : ByteArray := prog_1_method_36_code
def yX11_pair : MethodName := ⟨RX11, "pair", "(I)I"⟩
abbrev cX11_mended : ByteArray := prog_1_method_37_code
def yX11_mended : MethodName := ⟨RX11, "mended", "(I)I"⟩
abbrev cX11_piece : ByteArray := prog_1_method_38_code
def yX11_piece : MethodName := ⟨RX11, "piece", "(II)I"⟩
abbrev cX11_burn : ByteArray := prog_1_method_39_code
def yX11_burn : MethodName := ⟨RX11, "burn", "()I"⟩
abbrev cX11_join : ByteArray := prog_1_method_40_code
def yX11_join : MethodName := ⟨RX11, "join", "()I"⟩
abbrev cX11_keep : ByteArray := prog_1_method_41_code
def yX11_keep : MethodName := ⟨RX11, "keep", "(II)I"⟩
abbrev cX11_known : ByteArray := prog_1_method_42_code
def yX11_known : MethodName := ⟨RX11, "known", "(II)I"⟩
abbrev cX11_fetch : ByteArray := prog_1_method_43_code
def yX11_fetch : MethodName := ⟨RX11, "fetch", "(I)I"⟩
abbrev cX11_edits : ByteArray := prog_1_method_44_code
def yX11_edits : MethodName := ⟨RX11, "edits", "(II)I"⟩
abbrev cX11_row : ByteArray := prog_1_method_45_code
def yX11_row : MethodName := ⟨RX11, "row", "(I)I"⟩
abbrev cX11_tell : ByteArray := prog_1_method_46_code
def yX11_tell : MethodName := ⟨RX11, "tell", "([II)V"⟩
abbrev cX11_within : ByteArray := prog_1_method_47_code
def yX11_within : MethodName := ⟨RX11, "within", "(III)Z"⟩
abbrev cX11_isMotor : ByteArray := prog_1_method_48_code
def yX11_isMotor : MethodName := ⟨RX11, "isMotor", "(I)Z"⟩
abbrev cX11_isSound : ByteArray := prog_1_method_49_code
def yX11_isSound : MethodName := ⟨RX11, "isSound", "(I)Z"⟩
abbrev cX11_isSounds : ByteArray := prog_1_method_50_code
def yX11_isSounds : MethodName := ⟨RX11, "isSounds", "(I)Z"⟩
abbrev cX11_by : ByteArray := prog_1_method_51_code
def yX11_by : MethodName := ⟨RX11, "by", "(JI)I"⟩
abbrev cX11_greatestDivisor : ByteArray := prog_1_method_52_code
def yX11_greatestDivisor : MethodName := ⟨RX11, "greatestDivisor", "(IJ)I"⟩
abbrev cX11_withoutShared : ByteArray := prog_1_method_53_code
def yX11_withoutShared : MethodName := ⟨RX11, "withoutShared", "(IJ)I"⟩
abbrev cX11_leastMultiple : ByteArray := prog_1_method_54_code
def yX11_leastMultiple : MethodName := ⟨RX11, "leastMultiple", "(JI)J"⟩
def RX12 : String := "TapeRingsModel"
def TX12 : u_T := fun k => match k with
  | 0 => ("TapeRingsModel", "text", "[B", true)
  | 1 => ("TapeRingsModel", "size", "I", false)
  | 2 => ("TapeRingsModel", "hand", "[I", true)
  | 3 => ("TapeRingsModel", "handMany", "I", false)
  | 4 => ("TapeRingsModel", "inches", "[I", true)
  | 5 => ("TapeRingsModel", "length", "[I", true)
  | 6 => ("TapeRingsModel", "motorOf", "[I", true)
  | 7 => ("TapeRingsModel", "start", "[I", true)
  | 8 => ("TapeRingsModel", "heads", "[I", true)
  | 9 => ("TapeRingsModel", "wish", "[I", true)
  | 10 => ("TapeRingsModel", "rings", "I", false)
  | 11 => ("TapeRingsModel", "ticks", "[I", true)
  | 12 => ("TapeRingsModel", "speeds", "[I", true)
  | 13 => ("TapeRingsModel", "toldMany", "[I", true)
  | 14 => ("TapeRingsModel", "markTick", "[I", true)
  | 15 => ("TapeRingsModel", "markSound", "[I", true)
  | 16 => ("TapeRingsModel", "marks", "I", false)
  | 17 => ("TapeRingsModel", "weights", "[I", true)
  | 18 => ("TapeRingsModel", "d", "I", false)
  | 19 => ("TapeRingsModel", "a", "I", false)
  | 20 => ("TapeRingsModel", "e", "I", false)
  | 21 => ("TapeRingsModel", "b", "I", false)
  | 22 => ("TapeRingsModel", "stop", "I", false)
  | 23 => ("TapeRingsModel", "tape", "[I", true)
  | 24 => ("TapeRingsModel", "taped", "I", false)
  | 25 => ("TapeRingsModel", "pieces", "[I", true)
  | 26 => ("TapeRingsModel", "pieceSize", "[I", true)
  | 27 => ("TapeRingsModel", "pieceMany", "I", false)
  | 28 => ("TapeRingsModel", "versions", "[I", true)
  | 29 => ("TapeRingsModel", "versionSize", "[I", true)
  | 30 => ("TapeRingsModel", "versionRing", "[I", true)
  | 31 => ("TapeRingsModel", "versionDay", "[I", true)
  | 32 => ("TapeRingsModel", "versionMany", "I", false)
  | 33 => ("TapeRingsModel", "row", "[I", true)
  | 34 => ("TapeRingsModel", "rowMany", "I", false)
  | 35 => ("TapeRingsModel", "thrown", "I", false)
  | 36 => ("TapeRingsModel", "place", "I", false)
  | 37 => ("TapeRingsModel", "wrong", "I", false)
  | 38 => ("TapeRingsModel", "rowInches", "[I", true)
  | 39 => ("TapeRingsModel", "rowSize", "[I", true)
  | 40 => ("TapeRingsModel", "termInches", "[I", true)
  | 41 => ("TapeRingsModel", "termSize", "[I", true)
  | 42 => ("TapeRingsModel", "isHeard", "[Z", true)
  | 43 => ("TapeRingsModel", "rest", "[I", true)
  | 44 => ("TapeRingsModel", "trues", "[I", true)
  | 45 => ("TapeRingsModel", "outs", "[I", true)
  | 46 => ("TapeRingsModel", "joined", "[I", true)
  | 47 => ("TapeRingsModel", "best", "[I", true)
  | 48 => ("TapeRingsModel", "bestSize", "I", false)
  | _ => ("TapeRingsModel", "edit", "[I", true)
def tyX12 : Nat → FieldType := fun k => match k with
  | 0 => .array .byte
  | 1 => .int
  | 2 => .array .int
  | 3 => .int
  | 4 => .array .int
  | 5 => .array .int
  | 6 => .array .int
  | 7 => .array .int
  | 8 => .array .int
  | 9 => .array .int
  | 10 => .int
  | 11 => .array .int
  | 12 => .array .int
  | 13 => .array .int
  | 14 => .array .int
  | 15 => .array .int
  | 16 => .int
  | 17 => .array .int
  | 18 => .int
  | 19 => .int
  | 20 => .int
  | 21 => .int
  | 22 => .int
  | 23 => .array .int
  | 24 => .int
  | 25 => .array .int
  | 26 => .array .int
  | 27 => .int
  | 28 => .array .int
  | 29 => .array .int
  | 30 => .array .int
  | 31 => .array .int
  | 32 => .int
  | 33 => .array .int
  | 34 => .int
  | 35 => .int
  | 36 => .int
  | 37 => .int
  | 38 => .array .int
  | 39 => .array .int
  | 40 => .array .int
  | 41 => .array .int
  | 42 => .array .boolean
  | 43 => .array .int
  | 44 => .array .int
  | 45 => .array .int
  | 46 => .array .int
  | 47 => .array .int
  | 48 => .int
  | _ => .array .int
theorem nmX12 : ∀ a, a < 50 → ∀ b, b < 50 → a ≠ b → (TX12 a).2.1 ≠ (TX12 b).2.1 := by decide +kernel
theorem tyX12_ok : ∀ k, k < 50 → parseFieldDescriptor (TX12 k).2.2.1 = some (tyX12 k) := by decide +kernel
abbrev cX12_init : ByteArray := prog_14_method_1_code
def yX12_init : MethodName := ⟨RX12, "<init>", "()V"⟩
abbrev cX12_thrown : ByteArray := prog_14_method_2_code
def yX12_thrown : MethodName := ⟨RX12, "thrown", "()I"⟩
abbrev cX12_in : ByteArray := prog_14_method_3_code
def yX12_in : MethodName := ⟨RX12, "in", "(III)Z"⟩
abbrev cX12_areSounds : ByteArray := prog_14_method_4_code
def yX12_areSounds : MethodName := ⟨RX12, "areSounds", "(I)Z"⟩
abbrev cX12_isRing : ByteArray := prog_14_method_5_code
def yX12_isRing : MethodName := ⟨RX12, "isRing", "(I)Z"⟩
abbrev cX12_isMotor : ByteArray := prog_14_method_6_code
def yX12_isMotor : MethodName := ⟨RX12, "isMotor", "(I)Z"⟩
abbrev cX12_sign : ByteArray := prog_14_method_7_code
def yX12_sign : MethodName := ⟨RX12, "sign", "(I)I"⟩
abbrev cX12_end : ByteArray := prog_14_method_8_code
def yX12_end : MethodName := ⟨RX12, "end", "(I)Z"⟩
abbrev cX12_has : ByteArray := prog_14_method_9_code
def yX12_has : MethodName := ⟨RX12, "has", "(II)Z"⟩
abbrev cX12_isWrong : ByteArray := prog_14_method_10_code
def yX12_isWrong : MethodName := ⟨RX12, "isWrong", "()Z"⟩
abbrev cX12_skipRow : ByteArray := prog_14_method_11_code
def yX12_skipRow : MethodName := ⟨RX12, "skipRow", "(I)Z"⟩
abbrev cX12_skipTerm : ByteArray := prog_14_method_12_code
def yX12_skipTerm : MethodName := ⟨RX12, "skipTerm", "(I)Z"⟩
abbrev cX12_skipAtom : ByteArray := prog_14_method_13_code
def yX12_skipAtom : MethodName := ⟨RX12, "skipAtom", "(I)Z"⟩
abbrev cX12_makeRow : ByteArray := prog_14_method_14_code
def yX12_makeRow : MethodName := ⟨RX12, "makeRow", "(I)I"⟩
abbrev cX12_makeTerm : ByteArray := prog_14_method_15_code
def yX12_makeTerm : MethodName := ⟨RX12, "makeTerm", "(I)I"⟩
abbrev cX12_splice : ByteArray := prog_14_method_16_code
def yX12_splice : MethodName := ⟨RX12, "splice", "()I"⟩
abbrev cX12_hand : ByteArray := prog_14_method_17_code
def yX12_hand : MethodName := ⟨RX12, "hand", "(I)I"⟩
abbrev cX12_ring : ByteArray := prog_14_method_18_code
def yX12_ring : MethodName := ⟨RX12, "ring", "(II)I"⟩
abbrev cX12_over : ByteArray := prog_14_method_19_code
def yX12_over : MethodName := ⟨RX12, "over", "(III)I"⟩
abbrev cX12_set : ByteArray := prog_14_method_20_code
def yX12_set : MethodName := ⟨RX12, "set", "(III)I"⟩
abbrev cX12_head : ByteArray := prog_14_method_21_code
def yX12_head : MethodName := ⟨RX12, "head", "(IIZ)I"⟩
abbrev cX12_motor : ByteArray := prog_14_method_22_code
def yX12_motor : MethodName := ⟨RX12, "motor", "(III)Z"⟩
abbrev cX12_clear : ByteArray := prog_14_method_23_code
def yX12_clear : MethodName := ⟨RX12, "clear", "()I"⟩
abbrev cX12_count : ByteArray := prog_14_method_24_code
def yX12_count : MethodName := ⟨RX12, "count", "(I)I"⟩
abbrev cX12_common : ByteArray := prog_14_method_25_code
def yX12_common : MethodName := ⟨RX12, "common", "(II)I"⟩
abbrev cX12_steady : ByteArray := prog_14_method_26_code
def yX12_steady : MethodName := ⟨RX12, "steady", "(I)I"⟩
abbrev cX12_lastSpeed : ByteArray := prog_14_method_27_code
def yX12_lastSpeed : MethodName := ⟨RX12, "lastSpeed", "(I)I"⟩
abbrev cX12_round : ByteArray := prog_14_method_28_code
def yX12_round : MethodName := ⟨RX12, "round", "(I)I"⟩
abbrev cX12_of : ByteArray := prog_14_method_29_code
def yX12_of : MethodName := ⟨RX12, "of", "(II)I"⟩
abbrev cX12_inch : ByteArray := prog_14_method_30_code
def yX12_inch : MethodName := ⟨RX12, "inch", "(II)I"⟩
abbrev cX12_wayEarly : ByteArray := prog_14_method_31_code
def yX12_wayEarly : MethodName := ⟨RX12, "wayEarly", "(IJ)J"⟩
abbrev cX12_way : ByteArray := prog_14_method_32_code
def yX12_way : MethodName := ⟨RX12, "way", "(II)J"⟩
abbrev cX12_wayBy : ByteArray := prog_14_method_33_code
def yX12_wayBy : MethodName := ⟨RX12, "wayBy", "(IJI)I"⟩
abbrev cX12_heardAt : ByteArray := prog_14_method_34_code
def yX12_heardAt : MethodName := ⟨RX12, "heardAt", "(II)I"⟩
abbrev cX12_heardOf : ByteArray := prog_14_method_35_code
def yX12_heardOf : MethodName := ⟨RX12, "heardOf", "(IJ)I"⟩
abbrev cX12_heardInAll : ByteArray := prog_14_method_36_code
def yX12_heardInAll : MethodName := ⟨RX12, "heardInAll", "(J)I"⟩
abbrev cX12_heard : ByteArray := prog_14_method_37_code
def yX12_heard : MethodName := ⟨RX12, "heard", "(IJ)I"⟩
abbrev cX12_allRounds : ByteArray := prog_14_method_38_code
def yX12_allRounds : MethodName := ⟨RX12, "allRounds", "()J"⟩
abbrev cX12_all : ByteArray := prog_14_method_39_code
def yX12_all : MethodName := ⟨RX12, "all", "()J"⟩
abbrev cX12_wish : ByteArray := prog_14_method_40_code
def yX12_wish : MethodName := ⟨RX12, "wish", "(II)Z"⟩
abbrev cX12_meetsAt : ByteArray := prog_14_method_41_code
def yX12_meetsAt : MethodName := ⟨RX12, "meetsAt", "(J)Z"⟩
abbrev cX12_steadyAll : ByteArray := prog_14_method_42_code
def yX12_steadyAll : MethodName := ⟨RX12, "steadyAll", "()I"⟩
abbrev cX12_findHeard : ByteArray := prog_14_method_43_code
def yX12_findHeard : MethodName := ⟨RX12, "findHeard", "(J)V"⟩
abbrev cX12_meetsBehind : ByteArray := prog_14_method_44_code
def yX12_meetsBehind : MethodName := ⟨RX12, "meetsBehind", "(I)Z"⟩
abbrev cX12_meets : ByteArray := prog_14_method_45_code
def yX12_meets : MethodName := ⟨RX12, "meets", "(J)J"⟩
abbrev cX12_often : ByteArray := prog_14_method_46_code
def yX12_often : MethodName := ⟨RX12, "often", "()J"⟩
abbrev cX12_mark : ByteArray := prog_14_method_47_code
def yX12_mark : MethodName := ⟨RX12, "mark", "(II)I"⟩
abbrev cX12_truths : ByteArray := prog_14_method_48_code
def yX12_truths : MethodName := ⟨RX12, "truths", "(III)I"⟩
abbrev cX12_kept : ByteArray := prog_14_method_49_code
def yX12_kept : MethodName := ⟨RX12, "kept", "()I"⟩
abbrev cX12_costOf : ByteArray := prog_14_method_50_code
def yX12_costOf : MethodName := ⟨RX12, "costOf", "(III)I"⟩
abbrev cX12_findPlan : ByteArray := prog_14_method_51_code
def yX12_findPlan : MethodName := ⟨RX12, "findPlan", "()I"⟩
abbrev cX12_plan : ByteArray := prog_14_method_52_code
def yX12_plan : MethodName := ⟨RX12, "plan", "()I"⟩
abbrev cX12_make : ByteArray := prog_14_method_53_code
def yX12_make : MethodName := ⟨RX12, "make", "()I"⟩
abbrev cX12_cut : ByteArray := prog_14_method_54_code
def yX12_cut : MethodName := ⟨RX12, "cut", "(II)I"⟩
abbrev cX12_weight : ByteArray := prog_14_method_55_code
def yX12_weight : MethodName := ⟨RX12, "weight", "(II)I"⟩
abbrev cX12_heads : ByteArray := prog_14_method_56_code
def yX12_heads : MethodName := ⟨RX12, "heads", "(IIII)Z"⟩
abbrev cX12_stop : ByteArray := prog_14_method_57_code
def yX12_stop : MethodName := ⟨RX12, "stop", "(I)I"⟩
abbrev cX12_findOuts : ByteArray := prog_14_method_58_code
def yX12_findOuts : MethodName := ⟨RX12, "findOuts", "(I)V"⟩
abbrev cX12_out : ByteArray := prog_14_method_59_code
def yX12_out : MethodName := ⟨RX12, "out", "(I)I"⟩
abbrev cX12_areAlike : ByteArray := prog_14_method_60_code
def yX12_areAlike : MethodName := ⟨RX12, "areAlike", "(II)Z"⟩
abbrev cX12_dies : ByteArray := prog_14_method_61_code
def yX12_dies : MethodName := ⟨RX12, "dies", "()I"⟩
abbrev cX12_tape : ByteArray := prog_14_method_62_code
def yX12_tape : MethodName := ⟨RX12, "tape", "(I)I"⟩
abbrev cX12_take : ByteArray := prog_14_method_63_code
def yX12_take : MethodName := ⟨RX12, "take", "(II)Z"⟩
abbrev cX12_gap : ByteArray := prog_14_method_64_code
def yX12_gap : MethodName := ⟨RX12, "gap", "(I)Z"⟩
abbrev cX12_wipe : ByteArray := prog_14_method_65_code
def yX12_wipe : MethodName := ⟨RX12, "wipe", "()I"⟩
abbrev cX12_isSpan : ByteArray := prog_14_method_66_code
def yX12_isSpan : MethodName := ⟨RX12, "isSpan", "(I)Z"⟩
abbrev cX12_span : ByteArray := prog_14_method_67_code
def yX12_span : MethodName := ⟨RX12, "span", "(I)I"⟩
abbrev cX12_most : ByteArray := prog_14_method_68_code
def yX12_most : MethodName := ⟨RX12, "most", "(II)I"⟩
abbrev cX12_isPair : ByteArray := prog_14_method_69_code
def yX12_isPair : MethodName := ⟨RX12, "isPair", "(II)Z"⟩
abbrev cX12_pairAt : ByteArray := prog_14_method_70_code
def yX12_pairAt : MethodName := ⟨RX12, "pairAt", "(I)I"⟩
abbrev cX12_pair : ByteArray := prog_14_method_71_code
def yX12_pair : MethodName := ⟨RX12, "pair", "(I)I"⟩
abbrev cX12_mended : ByteArray := prog_14_method_72_code
def yX12_mended : MethodName := ⟨RX12, "mended", "(I)I"⟩
abbrev cX12_piece : ByteArray := prog_14_method_73_code
def yX12_piece : MethodName := ⟨RX12, "piece", "(II)I"⟩
abbrev cX12_burn : ByteArray := prog_14_method_74_code
def yX12_burn : MethodName := ⟨RX12, "burn", "()I"⟩
abbrev cX12_sound : ByteArray := prog_14_method_75_code
def yX12_sound : MethodName := ⟨RX12, "sound", "(IZI)I"⟩
abbrev cX12_joinFrom : ByteArray := prog_14_method_76_code
def yX12_joinFrom : MethodName := ⟨RX12, "joinFrom", "(III)V"⟩
abbrev cX12_lies : ByteArray := prog_14_method_77_code
def yX12_lies : MethodName := ⟨RX12, "lies", "(IIIZI)Z"⟩
abbrev cX12_join : ByteArray := prog_14_method_78_code
def yX12_join : MethodName := ⟨RX12, "join", "()I"⟩
abbrev cX12_keep : ByteArray := prog_14_method_79_code
def yX12_keep : MethodName := ⟨RX12, "keep", "(II)I"⟩
abbrev cX12_known : ByteArray := prog_14_method_80_code
def yX12_known : MethodName := ⟨RX12, "known", "(II)I"⟩
abbrev cX12_fetch : ByteArray := prog_14_method_81_code
def yX12_fetch : MethodName := ⟨RX12, "fetch", "(I)I"⟩
abbrev cX12_editsBy : ByteArray := prog_14_method_82_code
def yX12_editsBy : MethodName := ⟨RX12, "editsBy", "(III)I"⟩
abbrev cX12_edits : ByteArray := prog_14_method_83_code
def yX12_edits : MethodName := ⟨RX12, "edits", "(II)I"⟩
abbrev cX12_row : ByteArray := prog_14_method_84_code
def yX12_row : MethodName := ⟨RX12, "row", "(I)I"⟩
def RJx145de : String := "java/io/Serializable"
def TJx145de : u_T := fun k => match k with
  | _ => ("", "", "", false)
def tyJx145de : Nat → FieldType := fun k => match k with
  | _ => .int
theorem nmJx145de : ∀ a, a < 0 → ∀ b, b < 0 → a ≠ b → (TJx145de a).2.1 ≠ (TJx145de b).2.1 := by decide +kernel
theorem tyJx145de_ok : ∀ k, k < 0 → parseFieldDescriptor (TJx145de k).2.2.1 = some (tyJx145de k) := by decide +kernel
def RJ6 : String := "java/lang/Integer"
def TJ6 : u_T := fun k => match k with
  | _ => ("", "", "", false)
def tyJ6 : Nat → FieldType := fun k => match k with
  | _ => .int
theorem nmJ6 : ∀ a, a < 0 → ∀ b, b < 0 → a ≠ b → (TJ6 a).2.1 ≠ (TJ6 b).2.1 := by decide +kernel
theorem tyJ6_ok : ∀ k, k < 0 → parseFieldDescriptor (TJ6 k).2.2.1 = some (tyJ6 k) := by decide +kernel
abbrev cJ6_bitCount_0f7a4 : ByteArray := prog_17_method_49_code
def yJ6_bitCount_0f7a4 : MethodName := ⟨RJ6, "bitCount", "(I)I"⟩
def RJ9 : String := "java/lang/Math"
def TJ9 : u_T := fun k => match k with
  | _ => ("", "", "", false)
def tyJ9 : Nat → FieldType := fun k => match k with
  | _ => .int
theorem nmJ9 : ∀ a, a < 0 → ∀ b, b < 0 → a ≠ b → (TJ9 a).2.1 ≠ (TJ9 b).2.1 := by decide +kernel
theorem tyJ9_ok : ∀ k, k < 0 → parseFieldDescriptor (TJ9 k).2.2.1 = some (tyJ9 k) := by decide +kernel
abbrev cJ9_floorMod_f86c9 : ByteArray := prog_18_method_52_code
def yJ9_floorMod_f86c9 : MethodName := ⟨RJ9, "floorMod", "(JJ)J"⟩
abbrev cJ9_abs_0f7a4 : ByteArray := prog_18_method_59_code
def yJ9_abs_0f7a4 : MethodName := ⟨RJ9, "abs", "(I)I"⟩
abbrev cJ9_max_7cf53 : ByteArray := prog_18_method_65_code
def yJ9_max_7cf53 : MethodName := ⟨RJ9, "max", "(II)I"⟩
abbrev cJ9_max_f86c9 : ByteArray := prog_18_method_66_code
def yJ9_max_f86c9 : MethodName := ⟨RJ9, "max", "(JJ)J"⟩
abbrev cJ9_min_7cf53 : ByteArray := prog_18_method_69_code
def yJ9_min_7cf53 : MethodName := ⟨RJ9, "min", "(II)I"⟩
def RJ10 : String := "java/lang/System"
def TJ10 : u_T := fun k => match k with
  | _ => ("", "", "", false)
def tyJ10 : Nat → FieldType := fun k => match k with
  | _ => .int
theorem nmJ10 : ∀ a, a < 0 → ∀ b, b < 0 → a ≠ b → (TJ10 a).2.1 ≠ (TJ10 b).2.1 := by decide +kernel
theorem tyJ10_ok : ∀ k, k < 0 → parseFieldDescriptor (TJ10 k).2.2.1 = some (tyJ10 k) := by decide +kernel
def RJ7 : String := "java/util/Arrays"
def TJ7 : u_T := fun k => match k with
  | _ => ("", "", "", false)
def tyJ7 : Nat → FieldType := fun k => match k with
  | _ => .int
theorem nmJ7 : ∀ a, a < 0 → ∀ b, b < 0 → a ≠ b → (TJ7 a).2.1 ≠ (TJ7 b).2.1 := by decide +kernel
theorem tyJ7_ok : ∀ k, k < 0 → parseFieldDescriptor (TJ7 k).2.2.1 = some (tyJ7 k) := by decide +kernel
abbrev cJ7_fill_53178 : ByteArray := prog_22_method_103_code
def yJ7_fill_53178 : MethodName := ⟨RJ7, "fill", "([II)V"⟩
def RL : String := "TapeRingsLaw"
abbrev cL_of : ByteArray := method_3_code
def yL_of : MethodName := ⟨RL, "of", "(LTapeRings;II[J)I"⟩
abbrev cL_way : ByteArray := method_4_code
def yL_way : MethodName := ⟨RL, "way", "(LTapeRings;II[J)I"⟩
abbrev cL_row : ByteArray := method_5_code
def yL_row : MethodName := ⟨RL, "row", "(LTapeRings;I[J)I"⟩
abbrev cL_law : ByteArray := code
def yL_law : MethodName := ⟨RL, "law", "([I)Z"⟩
abbrev vwCl : List vw_C := [(RX0, TX0, 8), (RX1, TX1, 4), (RX2, TX2, 3), (RX3, TX3, 4), (RX4, TX4, 6), (RX5, TX5, 9), (RX6, TX6, 6), (RX7, TX7, 7), (RX8, TX8, 2), (RX9, TX9, 3), (RX10, TX10, 5), (RX11, TX11, 11), (RX12, TX12, 50)]
end
section
/-! the words of the tables that the rows use, each by its place -/
def zt : List Cond := lw_tbl.filter goodWord
theorem zt_good : ∀ w ∈ zt, goodWord w = true := fun w h => (List.mem_filter.mp h).2
theorem zt_in : ∀ w ∈ zt, w ∈ lw_tbl := fun w h => (List.mem_filter.mp h).1
theorem zin_1 {w : Cond} (h : w ∈ tables_1_1) (g : goodWord w = true) : w ∈ zt := List.mem_filter.mpr ⟨List.mem_append_right _ (show w ∈ tables_1 from (List.mem_append_left _ h)), g⟩
theorem zin0_1 {w : Cond} (h : w ∈ tables_1_1) : w ∈ lw_tbl := List.mem_append_right _ (show w ∈ tables_1 from (List.mem_append_left _ h))
theorem zin_2 {w : Cond} (h : w ∈ tables_1_2) (g : goodWord w = true) : w ∈ zt := List.mem_filter.mpr ⟨List.mem_append_right _ (show w ∈ tables_1 from (List.mem_append_right _ (List.mem_append_left _ h))), g⟩
theorem zin0_2 {w : Cond} (h : w ∈ tables_1_2) : w ∈ lw_tbl := List.mem_append_right _ (show w ∈ tables_1 from (List.mem_append_right _ (List.mem_append_left _ h)))
theorem zin_3 {w : Cond} (h : w ∈ tables_1_3) (g : goodWord w = true) : w ∈ zt := List.mem_filter.mpr ⟨List.mem_append_right _ (show w ∈ tables_1 from (List.mem_append_right _ (List.mem_append_right _ (List.mem_append_left _ h)))), g⟩
theorem zin0_3 {w : Cond} (h : w ∈ tables_1_3) : w ∈ lw_tbl := List.mem_append_right _ (show w ∈ tables_1 from (List.mem_append_right _ (List.mem_append_right _ (List.mem_append_left _ h))))
theorem zin_4 {w : Cond} (h : w ∈ tables_1_4) (g : goodWord w = true) : w ∈ zt := List.mem_filter.mpr ⟨List.mem_append_right _ (show w ∈ tables_1 from (List.mem_append_right _ (List.mem_append_right _ (List.mem_append_right _ (List.mem_append_left _ h))))), g⟩
theorem zin0_4 {w : Cond} (h : w ∈ tables_1_4) : w ∈ lw_tbl := List.mem_append_right _ (show w ∈ tables_1 from (List.mem_append_right _ (List.mem_append_right _ (List.mem_append_right _ (List.mem_append_left _ h)))))
theorem zin_5 {w : Cond} (h : w ∈ tables_1_5) (g : goodWord w = true) : w ∈ zt := List.mem_filter.mpr ⟨List.mem_append_right _ (show w ∈ tables_1 from (List.mem_append_right _ (List.mem_append_right _ (List.mem_append_right _ (List.mem_append_right _ (List.mem_append_left _ h)))))), g⟩
theorem zin0_5 {w : Cond} (h : w ∈ tables_1_5) : w ∈ lw_tbl := List.mem_append_right _ (show w ∈ tables_1 from (List.mem_append_right _ (List.mem_append_right _ (List.mem_append_right _ (List.mem_append_right _ (List.mem_append_left _ h))))))
theorem zin_6 {w : Cond} (h : w ∈ tables_1_6) (g : goodWord w = true) : w ∈ zt := List.mem_filter.mpr ⟨List.mem_append_right _ (show w ∈ tables_1 from (List.mem_append_right _ (List.mem_append_right _ (List.mem_append_right _ (List.mem_append_right _ (List.mem_append_right _ (List.mem_append_left _ h))))))), g⟩
theorem zin0_6 {w : Cond} (h : w ∈ tables_1_6) : w ∈ lw_tbl := List.mem_append_right _ (show w ∈ tables_1 from (List.mem_append_right _ (List.mem_append_right _ (List.mem_append_right _ (List.mem_append_right _ (List.mem_append_right _ (List.mem_append_left _ h)))))))
theorem zin_7 {w : Cond} (h : w ∈ tables_1_7) (g : goodWord w = true) : w ∈ zt := List.mem_filter.mpr ⟨List.mem_append_right _ (show w ∈ tables_1 from (List.mem_append_right _ (List.mem_append_right _ (List.mem_append_right _ (List.mem_append_right _ (List.mem_append_right _ (List.mem_append_right _ h))))))), g⟩
theorem zin0_7 {w : Cond} (h : w ∈ tables_1_7) : w ∈ lw_tbl := List.mem_append_right _ (show w ∈ tables_1 from (List.mem_append_right _ (List.mem_append_right _ (List.mem_append_right _ (List.mem_append_right _ (List.mem_append_right _ (List.mem_append_right _ h)))))))
theorem zin_p {w : Cond} {i : Nat} {q : MethodName × Nat} (h : lw_privs[i]? = some q) (e : Cond.selects q.1.cls q.1 q.1 = w) : w ∈ zt := List.mem_filter.mpr ⟨List.mem_append_left _ (List.mem_map.mpr ⟨q, List.mem_of_getElem? h, e⟩), by rw [← e]; rfl⟩
theorem k0 : Cond.initialized "TapeRingsLaw" ∈ zt := zin_1 (List.mem_of_getElem? (i := 0) (by decide +kernel)) rfl
theorem k1 : Cond.initialized "TapeRings" ∈ zt := zin_1 (List.mem_of_getElem? (i := 1) (by decide +kernel)) rfl
theorem k2 : Cond.initialized "TapeRings$Splicer" ∈ zt := zin_1 (List.mem_of_getElem? (i := 2) (by decide +kernel)) rfl
theorem k3 : Cond.initialized "TapeRings$Strip" ∈ zt := zin_1 (List.mem_of_getElem? (i := 3) (by decide +kernel)) rfl
theorem k4 : Cond.initialized "TapeRings$Studio" ∈ zt := zin_1 (List.mem_of_getElem? (i := 4) (by decide +kernel)) rfl
theorem k5 : Cond.initialized "TapeRings$Motor" ∈ zt := zin_1 (List.mem_of_getElem? (i := 5) (by decide +kernel)) rfl
theorem k6 : Cond.initialized "TapeRings$Ring" ∈ zt := zin_1 (List.mem_of_getElem? (i := 6) (by decide +kernel)) rfl
theorem k7 : Cond.initialized "TapeRings$Meeting" ∈ zt := zin_1 (List.mem_of_getElem? (i := 7) (by decide +kernel)) rfl
theorem k8 : Cond.initialized "TapeRings$Planner" ∈ zt := zin_1 (List.mem_of_getElem? (i := 8) (by decide +kernel)) rfl
theorem k9 : Cond.initialized "TapeRings$Echo" ∈ zt := zin_1 (List.mem_of_getElem? (i := 9) (by decide +kernel)) rfl
theorem k10 : Cond.initialized "java/util/Arrays" ∈ zt := zin_1 (List.mem_of_getElem? (i := 10) (by decide +kernel)) rfl
theorem k11 : Cond.initialized "TapeRings$OldTape" ∈ zt := zin_1 (List.mem_of_getElem? (i := 11) (by decide +kernel)) rfl
theorem k12 : Cond.initialized "TapeRings$Pieces" ∈ zt := zin_1 (List.mem_of_getElem? (i := 12) (by decide +kernel)) rfl
theorem k13 : Cond.initialized "TapeRings$Versions" ∈ zt := zin_1 (List.mem_of_getElem? (i := 13) (by decide +kernel)) rfl
theorem k14 : Cond.initialized "TapeRingsModel" ∈ zt := zin_1 (List.mem_of_getElem? (i := 14) (by decide +kernel)) rfl
theorem k15 : Cond.initialized "java/lang/Math" ∈ zt := zin_1 (List.mem_of_getElem? (i := 15) (by decide +kernel)) rfl
theorem k16 : Cond.initialized "java/lang/System" ∈ zt := zin_1 (List.mem_of_getElem? (i := 16) (by decide +kernel)) rfl
theorem k17 : Cond.initialized "java/lang/Integer" ∈ zt := zin_1 (List.mem_of_getElem? (i := 17) (by decide +kernel)) rfl
theorem k18 : Cond.initialized "java/lang/Throwable" ∈ zt := zin_1 (List.mem_of_getElem? (i := 18) (by decide +kernel)) rfl
theorem k19 : Cond.initialized "java/lang/Exception" ∈ zt := zin_1 (List.mem_of_getElem? (i := 19) (by decide +kernel)) rfl
theorem k20 : Cond.initialized "java/lang/RuntimeException" ∈ zt := zin_1 (List.mem_of_getElem? (i := 20) (by decide +kernel)) rfl
theorem k21 : Cond.initialized "java/util/NoSuchElementException" ∈ zt := zin_1 (List.mem_of_getElem? (i := 21) (by decide +kernel)) rfl
theorem k22 : Cond.classLink "TapeRingsLaw" (8 : Nat) "TapeRings" ∈ zt := zin_1 (List.mem_of_getElem? (i := 22) (by decide +kernel)) rfl
theorem k23 : Cond.instantiable "TapeRings" (11 : Nat) ∈ zt := zin_1 (List.mem_of_getElem? (i := 23) (by decide +kernel)) rfl
theorem k24 : Cond.methodLink "TapeRingsLaw" (23 : Nat) yX11_init ∈ zt := zin_1 (List.mem_of_getElem? (i := 24) (by decide +kernel)) rfl
theorem k25 : Cond.instanceMethod yX11_init ∈ zt := zin_1 (List.mem_of_getElem? (i := 25) (by decide +kernel)) rfl
theorem k26 : Cond.code yX11_init prog_1_method_1_code (1 : Nat) (Option.none : Option FieldType) ∈ zt := zin_1 (List.mem_of_getElem? (i := 26) (by decide +kernel)) rfl
theorem k27 : Cond.methodLink "TapeRings" (3 : Nat) (⟨"java/lang/Object", "<init>", "()V"⟩ : MethodName) ∈ zt := zin_1 (List.mem_of_getElem? (i := 27) (by decide +kernel)) rfl
theorem k28 : Cond.instanceMethod (⟨"java/lang/Object", "<init>", "()V"⟩ : MethodName) ∈ zt := zin_1 (List.mem_of_getElem? (i := 28) (by decide +kernel)) rfl
theorem k29 : Cond.code (⟨"java/lang/Object", "<init>", "()V"⟩ : MethodName) object_method_1_code (1 : Nat) (Option.none : Option FieldType) ∈ zt := zin_1 (List.mem_of_getElem? (i := 29) (by decide +kernel)) rfl
theorem k30 : Cond.classLink "TapeRings" (9 : Nat) "TapeRings$Splicer" ∈ zt := zin_1 (List.mem_of_getElem? (i := 30) (by decide +kernel)) rfl
theorem k31 : Cond.instantiable "TapeRings$Splicer" (7 : Nat) ∈ zt := zin_1 (List.mem_of_getElem? (i := 31) (by decide +kernel)) rfl
theorem k32 : Cond.methodLink "TapeRings" (11 : Nat) yX7_init ∈ zt := zin_1 (List.mem_of_getElem? (i := 32) (by decide +kernel)) rfl
theorem k33 : Cond.instanceMethod yX7_init ∈ zt := zin_1 (List.mem_of_getElem? (i := 33) (by decide +kernel)) rfl
theorem k34 : Cond.code yX7_init prog_9_method_1_code (2 : Nat) (Option.none : Option FieldType) ∈ zt := zin_1 (List.mem_of_getElem? (i := 34) (by decide +kernel)) rfl
theorem k35 : Cond.methodLink "TapeRings$Splicer" (3 : Nat) (⟨"java/lang/Object", "<init>", "()V"⟩ : MethodName) ∈ zt := zin_1 (List.mem_of_getElem? (i := 35) (by decide +kernel)) rfl
theorem k36 : Cond.classLink "TapeRings$Splicer" (25 : Nat) "TapeRings$Strip" ∈ zt := zin_1 (List.mem_of_getElem? (i := 36) (by decide +kernel)) rfl
theorem k37 : Cond.instantiable "TapeRings$Strip" (2 : Nat) ∈ zt := zin_1 (List.mem_of_getElem? (i := 38) (by decide +kernel)) rfl
theorem k38 : Cond.instanceMethod yX8_init ∈ zt := zin_1 (List.mem_of_getElem? (i := 40) (by decide +kernel)) rfl
theorem k39 : Cond.code yX8_init prog_10_method_1_code (1 : Nat) (Option.none : Option FieldType) ∈ zt := zin_1 (List.mem_of_getElem? (i := 41) (by decide +kernel)) rfl
theorem k40 : Cond.methodLink "TapeRings$Strip" (3 : Nat) (⟨"java/lang/Object", "<init>", "()V"⟩ : MethodName) ∈ zt := zin_1 (List.mem_of_getElem? (i := 42) (by decide +kernel)) rfl
theorem k41 : Cond.fieldLink "TapeRings$Strip" (9 : Nat) "TapeRings$Strip" "inches" "[I" ∈ zt := zin_1 (List.mem_of_getElem? (i := 43) (by decide +kernel)) rfl
theorem k42 : Cond.fieldLink "TapeRings$Ring" (53 : Nat) "TapeRings$Strip" "inches" "[I" ∈ zt := zin_1 (List.mem_of_getElem? (i := 44) (by decide +kernel)) rfl
theorem k43 : Cond.fieldLink "TapeRings$Versions" (52 : Nat) "TapeRings$Strip" "inches" "[I" ∈ zt := zin_1 (List.mem_of_getElem? (i := 45) (by decide +kernel)) rfl
theorem k44 : Cond.fieldLink "TapeRings$Strip" (15 : Nat) "TapeRings$Strip" "length" "I" ∈ zt := zin_1 (List.mem_of_getElem? (i := 46) (by decide +kernel)) rfl
theorem k45 : Cond.fieldLink "TapeRings$Ring" (42 : Nat) "TapeRings$Strip" "length" "I" ∈ zt := zin_1 (List.mem_of_getElem? (i := 47) (by decide +kernel)) rfl
theorem k46 : Cond.fieldLink "TapeRings$Splicer" (49 : Nat) "TapeRings$Strip" "length" "I" ∈ zt := zin_1 (List.mem_of_getElem? (i := 48) (by decide +kernel)) rfl
theorem k47 : Cond.fieldLink "TapeRings$Versions" (36 : Nat) "TapeRings$Strip" "length" "I" ∈ zt := zin_1 (List.mem_of_getElem? (i := 49) (by decide +kernel)) rfl
theorem k48 : Cond.fieldLink "TapeRings$Planner" (89 : Nat) "TapeRings$Strip" "length" "I" ∈ zt := zin_1 (List.mem_of_getElem? (i := 50) (by decide +kernel)) rfl
theorem k49 : Cond.fieldLink "TapeRings$Studio" (57 : Nat) "TapeRings$Strip" "length" "I" ∈ zt := zin_1 (List.mem_of_getElem? (i := 51) (by decide +kernel)) rfl
theorem k50 : Cond.fieldLink "TapeRings" (117 : Nat) "TapeRings$Strip" "length" "I" ∈ zt := zin_1 (List.mem_of_getElem? (i := 52) (by decide +kernel)) rfl
theorem k51 : Cond.laysFinal "TapeRings$Strip" "TapeRings$Strip" "inches" "[I" ∈ zt := zin_1 (List.mem_of_getElem? (i := 53) (by decide +kernel)) rfl
theorem k52 : Cond.lays "TapeRings$Strip" "TapeRings$Strip" "length" "I" ∈ zt := zin_1 (List.mem_of_getElem? (i := 55) (by decide +kernel)) rfl
theorem k53 : Cond.arrayClass FieldType.int ∈ zt := zin_1 (List.mem_of_getElem? (i := 58) (by decide +kernel)) rfl
theorem k54 : Cond.fieldLink "TapeRings$Splicer" (9 : Nat) "TapeRings$Splicer" "signs" "[I" ∈ zt := zin_1 (List.mem_of_getElem? (i := 59) (by decide +kernel)) rfl
theorem k55 : Cond.fieldLink "TapeRings$Splicer" (15 : Nat) "TapeRings$Splicer" "count" "I" ∈ zt := zin_1 (List.mem_of_getElem? (i := 60) (by decide +kernel)) rfl
theorem k56 : Cond.fieldLink "TapeRings" (155 : Nat) "TapeRings$Splicer" "count" "I" ∈ zt := zin_1 (List.mem_of_getElem? (i := 61) (by decide +kernel)) rfl
theorem k57 : Cond.fieldLink "TapeRings$Splicer" (19 : Nat) "TapeRings$Splicer" "level" "I" ∈ zt := zin_1 (List.mem_of_getElem? (i := 62) (by decide +kernel)) rfl
theorem k58 : Cond.fieldLink "TapeRings$Splicer" (22 : Nat) "TapeRings$Splicer" "ahead" "I" ∈ zt := zin_1 (List.mem_of_getElem? (i := 63) (by decide +kernel)) rfl
theorem k59 : Cond.fieldLink "TapeRings$Splicer" (27 : Nat) "TapeRings$Splicer" "rows" "[LTapeRings$Strip;" ∈ zt := zin_1 (List.mem_of_getElem? (i := 64) (by decide +kernel)) rfl
theorem k60 : Cond.fieldLink "TapeRings$Splicer" (31 : Nat) "TapeRings$Splicer" "terms" "[LTapeRings$Strip;" ∈ zt := zin_1 (List.mem_of_getElem? (i := 65) (by decide +kernel)) rfl
theorem k61 : Cond.fieldLink "TapeRings$Splicer" (34 : Nat) "TapeRings$Splicer" "shared" "[I" ∈ zt := zin_1 (List.mem_of_getElem? (i := 66) (by decide +kernel)) rfl
theorem k62 : Cond.laysFinal "TapeRings$Splicer" "TapeRings$Splicer" "signs" "[I" ∈ zt := zin_1 (List.mem_of_getElem? (i := 67) (by decide +kernel)) rfl
theorem k63 : Cond.lays "TapeRings$Splicer" "TapeRings$Splicer" "count" "I" ∈ zt := zin_1 (List.mem_of_getElem? (i := 69) (by decide +kernel)) rfl
theorem k64 : Cond.lays "TapeRings$Splicer" "TapeRings$Splicer" "level" "I" ∈ zt := zin_1 (List.mem_of_getElem? (i := 71) (by decide +kernel)) rfl
theorem k65 : Cond.lays "TapeRings$Splicer" "TapeRings$Splicer" "ahead" "I" ∈ zt := zin_1 (List.mem_of_getElem? (i := 73) (by decide +kernel)) rfl
theorem k66 : Cond.laysFinal "TapeRings$Splicer" "TapeRings$Splicer" "rows" "[LTapeRings$Strip;" ∈ zt := zin_1 (List.mem_of_getElem? (i := 75) (by decide +kernel)) rfl
theorem k67 : Cond.laysFinal "TapeRings$Splicer" "TapeRings$Splicer" "terms" "[LTapeRings$Strip;" ∈ zt := zin_1 (List.mem_of_getElem? (i := 77) (by decide +kernel)) rfl
theorem k68 : Cond.laysFinal "TapeRings$Splicer" "TapeRings$Splicer" "shared" "[I" ∈ zt := zin_1 (List.mem_of_getElem? (i := 79) (by decide +kernel)) rfl
theorem k69 : Cond.classLink "TapeRings" (16 : Nat) "TapeRings$Strip" ∈ zt := zin_1 (List.mem_of_getElem? (i := 82) (by decide +kernel)) rfl
theorem k70 : Cond.classLink "TapeRings" (23 : Nat) "TapeRings$Studio" ∈ zt := zin_1 (List.mem_of_getElem? (i := 84) (by decide +kernel)) rfl
theorem k71 : Cond.instantiable "TapeRings$Studio" (3 : Nat) ∈ zt := zin_1 (List.mem_of_getElem? (i := 85) (by decide +kernel)) rfl
theorem k72 : Cond.methodLink "TapeRings" (25 : Nat) yX9_init ∈ zt := zin_1 (List.mem_of_getElem? (i := 86) (by decide +kernel)) rfl
theorem k73 : Cond.instanceMethod yX9_init ∈ zt := zin_1 (List.mem_of_getElem? (i := 87) (by decide +kernel)) rfl
theorem k74 : Cond.code yX9_init prog_11_method_1_code (2 : Nat) (Option.none : Option FieldType) ∈ zt := zin_1 (List.mem_of_getElem? (i := 88) (by decide +kernel)) rfl
theorem k75 : Cond.methodLink "TapeRings$Studio" (3 : Nat) (⟨"java/lang/Object", "<init>", "()V"⟩ : MethodName) ∈ zt := zin_1 (List.mem_of_getElem? (i := 89) (by decide +kernel)) rfl
theorem k76 : Cond.classLink "TapeRings$Studio" (9 : Nat) "TapeRings$Motor" ∈ zt := zin_1 (List.mem_of_getElem? (i := 90) (by decide +kernel)) rfl
theorem k77 : Cond.classLink "TapeRings$Studio" (17 : Nat) "TapeRings$Ring" ∈ zt := zin_1 (List.mem_of_getElem? (i := 92) (by decide +kernel)) rfl
theorem k78 : Cond.instantiable "TapeRings$Motor" (3 : Nat) ∈ zt := zin_1 (List.mem_of_getElem? (i := 94) (by decide +kernel)) rfl
theorem k79 : Cond.instanceMethod yX2_init ∈ zt := zin_1 (List.mem_of_getElem? (i := 96) (by decide +kernel)) rfl
theorem k80 : Cond.code yX2_init prog_4_method_1_code (1 : Nat) (Option.none : Option FieldType) ∈ zt := zin_1 (List.mem_of_getElem? (i := 97) (by decide +kernel)) rfl
theorem k81 : Cond.methodLink "TapeRings$Motor" (3 : Nat) (⟨"java/lang/Object", "<init>", "()V"⟩ : MethodName) ∈ zt := zin_1 (List.mem_of_getElem? (i := 98) (by decide +kernel)) rfl
theorem k82 : Cond.fieldLink "TapeRings$Motor" (9 : Nat) "TapeRings$Motor" "ticks" "[I" ∈ zt := zin_1 (List.mem_of_getElem? (i := 99) (by decide +kernel)) rfl
theorem k83 : Cond.fieldLink "TapeRings$Motor" (15 : Nat) "TapeRings$Motor" "speeds" "[I" ∈ zt := zin_1 (List.mem_of_getElem? (i := 100) (by decide +kernel)) rfl
theorem k84 : Cond.fieldLink "TapeRings$Motor" (18 : Nat) "TapeRings$Motor" "count" "I" ∈ zt := zin_1 (List.mem_of_getElem? (i := 101) (by decide +kernel)) rfl
theorem k85 : Cond.laysFinal "TapeRings$Motor" "TapeRings$Motor" "ticks" "[I" ∈ zt := zin_1 (List.mem_of_getElem? (i := 102) (by decide +kernel)) rfl
theorem k86 : Cond.laysFinal "TapeRings$Motor" "TapeRings$Motor" "speeds" "[I" ∈ zt := zin_1 (List.mem_of_getElem? (i := 104) (by decide +kernel)) rfl
theorem k87 : Cond.lays "TapeRings$Motor" "TapeRings$Motor" "count" "I" ∈ zt := zin_1 (List.mem_of_getElem? (i := 106) (by decide +kernel)) rfl
theorem k88 : Cond.instantiable "TapeRings$Ring" (6 : Nat) ∈ zt := zin_1 (List.mem_of_getElem? (i := 109) (by decide +kernel)) rfl
theorem k89 : Cond.instanceMethod yX6_init ∈ zt := zin_1 (List.mem_of_getElem? (i := 111) (by decide +kernel)) rfl
theorem k90 : Cond.code yX6_init prog_8_method_1_code (1 : Nat) (Option.none : Option FieldType) ∈ zt := zin_1 (List.mem_of_getElem? (i := 112) (by decide +kernel)) rfl
theorem k91 : Cond.methodLink "TapeRings$Ring" (3 : Nat) (⟨"java/lang/Object", "<init>", "()V"⟩ : MethodName) ∈ zt := zin_1 (List.mem_of_getElem? (i := 113) (by decide +kernel)) rfl
theorem k92 : Cond.classLink "TapeRings$Ring" (9 : Nat) "TapeRings$Strip" ∈ zt := zin_1 (List.mem_of_getElem? (i := 114) (by decide +kernel)) rfl
theorem k93 : Cond.fieldLink "TapeRings$Ring" (12 : Nat) "TapeRings$Ring" "strip" "LTapeRings$Strip;" ∈ zt := zin_1 (List.mem_of_getElem? (i := 116) (by decide +kernel)) rfl
theorem k94 : Cond.fieldLink "TapeRings$Planner" (85 : Nat) "TapeRings$Ring" "strip" "LTapeRings$Strip;" ∈ zt := zin_1 (List.mem_of_getElem? (i := 117) (by decide +kernel)) rfl
theorem k95 : Cond.fieldLink "TapeRings$Studio" (53 : Nat) "TapeRings$Ring" "strip" "LTapeRings$Strip;" ∈ zt := zin_1 (List.mem_of_getElem? (i := 118) (by decide +kernel)) rfl
theorem k96 : Cond.fieldLink "TapeRings" (108 : Nat) "TapeRings$Ring" "strip" "LTapeRings$Strip;" ∈ zt := zin_1 (List.mem_of_getElem? (i := 119) (by decide +kernel)) rfl
theorem k97 : Cond.fieldLink "TapeRings$Ring" (18 : Nat) "TapeRings$Ring" "motor" "I" ∈ zt := zin_1 (List.mem_of_getElem? (i := 120) (by decide +kernel)) rfl
theorem k98 : Cond.fieldLink "TapeRings$Planner" (60 : Nat) "TapeRings$Ring" "motor" "I" ∈ zt := zin_1 (List.mem_of_getElem? (i := 121) (by decide +kernel)) rfl
theorem k99 : Cond.fieldLink "TapeRings$Studio" (46 : Nat) "TapeRings$Ring" "motor" "I" ∈ zt := zin_1 (List.mem_of_getElem? (i := 122) (by decide +kernel)) rfl
theorem k100 : Cond.fieldLink "TapeRings" (124 : Nat) "TapeRings$Ring" "motor" "I" ∈ zt := zin_1 (List.mem_of_getElem? (i := 123) (by decide +kernel)) rfl
theorem k101 : Cond.fieldLink "TapeRings$Ring" (22 : Nat) "TapeRings$Ring" "start" "I" ∈ zt := zin_1 (List.mem_of_getElem? (i := 124) (by decide +kernel)) rfl
theorem k102 : Cond.fieldLink "TapeRings$Planner" (118 : Nat) "TapeRings$Ring" "start" "I" ∈ zt := zin_1 (List.mem_of_getElem? (i := 125) (by decide +kernel)) rfl
theorem k103 : Cond.fieldLink "TapeRings" (127 : Nat) "TapeRings$Ring" "start" "I" ∈ zt := zin_1 (List.mem_of_getElem? (i := 126) (by decide +kernel)) rfl
theorem k104 : Cond.fieldLink "TapeRings$Ring" (25 : Nat) "TapeRings$Ring" "heads" "I" ∈ zt := zin_1 (List.mem_of_getElem? (i := 127) (by decide +kernel)) rfl
theorem k105 : Cond.fieldLink "TapeRings" (159 : Nat) "TapeRings$Ring" "heads" "I" ∈ zt := zin_1 (List.mem_of_getElem? (i := 128) (by decide +kernel)) rfl
theorem k106 : Cond.fieldLink "TapeRings$Ring" (28 : Nat) "TapeRings$Ring" "wish" "I" ∈ zt := zin_1 (List.mem_of_getElem? (i := 129) (by decide +kernel)) rfl
theorem k107 : Cond.fieldLink "TapeRings$Studio" (77 : Nat) "TapeRings$Ring" "wish" "I" ∈ zt := zin_1 (List.mem_of_getElem? (i := 130) (by decide +kernel)) rfl
theorem k108 : Cond.fieldLink "TapeRings" (166 : Nat) "TapeRings$Ring" "wish" "I" ∈ zt := zin_1 (List.mem_of_getElem? (i := 131) (by decide +kernel)) rfl
theorem k109 : Cond.fieldLink "TapeRings$Ring" (31 : Nat) "TapeRings$Ring" "under" "[I" ∈ zt := zin_1 (List.mem_of_getElem? (i := 132) (by decide +kernel)) rfl
theorem k110 : Cond.laysFinal "TapeRings$Ring" "TapeRings$Ring" "strip" "LTapeRings$Strip;" ∈ zt := zin_1 (List.mem_of_getElem? (i := 133) (by decide +kernel)) rfl
theorem k111 : Cond.lays "TapeRings$Ring" "TapeRings$Ring" "motor" "I" ∈ zt := zin_1 (List.mem_of_getElem? (i := 135) (by decide +kernel)) rfl
theorem k112 : Cond.lays "TapeRings$Ring" "TapeRings$Ring" "start" "I" ∈ zt := zin_1 (List.mem_of_getElem? (i := 137) (by decide +kernel)) rfl
theorem k113 : Cond.lays "TapeRings$Ring" "TapeRings$Ring" "heads" "I" ∈ zt := zin_1 (List.mem_of_getElem? (i := 139) (by decide +kernel)) rfl
theorem k114 : Cond.lays "TapeRings$Ring" "TapeRings$Ring" "wish" "I" ∈ zt := zin_1 (List.mem_of_getElem? (i := 141) (by decide +kernel)) rfl
theorem k115 : Cond.laysFinal "TapeRings$Ring" "TapeRings$Ring" "under" "[I" ∈ zt := zin_1 (List.mem_of_getElem? (i := 143) (by decide +kernel)) rfl
theorem k116 : Cond.fieldLink "TapeRings$Studio" (11 : Nat) "TapeRings$Studio" "motors" "[LTapeRings$Motor;" ∈ zt := zin_1 (List.mem_of_getElem? (i := 146) (by decide +kernel)) rfl
theorem k117 : Cond.fieldLink "TapeRings$Studio" (19 : Nat) "TapeRings$Studio" "rings" "[LTapeRings$Ring;" ∈ zt := zin_1 (List.mem_of_getElem? (i := 147) (by decide +kernel)) rfl
theorem k118 : Cond.fieldLink "TapeRings$Studio" (23 : Nat) "TapeRings$Studio" "count" "I" ∈ zt := zin_1 (List.mem_of_getElem? (i := 148) (by decide +kernel)) rfl
theorem k119 : Cond.fieldLink "TapeRings$Planner" (48 : Nat) "TapeRings$Studio" "count" "I" ∈ zt := zin_1 (List.mem_of_getElem? (i := 149) (by decide +kernel)) rfl
theorem k120 : Cond.fieldLink "TapeRings" (151 : Nat) "TapeRings$Studio" "count" "I" ∈ zt := zin_1 (List.mem_of_getElem? (i := 150) (by decide +kernel)) rfl
theorem k121 : Cond.laysFinal "TapeRings$Studio" "TapeRings$Studio" "motors" "[LTapeRings$Motor;" ∈ zt := zin_1 (List.mem_of_getElem? (i := 151) (by decide +kernel)) rfl
theorem k122 : Cond.laysFinal "TapeRings$Studio" "TapeRings$Studio" "rings" "[LTapeRings$Ring;" ∈ zt := zin_1 (List.mem_of_getElem? (i := 153) (by decide +kernel)) rfl
theorem k123 : Cond.lays "TapeRings$Studio" "TapeRings$Studio" "count" "I" ∈ zt := zin_1 (List.mem_of_getElem? (i := 155) (by decide +kernel)) rfl
theorem k124 : Cond.classLink "TapeRings" (30 : Nat) "TapeRings$Meeting" ∈ zt := zin_1 (List.mem_of_getElem? (i := 158) (by decide +kernel)) rfl
theorem k125 : Cond.instantiable "TapeRings$Meeting" (4 : Nat) ∈ zt := zin_1 (List.mem_of_getElem? (i := 159) (by decide +kernel)) rfl
theorem k126 : Cond.instanceMethod yX1_init ∈ zt := zin_1 (List.mem_of_getElem? (i := 161) (by decide +kernel)) rfl
theorem k127 : Cond.code yX1_init prog_3_method_1_code (1 : Nat) (Option.none : Option FieldType) ∈ zt := zin_1 (List.mem_of_getElem? (i := 162) (by decide +kernel)) rfl
theorem k128 : Cond.methodLink "TapeRings$Meeting" (3 : Nat) (⟨"java/lang/Object", "<init>", "()V"⟩ : MethodName) ∈ zt := zin_1 (List.mem_of_getElem? (i := 163) (by decide +kernel)) rfl
theorem k129 : Cond.fieldLink "TapeRings$Meeting" (9 : Nat) "TapeRings$Meeting" "count" "I" ∈ zt := zin_1 (List.mem_of_getElem? (i := 164) (by decide +kernel)) rfl
theorem k130 : Cond.fieldLink "TapeRings$Meeting" (15 : Nat) "TapeRings$Meeting" "steady" "J" ∈ zt := zin_1 (List.mem_of_getElem? (i := 165) (by decide +kernel)) rfl
theorem k131 : Cond.fieldLink "TapeRings$Meeting" (19 : Nat) "TapeRings$Meeting" "rounds" "[I" ∈ zt := zin_1 (List.mem_of_getElem? (i := 166) (by decide +kernel)) rfl
theorem k132 : Cond.fieldLink "TapeRings$Meeting" (23 : Nat) "TapeRings$Meeting" "turns" "[I" ∈ zt := zin_1 (List.mem_of_getElem? (i := 167) (by decide +kernel)) rfl
theorem k133 : Cond.lays "TapeRings$Meeting" "TapeRings$Meeting" "count" "I" ∈ zt := zin_1 (List.mem_of_getElem? (i := 168) (by decide +kernel)) rfl
theorem k134 : Cond.lays "TapeRings$Meeting" "TapeRings$Meeting" "steady" "J" ∈ zt := zin_1 (List.mem_of_getElem? (i := 170) (by decide +kernel)) rfl
theorem k135 : Cond.laysFinal "TapeRings$Meeting" "TapeRings$Meeting" "rounds" "[I" ∈ zt := zin_1 (List.mem_of_getElem? (i := 172) (by decide +kernel)) rfl
theorem k136 : Cond.laysFinal "TapeRings$Meeting" "TapeRings$Meeting" "turns" "[I" ∈ zt := zin_1 (List.mem_of_getElem? (i := 174) (by decide +kernel)) rfl
theorem k137 : Cond.classLink "TapeRings" (37 : Nat) "TapeRings$Planner" ∈ zt := zin_1 (List.mem_of_getElem? (i := 177) (by decide +kernel)) rfl
theorem k138 : Cond.instantiable "TapeRings$Planner" (9 : Nat) ∈ zt := zin_1 (List.mem_of_getElem? (i := 178) (by decide +kernel)) rfl
theorem k139 : Cond.instanceMethod yX5_init ∈ zt := zin_1 (List.mem_of_getElem? (i := 180) (by decide +kernel)) rfl
theorem k140 : Cond.code yX5_init prog_7_method_1_code (1 : Nat) (Option.none : Option FieldType) ∈ zt := zin_1 (List.mem_of_getElem? (i := 181) (by decide +kernel)) rfl
theorem k141 : Cond.methodLink "TapeRings$Planner" (3 : Nat) (⟨"java/lang/Object", "<init>", "()V"⟩ : MethodName) ∈ zt := zin_1 (List.mem_of_getElem? (i := 182) (by decide +kernel)) rfl
theorem k142 : Cond.classLink "TapeRings$Planner" (25 : Nat) "[[I" ∈ zt := zin_1 (List.mem_of_getElem? (i := 183) (by decide +kernel)) rfl
theorem k143 : Cond.fieldLink "TapeRings$Planner" (9 : Nat) "TapeRings$Planner" "ticks" "[I" ∈ zt := zin_1 (List.mem_of_getElem? (i := 185) (by decide +kernel)) rfl
theorem k144 : Cond.fieldLink "TapeRings$Planner" (15 : Nat) "TapeRings$Planner" "sounds" "[I" ∈ zt := zin_1 (List.mem_of_getElem? (i := 186) (by decide +kernel)) rfl
theorem k145 : Cond.fieldLink "TapeRings$Planner" (18 : Nat) "TapeRings$Planner" "count" "I" ∈ zt := zin_1 (List.mem_of_getElem? (i := 187) (by decide +kernel)) rfl
theorem k146 : Cond.fieldLink "TapeRings" (144 : Nat) "TapeRings$Planner" "count" "I" ∈ zt := zin_1 (List.mem_of_getElem? (i := 188) (by decide +kernel)) rfl
theorem k147 : Cond.fieldLink "TapeRings$Planner" (22 : Nat) "TapeRings$Planner" "plan" "[I" ∈ zt := zin_1 (List.mem_of_getElem? (i := 189) (by decide +kernel)) rfl
theorem k148 : Cond.fieldLink "TapeRings" (217 : Nat) "TapeRings$Planner" "plan" "[I" ∈ zt := zin_1 (List.mem_of_getElem? (i := 190) (by decide +kernel)) rfl
theorem k149 : Cond.fieldLink "TapeRings$Planner" (27 : Nat) "TapeRings$Planner" "trueBy" "[[I" ∈ zt := zin_1 (List.mem_of_getElem? (i := 191) (by decide +kernel)) rfl
theorem k150 : Cond.fieldLink "TapeRings$Planner" (30 : Nat) "TapeRings$Planner" "costs" "[[I" ∈ zt := zin_1 (List.mem_of_getElem? (i := 192) (by decide +kernel)) rfl
theorem k151 : Cond.fieldLink "TapeRings$Planner" (33 : Nat) "TapeRings$Planner" "cheapest" "[I" ∈ zt := zin_1 (List.mem_of_getElem? (i := 193) (by decide +kernel)) rfl
theorem k152 : Cond.fieldLink "TapeRings$Planner" (36 : Nat) "TapeRings$Planner" "under" "[I" ∈ zt := zin_1 (List.mem_of_getElem? (i := 194) (by decide +kernel)) rfl
theorem k153 : Cond.fieldLink "TapeRings$Planner" (39 : Nat) "TapeRings$Planner" "ways" "[I" ∈ zt := zin_1 (List.mem_of_getElem? (i := 195) (by decide +kernel)) rfl
theorem k154 : Cond.laysFinal "TapeRings$Planner" "TapeRings$Planner" "ticks" "[I" ∈ zt := zin_1 (List.mem_of_getElem? (i := 196) (by decide +kernel)) rfl
theorem k155 : Cond.laysFinal "TapeRings$Planner" "TapeRings$Planner" "sounds" "[I" ∈ zt := zin_1 (List.mem_of_getElem? (i := 198) (by decide +kernel)) rfl
theorem k156 : Cond.lays "TapeRings$Planner" "TapeRings$Planner" "count" "I" ∈ zt := zin_1 (List.mem_of_getElem? (i := 200) (by decide +kernel)) rfl
theorem k157 : Cond.laysFinal "TapeRings$Planner" "TapeRings$Planner" "plan" "[I" ∈ zt := zin_1 (List.mem_of_getElem? (i := 202) (by decide +kernel)) rfl
theorem k158 : Cond.laysFinal "TapeRings$Planner" "TapeRings$Planner" "trueBy" "[[I" ∈ zt := zin_1 (List.mem_of_getElem? (i := 204) (by decide +kernel)) rfl
theorem k159 : Cond.laysFinal "TapeRings$Planner" "TapeRings$Planner" "costs" "[[I" ∈ zt := zin_1 (List.mem_of_getElem? (i := 206) (by decide +kernel)) rfl
theorem k160 : Cond.laysFinal "TapeRings$Planner" "TapeRings$Planner" "cheapest" "[I" ∈ zt := zin_1 (List.mem_of_getElem? (i := 208) (by decide +kernel)) rfl
theorem k161 : Cond.laysFinal "TapeRings$Planner" "TapeRings$Planner" "under" "[I" ∈ zt := zin_1 (List.mem_of_getElem? (i := 210) (by decide +kernel)) rfl
theorem k162 : Cond.laysFinal "TapeRings$Planner" "TapeRings$Planner" "ways" "[I" ∈ zt := zin_1 (List.mem_of_getElem? (i := 212) (by decide +kernel)) rfl
theorem k163 : Cond.classLink "TapeRings" (44 : Nat) "TapeRings$Echo" ∈ zt := zin_1 (List.mem_of_getElem? (i := 215) (by decide +kernel)) rfl
theorem k164 : Cond.instantiable "TapeRings$Echo" (8 : Nat) ∈ zt := zin_1 (List.mem_of_getElem? (i := 216) (by decide +kernel)) rfl
theorem k165 : Cond.methodLink "TapeRings" (46 : Nat) yX0_init ∈ zt := zin_1 (List.mem_of_getElem? (i := 217) (by decide +kernel)) rfl
theorem k166 : Cond.instanceMethod yX0_init ∈ zt := zin_1 (List.mem_of_getElem? (i := 218) (by decide +kernel)) rfl
theorem k167 : Cond.code yX0_init prog_2_method_1_code (1 : Nat) (Option.none : Option FieldType) ∈ zt := zin_1 (List.mem_of_getElem? (i := 219) (by decide +kernel)) rfl
theorem k168 : Cond.methodLink "TapeRings$Echo" (3 : Nat) (⟨"java/lang/Object", "<init>", "()V"⟩ : MethodName) ∈ zt := zin_1 (List.mem_of_getElem? (i := 220) (by decide +kernel)) rfl
theorem k169 : Cond.methodLink "TapeRings$Echo" (37 : Nat) yJ7_fill_53178 ∈ zt := zin_1 (List.mem_of_getElem? (i := 221) (by decide +kernel)) rfl
theorem k170 : Cond.static yJ7_fill_53178 ∈ zt := zin_1 (List.mem_of_getElem? (i := 222) (by decide +kernel)) rfl
theorem k171 : Cond.code yJ7_fill_53178 prog_22_method_103_code (4 : Nat) (Option.none : Option FieldType) ∈ zt := zin_1 (List.mem_of_getElem? (i := 223) (by decide +kernel)) rfl
theorem k172 : Cond.fieldLink "TapeRings$Echo" (9 : Nat) "TapeRings$Echo" "stop" "I" ∈ zt := zin_1 (List.mem_of_getElem? (i := 224) (by decide +kernel)) rfl
theorem k173 : Cond.fieldLink "TapeRings" (237 : Nat) "TapeRings$Echo" "stop" "I" ∈ zt := zin_1 (List.mem_of_getElem? (i := 225) (by decide +kernel)) rfl
theorem k174 : Cond.fieldLink "TapeRings$Echo" (15 : Nat) "TapeRings$Echo" "comesBack" "[I" ∈ zt := zin_1 (List.mem_of_getElem? (i := 226) (by decide +kernel)) rfl
theorem k175 : Cond.fieldLink "TapeRings" (250 : Nat) "TapeRings$Echo" "comesBack" "[I" ∈ zt := zin_1 (List.mem_of_getElem? (i := 227) (by decide +kernel)) rfl
theorem k176 : Cond.fieldLink "TapeRings$Echo" (19 : Nat) "TapeRings$Echo" "weights" "[I" ∈ zt := zin_1 (List.mem_of_getElem? (i := 228) (by decide +kernel)) rfl
theorem k177 : Cond.fieldLink "TapeRings$Echo" (22 : Nat) "TapeRings$Echo" "firstDelay" "I" ∈ zt := zin_1 (List.mem_of_getElem? (i := 229) (by decide +kernel)) rfl
theorem k178 : Cond.fieldLink "TapeRings$Echo" (25 : Nat) "TapeRings$Echo" "firstGain" "I" ∈ zt := zin_1 (List.mem_of_getElem? (i := 230) (by decide +kernel)) rfl
theorem k179 : Cond.fieldLink "TapeRings$Echo" (28 : Nat) "TapeRings$Echo" "secondDelay" "I" ∈ zt := zin_1 (List.mem_of_getElem? (i := 231) (by decide +kernel)) rfl
theorem k180 : Cond.fieldLink "TapeRings$Echo" (31 : Nat) "TapeRings$Echo" "secondGain" "I" ∈ zt := zin_1 (List.mem_of_getElem? (i := 232) (by decide +kernel)) rfl
theorem k181 : Cond.fieldLink "TapeRings$Echo" (34 : Nat) "TapeRings$Echo" "outs" "[I" ∈ zt := zin_1 (List.mem_of_getElem? (i := 233) (by decide +kernel)) rfl
theorem k182 : Cond.lays "TapeRings$Echo" "TapeRings$Echo" "stop" "I" ∈ zt := zin_1 (List.mem_of_getElem? (i := 234) (by decide +kernel)) rfl
theorem k183 : Cond.laysFinal "TapeRings$Echo" "TapeRings$Echo" "comesBack" "[I" ∈ zt := zin_1 (List.mem_of_getElem? (i := 236) (by decide +kernel)) rfl
theorem k184 : Cond.laysFinal "TapeRings$Echo" "TapeRings$Echo" "weights" "[I" ∈ zt := zin_1 (List.mem_of_getElem? (i := 238) (by decide +kernel)) rfl
theorem k185 : Cond.lays "TapeRings$Echo" "TapeRings$Echo" "firstDelay" "I" ∈ zt := zin_2 (List.mem_of_getElem? (i := 0) (by decide +kernel)) rfl
theorem k186 : Cond.lays "TapeRings$Echo" "TapeRings$Echo" "firstGain" "I" ∈ zt := zin_2 (List.mem_of_getElem? (i := 2) (by decide +kernel)) rfl
theorem k187 : Cond.lays "TapeRings$Echo" "TapeRings$Echo" "secondDelay" "I" ∈ zt := zin_2 (List.mem_of_getElem? (i := 4) (by decide +kernel)) rfl
theorem k188 : Cond.lays "TapeRings$Echo" "TapeRings$Echo" "secondGain" "I" ∈ zt := zin_2 (List.mem_of_getElem? (i := 6) (by decide +kernel)) rfl
theorem k189 : Cond.laysFinal "TapeRings$Echo" "TapeRings$Echo" "outs" "[I" ∈ zt := zin_2 (List.mem_of_getElem? (i := 8) (by decide +kernel)) rfl
theorem k190 : Cond.classLink "TapeRings" (51 : Nat) "TapeRings$OldTape" ∈ zt := zin_2 (List.mem_of_getElem? (i := 11) (by decide +kernel)) rfl
theorem k191 : Cond.instantiable "TapeRings$OldTape" (4 : Nat) ∈ zt := zin_2 (List.mem_of_getElem? (i := 12) (by decide +kernel)) rfl
theorem k192 : Cond.instanceMethod yX3_init ∈ zt := zin_2 (List.mem_of_getElem? (i := 14) (by decide +kernel)) rfl
theorem k193 : Cond.code yX3_init prog_5_method_1_code (1 : Nat) (Option.none : Option FieldType) ∈ zt := zin_2 (List.mem_of_getElem? (i := 15) (by decide +kernel)) rfl
theorem k194 : Cond.methodLink "TapeRings$OldTape" (3 : Nat) (⟨"java/lang/Object", "<init>", "()V"⟩ : MethodName) ∈ zt := zin_2 (List.mem_of_getElem? (i := 16) (by decide +kernel)) rfl
theorem k195 : Cond.fieldLink "TapeRings$OldTape" (9 : Nat) "TapeRings$OldTape" "places" "[I" ∈ zt := zin_2 (List.mem_of_getElem? (i := 17) (by decide +kernel)) rfl
theorem k196 : Cond.fieldLink "TapeRings$OldTape" (15 : Nat) "TapeRings$OldTape" "count" "I" ∈ zt := zin_2 (List.mem_of_getElem? (i := 18) (by decide +kernel)) rfl
theorem k197 : Cond.fieldLink "TapeRings" (152 : Nat) "TapeRings$OldTape" "count" "I" ∈ zt := zin_2 (List.mem_of_getElem? (i := 19) (by decide +kernel)) rfl
theorem k198 : Cond.fieldLink "TapeRings$OldTape" (19 : Nat) "TapeRings$OldTape" "first" "[I" ∈ zt := zin_2 (List.mem_of_getElem? (i := 20) (by decide +kernel)) rfl
theorem k199 : Cond.fieldLink "TapeRings$OldTape" (22 : Nat) "TapeRings$OldTape" "second" "[I" ∈ zt := zin_2 (List.mem_of_getElem? (i := 21) (by decide +kernel)) rfl
theorem k200 : Cond.laysFinal "TapeRings$OldTape" "TapeRings$OldTape" "places" "[I" ∈ zt := zin_2 (List.mem_of_getElem? (i := 22) (by decide +kernel)) rfl
theorem k201 : Cond.lays "TapeRings$OldTape" "TapeRings$OldTape" "count" "I" ∈ zt := zin_2 (List.mem_of_getElem? (i := 24) (by decide +kernel)) rfl
theorem k202 : Cond.laysFinal "TapeRings$OldTape" "TapeRings$OldTape" "first" "[I" ∈ zt := zin_2 (List.mem_of_getElem? (i := 26) (by decide +kernel)) rfl
theorem k203 : Cond.laysFinal "TapeRings$OldTape" "TapeRings$OldTape" "second" "[I" ∈ zt := zin_2 (List.mem_of_getElem? (i := 28) (by decide +kernel)) rfl
theorem k204 : Cond.classLink "TapeRings" (58 : Nat) "TapeRings$Pieces" ∈ zt := zin_2 (List.mem_of_getElem? (i := 31) (by decide +kernel)) rfl
theorem k205 : Cond.instantiable "TapeRings$Pieces" (6 : Nat) ∈ zt := zin_2 (List.mem_of_getElem? (i := 32) (by decide +kernel)) rfl
theorem k206 : Cond.instanceMethod yX4_init ∈ zt := zin_2 (List.mem_of_getElem? (i := 34) (by decide +kernel)) rfl
theorem k207 : Cond.code yX4_init prog_6_method_1_code (1 : Nat) (Option.none : Option FieldType) ∈ zt := zin_2 (List.mem_of_getElem? (i := 35) (by decide +kernel)) rfl
theorem k208 : Cond.methodLink "TapeRings$Pieces" (3 : Nat) (⟨"java/lang/Object", "<init>", "()V"⟩ : MethodName) ∈ zt := zin_2 (List.mem_of_getElem? (i := 36) (by decide +kernel)) rfl
theorem k209 : Cond.classLink "TapeRings$Pieces" (22 : Nat) "[[I" ∈ zt := zin_2 (List.mem_of_getElem? (i := 37) (by decide +kernel)) rfl
theorem k210 : Cond.fieldLink "TapeRings$Pieces" (9 : Nat) "TapeRings$Pieces" "count" "I" ∈ zt := zin_2 (List.mem_of_getElem? (i := 38) (by decide +kernel)) rfl
theorem k211 : Cond.fieldLink "TapeRings" (153 : Nat) "TapeRings$Pieces" "count" "I" ∈ zt := zin_2 (List.mem_of_getElem? (i := 39) (by decide +kernel)) rfl
theorem k212 : Cond.fieldLink "TapeRings$Pieces" (15 : Nat) "TapeRings$Pieces" "best" "[I" ∈ zt := zin_2 (List.mem_of_getElem? (i := 40) (by decide +kernel)) rfl
theorem k213 : Cond.fieldLink "TapeRings" (270 : Nat) "TapeRings$Pieces" "best" "[I" ∈ zt := zin_2 (List.mem_of_getElem? (i := 41) (by decide +kernel)) rfl
theorem k214 : Cond.fieldLink "TapeRings$Pieces" (19 : Nat) "TapeRings$Pieces" "bestLength" "I" ∈ zt := zin_2 (List.mem_of_getElem? (i := 42) (by decide +kernel)) rfl
theorem k215 : Cond.fieldLink "TapeRings$Pieces" (24 : Nat) "TapeRings$Pieces" "sounds" "[[I" ∈ zt := zin_2 (List.mem_of_getElem? (i := 43) (by decide +kernel)) rfl
theorem k216 : Cond.fieldLink "TapeRings$Pieces" (27 : Nat) "TapeRings$Pieces" "lengths" "[I" ∈ zt := zin_2 (List.mem_of_getElem? (i := 44) (by decide +kernel)) rfl
theorem k217 : Cond.fieldLink "TapeRings$Pieces" (30 : Nat) "TapeRings$Pieces" "laid" "[I" ∈ zt := zin_2 (List.mem_of_getElem? (i := 45) (by decide +kernel)) rfl
theorem k218 : Cond.lays "TapeRings$Pieces" "TapeRings$Pieces" "count" "I" ∈ zt := zin_2 (List.mem_of_getElem? (i := 46) (by decide +kernel)) rfl
theorem k219 : Cond.laysFinal "TapeRings$Pieces" "TapeRings$Pieces" "best" "[I" ∈ zt := zin_2 (List.mem_of_getElem? (i := 48) (by decide +kernel)) rfl
theorem k220 : Cond.lays "TapeRings$Pieces" "TapeRings$Pieces" "bestLength" "I" ∈ zt := zin_2 (List.mem_of_getElem? (i := 50) (by decide +kernel)) rfl
theorem k221 : Cond.laysFinal "TapeRings$Pieces" "TapeRings$Pieces" "sounds" "[[I" ∈ zt := zin_2 (List.mem_of_getElem? (i := 52) (by decide +kernel)) rfl
theorem k222 : Cond.laysFinal "TapeRings$Pieces" "TapeRings$Pieces" "lengths" "[I" ∈ zt := zin_2 (List.mem_of_getElem? (i := 54) (by decide +kernel)) rfl
theorem k223 : Cond.laysFinal "TapeRings$Pieces" "TapeRings$Pieces" "laid" "[I" ∈ zt := zin_2 (List.mem_of_getElem? (i := 56) (by decide +kernel)) rfl
theorem k224 : Cond.classLink "TapeRings" (65 : Nat) "TapeRings$Versions" ∈ zt := zin_2 (List.mem_of_getElem? (i := 59) (by decide +kernel)) rfl
theorem k225 : Cond.instantiable "TapeRings$Versions" (5 : Nat) ∈ zt := zin_2 (List.mem_of_getElem? (i := 60) (by decide +kernel)) rfl
theorem k226 : Cond.methodLink "TapeRings" (67 : Nat) yX10_init ∈ zt := zin_2 (List.mem_of_getElem? (i := 61) (by decide +kernel)) rfl
theorem k227 : Cond.instanceMethod yX10_init ∈ zt := zin_2 (List.mem_of_getElem? (i := 62) (by decide +kernel)) rfl
theorem k228 : Cond.code yX10_init prog_12_method_1_code (2 : Nat) (Option.none : Option FieldType) ∈ zt := zin_2 (List.mem_of_getElem? (i := 63) (by decide +kernel)) rfl
theorem k229 : Cond.methodLink "TapeRings$Versions" (3 : Nat) (⟨"java/lang/Object", "<init>", "()V"⟩ : MethodName) ∈ zt := zin_2 (List.mem_of_getElem? (i := 64) (by decide +kernel)) rfl
theorem k230 : Cond.classLink "TapeRings$Versions" (15 : Nat) "TapeRings$Strip" ∈ zt := zin_2 (List.mem_of_getElem? (i := 65) (by decide +kernel)) rfl
theorem k231 : Cond.fieldLink "TapeRings$Versions" (9 : Nat) "TapeRings$Versions" "count" "I" ∈ zt := zin_2 (List.mem_of_getElem? (i := 67) (by decide +kernel)) rfl
theorem k232 : Cond.fieldLink "TapeRings" (154 : Nat) "TapeRings$Versions" "count" "I" ∈ zt := zin_2 (List.mem_of_getElem? (i := 68) (by decide +kernel)) rfl
theorem k233 : Cond.fieldLink "TapeRings$Versions" (17 : Nat) "TapeRings$Versions" "strips" "[LTapeRings$Strip;" ∈ zt := zin_2 (List.mem_of_getElem? (i := 69) (by decide +kernel)) rfl
theorem k234 : Cond.fieldLink "TapeRings$Versions" (21 : Nat) "TapeRings$Versions" "rings" "[I" ∈ zt := zin_2 (List.mem_of_getElem? (i := 70) (by decide +kernel)) rfl
theorem k235 : Cond.fieldLink "TapeRings$Versions" (25 : Nat) "TapeRings$Versions" "days" "[I" ∈ zt := zin_2 (List.mem_of_getElem? (i := 71) (by decide +kernel)) rfl
theorem k236 : Cond.fieldLink "TapeRings$Versions" (28 : Nat) "TapeRings$Versions" "steps" "[I" ∈ zt := zin_2 (List.mem_of_getElem? (i := 72) (by decide +kernel)) rfl
theorem k237 : Cond.lays "TapeRings$Versions" "TapeRings$Versions" "count" "I" ∈ zt := zin_2 (List.mem_of_getElem? (i := 73) (by decide +kernel)) rfl
theorem k238 : Cond.laysFinal "TapeRings$Versions" "TapeRings$Versions" "strips" "[LTapeRings$Strip;" ∈ zt := zin_2 (List.mem_of_getElem? (i := 75) (by decide +kernel)) rfl
theorem k239 : Cond.laysFinal "TapeRings$Versions" "TapeRings$Versions" "rings" "[I" ∈ zt := zin_2 (List.mem_of_getElem? (i := 77) (by decide +kernel)) rfl
theorem k240 : Cond.laysFinal "TapeRings$Versions" "TapeRings$Versions" "days" "[I" ∈ zt := zin_2 (List.mem_of_getElem? (i := 79) (by decide +kernel)) rfl
theorem k241 : Cond.laysFinal "TapeRings$Versions" "TapeRings$Versions" "steps" "[I" ∈ zt := zin_2 (List.mem_of_getElem? (i := 81) (by decide +kernel)) rfl
theorem k242 : Cond.fieldLink "TapeRings" (12 : Nat) "TapeRings" "text" "LTapeRings$Splicer;" ∈ zt := zin_2 (List.mem_of_getElem? (i := 84) (by decide +kernel)) rfl
theorem k243 : Cond.fieldLink "TapeRings" (19 : Nat) "TapeRings" "inHand" "LTapeRings$Strip;" ∈ zt := zin_2 (List.mem_of_getElem? (i := 85) (by decide +kernel)) rfl
theorem k244 : Cond.fieldLink "TapeRings" (26 : Nat) "TapeRings" "studio" "LTapeRings$Studio;" ∈ zt := zin_2 (List.mem_of_getElem? (i := 86) (by decide +kernel)) rfl
theorem k245 : Cond.fieldLink "TapeRings" (33 : Nat) "TapeRings" "meeting" "LTapeRings$Meeting;" ∈ zt := zin_2 (List.mem_of_getElem? (i := 87) (by decide +kernel)) rfl
theorem k246 : Cond.fieldLink "TapeRings" (40 : Nat) "TapeRings" "planner" "LTapeRings$Planner;" ∈ zt := zin_2 (List.mem_of_getElem? (i := 88) (by decide +kernel)) rfl
theorem k247 : Cond.fieldLink "TapeRings" (47 : Nat) "TapeRings" "echo" "LTapeRings$Echo;" ∈ zt := zin_2 (List.mem_of_getElem? (i := 89) (by decide +kernel)) rfl
theorem k248 : Cond.fieldLink "TapeRings" (54 : Nat) "TapeRings" "old" "LTapeRings$OldTape;" ∈ zt := zin_2 (List.mem_of_getElem? (i := 90) (by decide +kernel)) rfl
theorem k249 : Cond.fieldLink "TapeRings" (61 : Nat) "TapeRings" "pieces" "LTapeRings$Pieces;" ∈ zt := zin_2 (List.mem_of_getElem? (i := 91) (by decide +kernel)) rfl
theorem k250 : Cond.fieldLink "TapeRings" (68 : Nat) "TapeRings" "versions" "LTapeRings$Versions;" ∈ zt := zin_2 (List.mem_of_getElem? (i := 92) (by decide +kernel)) rfl
theorem k251 : Cond.fieldLink "TapeRings" (72 : Nat) "TapeRings" "told" "[I" ∈ zt := zin_2 (List.mem_of_getElem? (i := 93) (by decide +kernel)) rfl
theorem k252 : Cond.fieldLink "TapeRings" (76 : Nat) "TapeRings" "toldCount" "I" ∈ zt := zin_2 (List.mem_of_getElem? (i := 94) (by decide +kernel)) rfl
theorem k253 : Cond.laysFinal "TapeRings" "TapeRings" "text" "LTapeRings$Splicer;" ∈ zt := zin_2 (List.mem_of_getElem? (i := 95) (by decide +kernel)) rfl
theorem k254 : Cond.laysFinal "TapeRings" "TapeRings" "inHand" "LTapeRings$Strip;" ∈ zt := zin_2 (List.mem_of_getElem? (i := 97) (by decide +kernel)) rfl
theorem k255 : Cond.laysFinal "TapeRings" "TapeRings" "studio" "LTapeRings$Studio;" ∈ zt := zin_2 (List.mem_of_getElem? (i := 99) (by decide +kernel)) rfl
theorem k256 : Cond.laysFinal "TapeRings" "TapeRings" "meeting" "LTapeRings$Meeting;" ∈ zt := zin_2 (List.mem_of_getElem? (i := 101) (by decide +kernel)) rfl
theorem k257 : Cond.laysFinal "TapeRings" "TapeRings" "planner" "LTapeRings$Planner;" ∈ zt := zin_2 (List.mem_of_getElem? (i := 103) (by decide +kernel)) rfl
theorem k258 : Cond.laysFinal "TapeRings" "TapeRings" "echo" "LTapeRings$Echo;" ∈ zt := zin_2 (List.mem_of_getElem? (i := 105) (by decide +kernel)) rfl
theorem k259 : Cond.laysFinal "TapeRings" "TapeRings" "old" "LTapeRings$OldTape;" ∈ zt := zin_2 (List.mem_of_getElem? (i := 107) (by decide +kernel)) rfl
theorem k260 : Cond.laysFinal "TapeRings" "TapeRings" "pieces" "LTapeRings$Pieces;" ∈ zt := zin_2 (List.mem_of_getElem? (i := 109) (by decide +kernel)) rfl
theorem k261 : Cond.laysFinal "TapeRings" "TapeRings" "versions" "LTapeRings$Versions;" ∈ zt := zin_2 (List.mem_of_getElem? (i := 111) (by decide +kernel)) rfl
theorem k262 : Cond.laysFinal "TapeRings" "TapeRings" "told" "[I" ∈ zt := zin_2 (List.mem_of_getElem? (i := 113) (by decide +kernel)) rfl
theorem k263 : Cond.lays "TapeRings" "TapeRings" "toldCount" "I" ∈ zt := zin_2 (List.mem_of_getElem? (i := 115) (by decide +kernel)) rfl
theorem k264 : Cond.methodLink "TapeRingsLaw" (27 : Nat) yX11_sign ∈ zt := zin_2 (List.mem_of_getElem? (i := 118) (by decide +kernel)) rfl
theorem k265 : Cond.instanceMethod yX11_sign ∈ zt := zin_2 (List.mem_of_getElem? (i := 119) (by decide +kernel)) rfl
theorem k266 : Cond.selects "TapeRings" yX11_sign yX11_sign ∈ zt := zin_2 (List.mem_of_getElem? (i := 120) (by decide +kernel)) rfl
theorem k267 : Cond.code yX11_sign prog_1_method_2_code (2 : Nat) (Option.some FieldType.int) ∈ zt := zin_2 (List.mem_of_getElem? (i := 121) (by decide +kernel)) rfl
theorem k268 : Cond.methodLink "TapeRings" (80 : Nat) yX7_add ∈ zt := zin_2 (List.mem_of_getElem? (i := 122) (by decide +kernel)) rfl
theorem k269 : Cond.instanceMethod yX7_add ∈ zt := zin_2 (List.mem_of_getElem? (i := 123) (by decide +kernel)) rfl
theorem k270 : Cond.selects "TapeRings$Splicer" yX7_add yX7_add ∈ zt := zin_2 (List.mem_of_getElem? (i := 124) (by decide +kernel)) rfl
theorem k271 : Cond.code yX7_add prog_9_method_2_code (3 : Nat) (Option.some FieldType.int) ∈ zt := zin_2 (List.mem_of_getElem? (i := 125) (by decide +kernel)) rfl
theorem k272 : Cond.methodLink "TapeRingsLaw" (31 : Nat) yX11_end ∈ zt := zin_2 (List.mem_of_getElem? (i := 126) (by decide +kernel)) rfl
theorem k273 : Cond.instanceMethod yX11_end ∈ zt := zin_2 (List.mem_of_getElem? (i := 127) (by decide +kernel)) rfl
theorem k274 : Cond.selects "TapeRings" yX11_end yX11_end ∈ zt := zin_2 (List.mem_of_getElem? (i := 128) (by decide +kernel)) rfl
theorem k275 : Cond.code yX11_end prog_1_method_3_code (2 : Nat) (Option.some FieldType.boolean) ∈ zt := zin_2 (List.mem_of_getElem? (i := 129) (by decide +kernel)) rfl
theorem k276 : Cond.methodLink "TapeRings" (84 : Nat) yX7_keepFirst ∈ zt := zin_2 (List.mem_of_getElem? (i := 130) (by decide +kernel)) rfl
theorem k277 : Cond.instanceMethod yX7_keepFirst ∈ zt := zin_2 (List.mem_of_getElem? (i := 131) (by decide +kernel)) rfl
theorem k278 : Cond.selects "TapeRings$Splicer" yX7_keepFirst yX7_keepFirst ∈ zt := zin_2 (List.mem_of_getElem? (i := 132) (by decide +kernel)) rfl
theorem k279 : Cond.code yX7_keepFirst prog_9_method_3_code (2 : Nat) (Option.some FieldType.boolean) ∈ zt := zin_2 (List.mem_of_getElem? (i := 133) (by decide +kernel)) rfl
theorem k280 : Cond.methodLink "TapeRingsLaw" (36 : Nat) yX11_splice ∈ zt := zin_2 (List.mem_of_getElem? (i := 134) (by decide +kernel)) rfl
theorem k281 : Cond.instanceMethod yX11_splice ∈ zt := zin_2 (List.mem_of_getElem? (i := 135) (by decide +kernel)) rfl
theorem k282 : Cond.selects "TapeRings" yX11_splice yX11_splice ∈ zt := zin_2 (List.mem_of_getElem? (i := 136) (by decide +kernel)) rfl
theorem k283 : Cond.code yX11_splice prog_1_method_4_code (1 : Nat) (Option.some FieldType.int) ∈ zt := zin_2 (List.mem_of_getElem? (i := 137) (by decide +kernel)) rfl
theorem k284 : Cond.methodLink "TapeRings" (88 : Nat) yX7_putInto ∈ zt := zin_2 (List.mem_of_getElem? (i := 138) (by decide +kernel)) rfl
theorem k285 : Cond.instanceMethod yX7_putInto ∈ zt := zin_2 (List.mem_of_getElem? (i := 139) (by decide +kernel)) rfl
theorem k286 : Cond.selects "TapeRings$Splicer" yX7_putInto yX7_putInto ∈ zt := zin_2 (List.mem_of_getElem? (i := 140) (by decide +kernel)) rfl
theorem k287 : Cond.code yX7_putInto prog_9_method_4_code (4 : Nat) (Option.some FieldType.int) ∈ zt := zin_2 (List.mem_of_getElem? (i := 141) (by decide +kernel)) rfl
theorem k288 : Cond.methodLink "TapeRings$Splicer" (38 : Nat) yX7_firstWrong ∈ zt := zin_2 (List.mem_of_getElem? (i := 142) (by decide +kernel)) rfl
theorem k289 : Cond.instanceMethod yX7_firstWrong ∈ zt := zin_2 (List.mem_of_getElem? (i := 144) (by decide +kernel)) rfl
theorem k290 : Cond.code yX7_firstWrong prog_9_method_5_code (3 : Nat) (Option.some FieldType.int) ∈ zt := zin_2 (List.mem_of_getElem? (i := 145) (by decide +kernel)) rfl
theorem k291 : Cond.methodLink "TapeRings$Splicer" (52 : Nat) yX7_behind ∈ zt := zin_2 (List.mem_of_getElem? (i := 146) (by decide +kernel)) rfl
theorem k292 : Cond.instanceMethod yX7_behind ∈ zt := zin_2 (List.mem_of_getElem? (i := 148) (by decide +kernel)) rfl
theorem k293 : Cond.code yX7_behind prog_9_method_6_code (3 : Nat) (Option.some FieldType.int) ∈ zt := zin_2 (List.mem_of_getElem? (i := 149) (by decide +kernel)) rfl
theorem k294 : Cond.methodLink "TapeRings$Splicer" (56 : Nat) yX7_behindAtomStart ∈ zt := zin_2 (List.mem_of_getElem? (i := 150) (by decide +kernel)) rfl
theorem k295 : Cond.instanceMethod yX7_behindAtomStart ∈ zt := zin_2 (List.mem_of_getElem? (i := 152) (by decide +kernel)) rfl
theorem k296 : Cond.code yX7_behindAtomStart prog_9_method_7_code (2 : Nat) (Option.some FieldType.int) ∈ zt := zin_2 (List.mem_of_getElem? (i := 153) (by decide +kernel)) rfl
theorem k297 : Cond.methodLink "TapeRings$Splicer" (63 : Nat) yX7_isDigit ∈ zt := zin_2 (List.mem_of_getElem? (i := 154) (by decide +kernel)) rfl
theorem k298 : Cond.static yX7_isDigit ∈ zt := zin_2 (List.mem_of_getElem? (i := 155) (by decide +kernel)) rfl
theorem k299 : Cond.code yX7_isDigit prog_9_method_9_code (2 : Nat) (Option.some FieldType.boolean) ∈ zt := zin_2 (List.mem_of_getElem? (i := 156) (by decide +kernel)) rfl
theorem k300 : Cond.methodLink "TapeRings$Splicer" (60 : Nat) yX7_behindTermSign ∈ zt := zin_2 (List.mem_of_getElem? (i := 157) (by decide +kernel)) rfl
theorem k301 : Cond.instanceMethod yX7_behindTermSign ∈ zt := zin_2 (List.mem_of_getElem? (i := 159) (by decide +kernel)) rfl
theorem k302 : Cond.code yX7_behindTermSign prog_9_method_8_code (2 : Nat) (Option.some FieldType.int) ∈ zt := zin_2 (List.mem_of_getElem? (i := 160) (by decide +kernel)) rfl
theorem k303 : Cond.methodLink "TapeRings$Splicer" (42 : Nat) yX7_putTogether ∈ zt := zin_2 (List.mem_of_getElem? (i := 161) (by decide +kernel)) rfl
theorem k304 : Cond.instanceMethod yX7_putTogether ∈ zt := zin_2 (List.mem_of_getElem? (i := 163) (by decide +kernel)) rfl
theorem k305 : Cond.code yX7_putTogether prog_9_method_10_code (3 : Nat) (Option.some FieldType.int) ∈ zt := zin_2 (List.mem_of_getElem? (i := 164) (by decide +kernel)) rfl
theorem k306 : Cond.methodLink "TapeRings$Splicer" (67 : Nat) yX7_openRow ∈ zt := zin_2 (List.mem_of_getElem? (i := 165) (by decide +kernel)) rfl
theorem k307 : Cond.instanceMethod yX7_openRow ∈ zt := zin_2 (List.mem_of_getElem? (i := 167) (by decide +kernel)) rfl
theorem k308 : Cond.code yX7_openRow prog_9_method_16_code (1 : Nat) (Option.none : Option FieldType) ∈ zt := zin_2 (List.mem_of_getElem? (i := 168) (by decide +kernel)) rfl
theorem k309 : Cond.methodLink "TapeRings$Splicer" (70 : Nat) yX7_readDigit ∈ zt := zin_2 (List.mem_of_getElem? (i := 169) (by decide +kernel)) rfl
theorem k310 : Cond.instanceMethod yX7_readDigit ∈ zt := zin_2 (List.mem_of_getElem? (i := 171) (by decide +kernel)) rfl
theorem k311 : Cond.code yX7_readDigit prog_9_method_12_code (2 : Nat) (Option.some FieldType.int) ∈ zt := zin_2 (List.mem_of_getElem? (i := 172) (by decide +kernel)) rfl
theorem k312 : Cond.methodLink "TapeRings$Splicer" (91 : Nat) yX7_repeatTerm ∈ zt := zin_2 (List.mem_of_getElem? (i := 173) (by decide +kernel)) rfl
theorem k313 : Cond.instanceMethod yX7_repeatTerm ∈ zt := zin_2 (List.mem_of_getElem? (i := 175) (by decide +kernel)) rfl
theorem k314 : Cond.code yX7_repeatTerm prog_9_method_14_code (2 : Nat) (Option.some FieldType.int) ∈ zt := zin_2 (List.mem_of_getElem? (i := 176) (by decide +kernel)) rfl
theorem k315 : Cond.methodLink "TapeRings$Splicer" (102 : Nat) yX8_repeat ∈ zt := zin_2 (List.mem_of_getElem? (i := 177) (by decide +kernel)) rfl
theorem k316 : Cond.instanceMethod yX8_repeat ∈ zt := zin_2 (List.mem_of_getElem? (i := 178) (by decide +kernel)) rfl
theorem k317 : Cond.selects "TapeRings$Strip" yX8_repeat yX8_repeat ∈ zt := zin_2 (List.mem_of_getElem? (i := 179) (by decide +kernel)) rfl
theorem k318 : Cond.code yX8_repeat prog_10_method_7_code (4 : Nat) (Option.none : Option FieldType) ∈ zt := zin_2 (List.mem_of_getElem? (i := 180) (by decide +kernel)) rfl
theorem k319 : Cond.methodLink "TapeRings$Strip" (29 : Nat) yJ9_min_7cf53 ∈ zt := zin_2 (List.mem_of_getElem? (i := 181) (by decide +kernel)) rfl
theorem k320 : Cond.static yJ9_min_7cf53 ∈ zt := zin_2 (List.mem_of_getElem? (i := 182) (by decide +kernel)) rfl
theorem k321 : Cond.code yJ9_min_7cf53 prog_18_method_69_code (2 : Nat) (Option.some FieldType.int) ∈ zt := zin_2 (List.mem_of_getElem? (i := 183) (by decide +kernel)) rfl
theorem k322 : Cond.methodLink "TapeRings$Splicer" (94 : Nat) yX8_addTo ∈ zt := zin_2 (List.mem_of_getElem? (i := 184) (by decide +kernel)) rfl
theorem k323 : Cond.instanceMethod yX8_addTo ∈ zt := zin_2 (List.mem_of_getElem? (i := 185) (by decide +kernel)) rfl
theorem k324 : Cond.selects "TapeRings$Strip" yX8_addTo yX8_addTo ∈ zt := zin_2 (List.mem_of_getElem? (i := 186) (by decide +kernel)) rfl
theorem k325 : Cond.code yX8_addTo prog_10_method_6_code (3 : Nat) (Option.none : Option FieldType) ∈ zt := zin_2 (List.mem_of_getElem? (i := 187) (by decide +kernel)) rfl
theorem k326 : Cond.methodLink "TapeRings$Strip" (19 : Nat) yX8_has ∈ zt := zin_2 (List.mem_of_getElem? (i := 188) (by decide +kernel)) rfl
theorem k327 : Cond.instanceMethod yX8_has ∈ zt := zin_2 (List.mem_of_getElem? (i := 189) (by decide +kernel)) rfl
theorem k328 : Cond.selects "TapeRings$Strip" yX8_has yX8_has ∈ zt := zin_2 (List.mem_of_getElem? (i := 190) (by decide +kernel)) rfl
theorem k329 : Cond.code yX8_has prog_10_method_2_code (2 : Nat) (Option.some FieldType.boolean) ∈ zt := zin_2 (List.mem_of_getElem? (i := 191) (by decide +kernel)) rfl
theorem k330 : Cond.methodLink "TapeRings$Splicer" (82 : Nat) yX7_beginTerm ∈ zt := zin_2 (List.mem_of_getElem? (i := 192) (by decide +kernel)) rfl
theorem k331 : Cond.instanceMethod yX7_beginTerm ∈ zt := zin_2 (List.mem_of_getElem? (i := 194) (by decide +kernel)) rfl
theorem k332 : Cond.code yX7_beginTerm prog_9_method_13_code (3 : Nat) (Option.some FieldType.int) ∈ zt := zin_2 (List.mem_of_getElem? (i := 195) (by decide +kernel)) rfl
theorem k333 : Cond.methodLink "TapeRings$Splicer" (76 : Nat) yX7_layTerm ∈ zt := zin_2 (List.mem_of_getElem? (i := 196) (by decide +kernel)) rfl
theorem k334 : Cond.instanceMethod yX7_layTerm ∈ zt := zin_2 (List.mem_of_getElem? (i := 198) (by decide +kernel)) rfl
theorem k335 : Cond.code yX7_layTerm prog_9_method_15_code (4 : Nat) (Option.some FieldType.int) ∈ zt := zin_2 (List.mem_of_getElem? (i := 199) (by decide +kernel)) rfl
theorem k336 : Cond.methodLink "TapeRings$Splicer" (105 : Nat) yX8_putBehind ∈ zt := zin_2 (List.mem_of_getElem? (i := 200) (by decide +kernel)) rfl
theorem k337 : Cond.instanceMethod yX8_putBehind ∈ zt := zin_2 (List.mem_of_getElem? (i := 201) (by decide +kernel)) rfl
theorem k338 : Cond.selects "TapeRings$Strip" yX8_putBehind yX8_putBehind ∈ zt := zin_2 (List.mem_of_getElem? (i := 202) (by decide +kernel)) rfl
theorem k339 : Cond.code yX8_putBehind prog_10_method_9_code (5 : Nat) (Option.none : Option FieldType) ∈ zt := zin_2 (List.mem_of_getElem? (i := 203) (by decide +kernel)) rfl
theorem k340 : Cond.methodLink "TapeRings$Strip" (35 : Nat) yJ9_max_7cf53 ∈ zt := zin_2 (List.mem_of_getElem? (i := 204) (by decide +kernel)) rfl
theorem k341 : Cond.static yJ9_max_7cf53 ∈ zt := zin_2 (List.mem_of_getElem? (i := 205) (by decide +kernel)) rfl
theorem k342 : Cond.code yJ9_max_7cf53 prog_18_method_65_code (2 : Nat) (Option.some FieldType.int) ∈ zt := zin_2 (List.mem_of_getElem? (i := 206) (by decide +kernel)) rfl
theorem k343 : Cond.methodLink "TapeRings$Splicer" (98 : Nat) yX8_becomeInch ∈ zt := zin_2 (List.mem_of_getElem? (i := 207) (by decide +kernel)) rfl
theorem k344 : Cond.instanceMethod yX8_becomeInch ∈ zt := zin_2 (List.mem_of_getElem? (i := 208) (by decide +kernel)) rfl
theorem k345 : Cond.selects "TapeRings$Strip" yX8_becomeInch yX8_becomeInch ∈ zt := zin_2 (List.mem_of_getElem? (i := 209) (by decide +kernel)) rfl
theorem k346 : Cond.code yX8_becomeInch prog_10_method_5_code (2 : Nat) (Option.none : Option FieldType) ∈ zt := zin_2 (List.mem_of_getElem? (i := 210) (by decide +kernel)) rfl
theorem k347 : Cond.methodLink "TapeRings$Splicer" (73 : Nat) yX7_readSign ∈ zt := zin_2 (List.mem_of_getElem? (i := 211) (by decide +kernel)) rfl
theorem k348 : Cond.instanceMethod yX7_readSign ∈ zt := zin_2 (List.mem_of_getElem? (i := 213) (by decide +kernel)) rfl
theorem k349 : Cond.code yX7_readSign prog_9_method_11_code (2 : Nat) (Option.some FieldType.int) ∈ zt := zin_2 (List.mem_of_getElem? (i := 214) (by decide +kernel)) rfl
theorem k350 : Cond.methodLink "TapeRings$Splicer" (79 : Nat) yX8_turn ∈ zt := zin_2 (List.mem_of_getElem? (i := 215) (by decide +kernel)) rfl
theorem k351 : Cond.instanceMethod yX8_turn ∈ zt := zin_2 (List.mem_of_getElem? (i := 216) (by decide +kernel)) rfl
theorem k352 : Cond.selects "TapeRings$Strip" yX8_turn yX8_turn ∈ zt := zin_2 (List.mem_of_getElem? (i := 217) (by decide +kernel)) rfl
theorem k353 : Cond.code yX8_turn prog_10_method_8_code (3 : Nat) (Option.none : Option FieldType) ∈ zt := zin_2 (List.mem_of_getElem? (i := 218) (by decide +kernel)) rfl
theorem k354 : Cond.methodLink "TapeRings$Splicer" (85 : Nat) yX7_open ∈ zt := zin_2 (List.mem_of_getElem? (i := 219) (by decide +kernel)) rfl
theorem k355 : Cond.instanceMethod yX7_open ∈ zt := zin_2 (List.mem_of_getElem? (i := 221) (by decide +kernel)) rfl
theorem k356 : Cond.code yX7_open prog_9_method_17_code (2 : Nat) (Option.some FieldType.int) ∈ zt := zin_2 (List.mem_of_getElem? (i := 222) (by decide +kernel)) rfl
theorem k357 : Cond.methodLink "TapeRings$Splicer" (88 : Nat) yX7_close ∈ zt := zin_2 (List.mem_of_getElem? (i := 223) (by decide +kernel)) rfl
theorem k358 : Cond.instanceMethod yX7_close ∈ zt := zin_2 (List.mem_of_getElem? (i := 225) (by decide +kernel)) rfl
theorem k359 : Cond.code yX7_close prog_9_method_18_code (2 : Nat) (Option.some FieldType.int) ∈ zt := zin_2 (List.mem_of_getElem? (i := 226) (by decide +kernel)) rfl
theorem k360 : Cond.methodLink "TapeRings$Splicer" (45 : Nat) yX8_copy ∈ zt := zin_2 (List.mem_of_getElem? (i := 227) (by decide +kernel)) rfl
theorem k361 : Cond.instanceMethod yX8_copy ∈ zt := zin_2 (List.mem_of_getElem? (i := 228) (by decide +kernel)) rfl
theorem k362 : Cond.selects "TapeRings$Strip" yX8_copy yX8_copy ∈ zt := zin_2 (List.mem_of_getElem? (i := 229) (by decide +kernel)) rfl
theorem k363 : Cond.code yX8_copy prog_10_method_4_code (2 : Nat) (Option.none : Option FieldType) ∈ zt := zin_2 (List.mem_of_getElem? (i := 230) (by decide +kernel)) rfl
theorem k364 : Cond.methodLink "TapeRings$Strip" (23 : Nat) (⟨"java/lang/System", "arraycopy", "(Ljava/lang/Object;ILjava/lang/Object;II)V"⟩ : MethodName) ∈ zt := zin_2 (List.mem_of_getElem? (i := 231) (by decide +kernel)) rfl
theorem k365 : Cond.static (⟨"java/lang/System", "arraycopy", "(Ljava/lang/Object;ILjava/lang/Object;II)V"⟩ : MethodName) ∈ zt := zin_2 (List.mem_of_getElem? (i := 232) (by decide +kernel)) rfl
theorem k366 : Cond.native (⟨"java/lang/System", "arraycopy", "(Ljava/lang/Object;ILjava/lang/Object;II)V"⟩ : MethodName) ∈ zt := zin_2 (List.mem_of_getElem? (i := 233) (by decide +kernel)) rfl
theorem k367 : Cond.methodLink "TapeRingsLaw" (41 : Nat) yX11_hand ∈ zt := zin_2 (List.mem_of_getElem? (i := 234) (by decide +kernel)) rfl
theorem k368 : Cond.instanceMethod yX11_hand ∈ zt := zin_2 (List.mem_of_getElem? (i := 235) (by decide +kernel)) rfl
theorem k369 : Cond.selects "TapeRings" yX11_hand yX11_hand ∈ zt := zin_2 (List.mem_of_getElem? (i := 236) (by decide +kernel)) rfl
theorem k370 : Cond.code yX11_hand prog_1_method_5_code (2 : Nat) (Option.some FieldType.int) ∈ zt := zin_2 (List.mem_of_getElem? (i := 237) (by decide +kernel)) rfl
theorem k371 : Cond.methodLink "TapeRings" (92 : Nat) yX8_at ∈ zt := zin_2 (List.mem_of_getElem? (i := 238) (by decide +kernel)) rfl
theorem k372 : Cond.instanceMethod yX8_at ∈ zt := zin_2 (List.mem_of_getElem? (i := 239) (by decide +kernel)) rfl
theorem k373 : Cond.selects "TapeRings$Strip" yX8_at yX8_at ∈ zt := zin_3 (List.mem_of_getElem? (i := 0) (by decide +kernel)) rfl
theorem k374 : Cond.code yX8_at prog_10_method_3_code (2 : Nat) (Option.some FieldType.int) ∈ zt := zin_3 (List.mem_of_getElem? (i := 1) (by decide +kernel)) rfl
theorem k375 : Cond.methodLink "TapeRingsLaw" (45 : Nat) yX11_ring ∈ zt := zin_3 (List.mem_of_getElem? (i := 2) (by decide +kernel)) rfl
theorem k376 : Cond.instanceMethod yX11_ring ∈ zt := zin_3 (List.mem_of_getElem? (i := 3) (by decide +kernel)) rfl
theorem k377 : Cond.selects "TapeRings" yX11_ring yX11_ring ∈ zt := zin_3 (List.mem_of_getElem? (i := 4) (by decide +kernel)) rfl
theorem k378 : Cond.code yX11_ring prog_1_method_6_code (3 : Nat) (Option.some FieldType.int) ∈ zt := zin_3 (List.mem_of_getElem? (i := 5) (by decide +kernel)) rfl
theorem k379 : Cond.methodLink "TapeRings" (95 : Nat) yX11_isMotor ∈ zt := zin_3 (List.mem_of_getElem? (i := 6) (by decide +kernel)) rfl
theorem k380 : Cond.static yX11_isMotor ∈ zt := zin_3 (List.mem_of_getElem? (i := 7) (by decide +kernel)) rfl
theorem k381 : Cond.code yX11_isMotor prog_1_method_48_code (1 : Nat) (Option.some FieldType.boolean) ∈ zt := zin_3 (List.mem_of_getElem? (i := 8) (by decide +kernel)) rfl
theorem k382 : Cond.methodLink "TapeRings" (113 : Nat) yX11_within ∈ zt := zin_3 (List.mem_of_getElem? (i := 9) (by decide +kernel)) rfl
theorem k383 : Cond.static yX11_within ∈ zt := zin_3 (List.mem_of_getElem? (i := 10) (by decide +kernel)) rfl
theorem k384 : Cond.code yX11_within prog_1_method_47_code (3 : Nat) (Option.some FieldType.boolean) ∈ zt := zin_3 (List.mem_of_getElem? (i := 11) (by decide +kernel)) rfl
theorem k385 : Cond.methodLink "TapeRings" (98 : Nat) yX8_has ∈ zt := zin_3 (List.mem_of_getElem? (i := 12) (by decide +kernel)) rfl
theorem k386 : Cond.methodLink "TapeRings" (101 : Nat) yX9_add ∈ zt := zin_3 (List.mem_of_getElem? (i := 13) (by decide +kernel)) rfl
theorem k387 : Cond.instanceMethod yX9_add ∈ zt := zin_3 (List.mem_of_getElem? (i := 14) (by decide +kernel)) rfl
theorem k388 : Cond.selects "TapeRings$Studio" yX9_add yX9_add ∈ zt := zin_3 (List.mem_of_getElem? (i := 15) (by decide +kernel)) rfl
theorem k389 : Cond.code yX9_add prog_11_method_3_code (4 : Nat) (Option.some FieldType.int) ∈ zt := zin_3 (List.mem_of_getElem? (i := 16) (by decide +kernel)) rfl
theorem k390 : Cond.methodLink "TapeRings$Studio" (29 : Nat) yX6_begin ∈ zt := zin_3 (List.mem_of_getElem? (i := 17) (by decide +kernel)) rfl
theorem k391 : Cond.instanceMethod yX6_begin ∈ zt := zin_3 (List.mem_of_getElem? (i := 18) (by decide +kernel)) rfl
theorem k392 : Cond.selects "TapeRings$Ring" yX6_begin yX6_begin ∈ zt := zin_3 (List.mem_of_getElem? (i := 19) (by decide +kernel)) rfl
theorem k393 : Cond.code yX6_begin prog_8_method_2_code (4 : Nat) (Option.none : Option FieldType) ∈ zt := zin_3 (List.mem_of_getElem? (i := 20) (by decide +kernel)) rfl
theorem k394 : Cond.methodLink "TapeRings$Ring" (35 : Nat) yX8_copy ∈ zt := zin_3 (List.mem_of_getElem? (i := 21) (by decide +kernel)) rfl
theorem k395 : Cond.methodLink "TapeRings$Ring" (39 : Nat) yX6_listen ∈ zt := zin_3 (List.mem_of_getElem? (i := 22) (by decide +kernel)) rfl
theorem k396 : Cond.instanceMethod yX6_listen ∈ zt := zin_3 (List.mem_of_getElem? (i := 24) (by decide +kernel)) rfl
theorem k397 : Cond.code yX6_listen prog_8_method_3_code (1 : Nat) (Option.none : Option FieldType) ∈ zt := zin_3 (List.mem_of_getElem? (i := 25) (by decide +kernel)) rfl
theorem k398 : Cond.methodLink "TapeRings$Ring" (45 : Nat) yX6_fillUnder ∈ zt := zin_3 (List.mem_of_getElem? (i := 26) (by decide +kernel)) rfl
theorem k399 : Cond.instanceMethod yX6_fillUnder ∈ zt := zin_3 (List.mem_of_getElem? (i := 27) (by decide +kernel)) rfl
theorem k400 : Cond.selects "TapeRings$Ring" yX6_fillUnder yX6_fillUnder ∈ zt := zin_3 (List.mem_of_getElem? (i := 28) (by decide +kernel)) rfl
theorem k401 : Cond.code yX6_fillUnder prog_8_method_4_code (4 : Nat) (Option.none : Option FieldType) ∈ zt := zin_3 (List.mem_of_getElem? (i := 29) (by decide +kernel)) rfl
theorem k402 : Cond.methodLink "TapeRings$Ring" (49 : Nat) yX6_soundsUnder ∈ zt := zin_3 (List.mem_of_getElem? (i := 30) (by decide +kernel)) rfl
theorem k403 : Cond.instanceMethod yX6_soundsUnder ∈ zt := zin_3 (List.mem_of_getElem? (i := 32) (by decide +kernel)) rfl
theorem k404 : Cond.code yX6_soundsUnder prog_8_method_5_code (5 : Nat) (Option.some FieldType.int) ∈ zt := zin_3 (List.mem_of_getElem? (i := 33) (by decide +kernel)) rfl
theorem k405 : Cond.static yX11_by ∈ zt := zin_3 (List.mem_of_getElem? (i := 35) (by decide +kernel)) rfl
theorem k406 : Cond.code yX11_by prog_1_method_51_code (4 : Nat) (Option.some FieldType.int) ∈ zt := zin_3 (List.mem_of_getElem? (i := 36) (by decide +kernel)) rfl
theorem k407 : Cond.methodLink "TapeRingsLaw" (49 : Nat) yX11_over ∈ zt := zin_3 (List.mem_of_getElem? (i := 37) (by decide +kernel)) rfl
theorem k408 : Cond.instanceMethod yX11_over ∈ zt := zin_3 (List.mem_of_getElem? (i := 38) (by decide +kernel)) rfl
theorem k409 : Cond.selects "TapeRings" yX11_over yX11_over ∈ zt := zin_3 (List.mem_of_getElem? (i := 39) (by decide +kernel)) rfl
theorem k410 : Cond.code yX11_over prog_1_method_7_code (5 : Nat) (Option.some FieldType.int) ∈ zt := zin_3 (List.mem_of_getElem? (i := 40) (by decide +kernel)) rfl
theorem k411 : Cond.methodLink "TapeRings" (104 : Nat) yX9_find ∈ zt := zin_3 (List.mem_of_getElem? (i := 41) (by decide +kernel)) rfl
theorem k412 : Cond.instanceMethod yX9_find ∈ zt := zin_3 (List.mem_of_getElem? (i := 42) (by decide +kernel)) rfl
theorem k413 : Cond.selects "TapeRings$Studio" yX9_find yX9_find ∈ zt := zin_3 (List.mem_of_getElem? (i := 43) (by decide +kernel)) rfl
theorem k414 : Cond.code yX9_find prog_11_method_2_code (2 : Nat) (Option.some (FieldType.object "TapeRings$Ring")) ∈ zt := zin_3 (List.mem_of_getElem? (i := 44) (by decide +kernel)) rfl
theorem k415 : Cond.methodLink "TapeRings" (120 : Nat) yX6_layOver ∈ zt := zin_3 (List.mem_of_getElem? (i := 45) (by decide +kernel)) rfl
theorem k416 : Cond.instanceMethod yX6_layOver ∈ zt := zin_3 (List.mem_of_getElem? (i := 46) (by decide +kernel)) rfl
theorem k417 : Cond.selects "TapeRings$Ring" yX6_layOver yX6_layOver ∈ zt := zin_3 (List.mem_of_getElem? (i := 47) (by decide +kernel)) rfl
theorem k418 : Cond.code yX6_layOver prog_8_method_7_code (8 : Nat) (Option.some FieldType.int) ∈ zt := zin_3 (List.mem_of_getElem? (i := 48) (by decide +kernel)) rfl
theorem k419 : Cond.methodLink "TapeRings$Ring" (60 : Nat) yX8_has ∈ zt := zin_3 (List.mem_of_getElem? (i := 49) (by decide +kernel)) rfl
theorem k420 : Cond.methodLink "TapeRingsLaw" (54 : Nat) yX11_set ∈ zt := zin_3 (List.mem_of_getElem? (i := 50) (by decide +kernel)) rfl
theorem k421 : Cond.instanceMethod yX11_set ∈ zt := zin_3 (List.mem_of_getElem? (i := 51) (by decide +kernel)) rfl
theorem k422 : Cond.selects "TapeRings" yX11_set yX11_set ∈ zt := zin_3 (List.mem_of_getElem? (i := 52) (by decide +kernel)) rfl
theorem k423 : Cond.code yX11_set prog_1_method_8_code (6 : Nat) (Option.some FieldType.int) ∈ zt := zin_3 (List.mem_of_getElem? (i := 53) (by decide +kernel)) rfl
theorem k424 : Cond.methodLink "TapeRingsLaw" (58 : Nat) yX11_head ∈ zt := zin_3 (List.mem_of_getElem? (i := 54) (by decide +kernel)) rfl
theorem k425 : Cond.instanceMethod yX11_head ∈ zt := zin_3 (List.mem_of_getElem? (i := 55) (by decide +kernel)) rfl
theorem k426 : Cond.selects "TapeRings" yX11_head yX11_head ∈ zt := zin_3 (List.mem_of_getElem? (i := 56) (by decide +kernel)) rfl
theorem k427 : Cond.code yX11_head prog_1_method_9_code (5 : Nat) (Option.some FieldType.int) ∈ zt := zin_3 (List.mem_of_getElem? (i := 57) (by decide +kernel)) rfl
theorem k428 : Cond.methodLink "TapeRings" (130 : Nat) yX6_putHead ∈ zt := zin_3 (List.mem_of_getElem? (i := 58) (by decide +kernel)) rfl
theorem k429 : Cond.instanceMethod yX6_putHead ∈ zt := zin_3 (List.mem_of_getElem? (i := 59) (by decide +kernel)) rfl
theorem k430 : Cond.selects "TapeRings$Ring" yX6_putHead yX6_putHead ∈ zt := zin_3 (List.mem_of_getElem? (i := 60) (by decide +kernel)) rfl
theorem k431 : Cond.code yX6_putHead prog_8_method_8_code (4 : Nat) (Option.some FieldType.int) ∈ zt := zin_3 (List.mem_of_getElem? (i := 61) (by decide +kernel)) rfl
theorem k432 : Cond.methodLink "TapeRings$Ring" (64 : Nat) yJ6_bitCount_0f7a4 ∈ zt := zin_3 (List.mem_of_getElem? (i := 62) (by decide +kernel)) rfl
theorem k433 : Cond.static yJ6_bitCount_0f7a4 ∈ zt := zin_3 (List.mem_of_getElem? (i := 63) (by decide +kernel)) rfl
theorem k434 : Cond.code yJ6_bitCount_0f7a4 prog_17_method_49_code (1 : Nat) (Option.some FieldType.int) ∈ zt := zin_3 (List.mem_of_getElem? (i := 64) (by decide +kernel)) rfl
theorem k435 : Cond.constant "java/lang/Integer" (265 : Nat) (1431655765 : Int32) ∈ zt := zin_3 (List.mem_of_getElem? (i := 65) (by decide +kernel)) rfl
theorem k436 : Cond.constant "java/lang/Integer" (266 : Nat) (858993459 : Int32) ∈ zt := zin_3 (List.mem_of_getElem? (i := 66) (by decide +kernel)) rfl
theorem k437 : Cond.constant "java/lang/Integer" (267 : Nat) (252645135 : Int32) ∈ zt := zin_3 (List.mem_of_getElem? (i := 67) (by decide +kernel)) rfl
theorem k438 : Cond.methodLink "TapeRingsLaw" (63 : Nat) yX11_motor ∈ zt := zin_3 (List.mem_of_getElem? (i := 68) (by decide +kernel)) rfl
theorem k439 : Cond.instanceMethod yX11_motor ∈ zt := zin_3 (List.mem_of_getElem? (i := 69) (by decide +kernel)) rfl
theorem k440 : Cond.selects "TapeRings" yX11_motor yX11_motor ∈ zt := zin_3 (List.mem_of_getElem? (i := 70) (by decide +kernel)) rfl
theorem k441 : Cond.code yX11_motor prog_1_method_10_code (4 : Nat) (Option.some FieldType.boolean) ∈ zt := zin_3 (List.mem_of_getElem? (i := 71) (by decide +kernel)) rfl
theorem k442 : Cond.methodLink "TapeRings" (134 : Nat) yX9_motorOf ∈ zt := zin_3 (List.mem_of_getElem? (i := 72) (by decide +kernel)) rfl
theorem k443 : Cond.instanceMethod yX9_motorOf ∈ zt := zin_3 (List.mem_of_getElem? (i := 73) (by decide +kernel)) rfl
theorem k444 : Cond.selects "TapeRings$Studio" yX9_motorOf yX9_motorOf ∈ zt := zin_3 (List.mem_of_getElem? (i := 74) (by decide +kernel)) rfl
theorem k445 : Cond.code yX9_motorOf prog_11_method_5_code (2 : Nat) (Option.some (FieldType.object "TapeRings$Motor")) ∈ zt := zin_3 (List.mem_of_getElem? (i := 75) (by decide +kernel)) rfl
theorem k446 : Cond.methodLink "TapeRings" (138 : Nat) yX2_tell ∈ zt := zin_3 (List.mem_of_getElem? (i := 76) (by decide +kernel)) rfl
theorem k447 : Cond.instanceMethod yX2_tell ∈ zt := zin_3 (List.mem_of_getElem? (i := 77) (by decide +kernel)) rfl
theorem k448 : Cond.selects "TapeRings$Motor" yX2_tell yX2_tell ∈ zt := zin_3 (List.mem_of_getElem? (i := 78) (by decide +kernel)) rfl
theorem k449 : Cond.code yX2_tell prog_4_method_3_code (5 : Nat) (Option.some FieldType.boolean) ∈ zt := zin_3 (List.mem_of_getElem? (i := 79) (by decide +kernel)) rfl
theorem k450 : Cond.methodLink "TapeRingsLaw" (68 : Nat) yX11_clear ∈ zt := zin_3 (List.mem_of_getElem? (i := 80) (by decide +kernel)) rfl
theorem k451 : Cond.instanceMethod yX11_clear ∈ zt := zin_3 (List.mem_of_getElem? (i := 81) (by decide +kernel)) rfl
theorem k452 : Cond.selects "TapeRings" yX11_clear yX11_clear ∈ zt := zin_3 (List.mem_of_getElem? (i := 82) (by decide +kernel)) rfl
theorem k453 : Cond.code yX11_clear prog_1_method_11_code (1 : Nat) (Option.some FieldType.int) ∈ zt := zin_3 (List.mem_of_getElem? (i := 83) (by decide +kernel)) rfl
theorem k454 : Cond.methodLink "TapeRings" (147 : Nat) yX9_empty ∈ zt := zin_3 (List.mem_of_getElem? (i := 84) (by decide +kernel)) rfl
theorem k455 : Cond.instanceMethod yX9_empty ∈ zt := zin_3 (List.mem_of_getElem? (i := 85) (by decide +kernel)) rfl
theorem k456 : Cond.selects "TapeRings$Studio" yX9_empty yX9_empty ∈ zt := zin_3 (List.mem_of_getElem? (i := 86) (by decide +kernel)) rfl
theorem k457 : Cond.code yX9_empty prog_11_method_4_code (3 : Nat) (Option.some FieldType.int) ∈ zt := zin_3 (List.mem_of_getElem? (i := 87) (by decide +kernel)) rfl
theorem k458 : Cond.methodLink "TapeRings$Studio" (33 : Nat) yX2_forget ∈ zt := zin_3 (List.mem_of_getElem? (i := 88) (by decide +kernel)) rfl
theorem k459 : Cond.instanceMethod yX2_forget ∈ zt := zin_3 (List.mem_of_getElem? (i := 89) (by decide +kernel)) rfl
theorem k460 : Cond.selects "TapeRings$Motor" yX2_forget yX2_forget ∈ zt := zin_3 (List.mem_of_getElem? (i := 90) (by decide +kernel)) rfl
theorem k461 : Cond.code yX2_forget prog_4_method_2_code (1 : Nat) (Option.none : Option FieldType) ∈ zt := zin_3 (List.mem_of_getElem? (i := 91) (by decide +kernel)) rfl
theorem k462 : Cond.methodLink "TapeRingsLaw" (72 : Nat) yX11_count ∈ zt := zin_3 (List.mem_of_getElem? (i := 92) (by decide +kernel)) rfl
theorem k463 : Cond.instanceMethod yX11_count ∈ zt := zin_3 (List.mem_of_getElem? (i := 93) (by decide +kernel)) rfl
theorem k464 : Cond.selects "TapeRings" yX11_count yX11_count ∈ zt := zin_3 (List.mem_of_getElem? (i := 94) (by decide +kernel)) rfl
theorem k465 : Cond.code yX11_count prog_1_method_12_code (2 : Nat) (Option.some FieldType.int) ∈ zt := zin_3 (List.mem_of_getElem? (i := 95) (by decide +kernel)) rfl
theorem k466 : Cond.methodLink "TapeRingsLaw" (85 : Nat) yX11_inch ∈ zt := zin_3 (List.mem_of_getElem? (i := 96) (by decide +kernel)) rfl
theorem k467 : Cond.instanceMethod yX11_inch ∈ zt := zin_3 (List.mem_of_getElem? (i := 97) (by decide +kernel)) rfl
theorem k468 : Cond.selects "TapeRings" yX11_inch yX11_inch ∈ zt := zin_3 (List.mem_of_getElem? (i := 98) (by decide +kernel)) rfl
theorem k469 : Cond.code yX11_inch prog_1_method_14_code (4 : Nat) (Option.some FieldType.int) ∈ zt := zin_3 (List.mem_of_getElem? (i := 99) (by decide +kernel)) rfl
theorem k470 : Cond.methodLink "TapeRingsLaw" (94 : Nat) yX11_heard ∈ zt := zin_3 (List.mem_of_getElem? (i := 100) (by decide +kernel)) rfl
theorem k471 : Cond.instanceMethod yX11_heard ∈ zt := zin_3 (List.mem_of_getElem? (i := 101) (by decide +kernel)) rfl
theorem k472 : Cond.selects "TapeRings" yX11_heard yX11_heard ∈ zt := zin_3 (List.mem_of_getElem? (i := 102) (by decide +kernel)) rfl
theorem k473 : Cond.code yX11_heard prog_1_method_16_code (5 : Nat) (Option.some FieldType.int) ∈ zt := zin_3 (List.mem_of_getElem? (i := 103) (by decide +kernel)) rfl
theorem k474 : Cond.methodLink "TapeRings" (174 : Nat) yX9_heardInAll ∈ zt := zin_3 (List.mem_of_getElem? (i := 104) (by decide +kernel)) rfl
theorem k475 : Cond.instanceMethod yX9_heardInAll ∈ zt := zin_3 (List.mem_of_getElem? (i := 105) (by decide +kernel)) rfl
theorem k476 : Cond.selects "TapeRings$Studio" yX9_heardInAll yX9_heardInAll ∈ zt := zin_3 (List.mem_of_getElem? (i := 106) (by decide +kernel)) rfl
theorem k477 : Cond.code yX9_heardInAll prog_11_method_9_code (5 : Nat) (Option.some FieldType.int) ∈ zt := zin_3 (List.mem_of_getElem? (i := 107) (by decide +kernel)) rfl
theorem k478 : Cond.methodLink "TapeRings$Studio" (73 : Nat) yX9_heardOf ∈ zt := zin_3 (List.mem_of_getElem? (i := 108) (by decide +kernel)) rfl
theorem k479 : Cond.instanceMethod yX9_heardOf ∈ zt := zin_3 (List.mem_of_getElem? (i := 109) (by decide +kernel)) rfl
theorem k480 : Cond.selects "TapeRings$Studio" yX9_heardOf yX9_heardOf ∈ zt := zin_3 (List.mem_of_getElem? (i := 110) (by decide +kernel)) rfl
theorem k481 : Cond.code yX9_heardOf prog_11_method_8_code (4 : Nat) (Option.some FieldType.int) ∈ zt := zin_3 (List.mem_of_getElem? (i := 111) (by decide +kernel)) rfl
theorem k482 : Cond.methodLink "TapeRings$Studio" (49 : Nat) yX9_motorOf ∈ zt := zin_3 (List.mem_of_getElem? (i := 112) (by decide +kernel)) rfl
theorem k483 : Cond.methodLink "TapeRings$Studio" (66 : Nat) yX2_wayBy ∈ zt := zin_3 (List.mem_of_getElem? (i := 113) (by decide +kernel)) rfl
theorem k484 : Cond.instanceMethod yX2_wayBy ∈ zt := zin_3 (List.mem_of_getElem? (i := 114) (by decide +kernel)) rfl
theorem k485 : Cond.selects "TapeRings$Motor" yX2_wayBy yX2_wayBy ∈ zt := zin_3 (List.mem_of_getElem? (i := 115) (by decide +kernel)) rfl
theorem k486 : Cond.code yX2_wayBy prog_4_method_7_code (6 : Nat) (Option.some FieldType.int) ∈ zt := zin_3 (List.mem_of_getElem? (i := 116) (by decide +kernel)) rfl
theorem k487 : Cond.methodLink "TapeRings$Motor" (22 : Nat) yX2_steady ∈ zt := zin_3 (List.mem_of_getElem? (i := 117) (by decide +kernel)) rfl
theorem k488 : Cond.instanceMethod yX2_steady ∈ zt := zin_3 (List.mem_of_getElem? (i := 118) (by decide +kernel)) rfl
theorem k489 : Cond.selects "TapeRings$Motor" yX2_steady yX2_steady ∈ zt := zin_3 (List.mem_of_getElem? (i := 119) (by decide +kernel)) rfl
theorem k490 : Cond.code yX2_steady prog_4_method_4_code (1 : Nat) (Option.some FieldType.int) ∈ zt := zin_3 (List.mem_of_getElem? (i := 120) (by decide +kernel)) rfl
theorem k491 : Cond.methodLink "TapeRings$Motor" (26 : Nat) yJ9_max_f86c9 ∈ zt := zin_3 (List.mem_of_getElem? (i := 121) (by decide +kernel)) rfl
theorem k492 : Cond.static yJ9_max_f86c9 ∈ zt := zin_3 (List.mem_of_getElem? (i := 122) (by decide +kernel)) rfl
theorem k493 : Cond.code yJ9_max_f86c9 prog_18_method_66_code (4 : Nat) (Option.some FieldType.long) ∈ zt := zin_3 (List.mem_of_getElem? (i := 123) (by decide +kernel)) rfl
theorem k494 : Cond.methodLink "TapeRings$Motor" (32 : Nat) yX2_wayTo ∈ zt := zin_3 (List.mem_of_getElem? (i := 124) (by decide +kernel)) rfl
theorem k495 : Cond.instanceMethod yX2_wayTo ∈ zt := zin_3 (List.mem_of_getElem? (i := 125) (by decide +kernel)) rfl
theorem k496 : Cond.selects "TapeRings$Motor" yX2_wayTo yX2_wayTo ∈ zt := zin_3 (List.mem_of_getElem? (i := 126) (by decide +kernel)) rfl
theorem k497 : Cond.code yX2_wayTo prog_4_method_6_code (9 : Nat) (Option.some FieldType.long) ∈ zt := zin_3 (List.mem_of_getElem? (i := 127) (by decide +kernel)) rfl
theorem k498 : Cond.methodLink "TapeRings$Motor" (40 : Nat) yX2_lastSpeed ∈ zt := zin_3 (List.mem_of_getElem? (i := 129) (by decide +kernel)) rfl
theorem k499 : Cond.instanceMethod yX2_lastSpeed ∈ zt := zin_3 (List.mem_of_getElem? (i := 130) (by decide +kernel)) rfl
theorem k500 : Cond.selects "TapeRings$Motor" yX2_lastSpeed yX2_lastSpeed ∈ zt := zin_3 (List.mem_of_getElem? (i := 131) (by decide +kernel)) rfl
theorem k501 : Cond.code yX2_lastSpeed prog_4_method_5_code (1 : Nat) (Option.some FieldType.int) ∈ zt := zin_3 (List.mem_of_getElem? (i := 132) (by decide +kernel)) rfl
theorem k502 : Cond.methodLink "TapeRings$Studio" (70 : Nat) yX6_heardBehind ∈ zt := zin_3 (List.mem_of_getElem? (i := 133) (by decide +kernel)) rfl
theorem k503 : Cond.instanceMethod yX6_heardBehind ∈ zt := zin_3 (List.mem_of_getElem? (i := 134) (by decide +kernel)) rfl
theorem k504 : Cond.selects "TapeRings$Ring" yX6_heardBehind yX6_heardBehind ∈ zt := zin_3 (List.mem_of_getElem? (i := 135) (by decide +kernel)) rfl
theorem k505 : Cond.code yX6_heardBehind prog_8_method_6_code (2 : Nat) (Option.some FieldType.int) ∈ zt := zin_3 (List.mem_of_getElem? (i := 136) (by decide +kernel)) rfl
theorem k506 : Cond.methodLink "TapeRings" (178 : Nat) yX9_heardOf ∈ zt := zin_3 (List.mem_of_getElem? (i := 137) (by decide +kernel)) rfl
theorem k507 : Cond.methodLink "TapeRingsLaw" (99 : Nat) yX11_all ∈ zt := zin_3 (List.mem_of_getElem? (i := 138) (by decide +kernel)) rfl
theorem k508 : Cond.instanceMethod yX11_all ∈ zt := zin_3 (List.mem_of_getElem? (i := 139) (by decide +kernel)) rfl
theorem k509 : Cond.selects "TapeRings" yX11_all yX11_all ∈ zt := zin_3 (List.mem_of_getElem? (i := 140) (by decide +kernel)) rfl
theorem k510 : Cond.code yX11_all prog_1_method_17_code (1 : Nat) (Option.some FieldType.long) ∈ zt := zin_3 (List.mem_of_getElem? (i := 141) (by decide +kernel)) rfl
theorem k511 : Cond.methodLink "TapeRings" (182 : Nat) yX1_look ∈ zt := zin_3 (List.mem_of_getElem? (i := 142) (by decide +kernel)) rfl
theorem k512 : Cond.instanceMethod yX1_look ∈ zt := zin_3 (List.mem_of_getElem? (i := 143) (by decide +kernel)) rfl
theorem k513 : Cond.selects "TapeRings$Meeting" yX1_look yX1_look ∈ zt := zin_3 (List.mem_of_getElem? (i := 144) (by decide +kernel)) rfl
theorem k514 : Cond.code yX1_look prog_3_method_2_code (4 : Nat) (Option.none : Option FieldType) ∈ zt := zin_3 (List.mem_of_getElem? (i := 145) (by decide +kernel)) rfl
theorem k515 : Cond.methodLink "TapeRings$Meeting" (26 : Nat) yX9_steady ∈ zt := zin_3 (List.mem_of_getElem? (i := 146) (by decide +kernel)) rfl
theorem k516 : Cond.instanceMethod yX9_steady ∈ zt := zin_3 (List.mem_of_getElem? (i := 147) (by decide +kernel)) rfl
theorem k517 : Cond.selects "TapeRings$Studio" yX9_steady yX9_steady ∈ zt := zin_3 (List.mem_of_getElem? (i := 148) (by decide +kernel)) rfl
theorem k518 : Cond.code yX9_steady prog_11_method_6_code (1 : Nat) (Option.some FieldType.int) ∈ zt := zin_3 (List.mem_of_getElem? (i := 149) (by decide +kernel)) rfl
theorem k519 : Cond.methodLink "TapeRings$Studio" (36 : Nat) yX2_steady ∈ zt := zin_3 (List.mem_of_getElem? (i := 150) (by decide +kernel)) rfl
theorem k520 : Cond.methodLink "TapeRings$Studio" (40 : Nat) yJ9_max_7cf53 ∈ zt := zin_3 (List.mem_of_getElem? (i := 151) (by decide +kernel)) rfl
theorem k521 : Cond.methodLink "TapeRings$Meeting" (31 : Nat) yX9_find ∈ zt := zin_3 (List.mem_of_getElem? (i := 152) (by decide +kernel)) rfl
theorem k522 : Cond.methodLink "TapeRings$Meeting" (35 : Nat) yX9_roundOf ∈ zt := zin_3 (List.mem_of_getElem? (i := 153) (by decide +kernel)) rfl
theorem k523 : Cond.instanceMethod yX9_roundOf ∈ zt := zin_3 (List.mem_of_getElem? (i := 154) (by decide +kernel)) rfl
theorem k524 : Cond.selects "TapeRings$Studio" yX9_roundOf yX9_roundOf ∈ zt := zin_3 (List.mem_of_getElem? (i := 155) (by decide +kernel)) rfl
theorem k525 : Cond.code yX9_roundOf prog_11_method_7_code (2 : Nat) (Option.some FieldType.int) ∈ zt := zin_3 (List.mem_of_getElem? (i := 156) (by decide +kernel)) rfl
theorem k526 : Cond.methodLink "TapeRings$Studio" (62 : Nat) yX2_round ∈ zt := zin_3 (List.mem_of_getElem? (i := 157) (by decide +kernel)) rfl
theorem k527 : Cond.instanceMethod yX2_round ∈ zt := zin_3 (List.mem_of_getElem? (i := 158) (by decide +kernel)) rfl
theorem k528 : Cond.selects "TapeRings$Motor" yX2_round yX2_round ∈ zt := zin_3 (List.mem_of_getElem? (i := 159) (by decide +kernel)) rfl
theorem k529 : Cond.code yX2_round prog_4_method_8_code (2 : Nat) (Option.some FieldType.int) ∈ zt := zin_3 (List.mem_of_getElem? (i := 160) (by decide +kernel)) rfl
theorem k530 : Cond.static yX11_withoutShared ∈ zt := zin_3 (List.mem_of_getElem? (i := 162) (by decide +kernel)) rfl
theorem k531 : Cond.code yX11_withoutShared prog_1_method_53_code (4 : Nat) (Option.some FieldType.int) ∈ zt := zin_3 (List.mem_of_getElem? (i := 163) (by decide +kernel)) rfl
theorem k532 : Cond.methodLink "TapeRings" (299 : Nat) yX11_greatestDivisor ∈ zt := zin_3 (List.mem_of_getElem? (i := 164) (by decide +kernel)) rfl
theorem k533 : Cond.static yX11_greatestDivisor ∈ zt := zin_3 (List.mem_of_getElem? (i := 165) (by decide +kernel)) rfl
theorem k534 : Cond.code yX11_greatestDivisor prog_1_method_52_code (4 : Nat) (Option.some FieldType.int) ∈ zt := zin_3 (List.mem_of_getElem? (i := 166) (by decide +kernel)) rfl
theorem k535 : Cond.methodLink "TapeRings$Meeting" (39 : Nat) yX1_turnsOf ∈ zt := zin_3 (List.mem_of_getElem? (i := 167) (by decide +kernel)) rfl
theorem k536 : Cond.instanceMethod yX1_turnsOf ∈ zt := zin_3 (List.mem_of_getElem? (i := 169) (by decide +kernel)) rfl
theorem k537 : Cond.code yX1_turnsOf prog_3_method_3_code (6 : Nat) (Option.some FieldType.int) ∈ zt := zin_3 (List.mem_of_getElem? (i := 170) (by decide +kernel)) rfl
theorem k538 : Cond.methodLink "TapeRings$Meeting" (43 : Nat) yX9_grants ∈ zt := zin_3 (List.mem_of_getElem? (i := 171) (by decide +kernel)) rfl
theorem k539 : Cond.instanceMethod yX9_grants ∈ zt := zin_3 (List.mem_of_getElem? (i := 172) (by decide +kernel)) rfl
theorem k540 : Cond.selects "TapeRings$Studio" yX9_grants yX9_grants ∈ zt := zin_3 (List.mem_of_getElem? (i := 173) (by decide +kernel)) rfl
theorem k541 : Cond.code yX9_grants prog_11_method_10_code (4 : Nat) (Option.some FieldType.boolean) ∈ zt := zin_3 (List.mem_of_getElem? (i := 174) (by decide +kernel)) rfl
theorem k542 : Cond.methodLink "TapeRings" (186 : Nat) yX1_allTicks ∈ zt := zin_3 (List.mem_of_getElem? (i := 175) (by decide +kernel)) rfl
theorem k543 : Cond.instanceMethod yX1_allTicks ∈ zt := zin_3 (List.mem_of_getElem? (i := 176) (by decide +kernel)) rfl
theorem k544 : Cond.selects "TapeRings$Meeting" yX1_allTicks yX1_allTicks ∈ zt := zin_3 (List.mem_of_getElem? (i := 177) (by decide +kernel)) rfl
theorem k545 : Cond.code yX1_allTicks prog_3_method_4_code (4 : Nat) (Option.some FieldType.long) ∈ zt := zin_3 (List.mem_of_getElem? (i := 178) (by decide +kernel)) rfl
theorem k546 : Cond.static yX11_leastMultiple ∈ zt := zin_3 (List.mem_of_getElem? (i := 180) (by decide +kernel)) rfl
theorem k547 : Cond.code yX11_leastMultiple prog_1_method_54_code (3 : Nat) (Option.some FieldType.long) ∈ zt := zin_3 (List.mem_of_getElem? (i := 181) (by decide +kernel)) rfl
theorem k548 : Cond.methodLink "TapeRings" (303 : Nat) yX11_withoutShared ∈ zt := zin_3 (List.mem_of_getElem? (i := 182) (by decide +kernel)) rfl
theorem k549 : Cond.methodLink "TapeRingsLaw" (104 : Nat) yX11_wish ∈ zt := zin_3 (List.mem_of_getElem? (i := 183) (by decide +kernel)) rfl
theorem k550 : Cond.instanceMethod yX11_wish ∈ zt := zin_3 (List.mem_of_getElem? (i := 184) (by decide +kernel)) rfl
theorem k551 : Cond.selects "TapeRings" yX11_wish yX11_wish ∈ zt := zin_3 (List.mem_of_getElem? (i := 185) (by decide +kernel)) rfl
theorem k552 : Cond.code yX11_wish prog_1_method_18_code (4 : Nat) (Option.some FieldType.boolean) ∈ zt := zin_3 (List.mem_of_getElem? (i := 186) (by decide +kernel)) rfl
theorem k553 : Cond.methodLink "TapeRings" (190 : Nat) yX11_isSounds ∈ zt := zin_3 (List.mem_of_getElem? (i := 187) (by decide +kernel)) rfl
theorem k554 : Cond.static yX11_isSounds ∈ zt := zin_3 (List.mem_of_getElem? (i := 188) (by decide +kernel)) rfl
theorem k555 : Cond.code yX11_isSounds prog_1_method_50_code (1 : Nat) (Option.some FieldType.boolean) ∈ zt := zin_3 (List.mem_of_getElem? (i := 189) (by decide +kernel)) rfl
theorem k556 : Cond.methodLink "TapeRingsLaw" (109 : Nat) yX11_meets ∈ zt := zin_3 (List.mem_of_getElem? (i := 190) (by decide +kernel)) rfl
theorem k557 : Cond.instanceMethod yX11_meets ∈ zt := zin_3 (List.mem_of_getElem? (i := 191) (by decide +kernel)) rfl
theorem k558 : Cond.selects "TapeRings" yX11_meets yX11_meets ∈ zt := zin_3 (List.mem_of_getElem? (i := 192) (by decide +kernel)) rfl
theorem k559 : Cond.code yX11_meets prog_1_method_19_code (3 : Nat) (Option.some FieldType.long) ∈ zt := zin_3 (List.mem_of_getElem? (i := 193) (by decide +kernel)) rfl
theorem k560 : Cond.constantLong "TapeRings" (193 : Nat) (1152921504606846976 : Int64) ∈ zt := zin_3 (List.mem_of_getElem? (i := 194) (by decide +kernel)) rfl
theorem k561 : Cond.constantLong "TapeRings" (195 : Nat) (-1 : Int64) ∈ zt := zin_3 (List.mem_of_getElem? (i := 195) (by decide +kernel)) rfl
theorem k562 : Cond.methodLink "TapeRings" (197 : Nat) yX1_first ∈ zt := zin_3 (List.mem_of_getElem? (i := 196) (by decide +kernel)) rfl
theorem k563 : Cond.instanceMethod yX1_first ∈ zt := zin_3 (List.mem_of_getElem? (i := 197) (by decide +kernel)) rfl
theorem k564 : Cond.selects "TapeRings$Meeting" yX1_first yX1_first ∈ zt := zin_3 (List.mem_of_getElem? (i := 198) (by decide +kernel)) rfl
theorem k565 : Cond.code yX1_first prog_3_method_8_code (6 : Nat) (Option.some FieldType.long) ∈ zt := zin_3 (List.mem_of_getElem? (i := 199) (by decide +kernel)) rfl
theorem k566 : Cond.methodLink "TapeRings$Meeting" (72 : Nat) yX9_meetsAt ∈ zt := zin_3 (List.mem_of_getElem? (i := 200) (by decide +kernel)) rfl
theorem k567 : Cond.instanceMethod yX9_meetsAt ∈ zt := zin_3 (List.mem_of_getElem? (i := 201) (by decide +kernel)) rfl
theorem k568 : Cond.selects "TapeRings$Studio" yX9_meetsAt yX9_meetsAt ∈ zt := zin_3 (List.mem_of_getElem? (i := 202) (by decide +kernel)) rfl
theorem k569 : Cond.code yX9_meetsAt prog_11_method_11_code (4 : Nat) (Option.some FieldType.boolean) ∈ zt := zin_3 (List.mem_of_getElem? (i := 203) (by decide +kernel)) rfl
theorem k570 : Cond.methodLink "TapeRings$Studio" (80 : Nat) yX9_grants ∈ zt := zin_3 (List.mem_of_getElem? (i := 204) (by decide +kernel)) rfl
theorem k571 : Cond.methodLink "TapeRings$Meeting" (76 : Nat) yX1_howOften ∈ zt := zin_3 (List.mem_of_getElem? (i := 205) (by decide +kernel)) rfl
theorem k572 : Cond.instanceMethod yX1_howOften ∈ zt := zin_3 (List.mem_of_getElem? (i := 206) (by decide +kernel)) rfl
theorem k573 : Cond.selects "TapeRings$Meeting" yX1_howOften yX1_howOften ∈ zt := zin_3 (List.mem_of_getElem? (i := 207) (by decide +kernel)) rfl
theorem k574 : Cond.code yX1_howOften prog_3_method_5_code (8 : Nat) (Option.some FieldType.long) ∈ zt := zin_3 (List.mem_of_getElem? (i := 208) (by decide +kernel)) rfl
theorem k575 : Cond.methodLink "TapeRings$Meeting" (51 : Nat) yX1_sharedTicks ∈ zt := zin_3 (List.mem_of_getElem? (i := 209) (by decide +kernel)) rfl
theorem k576 : Cond.instanceMethod yX1_sharedTicks ∈ zt := zin_3 (List.mem_of_getElem? (i := 211) (by decide +kernel)) rfl
theorem k577 : Cond.code yX1_sharedTicks prog_3_method_6_code (5 : Nat) (Option.some FieldType.int) ∈ zt := zin_3 (List.mem_of_getElem? (i := 212) (by decide +kernel)) rfl
theorem k578 : Cond.methodLink "TapeRings$Meeting" (58 : Nat) yX1_turnsAlike ∈ zt := zin_3 (List.mem_of_getElem? (i := 214) (by decide +kernel)) rfl
theorem k579 : Cond.instanceMethod yX1_turnsAlike ∈ zt := zin_3 (List.mem_of_getElem? (i := 216) (by decide +kernel)) rfl
theorem k580 : Cond.code yX1_turnsAlike prog_3_method_7_code (6 : Nat) (Option.some FieldType.int) ∈ zt := zin_3 (List.mem_of_getElem? (i := 217) (by decide +kernel)) rfl
theorem k581 : Cond.methodLink "TapeRings$Meeting" (66 : Nat) yJ9_max_7cf53 ∈ zt := zin_3 (List.mem_of_getElem? (i := 219) (by decide +kernel)) rfl
theorem k582 : Cond.constantLong "TapeRings$Meeting" (80 : Nat) (-1 : Int64) ∈ zt := zin_3 (List.mem_of_getElem? (i := 220) (by decide +kernel)) rfl
theorem k583 : Cond.methodLink "TapeRings$Meeting" (82 : Nat) yJ9_max_f86c9 ∈ zt := zin_3 (List.mem_of_getElem? (i := 221) (by decide +kernel)) rfl
theorem k584 : Cond.methodLink "TapeRings$Meeting" (85 : Nat) yX1_firstSteady ∈ zt := zin_3 (List.mem_of_getElem? (i := 222) (by decide +kernel)) rfl
theorem k585 : Cond.instanceMethod yX1_firstSteady ∈ zt := zin_3 (List.mem_of_getElem? (i := 224) (by decide +kernel)) rfl
theorem k586 : Cond.code yX1_firstSteady prog_3_method_9_code (12 : Nat) (Option.some FieldType.long) ∈ zt := zin_3 (List.mem_of_getElem? (i := 225) (by decide +kernel)) rfl
theorem k587 : Cond.methodLink "TapeRings$Meeting" (89 : Nat) yX1_allTicks ∈ zt := zin_3 (List.mem_of_getElem? (i := 226) (by decide +kernel)) rfl
theorem k588 : Cond.methodLink "TapeRings$Meeting" (92 : Nat) yX1_ticksToTurn ∈ zt := zin_3 (List.mem_of_getElem? (i := 227) (by decide +kernel)) rfl
theorem k589 : Cond.instanceMethod yX1_ticksToTurn ∈ zt := zin_3 (List.mem_of_getElem? (i := 229) (by decide +kernel)) rfl
theorem k590 : Cond.code yX1_ticksToTurn prog_3_method_10_code (5 : Nat) (Option.some FieldType.int) ∈ zt := zin_3 (List.mem_of_getElem? (i := 230) (by decide +kernel)) rfl
theorem k591 : Cond.methodLink "TapeRingsLaw" (114 : Nat) yX11_often ∈ zt := zin_3 (List.mem_of_getElem? (i := 231) (by decide +kernel)) rfl
theorem k592 : Cond.instanceMethod yX11_often ∈ zt := zin_3 (List.mem_of_getElem? (i := 232) (by decide +kernel)) rfl
theorem k593 : Cond.selects "TapeRings" yX11_often yX11_often ∈ zt := zin_3 (List.mem_of_getElem? (i := 233) (by decide +kernel)) rfl
theorem k594 : Cond.code yX11_often prog_1_method_20_code (1 : Nat) (Option.some FieldType.long) ∈ zt := zin_3 (List.mem_of_getElem? (i := 234) (by decide +kernel)) rfl
theorem k595 : Cond.methodLink "TapeRings" (201 : Nat) yX1_howOften ∈ zt := zin_3 (List.mem_of_getElem? (i := 235) (by decide +kernel)) rfl
theorem k596 : Cond.methodLink "TapeRingsLaw" (118 : Nat) yX11_mark ∈ zt := zin_3 (List.mem_of_getElem? (i := 236) (by decide +kernel)) rfl
theorem k597 : Cond.instanceMethod yX11_mark ∈ zt := zin_3 (List.mem_of_getElem? (i := 237) (by decide +kernel)) rfl
theorem k598 : Cond.selects "TapeRings" yX11_mark yX11_mark ∈ zt := zin_3 (List.mem_of_getElem? (i := 238) (by decide +kernel)) rfl
theorem k599 : Cond.code yX11_mark prog_1_method_21_code (3 : Nat) (Option.some FieldType.int) ∈ zt := zin_3 (List.mem_of_getElem? (i := 239) (by decide +kernel)) rfl
theorem k600 : Cond.constant "TapeRings" (204 : Nat) (100000 : Int32) ∈ zt := zin_4 (List.mem_of_getElem? (i := 0) (by decide +kernel)) rfl
theorem k601 : Cond.methodLink "TapeRings" (205 : Nat) yX11_isSound ∈ zt := zin_4 (List.mem_of_getElem? (i := 1) (by decide +kernel)) rfl
theorem k602 : Cond.static yX11_isSound ∈ zt := zin_4 (List.mem_of_getElem? (i := 2) (by decide +kernel)) rfl
theorem k603 : Cond.code yX11_isSound prog_1_method_49_code (1 : Nat) (Option.some FieldType.boolean) ∈ zt := zin_4 (List.mem_of_getElem? (i := 3) (by decide +kernel)) rfl
theorem k604 : Cond.methodLink "TapeRings" (208 : Nat) yX5_add ∈ zt := zin_4 (List.mem_of_getElem? (i := 4) (by decide +kernel)) rfl
theorem k605 : Cond.instanceMethod yX5_add ∈ zt := zin_4 (List.mem_of_getElem? (i := 5) (by decide +kernel)) rfl
theorem k606 : Cond.selects "TapeRings$Planner" yX5_add yX5_add ∈ zt := zin_4 (List.mem_of_getElem? (i := 6) (by decide +kernel)) rfl
theorem k607 : Cond.code yX5_add prog_7_method_2_code (3 : Nat) (Option.some FieldType.int) ∈ zt := zin_4 (List.mem_of_getElem? (i := 7) (by decide +kernel)) rfl
theorem k608 : Cond.methodLink "TapeRingsLaw" (122 : Nat) yX11_kept ∈ zt := zin_4 (List.mem_of_getElem? (i := 8) (by decide +kernel)) rfl
theorem k609 : Cond.instanceMethod yX11_kept ∈ zt := zin_4 (List.mem_of_getElem? (i := 9) (by decide +kernel)) rfl
theorem k610 : Cond.selects "TapeRings" yX11_kept yX11_kept ∈ zt := zin_4 (List.mem_of_getElem? (i := 10) (by decide +kernel)) rfl
theorem k611 : Cond.code yX11_kept prog_1_method_22_code (1 : Nat) (Option.some FieldType.int) ∈ zt := zin_4 (List.mem_of_getElem? (i := 11) (by decide +kernel)) rfl
theorem k612 : Cond.methodLink "TapeRings" (211 : Nat) yX5_marksTrue ∈ zt := zin_4 (List.mem_of_getElem? (i := 12) (by decide +kernel)) rfl
theorem k613 : Cond.instanceMethod yX5_marksTrue ∈ zt := zin_4 (List.mem_of_getElem? (i := 13) (by decide +kernel)) rfl
theorem k614 : Cond.selects "TapeRings$Planner" yX5_marksTrue yX5_marksTrue ∈ zt := zin_4 (List.mem_of_getElem? (i := 14) (by decide +kernel)) rfl
theorem k615 : Cond.code yX5_marksTrue prog_7_method_3_code (4 : Nat) (Option.some FieldType.int) ∈ zt := zin_4 (List.mem_of_getElem? (i := 15) (by decide +kernel)) rfl
theorem k616 : Cond.methodLink "TapeRings$Planner" (42 : Nat) yX9_heardInAll ∈ zt := zin_4 (List.mem_of_getElem? (i := 16) (by decide +kernel)) rfl
theorem k617 : Cond.methodLink "TapeRingsLaw" (126 : Nat) yX11_plan ∈ zt := zin_4 (List.mem_of_getElem? (i := 17) (by decide +kernel)) rfl
theorem k618 : Cond.instanceMethod yX11_plan ∈ zt := zin_4 (List.mem_of_getElem? (i := 18) (by decide +kernel)) rfl
theorem k619 : Cond.selects "TapeRings" yX11_plan yX11_plan ∈ zt := zin_4 (List.mem_of_getElem? (i := 19) (by decide +kernel)) rfl
theorem k620 : Cond.code yX11_plan prog_1_method_23_code (2 : Nat) (Option.some FieldType.int) ∈ zt := zin_4 (List.mem_of_getElem? (i := 20) (by decide +kernel)) rfl
theorem k621 : Cond.methodLink "TapeRings" (215 : Nat) yX5_find ∈ zt := zin_4 (List.mem_of_getElem? (i := 21) (by decide +kernel)) rfl
theorem k622 : Cond.instanceMethod yX5_find ∈ zt := zin_4 (List.mem_of_getElem? (i := 22) (by decide +kernel)) rfl
theorem k623 : Cond.selects "TapeRings$Planner" yX5_find yX5_find ∈ zt := zin_4 (List.mem_of_getElem? (i := 23) (by decide +kernel)) rfl
theorem k624 : Cond.code yX5_find prog_7_method_4_code (6 : Nat) (Option.some FieldType.int) ∈ zt := zin_4 (List.mem_of_getElem? (i := 24) (by decide +kernel)) rfl
theorem k625 : Cond.constant "TapeRings$Planner" (49 : Nat) (1000000 : Int32) ∈ zt := zin_4 (List.mem_of_getElem? (i := 25) (by decide +kernel)) rfl
theorem k626 : Cond.methodLink "TapeRings$Planner" (50 : Nat) yJ7_fill_53178 ∈ zt := zin_4 (List.mem_of_getElem? (i := 26) (by decide +kernel)) rfl
theorem k627 : Cond.methodLink "TapeRings$Planner" (56 : Nat) yX9_find ∈ zt := zin_4 (List.mem_of_getElem? (i := 27) (by decide +kernel)) rfl
theorem k628 : Cond.methodLink "TapeRings$Planner" (65 : Nat) yX9_motorOf ∈ zt := zin_4 (List.mem_of_getElem? (i := 28) (by decide +kernel)) rfl
theorem k629 : Cond.methodLink "TapeRings$Planner" (69 : Nat) yX5_listTrue ∈ zt := zin_4 (List.mem_of_getElem? (i := 29) (by decide +kernel)) rfl
theorem k630 : Cond.instanceMethod yX5_listTrue ∈ zt := zin_4 (List.mem_of_getElem? (i := 31) (by decide +kernel)) rfl
theorem k631 : Cond.code yX5_listTrue prog_7_method_5_code (7 : Nat) (Option.none : Option FieldType) ∈ zt := zin_4 (List.mem_of_getElem? (i := 32) (by decide +kernel)) rfl
theorem k632 : Cond.methodLink "TapeRings$Planner" (94 : Nat) yX6_fillUnder ∈ zt := zin_4 (List.mem_of_getElem? (i := 33) (by decide +kernel)) rfl
theorem k633 : Cond.methodLink "TapeRings$Planner" (97 : Nat) yX2_wayBy ∈ zt := zin_4 (List.mem_of_getElem? (i := 34) (by decide +kernel)) rfl
theorem k634 : Cond.methodLink "TapeRings$Planner" (103 : Nat) yX5_trueFrom ∈ zt := zin_4 (List.mem_of_getElem? (i := 35) (by decide +kernel)) rfl
theorem k635 : Cond.instanceMethod yX5_trueFrom ∈ zt := zin_4 (List.mem_of_getElem? (i := 37) (by decide +kernel)) rfl
theorem k636 : Cond.code yX5_trueFrom prog_7_method_6_code (5 : Nat) (Option.some FieldType.int) ∈ zt := zin_4 (List.mem_of_getElem? (i := 38) (by decide +kernel)) rfl
theorem k637 : Cond.methodLink "TapeRings$Planner" (73 : Nat) yX5_listCheapest ∈ zt := zin_4 (List.mem_of_getElem? (i := 40) (by decide +kernel)) rfl
theorem k638 : Cond.instanceMethod yX5_listCheapest ∈ zt := zin_4 (List.mem_of_getElem? (i := 42) (by decide +kernel)) rfl
theorem k639 : Cond.code yX5_listCheapest prog_7_method_7_code (6 : Nat) (Option.none : Option FieldType) ∈ zt := zin_4 (List.mem_of_getElem? (i := 43) (by decide +kernel)) rfl
theorem k640 : Cond.methodLink "TapeRings$Planner" (110 : Nat) yX5_cost ∈ zt := zin_4 (List.mem_of_getElem? (i := 44) (by decide +kernel)) rfl
theorem k641 : Cond.static yX5_cost ∈ zt := zin_4 (List.mem_of_getElem? (i := 45) (by decide +kernel)) rfl
theorem k642 : Cond.code yX5_cost prog_7_method_8_code (3 : Nat) (Option.some FieldType.int) ∈ zt := zin_4 (List.mem_of_getElem? (i := 46) (by decide +kernel)) rfl
theorem k643 : Cond.methodLink "TapeRings$Planner" (121 : Nat) yJ9_abs_0f7a4 ∈ zt := zin_4 (List.mem_of_getElem? (i := 47) (by decide +kernel)) rfl
theorem k644 : Cond.static yJ9_abs_0f7a4 ∈ zt := zin_4 (List.mem_of_getElem? (i := 48) (by decide +kernel)) rfl
theorem k645 : Cond.code yJ9_abs_0f7a4 prog_18_method_59_code (1 : Nat) (Option.some FieldType.int) ∈ zt := zin_4 (List.mem_of_getElem? (i := 49) (by decide +kernel)) rfl
theorem k646 : Cond.methodLink "TapeRings$Planner" (113 : Nat) yJ9_min_7cf53 ∈ zt := zin_4 (List.mem_of_getElem? (i := 50) (by decide +kernel)) rfl
theorem k647 : Cond.methodLink "TapeRings$Planner" (77 : Nat) yX5_addCosts ∈ zt := zin_4 (List.mem_of_getElem? (i := 51) (by decide +kernel)) rfl
theorem k648 : Cond.instanceMethod yX5_addCosts ∈ zt := zin_4 (List.mem_of_getElem? (i := 53) (by decide +kernel)) rfl
theorem k649 : Cond.code yX5_addCosts prog_7_method_9_code (7 : Nat) (Option.none : Option FieldType) ∈ zt := zin_4 (List.mem_of_getElem? (i := 54) (by decide +kernel)) rfl
theorem k650 : Cond.methodLink "TapeRings$Planner" (81 : Nat) yX5_choose ∈ zt := zin_4 (List.mem_of_getElem? (i := 55) (by decide +kernel)) rfl
theorem k651 : Cond.instanceMethod yX5_choose ∈ zt := zin_4 (List.mem_of_getElem? (i := 57) (by decide +kernel)) rfl
theorem k652 : Cond.code yX5_choose prog_7_method_10_code (8 : Nat) (Option.some FieldType.int) ∈ zt := zin_4 (List.mem_of_getElem? (i := 58) (by decide +kernel)) rfl
theorem k653 : Cond.methodLink "TapeRings" (220 : Nat) yX11_tell ∈ zt := zin_4 (List.mem_of_getElem? (i := 59) (by decide +kernel)) rfl
theorem k654 : Cond.instanceMethod yX11_tell ∈ zt := zin_4 (List.mem_of_getElem? (i := 61) (by decide +kernel)) rfl
theorem k655 : Cond.code yX11_tell prog_1_method_46_code (3 : Nat) (Option.none : Option FieldType) ∈ zt := zin_4 (List.mem_of_getElem? (i := 62) (by decide +kernel)) rfl
theorem k656 : Cond.methodLink "TapeRings" (288 : Nat) yJ9_min_7cf53 ∈ zt := zin_4 (List.mem_of_getElem? (i := 63) (by decide +kernel)) rfl
theorem k657 : Cond.methodLink "TapeRings" (293 : Nat) (⟨"java/lang/System", "arraycopy", "(Ljava/lang/Object;ILjava/lang/Object;II)V"⟩ : MethodName) ∈ zt := zin_4 (List.mem_of_getElem? (i := 64) (by decide +kernel)) rfl
theorem k658 : Cond.methodLink "TapeRingsLaw" (130 : Nat) yX11_make ∈ zt := zin_4 (List.mem_of_getElem? (i := 65) (by decide +kernel)) rfl
theorem k659 : Cond.instanceMethod yX11_make ∈ zt := zin_4 (List.mem_of_getElem? (i := 66) (by decide +kernel)) rfl
theorem k660 : Cond.selects "TapeRings" yX11_make yX11_make ∈ zt := zin_4 (List.mem_of_getElem? (i := 67) (by decide +kernel)) rfl
theorem k661 : Cond.code yX11_make prog_1_method_24_code (2 : Nat) (Option.some FieldType.int) ∈ zt := zin_4 (List.mem_of_getElem? (i := 68) (by decide +kernel)) rfl
theorem k662 : Cond.methodLink "TapeRings" (223 : Nat) yX5_carryOut ∈ zt := zin_4 (List.mem_of_getElem? (i := 69) (by decide +kernel)) rfl
theorem k663 : Cond.instanceMethod yX5_carryOut ∈ zt := zin_4 (List.mem_of_getElem? (i := 70) (by decide +kernel)) rfl
theorem k664 : Cond.selects "TapeRings$Planner" yX5_carryOut yX5_carryOut ∈ zt := zin_4 (List.mem_of_getElem? (i := 71) (by decide +kernel)) rfl
theorem k665 : Cond.code yX5_carryOut prog_7_method_11_code (4 : Nat) (Option.none : Option FieldType) ∈ zt := zin_4 (List.mem_of_getElem? (i := 72) (by decide +kernel)) rfl
theorem k666 : Cond.methodLink "TapeRings$Planner" (125 : Nat) yX6_cutBy ∈ zt := zin_4 (List.mem_of_getElem? (i := 73) (by decide +kernel)) rfl
theorem k667 : Cond.instanceMethod yX6_cutBy ∈ zt := zin_4 (List.mem_of_getElem? (i := 74) (by decide +kernel)) rfl
theorem k668 : Cond.selects "TapeRings$Ring" yX6_cutBy yX6_cutBy ∈ zt := zin_4 (List.mem_of_getElem? (i := 75) (by decide +kernel)) rfl
theorem k669 : Cond.code yX6_cutBy prog_8_method_9_code (2 : Nat) (Option.none : Option FieldType) ∈ zt := zin_4 (List.mem_of_getElem? (i := 76) (by decide +kernel)) rfl
theorem k670 : Cond.methodLink "TapeRingsLaw" (134 : Nat) yX11_cut ∈ zt := zin_4 (List.mem_of_getElem? (i := 77) (by decide +kernel)) rfl
theorem k671 : Cond.instanceMethod yX11_cut ∈ zt := zin_4 (List.mem_of_getElem? (i := 78) (by decide +kernel)) rfl
theorem k672 : Cond.selects "TapeRings" yX11_cut yX11_cut ∈ zt := zin_4 (List.mem_of_getElem? (i := 79) (by decide +kernel)) rfl
theorem k673 : Cond.code yX11_cut prog_1_method_25_code (4 : Nat) (Option.some FieldType.int) ∈ zt := zin_4 (List.mem_of_getElem? (i := 80) (by decide +kernel)) rfl
theorem k674 : Cond.methodLink "TapeRings" (226 : Nat) yX6_cutBy ∈ zt := zin_4 (List.mem_of_getElem? (i := 81) (by decide +kernel)) rfl
theorem k675 : Cond.methodLink "TapeRingsLaw" (138 : Nat) yX11_weight ∈ zt := zin_4 (List.mem_of_getElem? (i := 82) (by decide +kernel)) rfl
theorem k676 : Cond.instanceMethod yX11_weight ∈ zt := zin_4 (List.mem_of_getElem? (i := 83) (by decide +kernel)) rfl
theorem k677 : Cond.selects "TapeRings" yX11_weight yX11_weight ∈ zt := zin_4 (List.mem_of_getElem? (i := 84) (by decide +kernel)) rfl
theorem k678 : Cond.code yX11_weight prog_1_method_26_code (3 : Nat) (Option.some FieldType.int) ∈ zt := zin_4 (List.mem_of_getElem? (i := 85) (by decide +kernel)) rfl
theorem k679 : Cond.methodLink "TapeRings" (230 : Nat) yX0_weigh ∈ zt := zin_4 (List.mem_of_getElem? (i := 86) (by decide +kernel)) rfl
theorem k680 : Cond.instanceMethod yX0_weigh ∈ zt := zin_4 (List.mem_of_getElem? (i := 87) (by decide +kernel)) rfl
theorem k681 : Cond.selects "TapeRings$Echo" yX0_weigh yX0_weigh ∈ zt := zin_4 (List.mem_of_getElem? (i := 88) (by decide +kernel)) rfl
theorem k682 : Cond.code yX0_weigh prog_2_method_2_code (4 : Nat) (Option.some FieldType.int) ∈ zt := zin_4 (List.mem_of_getElem? (i := 89) (by decide +kernel)) rfl
theorem k683 : Cond.methodLink "TapeRingsLaw" (142 : Nat) yX11_heads ∈ zt := zin_4 (List.mem_of_getElem? (i := 90) (by decide +kernel)) rfl
theorem k684 : Cond.instanceMethod yX11_heads ∈ zt := zin_4 (List.mem_of_getElem? (i := 91) (by decide +kernel)) rfl
theorem k685 : Cond.selects "TapeRings" yX11_heads yX11_heads ∈ zt := zin_4 (List.mem_of_getElem? (i := 92) (by decide +kernel)) rfl
theorem k686 : Cond.code yX11_heads prog_1_method_27_code (5 : Nat) (Option.some FieldType.boolean) ∈ zt := zin_4 (List.mem_of_getElem? (i := 93) (by decide +kernel)) rfl
theorem k687 : Cond.methodLink "TapeRings" (233 : Nat) yX0_place ∈ zt := zin_4 (List.mem_of_getElem? (i := 94) (by decide +kernel)) rfl
theorem k688 : Cond.instanceMethod yX0_place ∈ zt := zin_4 (List.mem_of_getElem? (i := 95) (by decide +kernel)) rfl
theorem k689 : Cond.selects "TapeRings$Echo" yX0_place yX0_place ∈ zt := zin_4 (List.mem_of_getElem? (i := 96) (by decide +kernel)) rfl
theorem k690 : Cond.code yX0_place prog_2_method_3_code (5 : Nat) (Option.none : Option FieldType) ∈ zt := zin_4 (List.mem_of_getElem? (i := 97) (by decide +kernel)) rfl
theorem k691 : Cond.methodLink "TapeRingsLaw" (147 : Nat) yX11_stop ∈ zt := zin_4 (List.mem_of_getElem? (i := 98) (by decide +kernel)) rfl
theorem k692 : Cond.instanceMethod yX11_stop ∈ zt := zin_4 (List.mem_of_getElem? (i := 99) (by decide +kernel)) rfl
theorem k693 : Cond.selects "TapeRings" yX11_stop yX11_stop ∈ zt := zin_4 (List.mem_of_getElem? (i := 100) (by decide +kernel)) rfl
theorem k694 : Cond.code yX11_stop prog_1_method_28_code (3 : Nat) (Option.some FieldType.int) ∈ zt := zin_4 (List.mem_of_getElem? (i := 101) (by decide +kernel)) rfl
theorem k695 : Cond.methodLink "TapeRingsLaw" (151 : Nat) yX11_out ∈ zt := zin_4 (List.mem_of_getElem? (i := 102) (by decide +kernel)) rfl
theorem k696 : Cond.instanceMethod yX11_out ∈ zt := zin_4 (List.mem_of_getElem? (i := 103) (by decide +kernel)) rfl
theorem k697 : Cond.selects "TapeRings" yX11_out yX11_out ∈ zt := zin_4 (List.mem_of_getElem? (i := 104) (by decide +kernel)) rfl
theorem k698 : Cond.code yX11_out prog_1_method_29_code (2 : Nat) (Option.some FieldType.int) ∈ zt := zin_4 (List.mem_of_getElem? (i := 105) (by decide +kernel)) rfl
theorem k699 : Cond.methodLink "TapeRings" (240 : Nat) yX0_run ∈ zt := zin_4 (List.mem_of_getElem? (i := 106) (by decide +kernel)) rfl
theorem k700 : Cond.instanceMethod yX0_run ∈ zt := zin_4 (List.mem_of_getElem? (i := 107) (by decide +kernel)) rfl
theorem k701 : Cond.selects "TapeRings$Echo" yX0_run yX0_run ∈ zt := zin_4 (List.mem_of_getElem? (i := 108) (by decide +kernel)) rfl
theorem k702 : Cond.code yX0_run prog_2_method_4_code (6 : Nat) (Option.none : Option FieldType) ∈ zt := zin_4 (List.mem_of_getElem? (i := 109) (by decide +kernel)) rfl
theorem k703 : Cond.methodLink "TapeRings$Echo" (43 : Nat) yX9_heardInAll ∈ zt := zin_4 (List.mem_of_getElem? (i := 110) (by decide +kernel)) rfl
theorem k704 : Cond.methodLink "TapeRings$Echo" (49 : Nat) yX0_loudness ∈ zt := zin_4 (List.mem_of_getElem? (i := 111) (by decide +kernel)) rfl
theorem k705 : Cond.instanceMethod yX0_loudness ∈ zt := zin_4 (List.mem_of_getElem? (i := 113) (by decide +kernel)) rfl
theorem k706 : Cond.code yX0_loudness prog_2_method_5_code (4 : Nat) (Option.some FieldType.int) ∈ zt := zin_4 (List.mem_of_getElem? (i := 114) (by decide +kernel)) rfl
theorem k707 : Cond.methodLink "TapeRings$Echo" (53 : Nat) yX0_behind ∈ zt := zin_4 (List.mem_of_getElem? (i := 115) (by decide +kernel)) rfl
theorem k708 : Cond.instanceMethod yX0_behind ∈ zt := zin_4 (List.mem_of_getElem? (i := 117) (by decide +kernel)) rfl
theorem k709 : Cond.code yX0_behind prog_2_method_6_code (3 : Nat) (Option.some FieldType.int) ∈ zt := zin_4 (List.mem_of_getElem? (i := 118) (by decide +kernel)) rfl
theorem k710 : Cond.methodLink "TapeRings$Echo" (62 : Nat) yX0_outAt ∈ zt := zin_4 (List.mem_of_getElem? (i := 119) (by decide +kernel)) rfl
theorem k711 : Cond.instanceMethod yX0_outAt ∈ zt := zin_4 (List.mem_of_getElem? (i := 120) (by decide +kernel)) rfl
theorem k712 : Cond.selects "TapeRings$Echo" yX0_outAt yX0_outAt ∈ zt := zin_4 (List.mem_of_getElem? (i := 121) (by decide +kernel)) rfl
theorem k713 : Cond.code yX0_outAt prog_2_method_7_code (2 : Nat) (Option.some FieldType.int) ∈ zt := zin_4 (List.mem_of_getElem? (i := 122) (by decide +kernel)) rfl
theorem k714 : Cond.methodLink "TapeRings$Echo" (57 : Nat) yJ9_min_7cf53 ∈ zt := zin_4 (List.mem_of_getElem? (i := 123) (by decide +kernel)) rfl
theorem k715 : Cond.methodLink "TapeRings" (244 : Nat) yX0_outAt ∈ zt := zin_4 (List.mem_of_getElem? (i := 124) (by decide +kernel)) rfl
theorem k716 : Cond.methodLink "TapeRingsLaw" (155 : Nat) yX11_dies ∈ zt := zin_4 (List.mem_of_getElem? (i := 125) (by decide +kernel)) rfl
theorem k717 : Cond.instanceMethod yX11_dies ∈ zt := zin_4 (List.mem_of_getElem? (i := 126) (by decide +kernel)) rfl
theorem k718 : Cond.selects "TapeRings" yX11_dies yX11_dies ∈ zt := zin_4 (List.mem_of_getElem? (i := 127) (by decide +kernel)) rfl
theorem k719 : Cond.code yX11_dies prog_1_method_30_code (2 : Nat) (Option.some FieldType.int) ∈ zt := zin_4 (List.mem_of_getElem? (i := 128) (by decide +kernel)) rfl
theorem k720 : Cond.methodLink "TapeRings" (247 : Nat) yX0_fate ∈ zt := zin_4 (List.mem_of_getElem? (i := 129) (by decide +kernel)) rfl
theorem k721 : Cond.instanceMethod yX0_fate ∈ zt := zin_4 (List.mem_of_getElem? (i := 130) (by decide +kernel)) rfl
theorem k722 : Cond.selects "TapeRings$Echo" yX0_fate yX0_fate ∈ zt := zin_4 (List.mem_of_getElem? (i := 131) (by decide +kernel)) rfl
theorem k723 : Cond.code yX0_fate prog_2_method_8_code (5 : Nat) (Option.some FieldType.int) ∈ zt := zin_4 (List.mem_of_getElem? (i := 132) (by decide +kernel)) rfl
theorem k724 : Cond.methodLink "TapeRings$Echo" (65 : Nat) yX0_run ∈ zt := zin_4 (List.mem_of_getElem? (i := 133) (by decide +kernel)) rfl
theorem k725 : Cond.methodLink "TapeRings$Echo" (69 : Nat) yX0_firstSilence ∈ zt := zin_4 (List.mem_of_getElem? (i := 134) (by decide +kernel)) rfl
theorem k726 : Cond.instanceMethod yX0_firstSilence ∈ zt := zin_4 (List.mem_of_getElem? (i := 136) (by decide +kernel)) rfl
theorem k727 : Cond.code yX0_firstSilence prog_2_method_9_code (3 : Nat) (Option.some FieldType.int) ∈ zt := zin_4 (List.mem_of_getElem? (i := 137) (by decide +kernel)) rfl
theorem k728 : Cond.methodLink "TapeRings$Echo" (73 : Nat) yX0_comesBackIn ∈ zt := zin_4 (List.mem_of_getElem? (i := 138) (by decide +kernel)) rfl
theorem k729 : Cond.instanceMethod yX0_comesBackIn ∈ zt := zin_4 (List.mem_of_getElem? (i := 140) (by decide +kernel)) rfl
theorem k730 : Cond.code yX0_comesBackIn prog_2_method_10_code (3 : Nat) (Option.some FieldType.int) ∈ zt := zin_4 (List.mem_of_getElem? (i := 141) (by decide +kernel)) rfl
theorem k731 : Cond.methodLink "TapeRings$Echo" (76 : Nat) yX0_alike ∈ zt := zin_4 (List.mem_of_getElem? (i := 142) (by decide +kernel)) rfl
theorem k732 : Cond.instanceMethod yX0_alike ∈ zt := zin_4 (List.mem_of_getElem? (i := 144) (by decide +kernel)) rfl
theorem k733 : Cond.code yX0_alike prog_2_method_11_code (4 : Nat) (Option.some FieldType.boolean) ∈ zt := zin_4 (List.mem_of_getElem? (i := 145) (by decide +kernel)) rfl
theorem k734 : Cond.methodLink "TapeRingsLaw" (159 : Nat) yX11_tape ∈ zt := zin_4 (List.mem_of_getElem? (i := 146) (by decide +kernel)) rfl
theorem k735 : Cond.instanceMethod yX11_tape ∈ zt := zin_4 (List.mem_of_getElem? (i := 147) (by decide +kernel)) rfl
theorem k736 : Cond.selects "TapeRings" yX11_tape yX11_tape ∈ zt := zin_4 (List.mem_of_getElem? (i := 148) (by decide +kernel)) rfl
theorem k737 : Cond.code yX11_tape prog_1_method_31_code (2 : Nat) (Option.some FieldType.int) ∈ zt := zin_4 (List.mem_of_getElem? (i := 149) (by decide +kernel)) rfl
theorem k738 : Cond.methodLink "TapeRings" (253 : Nat) yX3_add ∈ zt := zin_4 (List.mem_of_getElem? (i := 150) (by decide +kernel)) rfl
theorem k739 : Cond.instanceMethod yX3_add ∈ zt := zin_4 (List.mem_of_getElem? (i := 151) (by decide +kernel)) rfl
theorem k740 : Cond.selects "TapeRings$OldTape" yX3_add yX3_add ∈ zt := zin_4 (List.mem_of_getElem? (i := 152) (by decide +kernel)) rfl
theorem k741 : Cond.code yX3_add prog_5_method_2_code (2 : Nat) (Option.some FieldType.int) ∈ zt := zin_4 (List.mem_of_getElem? (i := 153) (by decide +kernel)) rfl
theorem k742 : Cond.methodLink "TapeRingsLaw" (163 : Nat) yX11_take ∈ zt := zin_4 (List.mem_of_getElem? (i := 154) (by decide +kernel)) rfl
theorem k743 : Cond.instanceMethod yX11_take ∈ zt := zin_4 (List.mem_of_getElem? (i := 155) (by decide +kernel)) rfl
theorem k744 : Cond.selects "TapeRings" yX11_take yX11_take ∈ zt := zin_4 (List.mem_of_getElem? (i := 156) (by decide +kernel)) rfl
theorem k745 : Cond.code yX11_take prog_1_method_32_code (4 : Nat) (Option.some FieldType.boolean) ∈ zt := zin_4 (List.mem_of_getElem? (i := 157) (by decide +kernel)) rfl
theorem k746 : Cond.methodLink "TapeRingsLaw" (167 : Nat) yX11_gap ∈ zt := zin_4 (List.mem_of_getElem? (i := 158) (by decide +kernel)) rfl
theorem k747 : Cond.instanceMethod yX11_gap ∈ zt := zin_4 (List.mem_of_getElem? (i := 159) (by decide +kernel)) rfl
theorem k748 : Cond.selects "TapeRings" yX11_gap yX11_gap ∈ zt := zin_4 (List.mem_of_getElem? (i := 160) (by decide +kernel)) rfl
theorem k749 : Cond.code yX11_gap prog_1_method_33_code (2 : Nat) (Option.some FieldType.boolean) ∈ zt := zin_4 (List.mem_of_getElem? (i := 161) (by decide +kernel)) rfl
theorem k750 : Cond.methodLink "TapeRings" (254 : Nat) yX3_makeGap ∈ zt := zin_4 (List.mem_of_getElem? (i := 162) (by decide +kernel)) rfl
theorem k751 : Cond.instanceMethod yX3_makeGap ∈ zt := zin_4 (List.mem_of_getElem? (i := 163) (by decide +kernel)) rfl
theorem k752 : Cond.selects "TapeRings$OldTape" yX3_makeGap yX3_makeGap ∈ zt := zin_4 (List.mem_of_getElem? (i := 164) (by decide +kernel)) rfl
theorem k753 : Cond.code yX3_makeGap prog_5_method_3_code (2 : Nat) (Option.some FieldType.boolean) ∈ zt := zin_4 (List.mem_of_getElem? (i := 165) (by decide +kernel)) rfl
theorem k754 : Cond.methodLink "TapeRingsLaw" (171 : Nat) yX11_wipe ∈ zt := zin_4 (List.mem_of_getElem? (i := 166) (by decide +kernel)) rfl
theorem k755 : Cond.instanceMethod yX11_wipe ∈ zt := zin_4 (List.mem_of_getElem? (i := 167) (by decide +kernel)) rfl
theorem k756 : Cond.selects "TapeRings" yX11_wipe yX11_wipe ∈ zt := zin_4 (List.mem_of_getElem? (i := 168) (by decide +kernel)) rfl
theorem k757 : Cond.code yX11_wipe prog_1_method_34_code (2 : Nat) (Option.some FieldType.int) ∈ zt := zin_4 (List.mem_of_getElem? (i := 169) (by decide +kernel)) rfl
theorem k758 : Cond.methodLink "TapeRingsLaw" (175 : Nat) yX11_span ∈ zt := zin_4 (List.mem_of_getElem? (i := 170) (by decide +kernel)) rfl
theorem k759 : Cond.instanceMethod yX11_span ∈ zt := zin_4 (List.mem_of_getElem? (i := 171) (by decide +kernel)) rfl
theorem k760 : Cond.selects "TapeRings" yX11_span yX11_span ∈ zt := zin_4 (List.mem_of_getElem? (i := 172) (by decide +kernel)) rfl
theorem k761 : Cond.code yX11_span prog_1_method_35_code (2 : Nat) (Option.some FieldType.int) ∈ zt := zin_4 (List.mem_of_getElem? (i := 173) (by decide +kernel)) rfl
theorem k762 : Cond.methodLink "TapeRings" (257 : Nat) yX3_spanNumber ∈ zt := zin_4 (List.mem_of_getElem? (i := 174) (by decide +kernel)) rfl
theorem k763 : Cond.instanceMethod yX3_spanNumber ∈ zt := zin_4 (List.mem_of_getElem? (i := 175) (by decide +kernel)) rfl
theorem k764 : Cond.selects "TapeRings$OldTape" yX3_spanNumber yX3_spanNumber ∈ zt := zin_4 (List.mem_of_getElem? (i := 176) (by decide +kernel)) rfl
theorem k765 : Cond.code yX3_spanNumber prog_5_method_4_code (4 : Nat) (Option.some FieldType.int) ∈ zt := zin_4 (List.mem_of_getElem? (i := 177) (by decide +kernel)) rfl
theorem k766 : Cond.methodLink "TapeRings$OldTape" (25 : Nat) yX3_spanFits ∈ zt := zin_4 (List.mem_of_getElem? (i := 178) (by decide +kernel)) rfl
theorem k767 : Cond.instanceMethod yX3_spanFits ∈ zt := zin_4 (List.mem_of_getElem? (i := 180) (by decide +kernel)) rfl
theorem k768 : Cond.code yX3_spanFits prog_5_method_5_code (4 : Nat) (Option.some FieldType.boolean) ∈ zt := zin_4 (List.mem_of_getElem? (i := 181) (by decide +kernel)) rfl
theorem k769 : Cond.methodLink "TapeRings$OldTape" (29 : Nat) yJ7_fill_53178 ∈ zt := zin_4 (List.mem_of_getElem? (i := 182) (by decide +kernel)) rfl
theorem k770 : Cond.methodLink "TapeRingsLaw" (179 : Nat) yX11_pair ∈ zt := zin_4 (List.mem_of_getElem? (i := 184) (by decide +kernel)) rfl
theorem k771 : Cond.instanceMethod yX11_pair ∈ zt := zin_4 (List.mem_of_getElem? (i := 185) (by decide +kernel)) rfl
theorem k772 : Cond.selects "TapeRings" yX11_pair yX11_pair ∈ zt := zin_4 (List.mem_of_getElem? (i := 186) (by decide +kernel)) rfl
theorem k773 : Cond.code yX11_pair prog_1_method_36_code (2 : Nat) (Option.some FieldType.int) ∈ zt := zin_4 (List.mem_of_getElem? (i := 187) (by decide +kernel)) rfl
theorem k774 : Cond.methodLink "TapeRings" (260 : Nat) yX3_pairNumber ∈ zt := zin_4 (List.mem_of_getElem? (i := 188) (by decide +kernel)) rfl
theorem k775 : Cond.instanceMethod yX3_pairNumber ∈ zt := zin_4 (List.mem_of_getElem? (i := 189) (by decide +kernel)) rfl
theorem k776 : Cond.selects "TapeRings$OldTape" yX3_pairNumber yX3_pairNumber ∈ zt := zin_4 (List.mem_of_getElem? (i := 190) (by decide +kernel)) rfl
theorem k777 : Cond.code yX3_pairNumber prog_5_method_6_code (5 : Nat) (Option.some FieldType.int) ∈ zt := zin_4 (List.mem_of_getElem? (i := 191) (by decide +kernel)) rfl
theorem k778 : Cond.methodLink "TapeRings$OldTape" (39 : Nat) yJ9_max_7cf53 ∈ zt := zin_4 (List.mem_of_getElem? (i := 192) (by decide +kernel)) rfl
theorem k779 : Cond.methodLink "TapeRings$OldTape" (45 : Nat) yX3_pairFits ∈ zt := zin_4 (List.mem_of_getElem? (i := 193) (by decide +kernel)) rfl
theorem k780 : Cond.instanceMethod yX3_pairFits ∈ zt := zin_4 (List.mem_of_getElem? (i := 195) (by decide +kernel)) rfl
theorem k781 : Cond.code yX3_pairFits prog_5_method_7_code (4 : Nat) (Option.some FieldType.boolean) ∈ zt := zin_4 (List.mem_of_getElem? (i := 196) (by decide +kernel)) rfl
theorem k782 : Cond.methodLink "TapeRings$OldTape" (49 : Nat) yX3_makeGreatest ∈ zt := zin_4 (List.mem_of_getElem? (i := 197) (by decide +kernel)) rfl
theorem k783 : Cond.instanceMethod yX3_makeGreatest ∈ zt := zin_4 (List.mem_of_getElem? (i := 199) (by decide +kernel)) rfl
theorem k784 : Cond.code yX3_makeGreatest prog_5_method_8_code (4 : Nat) (Option.none : Option FieldType) ∈ zt := zin_4 (List.mem_of_getElem? (i := 200) (by decide +kernel)) rfl
theorem k785 : Cond.methodLink "TapeRingsLaw" (183 : Nat) yX11_mended ∈ zt := zin_4 (List.mem_of_getElem? (i := 201) (by decide +kernel)) rfl
theorem k786 : Cond.instanceMethod yX11_mended ∈ zt := zin_4 (List.mem_of_getElem? (i := 202) (by decide +kernel)) rfl
theorem k787 : Cond.selects "TapeRings" yX11_mended yX11_mended ∈ zt := zin_4 (List.mem_of_getElem? (i := 203) (by decide +kernel)) rfl
theorem k788 : Cond.code yX11_mended prog_1_method_37_code (2 : Nat) (Option.some FieldType.int) ∈ zt := zin_4 (List.mem_of_getElem? (i := 204) (by decide +kernel)) rfl
theorem k789 : Cond.methodLink "TapeRings" (263 : Nat) yX3_mendedAt ∈ zt := zin_4 (List.mem_of_getElem? (i := 205) (by decide +kernel)) rfl
theorem k790 : Cond.instanceMethod yX3_mendedAt ∈ zt := zin_4 (List.mem_of_getElem? (i := 206) (by decide +kernel)) rfl
theorem k791 : Cond.selects "TapeRings$OldTape" yX3_mendedAt yX3_mendedAt ∈ zt := zin_4 (List.mem_of_getElem? (i := 207) (by decide +kernel)) rfl
theorem k792 : Cond.code yX3_mendedAt prog_5_method_9_code (3 : Nat) (Option.some FieldType.int) ∈ zt := zin_4 (List.mem_of_getElem? (i := 208) (by decide +kernel)) rfl
theorem k793 : Cond.methodLink "TapeRings$OldTape" (52 : Nat) yX3_pairNumber ∈ zt := zin_4 (List.mem_of_getElem? (i := 209) (by decide +kernel)) rfl
theorem k794 : Cond.methodLink "TapeRingsLaw" (187 : Nat) yX11_piece ∈ zt := zin_4 (List.mem_of_getElem? (i := 210) (by decide +kernel)) rfl
theorem k795 : Cond.instanceMethod yX11_piece ∈ zt := zin_4 (List.mem_of_getElem? (i := 211) (by decide +kernel)) rfl
theorem k796 : Cond.selects "TapeRings" yX11_piece yX11_piece ∈ zt := zin_4 (List.mem_of_getElem? (i := 212) (by decide +kernel)) rfl
theorem k797 : Cond.code yX11_piece prog_1_method_38_code (3 : Nat) (Option.some FieldType.int) ∈ zt := zin_4 (List.mem_of_getElem? (i := 213) (by decide +kernel)) rfl
theorem k798 : Cond.methodLink "TapeRings" (266 : Nat) yX4_add ∈ zt := zin_4 (List.mem_of_getElem? (i := 214) (by decide +kernel)) rfl
theorem k799 : Cond.instanceMethod yX4_add ∈ zt := zin_4 (List.mem_of_getElem? (i := 215) (by decide +kernel)) rfl
theorem k800 : Cond.selects "TapeRings$Pieces" yX4_add yX4_add ∈ zt := zin_4 (List.mem_of_getElem? (i := 216) (by decide +kernel)) rfl
theorem k801 : Cond.code yX4_add prog_6_method_2_code (5 : Nat) (Option.some FieldType.int) ∈ zt := zin_4 (List.mem_of_getElem? (i := 217) (by decide +kernel)) rfl
theorem k802 : Cond.methodLink "TapeRings$Pieces" (33 : Nat) yX4_digit ∈ zt := zin_4 (List.mem_of_getElem? (i := 218) (by decide +kernel)) rfl
theorem k803 : Cond.static yX4_digit ∈ zt := zin_4 (List.mem_of_getElem? (i := 219) (by decide +kernel)) rfl
theorem k804 : Cond.code yX4_digit prog_6_method_3_code (2 : Nat) (Option.some FieldType.int) ∈ zt := zin_4 (List.mem_of_getElem? (i := 220) (by decide +kernel)) rfl
theorem k805 : Cond.methodLink "TapeRingsLaw" (191 : Nat) yX11_burn ∈ zt := zin_4 (List.mem_of_getElem? (i := 221) (by decide +kernel)) rfl
theorem k806 : Cond.instanceMethod yX11_burn ∈ zt := zin_4 (List.mem_of_getElem? (i := 222) (by decide +kernel)) rfl
theorem k807 : Cond.selects "TapeRings" yX11_burn yX11_burn ∈ zt := zin_4 (List.mem_of_getElem? (i := 223) (by decide +kernel)) rfl
theorem k808 : Cond.code yX11_burn prog_1_method_39_code (2 : Nat) (Option.some FieldType.int) ∈ zt := zin_4 (List.mem_of_getElem? (i := 224) (by decide +kernel)) rfl
theorem k809 : Cond.methodLink "TapeRingsLaw" (195 : Nat) yX11_join ∈ zt := zin_4 (List.mem_of_getElem? (i := 225) (by decide +kernel)) rfl
theorem k810 : Cond.instanceMethod yX11_join ∈ zt := zin_4 (List.mem_of_getElem? (i := 226) (by decide +kernel)) rfl
theorem k811 : Cond.selects "TapeRings" yX11_join yX11_join ∈ zt := zin_4 (List.mem_of_getElem? (i := 227) (by decide +kernel)) rfl
theorem k812 : Cond.code yX11_join prog_1_method_40_code (2 : Nat) (Option.some FieldType.int) ∈ zt := zin_4 (List.mem_of_getElem? (i := 228) (by decide +kernel)) rfl
theorem k813 : Cond.methodLink "TapeRings" (267 : Nat) yX4_joinAll ∈ zt := zin_4 (List.mem_of_getElem? (i := 229) (by decide +kernel)) rfl
theorem k814 : Cond.instanceMethod yX4_joinAll ∈ zt := zin_4 (List.mem_of_getElem? (i := 230) (by decide +kernel)) rfl
theorem k815 : Cond.selects "TapeRings$Pieces" yX4_joinAll yX4_joinAll ∈ zt := zin_4 (List.mem_of_getElem? (i := 231) (by decide +kernel)) rfl
theorem k816 : Cond.code yX4_joinAll prog_6_method_4_code (1 : Nat) (Option.some FieldType.int) ∈ zt := zin_4 (List.mem_of_getElem? (i := 232) (by decide +kernel)) rfl
theorem k817 : Cond.methodLink "TapeRings$Pieces" (37 : Nat) yX4_layRest ∈ zt := zin_4 (List.mem_of_getElem? (i := 233) (by decide +kernel)) rfl
theorem k818 : Cond.static yX4_layRest ∈ zt := zin_4 (List.mem_of_getElem? (i := 234) (by decide +kernel)) rfl
theorem k819 : Cond.code yX4_layRest prog_6_method_5_code (6 : Nat) (Option.none : Option FieldType) ∈ zt := zin_4 (List.mem_of_getElem? (i := 235) (by decide +kernel)) rfl
theorem k820 : Cond.methodLink "TapeRings$Pieces" (41 : Nat) yX4_keepBetter ∈ zt := zin_4 (List.mem_of_getElem? (i := 236) (by decide +kernel)) rfl
theorem k821 : Cond.instanceMethod yX4_keepBetter ∈ zt := zin_4 (List.mem_of_getElem? (i := 238) (by decide +kernel)) rfl
theorem k822 : Cond.code yX4_keepBetter prog_6_method_9_code (2 : Nat) (Option.none : Option FieldType) ∈ zt := zin_4 (List.mem_of_getElem? (i := 239) (by decide +kernel)) rfl
theorem k823 : Cond.methodLink "TapeRings$Pieces" (61 : Nat) yX4_laidIsLess ∈ zt := zin_5 (List.mem_of_getElem? (i := 0) (by decide +kernel)) rfl
theorem k824 : Cond.instanceMethod yX4_laidIsLess ∈ zt := zin_5 (List.mem_of_getElem? (i := 2) (by decide +kernel)) rfl
theorem k825 : Cond.code yX4_laidIsLess prog_6_method_10_code (3 : Nat) (Option.some FieldType.boolean) ∈ zt := zin_5 (List.mem_of_getElem? (i := 3) (by decide +kernel)) rfl
theorem k826 : Cond.methodLink "TapeRings$Pieces" (65 : Nat) (⟨"java/lang/System", "arraycopy", "(Ljava/lang/Object;ILjava/lang/Object;II)V"⟩ : MethodName) ∈ zt := zin_5 (List.mem_of_getElem? (i := 4) (by decide +kernel)) rfl
theorem k827 : Cond.methodLink "TapeRings$Pieces" (45 : Nat) yX4_layPiece ∈ zt := zin_5 (List.mem_of_getElem? (i := 5) (by decide +kernel)) rfl
theorem k828 : Cond.instanceMethod yX4_layPiece ∈ zt := zin_5 (List.mem_of_getElem? (i := 7) (by decide +kernel)) rfl
theorem k829 : Cond.code yX4_layPiece prog_6_method_6_code (7 : Nat) (Option.some FieldType.int) ∈ zt := zin_5 (List.mem_of_getElem? (i := 8) (by decide +kernel)) rfl
theorem k830 : Cond.methodLink "TapeRings$Pieces" (49 : Nat) yJ9_min_7cf53 ∈ zt := zin_5 (List.mem_of_getElem? (i := 9) (by decide +kernel)) rfl
theorem k831 : Cond.methodLink "TapeRings$Pieces" (54 : Nat) yX4_alike ∈ zt := zin_5 (List.mem_of_getElem? (i := 10) (by decide +kernel)) rfl
theorem k832 : Cond.instanceMethod yX4_alike ∈ zt := zin_5 (List.mem_of_getElem? (i := 12) (by decide +kernel)) rfl
theorem k833 : Cond.code yX4_alike prog_6_method_7_code (6 : Nat) (Option.some FieldType.boolean) ∈ zt := zin_5 (List.mem_of_getElem? (i := 13) (by decide +kernel)) rfl
theorem k834 : Cond.methodLink "TapeRings$Pieces" (58 : Nat) yX4_sound ∈ zt := zin_5 (List.mem_of_getElem? (i := 14) (by decide +kernel)) rfl
theorem k835 : Cond.instanceMethod yX4_sound ∈ zt := zin_5 (List.mem_of_getElem? (i := 16) (by decide +kernel)) rfl
theorem k836 : Cond.code yX4_sound prog_6_method_8_code (4 : Nat) (Option.some FieldType.int) ∈ zt := zin_5 (List.mem_of_getElem? (i := 17) (by decide +kernel)) rfl
theorem k837 : Cond.methodLink "TapeRingsLaw" (199 : Nat) yX11_keep ∈ zt := zin_5 (List.mem_of_getElem? (i := 18) (by decide +kernel)) rfl
theorem k838 : Cond.instanceMethod yX11_keep ∈ zt := zin_5 (List.mem_of_getElem? (i := 19) (by decide +kernel)) rfl
theorem k839 : Cond.selects "TapeRings" yX11_keep yX11_keep ∈ zt := zin_5 (List.mem_of_getElem? (i := 20) (by decide +kernel)) rfl
theorem k840 : Cond.code yX11_keep prog_1_method_41_code (4 : Nat) (Option.some FieldType.int) ∈ zt := zin_5 (List.mem_of_getElem? (i := 21) (by decide +kernel)) rfl
theorem k841 : Cond.methodLink "TapeRings" (273 : Nat) yX10_add ∈ zt := zin_5 (List.mem_of_getElem? (i := 22) (by decide +kernel)) rfl
theorem k842 : Cond.instanceMethod yX10_add ∈ zt := zin_5 (List.mem_of_getElem? (i := 23) (by decide +kernel)) rfl
theorem k843 : Cond.selects "TapeRings$Versions" yX10_add yX10_add ∈ zt := zin_5 (List.mem_of_getElem? (i := 24) (by decide +kernel)) rfl
theorem k844 : Cond.code yX10_add prog_12_method_2_code (4 : Nat) (Option.some FieldType.int) ∈ zt := zin_5 (List.mem_of_getElem? (i := 25) (by decide +kernel)) rfl
theorem k845 : Cond.methodLink "TapeRings$Versions" (32 : Nat) yX8_copy ∈ zt := zin_5 (List.mem_of_getElem? (i := 26) (by decide +kernel)) rfl
theorem k846 : Cond.methodLink "TapeRingsLaw" (203 : Nat) yX11_known ∈ zt := zin_5 (List.mem_of_getElem? (i := 27) (by decide +kernel)) rfl
theorem k847 : Cond.instanceMethod yX11_known ∈ zt := zin_5 (List.mem_of_getElem? (i := 28) (by decide +kernel)) rfl
theorem k848 : Cond.selects "TapeRings" yX11_known yX11_known ∈ zt := zin_5 (List.mem_of_getElem? (i := 29) (by decide +kernel)) rfl
theorem k849 : Cond.code yX11_known prog_1_method_42_code (3 : Nat) (Option.some FieldType.int) ∈ zt := zin_5 (List.mem_of_getElem? (i := 30) (by decide +kernel)) rfl
theorem k850 : Cond.methodLink "TapeRings" (274 : Nat) yX10_latest ∈ zt := zin_5 (List.mem_of_getElem? (i := 31) (by decide +kernel)) rfl
theorem k851 : Cond.instanceMethod yX10_latest ∈ zt := zin_5 (List.mem_of_getElem? (i := 32) (by decide +kernel)) rfl
theorem k852 : Cond.selects "TapeRings$Versions" yX10_latest yX10_latest ∈ zt := zin_5 (List.mem_of_getElem? (i := 33) (by decide +kernel)) rfl
theorem k853 : Cond.code yX10_latest prog_12_method_4_code (4 : Nat) (Option.some FieldType.int) ∈ zt := zin_5 (List.mem_of_getElem? (i := 34) (by decide +kernel)) rfl
theorem k854 : Cond.methodLink "TapeRingsLaw" (207 : Nat) yX11_fetch ∈ zt := zin_5 (List.mem_of_getElem? (i := 35) (by decide +kernel)) rfl
theorem k855 : Cond.instanceMethod yX11_fetch ∈ zt := zin_5 (List.mem_of_getElem? (i := 36) (by decide +kernel)) rfl
theorem k856 : Cond.selects "TapeRings" yX11_fetch yX11_fetch ∈ zt := zin_5 (List.mem_of_getElem? (i := 37) (by decide +kernel)) rfl
theorem k857 : Cond.code yX11_fetch prog_1_method_43_code (3 : Nat) (Option.some FieldType.int) ∈ zt := zin_5 (List.mem_of_getElem? (i := 38) (by decide +kernel)) rfl
theorem k858 : Cond.methodLink "TapeRings" (277 : Nat) yX10_find ∈ zt := zin_5 (List.mem_of_getElem? (i := 39) (by decide +kernel)) rfl
theorem k859 : Cond.instanceMethod yX10_find ∈ zt := zin_5 (List.mem_of_getElem? (i := 40) (by decide +kernel)) rfl
theorem k860 : Cond.selects "TapeRings$Versions" yX10_find yX10_find ∈ zt := zin_5 (List.mem_of_getElem? (i := 41) (by decide +kernel)) rfl
theorem k861 : Cond.code yX10_find prog_12_method_3_code (2 : Nat) (Option.some (FieldType.object "TapeRings$Strip")) ∈ zt := zin_5 (List.mem_of_getElem? (i := 42) (by decide +kernel)) rfl
theorem k862 : Cond.methodLink "TapeRings" (280 : Nat) yX8_copy ∈ zt := zin_5 (List.mem_of_getElem? (i := 43) (by decide +kernel)) rfl
theorem k863 : Cond.methodLink "TapeRingsLaw" (211 : Nat) yX11_edits ∈ zt := zin_5 (List.mem_of_getElem? (i := 44) (by decide +kernel)) rfl
theorem k864 : Cond.instanceMethod yX11_edits ∈ zt := zin_5 (List.mem_of_getElem? (i := 45) (by decide +kernel)) rfl
theorem k865 : Cond.selects "TapeRings" yX11_edits yX11_edits ∈ zt := zin_5 (List.mem_of_getElem? (i := 46) (by decide +kernel)) rfl
theorem k866 : Cond.code yX11_edits prog_1_method_44_code (5 : Nat) (Option.some FieldType.int) ∈ zt := zin_5 (List.mem_of_getElem? (i := 47) (by decide +kernel)) rfl
theorem k867 : Cond.methodLink "TapeRings" (284 : Nat) yX10_fewestEdits ∈ zt := zin_5 (List.mem_of_getElem? (i := 48) (by decide +kernel)) rfl
theorem k868 : Cond.instanceMethod yX10_fewestEdits ∈ zt := zin_5 (List.mem_of_getElem? (i := 49) (by decide +kernel)) rfl
theorem k869 : Cond.selects "TapeRings$Versions" yX10_fewestEdits yX10_fewestEdits ∈ zt := zin_5 (List.mem_of_getElem? (i := 50) (by decide +kernel)) rfl
theorem k870 : Cond.code yX10_fewestEdits prog_12_method_5_code (5 : Nat) (Option.some FieldType.int) ∈ zt := zin_5 (List.mem_of_getElem? (i := 51) (by decide +kernel)) rfl
theorem k871 : Cond.methodLink "TapeRings$Versions" (39 : Nat) yJ9_max_7cf53 ∈ zt := zin_5 (List.mem_of_getElem? (i := 52) (by decide +kernel)) rfl
theorem k872 : Cond.methodLink "TapeRings$Versions" (45 : Nat) yX10_editsTurned ∈ zt := zin_5 (List.mem_of_getElem? (i := 53) (by decide +kernel)) rfl
theorem k873 : Cond.instanceMethod yX10_editsTurned ∈ zt := zin_5 (List.mem_of_getElem? (i := 55) (by decide +kernel)) rfl
theorem k874 : Cond.code yX10_editsTurned prog_12_method_6_code (9 : Nat) (Option.some FieldType.int) ∈ zt := zin_5 (List.mem_of_getElem? (i := 56) (by decide +kernel)) rfl
theorem k875 : Cond.methodLink "TapeRings$Versions" (49 : Nat) yJ9_min_7cf53 ∈ zt := zin_5 (List.mem_of_getElem? (i := 58) (by decide +kernel)) rfl
theorem k876 : Cond.methodLink "TapeRingsLaw" (76 : Nat) yL_of ∈ zt := zin_5 (List.mem_of_getElem? (i := 59) (by decide +kernel)) rfl
theorem k877 : Cond.static yL_of ∈ zt := zin_5 (List.mem_of_getElem? (i := 60) (by decide +kernel)) rfl
theorem k878 : Cond.classLink "TapeRingsLaw" (13 : Nat) "java/util/NoSuchElementException" ∈ zt := zin_5 (List.mem_of_getElem? (i := 62) (by decide +kernel)) rfl
theorem k879 : Cond.methodLink "TapeRingsLaw" (7 : Nat) yX11_of ∈ zt := zin_5 (List.mem_of_getElem? (i := 63) (by decide +kernel)) rfl
theorem k880 : Cond.instanceMethod yX11_of ∈ zt := zin_5 (List.mem_of_getElem? (i := 64) (by decide +kernel)) rfl
theorem k881 : Cond.selects "TapeRings" yX11_of yX11_of ∈ zt := zin_5 (List.mem_of_getElem? (i := 65) (by decide +kernel)) rfl
theorem k882 : Cond.code yX11_of prog_1_method_13_code (4 : Nat) (Option.some FieldType.int) ∈ zt := zin_5 (List.mem_of_getElem? (i := 66) (by decide +kernel)) rfl
theorem k883 : Cond.classLink "TapeRings" (156 : Nat) "java/util/NoSuchElementException" ∈ zt := zin_5 (List.mem_of_getElem? (i := 67) (by decide +kernel)) rfl
theorem k884 : Cond.instantiable "java/util/NoSuchElementException" (6 : Nat) ∈ zt := zin_5 (List.mem_of_getElem? (i := 68) (by decide +kernel)) rfl
theorem k885 : Cond.selects "java/util/NoSuchElementException" (⟨"java/lang/Throwable", "fillInStackTrace", "(I)Ljava/lang/Throwable;"⟩ : MethodName) (⟨"java/lang/Throwable", "fillInStackTrace", "(I)Ljava/lang/Throwable;"⟩ : MethodName) ∈ zt := zin_5 (List.mem_of_getElem? (i := 76) (by decide +kernel)) rfl
theorem k886 : Cond.selects "java/util/NoSuchElementException" (⟨"java/lang/Throwable", "fillInStackTrace", "()Ljava/lang/Throwable;"⟩ : MethodName) (⟨"java/lang/Throwable", "fillInStackTrace", "()Ljava/lang/Throwable;"⟩ : MethodName) ∈ zt := zin_5 (List.mem_of_getElem? (i := 77) (by decide +kernel)) rfl
theorem k887 : Cond.lays "java/util/NoSuchElementException" "java/lang/Throwable" "cause" "Ljava/lang/Throwable;" ∈ zt := zin_5 (List.mem_of_getElem? (i := 78) (by decide +kernel)) rfl
theorem k888 : Cond.lays "java/lang/Throwable" "java/lang/Throwable" "cause" "Ljava/lang/Throwable;" ∈ zt := zin_5 (List.mem_of_getElem? (i := 79) (by decide +kernel)) rfl
theorem k889 : Cond.lays "java/util/NoSuchElementException" "java/lang/Throwable" "stackTrace" "[Ljava/lang/StackTraceElement;" ∈ zt := zin_5 (List.mem_of_getElem? (i := 80) (by decide +kernel)) rfl
theorem k890 : Cond.lays "java/lang/Throwable" "java/lang/Throwable" "stackTrace" "[Ljava/lang/StackTraceElement;" ∈ zt := zin_5 (List.mem_of_getElem? (i := 81) (by decide +kernel)) rfl
theorem k891 : Cond.lays "java/util/NoSuchElementException" "java/lang/Throwable" "suppressedExceptions" "Ljava/util/List;" ∈ zt := zin_5 (List.mem_of_getElem? (i := 82) (by decide +kernel)) rfl
theorem k892 : Cond.lays "java/lang/Throwable" "java/lang/Throwable" "suppressedExceptions" "Ljava/util/List;" ∈ zt := zin_5 (List.mem_of_getElem? (i := 83) (by decide +kernel)) rfl
theorem k893 : Cond.lays "java/util/NoSuchElementException" "java/lang/Throwable" "detailMessage" "Ljava/lang/String;" ∈ zt := zin_5 (List.mem_of_getElem? (i := 84) (by decide +kernel)) rfl
theorem k894 : Cond.lays "java/lang/Throwable" "java/lang/Throwable" "detailMessage" "Ljava/lang/String;" ∈ zt := zin_5 (List.mem_of_getElem? (i := 85) (by decide +kernel)) rfl
theorem k895 : Cond.lays "java/util/NoSuchElementException" "java/lang/Throwable" "backtrace" "Ljava/lang/Object;" ∈ zt := zin_5 (List.mem_of_getElem? (i := 86) (by decide +kernel)) rfl
theorem k896 : Cond.lays "java/lang/Throwable" "java/lang/Throwable" "backtrace" "Ljava/lang/Object;" ∈ zt := zin_5 (List.mem_of_getElem? (i := 87) (by decide +kernel)) rfl
theorem k897 : Cond.fieldLink "java/lang/Throwable" (198 : Nat) "java/lang/Throwable" "backtrace" "Ljava/lang/Object;" ∈ zt := zin_5 (List.mem_of_getElem? (i := 88) (by decide +kernel)) rfl
theorem k898 : Cond.instanceMethod (⟨"java/lang/Throwable", "<init>", "()V"⟩ : MethodName) ∈ zt := zin_5 (List.mem_of_getElem? (i := 90) (by decide +kernel)) rfl
theorem k899 : Cond.code (⟨"java/lang/Throwable", "<init>", "()V"⟩ : MethodName) prog_21_method_1_code (1 : Nat) (Option.none : Option FieldType) ∈ zt := zin_5 (List.mem_of_getElem? (i := 91) (by decide +kernel)) rfl
theorem k900 : Cond.methodLink "java/lang/Throwable" (1 : Nat) (⟨"java/lang/Object", "<init>", "()V"⟩ : MethodName) ∈ zt := zin_5 (List.mem_of_getElem? (i := 92) (by decide +kernel)) rfl
theorem k901 : Cond.fieldLink "java/lang/Throwable" (13 : Nat) "java/lang/Throwable" "UNASSIGNED_STACK" "[Ljava/lang/StackTraceElement;" ∈ zt := zin_5 (List.mem_of_getElem? (i := 93) (by decide +kernel)) rfl
theorem k902 : Cond.fieldLink "java/lang/Throwable" (20 : Nat) "java/lang/Throwable" "SUPPRESSED_SENTINEL" "Ljava/util/List;" ∈ zt := zin_5 (List.mem_of_getElem? (i := 95) (by decide +kernel)) rfl
theorem k903 : Cond.methodLink "java/lang/Throwable" (27 : Nat) (⟨"java/lang/Throwable", "fillInStackTrace", "()Ljava/lang/Throwable;"⟩ : MethodName) ∈ zt := zin_5 (List.mem_of_getElem? (i := 97) (by decide +kernel)) rfl
theorem k904 : Cond.instanceMethod (⟨"java/lang/Throwable", "fillInStackTrace", "()Ljava/lang/Throwable;"⟩ : MethodName) ∈ zt := zin_5 (List.mem_of_getElem? (i := 98) (by decide +kernel)) rfl
theorem k905 : Cond.methodLink "java/lang/Throwable" (202 : Nat) (⟨"java/lang/Throwable", "fillInStackTrace", "(I)Ljava/lang/Throwable;"⟩ : MethodName) ∈ zt := zin_5 (List.mem_of_getElem? (i := 101) (by decide +kernel)) rfl
theorem k906 : Cond.instanceMethod (⟨"java/lang/Throwable", "fillInStackTrace", "(I)Ljava/lang/Throwable;"⟩ : MethodName) ∈ zt := zin_5 (List.mem_of_getElem? (i := 103) (by decide +kernel)) rfl
theorem k907 : Cond.instantiable "java/lang/Throwable" (6 : Nat) ∈ zt := zin_5 (List.mem_of_getElem? (i := 104) (by decide +kernel)) rfl
theorem k908 : Cond.native (⟨"java/lang/Throwable", "fillInStackTrace", "(I)Ljava/lang/Throwable;"⟩ : MethodName) ∈ zt := zin_5 (List.mem_of_getElem? (i := 105) (by decide +kernel)) rfl
theorem k909 : Cond.methodLink "TapeRings" (158 : Nat) (⟨"java/util/NoSuchElementException", "<init>", "()V"⟩ : MethodName) ∈ zt := zin_5 (List.mem_of_getElem? (i := 106) (by decide +kernel)) rfl
theorem k910 : Cond.instanceMethod (⟨"java/util/NoSuchElementException", "<init>", "()V"⟩ : MethodName) ∈ zt := zin_5 (List.mem_of_getElem? (i := 107) (by decide +kernel)) rfl
theorem k911 : Cond.code (⟨"java/util/NoSuchElementException", "<init>", "()V"⟩ : MethodName) prog_23_method_1_code (1 : Nat) (Option.none : Option FieldType) ∈ zt := zin_5 (List.mem_of_getElem? (i := 108) (by decide +kernel)) rfl
theorem k912 : Cond.methodLink "java/util/NoSuchElementException" (1 : Nat) (⟨"java/lang/RuntimeException", "<init>", "()V"⟩ : MethodName) ∈ zt := zin_5 (List.mem_of_getElem? (i := 109) (by decide +kernel)) rfl
theorem k913 : Cond.instanceMethod (⟨"java/lang/RuntimeException", "<init>", "()V"⟩ : MethodName) ∈ zt := zin_5 (List.mem_of_getElem? (i := 110) (by decide +kernel)) rfl
theorem k914 : Cond.code (⟨"java/lang/RuntimeException", "<init>", "()V"⟩ : MethodName) prog_19_method_1_code (1 : Nat) (Option.none : Option FieldType) ∈ zt := zin_5 (List.mem_of_getElem? (i := 111) (by decide +kernel)) rfl
theorem k915 : Cond.methodLink "java/lang/RuntimeException" (1 : Nat) (⟨"java/lang/Exception", "<init>", "()V"⟩ : MethodName) ∈ zt := zin_5 (List.mem_of_getElem? (i := 112) (by decide +kernel)) rfl
theorem k916 : Cond.instanceMethod (⟨"java/lang/Exception", "<init>", "()V"⟩ : MethodName) ∈ zt := zin_5 (List.mem_of_getElem? (i := 113) (by decide +kernel)) rfl
theorem k917 : Cond.code (⟨"java/lang/Exception", "<init>", "()V"⟩ : MethodName) prog_16_method_1_code (1 : Nat) (Option.none : Option FieldType) ∈ zt := zin_5 (List.mem_of_getElem? (i := 114) (by decide +kernel)) rfl
theorem k918 : Cond.methodLink "java/lang/Exception" (1 : Nat) (⟨"java/lang/Throwable", "<init>", "()V"⟩ : MethodName) ∈ zt := zin_5 (List.mem_of_getElem? (i := 115) (by decide +kernel)) rfl
theorem k919 : Cond.fieldLink "java/lang/Throwable" (7 : Nat) "java/lang/Throwable" "cause" "Ljava/lang/Throwable;" ∈ zt := zin_5 (List.mem_of_getElem? (i := 117) (by decide +kernel)) rfl
theorem k920 : Cond.fieldLink "java/lang/Throwable" (17 : Nat) "java/lang/Throwable" "stackTrace" "[Ljava/lang/StackTraceElement;" ∈ zt := zin_5 (List.mem_of_getElem? (i := 118) (by decide +kernel)) rfl
theorem k921 : Cond.fieldLink "java/lang/Throwable" (24 : Nat) "java/lang/Throwable" "suppressedExceptions" "Ljava/util/List;" ∈ zt := zin_5 (List.mem_of_getElem? (i := 119) (by decide +kernel)) rfl
theorem k922 : Cond.lays "java/util/NoSuchElementException" "java/lang/Throwable" "depth" "I" ∈ zt := zin_5 (List.mem_of_getElem? (i := 124) (by decide +kernel)) rfl
theorem k923 : Cond.methodLink "TapeRings" (162 : Nat) yX9_roundOf ∈ zt := zin_5 (List.mem_of_getElem? (i := 128) (by decide +kernel)) rfl
theorem k924 : Cond.methodLink "TapeRingsLaw" (89 : Nat) yL_way ∈ zt := zin_5 (List.mem_of_getElem? (i := 129) (by decide +kernel)) rfl
theorem k925 : Cond.static yL_way ∈ zt := zin_5 (List.mem_of_getElem? (i := 130) (by decide +kernel)) rfl
theorem k926 : Cond.methodLink "TapeRingsLaw" (15 : Nat) yX11_way ∈ zt := zin_5 (List.mem_of_getElem? (i := 132) (by decide +kernel)) rfl
theorem k927 : Cond.instanceMethod yX11_way ∈ zt := zin_5 (List.mem_of_getElem? (i := 133) (by decide +kernel)) rfl
theorem k928 : Cond.selects "TapeRings" yX11_way yX11_way ∈ zt := zin_5 (List.mem_of_getElem? (i := 134) (by decide +kernel)) rfl
theorem k929 : Cond.code yX11_way prog_1_method_15_code (3 : Nat) (Option.some FieldType.long) ∈ zt := zin_5 (List.mem_of_getElem? (i := 135) (by decide +kernel)) rfl
theorem k930 : Cond.constant "TapeRings" (169 : Nat) (1000000000 : Int32) ∈ zt := zin_5 (List.mem_of_getElem? (i := 136) (by decide +kernel)) rfl
theorem k931 : Cond.methodLink "TapeRings" (170 : Nat) yX2_wayTo ∈ zt := zin_5 (List.mem_of_getElem? (i := 137) (by decide +kernel)) rfl
theorem k932 : Cond.methodLink "TapeRingsLaw" (215 : Nat) yL_row ∈ zt := zin_5 (List.mem_of_getElem? (i := 138) (by decide +kernel)) rfl
theorem k933 : Cond.static yL_row ∈ zt := zin_5 (List.mem_of_getElem? (i := 139) (by decide +kernel)) rfl
theorem k934 : Cond.methodLink "TapeRingsLaw" (19 : Nat) yX11_row ∈ zt := zin_5 (List.mem_of_getElem? (i := 141) (by decide +kernel)) rfl
theorem k935 : Cond.instanceMethod yX11_row ∈ zt := zin_5 (List.mem_of_getElem? (i := 142) (by decide +kernel)) rfl
theorem k936 : Cond.selects "TapeRings" yX11_row yX11_row ∈ zt := zin_5 (List.mem_of_getElem? (i := 143) (by decide +kernel)) rfl
theorem k937 : Cond.code yX11_row prog_1_method_45_code (2 : Nat) (Option.some FieldType.int) ∈ zt := zin_5 (List.mem_of_getElem? (i := 144) (by decide +kernel)) rfl
theorem k938 : Cond.classLink "TapeRingsLaw" (24 : Nat) "TapeRingsModel" ∈ zt := zin_5 (List.mem_of_getElem? (i := 145) (by decide +kernel)) rfl
theorem k939 : Cond.instantiable "TapeRingsModel" (50 : Nat) ∈ zt := zin_5 (List.mem_of_getElem? (i := 146) (by decide +kernel)) rfl
theorem k940 : Cond.methodLink "TapeRingsLaw" (26 : Nat) yX12_init ∈ zt := zin_5 (List.mem_of_getElem? (i := 147) (by decide +kernel)) rfl
theorem k941 : Cond.instanceMethod yX12_init ∈ zt := zin_5 (List.mem_of_getElem? (i := 148) (by decide +kernel)) rfl
theorem k942 : Cond.code yX12_init prog_14_method_1_code (2 : Nat) (Option.none : Option FieldType) ∈ zt := zin_5 (List.mem_of_getElem? (i := 149) (by decide +kernel)) rfl
theorem k943 : Cond.methodLink "TapeRingsModel" (1 : Nat) (⟨"java/lang/Object", "<init>", "()V"⟩ : MethodName) ∈ zt := zin_5 (List.mem_of_getElem? (i := 150) (by decide +kernel)) rfl
theorem k944 : Cond.fieldLink "TapeRingsModel" (9 : Nat) "TapeRingsModel" "text" "[B" ∈ zt := zin_5 (List.mem_of_getElem? (i := 151) (by decide +kernel)) rfl
theorem k945 : Cond.fieldLink "TapeRingsModel" (128 : Nat) "TapeRingsModel" "size" "I" ∈ zt := zin_5 (List.mem_of_getElem? (i := 152) (by decide +kernel)) rfl
theorem k946 : Cond.fieldLink "TapeRingsModel" (13 : Nat) "TapeRingsModel" "hand" "[I" ∈ zt := zin_5 (List.mem_of_getElem? (i := 153) (by decide +kernel)) rfl
theorem k947 : Cond.fieldLink "TapeRingsModel" (162 : Nat) "TapeRingsModel" "handMany" "I" ∈ zt := zin_5 (List.mem_of_getElem? (i := 154) (by decide +kernel)) rfl
theorem k948 : Cond.fieldLink "TapeRingsModel" (17 : Nat) "TapeRingsModel" "inches" "[I" ∈ zt := zin_5 (List.mem_of_getElem? (i := 155) (by decide +kernel)) rfl
theorem k949 : Cond.fieldLink "TapeRingsModel" (20 : Nat) "TapeRingsModel" "length" "[I" ∈ zt := zin_5 (List.mem_of_getElem? (i := 156) (by decide +kernel)) rfl
theorem k950 : Cond.fieldLink "TapeRingsModel" (23 : Nat) "TapeRingsModel" "motorOf" "[I" ∈ zt := zin_5 (List.mem_of_getElem? (i := 157) (by decide +kernel)) rfl
theorem k951 : Cond.fieldLink "TapeRingsModel" (26 : Nat) "TapeRingsModel" "start" "[I" ∈ zt := zin_5 (List.mem_of_getElem? (i := 158) (by decide +kernel)) rfl
theorem k952 : Cond.fieldLink "TapeRingsModel" (29 : Nat) "TapeRingsModel" "heads" "[I" ∈ zt := zin_5 (List.mem_of_getElem? (i := 159) (by decide +kernel)) rfl
theorem k953 : Cond.fieldLink "TapeRingsModel" (32 : Nat) "TapeRingsModel" "wish" "[I" ∈ zt := zin_5 (List.mem_of_getElem? (i := 160) (by decide +kernel)) rfl
theorem k954 : Cond.fieldLink "TapeRingsModel" (121 : Nat) "TapeRingsModel" "rings" "I" ∈ zt := zin_5 (List.mem_of_getElem? (i := 161) (by decide +kernel)) rfl
theorem k955 : Cond.fieldLink "TapeRingsModel" (35 : Nat) "TapeRingsModel" "ticks" "[I" ∈ zt := zin_5 (List.mem_of_getElem? (i := 162) (by decide +kernel)) rfl
theorem k956 : Cond.fieldLink "TapeRingsModel" (38 : Nat) "TapeRingsModel" "speeds" "[I" ∈ zt := zin_5 (List.mem_of_getElem? (i := 163) (by decide +kernel)) rfl
theorem k957 : Cond.fieldLink "TapeRingsModel" (41 : Nat) "TapeRingsModel" "toldMany" "[I" ∈ zt := zin_5 (List.mem_of_getElem? (i := 164) (by decide +kernel)) rfl
theorem k958 : Cond.fieldLink "TapeRingsModel" (44 : Nat) "TapeRingsModel" "markTick" "[I" ∈ zt := zin_5 (List.mem_of_getElem? (i := 165) (by decide +kernel)) rfl
theorem k959 : Cond.fieldLink "TapeRingsModel" (47 : Nat) "TapeRingsModel" "markSound" "[I" ∈ zt := zin_5 (List.mem_of_getElem? (i := 166) (by decide +kernel)) rfl
theorem k960 : Cond.fieldLink "TapeRingsModel" (176 : Nat) "TapeRingsModel" "marks" "I" ∈ zt := zin_5 (List.mem_of_getElem? (i := 167) (by decide +kernel)) rfl
theorem k961 : Cond.fieldLink "TapeRingsModel" (50 : Nat) "TapeRingsModel" "weights" "[I" ∈ zt := zin_5 (List.mem_of_getElem? (i := 168) (by decide +kernel)) rfl
theorem k962 : Cond.fieldLink "TapeRingsModel" (53 : Nat) "TapeRingsModel" "d" "I" ∈ zt := zin_5 (List.mem_of_getElem? (i := 169) (by decide +kernel)) rfl
theorem k963 : Cond.fieldLink "TapeRingsModel" (277 : Nat) "TapeRingsModel" "a" "I" ∈ zt := zin_5 (List.mem_of_getElem? (i := 170) (by decide +kernel)) rfl
theorem k964 : Cond.fieldLink "TapeRingsModel" (57 : Nat) "TapeRingsModel" "e" "I" ∈ zt := zin_5 (List.mem_of_getElem? (i := 171) (by decide +kernel)) rfl
theorem k965 : Cond.fieldLink "TapeRingsModel" (280 : Nat) "TapeRingsModel" "b" "I" ∈ zt := zin_5 (List.mem_of_getElem? (i := 172) (by decide +kernel)) rfl
theorem k966 : Cond.fieldLink "TapeRingsModel" (283 : Nat) "TapeRingsModel" "stop" "I" ∈ zt := zin_5 (List.mem_of_getElem? (i := 173) (by decide +kernel)) rfl
theorem k967 : Cond.fieldLink "TapeRingsModel" (60 : Nat) "TapeRingsModel" "tape" "[I" ∈ zt := zin_5 (List.mem_of_getElem? (i := 174) (by decide +kernel)) rfl
theorem k968 : Cond.fieldLink "TapeRingsModel" (179 : Nat) "TapeRingsModel" "taped" "I" ∈ zt := zin_5 (List.mem_of_getElem? (i := 175) (by decide +kernel)) rfl
theorem k969 : Cond.fieldLink "TapeRingsModel" (63 : Nat) "TapeRingsModel" "pieces" "[I" ∈ zt := zin_5 (List.mem_of_getElem? (i := 176) (by decide +kernel)) rfl
theorem k970 : Cond.fieldLink "TapeRingsModel" (66 : Nat) "TapeRingsModel" "pieceSize" "[I" ∈ zt := zin_5 (List.mem_of_getElem? (i := 177) (by decide +kernel)) rfl
theorem k971 : Cond.fieldLink "TapeRingsModel" (182 : Nat) "TapeRingsModel" "pieceMany" "I" ∈ zt := zin_5 (List.mem_of_getElem? (i := 178) (by decide +kernel)) rfl
theorem k972 : Cond.fieldLink "TapeRingsModel" (69 : Nat) "TapeRingsModel" "versions" "[I" ∈ zt := zin_5 (List.mem_of_getElem? (i := 179) (by decide +kernel)) rfl
theorem k973 : Cond.fieldLink "TapeRingsModel" (72 : Nat) "TapeRingsModel" "versionSize" "[I" ∈ zt := zin_5 (List.mem_of_getElem? (i := 180) (by decide +kernel)) rfl
theorem k974 : Cond.fieldLink "TapeRingsModel" (75 : Nat) "TapeRingsModel" "versionRing" "[I" ∈ zt := zin_5 (List.mem_of_getElem? (i := 181) (by decide +kernel)) rfl
theorem k975 : Cond.fieldLink "TapeRingsModel" (78 : Nat) "TapeRingsModel" "versionDay" "[I" ∈ zt := zin_5 (List.mem_of_getElem? (i := 182) (by decide +kernel)) rfl
theorem k976 : Cond.fieldLink "TapeRingsModel" (185 : Nat) "TapeRingsModel" "versionMany" "I" ∈ zt := zin_5 (List.mem_of_getElem? (i := 183) (by decide +kernel)) rfl
theorem k977 : Cond.fieldLink "TapeRingsModel" (81 : Nat) "TapeRingsModel" "row" "[I" ∈ zt := zin_5 (List.mem_of_getElem? (i := 184) (by decide +kernel)) rfl
theorem k978 : Cond.fieldLink "TapeRingsModel" (188 : Nat) "TapeRingsModel" "rowMany" "I" ∈ zt := zin_5 (List.mem_of_getElem? (i := 185) (by decide +kernel)) rfl
theorem k979 : Cond.fieldLink "TapeRingsModel" (118 : Nat) "TapeRingsModel" "thrown" "I" ∈ zt := zin_5 (List.mem_of_getElem? (i := 186) (by decide +kernel)) rfl
theorem k980 : Cond.fieldLink "TapeRingsModel" (131 : Nat) "TapeRingsModel" "place" "I" ∈ zt := zin_5 (List.mem_of_getElem? (i := 187) (by decide +kernel)) rfl
theorem k981 : Cond.fieldLink "TapeRingsModel" (134 : Nat) "TapeRingsModel" "wrong" "I" ∈ zt := zin_5 (List.mem_of_getElem? (i := 188) (by decide +kernel)) rfl
theorem k982 : Cond.fieldLink "TapeRingsModel" (84 : Nat) "TapeRingsModel" "rowInches" "[I" ∈ zt := zin_5 (List.mem_of_getElem? (i := 189) (by decide +kernel)) rfl
theorem k983 : Cond.fieldLink "TapeRingsModel" (87 : Nat) "TapeRingsModel" "rowSize" "[I" ∈ zt := zin_5 (List.mem_of_getElem? (i := 190) (by decide +kernel)) rfl
theorem k984 : Cond.fieldLink "TapeRingsModel" (90 : Nat) "TapeRingsModel" "termInches" "[I" ∈ zt := zin_5 (List.mem_of_getElem? (i := 191) (by decide +kernel)) rfl
theorem k985 : Cond.fieldLink "TapeRingsModel" (93 : Nat) "TapeRingsModel" "termSize" "[I" ∈ zt := zin_5 (List.mem_of_getElem? (i := 192) (by decide +kernel)) rfl
theorem k986 : Cond.fieldLink "TapeRingsModel" (96 : Nat) "TapeRingsModel" "isHeard" "[Z" ∈ zt := zin_5 (List.mem_of_getElem? (i := 193) (by decide +kernel)) rfl
theorem k987 : Cond.fieldLink "TapeRingsModel" (100 : Nat) "TapeRingsModel" "rest" "[I" ∈ zt := zin_5 (List.mem_of_getElem? (i := 194) (by decide +kernel)) rfl
theorem k988 : Cond.fieldLink "TapeRingsModel" (103 : Nat) "TapeRingsModel" "trues" "[I" ∈ zt := zin_5 (List.mem_of_getElem? (i := 195) (by decide +kernel)) rfl
theorem k989 : Cond.fieldLink "TapeRingsModel" (106 : Nat) "TapeRingsModel" "outs" "[I" ∈ zt := zin_5 (List.mem_of_getElem? (i := 196) (by decide +kernel)) rfl
theorem k990 : Cond.fieldLink "TapeRingsModel" (109 : Nat) "TapeRingsModel" "joined" "[I" ∈ zt := zin_5 (List.mem_of_getElem? (i := 197) (by decide +kernel)) rfl
theorem k991 : Cond.fieldLink "TapeRingsModel" (112 : Nat) "TapeRingsModel" "best" "[I" ∈ zt := zin_5 (List.mem_of_getElem? (i := 198) (by decide +kernel)) rfl
theorem k992 : Cond.fieldLink "TapeRingsModel" (305 : Nat) "TapeRingsModel" "bestSize" "I" ∈ zt := zin_5 (List.mem_of_getElem? (i := 199) (by decide +kernel)) rfl
theorem k993 : Cond.fieldLink "TapeRingsModel" (115 : Nat) "TapeRingsModel" "edit" "[I" ∈ zt := zin_5 (List.mem_of_getElem? (i := 200) (by decide +kernel)) rfl
theorem k994 : Cond.laysFinal "TapeRingsModel" "TapeRingsModel" "text" "[B" ∈ zt := zin_5 (List.mem_of_getElem? (i := 201) (by decide +kernel)) rfl
theorem k995 : Cond.lays "TapeRingsModel" "TapeRingsModel" "size" "I" ∈ zt := zin_5 (List.mem_of_getElem? (i := 203) (by decide +kernel)) rfl
theorem k996 : Cond.laysFinal "TapeRingsModel" "TapeRingsModel" "hand" "[I" ∈ zt := zin_5 (List.mem_of_getElem? (i := 205) (by decide +kernel)) rfl
theorem k997 : Cond.lays "TapeRingsModel" "TapeRingsModel" "handMany" "I" ∈ zt := zin_5 (List.mem_of_getElem? (i := 207) (by decide +kernel)) rfl
theorem k998 : Cond.laysFinal "TapeRingsModel" "TapeRingsModel" "inches" "[I" ∈ zt := zin_5 (List.mem_of_getElem? (i := 209) (by decide +kernel)) rfl
theorem k999 : Cond.laysFinal "TapeRingsModel" "TapeRingsModel" "length" "[I" ∈ zt := zin_5 (List.mem_of_getElem? (i := 211) (by decide +kernel)) rfl
theorem k1000 : Cond.laysFinal "TapeRingsModel" "TapeRingsModel" "motorOf" "[I" ∈ zt := zin_5 (List.mem_of_getElem? (i := 213) (by decide +kernel)) rfl
theorem k1001 : Cond.laysFinal "TapeRingsModel" "TapeRingsModel" "start" "[I" ∈ zt := zin_5 (List.mem_of_getElem? (i := 215) (by decide +kernel)) rfl
theorem k1002 : Cond.laysFinal "TapeRingsModel" "TapeRingsModel" "heads" "[I" ∈ zt := zin_5 (List.mem_of_getElem? (i := 217) (by decide +kernel)) rfl
theorem k1003 : Cond.laysFinal "TapeRingsModel" "TapeRingsModel" "wish" "[I" ∈ zt := zin_5 (List.mem_of_getElem? (i := 219) (by decide +kernel)) rfl
theorem k1004 : Cond.lays "TapeRingsModel" "TapeRingsModel" "rings" "I" ∈ zt := zin_5 (List.mem_of_getElem? (i := 221) (by decide +kernel)) rfl
theorem k1005 : Cond.laysFinal "TapeRingsModel" "TapeRingsModel" "ticks" "[I" ∈ zt := zin_5 (List.mem_of_getElem? (i := 223) (by decide +kernel)) rfl
theorem k1006 : Cond.laysFinal "TapeRingsModel" "TapeRingsModel" "speeds" "[I" ∈ zt := zin_5 (List.mem_of_getElem? (i := 225) (by decide +kernel)) rfl
theorem k1007 : Cond.laysFinal "TapeRingsModel" "TapeRingsModel" "toldMany" "[I" ∈ zt := zin_5 (List.mem_of_getElem? (i := 227) (by decide +kernel)) rfl
theorem k1008 : Cond.laysFinal "TapeRingsModel" "TapeRingsModel" "markTick" "[I" ∈ zt := zin_5 (List.mem_of_getElem? (i := 229) (by decide +kernel)) rfl
theorem k1009 : Cond.laysFinal "TapeRingsModel" "TapeRingsModel" "markSound" "[I" ∈ zt := zin_5 (List.mem_of_getElem? (i := 231) (by decide +kernel)) rfl
theorem k1010 : Cond.lays "TapeRingsModel" "TapeRingsModel" "marks" "I" ∈ zt := zin_5 (List.mem_of_getElem? (i := 233) (by decide +kernel)) rfl
theorem k1011 : Cond.laysFinal "TapeRingsModel" "TapeRingsModel" "weights" "[I" ∈ zt := zin_5 (List.mem_of_getElem? (i := 235) (by decide +kernel)) rfl
theorem k1012 : Cond.lays "TapeRingsModel" "TapeRingsModel" "d" "I" ∈ zt := zin_5 (List.mem_of_getElem? (i := 237) (by decide +kernel)) rfl
theorem k1013 : Cond.lays "TapeRingsModel" "TapeRingsModel" "a" "I" ∈ zt := zin_5 (List.mem_of_getElem? (i := 239) (by decide +kernel)) rfl
theorem k1014 : Cond.lays "TapeRingsModel" "TapeRingsModel" "e" "I" ∈ zt := zin_6 (List.mem_of_getElem? (i := 1) (by decide +kernel)) rfl
theorem k1015 : Cond.lays "TapeRingsModel" "TapeRingsModel" "b" "I" ∈ zt := zin_6 (List.mem_of_getElem? (i := 3) (by decide +kernel)) rfl
theorem k1016 : Cond.lays "TapeRingsModel" "TapeRingsModel" "stop" "I" ∈ zt := zin_6 (List.mem_of_getElem? (i := 5) (by decide +kernel)) rfl
theorem k1017 : Cond.laysFinal "TapeRingsModel" "TapeRingsModel" "tape" "[I" ∈ zt := zin_6 (List.mem_of_getElem? (i := 7) (by decide +kernel)) rfl
theorem k1018 : Cond.lays "TapeRingsModel" "TapeRingsModel" "taped" "I" ∈ zt := zin_6 (List.mem_of_getElem? (i := 9) (by decide +kernel)) rfl
theorem k1019 : Cond.laysFinal "TapeRingsModel" "TapeRingsModel" "pieces" "[I" ∈ zt := zin_6 (List.mem_of_getElem? (i := 11) (by decide +kernel)) rfl
theorem k1020 : Cond.laysFinal "TapeRingsModel" "TapeRingsModel" "pieceSize" "[I" ∈ zt := zin_6 (List.mem_of_getElem? (i := 13) (by decide +kernel)) rfl
theorem k1021 : Cond.lays "TapeRingsModel" "TapeRingsModel" "pieceMany" "I" ∈ zt := zin_6 (List.mem_of_getElem? (i := 15) (by decide +kernel)) rfl
theorem k1022 : Cond.laysFinal "TapeRingsModel" "TapeRingsModel" "versions" "[I" ∈ zt := zin_6 (List.mem_of_getElem? (i := 17) (by decide +kernel)) rfl
theorem k1023 : Cond.laysFinal "TapeRingsModel" "TapeRingsModel" "versionSize" "[I" ∈ zt := zin_6 (List.mem_of_getElem? (i := 19) (by decide +kernel)) rfl
theorem k1024 : Cond.laysFinal "TapeRingsModel" "TapeRingsModel" "versionRing" "[I" ∈ zt := zin_6 (List.mem_of_getElem? (i := 21) (by decide +kernel)) rfl
theorem k1025 : Cond.laysFinal "TapeRingsModel" "TapeRingsModel" "versionDay" "[I" ∈ zt := zin_6 (List.mem_of_getElem? (i := 23) (by decide +kernel)) rfl
theorem k1026 : Cond.lays "TapeRingsModel" "TapeRingsModel" "versionMany" "I" ∈ zt := zin_6 (List.mem_of_getElem? (i := 25) (by decide +kernel)) rfl
theorem k1027 : Cond.laysFinal "TapeRingsModel" "TapeRingsModel" "row" "[I" ∈ zt := zin_6 (List.mem_of_getElem? (i := 27) (by decide +kernel)) rfl
theorem k1028 : Cond.lays "TapeRingsModel" "TapeRingsModel" "rowMany" "I" ∈ zt := zin_6 (List.mem_of_getElem? (i := 29) (by decide +kernel)) rfl
theorem k1029 : Cond.lays "TapeRingsModel" "TapeRingsModel" "thrown" "I" ∈ zt := zin_6 (List.mem_of_getElem? (i := 31) (by decide +kernel)) rfl
theorem k1030 : Cond.lays "TapeRingsModel" "TapeRingsModel" "place" "I" ∈ zt := zin_6 (List.mem_of_getElem? (i := 33) (by decide +kernel)) rfl
theorem k1031 : Cond.lays "TapeRingsModel" "TapeRingsModel" "wrong" "I" ∈ zt := zin_6 (List.mem_of_getElem? (i := 35) (by decide +kernel)) rfl
theorem k1032 : Cond.laysFinal "TapeRingsModel" "TapeRingsModel" "rowInches" "[I" ∈ zt := zin_6 (List.mem_of_getElem? (i := 37) (by decide +kernel)) rfl
theorem k1033 : Cond.laysFinal "TapeRingsModel" "TapeRingsModel" "rowSize" "[I" ∈ zt := zin_6 (List.mem_of_getElem? (i := 39) (by decide +kernel)) rfl
theorem k1034 : Cond.laysFinal "TapeRingsModel" "TapeRingsModel" "termInches" "[I" ∈ zt := zin_6 (List.mem_of_getElem? (i := 41) (by decide +kernel)) rfl
theorem k1035 : Cond.laysFinal "TapeRingsModel" "TapeRingsModel" "termSize" "[I" ∈ zt := zin_6 (List.mem_of_getElem? (i := 43) (by decide +kernel)) rfl
theorem k1036 : Cond.laysFinal "TapeRingsModel" "TapeRingsModel" "isHeard" "[Z" ∈ zt := zin_6 (List.mem_of_getElem? (i := 45) (by decide +kernel)) rfl
theorem k1037 : Cond.laysFinal "TapeRingsModel" "TapeRingsModel" "rest" "[I" ∈ zt := zin_6 (List.mem_of_getElem? (i := 47) (by decide +kernel)) rfl
theorem k1038 : Cond.laysFinal "TapeRingsModel" "TapeRingsModel" "trues" "[I" ∈ zt := zin_6 (List.mem_of_getElem? (i := 49) (by decide +kernel)) rfl
theorem k1039 : Cond.laysFinal "TapeRingsModel" "TapeRingsModel" "outs" "[I" ∈ zt := zin_6 (List.mem_of_getElem? (i := 51) (by decide +kernel)) rfl
theorem k1040 : Cond.laysFinal "TapeRingsModel" "TapeRingsModel" "joined" "[I" ∈ zt := zin_6 (List.mem_of_getElem? (i := 53) (by decide +kernel)) rfl
theorem k1041 : Cond.laysFinal "TapeRingsModel" "TapeRingsModel" "best" "[I" ∈ zt := zin_6 (List.mem_of_getElem? (i := 55) (by decide +kernel)) rfl
theorem k1042 : Cond.lays "TapeRingsModel" "TapeRingsModel" "bestSize" "I" ∈ zt := zin_6 (List.mem_of_getElem? (i := 57) (by decide +kernel)) rfl
theorem k1043 : Cond.laysFinal "TapeRingsModel" "TapeRingsModel" "edit" "[I" ∈ zt := zin_6 (List.mem_of_getElem? (i := 59) (by decide +kernel)) rfl
theorem k1044 : Cond.arrayClass FieldType.byte ∈ zt := zin_6 (List.mem_of_getElem? (i := 62) (by decide +kernel)) rfl
theorem k1045 : Cond.arrayClass FieldType.boolean ∈ zt := zin_6 (List.mem_of_getElem? (i := 63) (by decide +kernel)) rfl
theorem k1046 : Cond.methodLink "TapeRingsLaw" (82 : Nat) yX12_thrown ∈ zt := zin_6 (List.mem_of_getElem? (i := 64) (by decide +kernel)) rfl
theorem k1047 : Cond.instanceMethod yX12_thrown ∈ zt := zin_6 (List.mem_of_getElem? (i := 65) (by decide +kernel)) rfl
theorem k1048 : Cond.selects "TapeRingsModel" yX12_thrown yX12_thrown ∈ zt := zin_6 (List.mem_of_getElem? (i := 66) (by decide +kernel)) rfl
theorem k1049 : Cond.code yX12_thrown prog_14_method_2_code (1 : Nat) (Option.some FieldType.int) ∈ zt := zin_6 (List.mem_of_getElem? (i := 67) (by decide +kernel)) rfl
theorem k1050 : Cond.methodLink "TapeRingsLaw" (30 : Nat) yX12_sign ∈ zt := zin_6 (List.mem_of_getElem? (i := 68) (by decide +kernel)) rfl
theorem k1051 : Cond.instanceMethod yX12_sign ∈ zt := zin_6 (List.mem_of_getElem? (i := 69) (by decide +kernel)) rfl
theorem k1052 : Cond.selects "TapeRingsModel" yX12_sign yX12_sign ∈ zt := zin_6 (List.mem_of_getElem? (i := 70) (by decide +kernel)) rfl
theorem k1053 : Cond.code yX12_sign prog_14_method_7_code (2 : Nat) (Option.some FieldType.int) ∈ zt := zin_6 (List.mem_of_getElem? (i := 71) (by decide +kernel)) rfl
theorem k1054 : Cond.methodLink "TapeRingsLaw" (35 : Nat) yX12_end ∈ zt := zin_6 (List.mem_of_getElem? (i := 72) (by decide +kernel)) rfl
theorem k1055 : Cond.instanceMethod yX12_end ∈ zt := zin_6 (List.mem_of_getElem? (i := 73) (by decide +kernel)) rfl
theorem k1056 : Cond.selects "TapeRingsModel" yX12_end yX12_end ∈ zt := zin_6 (List.mem_of_getElem? (i := 74) (by decide +kernel)) rfl
theorem k1057 : Cond.code yX12_end prog_14_method_8_code (2 : Nat) (Option.some FieldType.boolean) ∈ zt := zin_6 (List.mem_of_getElem? (i := 75) (by decide +kernel)) rfl
theorem k1058 : Cond.methodLink "TapeRingsLaw" (40 : Nat) yX12_splice ∈ zt := zin_6 (List.mem_of_getElem? (i := 76) (by decide +kernel)) rfl
theorem k1059 : Cond.instanceMethod yX12_splice ∈ zt := zin_6 (List.mem_of_getElem? (i := 77) (by decide +kernel)) rfl
theorem k1060 : Cond.selects "TapeRingsModel" yX12_splice yX12_splice ∈ zt := zin_6 (List.mem_of_getElem? (i := 78) (by decide +kernel)) rfl
theorem k1061 : Cond.code yX12_splice prog_14_method_16_code (4 : Nat) (Option.some FieldType.int) ∈ zt := zin_6 (List.mem_of_getElem? (i := 79) (by decide +kernel)) rfl
theorem k1062 : Cond.methodLink "TapeRingsModel" (152 : Nat) yX12_skipRow ∈ zt := zin_6 (List.mem_of_getElem? (i := 80) (by decide +kernel)) rfl
theorem k1063 : Cond.instanceMethod yX12_skipRow ∈ zt := zin_6 (List.mem_of_getElem? (i := 82) (by decide +kernel)) rfl
theorem k1064 : Cond.code yX12_skipRow prog_14_method_11_code (2 : Nat) (Option.some FieldType.boolean) ∈ zt := zin_6 (List.mem_of_getElem? (i := 83) (by decide +kernel)) rfl
theorem k1065 : Cond.methodLink "TapeRingsModel" (137 : Nat) yX12_skipTerm ∈ zt := zin_6 (List.mem_of_getElem? (i := 84) (by decide +kernel)) rfl
theorem k1066 : Cond.instanceMethod yX12_skipTerm ∈ zt := zin_6 (List.mem_of_getElem? (i := 86) (by decide +kernel)) rfl
theorem k1067 : Cond.code yX12_skipTerm prog_14_method_12_code (2 : Nat) (Option.some FieldType.boolean) ∈ zt := zin_6 (List.mem_of_getElem? (i := 87) (by decide +kernel)) rfl
theorem k1068 : Cond.methodLink "TapeRingsModel" (149 : Nat) yX12_skipAtom ∈ zt := zin_6 (List.mem_of_getElem? (i := 88) (by decide +kernel)) rfl
theorem k1069 : Cond.instanceMethod yX12_skipAtom ∈ zt := zin_6 (List.mem_of_getElem? (i := 90) (by decide +kernel)) rfl
theorem k1070 : Cond.code yX12_skipAtom prog_14_method_13_code (2 : Nat) (Option.some FieldType.boolean) ∈ zt := zin_6 (List.mem_of_getElem? (i := 91) (by decide +kernel)) rfl
theorem k1071 : Cond.methodLink "TapeRingsModel" (141 : Nat) yX12_has ∈ zt := zin_6 (List.mem_of_getElem? (i := 92) (by decide +kernel)) rfl
theorem k1072 : Cond.instanceMethod yX12_has ∈ zt := zin_6 (List.mem_of_getElem? (i := 94) (by decide +kernel)) rfl
theorem k1073 : Cond.code yX12_has prog_14_method_9_code (3 : Nat) (Option.some FieldType.boolean) ∈ zt := zin_6 (List.mem_of_getElem? (i := 95) (by decide +kernel)) rfl
theorem k1074 : Cond.methodLink "TapeRingsModel" (145 : Nat) yX12_isWrong ∈ zt := zin_6 (List.mem_of_getElem? (i := 96) (by decide +kernel)) rfl
theorem k1075 : Cond.instanceMethod yX12_isWrong ∈ zt := zin_6 (List.mem_of_getElem? (i := 98) (by decide +kernel)) rfl
theorem k1076 : Cond.code yX12_isWrong prog_14_method_10_code (1 : Nat) (Option.some FieldType.boolean) ∈ zt := zin_6 (List.mem_of_getElem? (i := 99) (by decide +kernel)) rfl
theorem k1077 : Cond.methodLink "TapeRingsModel" (159 : Nat) yX12_makeRow ∈ zt := zin_6 (List.mem_of_getElem? (i := 100) (by decide +kernel)) rfl
theorem k1078 : Cond.instanceMethod yX12_makeRow ∈ zt := zin_6 (List.mem_of_getElem? (i := 102) (by decide +kernel)) rfl
theorem k1079 : Cond.code yX12_makeRow prog_14_method_14_code (7 : Nat) (Option.some FieldType.int) ∈ zt := zin_6 (List.mem_of_getElem? (i := 103) (by decide +kernel)) rfl
theorem k1080 : Cond.methodLink "TapeRingsModel" (155 : Nat) yX12_makeTerm ∈ zt := zin_6 (List.mem_of_getElem? (i := 104) (by decide +kernel)) rfl
theorem k1081 : Cond.instanceMethod yX12_makeTerm ∈ zt := zin_6 (List.mem_of_getElem? (i := 106) (by decide +kernel)) rfl
theorem k1082 : Cond.code yX12_makeTerm prog_14_method_15_code (6 : Nat) (Option.some FieldType.int) ∈ zt := zin_6 (List.mem_of_getElem? (i := 107) (by decide +kernel)) rfl
theorem k1083 : Cond.methodLink "TapeRingsLaw" (44 : Nat) yX12_hand ∈ zt := zin_6 (List.mem_of_getElem? (i := 108) (by decide +kernel)) rfl
theorem k1084 : Cond.instanceMethod yX12_hand ∈ zt := zin_6 (List.mem_of_getElem? (i := 109) (by decide +kernel)) rfl
theorem k1085 : Cond.selects "TapeRingsModel" yX12_hand yX12_hand ∈ zt := zin_6 (List.mem_of_getElem? (i := 110) (by decide +kernel)) rfl
theorem k1086 : Cond.code yX12_hand prog_14_method_17_code (2 : Nat) (Option.some FieldType.int) ∈ zt := zin_6 (List.mem_of_getElem? (i := 111) (by decide +kernel)) rfl
theorem k1087 : Cond.methodLink "TapeRingsModel" (124 : Nat) yX12_in ∈ zt := zin_6 (List.mem_of_getElem? (i := 112) (by decide +kernel)) rfl
theorem k1088 : Cond.static yX12_in ∈ zt := zin_6 (List.mem_of_getElem? (i := 113) (by decide +kernel)) rfl
theorem k1089 : Cond.code yX12_in prog_14_method_3_code (3 : Nat) (Option.some FieldType.boolean) ∈ zt := zin_6 (List.mem_of_getElem? (i := 114) (by decide +kernel)) rfl
theorem k1090 : Cond.methodLink "TapeRingsLaw" (48 : Nat) yX12_ring ∈ zt := zin_6 (List.mem_of_getElem? (i := 115) (by decide +kernel)) rfl
theorem k1091 : Cond.instanceMethod yX12_ring ∈ zt := zin_6 (List.mem_of_getElem? (i := 116) (by decide +kernel)) rfl
theorem k1092 : Cond.selects "TapeRingsModel" yX12_ring yX12_ring ∈ zt := zin_6 (List.mem_of_getElem? (i := 117) (by decide +kernel)) rfl
theorem k1093 : Cond.code yX12_ring prog_14_method_18_code (4 : Nat) (Option.some FieldType.int) ∈ zt := zin_6 (List.mem_of_getElem? (i := 118) (by decide +kernel)) rfl
theorem k1094 : Cond.methodLink "TapeRingsModel" (165 : Nat) yX12_isMotor ∈ zt := zin_6 (List.mem_of_getElem? (i := 119) (by decide +kernel)) rfl
theorem k1095 : Cond.static yX12_isMotor ∈ zt := zin_6 (List.mem_of_getElem? (i := 120) (by decide +kernel)) rfl
theorem k1096 : Cond.code yX12_isMotor prog_14_method_6_code (1 : Nat) (Option.some FieldType.boolean) ∈ zt := zin_6 (List.mem_of_getElem? (i := 121) (by decide +kernel)) rfl
theorem k1097 : Cond.methodLink "TapeRingsLaw" (53 : Nat) yX12_over ∈ zt := zin_6 (List.mem_of_getElem? (i := 122) (by decide +kernel)) rfl
theorem k1098 : Cond.instanceMethod yX12_over ∈ zt := zin_6 (List.mem_of_getElem? (i := 123) (by decide +kernel)) rfl
theorem k1099 : Cond.selects "TapeRingsModel" yX12_over yX12_over ∈ zt := zin_6 (List.mem_of_getElem? (i := 124) (by decide +kernel)) rfl
theorem k1100 : Cond.code yX12_over prog_14_method_19_code (8 : Nat) (Option.some FieldType.int) ∈ zt := zin_6 (List.mem_of_getElem? (i := 125) (by decide +kernel)) rfl
theorem k1101 : Cond.methodLink "TapeRingsModel" (168 : Nat) yX12_isRing ∈ zt := zin_6 (List.mem_of_getElem? (i := 126) (by decide +kernel)) rfl
theorem k1102 : Cond.instanceMethod yX12_isRing ∈ zt := zin_6 (List.mem_of_getElem? (i := 128) (by decide +kernel)) rfl
theorem k1103 : Cond.code yX12_isRing prog_14_method_5_code (2 : Nat) (Option.some FieldType.boolean) ∈ zt := zin_6 (List.mem_of_getElem? (i := 129) (by decide +kernel)) rfl
theorem k1104 : Cond.methodLink "TapeRingsLaw" (57 : Nat) yX12_set ∈ zt := zin_6 (List.mem_of_getElem? (i := 130) (by decide +kernel)) rfl
theorem k1105 : Cond.instanceMethod yX12_set ∈ zt := zin_6 (List.mem_of_getElem? (i := 131) (by decide +kernel)) rfl
theorem k1106 : Cond.selects "TapeRingsModel" yX12_set yX12_set ∈ zt := zin_6 (List.mem_of_getElem? (i := 132) (by decide +kernel)) rfl
theorem k1107 : Cond.code yX12_set prog_14_method_20_code (5 : Nat) (Option.some FieldType.int) ∈ zt := zin_6 (List.mem_of_getElem? (i := 133) (by decide +kernel)) rfl
theorem k1108 : Cond.methodLink "TapeRingsLaw" (62 : Nat) yX12_head ∈ zt := zin_6 (List.mem_of_getElem? (i := 134) (by decide +kernel)) rfl
theorem k1109 : Cond.instanceMethod yX12_head ∈ zt := zin_6 (List.mem_of_getElem? (i := 135) (by decide +kernel)) rfl
theorem k1110 : Cond.selects "TapeRingsModel" yX12_head yX12_head ∈ zt := zin_6 (List.mem_of_getElem? (i := 136) (by decide +kernel)) rfl
theorem k1111 : Cond.code yX12_head prog_14_method_21_code (5 : Nat) (Option.some FieldType.int) ∈ zt := zin_6 (List.mem_of_getElem? (i := 137) (by decide +kernel)) rfl
theorem k1112 : Cond.methodLink "TapeRingsModel" (171 : Nat) yJ6_bitCount_0f7a4 ∈ zt := zin_6 (List.mem_of_getElem? (i := 138) (by decide +kernel)) rfl
theorem k1113 : Cond.methodLink "TapeRingsLaw" (67 : Nat) yX12_motor ∈ zt := zin_6 (List.mem_of_getElem? (i := 139) (by decide +kernel)) rfl
theorem k1114 : Cond.instanceMethod yX12_motor ∈ zt := zin_6 (List.mem_of_getElem? (i := 140) (by decide +kernel)) rfl
theorem k1115 : Cond.selects "TapeRingsModel" yX12_motor yX12_motor ∈ zt := zin_6 (List.mem_of_getElem? (i := 141) (by decide +kernel)) rfl
theorem k1116 : Cond.code yX12_motor prog_14_method_22_code (7 : Nat) (Option.some FieldType.boolean) ∈ zt := zin_6 (List.mem_of_getElem? (i := 142) (by decide +kernel)) rfl
theorem k1117 : Cond.methodLink "TapeRingsLaw" (71 : Nat) yX12_clear ∈ zt := zin_6 (List.mem_of_getElem? (i := 143) (by decide +kernel)) rfl
theorem k1118 : Cond.instanceMethod yX12_clear ∈ zt := zin_6 (List.mem_of_getElem? (i := 144) (by decide +kernel)) rfl
theorem k1119 : Cond.selects "TapeRingsModel" yX12_clear yX12_clear ∈ zt := zin_6 (List.mem_of_getElem? (i := 145) (by decide +kernel)) rfl
theorem k1120 : Cond.code yX12_clear prog_14_method_23_code (3 : Nat) (Option.some FieldType.int) ∈ zt := zin_6 (List.mem_of_getElem? (i := 146) (by decide +kernel)) rfl
theorem k1121 : Cond.methodLink "TapeRingsLaw" (75 : Nat) yX12_count ∈ zt := zin_6 (List.mem_of_getElem? (i := 147) (by decide +kernel)) rfl
theorem k1122 : Cond.instanceMethod yX12_count ∈ zt := zin_6 (List.mem_of_getElem? (i := 148) (by decide +kernel)) rfl
theorem k1123 : Cond.selects "TapeRingsModel" yX12_count yX12_count ∈ zt := zin_6 (List.mem_of_getElem? (i := 149) (by decide +kernel)) rfl
theorem k1124 : Cond.code yX12_count prog_14_method_24_code (2 : Nat) (Option.some FieldType.int) ∈ zt := zin_6 (List.mem_of_getElem? (i := 150) (by decide +kernel)) rfl
theorem k1125 : Cond.methodLink "TapeRingsLaw" (81 : Nat) yX12_of ∈ zt := zin_6 (List.mem_of_getElem? (i := 151) (by decide +kernel)) rfl
theorem k1126 : Cond.instanceMethod yX12_of ∈ zt := zin_6 (List.mem_of_getElem? (i := 152) (by decide +kernel)) rfl
theorem k1127 : Cond.selects "TapeRingsModel" yX12_of yX12_of ∈ zt := zin_6 (List.mem_of_getElem? (i := 153) (by decide +kernel)) rfl
theorem k1128 : Cond.code yX12_of prog_14_method_29_code (3 : Nat) (Option.some FieldType.int) ∈ zt := zin_6 (List.mem_of_getElem? (i := 154) (by decide +kernel)) rfl
theorem k1129 : Cond.methodLink "TapeRingsModel" (203 : Nat) yX12_round ∈ zt := zin_6 (List.mem_of_getElem? (i := 155) (by decide +kernel)) rfl
theorem k1130 : Cond.instanceMethod yX12_round ∈ zt := zin_6 (List.mem_of_getElem? (i := 157) (by decide +kernel)) rfl
theorem k1131 : Cond.code yX12_round prog_14_method_28_code (2 : Nat) (Option.some FieldType.int) ∈ zt := zin_6 (List.mem_of_getElem? (i := 158) (by decide +kernel)) rfl
theorem k1132 : Cond.methodLink "TapeRingsModel" (195 : Nat) yX12_lastSpeed ∈ zt := zin_6 (List.mem_of_getElem? (i := 159) (by decide +kernel)) rfl
theorem k1133 : Cond.instanceMethod yX12_lastSpeed ∈ zt := zin_6 (List.mem_of_getElem? (i := 161) (by decide +kernel)) rfl
theorem k1134 : Cond.code yX12_lastSpeed prog_14_method_27_code (2 : Nat) (Option.some FieldType.int) ∈ zt := zin_6 (List.mem_of_getElem? (i := 162) (by decide +kernel)) rfl
theorem k1135 : Cond.methodLink "TapeRingsModel" (198 : Nat) yJ9_abs_0f7a4 ∈ zt := zin_6 (List.mem_of_getElem? (i := 163) (by decide +kernel)) rfl
theorem k1136 : Cond.methodLink "TapeRingsModel" (191 : Nat) yX12_common ∈ zt := zin_6 (List.mem_of_getElem? (i := 164) (by decide +kernel)) rfl
theorem k1137 : Cond.static yX12_common ∈ zt := zin_6 (List.mem_of_getElem? (i := 165) (by decide +kernel)) rfl
theorem k1138 : Cond.code yX12_common prog_14_method_25_code (2 : Nat) (Option.some FieldType.int) ∈ zt := zin_6 (List.mem_of_getElem? (i := 166) (by decide +kernel)) rfl
theorem k1139 : Cond.methodLink "TapeRingsLaw" (88 : Nat) yX12_inch ∈ zt := zin_6 (List.mem_of_getElem? (i := 167) (by decide +kernel)) rfl
theorem k1140 : Cond.instanceMethod yX12_inch ∈ zt := zin_6 (List.mem_of_getElem? (i := 168) (by decide +kernel)) rfl
theorem k1141 : Cond.selects "TapeRingsModel" yX12_inch yX12_inch ∈ zt := zin_6 (List.mem_of_getElem? (i := 169) (by decide +kernel)) rfl
theorem k1142 : Cond.code yX12_inch prog_14_method_30_code (3 : Nat) (Option.some FieldType.int) ∈ zt := zin_6 (List.mem_of_getElem? (i := 170) (by decide +kernel)) rfl
theorem k1143 : Cond.methodLink "TapeRingsLaw" (91 : Nat) yX12_way ∈ zt := zin_6 (List.mem_of_getElem? (i := 171) (by decide +kernel)) rfl
theorem k1144 : Cond.instanceMethod yX12_way ∈ zt := zin_6 (List.mem_of_getElem? (i := 172) (by decide +kernel)) rfl
theorem k1145 : Cond.selects "TapeRingsModel" yX12_way yX12_way ∈ zt := zin_6 (List.mem_of_getElem? (i := 173) (by decide +kernel)) rfl
theorem k1146 : Cond.code yX12_way prog_14_method_32_code (3 : Nat) (Option.some FieldType.long) ∈ zt := zin_6 (List.mem_of_getElem? (i := 174) (by decide +kernel)) rfl
theorem k1147 : Cond.constant "TapeRingsModel" (206 : Nat) (1000000000 : Int32) ∈ zt := zin_6 (List.mem_of_getElem? (i := 175) (by decide +kernel)) rfl
theorem k1148 : Cond.methodLink "TapeRingsModel" (207 : Nat) yX12_wayEarly ∈ zt := zin_6 (List.mem_of_getElem? (i := 176) (by decide +kernel)) rfl
theorem k1149 : Cond.instanceMethod yX12_wayEarly ∈ zt := zin_6 (List.mem_of_getElem? (i := 178) (by decide +kernel)) rfl
theorem k1150 : Cond.code yX12_wayEarly prog_14_method_31_code (10 : Nat) (Option.some FieldType.long) ∈ zt := zin_6 (List.mem_of_getElem? (i := 179) (by decide +kernel)) rfl
theorem k1151 : Cond.methodLink "TapeRingsLaw" (98 : Nat) yX12_heard ∈ zt := zin_6 (List.mem_of_getElem? (i := 180) (by decide +kernel)) rfl
theorem k1152 : Cond.instanceMethod yX12_heard ∈ zt := zin_6 (List.mem_of_getElem? (i := 181) (by decide +kernel)) rfl
theorem k1153 : Cond.selects "TapeRingsModel" yX12_heard yX12_heard ∈ zt := zin_6 (List.mem_of_getElem? (i := 182) (by decide +kernel)) rfl
theorem k1154 : Cond.code yX12_heard prog_14_method_37_code (4 : Nat) (Option.some FieldType.int) ∈ zt := zin_6 (List.mem_of_getElem? (i := 183) (by decide +kernel)) rfl
theorem k1155 : Cond.methodLink "TapeRingsModel" (229 : Nat) yX12_heardInAll ∈ zt := zin_6 (List.mem_of_getElem? (i := 184) (by decide +kernel)) rfl
theorem k1156 : Cond.instanceMethod yX12_heardInAll ∈ zt := zin_6 (List.mem_of_getElem? (i := 186) (by decide +kernel)) rfl
theorem k1157 : Cond.code yX12_heardInAll prog_14_method_36_code (5 : Nat) (Option.some FieldType.int) ∈ zt := zin_6 (List.mem_of_getElem? (i := 187) (by decide +kernel)) rfl
theorem k1158 : Cond.methodLink "TapeRingsModel" (225 : Nat) yX12_heardOf ∈ zt := zin_6 (List.mem_of_getElem? (i := 188) (by decide +kernel)) rfl
theorem k1159 : Cond.instanceMethod yX12_heardOf ∈ zt := zin_6 (List.mem_of_getElem? (i := 190) (by decide +kernel)) rfl
theorem k1160 : Cond.code yX12_heardOf prog_14_method_35_code (4 : Nat) (Option.some FieldType.int) ∈ zt := zin_6 (List.mem_of_getElem? (i := 191) (by decide +kernel)) rfl
theorem k1161 : Cond.methodLink "TapeRingsModel" (218 : Nat) yX12_wayBy ∈ zt := zin_6 (List.mem_of_getElem? (i := 192) (by decide +kernel)) rfl
theorem k1162 : Cond.instanceMethod yX12_wayBy ∈ zt := zin_6 (List.mem_of_getElem? (i := 194) (by decide +kernel)) rfl
theorem k1163 : Cond.code yX12_wayBy prog_14_method_33_code (9 : Nat) (Option.some FieldType.int) ∈ zt := zin_6 (List.mem_of_getElem? (i := 195) (by decide +kernel)) rfl
theorem k1164 : Cond.methodLink "TapeRingsModel" (211 : Nat) yX12_steady ∈ zt := zin_6 (List.mem_of_getElem? (i := 196) (by decide +kernel)) rfl
theorem k1165 : Cond.instanceMethod yX12_steady ∈ zt := zin_6 (List.mem_of_getElem? (i := 198) (by decide +kernel)) rfl
theorem k1166 : Cond.code yX12_steady prog_14_method_26_code (2 : Nat) (Option.some FieldType.int) ∈ zt := zin_6 (List.mem_of_getElem? (i := 199) (by decide +kernel)) rfl
theorem k1167 : Cond.methodLink "TapeRingsModel" (214 : Nat) yJ9_floorMod_f86c9 ∈ zt := zin_6 (List.mem_of_getElem? (i := 200) (by decide +kernel)) rfl
theorem k1168 : Cond.static yJ9_floorMod_f86c9 ∈ zt := zin_6 (List.mem_of_getElem? (i := 201) (by decide +kernel)) rfl
theorem k1169 : Cond.code yJ9_floorMod_f86c9 prog_18_method_52_code (6 : Nat) (Option.some FieldType.long) ∈ zt := zin_6 (List.mem_of_getElem? (i := 202) (by decide +kernel)) rfl
theorem k1170 : Cond.methodLink "TapeRingsModel" (222 : Nat) yX12_heardAt ∈ zt := zin_6 (List.mem_of_getElem? (i := 203) (by decide +kernel)) rfl
theorem k1171 : Cond.instanceMethod yX12_heardAt ∈ zt := zin_6 (List.mem_of_getElem? (i := 205) (by decide +kernel)) rfl
theorem k1172 : Cond.code yX12_heardAt prog_14_method_34_code (5 : Nat) (Option.some FieldType.int) ∈ zt := zin_6 (List.mem_of_getElem? (i := 206) (by decide +kernel)) rfl
theorem k1173 : Cond.methodLink "TapeRingsLaw" (103 : Nat) yX12_all ∈ zt := zin_6 (List.mem_of_getElem? (i := 207) (by decide +kernel)) rfl
theorem k1174 : Cond.instanceMethod yX12_all ∈ zt := zin_6 (List.mem_of_getElem? (i := 208) (by decide +kernel)) rfl
theorem k1175 : Cond.selects "TapeRingsModel" yX12_all yX12_all ∈ zt := zin_6 (List.mem_of_getElem? (i := 209) (by decide +kernel)) rfl
theorem k1176 : Cond.code yX12_all prog_14_method_39_code (1 : Nat) (Option.some FieldType.long) ∈ zt := zin_6 (List.mem_of_getElem? (i := 210) (by decide +kernel)) rfl
theorem k1177 : Cond.methodLink "TapeRingsModel" (233 : Nat) yX12_allRounds ∈ zt := zin_6 (List.mem_of_getElem? (i := 211) (by decide +kernel)) rfl
theorem k1178 : Cond.instanceMethod yX12_allRounds ∈ zt := zin_6 (List.mem_of_getElem? (i := 213) (by decide +kernel)) rfl
theorem k1179 : Cond.code yX12_allRounds prog_14_method_38_code (5 : Nat) (Option.some FieldType.long) ∈ zt := zin_6 (List.mem_of_getElem? (i := 214) (by decide +kernel)) rfl
theorem k1180 : Cond.methodLink "TapeRingsLaw" (108 : Nat) yX12_wish ∈ zt := zin_6 (List.mem_of_getElem? (i := 215) (by decide +kernel)) rfl
theorem k1181 : Cond.instanceMethod yX12_wish ∈ zt := zin_6 (List.mem_of_getElem? (i := 216) (by decide +kernel)) rfl
theorem k1182 : Cond.selects "TapeRingsModel" yX12_wish yX12_wish ∈ zt := zin_6 (List.mem_of_getElem? (i := 217) (by decide +kernel)) rfl
theorem k1183 : Cond.code yX12_wish prog_14_method_40_code (3 : Nat) (Option.some FieldType.boolean) ∈ zt := zin_6 (List.mem_of_getElem? (i := 218) (by decide +kernel)) rfl
theorem k1184 : Cond.methodLink "TapeRingsModel" (237 : Nat) yX12_areSounds ∈ zt := zin_6 (List.mem_of_getElem? (i := 219) (by decide +kernel)) rfl
theorem k1185 : Cond.static yX12_areSounds ∈ zt := zin_6 (List.mem_of_getElem? (i := 220) (by decide +kernel)) rfl
theorem k1186 : Cond.code yX12_areSounds prog_14_method_4_code (1 : Nat) (Option.some FieldType.boolean) ∈ zt := zin_6 (List.mem_of_getElem? (i := 221) (by decide +kernel)) rfl
theorem k1187 : Cond.methodLink "TapeRingsLaw" (113 : Nat) yX12_meets ∈ zt := zin_6 (List.mem_of_getElem? (i := 222) (by decide +kernel)) rfl
theorem k1188 : Cond.instanceMethod yX12_meets ∈ zt := zin_6 (List.mem_of_getElem? (i := 223) (by decide +kernel)) rfl
theorem k1189 : Cond.selects "TapeRingsModel" yX12_meets yX12_meets ∈ zt := zin_6 (List.mem_of_getElem? (i := 224) (by decide +kernel)) rfl
theorem k1190 : Cond.code yX12_meets prog_14_method_45_code (7 : Nat) (Option.some FieldType.long) ∈ zt := zin_6 (List.mem_of_getElem? (i := 225) (by decide +kernel)) rfl
theorem k1191 : Cond.constantLong "TapeRingsModel" (243 : Nat) (1152921504606846976 : Int64) ∈ zt := zin_6 (List.mem_of_getElem? (i := 226) (by decide +kernel)) rfl
theorem k1192 : Cond.constantLong "TapeRingsModel" (245 : Nat) (-1 : Int64) ∈ zt := zin_6 (List.mem_of_getElem? (i := 227) (by decide +kernel)) rfl
theorem k1193 : Cond.methodLink "TapeRingsModel" (247 : Nat) yX12_steadyAll ∈ zt := zin_6 (List.mem_of_getElem? (i := 228) (by decide +kernel)) rfl
theorem k1194 : Cond.instanceMethod yX12_steadyAll ∈ zt := zin_6 (List.mem_of_getElem? (i := 230) (by decide +kernel)) rfl
theorem k1195 : Cond.code yX12_steadyAll prog_14_method_42_code (1 : Nat) (Option.some FieldType.int) ∈ zt := zin_6 (List.mem_of_getElem? (i := 231) (by decide +kernel)) rfl
theorem k1196 : Cond.methodLink "TapeRingsModel" (240 : Nat) yJ9_max_7cf53 ∈ zt := zin_6 (List.mem_of_getElem? (i := 232) (by decide +kernel)) rfl
theorem k1197 : Cond.methodLink "TapeRingsModel" (251 : Nat) yX12_meetsAt ∈ zt := zin_6 (List.mem_of_getElem? (i := 233) (by decide +kernel)) rfl
theorem k1198 : Cond.instanceMethod yX12_meetsAt ∈ zt := zin_6 (List.mem_of_getElem? (i := 235) (by decide +kernel)) rfl
theorem k1199 : Cond.code yX12_meetsAt prog_14_method_41_code (4 : Nat) (Option.some FieldType.boolean) ∈ zt := zin_6 (List.mem_of_getElem? (i := 236) (by decide +kernel)) rfl
theorem k1200 : Cond.methodLink "TapeRingsModel" (255 : Nat) yX12_findHeard ∈ zt := zin_6 (List.mem_of_getElem? (i := 237) (by decide +kernel)) rfl
theorem k1201 : Cond.instanceMethod yX12_findHeard ∈ zt := zin_6 (List.mem_of_getElem? (i := 239) (by decide +kernel)) rfl
theorem k1202 : Cond.code yX12_findHeard prog_14_method_43_code (5 : Nat) (Option.none : Option FieldType) ∈ zt := zin_7 (List.mem_of_getElem? (i := 0) (by decide +kernel)) rfl
theorem k1203 : Cond.methodLink "TapeRingsModel" (259 : Nat) yX12_meetsBehind ∈ zt := zin_7 (List.mem_of_getElem? (i := 1) (by decide +kernel)) rfl
theorem k1204 : Cond.instanceMethod yX12_meetsBehind ∈ zt := zin_7 (List.mem_of_getElem? (i := 3) (by decide +kernel)) rfl
theorem k1205 : Cond.code yX12_meetsBehind prog_14_method_44_code (3 : Nat) (Option.some FieldType.boolean) ∈ zt := zin_7 (List.mem_of_getElem? (i := 4) (by decide +kernel)) rfl
theorem k1206 : Cond.methodLink "TapeRingsLaw" (117 : Nat) yX12_often ∈ zt := zin_7 (List.mem_of_getElem? (i := 5) (by decide +kernel)) rfl
theorem k1207 : Cond.instanceMethod yX12_often ∈ zt := zin_7 (List.mem_of_getElem? (i := 6) (by decide +kernel)) rfl
theorem k1208 : Cond.selects "TapeRingsModel" yX12_often yX12_often ∈ zt := zin_7 (List.mem_of_getElem? (i := 7) (by decide +kernel)) rfl
theorem k1209 : Cond.code yX12_often prog_14_method_46_code (5 : Nat) (Option.some FieldType.long) ∈ zt := zin_7 (List.mem_of_getElem? (i := 8) (by decide +kernel)) rfl
theorem k1210 : Cond.methodLink "TapeRingsLaw" (121 : Nat) yX12_mark ∈ zt := zin_7 (List.mem_of_getElem? (i := 9) (by decide +kernel)) rfl
theorem k1211 : Cond.instanceMethod yX12_mark ∈ zt := zin_7 (List.mem_of_getElem? (i := 10) (by decide +kernel)) rfl
theorem k1212 : Cond.selects "TapeRingsModel" yX12_mark yX12_mark ∈ zt := zin_7 (List.mem_of_getElem? (i := 11) (by decide +kernel)) rfl
theorem k1213 : Cond.code yX12_mark prog_14_method_47_code (3 : Nat) (Option.some FieldType.int) ∈ zt := zin_7 (List.mem_of_getElem? (i := 12) (by decide +kernel)) rfl
theorem k1214 : Cond.constant "TapeRingsModel" (262 : Nat) (100000 : Int32) ∈ zt := zin_7 (List.mem_of_getElem? (i := 13) (by decide +kernel)) rfl
theorem k1215 : Cond.methodLink "TapeRingsLaw" (125 : Nat) yX12_kept ∈ zt := zin_7 (List.mem_of_getElem? (i := 14) (by decide +kernel)) rfl
theorem k1216 : Cond.instanceMethod yX12_kept ∈ zt := zin_7 (List.mem_of_getElem? (i := 15) (by decide +kernel)) rfl
theorem k1217 : Cond.selects "TapeRingsModel" yX12_kept yX12_kept ∈ zt := zin_7 (List.mem_of_getElem? (i := 16) (by decide +kernel)) rfl
theorem k1218 : Cond.code yX12_kept prog_14_method_49_code (3 : Nat) (Option.some FieldType.int) ∈ zt := zin_7 (List.mem_of_getElem? (i := 17) (by decide +kernel)) rfl
theorem k1219 : Cond.methodLink "TapeRingsModel" (263 : Nat) yX12_truths ∈ zt := zin_7 (List.mem_of_getElem? (i := 18) (by decide +kernel)) rfl
theorem k1220 : Cond.instanceMethod yX12_truths ∈ zt := zin_7 (List.mem_of_getElem? (i := 20) (by decide +kernel)) rfl
theorem k1221 : Cond.code yX12_truths prog_14_method_48_code (10 : Nat) (Option.some FieldType.int) ∈ zt := zin_7 (List.mem_of_getElem? (i := 21) (by decide +kernel)) rfl
theorem k1222 : Cond.methodLink "TapeRingsLaw" (129 : Nat) yX12_plan ∈ zt := zin_7 (List.mem_of_getElem? (i := 22) (by decide +kernel)) rfl
theorem k1223 : Cond.instanceMethod yX12_plan ∈ zt := zin_7 (List.mem_of_getElem? (i := 23) (by decide +kernel)) rfl
theorem k1224 : Cond.selects "TapeRingsModel" yX12_plan yX12_plan ∈ zt := zin_7 (List.mem_of_getElem? (i := 24) (by decide +kernel)) rfl
theorem k1225 : Cond.code yX12_plan prog_14_method_52_code (1 : Nat) (Option.some FieldType.int) ∈ zt := zin_7 (List.mem_of_getElem? (i := 25) (by decide +kernel)) rfl
theorem k1226 : Cond.methodLink "TapeRingsModel" (274 : Nat) yX12_findPlan ∈ zt := zin_7 (List.mem_of_getElem? (i := 26) (by decide +kernel)) rfl
theorem k1227 : Cond.instanceMethod yX12_findPlan ∈ zt := zin_7 (List.mem_of_getElem? (i := 28) (by decide +kernel)) rfl
theorem k1228 : Cond.code yX12_findPlan prog_14_method_51_code (9 : Nat) (Option.some FieldType.int) ∈ zt := zin_7 (List.mem_of_getElem? (i := 29) (by decide +kernel)) rfl
theorem k1229 : Cond.constant "TapeRingsModel" (267 : Nat) (268435456 : Int32) ∈ zt := zin_7 (List.mem_of_getElem? (i := 30) (by decide +kernel)) rfl
theorem k1230 : Cond.methodLink "TapeRingsModel" (268 : Nat) yX12_costOf ∈ zt := zin_7 (List.mem_of_getElem? (i := 31) (by decide +kernel)) rfl
theorem k1231 : Cond.instanceMethod yX12_costOf ∈ zt := zin_7 (List.mem_of_getElem? (i := 33) (by decide +kernel)) rfl
theorem k1232 : Cond.code yX12_costOf prog_14_method_50_code (4 : Nat) (Option.some FieldType.int) ∈ zt := zin_7 (List.mem_of_getElem? (i := 34) (by decide +kernel)) rfl
theorem k1233 : Cond.methodLink "TapeRingsModel" (271 : Nat) yJ9_min_7cf53 ∈ zt := zin_7 (List.mem_of_getElem? (i := 35) (by decide +kernel)) rfl
theorem k1234 : Cond.methodLink "TapeRingsLaw" (133 : Nat) yX12_make ∈ zt := zin_7 (List.mem_of_getElem? (i := 36) (by decide +kernel)) rfl
theorem k1235 : Cond.instanceMethod yX12_make ∈ zt := zin_7 (List.mem_of_getElem? (i := 37) (by decide +kernel)) rfl
theorem k1236 : Cond.selects "TapeRingsModel" yX12_make yX12_make ∈ zt := zin_7 (List.mem_of_getElem? (i := 38) (by decide +kernel)) rfl
theorem k1237 : Cond.code yX12_make prog_14_method_53_code (3 : Nat) (Option.some FieldType.int) ∈ zt := zin_7 (List.mem_of_getElem? (i := 39) (by decide +kernel)) rfl
theorem k1238 : Cond.methodLink "TapeRingsLaw" (137 : Nat) yX12_cut ∈ zt := zin_7 (List.mem_of_getElem? (i := 40) (by decide +kernel)) rfl
theorem k1239 : Cond.instanceMethod yX12_cut ∈ zt := zin_7 (List.mem_of_getElem? (i := 41) (by decide +kernel)) rfl
theorem k1240 : Cond.selects "TapeRingsModel" yX12_cut yX12_cut ∈ zt := zin_7 (List.mem_of_getElem? (i := 42) (by decide +kernel)) rfl
theorem k1241 : Cond.code yX12_cut prog_14_method_54_code (3 : Nat) (Option.some FieldType.int) ∈ zt := zin_7 (List.mem_of_getElem? (i := 43) (by decide +kernel)) rfl
theorem k1242 : Cond.methodLink "TapeRingsLaw" (141 : Nat) yX12_weight ∈ zt := zin_7 (List.mem_of_getElem? (i := 44) (by decide +kernel)) rfl
theorem k1243 : Cond.instanceMethod yX12_weight ∈ zt := zin_7 (List.mem_of_getElem? (i := 45) (by decide +kernel)) rfl
theorem k1244 : Cond.selects "TapeRingsModel" yX12_weight yX12_weight ∈ zt := zin_7 (List.mem_of_getElem? (i := 46) (by decide +kernel)) rfl
theorem k1245 : Cond.code yX12_weight prog_14_method_55_code (4 : Nat) (Option.some FieldType.int) ∈ zt := zin_7 (List.mem_of_getElem? (i := 47) (by decide +kernel)) rfl
theorem k1246 : Cond.methodLink "TapeRingsLaw" (146 : Nat) yX12_heads ∈ zt := zin_7 (List.mem_of_getElem? (i := 48) (by decide +kernel)) rfl
theorem k1247 : Cond.instanceMethod yX12_heads ∈ zt := zin_7 (List.mem_of_getElem? (i := 49) (by decide +kernel)) rfl
theorem k1248 : Cond.selects "TapeRingsModel" yX12_heads yX12_heads ∈ zt := zin_7 (List.mem_of_getElem? (i := 50) (by decide +kernel)) rfl
theorem k1249 : Cond.code yX12_heads prog_14_method_56_code (5 : Nat) (Option.some FieldType.boolean) ∈ zt := zin_7 (List.mem_of_getElem? (i := 51) (by decide +kernel)) rfl
theorem k1250 : Cond.methodLink "TapeRingsLaw" (150 : Nat) yX12_stop ∈ zt := zin_7 (List.mem_of_getElem? (i := 52) (by decide +kernel)) rfl
theorem k1251 : Cond.instanceMethod yX12_stop ∈ zt := zin_7 (List.mem_of_getElem? (i := 53) (by decide +kernel)) rfl
theorem k1252 : Cond.selects "TapeRingsModel" yX12_stop yX12_stop ∈ zt := zin_7 (List.mem_of_getElem? (i := 54) (by decide +kernel)) rfl
theorem k1253 : Cond.code yX12_stop prog_14_method_57_code (3 : Nat) (Option.some FieldType.int) ∈ zt := zin_7 (List.mem_of_getElem? (i := 55) (by decide +kernel)) rfl
theorem k1254 : Cond.methodLink "TapeRingsLaw" (154 : Nat) yX12_out ∈ zt := zin_7 (List.mem_of_getElem? (i := 56) (by decide +kernel)) rfl
theorem k1255 : Cond.instanceMethod yX12_out ∈ zt := zin_7 (List.mem_of_getElem? (i := 57) (by decide +kernel)) rfl
theorem k1256 : Cond.selects "TapeRingsModel" yX12_out yX12_out ∈ zt := zin_7 (List.mem_of_getElem? (i := 58) (by decide +kernel)) rfl
theorem k1257 : Cond.code yX12_out prog_14_method_59_code (2 : Nat) (Option.some FieldType.int) ∈ zt := zin_7 (List.mem_of_getElem? (i := 59) (by decide +kernel)) rfl
theorem k1258 : Cond.methodLink "TapeRingsModel" (286 : Nat) yX12_findOuts ∈ zt := zin_7 (List.mem_of_getElem? (i := 60) (by decide +kernel)) rfl
theorem k1259 : Cond.instanceMethod yX12_findOuts ∈ zt := zin_7 (List.mem_of_getElem? (i := 62) (by decide +kernel)) rfl
theorem k1260 : Cond.code yX12_findOuts prog_14_method_58_code (6 : Nat) (Option.none : Option FieldType) ∈ zt := zin_7 (List.mem_of_getElem? (i := 63) (by decide +kernel)) rfl
theorem k1261 : Cond.methodLink "TapeRingsLaw" (158 : Nat) yX12_dies ∈ zt := zin_7 (List.mem_of_getElem? (i := 64) (by decide +kernel)) rfl
theorem k1262 : Cond.instanceMethod yX12_dies ∈ zt := zin_7 (List.mem_of_getElem? (i := 65) (by decide +kernel)) rfl
theorem k1263 : Cond.selects "TapeRingsModel" yX12_dies yX12_dies ∈ zt := zin_7 (List.mem_of_getElem? (i := 66) (by decide +kernel)) rfl
theorem k1264 : Cond.code yX12_dies prog_14_method_61_code (6 : Nat) (Option.some FieldType.int) ∈ zt := zin_7 (List.mem_of_getElem? (i := 67) (by decide +kernel)) rfl
theorem k1265 : Cond.methodLink "TapeRingsModel" (290 : Nat) yX12_areAlike ∈ zt := zin_7 (List.mem_of_getElem? (i := 68) (by decide +kernel)) rfl
theorem k1266 : Cond.instanceMethod yX12_areAlike ∈ zt := zin_7 (List.mem_of_getElem? (i := 70) (by decide +kernel)) rfl
theorem k1267 : Cond.code yX12_areAlike prog_14_method_60_code (4 : Nat) (Option.some FieldType.boolean) ∈ zt := zin_7 (List.mem_of_getElem? (i := 71) (by decide +kernel)) rfl
theorem k1268 : Cond.methodLink "TapeRingsLaw" (162 : Nat) yX12_tape ∈ zt := zin_7 (List.mem_of_getElem? (i := 72) (by decide +kernel)) rfl
theorem k1269 : Cond.instanceMethod yX12_tape ∈ zt := zin_7 (List.mem_of_getElem? (i := 73) (by decide +kernel)) rfl
theorem k1270 : Cond.selects "TapeRingsModel" yX12_tape yX12_tape ∈ zt := zin_7 (List.mem_of_getElem? (i := 74) (by decide +kernel)) rfl
theorem k1271 : Cond.code yX12_tape prog_14_method_62_code (2 : Nat) (Option.some FieldType.int) ∈ zt := zin_7 (List.mem_of_getElem? (i := 75) (by decide +kernel)) rfl
theorem k1272 : Cond.methodLink "TapeRingsLaw" (166 : Nat) yX12_take ∈ zt := zin_7 (List.mem_of_getElem? (i := 76) (by decide +kernel)) rfl
theorem k1273 : Cond.instanceMethod yX12_take ∈ zt := zin_7 (List.mem_of_getElem? (i := 77) (by decide +kernel)) rfl
theorem k1274 : Cond.selects "TapeRingsModel" yX12_take yX12_take ∈ zt := zin_7 (List.mem_of_getElem? (i := 78) (by decide +kernel)) rfl
theorem k1275 : Cond.code yX12_take prog_14_method_63_code (4 : Nat) (Option.some FieldType.boolean) ∈ zt := zin_7 (List.mem_of_getElem? (i := 79) (by decide +kernel)) rfl
theorem k1276 : Cond.methodLink "TapeRingsLaw" (170 : Nat) yX12_gap ∈ zt := zin_7 (List.mem_of_getElem? (i := 80) (by decide +kernel)) rfl
theorem k1277 : Cond.instanceMethod yX12_gap ∈ zt := zin_7 (List.mem_of_getElem? (i := 81) (by decide +kernel)) rfl
theorem k1278 : Cond.selects "TapeRingsModel" yX12_gap yX12_gap ∈ zt := zin_7 (List.mem_of_getElem? (i := 82) (by decide +kernel)) rfl
theorem k1279 : Cond.code yX12_gap prog_14_method_64_code (2 : Nat) (Option.some FieldType.boolean) ∈ zt := zin_7 (List.mem_of_getElem? (i := 83) (by decide +kernel)) rfl
theorem k1280 : Cond.methodLink "TapeRingsLaw" (174 : Nat) yX12_wipe ∈ zt := zin_7 (List.mem_of_getElem? (i := 84) (by decide +kernel)) rfl
theorem k1281 : Cond.instanceMethod yX12_wipe ∈ zt := zin_7 (List.mem_of_getElem? (i := 85) (by decide +kernel)) rfl
theorem k1282 : Cond.selects "TapeRingsModel" yX12_wipe yX12_wipe ∈ zt := zin_7 (List.mem_of_getElem? (i := 86) (by decide +kernel)) rfl
theorem k1283 : Cond.code yX12_wipe prog_14_method_65_code (2 : Nat) (Option.some FieldType.int) ∈ zt := zin_7 (List.mem_of_getElem? (i := 87) (by decide +kernel)) rfl
theorem k1284 : Cond.methodLink "TapeRingsLaw" (178 : Nat) yX12_span ∈ zt := zin_7 (List.mem_of_getElem? (i := 88) (by decide +kernel)) rfl
theorem k1285 : Cond.instanceMethod yX12_span ∈ zt := zin_7 (List.mem_of_getElem? (i := 89) (by decide +kernel)) rfl
theorem k1286 : Cond.selects "TapeRingsModel" yX12_span yX12_span ∈ zt := zin_7 (List.mem_of_getElem? (i := 90) (by decide +kernel)) rfl
theorem k1287 : Cond.code yX12_span prog_14_method_67_code (4 : Nat) (Option.some FieldType.int) ∈ zt := zin_7 (List.mem_of_getElem? (i := 91) (by decide +kernel)) rfl
theorem k1288 : Cond.methodLink "TapeRingsModel" (293 : Nat) yX12_isSpan ∈ zt := zin_7 (List.mem_of_getElem? (i := 92) (by decide +kernel)) rfl
theorem k1289 : Cond.instanceMethod yX12_isSpan ∈ zt := zin_7 (List.mem_of_getElem? (i := 94) (by decide +kernel)) rfl
theorem k1290 : Cond.code yX12_isSpan prog_14_method_66_code (4 : Nat) (Option.some FieldType.boolean) ∈ zt := zin_7 (List.mem_of_getElem? (i := 95) (by decide +kernel)) rfl
theorem k1291 : Cond.methodLink "TapeRingsLaw" (182 : Nat) yX12_pair ∈ zt := zin_7 (List.mem_of_getElem? (i := 96) (by decide +kernel)) rfl
theorem k1292 : Cond.instanceMethod yX12_pair ∈ zt := zin_7 (List.mem_of_getElem? (i := 97) (by decide +kernel)) rfl
theorem k1293 : Cond.selects "TapeRingsModel" yX12_pair yX12_pair ∈ zt := zin_7 (List.mem_of_getElem? (i := 98) (by decide +kernel)) rfl
theorem k1294 : Cond.code yX12_pair prog_14_method_71_code (2 : Nat) (Option.some FieldType.int) ∈ zt := zin_7 (List.mem_of_getElem? (i := 99) (by decide +kernel)) rfl
theorem k1295 : Cond.methodLink "TapeRingsModel" (302 : Nat) yX12_pairAt ∈ zt := zin_7 (List.mem_of_getElem? (i := 100) (by decide +kernel)) rfl
theorem k1296 : Cond.instanceMethod yX12_pairAt ∈ zt := zin_7 (List.mem_of_getElem? (i := 102) (by decide +kernel)) rfl
theorem k1297 : Cond.code yX12_pairAt prog_14_method_70_code (5 : Nat) (Option.some FieldType.int) ∈ zt := zin_7 (List.mem_of_getElem? (i := 103) (by decide +kernel)) rfl
theorem k1298 : Cond.methodLink "TapeRingsModel" (299 : Nat) yX12_isPair ∈ zt := zin_7 (List.mem_of_getElem? (i := 104) (by decide +kernel)) rfl
theorem k1299 : Cond.instanceMethod yX12_isPair ∈ zt := zin_7 (List.mem_of_getElem? (i := 106) (by decide +kernel)) rfl
theorem k1300 : Cond.code yX12_isPair prog_14_method_69_code (4 : Nat) (Option.some FieldType.boolean) ∈ zt := zin_7 (List.mem_of_getElem? (i := 107) (by decide +kernel)) rfl
theorem k1301 : Cond.methodLink "TapeRingsModel" (296 : Nat) yX12_most ∈ zt := zin_7 (List.mem_of_getElem? (i := 108) (by decide +kernel)) rfl
theorem k1302 : Cond.instanceMethod yX12_most ∈ zt := zin_7 (List.mem_of_getElem? (i := 110) (by decide +kernel)) rfl
theorem k1303 : Cond.code yX12_most prog_14_method_68_code (5 : Nat) (Option.some FieldType.int) ∈ zt := zin_7 (List.mem_of_getElem? (i := 111) (by decide +kernel)) rfl
theorem k1304 : Cond.methodLink "TapeRingsLaw" (186 : Nat) yX12_mended ∈ zt := zin_7 (List.mem_of_getElem? (i := 112) (by decide +kernel)) rfl
theorem k1305 : Cond.instanceMethod yX12_mended ∈ zt := zin_7 (List.mem_of_getElem? (i := 113) (by decide +kernel)) rfl
theorem k1306 : Cond.selects "TapeRingsModel" yX12_mended yX12_mended ∈ zt := zin_7 (List.mem_of_getElem? (i := 114) (by decide +kernel)) rfl
theorem k1307 : Cond.code yX12_mended prog_14_method_72_code (3 : Nat) (Option.some FieldType.int) ∈ zt := zin_7 (List.mem_of_getElem? (i := 115) (by decide +kernel)) rfl
theorem k1308 : Cond.methodLink "TapeRingsLaw" (190 : Nat) yX12_piece ∈ zt := zin_7 (List.mem_of_getElem? (i := 116) (by decide +kernel)) rfl
theorem k1309 : Cond.instanceMethod yX12_piece ∈ zt := zin_7 (List.mem_of_getElem? (i := 117) (by decide +kernel)) rfl
theorem k1310 : Cond.selects "TapeRingsModel" yX12_piece yX12_piece ∈ zt := zin_7 (List.mem_of_getElem? (i := 118) (by decide +kernel)) rfl
theorem k1311 : Cond.code yX12_piece prog_14_method_73_code (4 : Nat) (Option.some FieldType.int) ∈ zt := zin_7 (List.mem_of_getElem? (i := 119) (by decide +kernel)) rfl
theorem k1312 : Cond.methodLink "TapeRingsLaw" (194 : Nat) yX12_burn ∈ zt := zin_7 (List.mem_of_getElem? (i := 120) (by decide +kernel)) rfl
theorem k1313 : Cond.instanceMethod yX12_burn ∈ zt := zin_7 (List.mem_of_getElem? (i := 121) (by decide +kernel)) rfl
theorem k1314 : Cond.selects "TapeRingsModel" yX12_burn yX12_burn ∈ zt := zin_7 (List.mem_of_getElem? (i := 122) (by decide +kernel)) rfl
theorem k1315 : Cond.code yX12_burn prog_14_method_74_code (2 : Nat) (Option.some FieldType.int) ∈ zt := zin_7 (List.mem_of_getElem? (i := 123) (by decide +kernel)) rfl
theorem k1316 : Cond.methodLink "TapeRingsLaw" (198 : Nat) yX12_join ∈ zt := zin_7 (List.mem_of_getElem? (i := 124) (by decide +kernel)) rfl
theorem k1317 : Cond.instanceMethod yX12_join ∈ zt := zin_7 (List.mem_of_getElem? (i := 125) (by decide +kernel)) rfl
theorem k1318 : Cond.selects "TapeRingsModel" yX12_join yX12_join ∈ zt := zin_7 (List.mem_of_getElem? (i := 126) (by decide +kernel)) rfl
theorem k1319 : Cond.code yX12_join prog_14_method_78_code (2 : Nat) (Option.some FieldType.int) ∈ zt := zin_7 (List.mem_of_getElem? (i := 127) (by decide +kernel)) rfl
theorem k1320 : Cond.methodLink "TapeRingsModel" (316 : Nat) yX12_joinFrom ∈ zt := zin_7 (List.mem_of_getElem? (i := 128) (by decide +kernel)) rfl
theorem k1321 : Cond.instanceMethod yX12_joinFrom ∈ zt := zin_7 (List.mem_of_getElem? (i := 130) (by decide +kernel)) rfl
theorem k1322 : Cond.code yX12_joinFrom prog_14_method_76_code (10 : Nat) (Option.none : Option FieldType) ∈ zt := zin_7 (List.mem_of_getElem? (i := 131) (by decide +kernel)) rfl
theorem k1323 : Cond.methodLink "TapeRingsModel" (308 : Nat) yX12_lies ∈ zt := zin_7 (List.mem_of_getElem? (i := 132) (by decide +kernel)) rfl
theorem k1324 : Cond.instanceMethod yX12_lies ∈ zt := zin_7 (List.mem_of_getElem? (i := 134) (by decide +kernel)) rfl
theorem k1325 : Cond.code yX12_lies prog_14_method_77_code (7 : Nat) (Option.some FieldType.boolean) ∈ zt := zin_7 (List.mem_of_getElem? (i := 135) (by decide +kernel)) rfl
theorem k1326 : Cond.methodLink "TapeRingsModel" (312 : Nat) yX12_sound ∈ zt := zin_7 (List.mem_of_getElem? (i := 136) (by decide +kernel)) rfl
theorem k1327 : Cond.instanceMethod yX12_sound ∈ zt := zin_7 (List.mem_of_getElem? (i := 138) (by decide +kernel)) rfl
theorem k1328 : Cond.code yX12_sound prog_14_method_75_code (4 : Nat) (Option.some FieldType.int) ∈ zt := zin_7 (List.mem_of_getElem? (i := 139) (by decide +kernel)) rfl
theorem k1329 : Cond.methodLink "TapeRingsLaw" (202 : Nat) yX12_keep ∈ zt := zin_7 (List.mem_of_getElem? (i := 140) (by decide +kernel)) rfl
theorem k1330 : Cond.instanceMethod yX12_keep ∈ zt := zin_7 (List.mem_of_getElem? (i := 141) (by decide +kernel)) rfl
theorem k1331 : Cond.selects "TapeRingsModel" yX12_keep yX12_keep ∈ zt := zin_7 (List.mem_of_getElem? (i := 142) (by decide +kernel)) rfl
theorem k1332 : Cond.code yX12_keep prog_14_method_79_code (4 : Nat) (Option.some FieldType.int) ∈ zt := zin_7 (List.mem_of_getElem? (i := 143) (by decide +kernel)) rfl
theorem k1333 : Cond.methodLink "TapeRingsLaw" (206 : Nat) yX12_known ∈ zt := zin_7 (List.mem_of_getElem? (i := 144) (by decide +kernel)) rfl
theorem k1334 : Cond.instanceMethod yX12_known ∈ zt := zin_7 (List.mem_of_getElem? (i := 145) (by decide +kernel)) rfl
theorem k1335 : Cond.selects "TapeRingsModel" yX12_known yX12_known ∈ zt := zin_7 (List.mem_of_getElem? (i := 146) (by decide +kernel)) rfl
theorem k1336 : Cond.code yX12_known prog_14_method_80_code (4 : Nat) (Option.some FieldType.int) ∈ zt := zin_7 (List.mem_of_getElem? (i := 147) (by decide +kernel)) rfl
theorem k1337 : Cond.methodLink "TapeRingsLaw" (210 : Nat) yX12_fetch ∈ zt := zin_7 (List.mem_of_getElem? (i := 148) (by decide +kernel)) rfl
theorem k1338 : Cond.instanceMethod yX12_fetch ∈ zt := zin_7 (List.mem_of_getElem? (i := 149) (by decide +kernel)) rfl
theorem k1339 : Cond.selects "TapeRingsModel" yX12_fetch yX12_fetch ∈ zt := zin_7 (List.mem_of_getElem? (i := 150) (by decide +kernel)) rfl
theorem k1340 : Cond.code yX12_fetch prog_14_method_81_code (3 : Nat) (Option.some FieldType.int) ∈ zt := zin_7 (List.mem_of_getElem? (i := 151) (by decide +kernel)) rfl
theorem k1341 : Cond.methodLink "TapeRingsLaw" (214 : Nat) yX12_edits ∈ zt := zin_7 (List.mem_of_getElem? (i := 152) (by decide +kernel)) rfl
theorem k1342 : Cond.instanceMethod yX12_edits ∈ zt := zin_7 (List.mem_of_getElem? (i := 153) (by decide +kernel)) rfl
theorem k1343 : Cond.selects "TapeRingsModel" yX12_edits yX12_edits ∈ zt := zin_7 (List.mem_of_getElem? (i := 154) (by decide +kernel)) rfl
theorem k1344 : Cond.code yX12_edits prog_14_method_83_code (5 : Nat) (Option.some FieldType.int) ∈ zt := zin_7 (List.mem_of_getElem? (i := 155) (by decide +kernel)) rfl
theorem k1345 : Cond.methodLink "TapeRingsModel" (320 : Nat) yX12_editsBy ∈ zt := zin_7 (List.mem_of_getElem? (i := 156) (by decide +kernel)) rfl
theorem k1346 : Cond.instanceMethod yX12_editsBy ∈ zt := zin_7 (List.mem_of_getElem? (i := 158) (by decide +kernel)) rfl
theorem k1347 : Cond.code yX12_editsBy prog_14_method_82_code (11 : Nat) (Option.some FieldType.int) ∈ zt := zin_7 (List.mem_of_getElem? (i := 159) (by decide +kernel)) rfl
theorem k1348 : Cond.methodLink "TapeRingsLaw" (218 : Nat) yX12_row ∈ zt := zin_7 (List.mem_of_getElem? (i := 160) (by decide +kernel)) rfl
theorem k1349 : Cond.instanceMethod yX12_row ∈ zt := zin_7 (List.mem_of_getElem? (i := 161) (by decide +kernel)) rfl
theorem k1350 : Cond.selects "TapeRingsModel" yX12_row yX12_row ∈ zt := zin_7 (List.mem_of_getElem? (i := 162) (by decide +kernel)) rfl
theorem k1351 : Cond.code yX12_row prog_14_method_84_code (2 : Nat) (Option.some FieldType.int) ∈ zt := zin_7 (List.mem_of_getElem? (i := 163) (by decide +kernel)) rfl
theorem k1352 : Cond.constantLong "TapeRingsLaw" (92 : Nat) (4294967295 : Int64) ∈ zt := zin_7 (List.mem_of_getElem? (i := 164) (by decide +kernel)) rfl
theorem k1353 : Cond.arrayClass FieldType.long ∈ zt := zin_7 (List.mem_of_getElem? (i := 165) (by decide +kernel)) rfl
theorem k1354 : Cond.selects RX7 yX7_firstWrong yX7_firstWrong ∈ zt := zin_p (i := 0) (q := (yX7_firstWrong, _)) rfl rfl
theorem k1355 : Cond.selects RX7 yX7_behind yX7_behind ∈ zt := zin_p (i := 1) (q := (yX7_behind, _)) rfl rfl
theorem k1356 : Cond.selects RX7 yX7_behindAtomStart yX7_behindAtomStart ∈ zt := zin_p (i := 2) (q := (yX7_behindAtomStart, _)) rfl rfl
theorem k1357 : Cond.selects RX7 yX7_behindTermSign yX7_behindTermSign ∈ zt := zin_p (i := 3) (q := (yX7_behindTermSign, _)) rfl rfl
theorem k1358 : Cond.selects RX7 yX7_putTogether yX7_putTogether ∈ zt := zin_p (i := 4) (q := (yX7_putTogether, _)) rfl rfl
theorem k1359 : Cond.selects RX7 yX7_openRow yX7_openRow ∈ zt := zin_p (i := 5) (q := (yX7_openRow, _)) rfl rfl
theorem k1360 : Cond.selects RX7 yX7_readDigit yX7_readDigit ∈ zt := zin_p (i := 6) (q := (yX7_readDigit, _)) rfl rfl
theorem k1361 : Cond.selects RX7 yX7_repeatTerm yX7_repeatTerm ∈ zt := zin_p (i := 7) (q := (yX7_repeatTerm, _)) rfl rfl
theorem k1362 : Cond.selects RX7 yX7_beginTerm yX7_beginTerm ∈ zt := zin_p (i := 8) (q := (yX7_beginTerm, _)) rfl rfl
theorem k1363 : Cond.selects RX7 yX7_layTerm yX7_layTerm ∈ zt := zin_p (i := 9) (q := (yX7_layTerm, _)) rfl rfl
theorem k1364 : Cond.selects RX7 yX7_readSign yX7_readSign ∈ zt := zin_p (i := 10) (q := (yX7_readSign, _)) rfl rfl
theorem k1365 : Cond.selects RX7 yX7_open yX7_open ∈ zt := zin_p (i := 11) (q := (yX7_open, _)) rfl rfl
theorem k1366 : Cond.selects RX7 yX7_close yX7_close ∈ zt := zin_p (i := 12) (q := (yX7_close, _)) rfl rfl
theorem k1367 : Cond.selects RX6 yX6_listen yX6_listen ∈ zt := zin_p (i := 13) (q := (yX6_listen, _)) rfl rfl
theorem k1368 : Cond.selects RX6 yX6_soundsUnder yX6_soundsUnder ∈ zt := zin_p (i := 14) (q := (yX6_soundsUnder, _)) rfl rfl
theorem k1369 : Cond.selects RX1 yX1_turnsOf yX1_turnsOf ∈ zt := zin_p (i := 15) (q := (yX1_turnsOf, _)) rfl rfl
theorem k1370 : Cond.selects RX1 yX1_sharedTicks yX1_sharedTicks ∈ zt := zin_p (i := 16) (q := (yX1_sharedTicks, _)) rfl rfl
theorem k1371 : Cond.selects RX1 yX1_turnsAlike yX1_turnsAlike ∈ zt := zin_p (i := 17) (q := (yX1_turnsAlike, _)) rfl rfl
theorem k1372 : Cond.selects RX1 yX1_firstSteady yX1_firstSteady ∈ zt := zin_p (i := 18) (q := (yX1_firstSteady, _)) rfl rfl
theorem k1373 : Cond.selects RX1 yX1_ticksToTurn yX1_ticksToTurn ∈ zt := zin_p (i := 19) (q := (yX1_ticksToTurn, _)) rfl rfl
theorem k1374 : Cond.selects RX5 yX5_listTrue yX5_listTrue ∈ zt := zin_p (i := 20) (q := (yX5_listTrue, _)) rfl rfl
theorem k1375 : Cond.selects RX5 yX5_trueFrom yX5_trueFrom ∈ zt := zin_p (i := 21) (q := (yX5_trueFrom, _)) rfl rfl
theorem k1376 : Cond.selects RX5 yX5_listCheapest yX5_listCheapest ∈ zt := zin_p (i := 22) (q := (yX5_listCheapest, _)) rfl rfl
theorem k1377 : Cond.selects RX5 yX5_addCosts yX5_addCosts ∈ zt := zin_p (i := 23) (q := (yX5_addCosts, _)) rfl rfl
theorem k1378 : Cond.selects RX5 yX5_choose yX5_choose ∈ zt := zin_p (i := 24) (q := (yX5_choose, _)) rfl rfl
theorem k1379 : Cond.selects RX11 yX11_tell yX11_tell ∈ zt := zin_p (i := 25) (q := (yX11_tell, _)) rfl rfl
theorem k1380 : Cond.selects RX0 yX0_loudness yX0_loudness ∈ zt := zin_p (i := 26) (q := (yX0_loudness, _)) rfl rfl
theorem k1381 : Cond.selects RX0 yX0_behind yX0_behind ∈ zt := zin_p (i := 27) (q := (yX0_behind, _)) rfl rfl
theorem k1382 : Cond.selects RX0 yX0_firstSilence yX0_firstSilence ∈ zt := zin_p (i := 28) (q := (yX0_firstSilence, _)) rfl rfl
theorem k1383 : Cond.selects RX0 yX0_comesBackIn yX0_comesBackIn ∈ zt := zin_p (i := 29) (q := (yX0_comesBackIn, _)) rfl rfl
theorem k1384 : Cond.selects RX0 yX0_alike yX0_alike ∈ zt := zin_p (i := 30) (q := (yX0_alike, _)) rfl rfl
theorem k1385 : Cond.selects RX3 yX3_spanFits yX3_spanFits ∈ zt := zin_p (i := 31) (q := (yX3_spanFits, _)) rfl rfl
theorem k1386 : Cond.selects RX3 yX3_pairFits yX3_pairFits ∈ zt := zin_p (i := 32) (q := (yX3_pairFits, _)) rfl rfl
theorem k1387 : Cond.selects RX3 yX3_makeGreatest yX3_makeGreatest ∈ zt := zin_p (i := 33) (q := (yX3_makeGreatest, _)) rfl rfl
theorem k1388 : Cond.selects RX4 yX4_keepBetter yX4_keepBetter ∈ zt := zin_p (i := 34) (q := (yX4_keepBetter, _)) rfl rfl
theorem k1389 : Cond.selects RX4 yX4_laidIsLess yX4_laidIsLess ∈ zt := zin_p (i := 35) (q := (yX4_laidIsLess, _)) rfl rfl
theorem k1390 : Cond.selects RX4 yX4_layPiece yX4_layPiece ∈ zt := zin_p (i := 36) (q := (yX4_layPiece, _)) rfl rfl
theorem k1391 : Cond.selects RX4 yX4_alike yX4_alike ∈ zt := zin_p (i := 37) (q := (yX4_alike, _)) rfl rfl
theorem k1392 : Cond.selects RX4 yX4_sound yX4_sound ∈ zt := zin_p (i := 38) (q := (yX4_sound, _)) rfl rfl
theorem k1393 : Cond.selects RX10 yX10_editsTurned yX10_editsTurned ∈ zt := zin_p (i := 39) (q := (yX10_editsTurned, _)) rfl rfl
theorem k1394 : Cond.selects RX12 yX12_skipRow yX12_skipRow ∈ zt := zin_p (i := 41) (q := (yX12_skipRow, _)) rfl rfl
theorem k1395 : Cond.selects RX12 yX12_skipTerm yX12_skipTerm ∈ zt := zin_p (i := 42) (q := (yX12_skipTerm, _)) rfl rfl
theorem k1396 : Cond.selects RX12 yX12_skipAtom yX12_skipAtom ∈ zt := zin_p (i := 43) (q := (yX12_skipAtom, _)) rfl rfl
theorem k1397 : Cond.selects RX12 yX12_has yX12_has ∈ zt := zin_p (i := 44) (q := (yX12_has, _)) rfl rfl
theorem k1398 : Cond.selects RX12 yX12_isWrong yX12_isWrong ∈ zt := zin_p (i := 45) (q := (yX12_isWrong, _)) rfl rfl
theorem k1399 : Cond.selects RX12 yX12_makeRow yX12_makeRow ∈ zt := zin_p (i := 46) (q := (yX12_makeRow, _)) rfl rfl
theorem k1400 : Cond.selects RX12 yX12_makeTerm yX12_makeTerm ∈ zt := zin_p (i := 47) (q := (yX12_makeTerm, _)) rfl rfl
theorem k1401 : Cond.selects RX12 yX12_isRing yX12_isRing ∈ zt := zin_p (i := 48) (q := (yX12_isRing, _)) rfl rfl
theorem k1402 : Cond.selects RX12 yX12_round yX12_round ∈ zt := zin_p (i := 49) (q := (yX12_round, _)) rfl rfl
theorem k1403 : Cond.selects RX12 yX12_lastSpeed yX12_lastSpeed ∈ zt := zin_p (i := 50) (q := (yX12_lastSpeed, _)) rfl rfl
theorem k1404 : Cond.selects RX12 yX12_wayEarly yX12_wayEarly ∈ zt := zin_p (i := 51) (q := (yX12_wayEarly, _)) rfl rfl
theorem k1405 : Cond.selects RX12 yX12_heardInAll yX12_heardInAll ∈ zt := zin_p (i := 52) (q := (yX12_heardInAll, _)) rfl rfl
theorem k1406 : Cond.selects RX12 yX12_heardOf yX12_heardOf ∈ zt := zin_p (i := 53) (q := (yX12_heardOf, _)) rfl rfl
theorem k1407 : Cond.selects RX12 yX12_wayBy yX12_wayBy ∈ zt := zin_p (i := 54) (q := (yX12_wayBy, _)) rfl rfl
theorem k1408 : Cond.selects RX12 yX12_steady yX12_steady ∈ zt := zin_p (i := 55) (q := (yX12_steady, _)) rfl rfl
theorem k1409 : Cond.selects RX12 yX12_heardAt yX12_heardAt ∈ zt := zin_p (i := 56) (q := (yX12_heardAt, _)) rfl rfl
theorem k1410 : Cond.selects RX12 yX12_allRounds yX12_allRounds ∈ zt := zin_p (i := 57) (q := (yX12_allRounds, _)) rfl rfl
theorem k1411 : Cond.selects RX12 yX12_steadyAll yX12_steadyAll ∈ zt := zin_p (i := 58) (q := (yX12_steadyAll, _)) rfl rfl
theorem k1412 : Cond.selects RX12 yX12_meetsAt yX12_meetsAt ∈ zt := zin_p (i := 59) (q := (yX12_meetsAt, _)) rfl rfl
theorem k1413 : Cond.selects RX12 yX12_findHeard yX12_findHeard ∈ zt := zin_p (i := 60) (q := (yX12_findHeard, _)) rfl rfl
theorem k1414 : Cond.selects RX12 yX12_meetsBehind yX12_meetsBehind ∈ zt := zin_p (i := 61) (q := (yX12_meetsBehind, _)) rfl rfl
theorem k1415 : Cond.selects RX12 yX12_truths yX12_truths ∈ zt := zin_p (i := 62) (q := (yX12_truths, _)) rfl rfl
theorem k1416 : Cond.selects RX12 yX12_findPlan yX12_findPlan ∈ zt := zin_p (i := 63) (q := (yX12_findPlan, _)) rfl rfl
theorem k1417 : Cond.selects RX12 yX12_costOf yX12_costOf ∈ zt := zin_p (i := 64) (q := (yX12_costOf, _)) rfl rfl
theorem k1418 : Cond.selects RX12 yX12_findOuts yX12_findOuts ∈ zt := zin_p (i := 65) (q := (yX12_findOuts, _)) rfl rfl
theorem k1419 : Cond.selects RX12 yX12_areAlike yX12_areAlike ∈ zt := zin_p (i := 66) (q := (yX12_areAlike, _)) rfl rfl
theorem k1420 : Cond.selects RX12 yX12_isSpan yX12_isSpan ∈ zt := zin_p (i := 67) (q := (yX12_isSpan, _)) rfl rfl
theorem k1421 : Cond.selects RX12 yX12_pairAt yX12_pairAt ∈ zt := zin_p (i := 68) (q := (yX12_pairAt, _)) rfl rfl
theorem k1422 : Cond.selects RX12 yX12_isPair yX12_isPair ∈ zt := zin_p (i := 69) (q := (yX12_isPair, _)) rfl rfl
theorem k1423 : Cond.selects RX12 yX12_most yX12_most ∈ zt := zin_p (i := 70) (q := (yX12_most, _)) rfl rfl
theorem k1424 : Cond.selects RX12 yX12_joinFrom yX12_joinFrom ∈ zt := zin_p (i := 71) (q := (yX12_joinFrom, _)) rfl rfl
theorem k1425 : Cond.selects RX12 yX12_lies yX12_lies ∈ zt := zin_p (i := 72) (q := (yX12_lies, _)) rfl rfl
theorem k1426 : Cond.selects RX12 yX12_sound yX12_sound ∈ zt := zin_p (i := 73) (q := (yX12_sound, _)) rfl rfl
theorem k1427 : Cond.selects RX12 yX12_editsBy yX12_editsBy ∈ zt := zin_p (i := 74) (q := (yX12_editsBy, _)) rfl rfl
theorem u0 : ∀ w ∈ u_ws RX0 TX0 8, w ∈ zt := by
  intro w h
  obtain ⟨k, hk, rfl⟩ := List.mem_map.mp h
  have hk := List.mem_range.mp hk
  exact match k, hk with
  | 0, _ => k182
  | 1, _ => k183
  | 2, _ => k184
  | 3, _ => k185
  | 4, _ => k186
  | 5, _ => k187
  | 6, _ => k188
  | 7, _ => k189
  | k + 8, h => absurd h (by omega)
theorem u1 : ∀ w ∈ u_ws RX1 TX1 4, w ∈ zt := by
  intro w h
  obtain ⟨k, hk, rfl⟩ := List.mem_map.mp h
  have hk := List.mem_range.mp hk
  exact match k, hk with
  | 0, _ => k133
  | 1, _ => k134
  | 2, _ => k135
  | 3, _ => k136
  | k + 4, h => absurd h (by omega)
theorem u2 : ∀ w ∈ u_ws RX2 TX2 3, w ∈ zt := by
  intro w h
  obtain ⟨k, hk, rfl⟩ := List.mem_map.mp h
  have hk := List.mem_range.mp hk
  exact match k, hk with
  | 0, _ => k85
  | 1, _ => k86
  | 2, _ => k87
  | k + 3, h => absurd h (by omega)
theorem u3 : ∀ w ∈ u_ws RX3 TX3 4, w ∈ zt := by
  intro w h
  obtain ⟨k, hk, rfl⟩ := List.mem_map.mp h
  have hk := List.mem_range.mp hk
  exact match k, hk with
  | 0, _ => k200
  | 1, _ => k201
  | 2, _ => k202
  | 3, _ => k203
  | k + 4, h => absurd h (by omega)
theorem u4 : ∀ w ∈ u_ws RX4 TX4 6, w ∈ zt := by
  intro w h
  obtain ⟨k, hk, rfl⟩ := List.mem_map.mp h
  have hk := List.mem_range.mp hk
  exact match k, hk with
  | 0, _ => k218
  | 1, _ => k219
  | 2, _ => k220
  | 3, _ => k221
  | 4, _ => k222
  | 5, _ => k223
  | k + 6, h => absurd h (by omega)
theorem u5 : ∀ w ∈ u_ws RX5 TX5 9, w ∈ zt := by
  intro w h
  obtain ⟨k, hk, rfl⟩ := List.mem_map.mp h
  have hk := List.mem_range.mp hk
  exact match k, hk with
  | 0, _ => k154
  | 1, _ => k155
  | 2, _ => k156
  | 3, _ => k157
  | 4, _ => k158
  | 5, _ => k159
  | 6, _ => k160
  | 7, _ => k161
  | 8, _ => k162
  | k + 9, h => absurd h (by omega)
theorem u6 : ∀ w ∈ u_ws RX6 TX6 6, w ∈ zt := by
  intro w h
  obtain ⟨k, hk, rfl⟩ := List.mem_map.mp h
  have hk := List.mem_range.mp hk
  exact match k, hk with
  | 0, _ => k110
  | 1, _ => k111
  | 2, _ => k112
  | 3, _ => k113
  | 4, _ => k114
  | 5, _ => k115
  | k + 6, h => absurd h (by omega)
theorem u7 : ∀ w ∈ u_ws RX7 TX7 7, w ∈ zt := by
  intro w h
  obtain ⟨k, hk, rfl⟩ := List.mem_map.mp h
  have hk := List.mem_range.mp hk
  exact match k, hk with
  | 0, _ => k62
  | 1, _ => k63
  | 2, _ => k64
  | 3, _ => k65
  | 4, _ => k66
  | 5, _ => k67
  | 6, _ => k68
  | k + 7, h => absurd h (by omega)
theorem u8 : ∀ w ∈ u_ws RX8 TX8 2, w ∈ zt := by
  intro w h
  obtain ⟨k, hk, rfl⟩ := List.mem_map.mp h
  have hk := List.mem_range.mp hk
  exact match k, hk with
  | 0, _ => k51
  | 1, _ => k52
  | k + 2, h => absurd h (by omega)
theorem u9 : ∀ w ∈ u_ws RX9 TX9 3, w ∈ zt := by
  intro w h
  obtain ⟨k, hk, rfl⟩ := List.mem_map.mp h
  have hk := List.mem_range.mp hk
  exact match k, hk with
  | 0, _ => k121
  | 1, _ => k122
  | 2, _ => k123
  | k + 3, h => absurd h (by omega)
theorem u10 : ∀ w ∈ u_ws RX10 TX10 5, w ∈ zt := by
  intro w h
  obtain ⟨k, hk, rfl⟩ := List.mem_map.mp h
  have hk := List.mem_range.mp hk
  exact match k, hk with
  | 0, _ => k237
  | 1, _ => k238
  | 2, _ => k239
  | 3, _ => k240
  | 4, _ => k241
  | k + 5, h => absurd h (by omega)
theorem u11 : ∀ w ∈ u_ws RX11 TX11 11, w ∈ zt := by
  intro w h
  obtain ⟨k, hk, rfl⟩ := List.mem_map.mp h
  have hk := List.mem_range.mp hk
  exact match k, hk with
  | 0, _ => k253
  | 1, _ => k254
  | 2, _ => k255
  | 3, _ => k256
  | 4, _ => k257
  | 5, _ => k258
  | 6, _ => k259
  | 7, _ => k260
  | 8, _ => k261
  | 9, _ => k262
  | 10, _ => k263
  | k + 11, h => absurd h (by omega)
theorem u12 : ∀ w ∈ u_ws RX12 TX12 50, w ∈ zt := by
  intro w h
  obtain ⟨k, hk, rfl⟩ := List.mem_map.mp h
  have hk := List.mem_range.mp hk
  exact match k, hk with
  | 0, _ => k994
  | 1, _ => k995
  | 2, _ => k996
  | 3, _ => k997
  | 4, _ => k998
  | 5, _ => k999
  | 6, _ => k1000
  | 7, _ => k1001
  | 8, _ => k1002
  | 9, _ => k1003
  | 10, _ => k1004
  | 11, _ => k1005
  | 12, _ => k1006
  | 13, _ => k1007
  | 14, _ => k1008
  | 15, _ => k1009
  | 16, _ => k1010
  | 17, _ => k1011
  | 18, _ => k1012
  | 19, _ => k1013
  | 20, _ => k1014
  | 21, _ => k1015
  | 22, _ => k1016
  | 23, _ => k1017
  | 24, _ => k1018
  | 25, _ => k1019
  | 26, _ => k1020
  | 27, _ => k1021
  | 28, _ => k1022
  | 29, _ => k1023
  | 30, _ => k1024
  | 31, _ => k1025
  | 32, _ => k1026
  | 33, _ => k1027
  | 34, _ => k1028
  | 35, _ => k1029
  | 36, _ => k1030
  | 37, _ => k1031
  | 38, _ => k1032
  | 39, _ => k1033
  | 40, _ => k1034
  | 41, _ => k1035
  | 42, _ => k1036
  | 43, _ => k1037
  | 44, _ => k1038
  | 45, _ => k1039
  | 46, _ => k1040
  | 47, _ => k1041
  | 48, _ => k1042
  | 49, _ => k1043
  | k + 50, h => absurd h (by omega)
def z_nest : List (String × Nat × MethodName × String) := [(RX7, 37, yX8_init, RX11), (RX11, 18, yX8_init, RX11), (RX9, 27, yX2_init, RX11), (RX9, 28, yX6_init, RX11), (RX6, 11, yX8_init, RX11), (RX11, 32, yX1_init, RX11), (RX11, 39, yX5_init, RX11), (RX11, 53, yX3_init, RX11), (RX11, 60, yX4_init, RX11), (RX10, 31, yX8_init, RX11), (RX6, 56, yX11_by, RX11), (RX2, 36, yX11_by, RX11), (RX2, 43, yX11_withoutShared, RX11), (RX1, 47, yX11_leastMultiple, RX11), (RX1, 54, yX11_greatestDivisor, RX11), (RX1, 62, yX11_by, RX11), (RX5, 107, yX11_by, RX11), (RX3, 35, yX11_by, RX11), (RX10, 55, yX11_by, RX11)]
theorem z_nest_in : ∀ q ∈ z_nest, Cond.methodLinkNest q.1 q.2.1 q.2.2.1 q.2.2.2 ∈ lw_tbl := by
  intro q hq
  unfold z_nest at hq
  simp only [List.mem_cons, List.not_mem_nil, or_false] at hq
  rcases hq with rfl | rfl | rfl | rfl | rfl | rfl | rfl | rfl | rfl | rfl | rfl | rfl | rfl | rfl | rfl | rfl | rfl | rfl | rfl
  · exact zin0_1 (List.mem_of_getElem? (i := 39) (by decide +kernel))
  · exact zin0_1 (List.mem_of_getElem? (i := 83) (by decide +kernel))
  · exact zin0_1 (List.mem_of_getElem? (i := 95) (by decide +kernel))
  · exact zin0_1 (List.mem_of_getElem? (i := 110) (by decide +kernel))
  · exact zin0_1 (List.mem_of_getElem? (i := 115) (by decide +kernel))
  · exact zin0_1 (List.mem_of_getElem? (i := 160) (by decide +kernel))
  · exact zin0_1 (List.mem_of_getElem? (i := 179) (by decide +kernel))
  · exact zin0_2 (List.mem_of_getElem? (i := 13) (by decide +kernel))
  · exact zin0_2 (List.mem_of_getElem? (i := 33) (by decide +kernel))
  · exact zin0_2 (List.mem_of_getElem? (i := 66) (by decide +kernel))
  · exact zin0_3 (List.mem_of_getElem? (i := 34) (by decide +kernel))
  · exact zin0_3 (List.mem_of_getElem? (i := 128) (by decide +kernel))
  · exact zin0_3 (List.mem_of_getElem? (i := 161) (by decide +kernel))
  · exact zin0_3 (List.mem_of_getElem? (i := 179) (by decide +kernel))
  · exact zin0_3 (List.mem_of_getElem? (i := 213) (by decide +kernel))
  · exact zin0_3 (List.mem_of_getElem? (i := 218) (by decide +kernel))
  · exact zin0_4 (List.mem_of_getElem? (i := 39) (by decide +kernel))
  · exact zin0_4 (List.mem_of_getElem? (i := 183) (by decide +kernel))
  · exact zin0_5 (List.mem_of_getElem? (i := 57) (by decide +kernel))
end
section
/-! BASE: ints and longs by their integers; a world of cells at fixed places, its numbers in one table M; one row an instruction over it -/
abbrev R32 (z : Int) : Prop := -2147483648 ≤ z ∧ z ≤ 2147483647
abbrev R64 (z : Int) : Prop := -9223372036854775808 ≤ z ∧ z ≤ 9223372036854775807
def iI (z : Int) : Int32 := Int32.ofInt z
def iL (z : Int) : Int64 := Int64.ofInt z
theorem iI_t {z : Int} (h : R32 z) : (iI z).toInt = z := by
  unfold iI
  rw [Int32.toInt_ofInt]
  exact Int.bmod_eq_of_le (by have := h.1; simp only [Int32.size]; omega) (by have := h.2; simp only [Int32.size]; omega)
theorem iL_t {z : Int} (h : R64 z) : (iL z).toInt = z := by
  unfold iL
  rw [Int64.toInt_ofInt]
  exact Int.bmod_eq_of_le (by have := h.1; simp only [Int64.size]; omega) (by have := h.2; simp only [Int64.size]; omega)
theorem iI_r (x : Int32) : R32 x.toInt := ⟨by have := Int32.le_toInt x; omega, by have := Int32.toInt_lt x; omega⟩
theorem iL_r (x : Int64) : R64 x.toInt := ⟨by have := Int64.le_toInt x; omega, by have := Int64.toInt_lt x; omega⟩
theorem iI_e (x : Int32) : iI x.toInt = x := Int32.ofInt_toInt x
theorem iL_e (x : Int64) : iL x.toInt = x := Int64.ofInt_toInt x
theorem iI_of (x : Int32) : ∃ z, R32 z ∧ x = iI z := ⟨x.toInt, iI_r x, (iI_e x).symm⟩
theorem iL_of (x : Int64) : ∃ z, R64 z ∧ x = iL z := ⟨x.toInt, iL_r x, (iL_e x).symm⟩
theorem iI_inj {a b : Int} (ha : R32 a) (hb : R32 b) (h : iI a = iI b) : a = b := by rw [← iI_t ha, h, iI_t hb]
theorem iL_inj {a b : Int} (ha : R64 a) (hb : R64 b) (h : iL a = iL b) : a = b := by rw [← iL_t ha, h, iL_t hb]
theorem iI_add (a b : Int) : iI a + iI b = iI (a + b) := by
  apply Int32.toInt_inj.mp
  simp [iI, Int32.toInt_add, Int32.toInt_ofInt]
theorem iI_sub (a b : Int) : iI a - iI b = iI (a - b) := by
  apply Int32.toInt_inj.mp
  simp [iI, Int32.toInt_sub, Int32.toInt_ofInt]
theorem iI_mul (a b : Int) : iI a * iI b = iI (a * b) := by
  apply Int32.toInt_inj.mp
  simp [iI, Int32.toInt_mul, Int32.toInt_ofInt]
theorem iI_neg (a : Int) : -iI a = iI (-a) := by
  apply Int32.toInt_inj.mp
  simp [iI, Int32.toInt_neg, Int32.toInt_ofInt]
theorem iL_add (a b : Int) : iL a + iL b = iL (a + b) := by
  apply Int64.toInt_inj.mp
  simp [iL, Int64.toInt_add, Int64.toInt_ofInt]
theorem iL_sub (a b : Int) : iL a - iL b = iL (a - b) := by
  apply Int64.toInt_inj.mp
  simp [iL, Int64.toInt_sub, Int64.toInt_ofInt]
theorem iL_mul (a b : Int) : iL a * iL b = iL (a * b) := by
  apply Int64.toInt_inj.mp
  simp [iL, Int64.toInt_mul, Int64.toInt_ofInt]
theorem iI_lt {a b : Int} (ha : R32 a) (hb : R32 b) : iI a < iI b ↔ a < b := by rw [Int32.lt_iff_toInt_lt, iI_t ha, iI_t hb]
theorem iI_le {a b : Int} (ha : R32 a) (hb : R32 b) : iI a ≤ iI b ↔ a ≤ b := by rw [Int32.le_iff_toInt_le, iI_t ha, iI_t hb]
theorem iI_eq {a b : Int} (ha : R32 a) (hb : R32 b) : iI a = iI b ↔ a = b := ⟨iI_inj ha hb, fun h => by rw [h]⟩
theorem iL_lt {a b : Int} (ha : R64 a) (hb : R64 b) : iL a < iL b ↔ a < b := by rw [Int64.lt_iff_toInt_lt, iL_t ha, iL_t hb]
theorem iL_le {a b : Int} (ha : R64 a) (hb : R64 b) : iL a ≤ iL b ↔ a ≤ b := by rw [Int64.le_iff_toInt_le, iL_t ha, iL_t hb]
theorem iL_eq {a b : Int} (ha : R64 a) (hb : R64 b) : iL a = iL b ↔ a = b := ⟨iL_inj ha hb, fun h => by rw [h]⟩
theorem iI_0 : (0 : Int32) = iI 0 := rfl
theorem iI_1 : (1 : Int32) = iI 1 := rfl
theorem iI_div {a b : Int} (ha : R32 a) (hb : R32 b) : iI a / iI b = iI (a.tdiv b) := by
  apply Int32.toInt_inj.mp
  rw [Int32.toInt_div, iI_t ha, iI_t hb]
  simp [iI, Int32.toInt_ofInt]
theorem iL_div {a b : Int} (ha : R64 a) (hb : R64 b) : iL a / iL b = iL (a.tdiv b) := by
  apply Int64.toInt_inj.mp
  rw [Int64.toInt_div, iL_t ha, iL_t hb]
  simp [iL, Int64.toInt_ofInt]
theorem iI_rem {a b : Int} (ha : R32 a) (hb : R32 b) : iI a - iI a / iI b * iI b = iI (a.tmod b) := by
  rw [iI_div ha hb, iI_mul, iI_sub]
  congr 1
  rw [Int.tmod_def, Int.mul_comm]
theorem iL_rem {a b : Int} (ha : R64 a) (hb : R64 b) : iL a - iL a / iL b * iL b = iL (a.tmod b) := by
  rw [iL_div ha hb, iL_mul, iL_sub]
  congr 1
  rw [Int.tmod_def, Int.mul_comm]
theorem iI_long {a : Int} (ha : R32 a) : (iI a).toInt64 = iL a := by
  apply Int64.toInt_inj.mp
  rw [Int32.toInt_toInt64, iI_t ha, iL_t ⟨by omega, by omega⟩]
theorem iL_int (a : Int) : (iL a).toInt32 = iI a := by
  unfold iL iI
  exact Int64.toInt32_ofInt
theorem iI_in {z : Int} {n : Nat} (h0 : 0 ≤ z) (h : z < n) (hn : n < 2147483648) : vp_in (iI z) n ∧ (iI z).toNatClampNeg = z.toNat := by
  have ht : (iI z).toInt = z := iI_t ⟨by omega, by omega⟩
  refine ⟨?_, ?_⟩
  · rw [vp_in_iff, ht]
    omega
  · show (iI z).toInt.toNat = z.toNat
    rw [ht]
/-! WORLDS: cells at b, b + 1, ..; the numbers that they hold in one table M; where references lead is fixed -/
abbrev zM : Type := Nat → Nat → Int
def zup (M : zM) (j k : Nat) (v : Int) : zM := fun a b => if a = j ∧ b = k then v else M a b
theorem zup_s (M : zM) (j k : Nat) (v : Int) : zup M j k v j k = v := by simp [zup]
theorem zup_n (M : zM) {j k a b : Nat} (v : Int) (h : ¬ (a = j ∧ b = k)) : zup M j k v a b = M a b := by simp [zup, h]
theorem zup_row (M : zM) {j k a : Nat} (v : Int) (h : a ≠ j) : zup M j k v a = M a := by funext b; simp [zup, h]
/-- a plan: the code of each place; by the code: its kind (below 100 objects of that class, 100 ints, 101 longs, 102 bytes, 103 booleans, 104 and on references), its length, where references lead, the bounds of its numbers, which part of the world it is; by the class: how many fields, their kinds (0 int, 1 long, else reference) -/
abbrev zW : Type := (Nat → Nat) × (Nat → Nat) × (Nat → Nat) × (Nat → Nat → Nat → Nat) × (Nat → Nat) × (Nat → Nat → Nat) × (Nat → Nat → Int × Int) × (Nat → Nat → Nat)
abbrev zcd (w : zW) (j : Nat) : Nat := w.1 j
abbrev zkd (w : zW) (j : Nat) : Nat := w.2.1 (w.1 j)
abbrev zln (w : zW) (j : Nat) : Nat := w.2.2.1 (w.1 j)
abbrev zrf (w : zW) (j k : Nat) : Nat := w.2.2.2.1 (w.1 j) j k
abbrev znf (w : zW) : Nat → Nat := w.2.2.2.2.1
abbrev zfk (w : zW) : Nat → Nat → Nat := w.2.2.2.2.2.1
abbrev zbd (w : zW) (j k : Nat) : Int × Int := w.2.2.2.2.2.2.1 (w.1 j) k
abbrev zmc (w : zW) (j k : Nat) : Nat := w.2.2.2.2.2.2.2 (w.1 j) k
def zms (w : zW) (L : List Nat) (j k : Nat) : Bool := L.elem (zmc w j k)
theorem zkd_of {w : zW} {j q r : Nat} (h : zcd w j = q) (h2 : w.2.1 q = r) : zkd w j = r := by unfold zkd; rw [show w.1 j = q from h]; exact h2
theorem zln_of {w : zW} {j q r : Nat} (h : zcd w j = q) (h2 : w.2.2.1 q = r) : zln w j = r := by unfold zln; rw [show w.1 j = q from h]; exact h2
theorem zrf_of {w : zW} {j k q r : Nat} (h : zcd w j = q) (h2 : w.2.2.2.1 q j k = r) : zrf w j k = r := by unfold zrf; rw [show w.1 j = q from h]; exact h2
theorem zbd_of {w : zW} {j k q : Nat} {r : Int × Int} (h : zcd w j = q) (h2 : w.2.2.2.2.2.2.1 q k = r) : zbd w j k = r := by unfold zbd; rw [show w.1 j = q from h]; exact h2
theorem zms_of {w : zW} {L : List Nat} {j k q : Nat} (h : zcd w j = q) (h2 : L.elem (w.2.2.2.2.2.2.2 q k) = true) : zms w L j k = true := by unfold zms zmc; rw [show w.1 j = q from h]; exact h2
theorem zms_not {w : zW} {L : List Nat} {j k q : Nat} (h : zcd w j = q) (h2 : L.elem (w.2.2.2.2.2.2.2 q k) = false) : zms w L j k = false := by unfold zms zmc; rw [show w.1 j = q from h]; exact h2
theorem zms_sub {w : zW} {L L' : List Nat} (h : L'.all (fun x => L.elem x) = true) : ∀ j k, zms w L j k = false → zms w L' j k = false := by
  intro j k h1
  unfold zms at *
  cases h2 : L'.elem (zmc w j k) with
  | false => rfl
  | true =>
    have h3 := List.all_eq_true.mp h _ (List.elem_iff.mp h2)
    rw [h3] at h1
    cases h1
/-- what a place may hold, by its code -/
theorem zJ_at {w : zW} {M : zM} (h : ∀ j k, (zbd w j k).1 ≤ M j k ∧ M j k ≤ (zbd w j k).2) {j k q : Nat} {lo hi : Int} (hc : zcd w j = q) (h2 : w.2.2.2.2.2.2.1 q k = (lo, hi)) : lo ≤ M j k ∧ M j k ≤ hi := by
  have h3 := h j k
  rw [zbd_of hc h2] at h3
  exact h3
theorem zbd_in {w : zW} {j k q : Nat} {lo hi z : Int} (hc : zcd w j = q) (h2 : w.2.2.2.2.2.2.1 q k = (lo, hi)) (h3 : lo ≤ z ∧ z ≤ hi) : (zbd w j k).1 ≤ z ∧ z ≤ (zbd w j k).2 := by
  rw [zbd_of hc h2]
  exact h3
def zfv (w : zW) (b j k : Nat) (v : Int) : Value := if zfk w (zkd w j) k = 0 then .int (iI v) else if zfk w (zkd w j) k = 1 then .long (iL v) else .ref (b + zrf w j k)
def zfs (w : zW) (b j : Nat) (row : Nat → Int) : List Value := (List.range (znf w (zkd w j))).map (fun k => zfv w b j k (row k))
def zar (w : zW) (b j : Nat) (row : Nat → Int) : vp_A := if zkd w j = 101 then (zln w j, .inr (.inl (fun k => iL (row k)))) else if zkd w j < 104 then (zln w j, .inl (fun k => iI (row k))) else (zln w j, .inr (.inr (.inr (.inr (fun k => some (b + zrf w j k))))))
def zcell (dA : Nat → ClassId) (w : zW) (b j : Nat) (row : Nat → Int) : va_E := if zkd w j < 100 then .inr (zkd w j, zfs w b j row) else .inl (dA (zkd w j - 100), zar w b j row)
def zR (D : va_G) (dA : Nat → ClassId) (cl : List vw_C) (w : zW) (N b : Nat) (M : zM) (H : Heap) : Prop := ∀ j, j < N → va_at D cl (b + j, zcell dA w b j (M j)) H
def zJ (w : zW) (M : zM) : Prop := ∀ j k, (zbd w j k).1 ≤ M j k ∧ M j k ≤ (zbd w j k).2
def zF (ms : Nat → Nat → Bool) (M0 M : zM) : Prop := ∀ j k, ms j k = false → M j k = M0 j k
def zS (D : va_G) (dA : Nat → ClassId) (cl : List vw_C) (w : zW) (N b : Nat) (ms : Nat → Nat → Bool) (M0 M : zM) (H : Heap) : Prop := zR D dA cl w N b M H ∧ zJ w M ∧ zF ms M0 M
abbrev zA (N b : Nat) : Nat → Prop := fun q => b ≤ q ∧ q < b + N
theorem zF_rf (ms : Nat → Nat → Bool) (M : zM) : zF ms M M := fun _ _ _ => rfl
theorem zF_tr {ms : Nat → Nat → Bool} {M0 M1 M2 : zM} (h1 : zF ms M0 M1) (h2 : zF ms M1 M2) : zF ms M0 M2 := fun j k h => (h2 j k h).trans (h1 j k h)
theorem zF_mono {ms ms' : Nat → Nat → Bool} {M0 M1 : zM} (h1 : zF ms M0 M1) (hm : ∀ j k, ms' j k = false → ms j k = false) : zF ms' M0 M1 := fun j k h => h1 j k (hm j k h)
theorem zF_up {ms : Nat → Nat → Bool} {M0 M : zM} (h : zF ms M0 M) {j k : Nat} {v : Int} (hm : ms j k = true) : zF ms M0 (zup M j k v) := by
  intro a b hab
  rw [zup_n]
  · exact h a b hab
  · rintro ⟨rfl, rfl⟩
    rw [hm] at hab
    cases hab
theorem zJ_up {w : zW} {M : zM} (h : zJ w M) {j k : Nat} {v : Int} (hb : (zbd w j k).1 ≤ v ∧ v ≤ (zbd w j k).2) : zJ w (zup M j k v) := by
  intro a b
  by_cases hab : a = j ∧ b = k
  · obtain ⟨rfl, rfl⟩ := hab
    rw [zup_s]
    exact hb
  · rw [zup_n M v hab]
    exact h a b
theorem zfs_at {w : zW} {b j k : Nat} {row : Nat → Int} (h : k < znf w (zkd w j)) : (zfs w b j row)[k]? = some (zfv w b j k (row k)) := by
  simp [zfs, h]
theorem zfs_V {w : zW} {b j k : Nat} {row : Nat → Int} (h : k < znf w (zkd w j)) : vp_V (zfs w b j row) k = zfv w b j k (row k) := by
  simp [vp_V, List.getD, zfs_at h]
/-- a field by a plan: class, place, kind; names by the class's table -/
def zFld (cl : List vw_C) (w : zW) (ci : Nat) (C : String) (T : u_T) (n k kind : Nat) : Prop := cl[ci]? = some (C, T, n) ∧ ci < 100 ∧ znf w ci = n ∧ k < n ∧ zfk w ci k = kind
def zLk (s : State) (args : Array Value) (own : String) (index : Nat) (ref name desc : String) : Prop := (Cond.fieldLink own index ref name desc).before args s = true ∨ ∃ host : String, (Cond.fieldLinkNest own index ref name desc host).before args s = true
section ZW
variable {p : Program} {l : Launch} {e : Env} {R : Room} {s : State} {m : MethodId} {args : Array Value} {below : List Frame} {meth : Method} {c : Code} {H : Heap} {locs : List Loc} {cells slots : Nat} {Q : State → Prop}
variable {cc : ByteArray} {pc : Nat} {ls : Array Slot} {rest : List Value} {D : va_G} {dA : Nat → ClassId} {cl : List vw_C} {tys : List (ClassId × FieldType)} {H0 : Heap} {w : zW} {N b : Nat} {ms : Nat → Nat → Bool} {M0 M : zM}
theorem z_getv (hexec : p.tables.exec = Jvm.exec) (hb : c.code = cc) {own C : String} {T : u_T} {n ci index j k kind : Nat} {Ts : List Cond} (hts : ∀ w ∈ Ts, w.before args s = true) (hin : ∀ w ∈ u_ws C T n, w ∈ Ts) (hown : s.vm.findClass own = some m.cls) (hK : va_K D cl tys s) (hR : zR D dA cl w N b M H)
    (hf : zFld cl w ci C T n k kind) (hj : j < N) (hkd : zkd w j = ci) (hlink : zLk s args own index (T k).1 (T k).2.1 (T k).2.2.1) (hdg : decode cc pc = .ok (.getfield index, 3))
    (kk : W p l e R s m args below meth c H locs cells slots Q (F0 m (pc + 3) ls (zfv w b j k (M j k) :: rest))) : W p l e R s m args below meth c H locs cells slots Q (F0 m pc ls (.ref (b + j) :: rest)) := by
  obtain ⟨hc, hci, hn, hk, -⟩ := hf
  subst hkd
  have hP : va_P D cl [(b + j, .inr (zkd w j, zfs w b j (M j)))] H := by
    intro i q hq
    have hi : i = 0 := by
      have := (List.getElem?_eq_some_iff.mp hq).1
      simp at this
      exact this
    subst hi
    cases hq
    have h := hR j hj
    unfold zcell at h
    rw [if_pos hci] at h
    exact h
  have hv : (zfs w b j (M j))[k]? = some (zfv w b j k (M j k)) := zfs_at (by rw [hn]; exact hk)
  rcases hlink with hl | ⟨host, hl⟩
  · exact va_get hexec hb hts hin hown hK hP 0 rfl hc k hk hl (fun _ h => h) hv hdg kk
  · exact va_getN hexec hb hts hin hown hK hP 0 rfl hc k hk hl (fun _ h => h) hv hdg kk
theorem z_geti (hexec : p.tables.exec = Jvm.exec) (hb : c.code = cc) {own C : String} {T : u_T} {n ci index j k : Nat} {Ts : List Cond} (hts : ∀ w ∈ Ts, w.before args s = true) (hin : ∀ w ∈ u_ws C T n, w ∈ Ts) (hown : s.vm.findClass own = some m.cls) (hK : va_K D cl tys s) (hS : zS D dA cl w N b ms M0 M H)
    (hf : zFld cl w ci C T n k 0) (hj : j < N) (hkd : zkd w j = ci) (hlink : zLk s args own index (T k).1 (T k).2.1 (T k).2.2.1) (hdg : decode cc pc = .ok (.getfield index, 3))
    (kk : W p l e R s m args below meth c H locs cells slots Q (F0 m (pc + 3) ls (.int (iI (M j k)) :: rest))) : W p l e R s m args below meth c H locs cells slots Q (F0 m pc ls (.ref (b + j) :: rest)) := by
  refine z_getv hexec hb hts hin hown hK hS.1 hf hj hkd hlink hdg ?_
  unfold zfv
  rw [hkd, if_pos hf.2.2.2.2]
  exact kk
theorem z_getl (hexec : p.tables.exec = Jvm.exec) (hb : c.code = cc) {own C : String} {T : u_T} {n ci index j k : Nat} {Ts : List Cond} (hts : ∀ w ∈ Ts, w.before args s = true) (hin : ∀ w ∈ u_ws C T n, w ∈ Ts) (hown : s.vm.findClass own = some m.cls) (hK : va_K D cl tys s) (hS : zS D dA cl w N b ms M0 M H)
    (hf : zFld cl w ci C T n k 1) (hj : j < N) (hkd : zkd w j = ci) (hlink : zLk s args own index (T k).1 (T k).2.1 (T k).2.2.1) (hdg : decode cc pc = .ok (.getfield index, 3))
    (kk : W p l e R s m args below meth c H locs cells slots Q (F0 m (pc + 3) ls (.long (iL (M j k)) :: rest))) : W p l e R s m args below meth c H locs cells slots Q (F0 m pc ls (.ref (b + j) :: rest)) := by
  refine z_getv hexec hb hts hin hown hK hS.1 hf hj hkd hlink hdg ?_
  unfold zfv
  rw [hkd, if_neg (by rw [hf.2.2.2.2]; decide), if_pos hf.2.2.2.2]
  exact kk
theorem z_getr (hexec : p.tables.exec = Jvm.exec) (hb : c.code = cc) {own C : String} {T : u_T} {n ci index j k j2 : Nat} {Ts : List Cond} (hts : ∀ w ∈ Ts, w.before args s = true) (hin : ∀ w ∈ u_ws C T n, w ∈ Ts) (hown : s.vm.findClass own = some m.cls) (hK : va_K D cl tys s) (hS : zS D dA cl w N b ms M0 M H)
    (hf : zFld cl w ci C T n k 2) (hj : j < N) (hkd : zkd w j = ci) (hrf : zrf w j k = j2) (hlink : zLk s args own index (T k).1 (T k).2.1 (T k).2.2.1) (hdg : decode cc pc = .ok (.getfield index, 3))
    (kk : W p l e R s m args below meth c H locs cells slots Q (F0 m (pc + 3) ls (.ref (b + j2) :: rest))) : W p l e R s m args below meth c H locs cells slots Q (F0 m pc ls (.ref (b + j) :: rest)) := by
  refine z_getv hexec hb hts hin hown hK hS.1 hf hj hkd hlink hdg ?_
  unfold zfv
  rw [hkd, if_neg (by rw [hf.2.2.2.2]; decide), if_neg (by rw [hf.2.2.2.2]; decide), hrf]
  exact kk
/-- a number is put into a field -/
theorem z_putv (hexec : p.tables.exec = Jvm.exec) (hb : c.code = cc) {own C : String} {T : u_T} {n ci index j k kind : Nat} {Ts : List Cond} (hts : ∀ w ∈ Ts, w.before args s = true) (hin : ∀ w ∈ u_ws C T n, w ∈ Ts) (ty0 : Nat → FieldType) (hty : ∀ k, k < n → parseFieldDescriptor (T k).2.2.1 = some (ty0 k)) (hnm : ∀ a, a < n → ∀ b, b < n → a ≠ b → (T a).2.1 ≠ (T b).2.1) (hown : s.vm.findClass own = some m.cls) (hK : va_K D cl tys s) (hR : zR D dA cl w N b M H) (hS0 : va_S (zA N b) H0 H locs)
    (hf : zFld cl w ci C T n k kind) (hj : j < N) (hkd : zkd w j = ci) (hlink : zLk s args own index (T k).1 (T k).2.1 (T k).2.2.1) (hfin : (T k).2.2.2 = false) {ty : FieldType} {v : Value} {z : Int} (hd : parseFieldDescriptor (T k).2.2.1 = some ty) (hnr : narrow ty v = v) (hfit : fits ty v = true) (hz : v = zfv w b j k z) (hdg : decode cc pc = .ok (.putfield index, 3))
    (kk : ∀ (H1 : Heap) (locs1 : List Loc), zR D dA cl w N b (zup M j k z) H1 → va_S (zA N b) H0 H1 locs1 → W p l e R s m args below meth c H1 locs1 cells slots Q (F0 m (pc + 3) ls rest)) : W p l e R s m args below meth c H locs cells slots Q (F0 m pc ls (v :: .ref (b + j) :: rest)) := by
  obtain ⟨hc, hci, hn, hk, -⟩ := hf
  subst hkd
  have hap := va_apart (own := own) hts hin ty0 hty hnm hK hc
  have h0 := hR j hj
  unfold zcell at h0
  rw [if_pos hci] at h0
  obtain ⟨r, h1, cell, q1, q2, q3, q4⟩ := h0
  have hr : r = (C, T, n) := Option.some.inj (h1.symm.trans hc)
  subst hr
  obtain ⟨hSl, hfc, kC, hkC, hkind⟩ := hK.1 _ _ hc
  obtain ⟨cf, kf, fi, f, hi, hsl⟩ := hSl k hk
  have hlay := hts _ (hin _ (u_in_lay hk))
  unfold u_lay at hlay
  rw [if_neg (by rw [hfin]; decide)] at hlay
  have hst := (u_facts hfc hkC (u_lays hts hin hk) hi).1
  have h6 := u_store hfc hkC hkind hlay hi hd hnr hfit
  have fin : ∀ H' : Heap, H'[b + j]? = some (cell.setSlot f.slot v) → H'.size = H.size → (∀ q, q ≠ b + j → H'[q]? = H[q]?) → W p l e R s m args below meth c H' (locs ++ [⟨b + j, f.slot⟩]) cells slots Q (F0 m (pc + 3) ls rest) := by
    intro H' e1 e2 e3
    refine kk H' _ ?_ (hS0.put e2 e3 ⟨by omega, by omega⟩)
    intro i hi2
    by_cases hij : i = j
    · subst hij
      unfold zcell
      rw [if_pos hci]
      refine ⟨_, hc, ?_⟩
      rw [hsl] at e1
      refine t_OB.to (V := updV (vp_V (zfs w b i (M i))) k v) ⟨_, e1, q2, q3, t_set q4 hap hk v⟩ (fun x hx => ?_)
      have hx' : x < znf w (zkd w i) := by rw [hn]; exact hx
      rw [zfs_V hx']
      by_cases hxk : x = k
      · subst hxk
        simp only [updV, if_pos]
        rw [zup_s]
        exact hz
      · simp only [updV, if_neg hxk]
        rw [zfs_V hx', zup_n]
        exact fun q => hxk q.2
    · have := (hR i hi2).kept (H1 := H') (e3 _ (by show b + i ≠ b + j; omega))
      rw [zup_row M z hij]
      exact this
  rcases hlink with hl | ⟨host, hl⟩
  · exact W.putK hexec hb (f := f) ⟨hown, hl, ⟨_, _, _, hi⟩, hst⟩ (by rw [q2]; exact h6) q1 q3 (by rw [hsl]; exact k2_hasslot (q4 k hk)) rfl rfl hdg fin
  · exact va_WputK hexec hb (f := f) hown hl hi hst (by rw [q2]; exact h6) q1 q3 (by rw [hsl]; exact k2_hasslot (q4 k hk)) rfl rfl hdg fin
theorem z_puti (hexec : p.tables.exec = Jvm.exec) (hb : c.code = cc) {own C : String} {T : u_T} {n ci index j k : Nat} {Ts : List Cond} (hts : ∀ w ∈ Ts, w.before args s = true) (hin : ∀ w ∈ u_ws C T n, w ∈ Ts) (ty0 : Nat → FieldType) (hty : ∀ k, k < n → parseFieldDescriptor (T k).2.2.1 = some (ty0 k)) (hnm : ∀ a, a < n → ∀ b, b < n → a ≠ b → (T a).2.1 ≠ (T b).2.1) (hown : s.vm.findClass own = some m.cls) (hK : va_K D cl tys s) (hS : zS D dA cl w N b ms M0 M H) (hS0 : va_S (zA N b) H0 H locs)
    (hf : zFld cl w ci C T n k 0) (hj : j < N) (hkd : zkd w j = ci) (hlink : zLk s args own index (T k).1 (T k).2.1 (T k).2.2.1) (hfin : (T k).2.2.2 = false) {z : Int} (hd : parseFieldDescriptor (T k).2.2.1 = some .int) (hbd : (zbd w j k).1 ≤ z ∧ z ≤ (zbd w j k).2) (hms : ms j k = true) (hdg : decode cc pc = .ok (.putfield index, 3))
    (kk : ∀ (H1 : Heap) (locs1 : List Loc), zS D dA cl w N b ms M0 (zup M j k z) H1 → va_S (zA N b) H0 H1 locs1 → W p l e R s m args below meth c H1 locs1 cells slots Q (F0 m (pc + 3) ls rest)) : W p l e R s m args below meth c H locs cells slots Q (F0 m pc ls (.int (iI z) :: .ref (b + j) :: rest)) := by
  refine z_putv hexec hb hts hin ty0 hty hnm hown hK hS.1 hS0 hf hj hkd hlink hfin (z := z) hd rfl rfl ?_ hdg (fun H1 locs1 a1 a2 => kk H1 locs1 ⟨a1, zJ_up hS.2.1 hbd, zF_up hS.2.2 hms⟩ a2)
  unfold zfv
  rw [hkd, if_pos hf.2.2.2.2]
theorem z_putl (hexec : p.tables.exec = Jvm.exec) (hb : c.code = cc) {own C : String} {T : u_T} {n ci index j k : Nat} {Ts : List Cond} (hts : ∀ w ∈ Ts, w.before args s = true) (hin : ∀ w ∈ u_ws C T n, w ∈ Ts) (ty0 : Nat → FieldType) (hty : ∀ k, k < n → parseFieldDescriptor (T k).2.2.1 = some (ty0 k)) (hnm : ∀ a, a < n → ∀ b, b < n → a ≠ b → (T a).2.1 ≠ (T b).2.1) (hown : s.vm.findClass own = some m.cls) (hK : va_K D cl tys s) (hS : zS D dA cl w N b ms M0 M H) (hS0 : va_S (zA N b) H0 H locs)
    (hf : zFld cl w ci C T n k 1) (hj : j < N) (hkd : zkd w j = ci) (hlink : zLk s args own index (T k).1 (T k).2.1 (T k).2.2.1) (hfin : (T k).2.2.2 = false) {z : Int} (hd : parseFieldDescriptor (T k).2.2.1 = some .long) (hbd : (zbd w j k).1 ≤ z ∧ z ≤ (zbd w j k).2) (hms : ms j k = true) (hdg : decode cc pc = .ok (.putfield index, 3))
    (kk : ∀ (H1 : Heap) (locs1 : List Loc), zS D dA cl w N b ms M0 (zup M j k z) H1 → va_S (zA N b) H0 H1 locs1 → W p l e R s m args below meth c H1 locs1 cells slots Q (F0 m (pc + 3) ls rest)) : W p l e R s m args below meth c H locs cells slots Q (F0 m pc ls (.long (iL z) :: .ref (b + j) :: rest)) := by
  refine z_putv hexec hb hts hin ty0 hty hnm hown hK hS.1 hS0 hf hj hkd hlink hfin (z := z) hd rfl rfl ?_ hdg (fun H1 locs1 a1 a2 => kk H1 locs1 ⟨a1, zJ_up hS.2.1 hbd, zF_up hS.2.2 hms⟩ a2)
  unfold zfv
  rw [hkd, if_neg (by rw [hf.2.2.2.2]; decide), if_pos hf.2.2.2.2]
/-- the array cell of a plan -/
theorem z_arr {j : Nat} (hR : zR D dA cl w N b M H) (hj : j < N) (hkd : 100 ≤ zkd w j) : va_P D cl [(b + j, .inl (dA (zkd w j - 100), zar w b j (M j)))] H := by
  intro i q hq
  have hi : i = 0 := by
    have := (List.getElem?_eq_some_iff.mp hq).1
    simp at this
    exact this
  subst hi
  cases hq
  have h := hR j hj
  unfold zcell at h
  rw [if_neg (by omega)] at h
  exact h
theorem z_iald (hexec : p.tables.exec = Jvm.exec) (hb : c.code = cc) (hK : va_K D cl tys s) {t0 : Nat} (ht : tys[t0]? = some (dA 0, .int)) (hS : zS D dA cl w N b ms M0 M H) {j n : Nat} (hj : j < N) (hkd : zkd w j = 100) (hln : zln w j = n) {i : Int} (h0 : 0 ≤ i) (h1 : i < n) (hn : n < 2147483648) (hdg : decode cc pc = .ok (.iaload, 1))
    (kk : W p l e R s m args below meth c H locs cells slots Q (F0 m (pc + 1) ls (.int (iI (M j i.toNat)) :: rest))) : W p l e R s m args below meth c H locs cells slots Q (F0 m pc ls (.int (iI i) :: .ref (b + j) :: rest)) := by
  obtain ⟨v1, v2⟩ := iI_in h0 h1 hn
  have hP := z_arr hS.1 hj (by omega)
  rw [hkd] at hP
  unfold zar at hP
  rw [if_neg (by omega), if_pos (by omega), hln] at hP
  refine va_iald hexec hb hK hP 0 t0 rfl ht v1 hdg ?_
  rw [v2]
  exact kk
theorem z_lald (hexec : p.tables.exec = Jvm.exec) (hb : c.code = cc) (hK : va_K D cl tys s) {t0 : Nat} (ht : tys[t0]? = some (dA 1, .long)) (hS : zS D dA cl w N b ms M0 M H) {j n : Nat} (hj : j < N) (hkd : zkd w j = 101) (hln : zln w j = n) {i : Int} (h0 : 0 ≤ i) (h1 : i < n) (hn : n < 2147483648) (hdg : decode cc pc = .ok (.laload, 1))
    (kk : W p l e R s m args below meth c H locs cells slots Q (F0 m (pc + 1) ls (.long (iL (M j i.toNat)) :: rest))) : W p l e R s m args below meth c H locs cells slots Q (F0 m pc ls (.int (iI i) :: .ref (b + j) :: rest)) := by
  obtain ⟨v1, v2⟩ := iI_in h0 h1 hn
  have hP := z_arr hS.1 hj (by omega)
  rw [hkd] at hP
  unfold zar at hP
  rw [if_pos hkd, hln] at hP
  refine va_lald hexec hb hK hP 0 t0 rfl ht v1 hdg ?_
  rw [v2]
  exact kk
theorem z_aald (hexec : p.tables.exec = Jvm.exec) (hb : c.code = cc) (hK : va_K D cl tys s) {t0 r : Nat} {ty : FieldType} (hr : 4 ≤ r) (ht : tys[t0]? = some (dA r, ty)) (hrf : ty.isReference = true) (hS : zS D dA cl w N b ms M0 M H) {j n j2 : Nat} (hj : j < N) (hkd : zkd w j = 100 + r) (hln : zln w j = n) {i : Int} (h0 : 0 ≤ i) (h1 : i < n) (hn : n < 2147483648) (h2 : zrf w j i.toNat = j2) (hdg : decode cc pc = .ok (.aaload, 1))
    (kk : W p l e R s m args below meth c H locs cells slots Q (F0 m (pc + 1) ls (.ref (b + j2) :: rest))) : W p l e R s m args below meth c H locs cells slots Q (F0 m pc ls (.int (iI i) :: .ref (b + j) :: rest)) := by
  obtain ⟨v1, v2⟩ := iI_in h0 h1 hn
  have hP := z_arr hS.1 hj (by omega)
  rw [hkd] at hP
  unfold zar at hP
  rw [if_neg (by omega), if_neg (by omega), hln, show 100 + r - 100 = r by omega] at hP
  have hlt : (iI i).toNatClampNeg < n := by rw [v2]; omega
  refine W.aald (v := .ref (b + j2)) (ty := ty) hexec hb (hP 0 _ rfl) ((hK.2 t0 _ ht).1 n (fun j3 => va_rf (some (b + zrf w j j3)))) hrf (fun q => by cases q) (by show ¬ (iI i < 0 ∨ (arrV _ _ _).slots.size ≤ _); rw [arrV_size]; exact v1) ?_ rfl rfl hdg kk
  show (arrV _ _ _).slots[_]? = _
  rw [arrV_read _ _ hlt, v2]
  show some (va_rf (some (b + zrf w j i.toNat))) = _
  rw [h2]
  rfl
theorem z_iast (hexec : p.tables.exec = Jvm.exec) (hb : c.code = cc) (hK : va_K D cl tys s) {t0 : Nat} (ht : tys[t0]? = some (dA 0, .int)) (hS : zS D dA cl w N b ms M0 M H) (hS0 : va_S (zA N b) H0 H locs) {j n : Nat} (hj : j < N) (hkd : zkd w j = 100) (hln : zln w j = n) {i z : Int} (h0 : 0 ≤ i) (h1 : i < n) (hn : n < 2147483648) (hbd : (zbd w j i.toNat).1 ≤ z ∧ z ≤ (zbd w j i.toNat).2) (hms : ms j i.toNat = true) (hdg : decode cc pc = .ok (.iastore, 1))
    (kk : ∀ (H1 : Heap) (locs1 : List Loc), zS D dA cl w N b ms M0 (zup M j i.toNat z) H1 → va_S (zA N b) H0 H1 locs1 → W p l e R s m args below meth c H1 locs1 cells slots Q (F0 m (pc + 1) ls rest)) : W p l e R s m args below meth c H locs cells slots Q (F0 m pc ls (.int (iI z) :: .int (iI i) :: .ref (b + j) :: rest)) := by
  obtain ⟨v1, v2⟩ := iI_in h0 h1 hn
  have hP := z_arr hS.1 hj (by omega)
  rw [hkd] at hP
  unfold zar at hP
  rw [if_neg (by omega), if_pos (by omega), hln] at hP
  refine W.iast hexec hb (hP 0 _ rfl) ((hK.2 t0 _ ht).1 n (fun j3 => .int (iI (M j j3)))) (fun q => by cases q) (by show ¬ (iI i < 0 ∨ (arrV _ _ _).slots.size ≤ _); rw [arrV_size]; exact v1) rfl rfl hdg fun H1 e1 e2 e3 => ?_
  refine kk H1 _ ⟨?_, zJ_up hS.2.1 hbd, zF_up hS.2.2 hms⟩ (hS0.put e2 e3 ⟨by show b ≤ b + j; omega, by show b + j < b + N; omega⟩)
  intro i2 hi2
  by_cases hij : i2 = j
  · subst hij
    unfold zcell
    rw [if_neg (by omega)]
    show H1[b + i2]? = some (vp_cell _ _)
    rw [e1]
    unfold zar
    rw [if_neg (by omega), if_pos (by omega), hln, hkd, vp_cell_i, vp_cell_i, arrV_store, v2]
    congr 2
    funext q
    by_cases hq : q = i.toNat
    · subst hq
      simp [updV, zup_s]
    · simp only [updV, if_neg hq]
      rw [zup_n]
      exact fun x => hq x.2
  · have := (hS.1 i2 hi2).kept (H1 := H1) (e3 _ (by show b + i2 ≠ b + j; omega))
    rw [zup_row M z hij]
    exact this
theorem z_last (hexec : p.tables.exec = Jvm.exec) (hb : c.code = cc) (hK : va_K D cl tys s) {t0 : Nat} (ht : tys[t0]? = some (dA 1, .long)) (hS : zS D dA cl w N b ms M0 M H) (hS0 : va_S (zA N b) H0 H locs) {j n : Nat} (hj : j < N) (hkd : zkd w j = 101) (hln : zln w j = n) {i z : Int} (h0 : 0 ≤ i) (h1 : i < n) (hn : n < 2147483648) (hbd : (zbd w j i.toNat).1 ≤ z ∧ z ≤ (zbd w j i.toNat).2) (hms : ms j i.toNat = true) (hdg : decode cc pc = .ok (.lastore, 1))
    (kk : ∀ (H1 : Heap) (locs1 : List Loc), zS D dA cl w N b ms M0 (zup M j i.toNat z) H1 → va_S (zA N b) H0 H1 locs1 → W p l e R s m args below meth c H1 locs1 cells slots Q (F0 m (pc + 1) ls rest)) : W p l e R s m args below meth c H locs cells slots Q (F0 m pc ls (.long (iL z) :: .int (iI i) :: .ref (b + j) :: rest)) := by
  obtain ⟨v1, v2⟩ := iI_in h0 h1 hn
  have hP := z_arr hS.1 hj (by omega)
  rw [hkd] at hP
  unfold zar at hP
  rw [if_pos hkd, hln] at hP
  refine W.last hexec hb (hP 0 _ rfl) ((hK.2 t0 _ ht).1 n (fun j3 => .long (iL (M j j3)))) (fun q => by cases q) (by show ¬ (iI i < 0 ∨ (arrV _ _ _).slots.size ≤ _); rw [arrV_size]; exact v1) rfl rfl hdg fun H1 e1 e2 e3 => ?_
  refine kk H1 _ ⟨?_, zJ_up hS.2.1 hbd, zF_up hS.2.2 hms⟩ (hS0.put e2 e3 ⟨by show b ≤ b + j; omega, by show b + j < b + N; omega⟩)
  intro i2 hi2
  by_cases hij : i2 = j
  · subst hij
    unfold zcell
    rw [if_neg (by omega)]
    show H1[b + i2]? = some (vp_cell _ _)
    rw [e1]
    unfold zar
    rw [if_pos hkd, hln, hkd, vp_cell_l, vp_cell_l, arrV_store, v2]
    congr 2
    funext q
    by_cases hq : q = i.toNat
    · subst hq
      simp [updV, zup_s]
    · simp only [updV, if_neg hq]
      rw [zup_n]
      exact fun x => hq x.2
  · have := (hS.1 i2 hi2).kept (H1 := H1) (e3 _ (by show b + i2 ≠ b + j; omega))
    rw [zup_row M z hij]
    exact this
theorem z_alen (hexec : p.tables.exec = Jvm.exec) (hb : c.code = cc) (hK : va_K D cl tys s) {t0 r : Nat} {ty : FieldType} (ht : tys[t0]? = some (dA r, ty)) (hS : zS D dA cl w N b ms M0 M H) {j n : Nat} (hj : j < N) (hkd : zkd w j = 100 + r) (hln : zln w j = n) (hdg : decode cc pc = .ok (.arraylength, 1))
    (kk : W p l e R s m args below meth c H locs cells slots Q (F0 m (pc + 1) ls (.int (iI (n : Int)) :: rest))) : W p l e R s m args below meth c H locs cells slots Q (F0 m pc ls (.ref (b + j) :: rest)) := by
  have hP := z_arr hS.1 hj (by omega)
  have hz : (zar w b j (M j)).1 = n := by
    unfold zar
    split
    · exact hln
    · split
      · exact hln
      · exact hln
  rw [hkd, show 100 + r - 100 = r by omega] at hP
  exact va_alen hexec hb hK hP 0 t0 rfl ht (v := iI (n : Int)) (by rw [hz]; rfl) hdg kk
end ZW
section ZI
variable {p : Program} {l : Launch} {e : Env} {R : Room} {s : State} {m : MethodId} {args : Array Value} {below : List Frame} {meth : Method} {c : Code} {H : Heap} {locs : List Loc} {cells slots : Nat} {Q : State → Prop}
variable {cc : ByteArray} {pc : Nat} {ls : Array Slot} {rest : List Value}
theorem z_iadd (hexec : p.tables.exec = Jvm.exec) (hb : c.code = cc) {x y : Int} (hdg : decode cc pc = .ok (.iadd, 1))
    (k : W p l e R s m args below meth c H locs cells slots Q (F0 m (pc + 1) ls (.int (iI (x + y)) :: rest))) : W p l e R s m args below meth c H locs cells slots Q (F0 m pc ls (.int (iI y) :: .int (iI x) :: rest)) := lv_iadd hexec hb hdg (by rw [iI_add]; exact k)
theorem z_isub (hexec : p.tables.exec = Jvm.exec) (hb : c.code = cc) {x y : Int} (hdg : decode cc pc = .ok (.isub, 1))
    (k : W p l e R s m args below meth c H locs cells slots Q (F0 m (pc + 1) ls (.int (iI (x - y)) :: rest))) : W p l e R s m args below meth c H locs cells slots Q (F0 m pc ls (.int (iI y) :: .int (iI x) :: rest)) := lv_isub hexec hb hdg (by rw [iI_sub]; exact k)
theorem z_imul (hexec : p.tables.exec = Jvm.exec) (hb : c.code = cc) {x y : Int} (hdg : decode cc pc = .ok (.imul, 1))
    (k : W p l e R s m args below meth c H locs cells slots Q (F0 m (pc + 1) ls (.int (iI (x * y)) :: rest))) : W p l e R s m args below meth c H locs cells slots Q (F0 m pc ls (.int (iI y) :: .int (iI x) :: rest)) := lv_imul hexec hb hdg (by rw [iI_mul]; exact k)
theorem z_ladd (hexec : p.tables.exec = Jvm.exec) (hb : c.code = cc) {x y : Int} (hdg : decode cc pc = .ok (.ladd, 1))
    (k : W p l e R s m args below meth c H locs cells slots Q (F0 m (pc + 1) ls (.long (iL (x + y)) :: rest))) : W p l e R s m args below meth c H locs cells slots Q (F0 m pc ls (.long (iL y) :: .long (iL x) :: rest)) := lv_ladd hexec hb hdg (by rw [iL_add]; exact k)
theorem z_lsub (hexec : p.tables.exec = Jvm.exec) (hb : c.code = cc) {x y : Int} (hdg : decode cc pc = .ok (.lsub, 1))
    (k : W p l e R s m args below meth c H locs cells slots Q (F0 m (pc + 1) ls (.long (iL (x - y)) :: rest))) : W p l e R s m args below meth c H locs cells slots Q (F0 m pc ls (.long (iL y) :: .long (iL x) :: rest)) := lv_lsub hexec hb hdg (by rw [iL_sub]; exact k)
theorem z_lmul (hexec : p.tables.exec = Jvm.exec) (hb : c.code = cc) {x y : Int} (hdg : decode cc pc = .ok (.lmul, 1))
    (k : W p l e R s m args below meth c H locs cells slots Q (F0 m (pc + 1) ls (.long (iL (x * y)) :: rest))) : W p l e R s m args below meth c H locs cells slots Q (F0 m pc ls (.long (iL y) :: .long (iL x) :: rest)) := lv_lmul hexec hb hdg (by rw [iL_mul]; exact k)
theorem z_ineg (hexec : p.tables.exec = Jvm.exec) (hb : c.code = cc) {x : Int} (hdg : decode cc pc = .ok (.ineg, 1))
    (k : W p l e R s m args below meth c H locs cells slots Q (F0 m (pc + 1) ls (.int (iI (-x)) :: rest))) : W p l e R s m args below meth c H locs cells slots Q (F0 m pc ls (.int (iI x) :: rest)) := lv_ineg hexec hb hdg (by rw [iI_neg]; exact k)
theorem z_idiv (hexec : p.tables.exec = Jvm.exec) (hb : c.code = cc) {x y : Int} (hx : R32 x) (hy : R32 y) (h0 : y ≠ 0) (hdg : decode cc pc = .ok (.idiv, 1))
    (k : W p l e R s m args below meth c H locs cells slots Q (F0 m (pc + 1) ls (.int (iI (x.tdiv y)) :: rest))) : W p l e R s m args below meth c H locs cells slots Q (F0 m pc ls (.int (iI y) :: .int (iI x) :: rest)) := lv_idiv hexec hb hdg (fun q => h0 (iI_inj hy ⟨by omega, by omega⟩ q)) (by rw [iI_div hx hy]; exact k)
theorem z_irem (hexec : p.tables.exec = Jvm.exec) (hb : c.code = cc) {x y : Int} (hx : R32 x) (hy : R32 y) (h0 : y ≠ 0) (hdg : decode cc pc = .ok (.irem, 1))
    (k : W p l e R s m args below meth c H locs cells slots Q (F0 m (pc + 1) ls (.int (iI (x.tmod y)) :: rest))) : W p l e R s m args below meth c H locs cells slots Q (F0 m pc ls (.int (iI y) :: .int (iI x) :: rest)) := lv_irem hexec hb hdg (fun q => h0 (iI_inj hy ⟨by omega, by omega⟩ q)) (by rw [iI_rem hx hy]; exact k)
theorem z_ldiv (hexec : p.tables.exec = Jvm.exec) (hb : c.code = cc) {x y : Int} (hx : R64 x) (hy : R64 y) (h0 : y ≠ 0) (hdg : decode cc pc = .ok (.ldiv, 1))
    (k : W p l e R s m args below meth c H locs cells slots Q (F0 m (pc + 1) ls (.long (iL (x.tdiv y)) :: rest))) : W p l e R s m args below meth c H locs cells slots Q (F0 m pc ls (.long (iL y) :: .long (iL x) :: rest)) := lv_ldiv hexec hb hdg (fun q => h0 (iL_inj hy ⟨by omega, by omega⟩ q)) (by rw [iL_div hx hy]; exact k)
theorem z_lrem (hexec : p.tables.exec = Jvm.exec) (hb : c.code = cc) {x y : Int} (hx : R64 x) (hy : R64 y) (h0 : y ≠ 0) (hdg : decode cc pc = .ok (.lrem, 1))
    (k : W p l e R s m args below meth c H locs cells slots Q (F0 m (pc + 1) ls (.long (iL (x.tmod y)) :: rest))) : W p l e R s m args below meth c H locs cells slots Q (F0 m pc ls (.long (iL y) :: .long (iL x) :: rest)) := lv_lrem hexec hb hdg (fun q => h0 (iL_inj hy ⟨by omega, by omega⟩ q)) (by rw [iL_rem hx hy]; exact k)
theorem z_i2l (hexec : p.tables.exec = Jvm.exec) (hb : c.code = cc) {x : Int} (hx : R32 x) (hdg : decode cc pc = .ok (.i2l, 1))
    (k : W p l e R s m args below meth c H locs cells slots Q (F0 m (pc + 1) ls (.long (iL x) :: rest))) : W p l e R s m args below meth c H locs cells slots Q (F0 m pc ls (.int (iI x) :: rest)) := lv_i2l hexec hb hdg (iI_long hx) k
theorem z_l2i (hexec : p.tables.exec = Jvm.exec) (hb : c.code = cc) {x : Int} (hdg : decode cc pc = .ok (.l2i, 1))
    (k : W p l e R s m args below meth c H locs cells slots Q (F0 m (pc + 1) ls (.int (iI x) :: rest))) : W p l e R s m args below meth c H locs cells slots Q (F0 m pc ls (.long (iL x) :: rest)) := lv_l2i hexec hb hdg (iL_int x) k
theorem z_iand (hexec : p.tables.exec = Jvm.exec) (hb : c.code = cc) {x y : Int} (hdg : decode cc pc = .ok (.iand, 1))
    (k : ∀ z : Int, R32 z → iI z = iI x &&& iI y → W p l e R s m args below meth c H locs cells slots Q (F0 m (pc + 1) ls (.int (iI z) :: rest))) : W p l e R s m args below meth c H locs cells slots Q (F0 m pc ls (.int (iI y) :: .int (iI x) :: rest)) := lv_iand hexec hb hdg (by obtain ⟨z, hz, e⟩ := iI_of (iI x &&& iI y); rw [e]; exact k z hz e.symm)
theorem z_ior (hexec : p.tables.exec = Jvm.exec) (hb : c.code = cc) {x y : Int} (hdg : decode cc pc = .ok (.ior, 1))
    (k : ∀ z : Int, R32 z → iI z = iI x ||| iI y → W p l e R s m args below meth c H locs cells slots Q (F0 m (pc + 1) ls (.int (iI z) :: rest))) : W p l e R s m args below meth c H locs cells slots Q (F0 m pc ls (.int (iI y) :: .int (iI x) :: rest)) := lv_ior hexec hb hdg (by obtain ⟨z, hz, e⟩ := iI_of (iI x ||| iI y); rw [e]; exact k z hz e.symm)
theorem z_ixor (hexec : p.tables.exec = Jvm.exec) (hb : c.code = cc) {x y : Int} (hdg : decode cc pc = .ok (.ixor, 1))
    (k : ∀ z : Int, R32 z → iI z = iI x ^^^ iI y → W p l e R s m args below meth c H locs cells slots Q (F0 m (pc + 1) ls (.int (iI z) :: rest))) : W p l e R s m args below meth c H locs cells slots Q (F0 m pc ls (.int (iI y) :: .int (iI x) :: rest)) := lv_ixor hexec hb hdg (by obtain ⟨z, hz, e⟩ := iI_of (iI x ^^^ iI y); rw [e]; exact k z hz e.symm)
theorem z_ishl (hexec : p.tables.exec = Jvm.exec) (hb : c.code = cc) {x y : Int} (hdg : decode cc pc = .ok (.ishl, 1))
    (k : ∀ z : Int, R32 z → iI z = iI x <<< (iI y &&& 31) → W p l e R s m args below meth c H locs cells slots Q (F0 m (pc + 1) ls (.int (iI z) :: rest))) : W p l e R s m args below meth c H locs cells slots Q (F0 m pc ls (.int (iI y) :: .int (iI x) :: rest)) := lv_ishl hexec hb hdg (by obtain ⟨z, hz, e⟩ := iI_of (iI x <<< (iI y &&& 31)); rw [e]; exact k z hz e.symm)
theorem z_ishr (hexec : p.tables.exec = Jvm.exec) (hb : c.code = cc) {x y : Int} (hdg : decode cc pc = .ok (.ishr, 1))
    (k : ∀ z : Int, R32 z → iI z = iI x >>> (iI y &&& 31) → W p l e R s m args below meth c H locs cells slots Q (F0 m (pc + 1) ls (.int (iI z) :: rest))) : W p l e R s m args below meth c H locs cells slots Q (F0 m pc ls (.int (iI y) :: .int (iI x) :: rest)) := lv_ishr hexec hb hdg (by obtain ⟨z, hz, e⟩ := iI_of (iI x >>> (iI y &&& 31)); rw [e]; exact k z hz e.symm)
theorem z_iushr (hexec : p.tables.exec = Jvm.exec) (hb : c.code = cc) {x y : Int} (hdg : decode cc pc = .ok (.iushr, 1))
    (k : ∀ z : Int, R32 z → iI z = ((iI x).toUInt32 >>> ((iI y).toUInt32 &&& Int32.toUInt32 31)).toInt32 → W p l e R s m args below meth c H locs cells slots Q (F0 m (pc + 1) ls (.int (iI z) :: rest))) : W p l e R s m args below meth c H locs cells slots Q (F0 m pc ls (.int (iI y) :: .int (iI x) :: rest)) := by
  obtain ⟨z, hz, e⟩ := iI_of (((iI x).toUInt32 >>> ((iI y).toUInt32 &&& Int32.toUInt32 31)).toInt32)
  exact lv_iushr hexec hb hdg e (k z hz e.symm)
theorem z_land (hexec : p.tables.exec = Jvm.exec) (hb : c.code = cc) {x y : Int} (hdg : decode cc pc = .ok (.land, 1))
    (k : ∀ z : Int, R64 z → iL z = iL x &&& iL y → W p l e R s m args below meth c H locs cells slots Q (F0 m (pc + 1) ls (.long (iL z) :: rest))) : W p l e R s m args below meth c H locs cells slots Q (F0 m pc ls (.long (iL y) :: .long (iL x) :: rest)) := lv_land hexec hb hdg (by obtain ⟨z, hz, e⟩ := iL_of (iL x &&& iL y); rw [e]; exact k z hz e.symm)
theorem z_lor (hexec : p.tables.exec = Jvm.exec) (hb : c.code = cc) {x y : Int} (hdg : decode cc pc = .ok (.lor, 1))
    (k : ∀ z : Int, R64 z → iL z = iL x ||| iL y → W p l e R s m args below meth c H locs cells slots Q (F0 m (pc + 1) ls (.long (iL z) :: rest))) : W p l e R s m args below meth c H locs cells slots Q (F0 m pc ls (.long (iL y) :: .long (iL x) :: rest)) := lv_lor hexec hb hdg (by obtain ⟨z, hz, e⟩ := iL_of (iL x ||| iL y); rw [e]; exact k z hz e.symm)
theorem z_lxor (hexec : p.tables.exec = Jvm.exec) (hb : c.code = cc) {x y : Int} (hdg : decode cc pc = .ok (.lxor, 1))
    (k : ∀ z : Int, R64 z → iL z = iL x ^^^ iL y → W p l e R s m args below meth c H locs cells slots Q (F0 m (pc + 1) ls (.long (iL z) :: rest))) : W p l e R s m args below meth c H locs cells slots Q (F0 m pc ls (.long (iL y) :: .long (iL x) :: rest)) := lv_lxor hexec hb hdg (by obtain ⟨z, hz, e⟩ := iL_of (iL x ^^^ iL y); rw [e]; exact k z hz e.symm)
theorem z_lshl (hexec : p.tables.exec = Jvm.exec) (hb : c.code = cc) {x y : Int} (hdg : decode cc pc = .ok (.lshl, 1))
    (k : ∀ z : Int, R64 z → iL z = iL x <<< ((iI y).toInt64 &&& 63) → W p l e R s m args below meth c H locs cells slots Q (F0 m (pc + 1) ls (.long (iL z) :: rest))) : W p l e R s m args below meth c H locs cells slots Q (F0 m pc ls (.int (iI y) :: .long (iL x) :: rest)) := by
  obtain ⟨z, hz, e⟩ := iL_of (iL x <<< ((iI y).toInt64 &&& 63))
  exact lv_lshl hexec hb hdg e (k z hz e.symm)
theorem z_lshr (hexec : p.tables.exec = Jvm.exec) (hb : c.code = cc) {x y : Int} (hdg : decode cc pc = .ok (.lshr, 1))
    (k : ∀ z : Int, R64 z → iL z = iL x >>> ((iI y).toInt64 &&& 63) → W p l e R s m args below meth c H locs cells slots Q (F0 m (pc + 1) ls (.long (iL z) :: rest))) : W p l e R s m args below meth c H locs cells slots Q (F0 m pc ls (.int (iI y) :: .long (iL x) :: rest)) := by
  obtain ⟨z, hz, e⟩ := iL_of (iL x >>> ((iI y).toInt64 &&& 63))
  exact lv_lshr hexec hb hdg e (k z hz e.symm)
theorem z_lushr (hexec : p.tables.exec = Jvm.exec) (hb : c.code = cc) {x y : Int} (hdg : decode cc pc = .ok (.lushr, 1))
    (k : ∀ z : Int, R64 z → iL z = ((iL x).toUInt64 >>> ((iI y).toInt64.toUInt64 &&& Int64.toUInt64 63)).toInt64 → W p l e R s m args below meth c H locs cells slots Q (F0 m (pc + 1) ls (.long (iL z) :: rest))) : W p l e R s m args below meth c H locs cells slots Q (F0 m pc ls (.int (iI y) :: .long (iL x) :: rest)) := by
  obtain ⟨z, hz, e⟩ := iL_of (((iL x).toUInt64 >>> ((iI y).toInt64.toUInt64 &&& Int64.toUInt64 63)).toInt64)
  exact lv_lushr hexec hb hdg e (k z hz e.symm)
theorem z_iconst (hexec : p.tables.exec = Jvm.exec) (hb : c.code = cc) {n : Int} (hdg : decode cc pc = .ok (.iconst n, 1))
    (k : W p l e R s m args below meth c H locs cells slots Q (F0 m (pc + 1) ls (.int (iI n) :: rest))) : W p l e R s m args below meth c H locs cells slots Q (F0 m pc ls (rest)) := lv_iconst hexec hb hdg rfl k
theorem z_bipush (hexec : p.tables.exec = Jvm.exec) (hb : c.code = cc) {n : Int} (hn : (Int8.ofInt n).toInt32 = iI n) (hdg : decode cc pc = .ok (.bipush n, 2))
    (k : W p l e R s m args below meth c H locs cells slots Q (F0 m (pc + 2) ls (.int (iI n) :: rest))) : W p l e R s m args below meth c H locs cells slots Q (F0 m pc ls (rest)) := lv_bipush hexec hb hdg hn k
theorem z_sipush (hexec : p.tables.exec = Jvm.exec) (hb : c.code = cc) {n : Int} (hn : (Int16.ofInt n).toInt32 = iI n) (hdg : decode cc pc = .ok (.sipush n, 3))
    (k : W p l e R s m args below meth c H locs cells slots Q (F0 m (pc + 3) ls (.int (iI n) :: rest))) : W p l e R s m args below meth c H locs cells slots Q (F0 m pc ls (rest)) := lv_sipush hexec hb hdg hn k
theorem z_lconst0 (hexec : p.tables.exec = Jvm.exec) (hb : c.code = cc) (hdg : decode cc pc = .ok (.lconst 0, 1))
    (k : W p l e R s m args below meth c H locs cells slots Q (F0 m (pc + 1) ls (.long (iL 0) :: rest))) : W p l e R s m args below meth c H locs cells slots Q (F0 m pc ls (rest)) := lv_lconst hexec hb hdg rfl k
theorem z_lconst1 (hexec : p.tables.exec = Jvm.exec) (hb : c.code = cc) (hdg : decode cc pc = .ok (.lconst 1, 1))
    (k : W p l e R s m args below meth c H locs cells slots Q (F0 m (pc + 1) ls (.long (iL 1) :: rest))) : W p l e R s m args below meth c H locs cells slots Q (F0 m pc ls (rest)) := lv_lconst hexec hb hdg rfl k
theorem z_ldc (hexec : p.tables.exec = Jvm.exec) (hb : c.code = cc) {own : String} {index : Nat} {n : Int} {v : Int32} (hown : s.vm.findClass own = some m.cls) (hc : (Jvm.Cond.constant own index v).before args s = true) (hv : v = iI n) (hdg : decode cc pc = .ok (.ldc index, 2))
    (k : W p l e R s m args below meth c H locs cells slots Q (F0 m (pc + 2) ls (.int (iI n) :: rest))) : W p l e R s m args below meth c H locs cells slots Q (F0 m pc ls (rest)) := lv_ldc hexec hb hown hc hdg (by rw [hv]; exact k)
theorem z_ldc2 (hexec : p.tables.exec = Jvm.exec) (hb : c.code = cc) {own : String} {index : Nat} {n : Int} {v : Int64} (hown : s.vm.findClass own = some m.cls) (hc : (Jvm.Cond.constantLong own index v).before args s = true) (hv : v = iL n) (hdg : decode cc pc = .ok (.ldc2_w index, 3))
    (k : W p l e R s m args below meth c H locs cells slots Q (F0 m (pc + 3) ls (.long (iL n) :: rest))) : W p l e R s m args below meth c H locs cells slots Q (F0 m pc ls (rest)) := lv_ldc2 hexec hb hown hc hdg (by rw [hv]; exact k)
theorem z_icmp_eq (hexec : p.tables.exec = Jvm.exec) (hb : c.code = cc) {x y : Int} {off : Int} {tgt : Nat} (hx : R32 x) (hy : R32 y) (hdg : decode cc pc = .ok (.if_icmp .eq off, 3)) (ht : (pc : Int) + off = (tgt : Int))
    (kt : x = y → W p l e R s m args below meth c H locs cells slots Q (F0 m tgt ls rest)) (kf : x ≠ y → W p l e R s m args below meth c H locs cells slots Q (F0 m (pc + 3) ls rest)) : W p l e R s m args below meth c H locs cells slots Q (F0 m pc ls (.int (iI y) :: .int (iI x) :: rest)) := lv_icmp_eq hexec hb hdg ht (fun q => kt ((iI_eq hx hy).mp q)) (fun q => kf (fun z => q ((iI_eq hx hy).mpr z)))
theorem z_icmp_ne (hexec : p.tables.exec = Jvm.exec) (hb : c.code = cc) {x y : Int} {off : Int} {tgt : Nat} (hx : R32 x) (hy : R32 y) (hdg : decode cc pc = .ok (.if_icmp .ne off, 3)) (ht : (pc : Int) + off = (tgt : Int))
    (kt : x ≠ y → W p l e R s m args below meth c H locs cells slots Q (F0 m tgt ls rest)) (kf : x = y → W p l e R s m args below meth c H locs cells slots Q (F0 m (pc + 3) ls rest)) : W p l e R s m args below meth c H locs cells slots Q (F0 m pc ls (.int (iI y) :: .int (iI x) :: rest)) := lv_icmp_ne hexec hb hdg ht (fun q => kt (fun z => q ((iI_eq hx hy).mpr z))) (fun q => kf ((iI_eq hx hy).mp q))
theorem z_icmp_lt (hexec : p.tables.exec = Jvm.exec) (hb : c.code = cc) {x y : Int} {off : Int} {tgt : Nat} (hx : R32 x) (hy : R32 y) (hdg : decode cc pc = .ok (.if_icmp .lt off, 3)) (ht : (pc : Int) + off = (tgt : Int))
    (kt : x < y → W p l e R s m args below meth c H locs cells slots Q (F0 m tgt ls rest)) (kf : y ≤ x → W p l e R s m args below meth c H locs cells slots Q (F0 m (pc + 3) ls rest)) : W p l e R s m args below meth c H locs cells slots Q (F0 m pc ls (.int (iI y) :: .int (iI x) :: rest)) := lv_icmp_lt hexec hb hdg ht (fun q => kt ((iI_lt hx hy).mp q)) (fun q => kf (Int.not_lt.mp (fun z => q ((iI_lt hx hy).mpr z))))
theorem z_icmp_ge (hexec : p.tables.exec = Jvm.exec) (hb : c.code = cc) {x y : Int} {off : Int} {tgt : Nat} (hx : R32 x) (hy : R32 y) (hdg : decode cc pc = .ok (.if_icmp .ge off, 3)) (ht : (pc : Int) + off = (tgt : Int))
    (kt : y ≤ x → W p l e R s m args below meth c H locs cells slots Q (F0 m tgt ls rest)) (kf : x < y → W p l e R s m args below meth c H locs cells slots Q (F0 m (pc + 3) ls rest)) : W p l e R s m args below meth c H locs cells slots Q (F0 m pc ls (.int (iI y) :: .int (iI x) :: rest)) := lv_icmp_ge hexec hb hdg ht (fun q => kt ((iI_le hy hx).mp q)) (fun q => kf (Int.not_le.mp (fun z => q ((iI_le hy hx).mpr z))))
theorem z_icmp_gt (hexec : p.tables.exec = Jvm.exec) (hb : c.code = cc) {x y : Int} {off : Int} {tgt : Nat} (hx : R32 x) (hy : R32 y) (hdg : decode cc pc = .ok (.if_icmp .gt off, 3)) (ht : (pc : Int) + off = (tgt : Int))
    (kt : y < x → W p l e R s m args below meth c H locs cells slots Q (F0 m tgt ls rest)) (kf : x ≤ y → W p l e R s m args below meth c H locs cells slots Q (F0 m (pc + 3) ls rest)) : W p l e R s m args below meth c H locs cells slots Q (F0 m pc ls (.int (iI y) :: .int (iI x) :: rest)) := lv_icmp_gt hexec hb hdg ht (fun q => kt ((iI_lt hy hx).mp q)) (fun q => kf (Int.not_lt.mp (fun z => q ((iI_lt hy hx).mpr z))))
theorem z_icmp_le (hexec : p.tables.exec = Jvm.exec) (hb : c.code = cc) {x y : Int} {off : Int} {tgt : Nat} (hx : R32 x) (hy : R32 y) (hdg : decode cc pc = .ok (.if_icmp .le off, 3)) (ht : (pc : Int) + off = (tgt : Int))
    (kt : x ≤ y → W p l e R s m args below meth c H locs cells slots Q (F0 m tgt ls rest)) (kf : y < x → W p l e R s m args below meth c H locs cells slots Q (F0 m (pc + 3) ls rest)) : W p l e R s m args below meth c H locs cells slots Q (F0 m pc ls (.int (iI y) :: .int (iI x) :: rest)) := lv_icmp_le hexec hb hdg ht (fun q => kt ((iI_le hx hy).mp q)) (fun q => kf (Int.not_le.mp (fun z => q ((iI_le hx hy).mpr z))))
theorem z_if_eq (hexec : p.tables.exec = Jvm.exec) (hb : c.code = cc) {x : Int} {off : Int} {tgt : Nat} (hx : R32 x) (hdg : decode cc pc = .ok (.ifCond .eq off, 3)) (ht : (pc : Int) + off = (tgt : Int))
    (kt : x = 0 → W p l e R s m args below meth c H locs cells slots Q (F0 m tgt ls rest)) (kf : x ≠ 0 → W p l e R s m args below meth c H locs cells slots Q (F0 m (pc + 3) ls rest)) : W p l e R s m args below meth c H locs cells slots Q (F0 m pc ls (.int (iI x) :: rest)) := by
  have h0 : R32 0 := ⟨by omega, by omega⟩
  exact lv_if_eq hexec hb hdg ht (fun q => kt ((iI_eq hx h0).mp q)) (fun q => kf (fun z => q ((iI_eq hx h0).mpr z)))
theorem z_if_ne (hexec : p.tables.exec = Jvm.exec) (hb : c.code = cc) {x : Int} {off : Int} {tgt : Nat} (hx : R32 x) (hdg : decode cc pc = .ok (.ifCond .ne off, 3)) (ht : (pc : Int) + off = (tgt : Int))
    (kt : x ≠ 0 → W p l e R s m args below meth c H locs cells slots Q (F0 m tgt ls rest)) (kf : x = 0 → W p l e R s m args below meth c H locs cells slots Q (F0 m (pc + 3) ls rest)) : W p l e R s m args below meth c H locs cells slots Q (F0 m pc ls (.int (iI x) :: rest)) := by
  have h0 : R32 0 := ⟨by omega, by omega⟩
  exact lv_if_ne hexec hb hdg ht (fun q => kt (fun z => q ((iI_eq hx h0).mpr z))) (fun q => kf ((iI_eq hx h0).mp q))
theorem z_if_lt (hexec : p.tables.exec = Jvm.exec) (hb : c.code = cc) {x : Int} {off : Int} {tgt : Nat} (hx : R32 x) (hdg : decode cc pc = .ok (.ifCond .lt off, 3)) (ht : (pc : Int) + off = (tgt : Int))
    (kt : x < 0 → W p l e R s m args below meth c H locs cells slots Q (F0 m tgt ls rest)) (kf : 0 ≤ x → W p l e R s m args below meth c H locs cells slots Q (F0 m (pc + 3) ls rest)) : W p l e R s m args below meth c H locs cells slots Q (F0 m pc ls (.int (iI x) :: rest)) := by
  have h0 : R32 0 := ⟨by omega, by omega⟩
  exact lv_if_lt hexec hb hdg ht (fun q => kt ((iI_lt hx h0).mp q)) (fun q => kf (Int.not_lt.mp (fun z => q ((iI_lt hx h0).mpr z))))
theorem z_if_ge (hexec : p.tables.exec = Jvm.exec) (hb : c.code = cc) {x : Int} {off : Int} {tgt : Nat} (hx : R32 x) (hdg : decode cc pc = .ok (.ifCond .ge off, 3)) (ht : (pc : Int) + off = (tgt : Int))
    (kt : 0 ≤ x → W p l e R s m args below meth c H locs cells slots Q (F0 m tgt ls rest)) (kf : x < 0 → W p l e R s m args below meth c H locs cells slots Q (F0 m (pc + 3) ls rest)) : W p l e R s m args below meth c H locs cells slots Q (F0 m pc ls (.int (iI x) :: rest)) := by
  have h0 : R32 0 := ⟨by omega, by omega⟩
  exact lv_if_ge hexec hb hdg ht (fun q => kt ((iI_le h0 hx).mp q)) (fun q => kf (Int.not_le.mp (fun z => q ((iI_le h0 hx).mpr z))))
theorem z_if_gt (hexec : p.tables.exec = Jvm.exec) (hb : c.code = cc) {x : Int} {off : Int} {tgt : Nat} (hx : R32 x) (hdg : decode cc pc = .ok (.ifCond .gt off, 3)) (ht : (pc : Int) + off = (tgt : Int))
    (kt : 0 < x → W p l e R s m args below meth c H locs cells slots Q (F0 m tgt ls rest)) (kf : x ≤ 0 → W p l e R s m args below meth c H locs cells slots Q (F0 m (pc + 3) ls rest)) : W p l e R s m args below meth c H locs cells slots Q (F0 m pc ls (.int (iI x) :: rest)) := by
  have h0 : R32 0 := ⟨by omega, by omega⟩
  exact lv_if_gt hexec hb hdg ht (fun q => kt ((iI_lt h0 hx).mp q)) (fun q => kf (Int.not_lt.mp (fun z => q ((iI_lt h0 hx).mpr z))))
theorem z_if_le (hexec : p.tables.exec = Jvm.exec) (hb : c.code = cc) {x : Int} {off : Int} {tgt : Nat} (hx : R32 x) (hdg : decode cc pc = .ok (.ifCond .le off, 3)) (ht : (pc : Int) + off = (tgt : Int))
    (kt : x ≤ 0 → W p l e R s m args below meth c H locs cells slots Q (F0 m tgt ls rest)) (kf : 0 < x → W p l e R s m args below meth c H locs cells slots Q (F0 m (pc + 3) ls rest)) : W p l e R s m args below meth c H locs cells slots Q (F0 m pc ls (.int (iI x) :: rest)) := by
  have h0 : R32 0 := ⟨by omega, by omega⟩
  exact lv_if_le hexec hb hdg ht (fun q => kt ((iI_le hx h0).mp q)) (fun q => kf (Int.not_le.mp (fun z => q ((iI_le hx h0).mpr z))))
theorem z_lcmp_lt (hexec : p.tables.exec = Jvm.exec) (hb : c.code = cc) {x y : Int} {off : Int} {tgt : Nat} (hx : R64 x) (hy : R64 y) (hd1 : decode cc pc = .ok (.lcmp, 1)) (hdg : decode cc (pc + 1) = .ok (.ifCond .lt off, 3)) (ht : ((pc + 1 : Nat) : Int) + off = (tgt : Int))
    (kt : x < y → W p l e R s m args below meth c H locs cells slots Q (F0 m tgt ls rest)) (kf : y ≤ x → W p l e R s m args below meth c H locs cells slots Q (F0 m (pc + 1 + 3) ls rest)) : W p l e R s m args below meth c H locs cells slots Q (F0 m pc ls (.long (iL y) :: .long (iL x) :: rest)) := W.lcmp hexec hb hd1 (lv_if_lt hexec hb hdg ht (fun q => kt ((iL_lt hx hy).mp ((lg_cmp_lt _ _).mp q))) (fun q => kf (Int.not_lt.mp (fun z => q ((lg_cmp_lt _ _).mpr ((iL_lt hx hy).mpr z))))))
theorem z_lcmp_ge (hexec : p.tables.exec = Jvm.exec) (hb : c.code = cc) {x y : Int} {off : Int} {tgt : Nat} (hx : R64 x) (hy : R64 y) (hd1 : decode cc pc = .ok (.lcmp, 1)) (hdg : decode cc (pc + 1) = .ok (.ifCond .ge off, 3)) (ht : ((pc + 1 : Nat) : Int) + off = (tgt : Int))
    (kt : y ≤ x → W p l e R s m args below meth c H locs cells slots Q (F0 m tgt ls rest)) (kf : x < y → W p l e R s m args below meth c H locs cells slots Q (F0 m (pc + 1 + 3) ls rest)) : W p l e R s m args below meth c H locs cells slots Q (F0 m pc ls (.long (iL y) :: .long (iL x) :: rest)) := W.lcmp hexec hb hd1 (lv_if_ge hexec hb hdg ht (fun q => kt ((iL_le hy hx).mp ((lg_cmp_ge _ _).mp q))) (fun q => kf (Int.not_le.mp (fun z => q ((lg_cmp_ge _ _).mpr ((iL_le hy hx).mpr z))))))
theorem z_lcmp_gt (hexec : p.tables.exec = Jvm.exec) (hb : c.code = cc) {x y : Int} {off : Int} {tgt : Nat} (hx : R64 x) (hy : R64 y) (hd1 : decode cc pc = .ok (.lcmp, 1)) (hdg : decode cc (pc + 1) = .ok (.ifCond .gt off, 3)) (ht : ((pc + 1 : Nat) : Int) + off = (tgt : Int))
    (kt : y < x → W p l e R s m args below meth c H locs cells slots Q (F0 m tgt ls rest)) (kf : x ≤ y → W p l e R s m args below meth c H locs cells slots Q (F0 m (pc + 1 + 3) ls rest)) : W p l e R s m args below meth c H locs cells slots Q (F0 m pc ls (.long (iL y) :: .long (iL x) :: rest)) := W.lcmp hexec hb hd1 (lv_if_gt hexec hb hdg ht (fun q => kt ((iL_lt hy hx).mp ((lg_cmp_gt _ _).mp q))) (fun q => kf (Int.not_lt.mp (fun z => q ((lg_cmp_gt _ _).mpr ((iL_lt hy hx).mpr z))))))
theorem z_lcmp_le (hexec : p.tables.exec = Jvm.exec) (hb : c.code = cc) {x y : Int} {off : Int} {tgt : Nat} (hx : R64 x) (hy : R64 y) (hd1 : decode cc pc = .ok (.lcmp, 1)) (hdg : decode cc (pc + 1) = .ok (.ifCond .le off, 3)) (ht : ((pc + 1 : Nat) : Int) + off = (tgt : Int))
    (kt : x ≤ y → W p l e R s m args below meth c H locs cells slots Q (F0 m tgt ls rest)) (kf : y < x → W p l e R s m args below meth c H locs cells slots Q (F0 m (pc + 1 + 3) ls rest)) : W p l e R s m args below meth c H locs cells slots Q (F0 m pc ls (.long (iL y) :: .long (iL x) :: rest)) := W.lcmp hexec hb hd1 (lv_if_le hexec hb hdg ht (fun q => kt ((iL_le hx hy).mp ((lg_cmp_le _ _).mp q))) (fun q => kf (Int.not_le.mp (fun z => q ((lg_cmp_le _ _).mpr ((iL_le hx hy).mpr z))))))
theorem z_lcmp_eq (hexec : p.tables.exec = Jvm.exec) (hb : c.code = cc) {x y : Int} {off : Int} {tgt : Nat} (hx : R64 x) (hy : R64 y) (hd1 : decode cc pc = .ok (.lcmp, 1)) (hdg : decode cc (pc + 1) = .ok (.ifCond .eq off, 3)) (ht : ((pc + 1 : Nat) : Int) + off = (tgt : Int))
    (kt : x = y → W p l e R s m args below meth c H locs cells slots Q (F0 m tgt ls rest)) (kf : x ≠ y → W p l e R s m args below meth c H locs cells slots Q (F0 m (pc + 1 + 3) ls rest)) : W p l e R s m args below meth c H locs cells slots Q (F0 m pc ls (.long (iL y) :: .long (iL x) :: rest)) := W.lcmp hexec hb hd1 (lv_if_eq hexec hb hdg ht (fun q => kt ((iL_eq hx hy).mp ((lg_cmp_eq _ _).mp q))) (fun q => kf (fun z => q ((lg_cmp_eq _ _).mpr ((iL_eq hx hy).mpr z)))))
theorem z_lcmp_ne (hexec : p.tables.exec = Jvm.exec) (hb : c.code = cc) {x y : Int} {off : Int} {tgt : Nat} (hx : R64 x) (hy : R64 y) (hd1 : decode cc pc = .ok (.lcmp, 1)) (hdg : decode cc (pc + 1) = .ok (.ifCond .ne off, 3)) (ht : ((pc + 1 : Nat) : Int) + off = (tgt : Int))
    (kt : x ≠ y → W p l e R s m args below meth c H locs cells slots Q (F0 m tgt ls rest)) (kf : x = y → W p l e R s m args below meth c H locs cells slots Q (F0 m (pc + 1 + 3) ls rest)) : W p l e R s m args below meth c H locs cells slots Q (F0 m pc ls (.long (iL y) :: .long (iL x) :: rest)) := W.lcmp hexec hb hd1 (lv_if_ne hexec hb hdg ht (fun q => kt (fun z => q ((lg_cmp_eq _ _).mpr ((iL_eq hx hy).mpr z)))) (fun q => kf ((iL_eq hx hy).mp ((lg_cmp_eq _ _).mp q))))
theorem z_iinc (hexec : p.tables.exec = Jvm.exec) (hb : c.code = cc) {i nL k : Nat} {n x : Int} {lv lv' : List (Nat × Value)} (hdg : decode cc pc = .ok (.iinc i n, 3)) (h : lv_has ls nL lv) (hk : lv[k]? = some (i, .int (iI x))) (hn : i < nL) (hl : (i, Value.int (iI (x + n))) :: lv.filter (fun q => !(q.1 == i) && !(q.1 + 1 == i && q.2.category == 2)) = lv')
    (kk : ∀ ls' : Array Slot, lv_has ls' nL lv' → W p l e R s m args below meth c H locs cells slots Q (F0 m (pc + 3) ls' rest)) : W p l e R s m args below meth c H locs cells slots Q (F0 m pc ls rest) := lv_iinc (v := iI (x + n)) hexec hb hdg h hk (iI_add x n) hn hl kk
/-- the number on top, written otherwise -/
theorem z_top {x y : Int} (h : x = y) (k : W p l e R s m args below meth c H locs cells slots Q (F0 m pc ls (.int (iI y) :: rest))) : W p l e R s m args below meth c H locs cells slots Q (F0 m pc ls (.int (iI x) :: rest)) := by rw [h]; exact k
theorem z_topl {x y : Int} (h : x = y) (k : W p l e R s m args below meth c H locs cells slots Q (F0 m pc ls (.long (iL y) :: rest))) : W p l e R s m args below meth c H locs cells slots Q (F0 m pc ls (.long (iL x) :: rest)) := by rw [h]; exact k
end ZI
/-! CALLS over a world -/
/-- the links of nest mates -/
def zNst (U : State) : Prop := ∀ q ∈ z_nest, va_Nw (.methodLinkNest q.1 q.2.1 q.2.2.1 q.2.2.2) U
theorem zNst.warm {s U : State} (hW : s.WarmedH U.vm) (h : zNst s) : zNst U := fun q hq => va_Nw.warmM hW (h q hq)
theorem zNst.same {u U : State} (e : u.vm = U.vm) (h : zNst u) : zNst U := fun q hq => va_Nw.same rfl e (h q hq)
def zKK (D : va_G) (cl : List vw_C) (tys : List (ClassId × FieldType)) (U : State) : Prop := va_K D cl tys U ∧ zNst U
def zP (D : va_G) (dA : Nat → ClassId) (cl : List vw_C) (tys : List (ClassId × FieldType)) (w : zW) (N b : Nat) (M : zM) : State → Prop := fun U => zR D dA cl w N b M U.heap ∧ zJ w M ∧ zKK D cl tys U
def zB (D : va_G) (dA : Nat → ClassId) (cl : List vw_C) (w : zW) (N b : Nat) : zM → State → Prop := fun u t => zR D dA cl w N b u t.heap
def zQi (w : zW) (ms : Nat → Nat → Bool) (M : zM) (post : Int → zM → Prop) : Int32 → zM → Prop := fun r u => ∃ z, r = iI z ∧ R32 z ∧ zJ w u ∧ zF ms M u ∧ post z u
def zQl (w : zW) (ms : Nat → Nat → Bool) (M : zM) (post : Int → zM → Prop) : Int64 → zM → Prop := fun r u => ∃ z, r = iL z ∧ R64 z ∧ zJ w u ∧ zF ms M u ∧ post z u
def zQv (w : zW) (ms : Nat → Nat → Bool) (M : zM) (post : zM → Prop) : zM → Prop := fun u => zJ w u ∧ zF ms M u ∧ post u
theorem zP_blind {D : va_G} {dA : Nat → ClassId} {cl : List vw_C} {tys : List (ClassId × FieldType)} {w : zW} {N b : Nat} {M : zM} {As : List Value} : FrameBlind (va_Pc As (zP D dA cl tys w N b M)) := fun _ U g mk q => ⟨q.1, q.2.1, q.2.2.1, va_K.moved (u := U) (U := U.calling g mk _) (Vm.Alike.refl U.vm) q.2.2.2.1, zNst.same (u := U) rfl q.2.2.2.2⟩
section ZC
variable {p : Program} {l : Launch} {e : Env} {R : Room} {s : State} {m : MethodId} {args : Array Value} {below : List Frame} {meth : Method} {c : Code} {H : Heap} {locs : List Loc} {cells slots : Nat} {Q : State → Prop}
variable {cc : ByteArray} {pc : Nat} {ls : Array Slot} {rest st0 : List Value} {D : va_G} {dA : Nat → ClassId} {cl : List vw_C} {tys : List (ClassId × FieldType)} {H0 : Heap} {w : zW} {N b : Nat} {ms msC : Nat → Nat → Bool} {M0 M : zM} {a : Array Value}
theorem z_pre (hS : zS D dA cl w N b ms M0 M H) (hK : zKK D cl tys s) {As : List Value} : ∀ U : State, U.heap = H → s.WarmedH U.vm → va_Pc As (zP D dA cl tys w N b M) As.toArray U := fun _ hU hW => ⟨rfl, by rw [hU]; exact hS.1, hS.2.1, va_K.moved hW.alike hK.1, zNst.warm hW hK.2⟩
theorem z_recv (hS : zS D dA cl w N b ms M0 M H) (hK : va_K D cl tys s) {C : String} {T : u_T} {n ci j : Nat} (hj : j < N) (hkd : zkd w j = ci) (hci : ci < 100) (hc : cl[ci]? = some (C, T, n)) : ∃ cell : Cell, H[b + j]? = some cell ∧ cell.vm.isStatics = false ∧ s.vm.findClass C = some cell.cls := by
  subst hkd
  have h := hS.1 j hj
  unfold zcell at h
  rw [if_pos hci] at h
  obtain ⟨q', h1, cell, g1, g2, g3, -⟩ := h
  exact ⟨cell, g1, by rw [g3]; rfl, by rw [g2]; exact (hK.1 _ _ hc).2.1⟩
theorem z_calli {post : Int → zM → Prop} (hr : va_Run p l e R s m args below meth c H locs cells slots 0 0 (F0 m pc ls st0) rest (va_Qi (zQi w msC M post) (zB D dA cl w N b) (zA N b) a) (zA N b)) (hS : zS D dA cl w N b ms M0 M H) (hS0 : va_S (zA N b) H0 H locs) (hms : ∀ j k, ms j k = false → msC j k = false)
    (kk : ∀ (z : Int) (M1 : zM) (H1 : Heap) (locs1 : List Loc), R32 z → post z M1 → zF msC M M1 → zS D dA cl w N b ms M0 M1 H1 → va_S (zA N b) H0 H1 locs1 → W p l e R s m args below meth c H1 locs1 cells slots Q (F0 m (pc + 3) ls (.int (iI z) :: rest))) : W p l e R s m args below meth c H locs cells slots Q (F0 m pc ls st0) := by
  refine va_calli hr hS0 (fun q _ h => h) (fun q h => h) (fun r u t H1 locs1 ht _ hp hB _ _ hS1 => ?_)
  obtain ⟨z, rfl, hz, hJ, hF, hp⟩ := hp
  unfold zB at hB
  rw [ht] at hB
  exact kk z u H1 locs1 hz hp hF ⟨hB, hJ, zF_tr hS.2.2 (zF_mono hF hms)⟩ hS1
theorem z_calll {post : Int → zM → Prop} (hr : va_Run p l e R s m args below meth c H locs cells slots 0 0 (F0 m pc ls st0) rest (va_Ql (zQl w msC M post) (zB D dA cl w N b) (zA N b) a) (zA N b)) (hS : zS D dA cl w N b ms M0 M H) (hS0 : va_S (zA N b) H0 H locs) (hms : ∀ j k, ms j k = false → msC j k = false)
    (kk : ∀ (z : Int) (M1 : zM) (H1 : Heap) (locs1 : List Loc), R64 z → post z M1 → zF msC M M1 → zS D dA cl w N b ms M0 M1 H1 → va_S (zA N b) H0 H1 locs1 → W p l e R s m args below meth c H1 locs1 cells slots Q (F0 m (pc + 3) ls (.long (iL z) :: rest))) : W p l e R s m args below meth c H locs cells slots Q (F0 m pc ls st0) := by
  refine va_calll hr hS0 (fun q _ h => h) (fun q h => h) (fun r u t H1 locs1 ht _ hp hB _ _ hS1 => ?_)
  obtain ⟨z, rfl, hz, hJ, hF, hp⟩ := hp
  unfold zB at hB
  rw [ht] at hB
  exact kk z u H1 locs1 hz hp hF ⟨hB, hJ, zF_tr hS.2.2 (zF_mono hF hms)⟩ hS1
theorem z_callv {post : zM → Prop} (hr : va_Run p l e R s m args below meth c H locs cells slots 0 0 (F0 m pc ls st0) rest (va_Qv (zQv w msC M post) (zB D dA cl w N b) (zA N b) a) (zA N b)) (hS : zS D dA cl w N b ms M0 M H) (hS0 : va_S (zA N b) H0 H locs) (hms : ∀ j k, ms j k = false → msC j k = false)
    (kk : ∀ (M1 : zM) (H1 : Heap) (locs1 : List Loc), post M1 → zF msC M M1 → zS D dA cl w N b ms M0 M1 H1 → va_S (zA N b) H0 H1 locs1 → W p l e R s m args below meth c H1 locs1 cells slots Q (F0 m (pc + 3) ls rest)) : W p l e R s m args below meth c H locs cells slots Q (F0 m pc ls st0) := by
  refine va_callv hr hS0 (fun q _ h => h) (fun q h => h) (fun u t H1 locs1 ht _ hp hB _ _ hS1 => ?_)
  obtain ⟨hJ, hF, hp⟩ := hp
  unfold zB at hB
  rw [ht] at hB
  exact kk u H1 locs1 hp hF ⟨hB, hJ, zF_tr hS.2.2 (zF_mono hF hms)⟩ hS1
end ZC
end
section
/-! THE PLAN of the two worlds: 0 TapeRings; 1 TapeRings$Splicer; 2 TapeRings$Splicer.signs; 3 TapeRings$Splicer.rows; 4 TapeRings$Splicer.terms; 5 TapeRings$Splicer.shared; 6 TapeRings$Strip; 7 TapeRings$Strip.inches; 8 TapeRings$Studio; 9 TapeRings$Studio.motors; 10 TapeRings$Studio.rings; 11 TapeRings$Motor; 12 TapeRings$Motor.ticks; 13 TapeRings$Motor.speeds; 14 TapeRings$Ring; 15 TapeRings$Ring.under; 16 TapeRings$Meeting; 17 TapeRings$Meeting.rounds; 18 TapeRings$Meeting.turns; 19 TapeRings$Planner; 20 TapeRings$Planner.ticks; 21 TapeRings$Planner.sounds; 22 TapeRings$Planner.plan; 23 TapeRings$Planner.trueBy; 24 TapeRings$Planner.trueBy[]; 25 TapeRings$Planner.costs; 26 TapeRings$Planner.costs[]; 27 TapeRings$Planner.cheapest; 28 TapeRings$Planner.under; 29 TapeRings$Planner.ways; 30 TapeRings$Echo; 31 TapeRings$Echo.comesBack; 32 TapeRings$Echo.weights; 33 TapeRings$Echo.outs; 34 TapeRings$OldTape; 35 TapeRings$OldTape.places; 36 TapeRings$OldTape.first; 37 TapeRings$OldTape.second; 38 TapeRings$Pieces; 39 TapeRings$Pieces.best; 40 TapeRings$Pieces.sounds; 41 TapeRings$Pieces.sounds[]; 42 TapeRings$Pieces.lengths; 43 TapeRings$Pieces.laid; 44 TapeRings$Versions; 45 TapeRings$Versions.strips; 46 TapeRings$Versions.rings; 47 TapeRings$Versions.days; 48 TapeRings$Versions.steps; 49 TapeRings.told; 50 TapeRingsModel; 51 TapeRingsModel.text; 52 TapeRingsModel.hand; 53 TapeRingsModel.inches; 54 TapeRingsModel.length; 55 TapeRingsModel.motorOf; 56 TapeRingsModel.start; 57 TapeRingsModel.heads; 58 TapeRingsModel.wish; 59 TapeRingsModel.ticks; 60 TapeRingsModel.speeds; 61 TapeRingsModel.toldMany; 62 TapeRingsModel.markTick; 63 TapeRingsModel.markSound; 64 TapeRingsModel.weights; 65 TapeRingsModel.tape; 66 TapeRingsModel.pieces; 67 TapeRingsModel.pieceSize; 68 TapeRingsModel.versions; 69 TapeRingsModel.versionSize; 70 TapeRingsModel.versionRing; 71 TapeRingsModel.versionDay; 72 TapeRingsModel.row; 73 TapeRingsModel.rowInches; 74 TapeRingsModel.rowSize; 75 TapeRingsModel.termInches; 76 TapeRingsModel.termSize; 77 TapeRingsModel.isHeard; 78 TapeRingsModel.rest; 79 TapeRingsModel.trues; 80 TapeRingsModel.outs; 81 TapeRingsModel.joined; 82 TapeRingsModel.best; 83 TapeRingsModel.edit -/
def zp_kd (q : Nat) : Nat := [11, 7, 100, 104, 104, 100, 8, 100, 9, 105, 106, 2, 100, 100, 6, 100, 1, 100, 100, 5, 100, 100, 100, 107, 100, 107, 100, 100, 100, 100, 0, 100, 100, 100, 3, 100, 100, 100, 4, 100, 107, 100, 100, 100, 10, 104, 100, 100, 100, 100, 12, 102, 100, 100, 100, 100, 100, 100, 100, 100, 100, 100, 100, 100, 100, 100, 100, 100, 100, 100, 100, 100, 100, 100, 100, 100, 100, 103, 100, 100, 100, 100, 100, 100].getD q 0
def zp_ln (q : Nat) : Nat := [0, 0, 100, 6, 6, 6, 0, 24, 0, 2, 4, 0, 12, 12, 0, 24, 0, 4, 4, 0, 6, 6, 8, 4, 300, 5, 64, 64, 24, 6, 0, 2, 10, 4001, 0, 60, 24, 24, 0, 40, 5, 8, 5, 40, 0, 16, 16, 16, 25, 40, 0, 100, 24, 96, 4, 4, 4, 4, 4, 24, 24, 2, 6, 6, 10, 60, 40, 5, 384, 16, 16, 16, 64, 144, 6, 144, 6, 96, 320, 2304, 4001, 240, 40, 625].getD q 0
def zp_rf (q : Nat) : Nat → Nat → Nat := [(fun _ k => [1, 30, 32, 57, 60, 78, 82, 86, 96, 133].getD k 0), (fun _ k => [2, 0, 0, 0, 3, 4, 5].getD k 0), (fun _ _ => 0), (fun _ k => 6 + 4 * k), (fun _ k => 8 + 4 * k), (fun _ _ => 0), (fun j k => j + [1].getD k 0), (fun _ _ => 0), (fun _ k => [33, 34].getD k 0), (fun _ k => 35 + 3 * k), (fun _ k => 41 + 4 * k), (fun j k => j + [1, 2].getD k 0), (fun _ _ => 0), (fun _ _ => 0), (fun j k => j + [1, 0, 0, 0, 0, 3].getD k 0), (fun _ _ => 0), (fun _ k => [0, 0, 58, 59].getD k 0), (fun _ _ => 0), (fun _ _ => 0), (fun _ k => [61, 62, 0, 63, 64, 69, 75, 76, 77].getD k 0), (fun _ _ => 0), (fun _ _ => 0), (fun _ _ => 0), (fun _ k => 65 + 1 * k), (fun _ _ => 0), (fun _ k => 70 + 1 * k), (fun _ _ => 0), (fun _ _ => 0), (fun _ _ => 0), (fun _ _ => 0), (fun _ k => [0, 79, 80, 0, 0, 0, 0, 81].getD k 0), (fun _ _ => 0), (fun _ _ => 0), (fun _ _ => 0), (fun _ k => [83, 0, 84, 85].getD k 0), (fun _ _ => 0), (fun _ _ => 0), (fun _ _ => 0), (fun _ k => [0, 87, 0, 88, 94, 95].getD k 0), (fun _ _ => 0), (fun _ k => 89 + 1 * k), (fun _ _ => 0), (fun _ _ => 0), (fun _ _ => 0), (fun _ k => [0, 97, 98, 99, 100].getD k 0), (fun _ k => 101 + 2 * k), (fun _ _ => 0), (fun _ _ => 0), (fun _ _ => 0), (fun _ _ => 0), (fun _ k => [1, 0, 2, 0, 3, 4, 5, 6, 7, 8, 0, 9, 10, 11, 12, 13, 0, 14, 0, 0, 0, 0, 0, 15, 0, 16, 17, 0, 18, 19, 20, 21, 0, 22, 0, 0, 0, 0, 23, 24, 25, 26, 27, 28, 29, 30, 31, 32, 0, 33].getD k 0), (fun _ _ => 0), (fun _ _ => 0), (fun _ _ => 0), (fun _ _ => 0), (fun _ _ => 0), (fun _ _ => 0), (fun _ _ => 0), (fun _ _ => 0), (fun _ _ => 0), (fun _ _ => 0), (fun _ _ => 0), (fun _ _ => 0), (fun _ _ => 0), (fun _ _ => 0), (fun _ _ => 0), (fun _ _ => 0), (fun _ _ => 0), (fun _ _ => 0), (fun _ _ => 0), (fun _ _ => 0), (fun _ _ => 0), (fun _ _ => 0), (fun _ _ => 0), (fun _ _ => 0), (fun _ _ => 0), (fun _ _ => 0), (fun _ _ => 0), (fun _ _ => 0), (fun _ _ => 0), (fun _ _ => 0), (fun _ _ => 0), (fun _ _ => 0), (fun _ _ => 0)].getD q (fun _ _ => 0)
def zp_bd (q : Nat) : Nat → Int × Int := [(fun k => [(-2147483648, 2147483647), (-2147483648, 2147483647), (-2147483648, 2147483647), (-2147483648, 2147483647), (-2147483648, 2147483647), (-2147483648, 2147483647), (-2147483648, 2147483647), (-2147483648, 2147483647), (-2147483648, 2147483647), (-2147483648, 2147483647), (0, 40)].getD k (-2147483648, 2147483647)), (fun k => [(-2147483648, 2147483647), (0, 100), (-1, 5), (-2147483648, 2147483647), (-2147483648, 2147483647), (-2147483648, 2147483647), (-2147483648, 2147483647)].getD k (-2147483648, 2147483647)), (fun _ => (0, 255)), (fun _ => (-2147483648, 2147483647)), (fun _ => (-2147483648, 2147483647)), (fun _ => (0, 9)), (fun k => [(-2147483648, 2147483647), (0, 24)].getD k (-2147483648, 2147483647)), (fun _ => (-2147483648, 2147483647)), (fun k => [(-2147483648, 2147483647), (-2147483648, 2147483647), (0, 4)].getD k (-2147483648, 2147483647)), (fun _ => (-2147483648, 2147483647)), (fun _ => (-2147483648, 2147483647)), (fun k => [(-2147483648, 2147483647), (-2147483648, 2147483647), (0, 12)].getD k (-2147483648, 2147483647)), (fun _ => (0, 5000)), (fun _ => (-9, 9)), (fun k => [(-2147483648, 2147483647), (0, 1), (0, 23), (-2147483648, 2147483647), (-2147483648, 2147483647), (-2147483648, 2147483647)].getD k (-2147483648, 2147483647)), (fun _ => (-2147483648, 2147483647)), (fun k => [(0, 4), (0, 5000), (-2147483648, 2147483647), (-2147483648, 2147483647)].getD k (-2147483648, 2147483647)), (fun _ => (0, 24)), (fun _ => (-2147483648, 2147483647)), (fun k => [(-2147483648, 2147483647), (-2147483648, 2147483647), (0, 6), (-2147483648, 2147483647), (-2147483648, 2147483647), (-2147483648, 2147483647), (-2147483648, 2147483647), (-2147483648, 2147483647), (-2147483648, 2147483647)].getD k (-2147483648, 2147483647)), (fun _ => (0, 100000)), (fun _ => (0, 9)), (fun _ => (0, 23)), (fun _ => (-2147483648, 2147483647)), (fun _ => (0, 63)), (fun _ => (-2147483648, 2147483647)), (fun _ => (-2147483648, 2147483647)), (fun _ => (-2147483648, 2147483647)), (fun _ => (-2147483648, 2147483647)), (fun _ => (-2147483648, 2147483647)), (fun k => [(0, 2000), (-2147483648, 2147483647), (-2147483648, 2147483647), (1, 20), (0, 100), (1, 20), (0, 100), (-2147483648, 2147483647)].getD k (-2147483648, 2147483647)), (fun _ => (-2147483648, 2147483647)), (fun _ => (0, 200)), (fun _ => (0, 5000)), (fun k => [(-2147483648, 2147483647), (0, 60), (-2147483648, 2147483647), (-2147483648, 2147483647)].getD k (-2147483648, 2147483647)), (fun _ => (-2147483648, 2147483647)), (fun _ => (-2147483648, 2147483647)), (fun _ => (-2147483648, 2147483647)), (fun k => [(0, 5), (-2147483648, 2147483647), (-2147483648, 2147483647), (-2147483648, 2147483647), (-2147483648, 2147483647), (-2147483648, 2147483647)].getD k (-2147483648, 2147483647)), (fun _ => (0, 9)), (fun _ => (-2147483648, 2147483647)), (fun _ => (0, 9)), (fun _ => (0, 8)), (fun _ => (0, 9)), (fun k => [(0, 16), (-2147483648, 2147483647), (-2147483648, 2147483647), (-2147483648, 2147483647), (-2147483648, 2147483647)].getD k (-2147483648, 2147483647)), (fun _ => (-2147483648, 2147483647)), (fun _ => (-2147483648, 2147483647)), (fun _ => (0, 999)), (fun _ => (-2147483648, 2147483647)), (fun _ => (-2147483648, 2147483647)), (fun k => [(-2147483648, 2147483647), (0, 100), (-2147483648, 2147483647), (0, 24), (-2147483648, 2147483647), (-2147483648, 2147483647), (-2147483648, 2147483647), (-2147483648, 2147483647), (-2147483648, 2147483647), (-2147483648, 2147483647), (0, 4), (-2147483648, 2147483647), (-2147483648, 2147483647), (-2147483648, 2147483647), (-2147483648, 2147483647), (-2147483648, 2147483647), (0, 6), (-2147483648, 2147483647), (1, 20), (0, 100), (1, 20), (0, 100), (0, 2000), (-2147483648, 2147483647), (0, 60), (-2147483648, 2147483647), (-2147483648, 2147483647), (0, 5), (-2147483648, 2147483647), (-2147483648, 2147483647), (-2147483648, 2147483647), (-2147483648, 2147483647), (0, 16), (-2147483648, 2147483647), (0, 64), (0, 1), (0, 100), (-2147483648, 2147483647), (-2147483648, 2147483647), (-2147483648, 2147483647), (-2147483648, 2147483647), (-2147483648, 2147483647), (-2147483648, 2147483647), (-2147483648, 2147483647), (-2147483648, 2147483647), (-2147483648, 2147483647), (-2147483648, 2147483647), (-2147483648, 2147483647), (-2147483648, 2147483647), (-2147483648, 2147483647)].getD k (-2147483648, 2147483647)), (fun _ => (-128, 127)), (fun _ => (-2147483648, 2147483647)), (fun _ => (-2147483648, 2147483647)), (fun _ => (0, 24)), (fun _ => (0, 1)), (fun _ => (0, 23)), (fun _ => (-2147483648, 2147483647)), (fun _ => (-2147483648, 2147483647)), (fun _ => (0, 5000)), (fun _ => (-9, 9)), (fun _ => (0, 12)), (fun _ => (0, 100000)), (fun _ => (0, 9)), (fun _ => (0, 200)), (fun _ => (-2147483648, 2147483647)), (fun _ => (0, 9)), (fun _ => (0, 8)), (fun _ => (-2147483648, 2147483647)), (fun _ => (0, 24)), (fun _ => (-2147483648, 2147483647)), (fun _ => (0, 999)), (fun _ => (-2147483648, 2147483647)), (fun _ => (-2147483648, 2147483647)), (fun _ => (0, 24)), (fun _ => (-2147483648, 2147483647)), (fun _ => (0, 24)), (fun _ => (0, 1)), (fun _ => (-2147483648, 2147483647)), (fun _ => (0, 63)), (fun _ => (0, 5000)), (fun _ => (-2147483648, 2147483647)), (fun _ => (-2147483648, 2147483647)), (fun _ => (-2147483648, 2147483647))].getD q (fun _ => (0, 0))
def zp_mc (q : Nat) : Nat → Nat := [(fun k => 0 + k), (fun k => 64 + k), (fun _ => 191), (fun _ => 255), (fun _ => 319), (fun _ => 383), (fun k => 384 + k), (fun _ => 511), (fun k => 512 + k), (fun _ => 639), (fun _ => 703), (fun k => 704 + k), (fun _ => 831), (fun _ => 895), (fun k => 896 + k), (fun _ => 1023), (fun k => 1024 + k), (fun _ => 1151), (fun _ => 1215), (fun k => 1216 + k), (fun _ => 1343), (fun _ => 1407), (fun _ => 1471), (fun _ => 1535), (fun _ => 1599), (fun _ => 1663), (fun _ => 1727), (fun _ => 1791), (fun _ => 1855), (fun _ => 1919), (fun k => 1920 + k), (fun _ => 2047), (fun _ => 2111), (fun _ => 2175), (fun k => 2176 + k), (fun _ => 2303), (fun _ => 2367), (fun _ => 2431), (fun k => 2432 + k), (fun _ => 2559), (fun _ => 2623), (fun _ => 2687), (fun _ => 2751), (fun _ => 2815), (fun k => 2816 + k), (fun _ => 2943), (fun _ => 3007), (fun _ => 3071), (fun _ => 3135), (fun _ => 3199), (fun k => 3200 + k), (fun _ => 3327), (fun _ => 3391), (fun _ => 3455), (fun _ => 3519), (fun _ => 3583), (fun _ => 3647), (fun _ => 3711), (fun _ => 3775), (fun _ => 3839), (fun _ => 3903), (fun _ => 3967), (fun _ => 4031), (fun _ => 4095), (fun _ => 4159), (fun _ => 4223), (fun _ => 4287), (fun _ => 4351), (fun _ => 4415), (fun _ => 4479), (fun _ => 4543), (fun _ => 4607), (fun _ => 4671), (fun _ => 4735), (fun _ => 4799), (fun _ => 4863), (fun _ => 4927), (fun _ => 4991), (fun _ => 5055), (fun _ => 5119), (fun _ => 5183), (fun _ => 5247), (fun _ => 5311), (fun _ => 5375)].getD q (fun _ => 0)
def zp_nf (c : Nat) : Nat := [8, 4, 3, 4, 6, 9, 6, 7, 2, 3, 5, 11, 50].getD c 0
def zp_fk (c : Nat) : Nat → Nat := [(fun k => [0, 2, 2, 0, 0, 0, 0, 2].getD k 0), (fun k => [0, 1, 2, 2].getD k 0), (fun k => [2, 2, 0].getD k 0), (fun k => [2, 0, 2, 2].getD k 0), (fun k => [0, 2, 0, 2, 2, 2].getD k 0), (fun k => [2, 2, 0, 2, 2, 2, 2, 2, 2].getD k 0), (fun k => [2, 0, 0, 0, 0, 2].getD k 0), (fun k => [2, 0, 0, 0, 2, 2, 2].getD k 0), (fun k => [2, 0].getD k 0), (fun k => [2, 2, 0].getD k 0), (fun k => [0, 2, 2, 2, 2].getD k 0), (fun k => [2, 2, 2, 2, 2, 2, 2, 2, 2, 2, 0].getD k 0), (fun k => [2, 0, 2, 0, 2, 2, 2, 2, 2, 2, 0, 2, 2, 2, 2, 2, 0, 2, 0, 0, 0, 0, 0, 2, 0, 2, 2, 0, 2, 2, 2, 2, 0, 2, 0, 0, 0, 0, 2, 2, 2, 2, 2, 2, 2, 2, 2, 2, 0, 2].getD k 0)].getD c (fun _ => 0)
def zC_cd (j : Nat) : Nat := [0, 1, 2, 3, 4, 5, 6, 7, 6, 7, 6, 7, 6, 7, 6, 7, 6, 7, 6, 7, 6, 7, 6, 7, 6, 7, 6, 7, 6, 7, 6, 7, 8, 9, 10, 11, 12, 13, 11, 12, 13, 14, 6, 7, 15, 14, 6, 7, 15, 14, 6, 7, 15, 14, 6, 7, 15, 16, 17, 18, 19, 20, 21, 22, 23, 24, 24, 24, 24, 25, 26, 26, 26, 26, 26, 27, 28, 29, 30, 31, 32, 33, 34, 35, 36, 37, 38, 39, 40, 41, 41, 41, 41, 41, 42, 43, 44, 45, 46, 47, 48, 6, 7, 6, 7, 6, 7, 6, 7, 6, 7, 6, 7, 6, 7, 6, 7, 6, 7, 6, 7, 6, 7, 6, 7, 6, 7, 6, 7, 6, 7, 6, 7, 49].getD j 0
def wC : zW := (zC_cd, zp_kd, zp_ln, zp_rf, zp_nf, zp_fk, zp_bd, zp_mc)
def zR_cd (j : Nat) : Nat := [50, 51, 52, 53, 54, 55, 56, 57, 58, 59, 60, 61, 62, 63, 64, 65, 66, 67, 68, 69, 70, 71, 72, 73, 74, 75, 76, 77, 78, 79, 80, 81, 82, 83].getD j 0
def wR : zW := (zR_cd, zp_kd, zp_ln, zp_rf, zp_nf, zp_fk, zp_bd, zp_mc)
abbrev nC : Nat := 134
abbrev nR : Nat := 34
def z_tys (dA : Nat → ClassId) : List (ClassId × FieldType) := [(dA 0, .int), (dA 1, .long), (dA 2, .byte), (dA 3, .boolean), (dA 4, .object "TapeRings$Strip"), (dA 5, .object "TapeRings$Motor"), (dA 6, .object "TapeRings$Ring"), (dA 7, .array .int)]
theorem f0_0 : zFld vwCl wC 0 RX0 TX0 8 0 0 := ⟨rfl, by decide, rfl, by decide, rfl⟩
theorem f0_1 : zFld vwCl wC 0 RX0 TX0 8 1 2 := ⟨rfl, by decide, rfl, by decide, rfl⟩
theorem f0_2 : zFld vwCl wC 0 RX0 TX0 8 2 2 := ⟨rfl, by decide, rfl, by decide, rfl⟩
theorem f0_3 : zFld vwCl wC 0 RX0 TX0 8 3 0 := ⟨rfl, by decide, rfl, by decide, rfl⟩
theorem f0_4 : zFld vwCl wC 0 RX0 TX0 8 4 0 := ⟨rfl, by decide, rfl, by decide, rfl⟩
theorem f0_5 : zFld vwCl wC 0 RX0 TX0 8 5 0 := ⟨rfl, by decide, rfl, by decide, rfl⟩
theorem f0_6 : zFld vwCl wC 0 RX0 TX0 8 6 0 := ⟨rfl, by decide, rfl, by decide, rfl⟩
theorem f0_7 : zFld vwCl wC 0 RX0 TX0 8 7 2 := ⟨rfl, by decide, rfl, by decide, rfl⟩
theorem f1_0 : zFld vwCl wC 1 RX1 TX1 4 0 0 := ⟨rfl, by decide, rfl, by decide, rfl⟩
theorem f1_1 : zFld vwCl wC 1 RX1 TX1 4 1 1 := ⟨rfl, by decide, rfl, by decide, rfl⟩
theorem f1_2 : zFld vwCl wC 1 RX1 TX1 4 2 2 := ⟨rfl, by decide, rfl, by decide, rfl⟩
theorem f1_3 : zFld vwCl wC 1 RX1 TX1 4 3 2 := ⟨rfl, by decide, rfl, by decide, rfl⟩
theorem f2_0 : zFld vwCl wC 2 RX2 TX2 3 0 2 := ⟨rfl, by decide, rfl, by decide, rfl⟩
theorem f2_1 : zFld vwCl wC 2 RX2 TX2 3 1 2 := ⟨rfl, by decide, rfl, by decide, rfl⟩
theorem f2_2 : zFld vwCl wC 2 RX2 TX2 3 2 0 := ⟨rfl, by decide, rfl, by decide, rfl⟩
theorem f3_0 : zFld vwCl wC 3 RX3 TX3 4 0 2 := ⟨rfl, by decide, rfl, by decide, rfl⟩
theorem f3_1 : zFld vwCl wC 3 RX3 TX3 4 1 0 := ⟨rfl, by decide, rfl, by decide, rfl⟩
theorem f3_2 : zFld vwCl wC 3 RX3 TX3 4 2 2 := ⟨rfl, by decide, rfl, by decide, rfl⟩
theorem f3_3 : zFld vwCl wC 3 RX3 TX3 4 3 2 := ⟨rfl, by decide, rfl, by decide, rfl⟩
theorem f4_0 : zFld vwCl wC 4 RX4 TX4 6 0 0 := ⟨rfl, by decide, rfl, by decide, rfl⟩
theorem f4_1 : zFld vwCl wC 4 RX4 TX4 6 1 2 := ⟨rfl, by decide, rfl, by decide, rfl⟩
theorem f4_2 : zFld vwCl wC 4 RX4 TX4 6 2 0 := ⟨rfl, by decide, rfl, by decide, rfl⟩
theorem f4_3 : zFld vwCl wC 4 RX4 TX4 6 3 2 := ⟨rfl, by decide, rfl, by decide, rfl⟩
theorem f4_4 : zFld vwCl wC 4 RX4 TX4 6 4 2 := ⟨rfl, by decide, rfl, by decide, rfl⟩
theorem f4_5 : zFld vwCl wC 4 RX4 TX4 6 5 2 := ⟨rfl, by decide, rfl, by decide, rfl⟩
theorem f5_0 : zFld vwCl wC 5 RX5 TX5 9 0 2 := ⟨rfl, by decide, rfl, by decide, rfl⟩
theorem f5_1 : zFld vwCl wC 5 RX5 TX5 9 1 2 := ⟨rfl, by decide, rfl, by decide, rfl⟩
theorem f5_2 : zFld vwCl wC 5 RX5 TX5 9 2 0 := ⟨rfl, by decide, rfl, by decide, rfl⟩
theorem f5_3 : zFld vwCl wC 5 RX5 TX5 9 3 2 := ⟨rfl, by decide, rfl, by decide, rfl⟩
theorem f5_4 : zFld vwCl wC 5 RX5 TX5 9 4 2 := ⟨rfl, by decide, rfl, by decide, rfl⟩
theorem f5_5 : zFld vwCl wC 5 RX5 TX5 9 5 2 := ⟨rfl, by decide, rfl, by decide, rfl⟩
theorem f5_6 : zFld vwCl wC 5 RX5 TX5 9 6 2 := ⟨rfl, by decide, rfl, by decide, rfl⟩
theorem f5_7 : zFld vwCl wC 5 RX5 TX5 9 7 2 := ⟨rfl, by decide, rfl, by decide, rfl⟩
theorem f5_8 : zFld vwCl wC 5 RX5 TX5 9 8 2 := ⟨rfl, by decide, rfl, by decide, rfl⟩
theorem f6_0 : zFld vwCl wC 6 RX6 TX6 6 0 2 := ⟨rfl, by decide, rfl, by decide, rfl⟩
theorem f6_1 : zFld vwCl wC 6 RX6 TX6 6 1 0 := ⟨rfl, by decide, rfl, by decide, rfl⟩
theorem f6_2 : zFld vwCl wC 6 RX6 TX6 6 2 0 := ⟨rfl, by decide, rfl, by decide, rfl⟩
theorem f6_3 : zFld vwCl wC 6 RX6 TX6 6 3 0 := ⟨rfl, by decide, rfl, by decide, rfl⟩
theorem f6_4 : zFld vwCl wC 6 RX6 TX6 6 4 0 := ⟨rfl, by decide, rfl, by decide, rfl⟩
theorem f6_5 : zFld vwCl wC 6 RX6 TX6 6 5 2 := ⟨rfl, by decide, rfl, by decide, rfl⟩
theorem f7_0 : zFld vwCl wC 7 RX7 TX7 7 0 2 := ⟨rfl, by decide, rfl, by decide, rfl⟩
theorem f7_1 : zFld vwCl wC 7 RX7 TX7 7 1 0 := ⟨rfl, by decide, rfl, by decide, rfl⟩
theorem f7_2 : zFld vwCl wC 7 RX7 TX7 7 2 0 := ⟨rfl, by decide, rfl, by decide, rfl⟩
theorem f7_3 : zFld vwCl wC 7 RX7 TX7 7 3 0 := ⟨rfl, by decide, rfl, by decide, rfl⟩
theorem f7_4 : zFld vwCl wC 7 RX7 TX7 7 4 2 := ⟨rfl, by decide, rfl, by decide, rfl⟩
theorem f7_5 : zFld vwCl wC 7 RX7 TX7 7 5 2 := ⟨rfl, by decide, rfl, by decide, rfl⟩
theorem f7_6 : zFld vwCl wC 7 RX7 TX7 7 6 2 := ⟨rfl, by decide, rfl, by decide, rfl⟩
theorem f8_0 : zFld vwCl wC 8 RX8 TX8 2 0 2 := ⟨rfl, by decide, rfl, by decide, rfl⟩
theorem f8_1 : zFld vwCl wC 8 RX8 TX8 2 1 0 := ⟨rfl, by decide, rfl, by decide, rfl⟩
theorem f9_0 : zFld vwCl wC 9 RX9 TX9 3 0 2 := ⟨rfl, by decide, rfl, by decide, rfl⟩
theorem f9_1 : zFld vwCl wC 9 RX9 TX9 3 1 2 := ⟨rfl, by decide, rfl, by decide, rfl⟩
theorem f9_2 : zFld vwCl wC 9 RX9 TX9 3 2 0 := ⟨rfl, by decide, rfl, by decide, rfl⟩
theorem f10_0 : zFld vwCl wC 10 RX10 TX10 5 0 0 := ⟨rfl, by decide, rfl, by decide, rfl⟩
theorem f10_1 : zFld vwCl wC 10 RX10 TX10 5 1 2 := ⟨rfl, by decide, rfl, by decide, rfl⟩
theorem f10_2 : zFld vwCl wC 10 RX10 TX10 5 2 2 := ⟨rfl, by decide, rfl, by decide, rfl⟩
theorem f10_3 : zFld vwCl wC 10 RX10 TX10 5 3 2 := ⟨rfl, by decide, rfl, by decide, rfl⟩
theorem f10_4 : zFld vwCl wC 10 RX10 TX10 5 4 2 := ⟨rfl, by decide, rfl, by decide, rfl⟩
theorem f11_0 : zFld vwCl wC 11 RX11 TX11 11 0 2 := ⟨rfl, by decide, rfl, by decide, rfl⟩
theorem f11_1 : zFld vwCl wC 11 RX11 TX11 11 1 2 := ⟨rfl, by decide, rfl, by decide, rfl⟩
theorem f11_2 : zFld vwCl wC 11 RX11 TX11 11 2 2 := ⟨rfl, by decide, rfl, by decide, rfl⟩
theorem f11_3 : zFld vwCl wC 11 RX11 TX11 11 3 2 := ⟨rfl, by decide, rfl, by decide, rfl⟩
theorem f11_4 : zFld vwCl wC 11 RX11 TX11 11 4 2 := ⟨rfl, by decide, rfl, by decide, rfl⟩
theorem f11_5 : zFld vwCl wC 11 RX11 TX11 11 5 2 := ⟨rfl, by decide, rfl, by decide, rfl⟩
theorem f11_6 : zFld vwCl wC 11 RX11 TX11 11 6 2 := ⟨rfl, by decide, rfl, by decide, rfl⟩
theorem f11_7 : zFld vwCl wC 11 RX11 TX11 11 7 2 := ⟨rfl, by decide, rfl, by decide, rfl⟩
theorem f11_8 : zFld vwCl wC 11 RX11 TX11 11 8 2 := ⟨rfl, by decide, rfl, by decide, rfl⟩
theorem f11_9 : zFld vwCl wC 11 RX11 TX11 11 9 2 := ⟨rfl, by decide, rfl, by decide, rfl⟩
theorem f11_10 : zFld vwCl wC 11 RX11 TX11 11 10 0 := ⟨rfl, by decide, rfl, by decide, rfl⟩
theorem f12_0 : zFld vwCl wR 12 RX12 TX12 50 0 2 := ⟨rfl, by decide, rfl, by decide, rfl⟩
theorem f12_1 : zFld vwCl wR 12 RX12 TX12 50 1 0 := ⟨rfl, by decide, rfl, by decide, rfl⟩
theorem f12_2 : zFld vwCl wR 12 RX12 TX12 50 2 2 := ⟨rfl, by decide, rfl, by decide, rfl⟩
theorem f12_3 : zFld vwCl wR 12 RX12 TX12 50 3 0 := ⟨rfl, by decide, rfl, by decide, rfl⟩
theorem f12_4 : zFld vwCl wR 12 RX12 TX12 50 4 2 := ⟨rfl, by decide, rfl, by decide, rfl⟩
theorem f12_5 : zFld vwCl wR 12 RX12 TX12 50 5 2 := ⟨rfl, by decide, rfl, by decide, rfl⟩
theorem f12_6 : zFld vwCl wR 12 RX12 TX12 50 6 2 := ⟨rfl, by decide, rfl, by decide, rfl⟩
theorem f12_7 : zFld vwCl wR 12 RX12 TX12 50 7 2 := ⟨rfl, by decide, rfl, by decide, rfl⟩
theorem f12_8 : zFld vwCl wR 12 RX12 TX12 50 8 2 := ⟨rfl, by decide, rfl, by decide, rfl⟩
theorem f12_9 : zFld vwCl wR 12 RX12 TX12 50 9 2 := ⟨rfl, by decide, rfl, by decide, rfl⟩
theorem f12_10 : zFld vwCl wR 12 RX12 TX12 50 10 0 := ⟨rfl, by decide, rfl, by decide, rfl⟩
theorem f12_11 : zFld vwCl wR 12 RX12 TX12 50 11 2 := ⟨rfl, by decide, rfl, by decide, rfl⟩
theorem f12_12 : zFld vwCl wR 12 RX12 TX12 50 12 2 := ⟨rfl, by decide, rfl, by decide, rfl⟩
theorem f12_13 : zFld vwCl wR 12 RX12 TX12 50 13 2 := ⟨rfl, by decide, rfl, by decide, rfl⟩
theorem f12_14 : zFld vwCl wR 12 RX12 TX12 50 14 2 := ⟨rfl, by decide, rfl, by decide, rfl⟩
theorem f12_15 : zFld vwCl wR 12 RX12 TX12 50 15 2 := ⟨rfl, by decide, rfl, by decide, rfl⟩
theorem f12_16 : zFld vwCl wR 12 RX12 TX12 50 16 0 := ⟨rfl, by decide, rfl, by decide, rfl⟩
theorem f12_17 : zFld vwCl wR 12 RX12 TX12 50 17 2 := ⟨rfl, by decide, rfl, by decide, rfl⟩
theorem f12_18 : zFld vwCl wR 12 RX12 TX12 50 18 0 := ⟨rfl, by decide, rfl, by decide, rfl⟩
theorem f12_19 : zFld vwCl wR 12 RX12 TX12 50 19 0 := ⟨rfl, by decide, rfl, by decide, rfl⟩
theorem f12_20 : zFld vwCl wR 12 RX12 TX12 50 20 0 := ⟨rfl, by decide, rfl, by decide, rfl⟩
theorem f12_21 : zFld vwCl wR 12 RX12 TX12 50 21 0 := ⟨rfl, by decide, rfl, by decide, rfl⟩
theorem f12_22 : zFld vwCl wR 12 RX12 TX12 50 22 0 := ⟨rfl, by decide, rfl, by decide, rfl⟩
theorem f12_23 : zFld vwCl wR 12 RX12 TX12 50 23 2 := ⟨rfl, by decide, rfl, by decide, rfl⟩
theorem f12_24 : zFld vwCl wR 12 RX12 TX12 50 24 0 := ⟨rfl, by decide, rfl, by decide, rfl⟩
theorem f12_25 : zFld vwCl wR 12 RX12 TX12 50 25 2 := ⟨rfl, by decide, rfl, by decide, rfl⟩
theorem f12_26 : zFld vwCl wR 12 RX12 TX12 50 26 2 := ⟨rfl, by decide, rfl, by decide, rfl⟩
theorem f12_27 : zFld vwCl wR 12 RX12 TX12 50 27 0 := ⟨rfl, by decide, rfl, by decide, rfl⟩
theorem f12_28 : zFld vwCl wR 12 RX12 TX12 50 28 2 := ⟨rfl, by decide, rfl, by decide, rfl⟩
theorem f12_29 : zFld vwCl wR 12 RX12 TX12 50 29 2 := ⟨rfl, by decide, rfl, by decide, rfl⟩
theorem f12_30 : zFld vwCl wR 12 RX12 TX12 50 30 2 := ⟨rfl, by decide, rfl, by decide, rfl⟩
theorem f12_31 : zFld vwCl wR 12 RX12 TX12 50 31 2 := ⟨rfl, by decide, rfl, by decide, rfl⟩
theorem f12_32 : zFld vwCl wR 12 RX12 TX12 50 32 0 := ⟨rfl, by decide, rfl, by decide, rfl⟩
theorem f12_33 : zFld vwCl wR 12 RX12 TX12 50 33 2 := ⟨rfl, by decide, rfl, by decide, rfl⟩
theorem f12_34 : zFld vwCl wR 12 RX12 TX12 50 34 0 := ⟨rfl, by decide, rfl, by decide, rfl⟩
theorem f12_35 : zFld vwCl wR 12 RX12 TX12 50 35 0 := ⟨rfl, by decide, rfl, by decide, rfl⟩
theorem f12_36 : zFld vwCl wR 12 RX12 TX12 50 36 0 := ⟨rfl, by decide, rfl, by decide, rfl⟩
theorem f12_37 : zFld vwCl wR 12 RX12 TX12 50 37 0 := ⟨rfl, by decide, rfl, by decide, rfl⟩
theorem f12_38 : zFld vwCl wR 12 RX12 TX12 50 38 2 := ⟨rfl, by decide, rfl, by decide, rfl⟩
theorem f12_39 : zFld vwCl wR 12 RX12 TX12 50 39 2 := ⟨rfl, by decide, rfl, by decide, rfl⟩
theorem f12_40 : zFld vwCl wR 12 RX12 TX12 50 40 2 := ⟨rfl, by decide, rfl, by decide, rfl⟩
theorem f12_41 : zFld vwCl wR 12 RX12 TX12 50 41 2 := ⟨rfl, by decide, rfl, by decide, rfl⟩
theorem f12_42 : zFld vwCl wR 12 RX12 TX12 50 42 2 := ⟨rfl, by decide, rfl, by decide, rfl⟩
theorem f12_43 : zFld vwCl wR 12 RX12 TX12 50 43 2 := ⟨rfl, by decide, rfl, by decide, rfl⟩
theorem f12_44 : zFld vwCl wR 12 RX12 TX12 50 44 2 := ⟨rfl, by decide, rfl, by decide, rfl⟩
theorem f12_45 : zFld vwCl wR 12 RX12 TX12 50 45 2 := ⟨rfl, by decide, rfl, by decide, rfl⟩
theorem f12_46 : zFld vwCl wR 12 RX12 TX12 50 46 2 := ⟨rfl, by decide, rfl, by decide, rfl⟩
theorem f12_47 : zFld vwCl wR 12 RX12 TX12 50 47 2 := ⟨rfl, by decide, rfl, by decide, rfl⟩
theorem f12_48 : zFld vwCl wR 12 RX12 TX12 50 48 0 := ⟨rfl, by decide, rfl, by decide, rfl⟩
theorem f12_49 : zFld vwCl wR 12 RX12 TX12 50 49 2 := ⟨rfl, by decide, rfl, by decide, rfl⟩
theorem nx_strip (j : Nat) (h : j < nC) (h2 : zcd wC j = 6) : j + 1 < nC ∧ zcd wC (j + 1) = 7 := (by decide : ∀ j, j < nC → zcd wC j = 6 → j + 1 < nC ∧ zcd wC (j + 1) = 7) j h h2
theorem nx_motor (j : Nat) (h : j < nC) (h2 : zcd wC j = 11) : j + 1 < nC ∧ zcd wC (j + 1) = 12 ∧ j + 2 < nC ∧ zcd wC (j + 2) = 13 := (by decide : ∀ j, j < nC → zcd wC j = 11 → j + 1 < nC ∧ zcd wC (j + 1) = 12 ∧ j + 2 < nC ∧ zcd wC (j + 2) = 13) j h h2
theorem nx_ring (j : Nat) (h : j < nC) (h2 : zcd wC j = 14) : j + 1 < nC ∧ zcd wC (j + 1) = 6 ∧ j + 2 < nC ∧ zcd wC (j + 2) = 7 ∧ j + 3 < nC ∧ zcd wC (j + 3) = 15 := (by decide : ∀ j, j < nC → zcd wC j = 14 → j + 1 < nC ∧ zcd wC (j + 1) = 6 ∧ j + 2 < nC ∧ zcd wC (j + 2) = 7 ∧ j + 3 < nC ∧ zcd wC (j + 3) = 15) j h h2
end
section
/-! ends, calls that answer a reference, the words of a call, switches -/
theorem r32b {z lo hi : Int} (h : lo ≤ z ∧ z ≤ hi) (h1 : -2147483648 ≤ lo) (h2 : hi ≤ 2147483647) : R32 z := ⟨by omega, by omega⟩
theorem r64b {z lo hi : Int} (h : lo ≤ z ∧ z ≤ hi) (h1 : -9223372036854775808 ≤ lo) (h2 : hi ≤ 9223372036854775807) : R64 z := ⟨by omega, by omega⟩
theorem r64of {z : Int} (h : R32 z) : R64 z := ⟨by omega, by omega⟩
def z_rm (d : Nat) : Room := { frames := d, cells := 0, slots := 0, locals := 64 * d }
def zQq (w : zW) (ms : Nat → Nat → Bool) (M : zM) (post : Option Nat → zM → Prop) : Option Nat → zM → Prop := fun r u => zJ w u ∧ zF ms M u ∧ post r u
theorem z_mem {c1 w : Cond} (h : w ∈ zt) : w ∈ c1 :: zt := List.mem_cons_of_mem _ h
theorem z_memU {c1 : Cond} {L : List Cond} (h : ∀ w ∈ L, w ∈ zt) : ∀ w ∈ L, w ∈ c1 :: zt := fun w hw => List.mem_cons_of_mem _ (h w hw)
theorem z_memL {L : List Cond} (h : ∀ w ∈ L, w ∈ zt) : ∀ w ∈ L, w ∈ lw_tbl := fun w hw => zt_in w (h w hw)
theorem z_gd {c1 w : Cond} (h : w ∈ zt) : w ∈ c1 :: zt ∧ ((w.onTables && w.keeps) = true ∨ ∃ ty, w = .arrayClass ty) := ⟨List.mem_cons_of_mem _ h, good_of_word (zt_good w h)⟩
theorem z_gV {c1 cd : Cond} {own C : String} {idx : Nat} {y : MethodName} (h1 : Cond.methodLink own idx y ∈ zt) (h2 : Cond.instanceMethod y ∈ zt) (h3 : Cond.selects C y y ∈ zt) (h4 : Cond.initialized C ∈ zt) (h5 : cd ∈ zt) : GoodIn (c1 :: zt) (wsV own idx C y (cd :: zt)) := by
  intro w hw
  unfold wsV at hw
  simp only [List.cons_append, List.nil_append, List.mem_cons] at hw
  rcases hw with rfl | rfl | rfl | rfl | rfl | h
  · exact z_gd h1
  · exact z_gd h2
  · exact z_gd h3
  · exact z_gd h4
  · exact z_gd h5
  · exact z_gd h
theorem z_gS {c1 cd : Cond} {own : String} {idx : Nat} {y : MethodName} (h1 : Cond.methodLink own idx y ∈ zt) (h2 : Cond.static y ∈ zt) (h4 : Cond.initialized y.cls ∈ zt) (h5 : cd ∈ zt) : GoodIn (c1 :: zt) (va_wsS own idx y (cd :: zt)) := by
  intro w hw
  unfold va_wsS at hw
  simp only [List.cons_append, List.nil_append, List.mem_cons] at hw
  rcases hw with rfl | rfl | rfl | rfl | h
  · exact z_gd h1
  · exact z_gd h2
  · exact z_gd h4
  · exact z_gd h5
  · exact z_gd h
theorem z_gN {c1 cd : Cond} (h5 : cd ∈ zt) : GoodIn (c1 :: zt) (cd :: zt) := by
  intro w hw
  rcases List.mem_cons.mp hw with rfl | h
  · exact z_gd h5
  · exact z_gd h
theorem z_gL {ws : List Cond} {c1 : Cond} (h1 : c1 ∈ zt) (h : GoodIn (c1 :: zt) ws) : GoodIn lw_tbl ws := fun w hw => ⟨by
  rcases List.mem_cons.mp (h w hw).1 with e | e
  · rw [e]; exact zt_in _ h1
  · exact zt_in _ e, (h w hw).2⟩
section ZE
variable {p : Program} {l : Launch} {e : Env} {R : Room} {s : State} {m : MethodId} {args : Array Value} {below : List Frame} {meth : Method} {c : Code} {H : Heap} {locs : List Loc} {cells slots : Nat} {Q : State → Prop}
variable {cc : ByteArray} {pc : Nat} {ls : Array Slot} {rest st0 : List Value} {D : va_G} {dA : Nat → ClassId} {cl : List vw_C} {tys : List (ClassId × FieldType)} {H0 : Heap} {w : zW} {N b : Nat} {ms msC : Nat → Nat → Bool} {M M0 M1 : zM} {a : Array Value}
theorem z_iret {post : Int → zM → Prop} (hexec : p.tables.exec = Jvm.exec) (hb : c.code = cc) (hr : meth.sig.returnType = some .int) (hlocks : meth.locks = false) (hS : zS D dA cl w N b ms M M1 H) (hS0 : va_S (zA N b) s.heap H locs) {z : Int} (hz : R32 z) (hp : post z M1) (hdg : decode cc pc = .ok (.ireturn, 1)) :
    W p l e R s m args below meth c H locs cells slots (MQ below (va_Qi (zQi w ms M post) (zB D dA cl w N b) (zA N b)) args s cells slots (zA N b)) (F0 m pc ls [.int (iI z)]) :=
  W.iret hexec hb hr (fun t ht hW => ⟨⟨iI z, M1, rfl, ⟨z, rfl, hz, hS.2.1, hS.2.2, hp⟩, by unfold zB; rw [ht]; exact hS.1⟩, hS0.F ht⟩) hS0.2.2 hdg hlocks
theorem z_zret {post : Int → zM → Prop} (hexec : p.tables.exec = Jvm.exec) (hb : c.code = cc) (hr : meth.sig.returnType = some .boolean) (hlocks : meth.locks = false) (hS : zS D dA cl w N b ms M M1 H) (hS0 : va_S (zA N b) s.heap H locs) {z : Int} (hz : z = 0 ∨ z = 1) (hp : post z M1) (hdg : decode cc pc = .ok (.ireturn, 1)) :
    W p l e R s m args below meth c H locs cells slots (MQ below (va_Qi (zQi w ms M post) (zB D dA cl w N b) (zA N b)) args s cells slots (zA N b)) (F0 m pc ls [.int (iI z)]) :=
  W.zret hexec hb hr (by rcases hz with rfl | rfl <;> rfl) (fun t ht hW => ⟨⟨iI z, M1, rfl, ⟨z, rfl, by rcases hz with rfl | rfl <;> decide, hS.2.1, hS.2.2, hp⟩, by unfold zB; rw [ht]; exact hS.1⟩, hS0.F ht⟩) hS0.2.2 hdg hlocks
theorem z_lret {post : Int → zM → Prop} (hexec : p.tables.exec = Jvm.exec) (hb : c.code = cc) (hr : meth.sig.returnType = some .long) (hlocks : meth.locks = false) (hS : zS D dA cl w N b ms M M1 H) (hS0 : va_S (zA N b) s.heap H locs) {z : Int} (hz : R64 z) (hp : post z M1) (hdg : decode cc pc = .ok (.lreturn, 1)) :
    W p l e R s m args below meth c H locs cells slots (MQ below (va_Ql (zQl w ms M post) (zB D dA cl w N b) (zA N b)) args s cells slots (zA N b)) (F0 m pc ls [.long (iL z)]) :=
  W.lret hexec hb hr (fun t ht hW => ⟨⟨iL z, M1, rfl, ⟨z, rfl, hz, hS.2.1, hS.2.2, hp⟩, by unfold zB; rw [ht]; exact hS.1⟩, hS0.F ht⟩) hS0.2.2 hdg hlocks
theorem z_vret {post : zM → Prop} (hexec : p.tables.exec = Jvm.exec) (hb : c.code = cc) (hr : meth.sig.returnType = none) (hlocks : meth.locks = false) (hS : zS D dA cl w N b ms M M1 H) (hS0 : va_S (zA N b) s.heap H locs) (hp : post M1) (hdg : decode cc pc = .ok (.return_, 1)) :
    W p l e R s m args below meth c H locs cells slots (MQ below (va_Qv (zQv w ms M post) (zB D dA cl w N b) (zA N b)) args s cells slots (zA N b)) (F0 m pc ls []) :=
  W.vret hexec hb hr (fun t ht hW => ⟨⟨M1, rfl, ⟨hS.2.1, hS.2.2, hp⟩, by unfold zB; rw [ht]; exact hS.1⟩, hS0.F ht⟩) hS0.2.2 hdg hlocks
theorem z_aret {post : Option Nat → zM → Prop} {rt : FieldType} (hexec : p.tables.exec = Jvm.exec) (hb : c.code = cc) (hr : meth.sig.returnType = some rt) (hrt : (∃ n, rt = .object n) ∨ ∃ t, rt = .array t) (hlocks : meth.locks = false) (hS : zS D dA cl w N b ms M M1 H) (hS0 : va_S (zA N b) s.heap H locs) {v : Value} {r : Option Nat} (hv : v = va_rf r) (hp : post r M1) (hdg : decode cc pc = .ok (.areturn, 1)) :
    W p l e R s m args below meth c H locs cells slots (MQ below (va_Qq (zQq w ms M post) (zB D dA cl w N b) (zA N b)) args s cells slots (zA N b)) (F0 m pc ls [v]) := by
  subst hv
  refine W.aret hexec hb hr hrt ?_ (fun t ht hW => ⟨⟨r, M1, rfl, ⟨hS.2.1, hS.2.2, hp⟩, by unfold zB; rw [ht]; exact hS.1⟩, hS0.F ht⟩) hS0.2.2 hdg hlocks
  cases r with
  | none => exact Or.inl rfl
  | some q => exact Or.inr ⟨q, rfl⟩
theorem z_callq {post : Option Nat → zM → Prop} (hr : va_Run p l e R s m args below meth c H locs cells slots 0 0 (F0 m pc ls st0) rest (va_Qq (zQq w msC M post) (zB D dA cl w N b) (zA N b) a) (zA N b)) (hS : zS D dA cl w N b ms M0 M H) (hS0 : va_S (zA N b) H0 H locs) (hms : ∀ j k, ms j k = false → msC j k = false)
    (kk : ∀ (r : Option Nat) (M1 : zM) (H1 : Heap) (locs1 : List Loc), post r M1 → zF msC M M1 → zS D dA cl w N b ms M0 M1 H1 → va_S (zA N b) H0 H1 locs1 → W p l e R s m args below meth c H1 locs1 cells slots Q (F0 m (pc + 3) ls (va_rf r :: rest))) : W p l e R s m args below meth c H locs cells slots Q (F0 m pc ls st0) := by
  refine va_callq hr hS0 (fun q _ h => h) (fun q h => h) (fun r u t H1 locs1 ht _ hp hB _ _ hS1 => ?_)
  obtain ⟨hJ, hF, hp⟩ := hp
  unfold zB at hB
  rw [ht] at hB
  exact kk r u H1 locs1 hp hF ⟨hB, hJ, zF_tr hS.2.2 (zF_mono hF hms)⟩ hS1
theorem z_tabOut (hexec : p.tables.exec = Jvm.exec) (hb : c.code = cc) {dflt lo hi : Int} {offs : Array Int} {len : Nat} {x : Int} {tgt : Nat} (hx : R32 x) (hdg : decode cc pc = .ok (.tableswitch dflt lo hi offs, len)) (h : x < lo ∨ hi < x) (ht : (pc : Int) + dflt = (tgt : Int))
    (k : W p l e R s m args below meth c H locs cells slots Q (F0 m tgt ls rest)) : W p l e R s m args below meth c H locs cells slots Q (F0 m pc ls (.int (iI x) :: rest)) :=
  lv_tableOut hexec hb hdg (by rw [iI_t hx]; exact h) ht k
theorem z_tabIn (hexec : p.tables.exec = Jvm.exec) (hb : c.code = cc) {dflt lo hi : Int} {offs : Array Int} {len : Nat} {x y : Int} {off : Int} {tgt : Nat} (hx : R32 x) (hxy : x = y) (hdg : decode cc pc = .ok (.tableswitch dflt lo hi offs, len)) (h1 : lo ≤ y) (h2 : y ≤ hi) (ho : offs[(y - lo).toNat]? = some off) (ht : (pc : Int) + off = (tgt : Int))
    (k : W p l e R s m args below meth c H locs cells slots Q (F0 m tgt ls rest)) : W p l e R s m args below meth c H locs cells slots Q (F0 m pc ls (.int (iI x) :: rest)) := by
  subst hxy
  exact lv_tableIn hexec hb hdg (by rw [iI_t hx]; omega) (by rw [iI_t hx]; omega) (by rw [iI_t hx]; exact ho) ht k
theorem z_lookup (hexec : p.tables.exec = Jvm.exec) (hb : c.code = cc) {dflt : Int} {ps : Array (Int × Int)} {len : Nat} {x : Int} {off : Int} {tgt : Nat} (hx : R32 x) (hdg : decode cc pc = .ok (.lookupswitch dflt ps, len)) (hp : (ps.toList.zip (ps.toList.drop 1)).all (fun (a, next) => a.1 < next.1) = true) (ho : Op.lookupswitch.offset ps.toList dflt x = off) (ht : (pc : Int) + off = (tgt : Int))
    (k : W p l e R s m args below meth c H locs cells slots Q (F0 m tgt ls rest)) : W p l e R s m args below meth c H locs cells slots Q (F0 m pc ls (.int (iI x) :: rest)) :=
  lv_lookup hexec hb hdg hp (by rw [iI_t hx]; exact ho) ht k
end ZE
/-! Math, bytes, copies, masks -/
theorem zand_r {x c z : Int} (hc : 0 ≤ c) (hc2 : c ≤ 2147483647) (hz : R32 z) (e : iI z = iI x &&& iI c) : 0 ≤ z ∧ z ≤ c := by
  have h1 : (iI z).toBitVec = (iI x).toBitVec &&& (iI c).toBitVec := by rw [e]; rfl
  have h2 : (iI c).toBitVec.toNat = c.toNat := by
    have ht : (iI c).toInt = c := iI_t ⟨by omega, hc2⟩
    have h3 : (iI c).toBitVec.toInt = c := ht
    rw [BitVec.toInt_eq_toNat_cond] at h3
    split at h3
    · omega
    · have := (iI c).toBitVec.isLt
      omega
  have h4 : (iI z).toBitVec.toNat ≤ c.toNat := by
    rw [h1, BitVec.toNat_and, ← h2]
    exact Nat.and_le_right
  have h5 : (iI z).toBitVec.toInt = z := iI_t hz
  rw [BitVec.toInt_eq_toNat_cond] at h5
  split at h5
  · omega
  · have := (iI z).toBitVec.isLt
    omega
theorem zand_l {x c z : Int} (hc : 0 ≤ c) (hc2 : c ≤ 2147483647) (hz : R32 z) (e : iI z = iI c &&& iI x) : 0 ≤ z ∧ z ≤ c := zand_r (x := x) hc hc2 hz (e.trans (Int32.and_comm _ _))
section ZX
variable {p : Program} {l : Launch} {e : Env} {R : Room} {s : State} {m : MethodId} {args : Array Value} {below : List Frame} {meth : Method} {c : Code} {H : Heap} {locs : List Loc} {cells slots : Nat} {Q : State → Prop}
variable {cc : ByteArray} {pc : Nat} {ls : Array Slot} {rest : List Value} {D : va_G} {dA : Nat → ClassId} {cl : List vw_C} {tys : List (ClassId × FieldType)} {H0 : Heap} {w : zW} {N b : Nat} {ms : Nat → Nat → Bool} {M0 M : zM}
theorem z_mmax (hexec : p.tables.exec = Jvm.exec) (hb : c.code = cc) (hml : c.maxLocals = ls.size) {own : String} {index : Nat} (hown : s.vm.findClass own = some m.cls) (hlink : (Cond.methodLink own index Lib.Math.max.name).before args s = true) (hstat : (Cond.static Lib.Math.max.name).before args s = true) (hini : (Cond.initialized "java/lang/Math").before args s = true) (hcode : (Cond.code Lib.Math.max.name Lib.Math.max.code 2 (some .int)).before args s = true)
    (hframes : 1 ≤ R.frames) (hlocals : (rest.map fun v => v.category).sum + 13 ≤ R.locals) (hc : cells ≤ R.cells) (hs : slots ≤ R.slots) {x y : Int} (hx : R32 x) (hy : R32 y) (hdg : decode cc pc = .ok (.invokestatic index, 3))
    (kk : W p l e R s m args below meth c H locs cells slots Q (F0 m (pc + 3) ls (.int (iI (max x y)) :: rest))) : W p l e R s m args below meth c H locs cells slots Q (F0 m pc ls (.int (iI y) :: .int (iI x) :: rest)) := by
  refine va_mmax hexec hb hml hown hlink hstat hini hcode hframes hlocals hc hs hdg ?_
  rw [show (if iI x < iI y then iI y else iI x) = iI (max x y) from ?_]
  · exact kk
  · by_cases h : x < y
    · rw [if_pos ((iI_lt hx hy).mpr h), Int.max_def, if_pos (by omega)]
    · rw [if_neg (fun q => h ((iI_lt hx hy).mp q))]
      congr 1
      omega
theorem z_mmin (hexec : p.tables.exec = Jvm.exec) (hb : c.code = cc) (hml : c.maxLocals = ls.size) {own : String} {index : Nat} (hown : s.vm.findClass own = some m.cls) (hlink : (Cond.methodLink own index Lib.Math.min.name).before args s = true) (hstat : (Cond.static Lib.Math.min.name).before args s = true) (hini : (Cond.initialized "java/lang/Math").before args s = true) (hcode : (Cond.code Lib.Math.min.name Lib.Math.min.code 2 (some .int)).before args s = true)
    (hframes : 1 ≤ R.frames) (hlocals : (rest.map fun v => v.category).sum + 13 ≤ R.locals) (hc : cells ≤ R.cells) (hs : slots ≤ R.slots) {x y : Int} (hx : R32 x) (hy : R32 y) (hdg : decode cc pc = .ok (.invokestatic index, 3))
    (kk : W p l e R s m args below meth c H locs cells slots Q (F0 m (pc + 3) ls (.int (iI (min x y)) :: rest))) : W p l e R s m args below meth c H locs cells slots Q (F0 m pc ls (.int (iI y) :: .int (iI x) :: rest)) := by
  refine va_mmin hexec hb hml hown hlink hstat hini hcode hframes hlocals hc hs hdg ?_
  rw [show (if iI y < iI x then iI y else iI x) = iI (min x y) from ?_]
  · exact kk
  · by_cases h : y < x
    · rw [if_pos ((iI_lt hy hx).mpr h)]
      congr 1
      omega
    · rw [if_neg (fun q => h ((iI_lt hy hx).mp q))]
      congr 1
      omega
theorem z_mmaxl (hexec : p.tables.exec = Jvm.exec) (hb : c.code = cc) (hml : c.maxLocals = ls.size) {own : String} {index : Nat} (hown : s.vm.findClass own = some m.cls) (hlink : (Cond.methodLink own index Lib.MathLoose.max_long.x).before args s = true) (hstat : (Cond.static Lib.MathLoose.max_long.x).before args s = true) (hini : (Cond.initialized "java/lang/Math").before args s = true) (hcode : (Cond.code Lib.MathLoose.max_long.x Lib.MathLoose.max_long.code 4 (some .long)).before args s = true)
    (hframes : 1 ≤ R.frames) (hlocals : (rest.map fun v => v.category).sum + 15 ≤ R.locals) (hc : cells ≤ R.cells) (hs : slots ≤ R.slots) {x y : Int} (hx : R64 x) (hy : R64 y) (hdg : decode cc pc = .ok (.invokestatic index, 3))
    (kk : W p l e R s m args below meth c H locs cells slots Q (F0 m (pc + 3) ls (.long (iL (max x y)) :: rest))) : W p l e R s m args below meth c H locs cells slots Q (F0 m pc ls (.long (iL y) :: .long (iL x) :: rest)) := by
  refine va_mmax_long hexec hb hml hown hlink hstat hini hcode hframes hlocals hc hs hdg ?_
  rw [show (if iL y < iL x then iL x else iL y) = iL (max x y) from ?_]
  · exact kk
  · by_cases h : y < x
    · rw [if_pos ((iL_lt hy hx).mpr h)]
      congr 1
      omega
    · rw [if_neg (fun q => h ((iL_lt hy hx).mp q))]
      congr 1
      omega
/-- two numbers written as one -/
theorem z_fold {z c : Int} (hz : R32 z) (hc : R32 c) {v : Int32} (e : iI z = v) (h : v = iI c) : z = c := iI_inj hz hc (e.trans h)
theorem z_bast (hexec : p.tables.exec = Jvm.exec) (hb : c.code = cc) (hK : va_K D cl tys s) {t0 : Nat} (ht : tys[t0]? = some (dA 2, .byte)) (hS : zS D dA cl w N b ms M0 M H) (hS0 : va_S (zA N b) H0 H locs) {j n : Nat} (hj : j < N) (hkd : zkd w j = 102) (hln : zln w j = n) {i z : Int} (h0 : 0 ≤ i) (h1 : i < n) (hn : n < 2147483648) (hbd : (zbd w j i.toNat).1 ≤ z ∧ z ≤ (zbd w j i.toNat).2) (hz : -128 ≤ z ∧ z ≤ 127) (hms : ms j i.toNat = true) (hdg : decode cc pc = .ok (.bastore, 1))
    (kk : ∀ (H1 : Heap) (locs1 : List Loc), zS D dA cl w N b ms M0 (zup M j i.toNat z) H1 → va_S (zA N b) H0 H1 locs1 → W p l e R s m args below meth c H1 locs1 cells slots Q (F0 m (pc + 1) ls rest)) : W p l e R s m args below meth c H locs cells slots Q (F0 m pc ls (.int (iI z) :: .int (iI i) :: .ref (b + j) :: rest)) := by
  obtain ⟨v1, v2⟩ := iI_in h0 h1 hn
  have hP := z_arr hS.1 hj (by omega)
  rw [hkd] at hP
  unfold zar at hP
  rw [if_neg (by omega), if_pos (by omega), hln] at hP
  have hnr : narrow .byte (.int (iI z)) = .int (iI z) := by
    show Value.int (iI z).toInt8.toInt32 = _
    congr 1
    apply Int32.toInt_inj.mp
    rw [Int8.toInt_toInt32, Int32.toInt_toInt8, iI_t ⟨by omega, by omega⟩]
    exact Int.bmod_eq_of_le (by omega) (by omega)
  refine W.bast hexec hb (hP 0 _ rfl) ((hK.2 t0 _ ht).1 n (fun j3 => .int (iI (M j j3)))) (fun q => by cases q) (by show ¬ (iI i < 0 ∨ (arrV _ _ _).slots.size ≤ _); rw [arrV_size]; exact v1) rfl rfl hdg fun H1 e1 e2 e3 => ?_
  refine kk H1 _ ⟨?_, zJ_up hS.2.1 hbd, zF_up hS.2.2 hms⟩ (hS0.put e2 e3 ⟨by show b ≤ b + j; omega, by show b + j < b + N; omega⟩)
  rw [hnr] at e1
  intro i2 hi2
  by_cases hij : i2 = j
  · subst hij
    unfold zcell
    rw [if_neg (by omega)]
    show H1[b + i2]? = some (vp_cell _ _)
    rw [e1]
    unfold zar
    rw [if_neg (by omega), if_pos (by omega), hln, hkd, vp_cell_i, vp_cell_i, arrV_store, v2]
    congr 2
    funext q
    by_cases hq : q = i.toNat
    · subst hq
      simp [updV, zup_s]
    · simp only [updV, if_neg hq]
      rw [zup_n]
      exact fun x => hq x.2
  · have := (hS.1 i2 hi2).kept (H1 := H1) (e3 _ (by show b + i2 ≠ b + j; omega))
    rw [zup_row M z hij]
    exact this
theorem z_i2b (hexec : p.tables.exec = Jvm.exec) (hb : c.code = cc) {x : Int} (hdg : decode cc pc = .ok (.i2b, 1)) (k : ∀ z : Int, (-128 ≤ z ∧ z ≤ 127) → iI z = (iI x).toInt8.toInt32 → W p l e R s m args below meth c H locs cells slots Q (F0 m (pc + 1) ls (.int (iI z) :: rest))) : W p l e R s m args below meth c H locs cells slots Q (F0 m pc ls (.int (iI x) :: rest)) := by
  have h1 := Int8.le_toInt (iI x).toInt8
  have h2 := Int8.toInt_lt (iI x).toInt8
  have e : iI (iI x).toInt8.toInt = (iI x).toInt8.toInt32 := by
    apply Int32.toInt_inj.mp
    rw [Int8.toInt_toInt32, iI_t ⟨by omega, by omega⟩]
  exact lv_i2b hexec hb hdg e.symm (k _ ⟨by omega, by omega⟩ e)
/-- an array copied into another one -/
def zcp (M : zM) (j0 j1 sp dp n : Nat) : zM := fun a k => if a = j1 ∧ dp ≤ k ∧ k < dp + n then M j0 (sp + (k - dp)) else M a k
theorem z_acopy (hexec : p.tables.exec = Jvm.exec) (hb : c.code = cc) (hml : c.maxLocals = ls.size) {own : String} {index : Nat} (hown : s.vm.findClass own = some m.cls) (hlink : (Cond.methodLink own index arraycopyName).before args s = true) (hnat : (Cond.native arraycopyName).before args s = true) (hstat : (Cond.static arraycopyName).before args s = true) (hini : (Cond.initialized "java/lang/System").before args s = true)
    (hK : va_K D cl tys s) {t0 : Nat} (ht : tys[t0]? = some (dA 0, .int)) (hS : zS D dA cl w N b ms M0 M H) (hS0 : va_S (zA N b) H0 H locs) {j0 j1 n0 n1 : Nat} (hj0 : j0 < N) (hj1 : j1 < N) (hne : j0 ≠ j1) (hkd0 : zkd w j0 = 100) (hkd1 : zkd w j1 = 100) (hln0 : zln w j0 = n0) (hln1 : zln w j1 = n1) (hn0 : n0 < 2147483648) (hn1 : n1 < 2147483648)
    {sp dp n : Int} (h1 : 0 ≤ sp) (h2 : 0 ≤ dp) (h3 : 0 ≤ n) (h4 : sp + n ≤ n0) (h5 : dp + n ≤ n1)
    (hbd : ∀ k : Nat, (k : Int) < n → (zbd w j1 (dp.toNat + k)).1 ≤ M j0 (sp.toNat + k) ∧ M j0 (sp.toNat + k) ≤ (zbd w j1 (dp.toNat + k)).2) (hms : ∀ k, ms j1 k = true)
    (hframes : 1 ≤ R.frames) (hlocals : (rest.map fun v => v.category).sum + (nativeFrameWords "java/lang/System" "arraycopy" 5 + 11) ≤ R.locals) (hdg : decode cc pc = .ok (.invokestatic index, 3))
    (kk : ∀ (H1 : Heap) (locs1 : List Loc), zS D dA cl w N b ms M0 (zcp M j0 j1 sp.toNat dp.toNat n.toNat) H1 → va_S (zA N b) H0 H1 locs1 → W p l e R s m args below meth c H1 locs1 cells slots Q (F0 m (pc + 3) ls rest)) : W p l e R s m args below meth c H locs cells slots Q (F0 m pc ls (.int (iI n) :: .int (iI dp) :: .ref (b + j1) :: .int (iI sp) :: .ref (b + j0) :: rest)) := by
  have hsp : (iI sp).toInt = sp := iI_t ⟨by omega, by omega⟩
  have hdp : (iI dp).toInt = dp := iI_t ⟨by omega, by omega⟩
  have hnn : (iI n).toInt = n := iI_t ⟨by omega, by omega⟩
  have ksp : (iI sp).toNatClampNeg = sp.toNat := by show (iI sp).toInt.toNat = _; rw [hsp]
  have kdp : (iI dp).toNatClampNeg = dp.toNat := by show (iI dp).toInt.toNat = _; rw [hdp]
  have knn : (iI n).toNatClampNeg = n.toNat := by show (iI n).toInt.toNat = _; rw [hnn]
  have neg : ∀ z : Int, (iI z).toInt = z → 0 ≤ z → ¬ iI z < 0 := by
    intro z hz h
    rw [Int32.lt_iff_toInt_lt, hz, Int32.toInt_zero]
    omega
  let ws : va_W := (List.range N).map (fun i => (b + i, zcell dA w b i (M i)))
  have hat : ∀ i, i < N → ws[i]? = some (b + i, zcell dA w b i (M i)) := fun i hi => by simp [ws, hi]
  have hlen : ws.length = N := by simp [ws]
  have hP : va_P D cl ws H := by
    intro k q hk
    have hkN : k < N := by rw [← hlen]; exact (List.getElem?_eq_some_iff.mp hk).1
    rw [hat k hkN] at hk
    cases hk
    exact hS.1 k hkN
  have hD : va_D (zA N b) ws := by
    refine ⟨fun i j p q hi hj h => ?_, fun k q hk => ?_⟩
    · have hiN : i < N := by rw [← hlen]; exact (List.getElem?_eq_some_iff.mp hi).1
      have hjN : j < N := by rw [← hlen]; exact (List.getElem?_eq_some_iff.mp hj).1
      rw [hat i hiN] at hi
      rw [hat j hjN] at hj
      cases hi
      cases hj
      have h : b + i = b + j := h
      omega
    · have hkN : k < N := by rw [← hlen]; exact (List.getElem?_eq_some_iff.mp hk).1
      rw [hat k hkN] at hk
      cases hk
      exact ⟨by show b ≤ b + k; omega, by show b + k < b + N; omega⟩
  have c0 : zcell dA w b j0 (M j0) = .inl (dA 0, n0, .inl (fun k => iI (M j0 k))) := by
    unfold zcell
    rw [if_neg (by omega), hkd0]
    unfold zar
    rw [if_neg (by omega), if_pos (by omega), hln0]
  have c1 : zcell dA w b j1 (M j1) = .inl (dA 0, n1, .inl (fun k => iI (M j1 k))) := by
    unfold zcell
    rw [if_neg (by omega), hkd1]
    unfold zar
    rw [if_neg (by omega), if_pos (by omega), hln1]
  refine va_copyi hexec hb hml hown hlink hnat hstat hini hK hP hD hS0 j0 j1 t0 t0 (by rw [hat j0 hj0, c0]) (by rw [hat j1 hj1, c1]) ht ht rfl (neg sp hsp h1) (neg dp hdp h2) (neg n hnn h3) (by rw [ksp, knn]; omega) (by rw [kdp, knn]; omega) (fun i _ => rfl) hframes hlocals hdg (fun H1 locs1 hP1 _ hS1 => ?_)
  rw [ksp, kdp, knn] at hP1
  refine kk H1 locs1 ⟨?_, ?_, ?_⟩ hS1
  · intro i hi
    by_cases hij : i = j1
    · subst hij
      have h := hP1 i (b + i, _) (List.getElem?_set_self (by rw [hlen]; exact hi))
      rw [show zcell dA w b i (zcp M j0 i sp.toNat dp.toNat n.toNat i) = .inl (dA 0, n1, .inl (va_cpy (fun k => iI (M j0 k)) (fun k => iI (M i k)) sp.toNat dp.toNat n.toNat)) from ?_]
      · exact h
      · unfold zcell
        rw [if_neg (by omega), hkd1]
        unfold zar
        rw [if_neg (by omega), if_pos (by omega), hln1]
        congr 4
        funext k
        unfold zcp va_cpy
        by_cases h : dp.toNat ≤ k ∧ k < dp.toNat + n.toNat
        · rw [if_pos ⟨rfl, h⟩, if_pos h]
        · rw [if_neg (fun q => h q.2), if_neg h]
    · have h := hP1 i (b + i, zcell dA w b i (M i)) (by rw [List.getElem?_set_ne (Ne.symm hij)]; exact hat i hi)
      rw [show zcp M j0 j1 sp.toNat dp.toNat n.toNat i = M i from by funext k; unfold zcp; rw [if_neg (fun q => hij q.1)]]
      exact h
  · intro a k
    unfold zcp
    by_cases h : a = j1 ∧ dp.toNat ≤ k ∧ k < dp.toNat + n.toNat
    · rw [if_pos h]
      obtain ⟨rfl, h6, h7⟩ := h
      have := hbd (k - dp.toNat) (by omega)
      rw [show dp.toNat + (k - dp.toNat) = k by omega] at this
      exact this
    · rw [if_neg h]
      exact hS.2.1 a k
  · intro a k h
    unfold zcp
    rw [if_neg]
    · exact hS.2.2 a k h
    · rintro ⟨rfl, -⟩
      rw [hms k] at h
      cases h
end ZX
theorem zcp_F {w : zW} {M : zM} {j0 j1 sp dp n q : Nat} {L : List Nat} (h : zcd w j1 = q) (h2 : ∀ k, L.elem (w.2.2.2.2.2.2.2 q k) = true) : zF (zms w L) M (zcp M j0 j1 sp dp n) := by
  intro a k hk
  unfold zcp
  rw [if_neg]
  rintro ⟨rfl, -⟩
  rw [zms_of h (h2 k)] at hk
  cases hk
theorem zwk {z a b c d : Int} (h : a ≤ z ∧ z ≤ b) (h1 : c ≤ a) (h2 : b ≤ d) : c ≤ z ∧ z ≤ d := ⟨by omega, by omega⟩
end
section
/-- bits of SOUNDS alone -/
def SND (v : Int) : Prop := iI v &&& iI (-1023) = iI 0
theorem dX11_isMotor_0 : decode cX11_isMotor 0 = .ok (.iload_n 0, 1) := by decide +kernel
theorem dX11_isMotor_1 : decode cX11_isMotor 1 = .ok (.iconst 0, 1) := by decide +kernel
theorem dX11_isMotor_2 : decode cX11_isMotor 2 = .ok (.iconst 1, 1) := by decide +kernel
theorem dX11_isMotor_3 : decode cX11_isMotor 3 = .ok (.invokestatic 113, 3) := by decide +kernel
theorem dX11_isMotor_6 : decode cX11_isMotor 6 = .ok (.ireturn, 1) := by decide +kernel
theorem dX11_isSound_0 : decode cX11_isSound 0 = .ok (.iload_n 0, 1) := by decide +kernel
theorem dX11_isSound_1 : decode cX11_isSound 1 = .ok (.iconst 1, 1) := by decide +kernel
theorem dX11_isSound_2 : decode cX11_isSound 2 = .ok (.bipush 9, 2) := by decide +kernel
theorem dX11_isSound_4 : decode cX11_isSound 4 = .ok (.invokestatic 113, 3) := by decide +kernel
theorem dX11_isSound_7 : decode cX11_isSound 7 = .ok (.ireturn, 1) := by decide +kernel
theorem dX11_isSounds_0 : decode cX11_isSounds 0 = .ok (.iload_n 0, 1) := by decide +kernel
theorem dX11_isSounds_1 : decode cX11_isSounds 1 = .ok (.sipush (-1023), 3) := by decide +kernel
theorem dX11_isSounds_12 : decode cX11_isSounds 12 = .ok (.iconst 0, 1) := by decide +kernel
theorem dX11_isSounds_13 : decode cX11_isSounds 13 = .ok (.ireturn, 1) := by decide +kernel
theorem dX11_isSounds_4 : decode cX11_isSounds 4 = .ok (.iand, 1) := by decide +kernel
theorem dX11_isSounds_5 : decode cX11_isSounds 5 = .ok (.ifCond .ne 7, 3) := by decide +kernel
theorem dX11_isSounds_8 : decode cX11_isSounds 8 = .ok (.iconst 1, 1) := by decide +kernel
theorem dX11_isSounds_9 : decode cX11_isSounds 9 = .ok (.goto 4, 3) := by decide +kernel
theorem dX11_within_0 : decode cX11_within 0 = .ok (.iload_n 0, 1) := by decide +kernel
theorem dX11_within_1 : decode cX11_within 1 = .ok (.iload_n 1, 1) := by decide +kernel
theorem dX11_within_10 : decode cX11_within 10 = .ok (.iconst 1, 1) := by decide +kernel
theorem dX11_within_11 : decode cX11_within 11 = .ok (.goto 4, 3) := by decide +kernel
theorem dX11_within_14 : decode cX11_within 14 = .ok (.iconst 0, 1) := by decide +kernel
theorem dX11_within_15 : decode cX11_within 15 = .ok (.ireturn, 1) := by decide +kernel
theorem dX11_within_2 : decode cX11_within 2 = .ok (.if_icmp .lt 12, 3) := by decide +kernel
theorem dX11_within_5 : decode cX11_within 5 = .ok (.iload_n 0, 1) := by decide +kernel
theorem dX11_within_6 : decode cX11_within 6 = .ok (.iload_n 2, 1) := by decide +kernel
theorem dX11_within_7 : decode cX11_within 7 = .ok (.if_icmp .gt 7, 3) := by decide +kernel
theorem dX8_has_0 : decode cX8_has 0 = .ok (.iload_n 1, 1) := by decide +kernel
theorem dX8_has_1 : decode cX8_has 1 = .ok (.ifCond .lt 24, 3) := by decide +kernel
theorem dX8_has_12 : decode cX8_has 12 = .ok (.iload_n 1, 1) := by decide +kernel
theorem dX8_has_13 : decode cX8_has 13 = .ok (.aload_n 0, 1) := by decide +kernel
theorem dX8_has_14 : decode cX8_has 14 = .ok (.getfield 9, 3) := by decide +kernel
theorem dX8_has_17 : decode cX8_has 17 = .ok (.arraylength, 1) := by decide +kernel
theorem dX8_has_18 : decode cX8_has 18 = .ok (.if_icmp .ge 7, 3) := by decide +kernel
theorem dX8_has_21 : decode cX8_has 21 = .ok (.iconst 1, 1) := by decide +kernel
theorem dX8_has_22 : decode cX8_has 22 = .ok (.goto 4, 3) := by decide +kernel
theorem dX8_has_25 : decode cX8_has 25 = .ok (.iconst 0, 1) := by decide +kernel
theorem dX8_has_26 : decode cX8_has 26 = .ok (.ireturn, 1) := by decide +kernel
theorem dX8_has_4 : decode cX8_has 4 = .ok (.iload_n 1, 1) := by decide +kernel
theorem dX8_has_5 : decode cX8_has 5 = .ok (.aload_n 0, 1) := by decide +kernel
theorem dX8_has_6 : decode cX8_has 6 = .ok (.getfield 15, 3) := by decide +kernel
theorem dX8_has_9 : decode cX8_has 9 = .ok (.if_icmp .ge 16, 3) := by decide +kernel
theorem dm_X11_within : yX11_within.cls = RX11 ∧ yX11_within.cls ≠ "java/lang/invoke/MethodHandle" ∧ yX11_within.cls ≠ "java/lang/invoke/VarHandle" ∧ (parseMethodDescriptor yX11_within.desc).map (fun d => d.parameters.length) = some 3 := by decide +kernel
set_option maxHeartbeats 4000000 in
set_option maxRecDepth 100000 in
theorem c_within (l : Launch) (D : va_G) (dA : Nat → ClassId) (b : Nat) (M : zM) (v : Int) (lo : Int) (hi : Int) (r_v : R32 v) (r_lo : R32 lo) (r_hi : R32 hi) : Met l yX11_within (.code yX11_within cX11_within 3 (some .boolean) :: zt) (z_rm 0) (va_Pc [.int (iI v), .int (iI lo), .int (iI hi)] (zP D dA vwCl (z_tys dA) wC nC b M)) (va_Qi (zQi wC (zms wC []) M (fun z M1 => M1 = M ∧ ((z = 1 ∧ lo ≤ v ∧ v ≤ hi) ∨ (z = 0 ∧ (v < lo ∨ hi < v))))) (zB D dA vwCl wC nC b) (zA nC b)) 0 0 (zA nC b) := by
  refine Met.ofW (cc := cX11_within) (maxL := 3) (ret := (some .boolean)) (by decide) rfl ?_
  intro p e s m args below meth c s₁ B hml hv
  obtain ⟨hargs, hR0, hJ, hK⟩ := hv
  have hx := B.exec
  have hb := B.bytes
  have hr := B.returns
  have hts := atoms_spec (ws := .code yX11_within cX11_within 3 (some .boolean) :: zt) B.pre
  have hown : s.vm.findClass RX11 = some m.cls := findClass_of_methodNamed B.named
  have hlocks := B.notSynchronized
  have hS : zS D dA vwCl wC nC b (zms wC []) M M s.heap := ⟨hR0, hJ, zF_rf _ _⟩
  have hS0 : va_S (zA nC b) s.heap s.heap [] := va_S.rf
  have hl := lv_entry ([.int (iI v), .int (iI lo), .int (iI hi)]) (n := 3) (Nat.le_of_ble_eq_true rfl)
  have hent : entryFrame m args 3 = F0 m 0 ((lg_sl ([.int (iI v), .int (iI lo), .int (iI hi)]) ++ List.replicate (3 - (lg_sl ([.int (iI v), .int (iI lo), .int (iI hi)])).length) Slot.unset).toArray) [] := by rw [hargs]; exact lg_entry_eq m ([.int (iI v), .int (iI lo), .int (iI hi)]) 3
  rw [hent]
  generalize (lg_sl ([.int (iI v), .int (iI lo), .int (iI hi)]) ++ List.replicate (3 - (lg_sl ([.int (iI v), .int (iI lo), .int (iI hi)])).length) Slot.unset).toArray = ls at hl ⊢
  have hl : lv_has ls 3 [(0, .int (iI v)), (1, .int (iI lo)), (2, .int (iI hi))] := hl
  refine lv_iload_n hx hb dX11_within_0 rfl (lv_at hl 0 rfl) ?_
  refine lv_iload_n hx hb dX11_within_1 rfl (lv_at hl 1 rfl) ?_
  refine z_icmp_lt (tgt := 14) hx hb r_v r_lo dX11_within_2 (by decide) (fun c1 => ?_) (fun c1 => ?_)
  · skip
    refine z_iconst hx hb dX11_within_14 ?_
    exact z_zret hx hb hr hlocks hS hS0 (by first | decide | omega) (⟨rfl, by first | exact trivial | exact ⟨rfl, trivial⟩ | omega | (refine ⟨by omega, trivial⟩)⟩) dX11_within_15
  · skip
    refine lv_iload_n hx hb dX11_within_5 rfl (lv_at hl 0 rfl) ?_
    refine lv_iload_n hx hb dX11_within_6 rfl (lv_at hl 2 rfl) ?_
    refine z_icmp_gt (tgt := 14) hx hb r_v r_hi dX11_within_7 (by decide) (fun c2 => ?_) (fun c2 => ?_)
    · skip
      refine z_iconst hx hb dX11_within_14 ?_
      exact z_zret hx hb hr hlocks hS hS0 (by first | decide | omega) (⟨rfl, by first | exact trivial | exact ⟨rfl, trivial⟩ | omega | (refine ⟨by omega, trivial⟩)⟩) dX11_within_15
    · skip
      refine z_iconst hx hb dX11_within_10 ?_
      refine lv_goto (tgt := 15) hx hb dX11_within_11 (by decide) ?_
      exact z_zret hx hb hr hlocks hS hS0 (by first | decide | omega) (⟨rfl, by first | exact trivial | exact ⟨rfl, trivial⟩ | omega | (refine ⟨by omega, trivial⟩)⟩) dX11_within_15

set_option maxHeartbeats 4000000 in
set_option maxRecDepth 100000 in
theorem c_isMotor (l : Launch) (D : va_G) (dA : Nat → ClassId) (b : Nat) (M : zM) (v : Int) (r_v : R32 v) : Met l yX11_isMotor (.code yX11_isMotor cX11_isMotor 1 (some .boolean) :: zt) (z_rm 1) (va_Pc [.int (iI v)] (zP D dA vwCl (z_tys dA) wC nC b M)) (va_Qi (zQi wC (zms wC []) M (fun z M1 => M1 = M ∧ ((z = 1 ∧ 0 ≤ v ∧ v ≤ 1) ∨ (z = 0 ∧ (v < 0 ∨ 1 < v))))) (zB D dA vwCl wC nC b) (zA nC b)) 0 0 (zA nC b) := by
  refine Met.ofW (cc := cX11_isMotor) (maxL := 1) (ret := (some .boolean)) (by decide) rfl ?_
  intro p e s m args below meth c s₁ B hml hv
  obtain ⟨hargs, hR0, hJ, hK⟩ := hv
  have hx := B.exec
  have hb := B.bytes
  have hr := B.returns
  have hts := atoms_spec (ws := .code yX11_isMotor cX11_isMotor 1 (some .boolean) :: zt) B.pre
  have hown : s.vm.findClass RX11 = some m.cls := findClass_of_methodNamed B.named
  have hlocks := B.notSynchronized
  have hS : zS D dA vwCl wC nC b (zms wC []) M M s.heap := ⟨hR0, hJ, zF_rf _ _⟩
  have hS0 : va_S (zA nC b) s.heap s.heap [] := va_S.rf
  have hl := lv_entry ([.int (iI v)]) (n := 1) (Nat.le_of_ble_eq_true rfl)
  have hent : entryFrame m args 1 = F0 m 0 ((lg_sl ([.int (iI v)]) ++ List.replicate (1 - (lg_sl ([.int (iI v)])).length) Slot.unset).toArray) [] := by rw [hargs]; exact lg_entry_eq m ([.int (iI v)]) 1
  rw [hent]
  generalize (lg_sl ([.int (iI v)]) ++ List.replicate (1 - (lg_sl ([.int (iI v)])).length) Slot.unset).toArray = ls at hl ⊢
  have hl : lv_has ls 1 [(0, .int (iI v))] := hl
  refine lv_iload_n hx hb dX11_isMotor_0 rfl (lv_at hl 0 rfl) ?_
  refine z_iconst hx hb dX11_isMotor_1 ?_
  refine z_iconst hx hb dX11_isMotor_2 ?_
  refine z_calli (va_runS (As := [.int (iI v), .int (iI 0), .int (iI 1)]) (rest := []) ⟨hx, hb, hml, hown, hts⟩ (c_within l D dA b M v 0 1 r_v (by decide) (by decide)) (va_cwS 3 hts (z_gS k382 k383 k1 k384) rfl rfl rfl dm_X11_within.2 ⟨Nat.le_of_ble_eq_true rfl, Nat.le_of_ble_eq_true rfl⟩) ⟨zP_blind, z_pre hS hK⟩ rfl rfl hl.1 rfl (lv_room (Nat.le_of_ble_eq_true rfl)) dX11_isMotor_3 ⟨Nat.le_refl _, Nat.le_refl _⟩) hS hS0 (zms_sub rfl) (fun z5 M1 H locs r6 h2 F3 hS hS0 => ?_)
  obtain ⟨h7, h2⟩ := h2
  rw [h7] at hS
  rcases h2 with h8 | h9
  · skip
    obtain ⟨z5e, h8⟩ := h8
    subst z5e
    exact z_zret hx hb hr hlocks hS hS0 (by first | decide | omega) (⟨rfl, by first | exact trivial | exact ⟨rfl, trivial⟩ | omega | (refine ⟨by omega, trivial⟩)⟩) dX11_isMotor_6
  · skip
    obtain ⟨z5e, h9⟩ := h9
    subst z5e
    exact z_zret hx hb hr hlocks hS hS0 (by first | decide | omega) (⟨rfl, by first | exact trivial | exact ⟨rfl, trivial⟩ | omega | (refine ⟨by omega, trivial⟩)⟩) dX11_isMotor_6

set_option maxHeartbeats 4000000 in
set_option maxRecDepth 100000 in
theorem c_isSound (l : Launch) (D : va_G) (dA : Nat → ClassId) (b : Nat) (M : zM) (v : Int) (r_v : R32 v) : Met l yX11_isSound (.code yX11_isSound cX11_isSound 1 (some .boolean) :: zt) (z_rm 1) (va_Pc [.int (iI v)] (zP D dA vwCl (z_tys dA) wC nC b M)) (va_Qi (zQi wC (zms wC []) M (fun z M1 => M1 = M ∧ ((z = 1 ∧ 1 ≤ v ∧ v ≤ 9) ∨ (z = 0 ∧ (v < 1 ∨ 9 < v))))) (zB D dA vwCl wC nC b) (zA nC b)) 0 0 (zA nC b) := by
  refine Met.ofW (cc := cX11_isSound) (maxL := 1) (ret := (some .boolean)) (by decide) rfl ?_
  intro p e s m args below meth c s₁ B hml hv
  obtain ⟨hargs, hR0, hJ, hK⟩ := hv
  have hx := B.exec
  have hb := B.bytes
  have hr := B.returns
  have hts := atoms_spec (ws := .code yX11_isSound cX11_isSound 1 (some .boolean) :: zt) B.pre
  have hown : s.vm.findClass RX11 = some m.cls := findClass_of_methodNamed B.named
  have hlocks := B.notSynchronized
  have hS : zS D dA vwCl wC nC b (zms wC []) M M s.heap := ⟨hR0, hJ, zF_rf _ _⟩
  have hS0 : va_S (zA nC b) s.heap s.heap [] := va_S.rf
  have hl := lv_entry ([.int (iI v)]) (n := 1) (Nat.le_of_ble_eq_true rfl)
  have hent : entryFrame m args 1 = F0 m 0 ((lg_sl ([.int (iI v)]) ++ List.replicate (1 - (lg_sl ([.int (iI v)])).length) Slot.unset).toArray) [] := by rw [hargs]; exact lg_entry_eq m ([.int (iI v)]) 1
  rw [hent]
  generalize (lg_sl ([.int (iI v)]) ++ List.replicate (1 - (lg_sl ([.int (iI v)])).length) Slot.unset).toArray = ls at hl ⊢
  have hl : lv_has ls 1 [(0, .int (iI v))] := hl
  refine lv_iload_n hx hb dX11_isSound_0 rfl (lv_at hl 0 rfl) ?_
  refine z_iconst hx hb dX11_isSound_1 ?_
  refine z_bipush hx hb (by decide) dX11_isSound_2 ?_
  refine z_calli (va_runS (As := [.int (iI v), .int (iI 1), .int (iI 9)]) (rest := []) ⟨hx, hb, hml, hown, hts⟩ (c_within l D dA b M v 1 9 r_v (by decide) (by decide)) (va_cwS 3 hts (z_gS k382 k383 k1 k384) rfl rfl rfl dm_X11_within.2 ⟨Nat.le_of_ble_eq_true rfl, Nat.le_of_ble_eq_true rfl⟩) ⟨zP_blind, z_pre hS hK⟩ rfl rfl hl.1 rfl (lv_room (Nat.le_of_ble_eq_true rfl)) dX11_isSound_4 ⟨Nat.le_refl _, Nat.le_refl _⟩) hS hS0 (zms_sub rfl) (fun z5 M1 H locs r6 h2 F3 hS hS0 => ?_)
  obtain ⟨h7, h2⟩ := h2
  rw [h7] at hS
  rcases h2 with h8 | h9
  · skip
    obtain ⟨z5e, h8⟩ := h8
    subst z5e
    exact z_zret hx hb hr hlocks hS hS0 (by first | decide | omega) (⟨rfl, by first | exact trivial | exact ⟨rfl, trivial⟩ | omega | (refine ⟨by omega, trivial⟩)⟩) dX11_isSound_7
  · skip
    obtain ⟨z5e, h9⟩ := h9
    subst z5e
    exact z_zret hx hb hr hlocks hS hS0 (by first | decide | omega) (⟨rfl, by first | exact trivial | exact ⟨rfl, trivial⟩ | omega | (refine ⟨by omega, trivial⟩)⟩) dX11_isSound_7

set_option maxHeartbeats 4000000 in
set_option maxRecDepth 100000 in
theorem c_isSounds (l : Launch) (D : va_G) (dA : Nat → ClassId) (b : Nat) (M : zM) (v : Int) (r_v : R32 v) : Met l yX11_isSounds (.code yX11_isSounds cX11_isSounds 1 (some .boolean) :: zt) (z_rm 0) (va_Pc [.int (iI v)] (zP D dA vwCl (z_tys dA) wC nC b M)) (va_Qi (zQi wC (zms wC []) M (fun z M1 => M1 = M ∧ ((z = 1 ∧ SND v) ∨ (z = 0 ∧ ¬ SND v)))) (zB D dA vwCl wC nC b) (zA nC b)) 0 0 (zA nC b) := by
  refine Met.ofW (cc := cX11_isSounds) (maxL := 1) (ret := (some .boolean)) (by decide) rfl ?_
  intro p e s m args below meth c s₁ B hml hv
  obtain ⟨hargs, hR0, hJ, hK⟩ := hv
  have hx := B.exec
  have hb := B.bytes
  have hr := B.returns
  have hts := atoms_spec (ws := .code yX11_isSounds cX11_isSounds 1 (some .boolean) :: zt) B.pre
  have hown : s.vm.findClass RX11 = some m.cls := findClass_of_methodNamed B.named
  have hlocks := B.notSynchronized
  have hS : zS D dA vwCl wC nC b (zms wC []) M M s.heap := ⟨hR0, hJ, zF_rf _ _⟩
  have hS0 : va_S (zA nC b) s.heap s.heap [] := va_S.rf
  have hl := lv_entry ([.int (iI v)]) (n := 1) (Nat.le_of_ble_eq_true rfl)
  have hent : entryFrame m args 1 = F0 m 0 ((lg_sl ([.int (iI v)]) ++ List.replicate (1 - (lg_sl ([.int (iI v)])).length) Slot.unset).toArray) [] := by rw [hargs]; exact lg_entry_eq m ([.int (iI v)]) 1
  rw [hent]
  generalize (lg_sl ([.int (iI v)]) ++ List.replicate (1 - (lg_sl ([.int (iI v)])).length) Slot.unset).toArray = ls at hl ⊢
  have hl : lv_has ls 1 [(0, .int (iI v))] := hl
  refine lv_iload_n hx hb dX11_isSounds_0 rfl (lv_at hl 0 rfl) ?_
  refine z_sipush hx hb (by decide) dX11_isSounds_1 ?_
  refine z_iand hx hb dX11_isSounds_4 (fun z1 r2 e3 => ?_)
  refine z_if_ne (tgt := 12) hx hb r2 dX11_isSounds_5 (by decide) (fun c4 => ?_) (fun c4 => ?_)
  · skip
    refine z_iconst hx hb dX11_isSounds_12 ?_
    exact z_zret hx hb hr hlocks hS hS0 (by first | decide | omega) (⟨rfl, Or.inr ⟨rfl, fun h9 => c4 (iI_inj r2 (by decide) (e3.trans h9))⟩⟩) dX11_isSounds_13
  · skip
    refine z_iconst hx hb dX11_isSounds_8 ?_
    refine lv_goto (tgt := 13) hx hb dX11_isSounds_9 (by decide) ?_
    exact z_zret hx hb hr hlocks hS hS0 (by first | decide | omega) (⟨rfl, Or.inl ⟨rfl, e3.symm.trans (by rw [c4])⟩⟩) dX11_isSounds_13

set_option maxHeartbeats 4000000 in
set_option maxRecDepth 100000 in
theorem n_has (l : Launch) (D : va_G) (dA : Nat → ClassId) (b : Nat) (M : zM) (i : Int) (r_i : R32 i) (g0 : M 30 1 = 0) : Met l yX8_has (.code yX8_has cX8_has 2 (some .boolean) :: zt) (z_rm 0) (va_Pc [.ref (b + 30), .int (iI i)] (zP D dA vwCl (z_tys dA) wC nC b M)) (va_Qi (zQi wC (zms wC []) M (fun z M1 => M1 = M ∧ (z = 0 ∧ True))) (zB D dA vwCl wC nC b) (zA nC b)) 0 0 (zA nC b) := by
  refine Met.ofW (cc := cX8_has) (maxL := 2) (ret := (some .boolean)) (by decide) rfl ?_
  intro p e s m args below meth c s₁ B hml hv
  obtain ⟨hargs, hR0, hJ, hK⟩ := hv
  have hx := B.exec
  have hb := B.bytes
  have hr := B.returns
  have hts := atoms_spec (ws := .code yX8_has cX8_has 2 (some .boolean) :: zt) B.pre
  have hown : s.vm.findClass RX8 = some m.cls := findClass_of_methodNamed B.named
  have hlocks := B.notSynchronized
  have hS : zS D dA vwCl wC nC b (zms wC []) M M s.heap := ⟨hR0, hJ, zF_rf _ _⟩
  have hS0 : va_S (zA nC b) s.heap s.heap [] := va_S.rf
  have hl := lv_entry ([.ref (b + 30), .int (iI i)]) (n := 2) (Nat.le_of_ble_eq_true rfl)
  have hent : entryFrame m args 2 = F0 m 0 ((lg_sl ([.ref (b + 30), .int (iI i)]) ++ List.replicate (2 - (lg_sl ([.ref (b + 30), .int (iI i)])).length) Slot.unset).toArray) [] := by rw [hargs]; exact lg_entry_eq m ([.ref (b + 30), .int (iI i)]) 2
  rw [hent]
  generalize (lg_sl ([.ref (b + 30), .int (iI i)]) ++ List.replicate (2 - (lg_sl ([.ref (b + 30), .int (iI i)])).length) Slot.unset).toArray = ls at hl ⊢
  have hl : lv_has ls 2 [(0, .ref (b + 30)), (1, .int (iI i))] := hl
  refine lv_iload_n hx hb dX8_has_0 rfl (lv_at hl 1 rfl) ?_
  refine z_if_lt (tgt := 25) hx hb r_i dX8_has_1 (by decide) (fun c1 => ?_) (fun c1 => ?_)
  · skip
    refine z_iconst hx hb dX8_has_25 ?_
    exact z_zret hx hb hr hlocks hS hS0 (by first | decide | omega) (⟨rfl, by first | exact trivial | exact ⟨rfl, trivial⟩ | omega | (refine ⟨by omega, trivial⟩)⟩) dX8_has_26
  · skip
    refine lv_iload_n hx hb dX8_has_4 rfl (lv_at hl 1 rfl) ?_
    refine lv_aload_n hx hb dX8_has_5 rfl (lv_at hl 0 rfl) ?_
    refine z_geti hx hb hts (z_memU u8) hown hK.1 hS f8_1 (by decide) (zkd_of (rfl : zcd wC 30 = 6) rfl) (Or.inl (hts _ (z_mem k44))) dX8_has_6 ?_
    refine z_top (show M 30 1 = 0 from by rw [g0]) ?_
    refine z_icmp_ge (tgt := 25) hx hb r_i (by decide) dX8_has_9 (by decide) (fun c2 => ?_) (fun c2 => absurd c2 (by omega))
    refine z_iconst hx hb dX8_has_25 ?_
    exact z_zret hx hb hr hlocks hS hS0 (by first | decide | omega) (⟨rfl, by first | exact trivial | exact ⟨rfl, trivial⟩ | omega | (refine ⟨by omega, trivial⟩)⟩) dX8_has_26

set_option maxHeartbeats 4000000 in
set_option maxRecDepth 100000 in
theorem c_has (l : Launch) (D : va_G) (dA : Nat → ClassId) (b : Nat) (M : zM) (j : Nat) (i : Int) (lt_j : j < nC) (cd_j : zcd wC j = 6) (r_i : R32 i) : Met l yX8_has (.code yX8_has cX8_has 2 (some .boolean) :: zt) (z_rm 0) (va_Pc [.ref (b + j), .int (iI i)] (zP D dA vwCl (z_tys dA) wC nC b M)) (va_Qi (zQi wC (zms wC []) M (fun z M1 => M1 = M ∧ ((z = 1 ∧ 0 ≤ i ∧ i < M j 1 ∧ i < 24) ∨ (z = 0 ∧ (i < 0 ∨ M j 1 ≤ i ∨ 24 ≤ i))))) (zB D dA vwCl wC nC b) (zA nC b)) 0 0 (zA nC b) := by
  refine Met.ofW (cc := cX8_has) (maxL := 2) (ret := (some .boolean)) (by decide) rfl ?_
  intro p e s m args below meth c s₁ B hml hv
  obtain ⟨hargs, hR0, hJ, hK⟩ := hv
  have hx := B.exec
  have hb := B.bytes
  have hr := B.returns
  have hts := atoms_spec (ws := .code yX8_has cX8_has 2 (some .boolean) :: zt) B.pre
  have hown : s.vm.findClass RX8 = some m.cls := findClass_of_methodNamed B.named
  have hlocks := B.notSynchronized
  have hS : zS D dA vwCl wC nC b (zms wC []) M M s.heap := ⟨hR0, hJ, zF_rf _ _⟩
  have hS0 : va_S (zA nC b) s.heap s.heap [] := va_S.rf
  have hl := lv_entry ([.ref (b + j), .int (iI i)]) (n := 2) (Nat.le_of_ble_eq_true rfl)
  have hent : entryFrame m args 2 = F0 m 0 ((lg_sl ([.ref (b + j), .int (iI i)]) ++ List.replicate (2 - (lg_sl ([.ref (b + j), .int (iI i)])).length) Slot.unset).toArray) [] := by rw [hargs]; exact lg_entry_eq m ([.ref (b + j), .int (iI i)]) 2
  rw [hent]
  generalize (lg_sl ([.ref (b + j), .int (iI i)]) ++ List.replicate (2 - (lg_sl ([.ref (b + j), .int (iI i)])).length) Slot.unset).toArray = ls at hl ⊢
  have hl : lv_has ls 2 [(0, .ref (b + j)), (1, .int (iI i))] := hl
  obtain ⟨lt1, cd2⟩ := nx_strip j lt_j cd_j
  refine lv_iload_n hx hb dX8_has_0 rfl (lv_at hl 1 rfl) ?_
  refine z_if_lt (tgt := 25) hx hb r_i dX8_has_1 (by decide) (fun c3 => ?_) (fun c3 => ?_)
  · skip
    refine z_iconst hx hb dX8_has_25 ?_
    exact z_zret hx hb hr hlocks hS hS0 (by first | decide | omega) (⟨rfl, by first | exact trivial | exact ⟨rfl, trivial⟩ | omega | (refine ⟨by omega, trivial⟩)⟩) dX8_has_26
  · skip
    refine lv_iload_n hx hb dX8_has_4 rfl (lv_at hl 1 rfl) ?_
    refine lv_aload_n hx hb dX8_has_5 rfl (lv_at hl 0 rfl) ?_
    refine z_geti hx hb hts (z_memU u8) hown hK.1 hS f8_1 lt_j (zkd_of cd_j rfl) (Or.inl (hts _ (z_mem k44))) dX8_has_6 ?_
    have q4 : (0 : Int) ≤ M j 1 ∧ M j 1 ≤ 24 := zJ_at hJ cd_j rfl
    refine z_icmp_ge (tgt := 25) hx hb r_i (r32b q4 (by decide) (by decide)) dX8_has_9 (by decide) (fun c5 => ?_) (fun c5 => ?_)
    · skip
      refine z_iconst hx hb dX8_has_25 ?_
      exact z_zret hx hb hr hlocks hS hS0 (by first | decide | omega) (⟨rfl, by first | exact trivial | exact ⟨rfl, trivial⟩ | omega | (refine ⟨by omega, trivial⟩)⟩) dX8_has_26
    · skip
      refine lv_iload_n hx hb dX8_has_12 rfl (lv_at hl 1 rfl) ?_
      refine lv_aload_n hx hb dX8_has_13 rfl (lv_at hl 0 rfl) ?_
      refine z_getr (j2 := (j + 1)) hx hb hts (z_memU u8) hown hK.1 hS f8_0 lt_j (zkd_of cd_j rfl) (zrf_of cd_j rfl) (Or.inl (hts _ (z_mem k41))) dX8_has_14 ?_
      refine z_alen (n := 24) hx hb hK.1 (t0 := 0) rfl hS lt1 (zkd_of cd2 rfl) (zln_of cd2 rfl) dX8_has_17 ?_
      refine z_top (show (((24 : Nat) : Int)) = 24 from by decide) ?_
      refine z_icmp_ge (tgt := 25) hx hb r_i (by decide) dX8_has_18 (by decide) (fun c6 => absurd c6 (by omega)) (fun c6 => ?_)
      refine z_iconst hx hb dX8_has_21 ?_
      refine lv_goto (tgt := 26) hx hb dX8_has_22 (by decide) ?_
      exact z_zret hx hb hr hlocks hS hS0 (by first | decide | omega) (⟨rfl, by first | exact trivial | exact ⟨rfl, trivial⟩ | omega | (refine ⟨by omega, trivial⟩)⟩) dX8_has_26
end
section
theorem dX1_allTicks_0 : decode cX1_allTicks 0 = .ok (.lconst 1, 1) := by decide +kernel
theorem dX1_allTicks_1 : decode cX1_allTicks 1 = .ok (.lstore_n 1, 1) := by decide +kernel
theorem dX1_allTicks_2 : decode cX1_allTicks 2 = .ok (.iconst 0, 1) := by decide +kernel
theorem dX1_allTicks_29 : decode cX1_allTicks 29 = .ok (.lload_n 1, 1) := by decide +kernel
theorem dX1_allTicks_3 : decode cX1_allTicks 3 = .ok (.istore_n 3, 1) := by decide +kernel
theorem dX1_allTicks_30 : decode cX1_allTicks 30 = .ok (.lreturn, 1) := by decide +kernel
theorem dX1_allTicks_4 : decode cX1_allTicks 4 = .ok (.iload_n 3, 1) := by decide +kernel
theorem dX1_allTicks_5 : decode cX1_allTicks 5 = .ok (.aload_n 0, 1) := by decide +kernel
theorem dX1_allTicks_6 : decode cX1_allTicks 6 = .ok (.getfield 9, 3) := by decide +kernel
theorem dX1_allTicks_9 : decode cX1_allTicks 9 = .ok (.if_icmp .ge 20, 3) := by decide +kernel
theorem dX1_firstSteady_0 : decode cX1_firstSteady 0 = .ok (.aload_n 0, 1) := by decide +kernel
theorem dX1_firstSteady_1 : decode cX1_firstSteady 1 = .ok (.invokevirtual 89, 3) := by decide +kernel
theorem dX1_firstSteady_11 : decode cX1_firstSteady 11 = .ok (.lload 7, 2) := by decide +kernel
theorem dX1_firstSteady_13 : decode cX1_firstSteady 13 = .ok (.lload_n 3, 1) := by decide +kernel
theorem dX1_firstSteady_14 : decode cX1_firstSteady 14 = .ok (.lcmp, 1) := by decide +kernel
theorem dX1_firstSteady_15 : decode cX1_firstSteady 15 = .ok (.ifCond .ge 87, 3) := by decide +kernel
theorem dX1_firstSteady_18 : decode cX1_firstSteady 18 = .ok (.lload 5, 2) := by decide +kernel
theorem dX1_firstSteady_20 : decode cX1_firstSteady 20 = .ok (.lload_n 1, 1) := by decide +kernel
theorem dX1_firstSteady_21 : decode cX1_firstSteady 21 = .ok (.lload_n 3, 1) := by decide +kernel
theorem dX1_firstSteady_22 : decode cX1_firstSteady 22 = .ok (.ladd, 1) := by decide +kernel
theorem dX1_firstSteady_23 : decode cX1_firstSteady 23 = .ok (.lcmp, 1) := by decide +kernel
theorem dX1_firstSteady_24 : decode cX1_firstSteady 24 = .ok (.ifCond .ge 78, 3) := by decide +kernel
theorem dX1_firstSteady_27 : decode cX1_firstSteady 27 = .ok (.lload 5, 2) := by decide +kernel
theorem dX1_firstSteady_29 : decode cX1_firstSteady 29 = .ok (.lstore 9, 2) := by decide +kernel
theorem dX1_firstSteady_31 : decode cX1_firstSteady 31 = .ok (.iconst 0, 1) := by decide +kernel
theorem dX1_firstSteady_32 : decode cX1_firstSteady 32 = .ok (.istore 11, 2) := by decide +kernel
theorem dX1_firstSteady_34 : decode cX1_firstSteady 34 = .ok (.iload 11, 2) := by decide +kernel
theorem dX1_firstSteady_36 : decode cX1_firstSteady 36 = .ok (.aload_n 0, 1) := by decide +kernel
theorem dX1_firstSteady_37 : decode cX1_firstSteady 37 = .ok (.getfield 9, 3) := by decide +kernel
theorem dX1_firstSteady_4 : decode cX1_firstSteady 4 = .ok (.lstore_n 3, 1) := by decide +kernel
theorem dX1_firstSteady_40 : decode cX1_firstSteady 40 = .ok (.if_icmp .ge 38, 3) := by decide +kernel
theorem dX1_firstSteady_5 : decode cX1_firstSteady 5 = .ok (.lload_n 1, 1) := by decide +kernel
theorem dX1_firstSteady_6 : decode cX1_firstSteady 6 = .ok (.lstore 5, 2) := by decide +kernel
theorem dX1_firstSteady_78 : decode cX1_firstSteady 78 = .ok (.lload 9, 2) := by decide +kernel
theorem dX1_firstSteady_8 : decode cX1_firstSteady 8 = .ok (.lconst 0, 1) := by decide +kernel
theorem dX1_firstSteady_80 : decode cX1_firstSteady 80 = .ok (.lload 5, 2) := by decide +kernel
theorem dX1_firstSteady_82 : decode cX1_firstSteady 82 = .ok (.lcmp, 1) := by decide +kernel
theorem dX1_firstSteady_83 : decode cX1_firstSteady 83 = .ok (.ifCond .ne 6, 3) := by decide +kernel
theorem dX1_firstSteady_86 : decode cX1_firstSteady 86 = .ok (.lload 5, 2) := by decide +kernel
theorem dX1_firstSteady_88 : decode cX1_firstSteady 88 = .ok (.lreturn, 1) := by decide +kernel
theorem dX1_firstSteady_9 : decode cX1_firstSteady 9 = .ok (.lstore 7, 2) := by decide +kernel
theorem dX1_first_0 : decode cX1_first 0 = .ok (.lload_n 2, 1) := by decide +kernel
theorem dX1_first_1 : decode cX1_first 1 = .ok (.lstore 4, 2) := by decide +kernel
theorem dX1_first_10 : decode cX1_first 10 = .ok (.ifCond .ge 24, 3) := by decide +kernel
theorem dX1_first_3 : decode cX1_first 3 = .ok (.lload 4, 2) := by decide +kernel
theorem dX1_first_34 : decode cX1_first 34 = .ok (.aload_n 0, 1) := by decide +kernel
theorem dX1_first_35 : decode cX1_first 35 = .ok (.invokevirtual 76, 3) := by decide +kernel
theorem dX1_first_38 : decode cX1_first 38 = .ok (.lconst 0, 1) := by decide +kernel
theorem dX1_first_39 : decode cX1_first 39 = .ok (.lcmp, 1) := by decide +kernel
theorem dX1_first_40 : decode cX1_first 40 = .ok (.ifCond .ne 9, 3) := by decide +kernel
theorem dX1_first_49 : decode cX1_first 49 = .ok (.aload_n 0, 1) := by decide +kernel
theorem dX1_first_5 : decode cX1_first 5 = .ok (.aload_n 0, 1) := by decide +kernel
theorem dX1_first_50 : decode cX1_first 50 = .ok (.lload_n 2, 1) := by decide +kernel
theorem dX1_first_51 : decode cX1_first 51 = .ok (.aload_n 0, 1) := by decide +kernel
theorem dX1_first_52 : decode cX1_first 52 = .ok (.getfield 15, 3) := by decide +kernel
theorem dX1_first_55 : decode cX1_first 55 = .ok (.invokestatic 82, 3) := by decide +kernel
theorem dX1_first_58 : decode cX1_first 58 = .ok (.invokevirtual 85, 3) := by decide +kernel
theorem dX1_first_6 : decode cX1_first 6 = .ok (.getfield 15, 3) := by decide +kernel
theorem dX1_first_61 : decode cX1_first 61 = .ok (.lreturn, 1) := by decide +kernel
theorem dX1_first_9 : decode cX1_first 9 = .ok (.lcmp, 1) := by decide +kernel
theorem dX1_howOften_0 : decode cX1_howOften 0 = .ok (.aload_n 0, 1) := by decide +kernel
theorem dX1_howOften_1 : decode cX1_howOften 1 = .ok (.invokevirtual 51, 3) := by decide +kernel
theorem dX1_howOften_10 : decode cX1_howOften 10 = .ok (.iload 4, 2) := by decide +kernel
theorem dX1_howOften_12 : decode cX1_howOften 12 = .ok (.iload_n 1, 1) := by decide +kernel
theorem dX1_howOften_13 : decode cX1_howOften 13 = .ok (.if_icmp .ge 61, 3) := by decide +kernel
theorem dX1_howOften_16 : decode cX1_howOften 16 = .ok (.lconst 1, 1) := by decide +kernel
theorem dX1_howOften_17 : decode cX1_howOften 17 = .ok (.lstore 5, 2) := by decide +kernel
theorem dX1_howOften_19 : decode cX1_howOften 19 = .ok (.iconst 0, 1) := by decide +kernel
theorem dX1_howOften_20 : decode cX1_howOften 20 = .ok (.istore 7, 2) := by decide +kernel
theorem dX1_howOften_22 : decode cX1_howOften 22 = .ok (.iload 7, 2) := by decide +kernel
theorem dX1_howOften_24 : decode cX1_howOften 24 = .ok (.aload_n 0, 1) := by decide +kernel
theorem dX1_howOften_25 : decode cX1_howOften 25 = .ok (.getfield 9, 3) := by decide +kernel
theorem dX1_howOften_28 : decode cX1_howOften 28 = .ok (.if_icmp .ge 35, 3) := by decide +kernel
theorem dX1_howOften_4 : decode cX1_howOften 4 = .ok (.istore_n 1, 1) := by decide +kernel
theorem dX1_howOften_5 : decode cX1_howOften 5 = .ok (.lconst 0, 1) := by decide +kernel
theorem dX1_howOften_6 : decode cX1_howOften 6 = .ok (.lstore_n 2, 1) := by decide +kernel
theorem dX1_howOften_63 : decode cX1_howOften 63 = .ok (.lload_n 2, 1) := by decide +kernel
theorem dX1_howOften_64 : decode cX1_howOften 64 = .ok (.lload 5, 2) := by decide +kernel
theorem dX1_howOften_66 : decode cX1_howOften 66 = .ok (.ladd, 1) := by decide +kernel
theorem dX1_howOften_67 : decode cX1_howOften 67 = .ok (.lstore_n 2, 1) := by decide +kernel
theorem dX1_howOften_68 : decode cX1_howOften 68 = .ok (.iinc 4 1, 3) := by decide +kernel
theorem dX1_howOften_7 : decode cX1_howOften 7 = .ok (.iconst 0, 1) := by decide +kernel
theorem dX1_howOften_71 : decode cX1_howOften 71 = .ok (.goto (-61), 3) := by decide +kernel
theorem dX1_howOften_74 : decode cX1_howOften 74 = .ok (.lload_n 2, 1) := by decide +kernel
theorem dX1_howOften_75 : decode cX1_howOften 75 = .ok (.lreturn, 1) := by decide +kernel
theorem dX1_howOften_8 : decode cX1_howOften 8 = .ok (.istore 4, 2) := by decide +kernel
theorem dX1_look_0 : decode cX1_look 0 = .ok (.aload_n 0, 1) := by decide +kernel
theorem dX1_look_1 : decode cX1_look 1 = .ok (.aload_n 1, 1) := by decide +kernel
theorem dX1_look_10 : decode cX1_look 10 = .ok (.iconst 0, 1) := by decide +kernel
theorem dX1_look_11 : decode cX1_look 11 = .ok (.putfield 9, 3) := by decide +kernel
theorem dX1_look_14 : decode cX1_look 14 = .ok (.iconst 0, 1) := by decide +kernel
theorem dX1_look_15 : decode cX1_look 15 = .ok (.istore_n 2, 1) := by decide +kernel
theorem dX1_look_16 : decode cX1_look 16 = .ok (.iload_n 2, 1) := by decide +kernel
theorem dX1_look_17 : decode cX1_look 17 = .ok (.iconst 4, 1) := by decide +kernel
theorem dX1_look_18 : decode cX1_look 18 = .ok (.if_icmp .ge 58, 3) := by decide +kernel
theorem dX1_look_2 : decode cX1_look 2 = .ok (.invokevirtual 26, 3) := by decide +kernel
theorem dX1_look_21 : decode cX1_look 21 = .ok (.aload_n 1, 1) := by decide +kernel
theorem dX1_look_22 : decode cX1_look 22 = .ok (.iload_n 2, 1) := by decide +kernel
theorem dX1_look_23 : decode cX1_look 23 = .ok (.invokevirtual 31, 3) := by decide +kernel
theorem dX1_look_26 : decode cX1_look 26 = .ok (.astore_n 3, 1) := by decide +kernel
theorem dX1_look_27 : decode cX1_look 27 = .ok (.aload_n 3, 1) := by decide +kernel
theorem dX1_look_28 : decode cX1_look 28 = .ok (.ifnull 42, 3) := by decide +kernel
theorem dX1_look_5 : decode cX1_look 5 = .ok (.i2l, 1) := by decide +kernel
theorem dX1_look_6 : decode cX1_look 6 = .ok (.putfield 15, 3) := by decide +kernel
theorem dX1_look_70 : decode cX1_look 70 = .ok (.iinc 2 1, 3) := by decide +kernel
theorem dX1_look_73 : decode cX1_look 73 = .ok (.goto (-57), 3) := by decide +kernel
theorem dX1_look_76 : decode cX1_look 76 = .ok (.return_, 1) := by decide +kernel
theorem dX1_look_9 : decode cX1_look 9 = .ok (.aload_n 0, 1) := by decide +kernel
theorem dX1_sharedTicks_0 : decode cX1_sharedTicks 0 = .ok (.lconst 1, 1) := by decide +kernel
theorem dX1_sharedTicks_1 : decode cX1_sharedTicks 1 = .ok (.lstore_n 1, 1) := by decide +kernel
theorem dX1_sharedTicks_2 : decode cX1_sharedTicks 2 = .ok (.iconst 0, 1) := by decide +kernel
theorem dX1_sharedTicks_3 : decode cX1_sharedTicks 3 = .ok (.istore_n 3, 1) := by decide +kernel
theorem dX1_sharedTicks_4 : decode cX1_sharedTicks 4 = .ok (.iload_n 3, 1) := by decide +kernel
theorem dX1_sharedTicks_5 : decode cX1_sharedTicks 5 = .ok (.aload_n 0, 1) := by decide +kernel
theorem dX1_sharedTicks_6 : decode cX1_sharedTicks 6 = .ok (.getfield 9, 3) := by decide +kernel
theorem dX1_sharedTicks_60 : decode cX1_sharedTicks 60 = .ok (.lload_n 1, 1) := by decide +kernel
theorem dX1_sharedTicks_61 : decode cX1_sharedTicks 61 = .ok (.l2i, 1) := by decide +kernel
theorem dX1_sharedTicks_62 : decode cX1_sharedTicks 62 = .ok (.ireturn, 1) := by decide +kernel
theorem dX1_sharedTicks_9 : decode cX1_sharedTicks 9 = .ok (.if_icmp .ge 51, 3) := by decide +kernel
theorem dX2_forget_0 : decode cX2_forget 0 = .ok (.aload_n 0, 1) := by decide +kernel
theorem dX2_forget_1 : decode cX2_forget 1 = .ok (.iconst 0, 1) := by decide +kernel
theorem dX2_forget_2 : decode cX2_forget 2 = .ok (.putfield 18, 3) := by decide +kernel
theorem dX2_forget_5 : decode cX2_forget 5 = .ok (.return_, 1) := by decide +kernel
theorem dX2_steady_0 : decode cX2_steady 0 = .ok (.aload_n 0, 1) := by decide +kernel
theorem dX2_steady_1 : decode cX2_steady 1 = .ok (.getfield 18, 3) := by decide +kernel
theorem dX2_steady_22 : decode cX2_steady 22 = .ok (.ireturn, 1) := by decide +kernel
theorem dX2_steady_4 : decode cX2_steady 4 = .ok (.ifCond .ne 7, 3) := by decide +kernel
theorem dX2_steady_7 : decode cX2_steady 7 = .ok (.iconst 0, 1) := by decide +kernel
theorem dX2_steady_8 : decode cX2_steady 8 = .ok (.goto 14, 3) := by decide +kernel
theorem dX2_tell_0 : decode cX2_tell 0 = .ok (.iconst 0, 1) := by decide +kernel
theorem dX2_tell_1 : decode cX2_tell 1 = .ok (.istore_n 3, 1) := by decide +kernel
theorem dX2_tell_114 : decode cX2_tell 114 = .ok (.aload_n 0, 1) := by decide +kernel
theorem dX2_tell_115 : decode cX2_tell 115 = .ok (.getfield 9, 3) := by decide +kernel
theorem dX2_tell_118 : decode cX2_tell 118 = .ok (.iload_n 3, 1) := by decide +kernel
theorem dX2_tell_119 : decode cX2_tell 119 = .ok (.iload_n 1, 1) := by decide +kernel
theorem dX2_tell_120 : decode cX2_tell 120 = .ok (.iastore, 1) := by decide +kernel
theorem dX2_tell_121 : decode cX2_tell 121 = .ok (.aload_n 0, 1) := by decide +kernel
theorem dX2_tell_122 : decode cX2_tell 122 = .ok (.getfield 15, 3) := by decide +kernel
theorem dX2_tell_125 : decode cX2_tell 125 = .ok (.iload_n 3, 1) := by decide +kernel
theorem dX2_tell_126 : decode cX2_tell 126 = .ok (.iload_n 2, 1) := by decide +kernel
theorem dX2_tell_127 : decode cX2_tell 127 = .ok (.iastore, 1) := by decide +kernel
theorem dX2_tell_128 : decode cX2_tell 128 = .ok (.aload_n 0, 1) := by decide +kernel
theorem dX2_tell_129 : decode cX2_tell 129 = .ok (.dup, 1) := by decide +kernel
theorem dX2_tell_130 : decode cX2_tell 130 = .ok (.getfield 18, 3) := by decide +kernel
theorem dX2_tell_133 : decode cX2_tell 133 = .ok (.iconst 1, 1) := by decide +kernel
theorem dX2_tell_134 : decode cX2_tell 134 = .ok (.iadd, 1) := by decide +kernel
theorem dX2_tell_135 : decode cX2_tell 135 = .ok (.putfield 18, 3) := by decide +kernel
theorem dX2_tell_138 : decode cX2_tell 138 = .ok (.iconst 1, 1) := by decide +kernel
theorem dX2_tell_139 : decode cX2_tell 139 = .ok (.ireturn, 1) := by decide +kernel
theorem dX2_tell_2 : decode cX2_tell 2 = .ok (.iload_n 3, 1) := by decide +kernel
theorem dX2_tell_26 : decode cX2_tell 26 = .ok (.iload_n 3, 1) := by decide +kernel
theorem dX2_tell_27 : decode cX2_tell 27 = .ok (.aload_n 0, 1) := by decide +kernel
theorem dX2_tell_28 : decode cX2_tell 28 = .ok (.getfield 18, 3) := by decide +kernel
theorem dX2_tell_3 : decode cX2_tell 3 = .ok (.aload_n 0, 1) := by decide +kernel
theorem dX2_tell_31 : decode cX2_tell 31 = .ok (.if_icmp .ge 22, 3) := by decide +kernel
theorem dX2_tell_4 : decode cX2_tell 4 = .ok (.getfield 18, 3) := by decide +kernel
theorem dX2_tell_53 : decode cX2_tell 53 = .ok (.aload_n 0, 1) := by decide +kernel
theorem dX2_tell_54 : decode cX2_tell 54 = .ok (.getfield 18, 3) := by decide +kernel
theorem dX2_tell_57 : decode cX2_tell 57 = .ok (.bipush 12, 2) := by decide +kernel
theorem dX2_tell_59 : decode cX2_tell 59 = .ok (.if_icmp .lt 5, 3) := by decide +kernel
theorem dX2_tell_64 : decode cX2_tell 64 = .ok (.aload_n 0, 1) := by decide +kernel
theorem dX2_tell_65 : decode cX2_tell 65 = .ok (.getfield 18, 3) := by decide +kernel
theorem dX2_tell_68 : decode cX2_tell 68 = .ok (.istore 4, 2) := by decide +kernel
theorem dX2_tell_7 : decode cX2_tell 7 = .ok (.if_icmp .ge 19, 3) := by decide +kernel
theorem dX2_tell_70 : decode cX2_tell 70 = .ok (.iload 4, 2) := by decide +kernel
theorem dX2_tell_72 : decode cX2_tell 72 = .ok (.iload_n 3, 1) := by decide +kernel
theorem dX2_tell_73 : decode cX2_tell 73 = .ok (.if_icmp .le 41, 3) := by decide +kernel
theorem dX2_wayTo_0 : decode cX2_wayTo 0 = .ok (.lconst 0, 1) := by decide +kernel
theorem dX2_wayTo_1 : decode cX2_wayTo 1 = .ok (.lstore_n 3, 1) := by decide +kernel
theorem dX2_wayTo_11 : decode cX2_wayTo 11 = .ok (.iload 8, 2) := by decide +kernel
theorem dX2_wayTo_13 : decode cX2_wayTo 13 = .ok (.aload_n 0, 1) := by decide +kernel
theorem dX2_wayTo_14 : decode cX2_wayTo 14 = .ok (.getfield 18, 3) := by decide +kernel
theorem dX2_wayTo_17 : decode cX2_wayTo 17 = .ok (.if_icmp .ge 59, 3) := by decide +kernel
theorem dX2_wayTo_2 : decode cX2_wayTo 2 = .ok (.lconst 0, 1) := by decide +kernel
theorem dX2_wayTo_3 : decode cX2_wayTo 3 = .ok (.lstore 5, 2) := by decide +kernel
theorem dX2_wayTo_5 : decode cX2_wayTo 5 = .ok (.iconst 1, 1) := by decide +kernel
theorem dX2_wayTo_6 : decode cX2_wayTo 6 = .ok (.istore 7, 2) := by decide +kernel
theorem dX2_wayTo_76 : decode cX2_wayTo 76 = .ok (.lload_n 3, 1) := by decide +kernel
theorem dX2_wayTo_77 : decode cX2_wayTo 77 = .ok (.lload_n 1, 1) := by decide +kernel
theorem dX2_wayTo_78 : decode cX2_wayTo 78 = .ok (.lload 5, 2) := by decide +kernel
theorem dX2_wayTo_8 : decode cX2_wayTo 8 = .ok (.iconst 0, 1) := by decide +kernel
theorem dX2_wayTo_80 : decode cX2_wayTo 80 = .ok (.lsub, 1) := by decide +kernel
theorem dX2_wayTo_81 : decode cX2_wayTo 81 = .ok (.iload 7, 2) := by decide +kernel
theorem dX2_wayTo_83 : decode cX2_wayTo 83 = .ok (.i2l, 1) := by decide +kernel
theorem dX2_wayTo_84 : decode cX2_wayTo 84 = .ok (.lmul, 1) := by decide +kernel
theorem dX2_wayTo_85 : decode cX2_wayTo 85 = .ok (.ladd, 1) := by decide +kernel
theorem dX2_wayTo_86 : decode cX2_wayTo 86 = .ok (.lreturn, 1) := by decide +kernel
theorem dX2_wayTo_9 : decode cX2_wayTo 9 = .ok (.istore 8, 2) := by decide +kernel
theorem dX7_add_0 : decode cX7_add 0 = .ok (.aload_n 0, 1) := by decide +kernel
theorem dX7_add_1 : decode cX7_add 1 = .ok (.getfield 15, 3) := by decide +kernel
theorem dX7_add_10 : decode cX7_add 10 = .ok (.arraylength, 1) := by decide +kernel
theorem dX7_add_11 : decode cX7_add 11 = .ok (.if_icmp .le 5, 3) := by decide +kernel
theorem dX7_add_16 : decode cX7_add 16 = .ok (.bipush 24, 2) := by decide +kernel
theorem dX7_add_18 : decode cX7_add 18 = .ok (.istore_n 2, 1) := by decide +kernel
theorem dX7_add_19 : decode cX7_add 19 = .ok (.iload_n 2, 1) := by decide +kernel
theorem dX7_add_20 : decode cX7_add 20 = .ok (.ifCond .lt 35, 3) := by decide +kernel
theorem dX7_add_23 : decode cX7_add 23 = .ok (.aload_n 0, 1) := by decide +kernel
theorem dX7_add_24 : decode cX7_add 24 = .ok (.getfield 9, 3) := by decide +kernel
theorem dX7_add_27 : decode cX7_add 27 = .ok (.aload_n 0, 1) := by decide +kernel
theorem dX7_add_28 : decode cX7_add 28 = .ok (.getfield 15, 3) := by decide +kernel
theorem dX7_add_31 : decode cX7_add 31 = .ok (.iload_n 1, 1) := by decide +kernel
theorem dX7_add_32 : decode cX7_add 32 = .ok (.iload_n 2, 1) := by decide +kernel
theorem dX7_add_33 : decode cX7_add 33 = .ok (.iushr, 1) := by decide +kernel
theorem dX7_add_34 : decode cX7_add 34 = .ok (.sipush 255, 3) := by decide +kernel
theorem dX7_add_37 : decode cX7_add 37 = .ok (.iand, 1) := by decide +kernel
theorem dX7_add_38 : decode cX7_add 38 = .ok (.iastore, 1) := by decide +kernel
theorem dX7_add_39 : decode cX7_add 39 = .ok (.aload_n 0, 1) := by decide +kernel
theorem dX7_add_4 : decode cX7_add 4 = .ok (.iconst 4, 1) := by decide +kernel
theorem dX7_add_40 : decode cX7_add 40 = .ok (.dup, 1) := by decide +kernel
theorem dX7_add_41 : decode cX7_add 41 = .ok (.getfield 15, 3) := by decide +kernel
theorem dX7_add_44 : decode cX7_add 44 = .ok (.iconst 1, 1) := by decide +kernel
theorem dX7_add_45 : decode cX7_add 45 = .ok (.iadd, 1) := by decide +kernel
theorem dX7_add_46 : decode cX7_add 46 = .ok (.putfield 15, 3) := by decide +kernel
theorem dX7_add_49 : decode cX7_add 49 = .ok (.iinc 2 (-8), 3) := by decide +kernel
theorem dX7_add_5 : decode cX7_add 5 = .ok (.iadd, 1) := by decide +kernel
theorem dX7_add_52 : decode cX7_add 52 = .ok (.goto (-33), 3) := by decide +kernel
theorem dX7_add_55 : decode cX7_add 55 = .ok (.aload_n 0, 1) := by decide +kernel
theorem dX7_add_56 : decode cX7_add 56 = .ok (.getfield 15, 3) := by decide +kernel
theorem dX7_add_59 : decode cX7_add 59 = .ok (.ireturn, 1) := by decide +kernel
theorem dX7_add_6 : decode cX7_add 6 = .ok (.aload_n 0, 1) := by decide +kernel
theorem dX7_add_7 : decode cX7_add 7 = .ok (.getfield 9, 3) := by decide +kernel
theorem dX7_firstWrong_0 : decode cX7_firstWrong 0 = .ok (.iconst 0, 1) := by decide +kernel
theorem dX7_firstWrong_1 : decode cX7_firstWrong 1 = .ok (.istore_n 1, 1) := by decide +kernel
theorem dX7_firstWrong_10 : decode cX7_firstWrong 10 = .ok (.aload_n 0, 1) := by decide +kernel
theorem dX7_firstWrong_11 : decode cX7_firstWrong 11 = .ok (.getfield 15, 3) := by decide +kernel
theorem dX7_firstWrong_14 : decode cX7_firstWrong 14 = .ok (.if_icmp .ge 34, 3) := by decide +kernel
theorem dX7_firstWrong_2 : decode cX7_firstWrong 2 = .ok (.aload_n 0, 1) := by decide +kernel
theorem dX7_firstWrong_3 : decode cX7_firstWrong 3 = .ok (.iconst 0, 1) := by decide +kernel
theorem dX7_firstWrong_4 : decode cX7_firstWrong 4 = .ok (.putfield 19, 3) := by decide +kernel
theorem dX7_firstWrong_48 : decode cX7_firstWrong 48 = .ok (.aload_n 0, 1) := by decide +kernel
theorem dX7_firstWrong_49 : decode cX7_firstWrong 49 = .ok (.getfield 15, 3) := by decide +kernel
theorem dX7_firstWrong_52 : decode cX7_firstWrong 52 = .ok (.bipush 60, 2) := by decide +kernel
theorem dX7_firstWrong_54 : decode cX7_firstWrong 54 = .ok (.if_icmp .le 6, 3) := by decide +kernel
theorem dX7_firstWrong_60 : decode cX7_firstWrong 60 = .ok (.iload_n 1, 1) := by decide +kernel
theorem dX7_firstWrong_61 : decode cX7_firstWrong 61 = .ok (.iconst 1, 1) := by decide +kernel
theorem dX7_firstWrong_62 : decode cX7_firstWrong 62 = .ok (.if_icmp .ne 14, 3) := by decide +kernel
theorem dX7_firstWrong_7 : decode cX7_firstWrong 7 = .ok (.iconst 0, 1) := by decide +kernel
theorem dX7_firstWrong_76 : decode cX7_firstWrong 76 = .ok (.aload_n 0, 1) := by decide +kernel
theorem dX7_firstWrong_77 : decode cX7_firstWrong 77 = .ok (.getfield 15, 3) := by decide +kernel
theorem dX7_firstWrong_8 : decode cX7_firstWrong 8 = .ok (.istore_n 2, 1) := by decide +kernel
theorem dX7_firstWrong_80 : decode cX7_firstWrong 80 = .ok (.ireturn, 1) := by decide +kernel
theorem dX7_firstWrong_9 : decode cX7_firstWrong 9 = .ok (.iload_n 2, 1) := by decide +kernel
theorem dX7_keepFirst_0 : decode cX7_keepFirst 0 = .ok (.iload_n 1, 1) := by decide +kernel
theorem dX7_keepFirst_1 : decode cX7_keepFirst 1 = .ok (.ifCond .lt 11, 3) := by decide +kernel
theorem dX7_keepFirst_12 : decode cX7_keepFirst 12 = .ok (.iconst 0, 1) := by decide +kernel
theorem dX7_keepFirst_13 : decode cX7_keepFirst 13 = .ok (.ireturn, 1) := by decide +kernel
theorem dX7_keepFirst_14 : decode cX7_keepFirst 14 = .ok (.aload_n 0, 1) := by decide +kernel
theorem dX7_keepFirst_15 : decode cX7_keepFirst 15 = .ok (.iload_n 1, 1) := by decide +kernel
theorem dX7_keepFirst_16 : decode cX7_keepFirst 16 = .ok (.putfield 15, 3) := by decide +kernel
theorem dX7_keepFirst_19 : decode cX7_keepFirst 19 = .ok (.iconst 1, 1) := by decide +kernel
theorem dX7_keepFirst_20 : decode cX7_keepFirst 20 = .ok (.ireturn, 1) := by decide +kernel
theorem dX7_keepFirst_4 : decode cX7_keepFirst 4 = .ok (.iload_n 1, 1) := by decide +kernel
theorem dX7_keepFirst_5 : decode cX7_keepFirst 5 = .ok (.aload_n 0, 1) := by decide +kernel
theorem dX7_keepFirst_6 : decode cX7_keepFirst 6 = .ok (.getfield 15, 3) := by decide +kernel
theorem dX7_keepFirst_9 : decode cX7_keepFirst 9 = .ok (.if_icmp .le 5, 3) := by decide +kernel
theorem dX7_putInto_0 : decode cX7_putInto 0 = .ok (.aload_n 0, 1) := by decide +kernel
theorem dX7_putInto_1 : decode cX7_putInto 1 = .ok (.invokevirtual 38, 3) := by decide +kernel
theorem dX7_putInto_17 : decode cX7_putInto 17 = .ok (.iconst (-1), 1) := by decide +kernel
theorem dX7_putInto_18 : decode cX7_putInto 18 = .ok (.iload_n 2, 1) := by decide +kernel
theorem dX7_putInto_19 : decode cX7_putInto 19 = .ok (.isub, 1) := by decide +kernel
theorem dX7_putInto_20 : decode cX7_putInto 20 = .ok (.istore_n 3, 1) := by decide +kernel
theorem dX7_putInto_21 : decode cX7_putInto 21 = .ok (.aload_n 0, 1) := by decide +kernel
theorem dX7_putInto_22 : decode cX7_putInto 22 = .ok (.iconst 0, 1) := by decide +kernel
theorem dX7_putInto_23 : decode cX7_putInto 23 = .ok (.putfield 15, 3) := by decide +kernel
theorem dX7_putInto_26 : decode cX7_putInto 26 = .ok (.iload_n 3, 1) := by decide +kernel
theorem dX7_putInto_27 : decode cX7_putInto 27 = .ok (.ifCond .ne 18, 3) := by decide +kernel
theorem dX7_putInto_4 : decode cX7_putInto 4 = .ok (.istore_n 2, 1) := by decide +kernel
theorem dX7_putInto_45 : decode cX7_putInto 45 = .ok (.iload_n 3, 1) := by decide +kernel
theorem dX7_putInto_46 : decode cX7_putInto 46 = .ok (.ireturn, 1) := by decide +kernel
theorem dX7_putInto_5 : decode cX7_putInto 5 = .ok (.iload_n 2, 1) := by decide +kernel
theorem dX7_putInto_6 : decode cX7_putInto 6 = .ok (.iconst (-1), 1) := by decide +kernel
theorem dX7_putInto_7 : decode cX7_putInto 7 = .ok (.if_icmp .ne 10, 3) := by decide +kernel
theorem dX8_at_0 : decode cX8_at 0 = .ok (.aload_n 0, 1) := by decide +kernel
theorem dX8_at_1 : decode cX8_at 1 = .ok (.iload_n 1, 1) := by decide +kernel
theorem dX8_at_17 : decode cX8_at 17 = .ok (.iconst (-1), 1) := by decide +kernel
theorem dX8_at_18 : decode cX8_at 18 = .ok (.ireturn, 1) := by decide +kernel
theorem dX8_at_2 : decode cX8_at 2 = .ok (.invokevirtual 19, 3) := by decide +kernel
theorem dX8_at_5 : decode cX8_at 5 = .ok (.ifCond .eq 12, 3) := by decide +kernel
theorem dX9_empty_0 : decode cX9_empty 0 = .ok (.aload_n 0, 1) := by decide +kernel
theorem dX9_empty_1 : decode cX9_empty 1 = .ok (.getfield 23, 3) := by decide +kernel
theorem dX9_empty_10 : decode cX9_empty 10 = .ok (.iconst 0, 1) := by decide +kernel
theorem dX9_empty_11 : decode cX9_empty 11 = .ok (.istore_n 2, 1) := by decide +kernel
theorem dX9_empty_12 : decode cX9_empty 12 = .ok (.iload_n 2, 1) := by decide +kernel
theorem dX9_empty_13 : decode cX9_empty 13 = .ok (.iconst 2, 1) := by decide +kernel
theorem dX9_empty_14 : decode cX9_empty 14 = .ok (.if_icmp .ge 18, 3) := by decide +kernel
theorem dX9_empty_17 : decode cX9_empty 17 = .ok (.aload_n 0, 1) := by decide +kernel
theorem dX9_empty_18 : decode cX9_empty 18 = .ok (.getfield 11, 3) := by decide +kernel
theorem dX9_empty_21 : decode cX9_empty 21 = .ok (.iload_n 2, 1) := by decide +kernel
theorem dX9_empty_22 : decode cX9_empty 22 = .ok (.aaload, 1) := by decide +kernel
theorem dX9_empty_23 : decode cX9_empty 23 = .ok (.invokevirtual 33, 3) := by decide +kernel
theorem dX9_empty_26 : decode cX9_empty 26 = .ok (.iinc 2 1, 3) := by decide +kernel
theorem dX9_empty_29 : decode cX9_empty 29 = .ok (.goto (-17), 3) := by decide +kernel
theorem dX9_empty_32 : decode cX9_empty 32 = .ok (.iload_n 1, 1) := by decide +kernel
theorem dX9_empty_33 : decode cX9_empty 33 = .ok (.ireturn, 1) := by decide +kernel
theorem dX9_empty_4 : decode cX9_empty 4 = .ok (.istore_n 1, 1) := by decide +kernel
theorem dX9_empty_5 : decode cX9_empty 5 = .ok (.aload_n 0, 1) := by decide +kernel
theorem dX9_empty_6 : decode cX9_empty 6 = .ok (.iconst 0, 1) := by decide +kernel
theorem dX9_empty_7 : decode cX9_empty 7 = .ok (.putfield 23, 3) := by decide +kernel
theorem dX9_find_0 : decode cX9_find 0 = .ok (.iload_n 1, 1) := by decide +kernel
theorem dX9_find_1 : decode cX9_find 1 = .ok (.ifCond .lt 25, 3) := by decide +kernel
theorem dX9_find_26 : decode cX9_find 26 = .ok (.aconst_null, 1) := by decide +kernel
theorem dX9_find_27 : decode cX9_find 27 = .ok (.areturn, 1) := by decide +kernel
theorem dX9_find_4 : decode cX9_find 4 = .ok (.iload_n 1, 1) := by decide +kernel
theorem dX9_find_5 : decode cX9_find 5 = .ok (.aload_n 0, 1) := by decide +kernel
theorem dX9_find_6 : decode cX9_find 6 = .ok (.getfield 23, 3) := by decide +kernel
theorem dX9_find_9 : decode cX9_find 9 = .ok (.if_icmp .ge 17, 3) := by decide +kernel
theorem dX9_heardInAll_0 : decode cX9_heardInAll 0 = .ok (.iconst 0, 1) := by decide +kernel
theorem dX9_heardInAll_1 : decode cX9_heardInAll 1 = .ok (.istore_n 3, 1) := by decide +kernel
theorem dX9_heardInAll_11 : decode cX9_heardInAll 11 = .ok (.if_icmp .ge 24, 3) := by decide +kernel
theorem dX9_heardInAll_2 : decode cX9_heardInAll 2 = .ok (.iconst 0, 1) := by decide +kernel
theorem dX9_heardInAll_3 : decode cX9_heardInAll 3 = .ok (.istore 4, 2) := by decide +kernel
theorem dX9_heardInAll_35 : decode cX9_heardInAll 35 = .ok (.iload_n 3, 1) := by decide +kernel
theorem dX9_heardInAll_36 : decode cX9_heardInAll 36 = .ok (.ireturn, 1) := by decide +kernel
theorem dX9_heardInAll_5 : decode cX9_heardInAll 5 = .ok (.iload 4, 2) := by decide +kernel
theorem dX9_heardInAll_7 : decode cX9_heardInAll 7 = .ok (.aload_n 0, 1) := by decide +kernel
theorem dX9_heardInAll_8 : decode cX9_heardInAll 8 = .ok (.getfield 23, 3) := by decide +kernel
theorem dX9_motorOf_0 : decode cX9_motorOf 0 = .ok (.aload_n 0, 1) := by decide +kernel
theorem dX9_motorOf_1 : decode cX9_motorOf 1 = .ok (.getfield 11, 3) := by decide +kernel
theorem dX9_motorOf_12 : decode cX9_motorOf 12 = .ok (.iconst 1, 1) := by decide +kernel
theorem dX9_motorOf_13 : decode cX9_motorOf 13 = .ok (.aaload, 1) := by decide +kernel
theorem dX9_motorOf_14 : decode cX9_motorOf 14 = .ok (.areturn, 1) := by decide +kernel
theorem dX9_motorOf_4 : decode cX9_motorOf 4 = .ok (.iload_n 1, 1) := by decide +kernel
theorem dX9_motorOf_5 : decode cX9_motorOf 5 = .ok (.ifCond .ne 7, 3) := by decide +kernel
theorem dX9_motorOf_8 : decode cX9_motorOf 8 = .ok (.iconst 0, 1) := by decide +kernel
theorem dX9_motorOf_9 : decode cX9_motorOf 9 = .ok (.goto 4, 3) := by decide +kernel
theorem dX9_steady_0 : decode cX9_steady 0 = .ok (.aload_n 0, 1) := by decide +kernel
theorem dX9_steady_1 : decode cX9_steady 1 = .ok (.getfield 11, 3) := by decide +kernel
theorem dX9_steady_10 : decode cX9_steady 10 = .ok (.getfield 11, 3) := by decide +kernel
theorem dX9_steady_13 : decode cX9_steady 13 = .ok (.iconst 1, 1) := by decide +kernel
theorem dX9_steady_14 : decode cX9_steady 14 = .ok (.aaload, 1) := by decide +kernel
theorem dX9_steady_15 : decode cX9_steady 15 = .ok (.invokevirtual 36, 3) := by decide +kernel
theorem dX9_steady_18 : decode cX9_steady 18 = .ok (.invokestatic 40, 3) := by decide +kernel
theorem dX9_steady_21 : decode cX9_steady 21 = .ok (.ireturn, 1) := by decide +kernel
theorem dX9_steady_4 : decode cX9_steady 4 = .ok (.iconst 0, 1) := by decide +kernel
theorem dX9_steady_5 : decode cX9_steady 5 = .ok (.aaload, 1) := by decide +kernel
theorem dX9_steady_6 : decode cX9_steady 6 = .ok (.invokevirtual 36, 3) := by decide +kernel
theorem dX9_steady_9 : decode cX9_steady 9 = .ok (.aload_n 0, 1) := by decide +kernel
theorem dm_X7_firstWrong : yX7_firstWrong.cls = RX7 ∧ yX7_firstWrong.cls ≠ "java/lang/invoke/MethodHandle" ∧ yX7_firstWrong.cls ≠ "java/lang/invoke/VarHandle" ∧ (parseMethodDescriptor yX7_firstWrong.desc).map (fun d => d.parameters.length) = some 0 := by decide +kernel
theorem dm_X8_has : yX8_has.cls = RX8 ∧ yX8_has.cls ≠ "java/lang/invoke/MethodHandle" ∧ yX8_has.cls ≠ "java/lang/invoke/VarHandle" ∧ (parseMethodDescriptor yX8_has.desc).map (fun d => d.parameters.length) = some 1 := by decide +kernel
theorem dm_X2_steady : yX2_steady.cls = RX2 ∧ yX2_steady.cls ≠ "java/lang/invoke/MethodHandle" ∧ yX2_steady.cls ≠ "java/lang/invoke/VarHandle" ∧ (parseMethodDescriptor yX2_steady.desc).map (fun d => d.parameters.length) = some 0 := by decide +kernel
theorem dm_X2_forget : yX2_forget.cls = RX2 ∧ yX2_forget.cls ≠ "java/lang/invoke/MethodHandle" ∧ yX2_forget.cls ≠ "java/lang/invoke/VarHandle" ∧ (parseMethodDescriptor yX2_forget.desc).map (fun d => d.parameters.length) = some 0 := by decide +kernel
theorem dm_X9_steady : yX9_steady.cls = RX9 ∧ yX9_steady.cls ≠ "java/lang/invoke/MethodHandle" ∧ yX9_steady.cls ≠ "java/lang/invoke/VarHandle" ∧ (parseMethodDescriptor yX9_steady.desc).map (fun d => d.parameters.length) = some 0 := by decide +kernel
theorem dm_X9_find : yX9_find.cls = RX9 ∧ yX9_find.cls ≠ "java/lang/invoke/MethodHandle" ∧ yX9_find.cls ≠ "java/lang/invoke/VarHandle" ∧ (parseMethodDescriptor yX9_find.desc).map (fun d => d.parameters.length) = some 1 := by decide +kernel
theorem dm_X1_sharedTicks : yX1_sharedTicks.cls = RX1 ∧ yX1_sharedTicks.cls ≠ "java/lang/invoke/MethodHandle" ∧ yX1_sharedTicks.cls ≠ "java/lang/invoke/VarHandle" ∧ (parseMethodDescriptor yX1_sharedTicks.desc).map (fun d => d.parameters.length) = some 0 := by decide +kernel
theorem dm_X1_allTicks : yX1_allTicks.cls = RX1 ∧ yX1_allTicks.cls ≠ "java/lang/invoke/MethodHandle" ∧ yX1_allTicks.cls ≠ "java/lang/invoke/VarHandle" ∧ (parseMethodDescriptor yX1_allTicks.desc).map (fun d => d.parameters.length) = some 0 := by decide +kernel
theorem dm_X1_howOften : yX1_howOften.cls = RX1 ∧ yX1_howOften.cls ≠ "java/lang/invoke/MethodHandle" ∧ yX1_howOften.cls ≠ "java/lang/invoke/VarHandle" ∧ (parseMethodDescriptor yX1_howOften.desc).map (fun d => d.parameters.length) = some 0 := by decide +kernel
theorem dm_X1_firstSteady : yX1_firstSteady.cls = RX1 ∧ yX1_firstSteady.cls ≠ "java/lang/invoke/MethodHandle" ∧ yX1_firstSteady.cls ≠ "java/lang/invoke/VarHandle" ∧ (parseMethodDescriptor yX1_firstSteady.desc).map (fun d => d.parameters.length) = some 1 := by decide +kernel
set_option maxHeartbeats 4000000 in
set_option maxRecDepth 100000 in
theorem n_add (l : Launch) (D : va_G) (dA : Nat → ClassId) (b : Nat) (M : zM) (v : Int) (r_v : R32 v) (g0 : M 1 1 = 0) : Met l yX7_add (.code yX7_add cX7_add 3 (some .int) :: zt) (z_rm 0) (va_Pc [.ref (b + 1), .int (iI v)] (zP D dA vwCl (z_tys dA) wC nC b M)) (va_Qi (zQi wC (zms wC [65, 191]) M (fun z M1 => z = 4 ∧ True)) (zB D dA vwCl wC nC b) (zA nC b)) 0 0 (zA nC b) := by
  refine Met.ofW (cc := cX7_add) (maxL := 3) (ret := (some .int)) (by decide) rfl ?_
  intro p e s m args below meth c s₁ B hml hv
  obtain ⟨hargs, hR0, hJ, hK⟩ := hv
  have hx := B.exec
  have hb := B.bytes
  have hr := B.returns
  have hts := atoms_spec (ws := .code yX7_add cX7_add 3 (some .int) :: zt) B.pre
  have hown : s.vm.findClass RX7 = some m.cls := findClass_of_methodNamed B.named
  have hlocks := B.notSynchronized
  have hS : zS D dA vwCl wC nC b (zms wC [65, 191]) M M s.heap := ⟨hR0, hJ, zF_rf _ _⟩
  have hS0 : va_S (zA nC b) s.heap s.heap [] := va_S.rf
  have hl := lv_entry ([.ref (b + 1), .int (iI v)]) (n := 3) (Nat.le_of_ble_eq_true rfl)
  have hent : entryFrame m args 3 = F0 m 0 ((lg_sl ([.ref (b + 1), .int (iI v)]) ++ List.replicate (3 - (lg_sl ([.ref (b + 1), .int (iI v)])).length) Slot.unset).toArray) [] := by rw [hargs]; exact lg_entry_eq m ([.ref (b + 1), .int (iI v)]) 3
  rw [hent]
  generalize (lg_sl ([.ref (b + 1), .int (iI v)]) ++ List.replicate (3 - (lg_sl ([.ref (b + 1), .int (iI v)])).length) Slot.unset).toArray = ls at hl ⊢
  have hl : lv_has ls 3 [(0, .ref (b + 1)), (1, .int (iI v))] := hl
  refine lv_aload_n hx hb dX7_add_0 rfl (lv_at hl 0 rfl) ?_
  refine z_geti hx hb hts (z_memU u7) hown hK.1 hS f7_1 (by decide) (zkd_of (rfl : zcd wC 1 = 1) rfl) (Or.inl (hts _ (z_mem k55))) dX7_add_1 ?_
  refine z_top (show M 1 1 = 0 from by rw [g0]) ?_
  refine z_iconst hx hb dX7_add_4 ?_
  refine z_iadd hx hb dX7_add_5 ?_
  refine z_top (show ((0 + 4) : Int) = 4 from by decide) ?_
  refine lv_aload_n hx hb dX7_add_6 rfl (lv_at hl 0 rfl) ?_
  refine z_getr (j2 := 2) hx hb hts (z_memU u7) hown hK.1 hS f7_0 (by decide) (zkd_of (rfl : zcd wC 1 = 1) rfl) (zrf_of (rfl : zcd wC 1 = 1) rfl) (Or.inl (hts _ (z_mem k54))) dX7_add_7 ?_
  refine z_alen (n := 100) hx hb hK.1 (t0 := 0) rfl hS (by decide) (zkd_of (rfl : zcd wC 2 = 2) rfl) (zln_of (rfl : zcd wC 2 = 2) rfl) dX7_add_10 ?_
  refine z_top (show (((100 : Nat) : Int)) = 100 from by decide) ?_
  refine z_icmp_le (tgt := 16) hx hb (by decide) (by decide) dX7_add_11 (by decide) (fun c1 => ?_) (fun c1 => absurd c1 (by decide))
  refine z_bipush hx hb (by decide) dX7_add_16 ?_
  refine lv_istore_n (lv' := [(2, .int (iI 24)), (0, .ref (b + 1)), (1, .int (iI v))]) hx hb dX7_add_18 rfl hl (by decide) rfl (fun ls hl => ?_)
  refine lv_iload_n hx hb dX7_add_19 rfl (lv_at hl 0 rfl) ?_
  refine z_if_lt (tgt := 55) hx hb (by decide) dX7_add_20 (by decide) (fun c2 => absurd c2 (by decide)) (fun c2 => ?_)
  refine lv_aload_n hx hb dX7_add_23 rfl (lv_at hl 1 rfl) ?_
  refine z_getr (j2 := 2) hx hb hts (z_memU u7) hown hK.1 hS f7_0 (by decide) (zkd_of (rfl : zcd wC 1 = 1) rfl) (zrf_of (rfl : zcd wC 1 = 1) rfl) (Or.inl (hts _ (z_mem k54))) dX7_add_24 ?_
  refine lv_aload_n hx hb dX7_add_27 rfl (lv_at hl 1 rfl) ?_
  refine z_geti hx hb hts (z_memU u7) hown hK.1 hS f7_1 (by decide) (zkd_of (rfl : zcd wC 1 = 1) rfl) (Or.inl (hts _ (z_mem k55))) dX7_add_28 ?_
  refine z_top (show M 1 1 = 0 from by rw [g0]) ?_
  refine lv_iload_n hx hb dX7_add_31 rfl (lv_at hl 2 rfl) ?_
  refine lv_iload_n hx hb dX7_add_32 rfl (lv_at hl 0 rfl) ?_
  refine z_iushr hx hb dX7_add_33 (fun z3 r4 e5 => ?_)
  refine z_sipush hx hb (by decide) dX7_add_34 ?_
  refine z_iand hx hb dX7_add_37 (fun z6 r7 e8 => ?_)
  have q9 : (0 : Int) ≤ z6 ∧ z6 ≤ 255 := zand_r (by decide) (by decide) r7 e8
  refine z_iast (n := 100) hx hb hK.1 (t0 := 0) rfl hS hS0 (by decide) (zkd_of (rfl : zcd wC 2 = 2) rfl) (zln_of (rfl : zcd wC 2 = 2) rfl) (by decide) (by decide) (by decide) (zbd_in (rfl : zcd wC 2 = 2) rfl ⟨by omega, by omega⟩) (zms_of (rfl : zcd wC 2 = 2) rfl) dX7_add_38 (fun H locs hS hS0 => ?_)
  obtain ⟨M10, e11⟩ : ∃ M10 : zM, M10 = zup M 2 ((0 : Int).toNat) z6 := ⟨_, rfl⟩
  rw [← e11] at hS
  have J12 := hS.2.1
  refine lv_aload_n hx hb dX7_add_39 rfl (lv_at hl 1 rfl) ?_
  refine lv_dup hx hb dX7_add_40 rfl ?_
  refine z_geti hx hb hts (z_memU u7) hown hK.1 hS f7_1 (by decide) (zkd_of (rfl : zcd wC 1 = 1) rfl) (Or.inl (hts _ (z_mem k55))) dX7_add_41 ?_
  refine z_top (show M10 1 1 = 0 from by rw [e11, zup_n _ _ (by omega), g0]) ?_
  refine z_iconst hx hb dX7_add_44 ?_
  refine z_iadd hx hb dX7_add_45 ?_
  refine z_top (show ((0 + 1) : Int) = 1 from by decide) ?_
  refine z_puti hx hb hts (z_memU u7) tyX7 tyX7_ok nmX7 hown hK.1 hS hS0 f7_1 (by decide) (zkd_of (rfl : zcd wC 1 = 1) rfl) (Or.inl (hts _ (z_mem k55))) rfl (z := 1) (by decide +kernel) (zbd_in (rfl : zcd wC 1 = 1) rfl (by decide)) (zms_of (rfl : zcd wC 1 = 1) rfl) dX7_add_46 (fun H locs hS hS0 => ?_)
  obtain ⟨M13, e14⟩ : ∃ M13 : zM, M13 = zup M10 1 1 1 := ⟨_, rfl⟩
  rw [← e14] at hS
  have J15 := hS.2.1
  refine z_iinc (lv' := [(2, .int (iI (24 + (-8)))), (0, .ref (b + 1)), (1, .int (iI v))]) hx hb dX7_add_49 hl (k := 0) rfl (by decide) rfl (fun ls hl => ?_)
  rw [show ((24 + (-8)) : Int) = 16 from by decide] at hl
  refine lv_goto (tgt := 19) hx hb dX7_add_52 (by decide) ?_
  refine lv_iload_n hx hb dX7_add_19 rfl (lv_at hl 0 rfl) ?_
  refine z_if_lt (tgt := 55) hx hb (by decide) dX7_add_20 (by decide) (fun c16 => absurd c16 (by decide)) (fun c16 => ?_)
  refine lv_aload_n hx hb dX7_add_23 rfl (lv_at hl 1 rfl) ?_
  refine z_getr (j2 := 2) hx hb hts (z_memU u7) hown hK.1 hS f7_0 (by decide) (zkd_of (rfl : zcd wC 1 = 1) rfl) (zrf_of (rfl : zcd wC 1 = 1) rfl) (Or.inl (hts _ (z_mem k54))) dX7_add_24 ?_
  refine lv_aload_n hx hb dX7_add_27 rfl (lv_at hl 1 rfl) ?_
  refine z_geti hx hb hts (z_memU u7) hown hK.1 hS f7_1 (by decide) (zkd_of (rfl : zcd wC 1 = 1) rfl) (Or.inl (hts _ (z_mem k55))) dX7_add_28 ?_
  refine z_top (show M13 1 1 = 1 from by rw [e14, zup_s]) ?_
  refine lv_iload_n hx hb dX7_add_31 rfl (lv_at hl 2 rfl) ?_
  refine lv_iload_n hx hb dX7_add_32 rfl (lv_at hl 0 rfl) ?_
  refine z_iushr hx hb dX7_add_33 (fun z17 r18 e19 => ?_)
  refine z_sipush hx hb (by decide) dX7_add_34 ?_
  refine z_iand hx hb dX7_add_37 (fun z20 r21 e22 => ?_)
  have q23 : (0 : Int) ≤ z20 ∧ z20 ≤ 255 := zand_r (by decide) (by decide) r21 e22
  refine z_iast (n := 100) hx hb hK.1 (t0 := 0) rfl hS hS0 (by decide) (zkd_of (rfl : zcd wC 2 = 2) rfl) (zln_of (rfl : zcd wC 2 = 2) rfl) (by decide) (by decide) (by decide) (zbd_in (rfl : zcd wC 2 = 2) rfl ⟨by omega, by omega⟩) (zms_of (rfl : zcd wC 2 = 2) rfl) dX7_add_38 (fun H locs hS hS0 => ?_)
  obtain ⟨M24, e25⟩ : ∃ M24 : zM, M24 = zup M13 2 ((1 : Int).toNat) z20 := ⟨_, rfl⟩
  rw [← e25] at hS
  have J26 := hS.2.1
  refine lv_aload_n hx hb dX7_add_39 rfl (lv_at hl 1 rfl) ?_
  refine lv_dup hx hb dX7_add_40 rfl ?_
  refine z_geti hx hb hts (z_memU u7) hown hK.1 hS f7_1 (by decide) (zkd_of (rfl : zcd wC 1 = 1) rfl) (Or.inl (hts _ (z_mem k55))) dX7_add_41 ?_
  refine z_top (show M24 1 1 = 1 from by rw [e25, zup_n _ _ (by omega), e14, zup_s]) ?_
  refine z_iconst hx hb dX7_add_44 ?_
  refine z_iadd hx hb dX7_add_45 ?_
  refine z_top (show ((1 + 1) : Int) = 2 from by decide) ?_
  refine z_puti hx hb hts (z_memU u7) tyX7 tyX7_ok nmX7 hown hK.1 hS hS0 f7_1 (by decide) (zkd_of (rfl : zcd wC 1 = 1) rfl) (Or.inl (hts _ (z_mem k55))) rfl (z := 2) (by decide +kernel) (zbd_in (rfl : zcd wC 1 = 1) rfl (by decide)) (zms_of (rfl : zcd wC 1 = 1) rfl) dX7_add_46 (fun H locs hS hS0 => ?_)
  obtain ⟨M27, e28⟩ : ∃ M27 : zM, M27 = zup M24 1 1 2 := ⟨_, rfl⟩
  rw [← e28] at hS
  have J29 := hS.2.1
  refine z_iinc (lv' := [(2, .int (iI (16 + (-8)))), (0, .ref (b + 1)), (1, .int (iI v))]) hx hb dX7_add_49 hl (k := 0) rfl (by decide) rfl (fun ls hl => ?_)
  rw [show ((16 + (-8)) : Int) = 8 from by decide] at hl
  refine lv_goto (tgt := 19) hx hb dX7_add_52 (by decide) ?_
  refine lv_iload_n hx hb dX7_add_19 rfl (lv_at hl 0 rfl) ?_
  refine z_if_lt (tgt := 55) hx hb (by decide) dX7_add_20 (by decide) (fun c30 => absurd c30 (by decide)) (fun c30 => ?_)
  refine lv_aload_n hx hb dX7_add_23 rfl (lv_at hl 1 rfl) ?_
  refine z_getr (j2 := 2) hx hb hts (z_memU u7) hown hK.1 hS f7_0 (by decide) (zkd_of (rfl : zcd wC 1 = 1) rfl) (zrf_of (rfl : zcd wC 1 = 1) rfl) (Or.inl (hts _ (z_mem k54))) dX7_add_24 ?_
  refine lv_aload_n hx hb dX7_add_27 rfl (lv_at hl 1 rfl) ?_
  refine z_geti hx hb hts (z_memU u7) hown hK.1 hS f7_1 (by decide) (zkd_of (rfl : zcd wC 1 = 1) rfl) (Or.inl (hts _ (z_mem k55))) dX7_add_28 ?_
  refine z_top (show M27 1 1 = 2 from by rw [e28, zup_s]) ?_
  refine lv_iload_n hx hb dX7_add_31 rfl (lv_at hl 2 rfl) ?_
  refine lv_iload_n hx hb dX7_add_32 rfl (lv_at hl 0 rfl) ?_
  refine z_iushr hx hb dX7_add_33 (fun z31 r32 e33 => ?_)
  refine z_sipush hx hb (by decide) dX7_add_34 ?_
  refine z_iand hx hb dX7_add_37 (fun z34 r35 e36 => ?_)
  have q37 : (0 : Int) ≤ z34 ∧ z34 ≤ 255 := zand_r (by decide) (by decide) r35 e36
  refine z_iast (n := 100) hx hb hK.1 (t0 := 0) rfl hS hS0 (by decide) (zkd_of (rfl : zcd wC 2 = 2) rfl) (zln_of (rfl : zcd wC 2 = 2) rfl) (by decide) (by decide) (by decide) (zbd_in (rfl : zcd wC 2 = 2) rfl ⟨by omega, by omega⟩) (zms_of (rfl : zcd wC 2 = 2) rfl) dX7_add_38 (fun H locs hS hS0 => ?_)
  obtain ⟨M38, e39⟩ : ∃ M38 : zM, M38 = zup M27 2 ((2 : Int).toNat) z34 := ⟨_, rfl⟩
  rw [← e39] at hS
  have J40 := hS.2.1
  refine lv_aload_n hx hb dX7_add_39 rfl (lv_at hl 1 rfl) ?_
  refine lv_dup hx hb dX7_add_40 rfl ?_
  refine z_geti hx hb hts (z_memU u7) hown hK.1 hS f7_1 (by decide) (zkd_of (rfl : zcd wC 1 = 1) rfl) (Or.inl (hts _ (z_mem k55))) dX7_add_41 ?_
  refine z_top (show M38 1 1 = 2 from by rw [e39, zup_n _ _ (by omega), e28, zup_s]) ?_
  refine z_iconst hx hb dX7_add_44 ?_
  refine z_iadd hx hb dX7_add_45 ?_
  refine z_top (show ((2 + 1) : Int) = 3 from by decide) ?_
  refine z_puti hx hb hts (z_memU u7) tyX7 tyX7_ok nmX7 hown hK.1 hS hS0 f7_1 (by decide) (zkd_of (rfl : zcd wC 1 = 1) rfl) (Or.inl (hts _ (z_mem k55))) rfl (z := 3) (by decide +kernel) (zbd_in (rfl : zcd wC 1 = 1) rfl (by decide)) (zms_of (rfl : zcd wC 1 = 1) rfl) dX7_add_46 (fun H locs hS hS0 => ?_)
  obtain ⟨M41, e42⟩ : ∃ M41 : zM, M41 = zup M38 1 1 3 := ⟨_, rfl⟩
  rw [← e42] at hS
  have J43 := hS.2.1
  refine z_iinc (lv' := [(2, .int (iI (8 + (-8)))), (0, .ref (b + 1)), (1, .int (iI v))]) hx hb dX7_add_49 hl (k := 0) rfl (by decide) rfl (fun ls hl => ?_)
  rw [show ((8 + (-8)) : Int) = 0 from by decide] at hl
  refine lv_goto (tgt := 19) hx hb dX7_add_52 (by decide) ?_
  refine lv_iload_n hx hb dX7_add_19 rfl (lv_at hl 0 rfl) ?_
  refine z_if_lt (tgt := 55) hx hb (by decide) dX7_add_20 (by decide) (fun c44 => absurd c44 (by decide)) (fun c44 => ?_)
  refine lv_aload_n hx hb dX7_add_23 rfl (lv_at hl 1 rfl) ?_
  refine z_getr (j2 := 2) hx hb hts (z_memU u7) hown hK.1 hS f7_0 (by decide) (zkd_of (rfl : zcd wC 1 = 1) rfl) (zrf_of (rfl : zcd wC 1 = 1) rfl) (Or.inl (hts _ (z_mem k54))) dX7_add_24 ?_
  refine lv_aload_n hx hb dX7_add_27 rfl (lv_at hl 1 rfl) ?_
  refine z_geti hx hb hts (z_memU u7) hown hK.1 hS f7_1 (by decide) (zkd_of (rfl : zcd wC 1 = 1) rfl) (Or.inl (hts _ (z_mem k55))) dX7_add_28 ?_
  refine z_top (show M41 1 1 = 3 from by rw [e42, zup_s]) ?_
  refine lv_iload_n hx hb dX7_add_31 rfl (lv_at hl 2 rfl) ?_
  refine lv_iload_n hx hb dX7_add_32 rfl (lv_at hl 0 rfl) ?_
  refine z_iushr hx hb dX7_add_33 (fun z45 r46 e47 => ?_)
  refine z_sipush hx hb (by decide) dX7_add_34 ?_
  refine z_iand hx hb dX7_add_37 (fun z48 r49 e50 => ?_)
  have q51 : (0 : Int) ≤ z48 ∧ z48 ≤ 255 := zand_r (by decide) (by decide) r49 e50
  refine z_iast (n := 100) hx hb hK.1 (t0 := 0) rfl hS hS0 (by decide) (zkd_of (rfl : zcd wC 2 = 2) rfl) (zln_of (rfl : zcd wC 2 = 2) rfl) (by decide) (by decide) (by decide) (zbd_in (rfl : zcd wC 2 = 2) rfl ⟨by omega, by omega⟩) (zms_of (rfl : zcd wC 2 = 2) rfl) dX7_add_38 (fun H locs hS hS0 => ?_)
  obtain ⟨M52, e53⟩ : ∃ M52 : zM, M52 = zup M41 2 ((3 : Int).toNat) z48 := ⟨_, rfl⟩
  rw [← e53] at hS
  have J54 := hS.2.1
  refine lv_aload_n hx hb dX7_add_39 rfl (lv_at hl 1 rfl) ?_
  refine lv_dup hx hb dX7_add_40 rfl ?_
  refine z_geti hx hb hts (z_memU u7) hown hK.1 hS f7_1 (by decide) (zkd_of (rfl : zcd wC 1 = 1) rfl) (Or.inl (hts _ (z_mem k55))) dX7_add_41 ?_
  refine z_top (show M52 1 1 = 3 from by rw [e53, zup_n _ _ (by omega), e42, zup_s]) ?_
  refine z_iconst hx hb dX7_add_44 ?_
  refine z_iadd hx hb dX7_add_45 ?_
  refine z_top (show ((3 + 1) : Int) = 4 from by decide) ?_
  refine z_puti hx hb hts (z_memU u7) tyX7 tyX7_ok nmX7 hown hK.1 hS hS0 f7_1 (by decide) (zkd_of (rfl : zcd wC 1 = 1) rfl) (Or.inl (hts _ (z_mem k55))) rfl (z := 4) (by decide +kernel) (zbd_in (rfl : zcd wC 1 = 1) rfl (by decide)) (zms_of (rfl : zcd wC 1 = 1) rfl) dX7_add_46 (fun H locs hS hS0 => ?_)
  obtain ⟨M55, e56⟩ : ∃ M55 : zM, M55 = zup M52 1 1 4 := ⟨_, rfl⟩
  rw [← e56] at hS
  have J57 := hS.2.1
  refine z_iinc (lv' := [(2, .int (iI (0 + (-8)))), (0, .ref (b + 1)), (1, .int (iI v))]) hx hb dX7_add_49 hl (k := 0) rfl (by decide) rfl (fun ls hl => ?_)
  rw [show ((0 + (-8)) : Int) = (-8) from by decide] at hl
  refine lv_goto (tgt := 19) hx hb dX7_add_52 (by decide) ?_
  refine lv_iload_n hx hb dX7_add_19 rfl (lv_at hl 0 rfl) ?_
  refine z_if_lt (tgt := 55) hx hb (by decide) dX7_add_20 (by decide) (fun c58 => ?_) (fun c58 => absurd c58 (by decide))
  refine lv_aload_n hx hb dX7_add_55 rfl (lv_at hl 1 rfl) ?_
  refine z_geti hx hb hts (z_memU u7) hown hK.1 hS f7_1 (by decide) (zkd_of (rfl : zcd wC 1 = 1) rfl) (Or.inl (hts _ (z_mem k55))) dX7_add_56 ?_
  refine z_top (show M55 1 1 = 4 from by rw [e56, zup_s]) ?_
  exact z_iret hx hb hr hlocks hS hS0 (by decide) (by first | exact trivial | exact ⟨rfl, trivial⟩ | omega | (refine ⟨by omega, trivial⟩)) dX7_add_59

set_option maxHeartbeats 4000000 in
set_option maxRecDepth 100000 in
theorem n_keepFirst (l : Launch) (D : va_G) (dA : Nat → ClassId) (b : Nat) (M : zM) (n : Int) (r_n : R32 n) (g0 : M 1 1 = 0) : Met l yX7_keepFirst (.code yX7_keepFirst cX7_keepFirst 2 (some .boolean) :: zt) (z_rm 0) (va_Pc [.ref (b + 1), .int (iI n)] (zP D dA vwCl (z_tys dA) wC nC b M)) (va_Qi (zQi wC (zms wC [65]) M (fun z M1 => (z = 1 ∧ n = 0) ∨ (z = 0 ∧ n ≠ 0))) (zB D dA vwCl wC nC b) (zA nC b)) 0 0 (zA nC b) := by
  refine Met.ofW (cc := cX7_keepFirst) (maxL := 2) (ret := (some .boolean)) (by decide) rfl ?_
  intro p e s m args below meth c s₁ B hml hv
  obtain ⟨hargs, hR0, hJ, hK⟩ := hv
  have hx := B.exec
  have hb := B.bytes
  have hr := B.returns
  have hts := atoms_spec (ws := .code yX7_keepFirst cX7_keepFirst 2 (some .boolean) :: zt) B.pre
  have hown : s.vm.findClass RX7 = some m.cls := findClass_of_methodNamed B.named
  have hlocks := B.notSynchronized
  have hS : zS D dA vwCl wC nC b (zms wC [65]) M M s.heap := ⟨hR0, hJ, zF_rf _ _⟩
  have hS0 : va_S (zA nC b) s.heap s.heap [] := va_S.rf
  have hl := lv_entry ([.ref (b + 1), .int (iI n)]) (n := 2) (Nat.le_of_ble_eq_true rfl)
  have hent : entryFrame m args 2 = F0 m 0 ((lg_sl ([.ref (b + 1), .int (iI n)]) ++ List.replicate (2 - (lg_sl ([.ref (b + 1), .int (iI n)])).length) Slot.unset).toArray) [] := by rw [hargs]; exact lg_entry_eq m ([.ref (b + 1), .int (iI n)]) 2
  rw [hent]
  generalize (lg_sl ([.ref (b + 1), .int (iI n)]) ++ List.replicate (2 - (lg_sl ([.ref (b + 1), .int (iI n)])).length) Slot.unset).toArray = ls at hl ⊢
  have hl : lv_has ls 2 [(0, .ref (b + 1)), (1, .int (iI n))] := hl
  refine lv_iload_n hx hb dX7_keepFirst_0 rfl (lv_at hl 1 rfl) ?_
  refine z_if_lt (tgt := 12) hx hb r_n dX7_keepFirst_1 (by decide) (fun c1 => ?_) (fun c1 => ?_)
  · skip
    refine z_iconst hx hb dX7_keepFirst_12 ?_
    exact z_zret hx hb hr hlocks hS hS0 (by first | decide | omega) (by first | exact trivial | exact ⟨rfl, trivial⟩ | omega | (refine ⟨by omega, trivial⟩)) dX7_keepFirst_13
  · skip
    refine lv_iload_n hx hb dX7_keepFirst_4 rfl (lv_at hl 1 rfl) ?_
    refine lv_aload_n hx hb dX7_keepFirst_5 rfl (lv_at hl 0 rfl) ?_
    refine z_geti hx hb hts (z_memU u7) hown hK.1 hS f7_1 (by decide) (zkd_of (rfl : zcd wC 1 = 1) rfl) (Or.inl (hts _ (z_mem k55))) dX7_keepFirst_6 ?_
    refine z_top (show M 1 1 = 0 from by rw [g0]) ?_
    refine z_icmp_le (tgt := 14) hx hb r_n (by decide) dX7_keepFirst_9 (by decide) (fun c2 => ?_) (fun c2 => ?_)
    · skip
      refine lv_aload_n hx hb dX7_keepFirst_14 rfl (lv_at hl 0 rfl) ?_
      refine lv_iload_n hx hb dX7_keepFirst_15 rfl (lv_at hl 1 rfl) ?_
      refine z_puti hx hb hts (z_memU u7) tyX7 tyX7_ok nmX7 hown hK.1 hS hS0 f7_1 (by decide) (zkd_of (rfl : zcd wC 1 = 1) rfl) (Or.inl (hts _ (z_mem k55))) rfl (z := n) (by decide +kernel) (zbd_in (rfl : zcd wC 1 = 1) rfl ⟨by omega, by omega⟩) (zms_of (rfl : zcd wC 1 = 1) rfl) dX7_keepFirst_16 (fun H locs hS hS0 => ?_)
      obtain ⟨M3, e4⟩ : ∃ M3 : zM, M3 = zup M 1 1 n := ⟨_, rfl⟩
      rw [← e4] at hS
      have J5 := hS.2.1
      refine z_iconst hx hb dX7_keepFirst_19 ?_
      exact z_zret hx hb hr hlocks hS hS0 (by first | decide | omega) (by first | exact trivial | exact ⟨rfl, trivial⟩ | omega | (refine ⟨by omega, trivial⟩)) dX7_keepFirst_20
    · skip
      refine z_iconst hx hb dX7_keepFirst_12 ?_
      exact z_zret hx hb hr hlocks hS hS0 (by first | decide | omega) (by first | exact trivial | exact ⟨rfl, trivial⟩ | omega | (refine ⟨by omega, trivial⟩)) dX7_keepFirst_13

set_option maxHeartbeats 4000000 in
set_option maxRecDepth 100000 in
theorem n_firstWrong (l : Launch) (D : va_G) (dA : Nat → ClassId) (b : Nat) (M : zM) (g0 : M 1 1 = 0) : Met l yX7_firstWrong (.code yX7_firstWrong cX7_firstWrong 3 (some .int) :: zt) (z_rm 0) (va_Pc [.ref (b + 1)] (zP D dA vwCl (z_tys dA) wC nC b M)) (va_Qi (zQi wC (zms wC [66]) M (fun z M1 => z = 0 ∧ True)) (zB D dA vwCl wC nC b) (zA nC b)) 0 0 (zA nC b) := by
  refine Met.ofW (cc := cX7_firstWrong) (maxL := 3) (ret := (some .int)) (by decide) rfl ?_
  intro p e s m args below meth c s₁ B hml hv
  obtain ⟨hargs, hR0, hJ, hK⟩ := hv
  have hx := B.exec
  have hb := B.bytes
  have hr := B.returns
  have hts := atoms_spec (ws := .code yX7_firstWrong cX7_firstWrong 3 (some .int) :: zt) B.pre
  have hown : s.vm.findClass RX7 = some m.cls := findClass_of_methodNamed B.named
  have hlocks := B.notSynchronized
  have hS : zS D dA vwCl wC nC b (zms wC [66]) M M s.heap := ⟨hR0, hJ, zF_rf _ _⟩
  have hS0 : va_S (zA nC b) s.heap s.heap [] := va_S.rf
  have hl := lv_entry ([.ref (b + 1)]) (n := 3) (Nat.le_of_ble_eq_true rfl)
  have hent : entryFrame m args 3 = F0 m 0 ((lg_sl ([.ref (b + 1)]) ++ List.replicate (3 - (lg_sl ([.ref (b + 1)])).length) Slot.unset).toArray) [] := by rw [hargs]; exact lg_entry_eq m ([.ref (b + 1)]) 3
  rw [hent]
  generalize (lg_sl ([.ref (b + 1)]) ++ List.replicate (3 - (lg_sl ([.ref (b + 1)])).length) Slot.unset).toArray = ls at hl ⊢
  have hl : lv_has ls 3 [(0, .ref (b + 1))] := hl
  refine z_iconst hx hb dX7_firstWrong_0 ?_
  refine lv_istore_n (lv' := [(1, .int (iI 0)), (0, .ref (b + 1))]) hx hb dX7_firstWrong_1 rfl hl (by decide) rfl (fun ls hl => ?_)
  refine lv_aload_n hx hb dX7_firstWrong_2 rfl (lv_at hl 1 rfl) ?_
  refine z_iconst hx hb dX7_firstWrong_3 ?_
  refine z_puti hx hb hts (z_memU u7) tyX7 tyX7_ok nmX7 hown hK.1 hS hS0 f7_2 (by decide) (zkd_of (rfl : zcd wC 1 = 1) rfl) (Or.inl (hts _ (z_mem k57))) rfl (z := 0) (by decide +kernel) (zbd_in (rfl : zcd wC 1 = 1) rfl (by decide)) (zms_of (rfl : zcd wC 1 = 1) rfl) dX7_firstWrong_4 (fun H locs hS hS0 => ?_)
  obtain ⟨M1, e2⟩ : ∃ M1 : zM, M1 = zup M 1 2 0 := ⟨_, rfl⟩
  rw [← e2] at hS
  have J3 := hS.2.1
  refine z_iconst hx hb dX7_firstWrong_7 ?_
  refine lv_istore_n (lv' := [(2, .int (iI 0)), (1, .int (iI 0)), (0, .ref (b + 1))]) hx hb dX7_firstWrong_8 rfl hl (by decide) rfl (fun ls hl => ?_)
  refine lv_iload_n hx hb dX7_firstWrong_9 rfl (lv_at hl 0 rfl) ?_
  refine lv_aload_n hx hb dX7_firstWrong_10 rfl (lv_at hl 2 rfl) ?_
  refine z_geti hx hb hts (z_memU u7) hown hK.1 hS f7_1 (by decide) (zkd_of (rfl : zcd wC 1 = 1) rfl) (Or.inl (hts _ (z_mem k55))) dX7_firstWrong_11 ?_
  refine z_top (show M1 1 1 = 0 from by rw [e2, zup_n _ _ (by omega), g0]) ?_
  refine z_icmp_ge (tgt := 48) hx hb (by decide) (by decide) dX7_firstWrong_14 (by decide) (fun c4 => ?_) (fun c4 => absurd c4 (by decide))
  refine lv_aload_n hx hb dX7_firstWrong_48 rfl (lv_at hl 2 rfl) ?_
  refine z_geti hx hb hts (z_memU u7) hown hK.1 hS f7_1 (by decide) (zkd_of (rfl : zcd wC 1 = 1) rfl) (Or.inl (hts _ (z_mem k55))) dX7_firstWrong_49 ?_
  refine z_top (show M1 1 1 = 0 from by rw [e2, zup_n _ _ (by omega), g0]) ?_
  refine z_bipush hx hb (by decide) dX7_firstWrong_52 ?_
  refine z_icmp_le (tgt := 60) hx hb (by decide) (by decide) dX7_firstWrong_54 (by decide) (fun c5 => ?_) (fun c5 => absurd c5 (by decide))
  refine lv_iload_n hx hb dX7_firstWrong_60 rfl (lv_at hl 1 rfl) ?_
  refine z_iconst hx hb dX7_firstWrong_61 ?_
  refine z_icmp_ne (tgt := 76) hx hb (by decide) (by decide) dX7_firstWrong_62 (by decide) (fun c6 => ?_) (fun c6 => absurd c6 (by decide))
  refine lv_aload_n hx hb dX7_firstWrong_76 rfl (lv_at hl 2 rfl) ?_
  refine z_geti hx hb hts (z_memU u7) hown hK.1 hS f7_1 (by decide) (zkd_of (rfl : zcd wC 1 = 1) rfl) (Or.inl (hts _ (z_mem k55))) dX7_firstWrong_77 ?_
  refine z_top (show M1 1 1 = 0 from by rw [e2, zup_n _ _ (by omega), g0]) ?_
  exact z_iret hx hb hr hlocks hS hS0 (by decide) (by first | exact trivial | exact ⟨rfl, trivial⟩ | omega | (refine ⟨by omega, trivial⟩)) dX7_firstWrong_80

set_option maxHeartbeats 4000000 in
set_option maxRecDepth 100000 in
theorem n_putInto (l : Launch) (D : va_G) (dA : Nat → ClassId) (b : Nat) (M : zM) (g0 : M 1 1 = 0) : Met l yX7_putInto (.code yX7_putInto cX7_putInto 4 (some .int) :: zt) (z_rm 1) (va_Pc [.ref (b + 1), .ref (b + 30)] (zP D dA vwCl (z_tys dA) wC nC b M)) (va_Qi (zQi wC (zms wC [66, 65]) M (fun z M1 => z = -1 ∧ True)) (zB D dA vwCl wC nC b) (zA nC b)) 0 0 (zA nC b) := by
  refine Met.ofW (cc := cX7_putInto) (maxL := 4) (ret := (some .int)) (by decide) rfl ?_
  intro p e s m args below meth c s₁ B hml hv
  obtain ⟨hargs, hR0, hJ, hK⟩ := hv
  have hx := B.exec
  have hb := B.bytes
  have hr := B.returns
  have hts := atoms_spec (ws := .code yX7_putInto cX7_putInto 4 (some .int) :: zt) B.pre
  have hown : s.vm.findClass RX7 = some m.cls := findClass_of_methodNamed B.named
  have hlocks := B.notSynchronized
  have hS : zS D dA vwCl wC nC b (zms wC [66, 65]) M M s.heap := ⟨hR0, hJ, zF_rf _ _⟩
  have hS0 : va_S (zA nC b) s.heap s.heap [] := va_S.rf
  have hl := lv_entry ([.ref (b + 1), .ref (b + 30)]) (n := 4) (Nat.le_of_ble_eq_true rfl)
  have hent : entryFrame m args 4 = F0 m 0 ((lg_sl ([.ref (b + 1), .ref (b + 30)]) ++ List.replicate (4 - (lg_sl ([.ref (b + 1), .ref (b + 30)])).length) Slot.unset).toArray) [] := by rw [hargs]; exact lg_entry_eq m ([.ref (b + 1), .ref (b + 30)]) 4
  rw [hent]
  generalize (lg_sl ([.ref (b + 1), .ref (b + 30)]) ++ List.replicate (4 - (lg_sl ([.ref (b + 1), .ref (b + 30)])).length) Slot.unset).toArray = ls at hl ⊢
  have hl : lv_has ls 4 [(0, .ref (b + 1)), (1, .ref (b + 30))] := hl
  refine lv_aload_n hx hb dX7_putInto_0 rfl (lv_at hl 0 rfl) ?_
  refine z_calli (va_runV (As := []) (rest := []) ⟨hx, hb, hml, hown, hts⟩ (n_firstWrong l D dA b M (by rw [g0])) (cwV 0 hts (z_gV k288 k289 k1354 k2 k290) rfl rfl rfl dm_X7_firstWrong ⟨Nat.le_of_ble_eq_true rfl, Nat.le_of_ble_eq_true rfl⟩) ⟨zP_blind, (z_recv hS hK.1 (by decide) (zkd_of (rfl : zcd wC 1 = 1) rfl) (by decide) (rfl : vwCl[7]? = some (RX7, TX7, 7))), z_pre hS hK⟩ rfl rfl hl.1 rfl (lv_room (Nat.le_of_ble_eq_true rfl)) dX7_putInto_1 ⟨Nat.le_refl _, Nat.le_refl _⟩) hS hS0 (zms_sub rfl) (fun z5 M1 H locs r6 h2 F3 hS hS0 => ?_)
  have J4 := hS.2.1
  have h7 := h2
  obtain ⟨z5e, h7⟩ := h7
  subst z5e
  refine lv_istore_n (lv' := [(2, .int (iI 0)), (0, .ref (b + 1)), (1, .ref (b + 30))]) hx hb dX7_putInto_4 rfl hl (by decide) rfl (fun ls hl => ?_)
  refine lv_iload_n hx hb dX7_putInto_5 rfl (lv_at hl 0 rfl) ?_
  refine z_iconst hx hb dX7_putInto_6 ?_
  refine z_icmp_ne (tgt := 17) hx hb (by decide) (by decide) dX7_putInto_7 (by decide) (fun c8 => ?_) (fun c8 => absurd c8 (by decide))
  refine z_iconst hx hb dX7_putInto_17 ?_
  refine lv_iload_n hx hb dX7_putInto_18 rfl (lv_at hl 0 rfl) ?_
  refine z_isub hx hb dX7_putInto_19 ?_
  refine z_top (show (((-1) - 0) : Int) = (-1) from by decide) ?_
  refine lv_istore_n (lv' := [(3, .int (iI (-1))), (2, .int (iI 0)), (0, .ref (b + 1)), (1, .ref (b + 30))]) hx hb dX7_putInto_20 rfl hl (by decide) rfl (fun ls hl => ?_)
  refine lv_aload_n hx hb dX7_putInto_21 rfl (lv_at hl 2 rfl) ?_
  refine z_iconst hx hb dX7_putInto_22 ?_
  refine z_puti hx hb hts (z_memU u7) tyX7 tyX7_ok nmX7 hown hK.1 hS hS0 f7_1 (by decide) (zkd_of (rfl : zcd wC 1 = 1) rfl) (Or.inl (hts _ (z_mem k55))) rfl (z := 0) (by decide +kernel) (zbd_in (rfl : zcd wC 1 = 1) rfl (by decide)) (zms_of (rfl : zcd wC 1 = 1) rfl) dX7_putInto_23 (fun H locs hS hS0 => ?_)
  obtain ⟨M9, e10⟩ : ∃ M9 : zM, M9 = zup M1 1 1 0 := ⟨_, rfl⟩
  rw [← e10] at hS
  have J11 := hS.2.1
  refine lv_iload_n hx hb dX7_putInto_26 rfl (lv_at hl 0 rfl) ?_
  refine z_if_ne (tgt := 45) hx hb (by decide) dX7_putInto_27 (by decide) (fun c12 => ?_) (fun c12 => absurd c12 (by decide))
  refine lv_iload_n hx hb dX7_putInto_45 rfl (lv_at hl 0 rfl) ?_
  exact z_iret hx hb hr hlocks hS hS0 (by decide) (by first | exact trivial | exact ⟨rfl, trivial⟩ | omega | (refine ⟨by omega, trivial⟩)) dX7_putInto_46

set_option maxHeartbeats 4000000 in
set_option maxRecDepth 100000 in
theorem n_at (l : Launch) (D : va_G) (dA : Nat → ClassId) (b : Nat) (M : zM) (i : Int) (r_i : R32 i) (g0 : M 30 1 = 0) : Met l yX8_at (.code yX8_at cX8_at 2 (some .int) :: zt) (z_rm 1) (va_Pc [.ref (b + 30), .int (iI i)] (zP D dA vwCl (z_tys dA) wC nC b M)) (va_Qi (zQi wC (zms wC []) M (fun z M1 => M1 = M ∧ (z = -1 ∧ True))) (zB D dA vwCl wC nC b) (zA nC b)) 0 0 (zA nC b) := by
  refine Met.ofW (cc := cX8_at) (maxL := 2) (ret := (some .int)) (by decide) rfl ?_
  intro p e s m args below meth c s₁ B hml hv
  obtain ⟨hargs, hR0, hJ, hK⟩ := hv
  have hx := B.exec
  have hb := B.bytes
  have hr := B.returns
  have hts := atoms_spec (ws := .code yX8_at cX8_at 2 (some .int) :: zt) B.pre
  have hown : s.vm.findClass RX8 = some m.cls := findClass_of_methodNamed B.named
  have hlocks := B.notSynchronized
  have hS : zS D dA vwCl wC nC b (zms wC []) M M s.heap := ⟨hR0, hJ, zF_rf _ _⟩
  have hS0 : va_S (zA nC b) s.heap s.heap [] := va_S.rf
  have hl := lv_entry ([.ref (b + 30), .int (iI i)]) (n := 2) (Nat.le_of_ble_eq_true rfl)
  have hent : entryFrame m args 2 = F0 m 0 ((lg_sl ([.ref (b + 30), .int (iI i)]) ++ List.replicate (2 - (lg_sl ([.ref (b + 30), .int (iI i)])).length) Slot.unset).toArray) [] := by rw [hargs]; exact lg_entry_eq m ([.ref (b + 30), .int (iI i)]) 2
  rw [hent]
  generalize (lg_sl ([.ref (b + 30), .int (iI i)]) ++ List.replicate (2 - (lg_sl ([.ref (b + 30), .int (iI i)])).length) Slot.unset).toArray = ls at hl ⊢
  have hl : lv_has ls 2 [(0, .ref (b + 30)), (1, .int (iI i))] := hl
  refine lv_aload_n hx hb dX8_at_0 rfl (lv_at hl 0 rfl) ?_
  refine lv_iload_n hx hb dX8_at_1 rfl (lv_at hl 1 rfl) ?_
  refine z_calli (va_runV (As := [.int (iI i)]) (rest := []) ⟨hx, hb, hml, hown, hts⟩ (n_has l D dA b M i r_i (by rw [g0])) (cwV 1 hts (z_gV k326 k327 k328 k3 k329) rfl rfl rfl dm_X8_has ⟨Nat.le_of_ble_eq_true rfl, Nat.le_of_ble_eq_true rfl⟩) ⟨zP_blind, (z_recv hS hK.1 (by decide) (zkd_of (rfl : zcd wC 30 = 6) rfl) (by decide) (rfl : vwCl[8]? = some (RX8, TX8, 2))), z_pre hS hK⟩ rfl rfl hl.1 rfl (lv_room (Nat.le_of_ble_eq_true rfl)) dX8_at_2 ⟨Nat.le_refl _, Nat.le_refl _⟩) hS hS0 (zms_sub rfl) (fun z5 M1 H locs r6 h2 F3 hS hS0 => ?_)
  obtain ⟨h7, h2⟩ := h2
  rw [h7] at hS
  have h8 := h2
  obtain ⟨z5e, h8⟩ := h8
  subst z5e
  refine z_if_eq (tgt := 17) hx hb (by decide) dX8_at_5 (by decide) (fun c9 => ?_) (fun c9 => absurd c9 (by decide))
  refine z_iconst hx hb dX8_at_17 ?_
  exact z_iret hx hb hr hlocks hS hS0 (by decide) (⟨rfl, by first | exact trivial | exact ⟨rfl, trivial⟩ | omega | (refine ⟨by omega, trivial⟩)⟩) dX8_at_18

set_option maxHeartbeats 4000000 in
set_option maxRecDepth 100000 in
theorem n_find (l : Launch) (D : va_G) (dA : Nat → ClassId) (b : Nat) (M : zM) (i : Int) (r_i : R32 i) (g0 : M 32 2 = 0) : Met l yX9_find (.code yX9_find cX9_find 2 (some (.object "TapeRings$Ring")) :: zt) (z_rm 0) (va_Pc [.ref (b + 32), .int (iI i)] (zP D dA vwCl (z_tys dA) wC nC b M)) (va_Qq (zQq wC (zms wC []) M (fun z M1 => M1 = M ∧ (z = none ∧ True))) (zB D dA vwCl wC nC b) (zA nC b)) 0 0 (zA nC b) := by
  refine Met.ofW (cc := cX9_find) (maxL := 2) (ret := (some (.object "TapeRings$Ring"))) (by decide) rfl ?_
  intro p e s m args below meth c s₁ B hml hv
  obtain ⟨hargs, hR0, hJ, hK⟩ := hv
  have hx := B.exec
  have hb := B.bytes
  have hr := B.returns
  have hts := atoms_spec (ws := .code yX9_find cX9_find 2 (some (.object "TapeRings$Ring")) :: zt) B.pre
  have hown : s.vm.findClass RX9 = some m.cls := findClass_of_methodNamed B.named
  have hlocks := B.notSynchronized
  have hS : zS D dA vwCl wC nC b (zms wC []) M M s.heap := ⟨hR0, hJ, zF_rf _ _⟩
  have hS0 : va_S (zA nC b) s.heap s.heap [] := va_S.rf
  have hl := lv_entry ([.ref (b + 32), .int (iI i)]) (n := 2) (Nat.le_of_ble_eq_true rfl)
  have hent : entryFrame m args 2 = F0 m 0 ((lg_sl ([.ref (b + 32), .int (iI i)]) ++ List.replicate (2 - (lg_sl ([.ref (b + 32), .int (iI i)])).length) Slot.unset).toArray) [] := by rw [hargs]; exact lg_entry_eq m ([.ref (b + 32), .int (iI i)]) 2
  rw [hent]
  generalize (lg_sl ([.ref (b + 32), .int (iI i)]) ++ List.replicate (2 - (lg_sl ([.ref (b + 32), .int (iI i)])).length) Slot.unset).toArray = ls at hl ⊢
  have hl : lv_has ls 2 [(0, .ref (b + 32)), (1, .int (iI i))] := hl
  refine lv_iload_n hx hb dX9_find_0 rfl (lv_at hl 1 rfl) ?_
  refine z_if_lt (tgt := 26) hx hb r_i dX9_find_1 (by decide) (fun c1 => ?_) (fun c1 => ?_)
  · skip
    refine lv_null hx hb dX9_find_26 ?_
    exact z_aret (r := none) hx hb hr (Or.inl ⟨_, rfl⟩) hlocks hS hS0 rfl (⟨rfl, by first | exact trivial | exact ⟨rfl, trivial⟩ | omega | (refine ⟨by omega, trivial⟩)⟩) dX9_find_27
  · skip
    refine lv_iload_n hx hb dX9_find_4 rfl (lv_at hl 1 rfl) ?_
    refine lv_aload_n hx hb dX9_find_5 rfl (lv_at hl 0 rfl) ?_
    refine z_geti hx hb hts (z_memU u9) hown hK.1 hS f9_2 (by decide) (zkd_of (rfl : zcd wC 32 = 8) rfl) (Or.inl (hts _ (z_mem k118))) dX9_find_6 ?_
    refine z_top (show M 32 2 = 0 from by rw [g0]) ?_
    refine z_icmp_ge (tgt := 26) hx hb r_i (by decide) dX9_find_9 (by decide) (fun c2 => ?_) (fun c2 => absurd c2 (by omega))
    refine lv_null hx hb dX9_find_26 ?_
    exact z_aret (r := none) hx hb hr (Or.inl ⟨_, rfl⟩) hlocks hS hS0 rfl (⟨rfl, by first | exact trivial | exact ⟨rfl, trivial⟩ | omega | (refine ⟨by omega, trivial⟩)⟩) dX9_find_27

set_option maxHeartbeats 4000000 in
set_option maxRecDepth 100000 in
theorem n_tell35 (l : Launch) (D : va_G) (dA : Nat → ClassId) (b : Nat) (M : zM) (tick : Int) (speed : Int) (r_tick : R32 tick) (r_speed : R32 speed) (g0 : M 35 2 = 0) (p0 : 0 ≤ tick ∧ tick ≤ 5000) (p1 : -9 ≤ speed ∧ speed ≤ 9) : Met l yX2_tell (.code yX2_tell cX2_tell 5 (some .boolean) :: zt) (z_rm 0) (va_Pc [.ref (b + 35), .int (iI tick), .int (iI speed)] (zP D dA vwCl (z_tys dA) wC nC b M)) (va_Qi (zQi wC (zms wC [706, 831, 895]) M (fun z M1 => z = 1 ∧ True)) (zB D dA vwCl wC nC b) (zA nC b)) 0 0 (zA nC b) := by
  refine Met.ofW (cc := cX2_tell) (maxL := 5) (ret := (some .boolean)) (by decide) rfl ?_
  intro p e s m args below meth c s₁ B hml hv
  obtain ⟨hargs, hR0, hJ, hK⟩ := hv
  have hx := B.exec
  have hb := B.bytes
  have hr := B.returns
  have hts := atoms_spec (ws := .code yX2_tell cX2_tell 5 (some .boolean) :: zt) B.pre
  have hown : s.vm.findClass RX2 = some m.cls := findClass_of_methodNamed B.named
  have hlocks := B.notSynchronized
  have hS : zS D dA vwCl wC nC b (zms wC [706, 831, 895]) M M s.heap := ⟨hR0, hJ, zF_rf _ _⟩
  have hS0 : va_S (zA nC b) s.heap s.heap [] := va_S.rf
  have hl := lv_entry ([.ref (b + 35), .int (iI tick), .int (iI speed)]) (n := 5) (Nat.le_of_ble_eq_true rfl)
  have hent : entryFrame m args 5 = F0 m 0 ((lg_sl ([.ref (b + 35), .int (iI tick), .int (iI speed)]) ++ List.replicate (5 - (lg_sl ([.ref (b + 35), .int (iI tick), .int (iI speed)])).length) Slot.unset).toArray) [] := by rw [hargs]; exact lg_entry_eq m ([.ref (b + 35), .int (iI tick), .int (iI speed)]) 5
  rw [hent]
  generalize (lg_sl ([.ref (b + 35), .int (iI tick), .int (iI speed)]) ++ List.replicate (5 - (lg_sl ([.ref (b + 35), .int (iI tick), .int (iI speed)])).length) Slot.unset).toArray = ls at hl ⊢
  have hl : lv_has ls 5 [(0, .ref (b + 35)), (1, .int (iI tick)), (2, .int (iI speed))] := hl
  refine z_iconst hx hb dX2_tell_0 ?_
  refine lv_istore_n (lv' := [(3, .int (iI 0)), (0, .ref (b + 35)), (1, .int (iI tick)), (2, .int (iI speed))]) hx hb dX2_tell_1 rfl hl (by decide) rfl (fun ls hl => ?_)
  refine lv_iload_n hx hb dX2_tell_2 rfl (lv_at hl 0 rfl) ?_
  refine lv_aload_n hx hb dX2_tell_3 rfl (lv_at hl 1 rfl) ?_
  refine z_geti hx hb hts (z_memU u2) hown hK.1 hS f2_2 (by decide) (zkd_of (rfl : zcd wC 35 = 11) rfl) (Or.inl (hts _ (z_mem k84))) dX2_tell_4 ?_
  refine z_top (show M 35 2 = 0 from by rw [g0]) ?_
  refine z_icmp_ge (tgt := 26) hx hb (by decide) (by decide) dX2_tell_7 (by decide) (fun c1 => ?_) (fun c1 => absurd c1 (by decide))
  refine lv_iload_n hx hb dX2_tell_26 rfl (lv_at hl 0 rfl) ?_
  refine lv_aload_n hx hb dX2_tell_27 rfl (lv_at hl 1 rfl) ?_
  refine z_geti hx hb hts (z_memU u2) hown hK.1 hS f2_2 (by decide) (zkd_of (rfl : zcd wC 35 = 11) rfl) (Or.inl (hts _ (z_mem k84))) dX2_tell_28 ?_
  refine z_top (show M 35 2 = 0 from by rw [g0]) ?_
  refine z_icmp_ge (tgt := 53) hx hb (by decide) (by decide) dX2_tell_31 (by decide) (fun c2 => ?_) (fun c2 => absurd c2 (by decide))
  refine lv_aload_n hx hb dX2_tell_53 rfl (lv_at hl 1 rfl) ?_
  refine z_geti hx hb hts (z_memU u2) hown hK.1 hS f2_2 (by decide) (zkd_of (rfl : zcd wC 35 = 11) rfl) (Or.inl (hts _ (z_mem k84))) dX2_tell_54 ?_
  refine z_top (show M 35 2 = 0 from by rw [g0]) ?_
  refine z_bipush hx hb (by decide) dX2_tell_57 ?_
  refine z_icmp_lt (tgt := 64) hx hb (by decide) (by decide) dX2_tell_59 (by decide) (fun c3 => ?_) (fun c3 => absurd c3 (by decide))
  refine lv_aload_n hx hb dX2_tell_64 rfl (lv_at hl 1 rfl) ?_
  refine z_geti hx hb hts (z_memU u2) hown hK.1 hS f2_2 (by decide) (zkd_of (rfl : zcd wC 35 = 11) rfl) (Or.inl (hts _ (z_mem k84))) dX2_tell_65 ?_
  refine z_top (show M 35 2 = 0 from by rw [g0]) ?_
  refine lv_istore (lv' := [(4, .int (iI 0)), (3, .int (iI 0)), (0, .ref (b + 35)), (1, .int (iI tick)), (2, .int (iI speed))]) hx hb dX2_tell_68 hl (by decide) rfl (fun ls hl => ?_)
  refine lv_iload hx hb dX2_tell_70 (lv_at hl 0 rfl) ?_
  refine lv_iload_n hx hb dX2_tell_72 rfl (lv_at hl 1 rfl) ?_
  refine z_icmp_le (tgt := 114) hx hb (by decide) (by decide) dX2_tell_73 (by decide) (fun c4 => ?_) (fun c4 => absurd c4 (by decide))
  refine lv_aload_n hx hb dX2_tell_114 rfl (lv_at hl 2 rfl) ?_
  refine z_getr (j2 := 36) hx hb hts (z_memU u2) hown hK.1 hS f2_0 (by decide) (zkd_of (rfl : zcd wC 35 = 11) rfl) (zrf_of (rfl : zcd wC 35 = 11) rfl) (Or.inl (hts _ (z_mem k82))) dX2_tell_115 ?_
  refine lv_iload_n hx hb dX2_tell_118 rfl (lv_at hl 1 rfl) ?_
  refine lv_iload_n hx hb dX2_tell_119 rfl (lv_at hl 3 rfl) ?_
  refine z_iast (n := 12) hx hb hK.1 (t0 := 0) rfl hS hS0 (by decide) (zkd_of (rfl : zcd wC 36 = 12) rfl) (zln_of (rfl : zcd wC 36 = 12) rfl) (by decide) (by decide) (by decide) (zbd_in (rfl : zcd wC 36 = 12) rfl ⟨by omega, by omega⟩) (zms_of (rfl : zcd wC 36 = 12) rfl) dX2_tell_120 (fun H locs hS hS0 => ?_)
  obtain ⟨M5, e6⟩ : ∃ M5 : zM, M5 = zup M 36 ((0 : Int).toNat) tick := ⟨_, rfl⟩
  rw [← e6] at hS
  have J7 := hS.2.1
  refine lv_aload_n hx hb dX2_tell_121 rfl (lv_at hl 2 rfl) ?_
  refine z_getr (j2 := 37) hx hb hts (z_memU u2) hown hK.1 hS f2_1 (by decide) (zkd_of (rfl : zcd wC 35 = 11) rfl) (zrf_of (rfl : zcd wC 35 = 11) rfl) (Or.inl (hts _ (z_mem k83))) dX2_tell_122 ?_
  refine lv_iload_n hx hb dX2_tell_125 rfl (lv_at hl 1 rfl) ?_
  refine lv_iload_n hx hb dX2_tell_126 rfl (lv_at hl 4 rfl) ?_
  refine z_iast (n := 12) hx hb hK.1 (t0 := 0) rfl hS hS0 (by decide) (zkd_of (rfl : zcd wC 37 = 13) rfl) (zln_of (rfl : zcd wC 37 = 13) rfl) (by decide) (by decide) (by decide) (zbd_in (rfl : zcd wC 37 = 13) rfl ⟨by omega, by omega⟩) (zms_of (rfl : zcd wC 37 = 13) rfl) dX2_tell_127 (fun H locs hS hS0 => ?_)
  obtain ⟨M8, e9⟩ : ∃ M8 : zM, M8 = zup M5 37 ((0 : Int).toNat) speed := ⟨_, rfl⟩
  rw [← e9] at hS
  have J10 := hS.2.1
  refine lv_aload_n hx hb dX2_tell_128 rfl (lv_at hl 2 rfl) ?_
  refine lv_dup hx hb dX2_tell_129 rfl ?_
  refine z_geti hx hb hts (z_memU u2) hown hK.1 hS f2_2 (by decide) (zkd_of (rfl : zcd wC 35 = 11) rfl) (Or.inl (hts _ (z_mem k84))) dX2_tell_130 ?_
  refine z_top (show M8 35 2 = 0 from by rw [e9, zup_n _ _ (by omega), e6, zup_n _ _ (by omega), g0]) ?_
  refine z_iconst hx hb dX2_tell_133 ?_
  refine z_iadd hx hb dX2_tell_134 ?_
  refine z_top (show ((0 + 1) : Int) = 1 from by decide) ?_
  refine z_puti hx hb hts (z_memU u2) tyX2 tyX2_ok nmX2 hown hK.1 hS hS0 f2_2 (by decide) (zkd_of (rfl : zcd wC 35 = 11) rfl) (Or.inl (hts _ (z_mem k84))) rfl (z := 1) (by decide +kernel) (zbd_in (rfl : zcd wC 35 = 11) rfl (by decide)) (zms_of (rfl : zcd wC 35 = 11) rfl) dX2_tell_135 (fun H locs hS hS0 => ?_)
  obtain ⟨M11, e12⟩ : ∃ M11 : zM, M11 = zup M8 35 2 1 := ⟨_, rfl⟩
  rw [← e12] at hS
  have J13 := hS.2.1
  refine z_iconst hx hb dX2_tell_138 ?_
  exact z_zret hx hb hr hlocks hS hS0 (by first | decide | omega) (by first | exact trivial | exact ⟨rfl, trivial⟩ | omega | (refine ⟨by omega, trivial⟩)) dX2_tell_139

set_option maxHeartbeats 4000000 in
set_option maxRecDepth 100000 in
theorem n_steady35 (l : Launch) (D : va_G) (dA : Nat → ClassId) (b : Nat) (M : zM) (g0 : M 35 2 = 0) : Met l yX2_steady (.code yX2_steady cX2_steady 1 (some .int) :: zt) (z_rm 0) (va_Pc [.ref (b + 35)] (zP D dA vwCl (z_tys dA) wC nC b M)) (va_Qi (zQi wC (zms wC []) M (fun z M1 => M1 = M ∧ (z = 0 ∧ True))) (zB D dA vwCl wC nC b) (zA nC b)) 0 0 (zA nC b) := by
  refine Met.ofW (cc := cX2_steady) (maxL := 1) (ret := (some .int)) (by decide) rfl ?_
  intro p e s m args below meth c s₁ B hml hv
  obtain ⟨hargs, hR0, hJ, hK⟩ := hv
  have hx := B.exec
  have hb := B.bytes
  have hr := B.returns
  have hts := atoms_spec (ws := .code yX2_steady cX2_steady 1 (some .int) :: zt) B.pre
  have hown : s.vm.findClass RX2 = some m.cls := findClass_of_methodNamed B.named
  have hlocks := B.notSynchronized
  have hS : zS D dA vwCl wC nC b (zms wC []) M M s.heap := ⟨hR0, hJ, zF_rf _ _⟩
  have hS0 : va_S (zA nC b) s.heap s.heap [] := va_S.rf
  have hl := lv_entry ([.ref (b + 35)]) (n := 1) (Nat.le_of_ble_eq_true rfl)
  have hent : entryFrame m args 1 = F0 m 0 ((lg_sl ([.ref (b + 35)]) ++ List.replicate (1 - (lg_sl ([.ref (b + 35)])).length) Slot.unset).toArray) [] := by rw [hargs]; exact lg_entry_eq m ([.ref (b + 35)]) 1
  rw [hent]
  generalize (lg_sl ([.ref (b + 35)]) ++ List.replicate (1 - (lg_sl ([.ref (b + 35)])).length) Slot.unset).toArray = ls at hl ⊢
  have hl : lv_has ls 1 [(0, .ref (b + 35))] := hl
  refine lv_aload_n hx hb dX2_steady_0 rfl (lv_at hl 0 rfl) ?_
  refine z_geti hx hb hts (z_memU u2) hown hK.1 hS f2_2 (by decide) (zkd_of (rfl : zcd wC 35 = 11) rfl) (Or.inl (hts _ (z_mem k84))) dX2_steady_1 ?_
  refine z_top (show M 35 2 = 0 from by rw [g0]) ?_
  refine z_if_ne (tgt := 11) hx hb (by decide) dX2_steady_4 (by decide) (fun c1 => absurd c1 (by decide)) (fun c1 => ?_)
  refine z_iconst hx hb dX2_steady_7 ?_
  refine lv_goto (tgt := 22) hx hb dX2_steady_8 (by decide) ?_
  exact z_iret hx hb hr hlocks hS hS0 (by decide) (⟨rfl, by first | exact trivial | exact ⟨rfl, trivial⟩ | omega | (refine ⟨by omega, trivial⟩)⟩) dX2_steady_22

set_option maxHeartbeats 4000000 in
set_option maxRecDepth 100000 in
theorem n_wayTo35 (l : Launch) (D : va_G) (dA : Nat → ClassId) (b : Nat) (M : zM) (t : Int) (r_t : R64 t) (g0 : M 35 2 = 0) : Met l yX2_wayTo (.code yX2_wayTo cX2_wayTo 9 (some .long) :: zt) (z_rm 0) (va_Pc [.ref (b + 35), .long (iL t)] (zP D dA vwCl (z_tys dA) wC nC b M)) (va_Ql (zQl wC (zms wC []) M (fun z M1 => M1 = M ∧ (z = t ∧ True))) (zB D dA vwCl wC nC b) (zA nC b)) 0 0 (zA nC b) := by
  refine Met.ofW (cc := cX2_wayTo) (maxL := 9) (ret := (some .long)) (by decide) rfl ?_
  intro p e s m args below meth c s₁ B hml hv
  obtain ⟨hargs, hR0, hJ, hK⟩ := hv
  have hx := B.exec
  have hb := B.bytes
  have hr := B.returns
  have hts := atoms_spec (ws := .code yX2_wayTo cX2_wayTo 9 (some .long) :: zt) B.pre
  have hown : s.vm.findClass RX2 = some m.cls := findClass_of_methodNamed B.named
  have hlocks := B.notSynchronized
  have hS : zS D dA vwCl wC nC b (zms wC []) M M s.heap := ⟨hR0, hJ, zF_rf _ _⟩
  have hS0 : va_S (zA nC b) s.heap s.heap [] := va_S.rf
  have hl := lv_entry ([.ref (b + 35), .long (iL t)]) (n := 9) (Nat.le_of_ble_eq_true rfl)
  have hent : entryFrame m args 9 = F0 m 0 ((lg_sl ([.ref (b + 35), .long (iL t)]) ++ List.replicate (9 - (lg_sl ([.ref (b + 35), .long (iL t)])).length) Slot.unset).toArray) [] := by rw [hargs]; exact lg_entry_eq m ([.ref (b + 35), .long (iL t)]) 9
  rw [hent]
  generalize (lg_sl ([.ref (b + 35), .long (iL t)]) ++ List.replicate (9 - (lg_sl ([.ref (b + 35), .long (iL t)])).length) Slot.unset).toArray = ls at hl ⊢
  have hl : lv_has ls 9 [(0, .ref (b + 35)), (1, .long (iL t))] := hl
  refine z_lconst0 hx hb dX2_wayTo_0 ?_
  refine lv_lstore_n (lv' := [(3, .long (iL 0)), (0, .ref (b + 35)), (1, .long (iL t))]) hx hb dX2_wayTo_1 rfl hl (by decide) rfl (fun ls hl => ?_)
  refine z_lconst0 hx hb dX2_wayTo_2 ?_
  refine lv_lstore (lv' := [(5, .long (iL 0)), (3, .long (iL 0)), (0, .ref (b + 35)), (1, .long (iL t))]) hx hb dX2_wayTo_3 hl (by decide) rfl (fun ls hl => ?_)
  refine z_iconst hx hb dX2_wayTo_5 ?_
  refine lv_istore (lv' := [(7, .int (iI 1)), (5, .long (iL 0)), (3, .long (iL 0)), (0, .ref (b + 35)), (1, .long (iL t))]) hx hb dX2_wayTo_6 hl (by decide) rfl (fun ls hl => ?_)
  refine z_iconst hx hb dX2_wayTo_8 ?_
  refine lv_istore (lv' := [(8, .int (iI 0)), (7, .int (iI 1)), (5, .long (iL 0)), (3, .long (iL 0)), (0, .ref (b + 35)), (1, .long (iL t))]) hx hb dX2_wayTo_9 hl (by decide) rfl (fun ls hl => ?_)
  refine lv_iload hx hb dX2_wayTo_11 (lv_at hl 0 rfl) ?_
  refine lv_aload_n hx hb dX2_wayTo_13 rfl (lv_at hl 4 rfl) ?_
  refine z_geti hx hb hts (z_memU u2) hown hK.1 hS f2_2 (by decide) (zkd_of (rfl : zcd wC 35 = 11) rfl) (Or.inl (hts _ (z_mem k84))) dX2_wayTo_14 ?_
  refine z_top (show M 35 2 = 0 from by rw [g0]) ?_
  refine z_icmp_ge (tgt := 76) hx hb (by decide) (by decide) dX2_wayTo_17 (by decide) (fun c1 => ?_) (fun c1 => absurd c1 (by decide))
  refine lv_lload_n hx hb dX2_wayTo_76 rfl (lv_at hl 3 rfl) ?_
  refine lv_lload_n hx hb dX2_wayTo_77 rfl (lv_at hl 5 rfl) ?_
  refine lv_lload hx hb dX2_wayTo_78 (lv_at hl 2 rfl) ?_
  refine z_lsub hx hb dX2_wayTo_80 ?_
  refine lv_iload hx hb dX2_wayTo_81 (lv_at hl 1 rfl) ?_
  refine z_i2l hx hb (by decide) dX2_wayTo_83 ?_
  refine z_lmul hx hb dX2_wayTo_84 ?_
  refine z_ladd hx hb dX2_wayTo_85 ?_
  exact z_lret hx hb hr hlocks hS hS0 ⟨by omega, by omega⟩ (⟨rfl, by first | exact trivial | exact ⟨rfl, trivial⟩ | omega | (refine ⟨by omega, trivial⟩)⟩) dX2_wayTo_86

set_option maxHeartbeats 4000000 in
set_option maxRecDepth 100000 in
theorem n_forget35 (l : Launch) (D : va_G) (dA : Nat → ClassId) (b : Nat) (M : zM)  : Met l yX2_forget (.code yX2_forget cX2_forget 1 none :: zt) (z_rm 0) (va_Pc [.ref (b + 35)] (zP D dA vwCl (z_tys dA) wC nC b M)) (va_Qv (zQv wC (zms wC [706]) M (fun M1 => True)) (zB D dA vwCl wC nC b) (zA nC b)) 0 0 (zA nC b) := by
  refine Met.ofW (cc := cX2_forget) (maxL := 1) (ret := none) (by decide) rfl ?_
  intro p e s m args below meth c s₁ B hml hv
  obtain ⟨hargs, hR0, hJ, hK⟩ := hv
  have hx := B.exec
  have hb := B.bytes
  have hr := B.returns
  have hts := atoms_spec (ws := .code yX2_forget cX2_forget 1 none :: zt) B.pre
  have hown : s.vm.findClass RX2 = some m.cls := findClass_of_methodNamed B.named
  have hlocks := B.notSynchronized
  have hS : zS D dA vwCl wC nC b (zms wC [706]) M M s.heap := ⟨hR0, hJ, zF_rf _ _⟩
  have hS0 : va_S (zA nC b) s.heap s.heap [] := va_S.rf
  have hl := lv_entry ([.ref (b + 35)]) (n := 1) (Nat.le_of_ble_eq_true rfl)
  have hent : entryFrame m args 1 = F0 m 0 ((lg_sl ([.ref (b + 35)]) ++ List.replicate (1 - (lg_sl ([.ref (b + 35)])).length) Slot.unset).toArray) [] := by rw [hargs]; exact lg_entry_eq m ([.ref (b + 35)]) 1
  rw [hent]
  generalize (lg_sl ([.ref (b + 35)]) ++ List.replicate (1 - (lg_sl ([.ref (b + 35)])).length) Slot.unset).toArray = ls at hl ⊢
  have hl : lv_has ls 1 [(0, .ref (b + 35))] := hl
  refine lv_aload_n hx hb dX2_forget_0 rfl (lv_at hl 0 rfl) ?_
  refine z_iconst hx hb dX2_forget_1 ?_
  refine z_puti hx hb hts (z_memU u2) tyX2 tyX2_ok nmX2 hown hK.1 hS hS0 f2_2 (by decide) (zkd_of (rfl : zcd wC 35 = 11) rfl) (Or.inl (hts _ (z_mem k84))) rfl (z := 0) (by decide +kernel) (zbd_in (rfl : zcd wC 35 = 11) rfl (by decide)) (zms_of (rfl : zcd wC 35 = 11) rfl) dX2_forget_2 (fun H locs hS hS0 => ?_)
  obtain ⟨M1, e2⟩ : ∃ M1 : zM, M1 = zup M 35 2 0 := ⟨_, rfl⟩
  rw [← e2] at hS
  have J3 := hS.2.1
  exact z_vret hx hb hr hlocks hS hS0 (by first | exact trivial | exact ⟨rfl, trivial⟩ | omega | (refine ⟨by omega, trivial⟩)) dX2_forget_5

set_option maxHeartbeats 4000000 in
set_option maxRecDepth 100000 in
theorem n_tell38 (l : Launch) (D : va_G) (dA : Nat → ClassId) (b : Nat) (M : zM) (tick : Int) (speed : Int) (r_tick : R32 tick) (r_speed : R32 speed) (g0 : M 38 2 = 0) (p0 : 0 ≤ tick ∧ tick ≤ 5000) (p1 : -9 ≤ speed ∧ speed ≤ 9) : Met l yX2_tell (.code yX2_tell cX2_tell 5 (some .boolean) :: zt) (z_rm 0) (va_Pc [.ref (b + 38), .int (iI tick), .int (iI speed)] (zP D dA vwCl (z_tys dA) wC nC b M)) (va_Qi (zQi wC (zms wC [706, 831, 895]) M (fun z M1 => z = 1 ∧ True)) (zB D dA vwCl wC nC b) (zA nC b)) 0 0 (zA nC b) := by
  refine Met.ofW (cc := cX2_tell) (maxL := 5) (ret := (some .boolean)) (by decide) rfl ?_
  intro p e s m args below meth c s₁ B hml hv
  obtain ⟨hargs, hR0, hJ, hK⟩ := hv
  have hx := B.exec
  have hb := B.bytes
  have hr := B.returns
  have hts := atoms_spec (ws := .code yX2_tell cX2_tell 5 (some .boolean) :: zt) B.pre
  have hown : s.vm.findClass RX2 = some m.cls := findClass_of_methodNamed B.named
  have hlocks := B.notSynchronized
  have hS : zS D dA vwCl wC nC b (zms wC [706, 831, 895]) M M s.heap := ⟨hR0, hJ, zF_rf _ _⟩
  have hS0 : va_S (zA nC b) s.heap s.heap [] := va_S.rf
  have hl := lv_entry ([.ref (b + 38), .int (iI tick), .int (iI speed)]) (n := 5) (Nat.le_of_ble_eq_true rfl)
  have hent : entryFrame m args 5 = F0 m 0 ((lg_sl ([.ref (b + 38), .int (iI tick), .int (iI speed)]) ++ List.replicate (5 - (lg_sl ([.ref (b + 38), .int (iI tick), .int (iI speed)])).length) Slot.unset).toArray) [] := by rw [hargs]; exact lg_entry_eq m ([.ref (b + 38), .int (iI tick), .int (iI speed)]) 5
  rw [hent]
  generalize (lg_sl ([.ref (b + 38), .int (iI tick), .int (iI speed)]) ++ List.replicate (5 - (lg_sl ([.ref (b + 38), .int (iI tick), .int (iI speed)])).length) Slot.unset).toArray = ls at hl ⊢
  have hl : lv_has ls 5 [(0, .ref (b + 38)), (1, .int (iI tick)), (2, .int (iI speed))] := hl
  refine z_iconst hx hb dX2_tell_0 ?_
  refine lv_istore_n (lv' := [(3, .int (iI 0)), (0, .ref (b + 38)), (1, .int (iI tick)), (2, .int (iI speed))]) hx hb dX2_tell_1 rfl hl (by decide) rfl (fun ls hl => ?_)
  refine lv_iload_n hx hb dX2_tell_2 rfl (lv_at hl 0 rfl) ?_
  refine lv_aload_n hx hb dX2_tell_3 rfl (lv_at hl 1 rfl) ?_
  refine z_geti hx hb hts (z_memU u2) hown hK.1 hS f2_2 (by decide) (zkd_of (rfl : zcd wC 38 = 11) rfl) (Or.inl (hts _ (z_mem k84))) dX2_tell_4 ?_
  refine z_top (show M 38 2 = 0 from by rw [g0]) ?_
  refine z_icmp_ge (tgt := 26) hx hb (by decide) (by decide) dX2_tell_7 (by decide) (fun c1 => ?_) (fun c1 => absurd c1 (by decide))
  refine lv_iload_n hx hb dX2_tell_26 rfl (lv_at hl 0 rfl) ?_
  refine lv_aload_n hx hb dX2_tell_27 rfl (lv_at hl 1 rfl) ?_
  refine z_geti hx hb hts (z_memU u2) hown hK.1 hS f2_2 (by decide) (zkd_of (rfl : zcd wC 38 = 11) rfl) (Or.inl (hts _ (z_mem k84))) dX2_tell_28 ?_
  refine z_top (show M 38 2 = 0 from by rw [g0]) ?_
  refine z_icmp_ge (tgt := 53) hx hb (by decide) (by decide) dX2_tell_31 (by decide) (fun c2 => ?_) (fun c2 => absurd c2 (by decide))
  refine lv_aload_n hx hb dX2_tell_53 rfl (lv_at hl 1 rfl) ?_
  refine z_geti hx hb hts (z_memU u2) hown hK.1 hS f2_2 (by decide) (zkd_of (rfl : zcd wC 38 = 11) rfl) (Or.inl (hts _ (z_mem k84))) dX2_tell_54 ?_
  refine z_top (show M 38 2 = 0 from by rw [g0]) ?_
  refine z_bipush hx hb (by decide) dX2_tell_57 ?_
  refine z_icmp_lt (tgt := 64) hx hb (by decide) (by decide) dX2_tell_59 (by decide) (fun c3 => ?_) (fun c3 => absurd c3 (by decide))
  refine lv_aload_n hx hb dX2_tell_64 rfl (lv_at hl 1 rfl) ?_
  refine z_geti hx hb hts (z_memU u2) hown hK.1 hS f2_2 (by decide) (zkd_of (rfl : zcd wC 38 = 11) rfl) (Or.inl (hts _ (z_mem k84))) dX2_tell_65 ?_
  refine z_top (show M 38 2 = 0 from by rw [g0]) ?_
  refine lv_istore (lv' := [(4, .int (iI 0)), (3, .int (iI 0)), (0, .ref (b + 38)), (1, .int (iI tick)), (2, .int (iI speed))]) hx hb dX2_tell_68 hl (by decide) rfl (fun ls hl => ?_)
  refine lv_iload hx hb dX2_tell_70 (lv_at hl 0 rfl) ?_
  refine lv_iload_n hx hb dX2_tell_72 rfl (lv_at hl 1 rfl) ?_
  refine z_icmp_le (tgt := 114) hx hb (by decide) (by decide) dX2_tell_73 (by decide) (fun c4 => ?_) (fun c4 => absurd c4 (by decide))
  refine lv_aload_n hx hb dX2_tell_114 rfl (lv_at hl 2 rfl) ?_
  refine z_getr (j2 := 39) hx hb hts (z_memU u2) hown hK.1 hS f2_0 (by decide) (zkd_of (rfl : zcd wC 38 = 11) rfl) (zrf_of (rfl : zcd wC 38 = 11) rfl) (Or.inl (hts _ (z_mem k82))) dX2_tell_115 ?_
  refine lv_iload_n hx hb dX2_tell_118 rfl (lv_at hl 1 rfl) ?_
  refine lv_iload_n hx hb dX2_tell_119 rfl (lv_at hl 3 rfl) ?_
  refine z_iast (n := 12) hx hb hK.1 (t0 := 0) rfl hS hS0 (by decide) (zkd_of (rfl : zcd wC 39 = 12) rfl) (zln_of (rfl : zcd wC 39 = 12) rfl) (by decide) (by decide) (by decide) (zbd_in (rfl : zcd wC 39 = 12) rfl ⟨by omega, by omega⟩) (zms_of (rfl : zcd wC 39 = 12) rfl) dX2_tell_120 (fun H locs hS hS0 => ?_)
  obtain ⟨M5, e6⟩ : ∃ M5 : zM, M5 = zup M 39 ((0 : Int).toNat) tick := ⟨_, rfl⟩
  rw [← e6] at hS
  have J7 := hS.2.1
  refine lv_aload_n hx hb dX2_tell_121 rfl (lv_at hl 2 rfl) ?_
  refine z_getr (j2 := 40) hx hb hts (z_memU u2) hown hK.1 hS f2_1 (by decide) (zkd_of (rfl : zcd wC 38 = 11) rfl) (zrf_of (rfl : zcd wC 38 = 11) rfl) (Or.inl (hts _ (z_mem k83))) dX2_tell_122 ?_
  refine lv_iload_n hx hb dX2_tell_125 rfl (lv_at hl 1 rfl) ?_
  refine lv_iload_n hx hb dX2_tell_126 rfl (lv_at hl 4 rfl) ?_
  refine z_iast (n := 12) hx hb hK.1 (t0 := 0) rfl hS hS0 (by decide) (zkd_of (rfl : zcd wC 40 = 13) rfl) (zln_of (rfl : zcd wC 40 = 13) rfl) (by decide) (by decide) (by decide) (zbd_in (rfl : zcd wC 40 = 13) rfl ⟨by omega, by omega⟩) (zms_of (rfl : zcd wC 40 = 13) rfl) dX2_tell_127 (fun H locs hS hS0 => ?_)
  obtain ⟨M8, e9⟩ : ∃ M8 : zM, M8 = zup M5 40 ((0 : Int).toNat) speed := ⟨_, rfl⟩
  rw [← e9] at hS
  have J10 := hS.2.1
  refine lv_aload_n hx hb dX2_tell_128 rfl (lv_at hl 2 rfl) ?_
  refine lv_dup hx hb dX2_tell_129 rfl ?_
  refine z_geti hx hb hts (z_memU u2) hown hK.1 hS f2_2 (by decide) (zkd_of (rfl : zcd wC 38 = 11) rfl) (Or.inl (hts _ (z_mem k84))) dX2_tell_130 ?_
  refine z_top (show M8 38 2 = 0 from by rw [e9, zup_n _ _ (by omega), e6, zup_n _ _ (by omega), g0]) ?_
  refine z_iconst hx hb dX2_tell_133 ?_
  refine z_iadd hx hb dX2_tell_134 ?_
  refine z_top (show ((0 + 1) : Int) = 1 from by decide) ?_
  refine z_puti hx hb hts (z_memU u2) tyX2 tyX2_ok nmX2 hown hK.1 hS hS0 f2_2 (by decide) (zkd_of (rfl : zcd wC 38 = 11) rfl) (Or.inl (hts _ (z_mem k84))) rfl (z := 1) (by decide +kernel) (zbd_in (rfl : zcd wC 38 = 11) rfl (by decide)) (zms_of (rfl : zcd wC 38 = 11) rfl) dX2_tell_135 (fun H locs hS hS0 => ?_)
  obtain ⟨M11, e12⟩ : ∃ M11 : zM, M11 = zup M8 38 2 1 := ⟨_, rfl⟩
  rw [← e12] at hS
  have J13 := hS.2.1
  refine z_iconst hx hb dX2_tell_138 ?_
  exact z_zret hx hb hr hlocks hS hS0 (by first | decide | omega) (by first | exact trivial | exact ⟨rfl, trivial⟩ | omega | (refine ⟨by omega, trivial⟩)) dX2_tell_139

set_option maxHeartbeats 4000000 in
set_option maxRecDepth 100000 in
theorem n_steady38 (l : Launch) (D : va_G) (dA : Nat → ClassId) (b : Nat) (M : zM) (g0 : M 38 2 = 0) : Met l yX2_steady (.code yX2_steady cX2_steady 1 (some .int) :: zt) (z_rm 0) (va_Pc [.ref (b + 38)] (zP D dA vwCl (z_tys dA) wC nC b M)) (va_Qi (zQi wC (zms wC []) M (fun z M1 => M1 = M ∧ (z = 0 ∧ True))) (zB D dA vwCl wC nC b) (zA nC b)) 0 0 (zA nC b) := by
  refine Met.ofW (cc := cX2_steady) (maxL := 1) (ret := (some .int)) (by decide) rfl ?_
  intro p e s m args below meth c s₁ B hml hv
  obtain ⟨hargs, hR0, hJ, hK⟩ := hv
  have hx := B.exec
  have hb := B.bytes
  have hr := B.returns
  have hts := atoms_spec (ws := .code yX2_steady cX2_steady 1 (some .int) :: zt) B.pre
  have hown : s.vm.findClass RX2 = some m.cls := findClass_of_methodNamed B.named
  have hlocks := B.notSynchronized
  have hS : zS D dA vwCl wC nC b (zms wC []) M M s.heap := ⟨hR0, hJ, zF_rf _ _⟩
  have hS0 : va_S (zA nC b) s.heap s.heap [] := va_S.rf
  have hl := lv_entry ([.ref (b + 38)]) (n := 1) (Nat.le_of_ble_eq_true rfl)
  have hent : entryFrame m args 1 = F0 m 0 ((lg_sl ([.ref (b + 38)]) ++ List.replicate (1 - (lg_sl ([.ref (b + 38)])).length) Slot.unset).toArray) [] := by rw [hargs]; exact lg_entry_eq m ([.ref (b + 38)]) 1
  rw [hent]
  generalize (lg_sl ([.ref (b + 38)]) ++ List.replicate (1 - (lg_sl ([.ref (b + 38)])).length) Slot.unset).toArray = ls at hl ⊢
  have hl : lv_has ls 1 [(0, .ref (b + 38))] := hl
  refine lv_aload_n hx hb dX2_steady_0 rfl (lv_at hl 0 rfl) ?_
  refine z_geti hx hb hts (z_memU u2) hown hK.1 hS f2_2 (by decide) (zkd_of (rfl : zcd wC 38 = 11) rfl) (Or.inl (hts _ (z_mem k84))) dX2_steady_1 ?_
  refine z_top (show M 38 2 = 0 from by rw [g0]) ?_
  refine z_if_ne (tgt := 11) hx hb (by decide) dX2_steady_4 (by decide) (fun c1 => absurd c1 (by decide)) (fun c1 => ?_)
  refine z_iconst hx hb dX2_steady_7 ?_
  refine lv_goto (tgt := 22) hx hb dX2_steady_8 (by decide) ?_
  exact z_iret hx hb hr hlocks hS hS0 (by decide) (⟨rfl, by first | exact trivial | exact ⟨rfl, trivial⟩ | omega | (refine ⟨by omega, trivial⟩)⟩) dX2_steady_22

set_option maxHeartbeats 4000000 in
set_option maxRecDepth 100000 in
theorem n_wayTo38 (l : Launch) (D : va_G) (dA : Nat → ClassId) (b : Nat) (M : zM) (t : Int) (r_t : R64 t) (g0 : M 38 2 = 0) : Met l yX2_wayTo (.code yX2_wayTo cX2_wayTo 9 (some .long) :: zt) (z_rm 0) (va_Pc [.ref (b + 38), .long (iL t)] (zP D dA vwCl (z_tys dA) wC nC b M)) (va_Ql (zQl wC (zms wC []) M (fun z M1 => M1 = M ∧ (z = t ∧ True))) (zB D dA vwCl wC nC b) (zA nC b)) 0 0 (zA nC b) := by
  refine Met.ofW (cc := cX2_wayTo) (maxL := 9) (ret := (some .long)) (by decide) rfl ?_
  intro p e s m args below meth c s₁ B hml hv
  obtain ⟨hargs, hR0, hJ, hK⟩ := hv
  have hx := B.exec
  have hb := B.bytes
  have hr := B.returns
  have hts := atoms_spec (ws := .code yX2_wayTo cX2_wayTo 9 (some .long) :: zt) B.pre
  have hown : s.vm.findClass RX2 = some m.cls := findClass_of_methodNamed B.named
  have hlocks := B.notSynchronized
  have hS : zS D dA vwCl wC nC b (zms wC []) M M s.heap := ⟨hR0, hJ, zF_rf _ _⟩
  have hS0 : va_S (zA nC b) s.heap s.heap [] := va_S.rf
  have hl := lv_entry ([.ref (b + 38), .long (iL t)]) (n := 9) (Nat.le_of_ble_eq_true rfl)
  have hent : entryFrame m args 9 = F0 m 0 ((lg_sl ([.ref (b + 38), .long (iL t)]) ++ List.replicate (9 - (lg_sl ([.ref (b + 38), .long (iL t)])).length) Slot.unset).toArray) [] := by rw [hargs]; exact lg_entry_eq m ([.ref (b + 38), .long (iL t)]) 9
  rw [hent]
  generalize (lg_sl ([.ref (b + 38), .long (iL t)]) ++ List.replicate (9 - (lg_sl ([.ref (b + 38), .long (iL t)])).length) Slot.unset).toArray = ls at hl ⊢
  have hl : lv_has ls 9 [(0, .ref (b + 38)), (1, .long (iL t))] := hl
  refine z_lconst0 hx hb dX2_wayTo_0 ?_
  refine lv_lstore_n (lv' := [(3, .long (iL 0)), (0, .ref (b + 38)), (1, .long (iL t))]) hx hb dX2_wayTo_1 rfl hl (by decide) rfl (fun ls hl => ?_)
  refine z_lconst0 hx hb dX2_wayTo_2 ?_
  refine lv_lstore (lv' := [(5, .long (iL 0)), (3, .long (iL 0)), (0, .ref (b + 38)), (1, .long (iL t))]) hx hb dX2_wayTo_3 hl (by decide) rfl (fun ls hl => ?_)
  refine z_iconst hx hb dX2_wayTo_5 ?_
  refine lv_istore (lv' := [(7, .int (iI 1)), (5, .long (iL 0)), (3, .long (iL 0)), (0, .ref (b + 38)), (1, .long (iL t))]) hx hb dX2_wayTo_6 hl (by decide) rfl (fun ls hl => ?_)
  refine z_iconst hx hb dX2_wayTo_8 ?_
  refine lv_istore (lv' := [(8, .int (iI 0)), (7, .int (iI 1)), (5, .long (iL 0)), (3, .long (iL 0)), (0, .ref (b + 38)), (1, .long (iL t))]) hx hb dX2_wayTo_9 hl (by decide) rfl (fun ls hl => ?_)
  refine lv_iload hx hb dX2_wayTo_11 (lv_at hl 0 rfl) ?_
  refine lv_aload_n hx hb dX2_wayTo_13 rfl (lv_at hl 4 rfl) ?_
  refine z_geti hx hb hts (z_memU u2) hown hK.1 hS f2_2 (by decide) (zkd_of (rfl : zcd wC 38 = 11) rfl) (Or.inl (hts _ (z_mem k84))) dX2_wayTo_14 ?_
  refine z_top (show M 38 2 = 0 from by rw [g0]) ?_
  refine z_icmp_ge (tgt := 76) hx hb (by decide) (by decide) dX2_wayTo_17 (by decide) (fun c1 => ?_) (fun c1 => absurd c1 (by decide))
  refine lv_lload_n hx hb dX2_wayTo_76 rfl (lv_at hl 3 rfl) ?_
  refine lv_lload_n hx hb dX2_wayTo_77 rfl (lv_at hl 5 rfl) ?_
  refine lv_lload hx hb dX2_wayTo_78 (lv_at hl 2 rfl) ?_
  refine z_lsub hx hb dX2_wayTo_80 ?_
  refine lv_iload hx hb dX2_wayTo_81 (lv_at hl 1 rfl) ?_
  refine z_i2l hx hb (by decide) dX2_wayTo_83 ?_
  refine z_lmul hx hb dX2_wayTo_84 ?_
  refine z_ladd hx hb dX2_wayTo_85 ?_
  exact z_lret hx hb hr hlocks hS hS0 ⟨by omega, by omega⟩ (⟨rfl, by first | exact trivial | exact ⟨rfl, trivial⟩ | omega | (refine ⟨by omega, trivial⟩)⟩) dX2_wayTo_86

set_option maxHeartbeats 4000000 in
set_option maxRecDepth 100000 in
theorem n_forget38 (l : Launch) (D : va_G) (dA : Nat → ClassId) (b : Nat) (M : zM)  : Met l yX2_forget (.code yX2_forget cX2_forget 1 none :: zt) (z_rm 0) (va_Pc [.ref (b + 38)] (zP D dA vwCl (z_tys dA) wC nC b M)) (va_Qv (zQv wC (zms wC [706]) M (fun M1 => True)) (zB D dA vwCl wC nC b) (zA nC b)) 0 0 (zA nC b) := by
  refine Met.ofW (cc := cX2_forget) (maxL := 1) (ret := none) (by decide) rfl ?_
  intro p e s m args below meth c s₁ B hml hv
  obtain ⟨hargs, hR0, hJ, hK⟩ := hv
  have hx := B.exec
  have hb := B.bytes
  have hr := B.returns
  have hts := atoms_spec (ws := .code yX2_forget cX2_forget 1 none :: zt) B.pre
  have hown : s.vm.findClass RX2 = some m.cls := findClass_of_methodNamed B.named
  have hlocks := B.notSynchronized
  have hS : zS D dA vwCl wC nC b (zms wC [706]) M M s.heap := ⟨hR0, hJ, zF_rf _ _⟩
  have hS0 : va_S (zA nC b) s.heap s.heap [] := va_S.rf
  have hl := lv_entry ([.ref (b + 38)]) (n := 1) (Nat.le_of_ble_eq_true rfl)
  have hent : entryFrame m args 1 = F0 m 0 ((lg_sl ([.ref (b + 38)]) ++ List.replicate (1 - (lg_sl ([.ref (b + 38)])).length) Slot.unset).toArray) [] := by rw [hargs]; exact lg_entry_eq m ([.ref (b + 38)]) 1
  rw [hent]
  generalize (lg_sl ([.ref (b + 38)]) ++ List.replicate (1 - (lg_sl ([.ref (b + 38)])).length) Slot.unset).toArray = ls at hl ⊢
  have hl : lv_has ls 1 [(0, .ref (b + 38))] := hl
  refine lv_aload_n hx hb dX2_forget_0 rfl (lv_at hl 0 rfl) ?_
  refine z_iconst hx hb dX2_forget_1 ?_
  refine z_puti hx hb hts (z_memU u2) tyX2 tyX2_ok nmX2 hown hK.1 hS hS0 f2_2 (by decide) (zkd_of (rfl : zcd wC 38 = 11) rfl) (Or.inl (hts _ (z_mem k84))) rfl (z := 0) (by decide +kernel) (zbd_in (rfl : zcd wC 38 = 11) rfl (by decide)) (zms_of (rfl : zcd wC 38 = 11) rfl) dX2_forget_2 (fun H locs hS hS0 => ?_)
  obtain ⟨M1, e2⟩ : ∃ M1 : zM, M1 = zup M 38 2 0 := ⟨_, rfl⟩
  rw [← e2] at hS
  have J3 := hS.2.1
  exact z_vret hx hb hr hlocks hS hS0 (by first | exact trivial | exact ⟨rfl, trivial⟩ | omega | (refine ⟨by omega, trivial⟩)) dX2_forget_5

set_option maxHeartbeats 4000000 in
set_option maxRecDepth 100000 in
theorem n_motorOf0 (l : Launch) (D : va_G) (dA : Nat → ClassId) (b : Nat) (M : zM) (i : Int) (r_i : R32 i) (p0 : i = 0) : Met l yX9_motorOf (.code yX9_motorOf cX9_motorOf 2 (some (.object "TapeRings$Motor")) :: zt) (z_rm 0) (va_Pc [.ref (b + 32), .int (iI i)] (zP D dA vwCl (z_tys dA) wC nC b M)) (va_Qq (zQq wC (zms wC []) M (fun z M1 => M1 = M ∧ (z = some (b + 35) ∧ True))) (zB D dA vwCl wC nC b) (zA nC b)) 0 0 (zA nC b) := by
  refine Met.ofW (cc := cX9_motorOf) (maxL := 2) (ret := (some (.object "TapeRings$Motor"))) (by decide) rfl ?_
  intro p e s m args below meth c s₁ B hml hv
  obtain ⟨hargs, hR0, hJ, hK⟩ := hv
  have hx := B.exec
  have hb := B.bytes
  have hr := B.returns
  have hts := atoms_spec (ws := .code yX9_motorOf cX9_motorOf 2 (some (.object "TapeRings$Motor")) :: zt) B.pre
  have hown : s.vm.findClass RX9 = some m.cls := findClass_of_methodNamed B.named
  have hlocks := B.notSynchronized
  have hS : zS D dA vwCl wC nC b (zms wC []) M M s.heap := ⟨hR0, hJ, zF_rf _ _⟩
  have hS0 : va_S (zA nC b) s.heap s.heap [] := va_S.rf
  have hl := lv_entry ([.ref (b + 32), .int (iI i)]) (n := 2) (Nat.le_of_ble_eq_true rfl)
  have hent : entryFrame m args 2 = F0 m 0 ((lg_sl ([.ref (b + 32), .int (iI i)]) ++ List.replicate (2 - (lg_sl ([.ref (b + 32), .int (iI i)])).length) Slot.unset).toArray) [] := by rw [hargs]; exact lg_entry_eq m ([.ref (b + 32), .int (iI i)]) 2
  rw [hent]
  generalize (lg_sl ([.ref (b + 32), .int (iI i)]) ++ List.replicate (2 - (lg_sl ([.ref (b + 32), .int (iI i)])).length) Slot.unset).toArray = ls at hl ⊢
  have hl : lv_has ls 2 [(0, .ref (b + 32)), (1, .int (iI i))] := hl
  refine lv_aload_n hx hb dX9_motorOf_0 rfl (lv_at hl 0 rfl) ?_
  refine z_getr (j2 := 33) hx hb hts (z_memU u9) hown hK.1 hS f9_0 (by decide) (zkd_of (rfl : zcd wC 32 = 8) rfl) (zrf_of (rfl : zcd wC 32 = 8) rfl) (Or.inl (hts _ (z_mem k116))) dX9_motorOf_1 ?_
  refine lv_iload_n hx hb dX9_motorOf_4 rfl (lv_at hl 1 rfl) ?_
  refine z_if_ne (tgt := 12) hx hb r_i dX9_motorOf_5 (by decide) (fun c1 => ?_) (fun c1 => ?_)
  · skip
    refine z_iconst hx hb dX9_motorOf_12 ?_
    refine z_aald (n := 2) (j2 := 38) hx hb hK.1 (t0 := 5) (r := 5) (by decide) rfl rfl hS (by decide) (zkd_of (rfl : zcd wC 33 = 9) rfl) (zln_of (rfl : zcd wC 33 = 9) rfl) (by decide) (by decide) (by decide) (zrf_of (rfl : zcd wC 33 = 9) rfl) dX9_motorOf_13 ?_
    exact z_aret (r := (some (b + 38))) hx hb hr (Or.inl ⟨_, rfl⟩) hlocks hS hS0 rfl (⟨rfl, by first | exact trivial | exact ⟨rfl, trivial⟩ | omega | (refine ⟨by omega, trivial⟩)⟩) dX9_motorOf_14
  · skip
    refine z_iconst hx hb dX9_motorOf_8 ?_
    refine lv_goto (tgt := 13) hx hb dX9_motorOf_9 (by decide) ?_
    refine z_aald (n := 2) (j2 := 35) hx hb hK.1 (t0 := 5) (r := 5) (by decide) rfl rfl hS (by decide) (zkd_of (rfl : zcd wC 33 = 9) rfl) (zln_of (rfl : zcd wC 33 = 9) rfl) (by decide) (by decide) (by decide) (zrf_of (rfl : zcd wC 33 = 9) rfl) dX9_motorOf_13 ?_
    exact z_aret (r := (some (b + 35))) hx hb hr (Or.inl ⟨_, rfl⟩) hlocks hS hS0 rfl (⟨rfl, by first | exact trivial | exact ⟨rfl, trivial⟩ | omega | (refine ⟨by omega, trivial⟩)⟩) dX9_motorOf_14

set_option maxHeartbeats 4000000 in
set_option maxRecDepth 100000 in
theorem n_motorOf1 (l : Launch) (D : va_G) (dA : Nat → ClassId) (b : Nat) (M : zM) (i : Int) (r_i : R32 i) (p0 : i ≠ 0) : Met l yX9_motorOf (.code yX9_motorOf cX9_motorOf 2 (some (.object "TapeRings$Motor")) :: zt) (z_rm 0) (va_Pc [.ref (b + 32), .int (iI i)] (zP D dA vwCl (z_tys dA) wC nC b M)) (va_Qq (zQq wC (zms wC []) M (fun z M1 => M1 = M ∧ (z = some (b + 38) ∧ True))) (zB D dA vwCl wC nC b) (zA nC b)) 0 0 (zA nC b) := by
  refine Met.ofW (cc := cX9_motorOf) (maxL := 2) (ret := (some (.object "TapeRings$Motor"))) (by decide) rfl ?_
  intro p e s m args below meth c s₁ B hml hv
  obtain ⟨hargs, hR0, hJ, hK⟩ := hv
  have hx := B.exec
  have hb := B.bytes
  have hr := B.returns
  have hts := atoms_spec (ws := .code yX9_motorOf cX9_motorOf 2 (some (.object "TapeRings$Motor")) :: zt) B.pre
  have hown : s.vm.findClass RX9 = some m.cls := findClass_of_methodNamed B.named
  have hlocks := B.notSynchronized
  have hS : zS D dA vwCl wC nC b (zms wC []) M M s.heap := ⟨hR0, hJ, zF_rf _ _⟩
  have hS0 : va_S (zA nC b) s.heap s.heap [] := va_S.rf
  have hl := lv_entry ([.ref (b + 32), .int (iI i)]) (n := 2) (Nat.le_of_ble_eq_true rfl)
  have hent : entryFrame m args 2 = F0 m 0 ((lg_sl ([.ref (b + 32), .int (iI i)]) ++ List.replicate (2 - (lg_sl ([.ref (b + 32), .int (iI i)])).length) Slot.unset).toArray) [] := by rw [hargs]; exact lg_entry_eq m ([.ref (b + 32), .int (iI i)]) 2
  rw [hent]
  generalize (lg_sl ([.ref (b + 32), .int (iI i)]) ++ List.replicate (2 - (lg_sl ([.ref (b + 32), .int (iI i)])).length) Slot.unset).toArray = ls at hl ⊢
  have hl : lv_has ls 2 [(0, .ref (b + 32)), (1, .int (iI i))] := hl
  refine lv_aload_n hx hb dX9_motorOf_0 rfl (lv_at hl 0 rfl) ?_
  refine z_getr (j2 := 33) hx hb hts (z_memU u9) hown hK.1 hS f9_0 (by decide) (zkd_of (rfl : zcd wC 32 = 8) rfl) (zrf_of (rfl : zcd wC 32 = 8) rfl) (Or.inl (hts _ (z_mem k116))) dX9_motorOf_1 ?_
  refine lv_iload_n hx hb dX9_motorOf_4 rfl (lv_at hl 1 rfl) ?_
  refine z_if_ne (tgt := 12) hx hb r_i dX9_motorOf_5 (by decide) (fun c1 => ?_) (fun c1 => absurd c1 (by omega))
  refine z_iconst hx hb dX9_motorOf_12 ?_
  refine z_aald (n := 2) (j2 := 38) hx hb hK.1 (t0 := 5) (r := 5) (by decide) rfl rfl hS (by decide) (zkd_of (rfl : zcd wC 33 = 9) rfl) (zln_of (rfl : zcd wC 33 = 9) rfl) (by decide) (by decide) (by decide) (zrf_of (rfl : zcd wC 33 = 9) rfl) dX9_motorOf_13 ?_
  exact z_aret (r := (some (b + 38))) hx hb hr (Or.inl ⟨_, rfl⟩) hlocks hS hS0 rfl (⟨rfl, by first | exact trivial | exact ⟨rfl, trivial⟩ | omega | (refine ⟨by omega, trivial⟩)⟩) dX9_motorOf_14

set_option maxHeartbeats 4000000 in
set_option maxRecDepth 100000 in
theorem n_steady (l : Launch) (D : va_G) (dA : Nat → ClassId) (b : Nat) (M : zM) (g0 : M 35 2 = 0) (g1 : M 38 2 = 0) : Met l yX9_steady (.code yX9_steady cX9_steady 1 (some .int) :: zt) (z_rm 1) (va_Pc [.ref (b + 32)] (zP D dA vwCl (z_tys dA) wC nC b M)) (va_Qi (zQi wC (zms wC []) M (fun z M1 => M1 = M ∧ (z = 0 ∧ True))) (zB D dA vwCl wC nC b) (zA nC b)) 0 0 (zA nC b) := by
  refine Met.ofW (cc := cX9_steady) (maxL := 1) (ret := (some .int)) (by decide) rfl ?_
  intro p e s m args below meth c s₁ B hml hv
  obtain ⟨hargs, hR0, hJ, hK⟩ := hv
  have hx := B.exec
  have hb := B.bytes
  have hr := B.returns
  have hts := atoms_spec (ws := .code yX9_steady cX9_steady 1 (some .int) :: zt) B.pre
  have hown : s.vm.findClass RX9 = some m.cls := findClass_of_methodNamed B.named
  have hlocks := B.notSynchronized
  have hS : zS D dA vwCl wC nC b (zms wC []) M M s.heap := ⟨hR0, hJ, zF_rf _ _⟩
  have hS0 : va_S (zA nC b) s.heap s.heap [] := va_S.rf
  have hl := lv_entry ([.ref (b + 32)]) (n := 1) (Nat.le_of_ble_eq_true rfl)
  have hent : entryFrame m args 1 = F0 m 0 ((lg_sl ([.ref (b + 32)]) ++ List.replicate (1 - (lg_sl ([.ref (b + 32)])).length) Slot.unset).toArray) [] := by rw [hargs]; exact lg_entry_eq m ([.ref (b + 32)]) 1
  rw [hent]
  generalize (lg_sl ([.ref (b + 32)]) ++ List.replicate (1 - (lg_sl ([.ref (b + 32)])).length) Slot.unset).toArray = ls at hl ⊢
  have hl : lv_has ls 1 [(0, .ref (b + 32))] := hl
  refine lv_aload_n hx hb dX9_steady_0 rfl (lv_at hl 0 rfl) ?_
  refine z_getr (j2 := 33) hx hb hts (z_memU u9) hown hK.1 hS f9_0 (by decide) (zkd_of (rfl : zcd wC 32 = 8) rfl) (zrf_of (rfl : zcd wC 32 = 8) rfl) (Or.inl (hts _ (z_mem k116))) dX9_steady_1 ?_
  refine z_iconst hx hb dX9_steady_4 ?_
  refine z_aald (n := 2) (j2 := 35) hx hb hK.1 (t0 := 5) (r := 5) (by decide) rfl rfl hS (by decide) (zkd_of (rfl : zcd wC 33 = 9) rfl) (zln_of (rfl : zcd wC 33 = 9) rfl) (by decide) (by decide) (by decide) (zrf_of (rfl : zcd wC 33 = 9) rfl) dX9_steady_5 ?_
  refine z_calli (va_runV (As := []) (rest := []) ⟨hx, hb, hml, hown, hts⟩ (n_steady35 l D dA b M (by rw [g0])) (cwV 0 hts (z_gV k519 k488 k489 k5 k490) rfl rfl rfl dm_X2_steady ⟨Nat.le_of_ble_eq_true rfl, Nat.le_of_ble_eq_true rfl⟩) ⟨zP_blind, (z_recv hS hK.1 (by decide) (zkd_of (rfl : zcd wC 35 = 11) rfl) (by decide) (rfl : vwCl[2]? = some (RX2, TX2, 3))), z_pre hS hK⟩ rfl rfl hl.1 rfl (lv_room (Nat.le_of_ble_eq_true rfl)) dX9_steady_6 ⟨Nat.le_refl _, Nat.le_refl _⟩) hS hS0 (zms_sub rfl) (fun z5 M1 H locs r6 h2 F3 hS hS0 => ?_)
  obtain ⟨h7, h2⟩ := h2
  rw [h7] at hS
  have h8 := h2
  obtain ⟨z5e, h8⟩ := h8
  subst z5e
  refine lv_aload_n hx hb dX9_steady_9 rfl (lv_at hl 0 rfl) ?_
  refine z_getr (j2 := 33) hx hb hts (z_memU u9) hown hK.1 hS f9_0 (by decide) (zkd_of (rfl : zcd wC 32 = 8) rfl) (zrf_of (rfl : zcd wC 32 = 8) rfl) (Or.inl (hts _ (z_mem k116))) dX9_steady_10 ?_
  refine z_iconst hx hb dX9_steady_13 ?_
  refine z_aald (n := 2) (j2 := 38) hx hb hK.1 (t0 := 5) (r := 5) (by decide) rfl rfl hS (by decide) (zkd_of (rfl : zcd wC 33 = 9) rfl) (zln_of (rfl : zcd wC 33 = 9) rfl) (by decide) (by decide) (by decide) (zrf_of (rfl : zcd wC 33 = 9) rfl) dX9_steady_14 ?_
  refine z_calli (va_runV (As := []) (rest := [.int (iI 0)]) ⟨hx, hb, hml, hown, hts⟩ (n_steady38 l D dA b M (by rw [g1])) (cwV 0 hts (z_gV k519 k488 k489 k5 k490) rfl rfl rfl dm_X2_steady ⟨Nat.le_of_ble_eq_true rfl, Nat.le_of_ble_eq_true rfl⟩) ⟨zP_blind, (z_recv hS hK.1 (by decide) (zkd_of (rfl : zcd wC 38 = 11) rfl) (by decide) (rfl : vwCl[2]? = some (RX2, TX2, 3))), z_pre hS hK⟩ rfl rfl hl.1 rfl (lv_room (Nat.le_of_ble_eq_true rfl)) dX9_steady_15 ⟨Nat.le_refl _, Nat.le_refl _⟩) hS hS0 (zms_sub rfl) (fun z13 M9 H locs r14 h10 F11 hS hS0 => ?_)
  obtain ⟨h15, h10⟩ := h10
  rw [h15] at hS
  have h16 := h10
  obtain ⟨z13e, h16⟩ := h16
  subst z13e
  refine z_mmax hx hb (hml.trans hl.1.symm) hown (hts _ (z_mem k520)) (hts _ (z_mem k341)) (hts _ (z_mem k15)) (hts _ (z_mem k342)) (by exact Nat.le_of_ble_eq_true rfl) (by exact Nat.le_of_ble_eq_true rfl) (by exact Nat.le_refl _) (by exact Nat.le_refl _) (by decide) (by decide) dX9_steady_18 ?_
  refine z_top (show ((max 0 0) : Int) = 0 from by decide) ?_
  exact z_iret hx hb hr hlocks hS hS0 (by decide) (⟨rfl, by first | exact trivial | exact ⟨rfl, trivial⟩ | omega | (refine ⟨by omega, trivial⟩)⟩) dX9_steady_21

set_option maxHeartbeats 4000000 in
set_option maxRecDepth 100000 in
theorem n_empty (l : Launch) (D : va_G) (dA : Nat → ClassId) (b : Nat) (M : zM) (g0 : M 32 2 = 0) : Met l yX9_empty (.code yX9_empty cX9_empty 3 (some .int) :: zt) (z_rm 1) (va_Pc [.ref (b + 32)] (zP D dA vwCl (z_tys dA) wC nC b M)) (va_Qi (zQi wC (zms wC [514, 706]) M (fun z M1 => z = 0 ∧ True)) (zB D dA vwCl wC nC b) (zA nC b)) 0 0 (zA nC b) := by
  refine Met.ofW (cc := cX9_empty) (maxL := 3) (ret := (some .int)) (by decide) rfl ?_
  intro p e s m args below meth c s₁ B hml hv
  obtain ⟨hargs, hR0, hJ, hK⟩ := hv
  have hx := B.exec
  have hb := B.bytes
  have hr := B.returns
  have hts := atoms_spec (ws := .code yX9_empty cX9_empty 3 (some .int) :: zt) B.pre
  have hown : s.vm.findClass RX9 = some m.cls := findClass_of_methodNamed B.named
  have hlocks := B.notSynchronized
  have hS : zS D dA vwCl wC nC b (zms wC [514, 706]) M M s.heap := ⟨hR0, hJ, zF_rf _ _⟩
  have hS0 : va_S (zA nC b) s.heap s.heap [] := va_S.rf
  have hl := lv_entry ([.ref (b + 32)]) (n := 3) (Nat.le_of_ble_eq_true rfl)
  have hent : entryFrame m args 3 = F0 m 0 ((lg_sl ([.ref (b + 32)]) ++ List.replicate (3 - (lg_sl ([.ref (b + 32)])).length) Slot.unset).toArray) [] := by rw [hargs]; exact lg_entry_eq m ([.ref (b + 32)]) 3
  rw [hent]
  generalize (lg_sl ([.ref (b + 32)]) ++ List.replicate (3 - (lg_sl ([.ref (b + 32)])).length) Slot.unset).toArray = ls at hl ⊢
  have hl : lv_has ls 3 [(0, .ref (b + 32))] := hl
  refine lv_aload_n hx hb dX9_empty_0 rfl (lv_at hl 0 rfl) ?_
  refine z_geti hx hb hts (z_memU u9) hown hK.1 hS f9_2 (by decide) (zkd_of (rfl : zcd wC 32 = 8) rfl) (Or.inl (hts _ (z_mem k118))) dX9_empty_1 ?_
  refine z_top (show M 32 2 = 0 from by rw [g0]) ?_
  refine lv_istore_n (lv' := [(1, .int (iI 0)), (0, .ref (b + 32))]) hx hb dX9_empty_4 rfl hl (by decide) rfl (fun ls hl => ?_)
  refine lv_aload_n hx hb dX9_empty_5 rfl (lv_at hl 1 rfl) ?_
  refine z_iconst hx hb dX9_empty_6 ?_
  refine z_puti hx hb hts (z_memU u9) tyX9 tyX9_ok nmX9 hown hK.1 hS hS0 f9_2 (by decide) (zkd_of (rfl : zcd wC 32 = 8) rfl) (Or.inl (hts _ (z_mem k118))) rfl (z := 0) (by decide +kernel) (zbd_in (rfl : zcd wC 32 = 8) rfl (by decide)) (zms_of (rfl : zcd wC 32 = 8) rfl) dX9_empty_7 (fun H locs hS hS0 => ?_)
  obtain ⟨M1, e2⟩ : ∃ M1 : zM, M1 = zup M 32 2 0 := ⟨_, rfl⟩
  rw [← e2] at hS
  have J3 := hS.2.1
  refine z_iconst hx hb dX9_empty_10 ?_
  refine lv_istore_n (lv' := [(2, .int (iI 0)), (1, .int (iI 0)), (0, .ref (b + 32))]) hx hb dX9_empty_11 rfl hl (by decide) rfl (fun ls hl => ?_)
  refine lv_iload_n hx hb dX9_empty_12 rfl (lv_at hl 0 rfl) ?_
  refine z_iconst hx hb dX9_empty_13 ?_
  refine z_icmp_ge (tgt := 32) hx hb (by decide) (by decide) dX9_empty_14 (by decide) (fun c4 => absurd c4 (by decide)) (fun c4 => ?_)
  refine lv_aload_n hx hb dX9_empty_17 rfl (lv_at hl 2 rfl) ?_
  refine z_getr (j2 := 33) hx hb hts (z_memU u9) hown hK.1 hS f9_0 (by decide) (zkd_of (rfl : zcd wC 32 = 8) rfl) (zrf_of (rfl : zcd wC 32 = 8) rfl) (Or.inl (hts _ (z_mem k116))) dX9_empty_18 ?_
  refine lv_iload_n hx hb dX9_empty_21 rfl (lv_at hl 0 rfl) ?_
  refine z_aald (n := 2) (j2 := 35) hx hb hK.1 (t0 := 5) (r := 5) (by decide) rfl rfl hS (by decide) (zkd_of (rfl : zcd wC 33 = 9) rfl) (zln_of (rfl : zcd wC 33 = 9) rfl) (by decide) (by decide) (by decide) (zrf_of (rfl : zcd wC 33 = 9) rfl) dX9_empty_22 ?_
  refine z_callv (va_runV (As := []) (rest := []) ⟨hx, hb, hml, hown, hts⟩ (n_forget35 l D dA b M1) (cwV 0 hts (z_gV k458 k459 k460 k5 k461) rfl rfl rfl dm_X2_forget ⟨Nat.le_of_ble_eq_true rfl, Nat.le_of_ble_eq_true rfl⟩) ⟨zP_blind, (z_recv hS hK.1 (by decide) (zkd_of (rfl : zcd wC 35 = 11) rfl) (by decide) (rfl : vwCl[2]? = some (RX2, TX2, 3))), z_pre hS hK⟩ rfl rfl hl.1 rfl (lv_room (Nat.le_of_ble_eq_true rfl)) dX9_empty_23 ⟨Nat.le_refl _, Nat.le_refl _⟩) hS hS0 (zms_sub rfl) (fun M5 H locs h6 F7 hS hS0 => ?_)
  have J8 := hS.2.1
  refine z_iinc (lv' := [(2, .int (iI (0 + 1))), (1, .int (iI 0)), (0, .ref (b + 32))]) hx hb dX9_empty_26 hl (k := 0) rfl (by decide) rfl (fun ls hl => ?_)
  rw [show ((0 + 1) : Int) = 1 from by decide] at hl
  refine lv_goto (tgt := 12) hx hb dX9_empty_29 (by decide) ?_
  refine lv_iload_n hx hb dX9_empty_12 rfl (lv_at hl 0 rfl) ?_
  refine z_iconst hx hb dX9_empty_13 ?_
  refine z_icmp_ge (tgt := 32) hx hb (by decide) (by decide) dX9_empty_14 (by decide) (fun c9 => absurd c9 (by decide)) (fun c9 => ?_)
  refine lv_aload_n hx hb dX9_empty_17 rfl (lv_at hl 2 rfl) ?_
  refine z_getr (j2 := 33) hx hb hts (z_memU u9) hown hK.1 hS f9_0 (by decide) (zkd_of (rfl : zcd wC 32 = 8) rfl) (zrf_of (rfl : zcd wC 32 = 8) rfl) (Or.inl (hts _ (z_mem k116))) dX9_empty_18 ?_
  refine lv_iload_n hx hb dX9_empty_21 rfl (lv_at hl 0 rfl) ?_
  refine z_aald (n := 2) (j2 := 38) hx hb hK.1 (t0 := 5) (r := 5) (by decide) rfl rfl hS (by decide) (zkd_of (rfl : zcd wC 33 = 9) rfl) (zln_of (rfl : zcd wC 33 = 9) rfl) (by decide) (by decide) (by decide) (zrf_of (rfl : zcd wC 33 = 9) rfl) dX9_empty_22 ?_
  refine z_callv (va_runV (As := []) (rest := []) ⟨hx, hb, hml, hown, hts⟩ (n_forget38 l D dA b M5) (cwV 0 hts (z_gV k458 k459 k460 k5 k461) rfl rfl rfl dm_X2_forget ⟨Nat.le_of_ble_eq_true rfl, Nat.le_of_ble_eq_true rfl⟩) ⟨zP_blind, (z_recv hS hK.1 (by decide) (zkd_of (rfl : zcd wC 38 = 11) rfl) (by decide) (rfl : vwCl[2]? = some (RX2, TX2, 3))), z_pre hS hK⟩ rfl rfl hl.1 rfl (lv_room (Nat.le_of_ble_eq_true rfl)) dX9_empty_23 ⟨Nat.le_refl _, Nat.le_refl _⟩) hS hS0 (zms_sub rfl) (fun M10 H locs h11 F12 hS hS0 => ?_)
  have J13 := hS.2.1
  refine z_iinc (lv' := [(2, .int (iI (1 + 1))), (1, .int (iI 0)), (0, .ref (b + 32))]) hx hb dX9_empty_26 hl (k := 0) rfl (by decide) rfl (fun ls hl => ?_)
  rw [show ((1 + 1) : Int) = 2 from by decide] at hl
  refine lv_goto (tgt := 12) hx hb dX9_empty_29 (by decide) ?_
  refine lv_iload_n hx hb dX9_empty_12 rfl (lv_at hl 0 rfl) ?_
  refine z_iconst hx hb dX9_empty_13 ?_
  refine z_icmp_ge (tgt := 32) hx hb (by decide) (by decide) dX9_empty_14 (by decide) (fun c14 => ?_) (fun c14 => absurd c14 (by decide))
  refine lv_iload_n hx hb dX9_empty_32 rfl (lv_at hl 1 rfl) ?_
  exact z_iret hx hb hr hlocks hS hS0 (by decide) (by first | exact trivial | exact ⟨rfl, trivial⟩ | omega | (refine ⟨by omega, trivial⟩)) dX9_empty_33

set_option maxHeartbeats 4000000 in
set_option maxRecDepth 100000 in
theorem n_heardInAll (l : Launch) (D : va_G) (dA : Nat → ClassId) (b : Nat) (M : zM) (t : Int) (r_t : R64 t) (g0 : M 32 2 = 0) : Met l yX9_heardInAll (.code yX9_heardInAll cX9_heardInAll 5 (some .int) :: zt) (z_rm 0) (va_Pc [.ref (b + 32), .long (iL t)] (zP D dA vwCl (z_tys dA) wC nC b M)) (va_Qi (zQi wC (zms wC []) M (fun z M1 => M1 = M ∧ (z = 0 ∧ True))) (zB D dA vwCl wC nC b) (zA nC b)) 0 0 (zA nC b) := by
  refine Met.ofW (cc := cX9_heardInAll) (maxL := 5) (ret := (some .int)) (by decide) rfl ?_
  intro p e s m args below meth c s₁ B hml hv
  obtain ⟨hargs, hR0, hJ, hK⟩ := hv
  have hx := B.exec
  have hb := B.bytes
  have hr := B.returns
  have hts := atoms_spec (ws := .code yX9_heardInAll cX9_heardInAll 5 (some .int) :: zt) B.pre
  have hown : s.vm.findClass RX9 = some m.cls := findClass_of_methodNamed B.named
  have hlocks := B.notSynchronized
  have hS : zS D dA vwCl wC nC b (zms wC []) M M s.heap := ⟨hR0, hJ, zF_rf _ _⟩
  have hS0 : va_S (zA nC b) s.heap s.heap [] := va_S.rf
  have hl := lv_entry ([.ref (b + 32), .long (iL t)]) (n := 5) (Nat.le_of_ble_eq_true rfl)
  have hent : entryFrame m args 5 = F0 m 0 ((lg_sl ([.ref (b + 32), .long (iL t)]) ++ List.replicate (5 - (lg_sl ([.ref (b + 32), .long (iL t)])).length) Slot.unset).toArray) [] := by rw [hargs]; exact lg_entry_eq m ([.ref (b + 32), .long (iL t)]) 5
  rw [hent]
  generalize (lg_sl ([.ref (b + 32), .long (iL t)]) ++ List.replicate (5 - (lg_sl ([.ref (b + 32), .long (iL t)])).length) Slot.unset).toArray = ls at hl ⊢
  have hl : lv_has ls 5 [(0, .ref (b + 32)), (1, .long (iL t))] := hl
  refine z_iconst hx hb dX9_heardInAll_0 ?_
  refine lv_istore_n (lv' := [(3, .int (iI 0)), (0, .ref (b + 32)), (1, .long (iL t))]) hx hb dX9_heardInAll_1 rfl hl (by decide) rfl (fun ls hl => ?_)
  refine z_iconst hx hb dX9_heardInAll_2 ?_
  refine lv_istore (lv' := [(4, .int (iI 0)), (3, .int (iI 0)), (0, .ref (b + 32)), (1, .long (iL t))]) hx hb dX9_heardInAll_3 hl (by decide) rfl (fun ls hl => ?_)
  refine lv_iload hx hb dX9_heardInAll_5 (lv_at hl 0 rfl) ?_
  refine lv_aload_n hx hb dX9_heardInAll_7 rfl (lv_at hl 2 rfl) ?_
  refine z_geti hx hb hts (z_memU u9) hown hK.1 hS f9_2 (by decide) (zkd_of (rfl : zcd wC 32 = 8) rfl) (Or.inl (hts _ (z_mem k118))) dX9_heardInAll_8 ?_
  refine z_top (show M 32 2 = 0 from by rw [g0]) ?_
  refine z_icmp_ge (tgt := 35) hx hb (by decide) (by decide) dX9_heardInAll_11 (by decide) (fun c1 => ?_) (fun c1 => absurd c1 (by decide))
  refine lv_iload_n hx hb dX9_heardInAll_35 rfl (lv_at hl 1 rfl) ?_
  exact z_iret hx hb hr hlocks hS hS0 (by decide) (⟨rfl, by first | exact trivial | exact ⟨rfl, trivial⟩ | omega | (refine ⟨by omega, trivial⟩)⟩) dX9_heardInAll_36

set_option maxHeartbeats 4000000 in
set_option maxRecDepth 100000 in
theorem n_look (l : Launch) (D : va_G) (dA : Nat → ClassId) (b : Nat) (M : zM) (g0 : M 32 2 = 0) (g1 : M 35 2 = 0) (g2 : M 38 2 = 0) : Met l yX1_look (.code yX1_look cX1_look 4 none :: zt) (z_rm 2) (va_Pc [.ref (b + 57), .ref (b + 32)] (zP D dA vwCl (z_tys dA) wC nC b M)) (va_Qv (zQv wC (zms wC [1024, 1025]) M (fun M1 => (True) ∧ M1 57 0 = 0 ∧ M1 57 1 = 0)) (zB D dA vwCl wC nC b) (zA nC b)) 0 0 (zA nC b) := by
  refine Met.ofW (cc := cX1_look) (maxL := 4) (ret := none) (by decide) rfl ?_
  intro p e s m args below meth c s₁ B hml hv
  obtain ⟨hargs, hR0, hJ, hK⟩ := hv
  have hx := B.exec
  have hb := B.bytes
  have hr := B.returns
  have hts := atoms_spec (ws := .code yX1_look cX1_look 4 none :: zt) B.pre
  have hown : s.vm.findClass RX1 = some m.cls := findClass_of_methodNamed B.named
  have hlocks := B.notSynchronized
  have hS : zS D dA vwCl wC nC b (zms wC [1024, 1025]) M M s.heap := ⟨hR0, hJ, zF_rf _ _⟩
  have hS0 : va_S (zA nC b) s.heap s.heap [] := va_S.rf
  have hl := lv_entry ([.ref (b + 57), .ref (b + 32)]) (n := 4) (Nat.le_of_ble_eq_true rfl)
  have hent : entryFrame m args 4 = F0 m 0 ((lg_sl ([.ref (b + 57), .ref (b + 32)]) ++ List.replicate (4 - (lg_sl ([.ref (b + 57), .ref (b + 32)])).length) Slot.unset).toArray) [] := by rw [hargs]; exact lg_entry_eq m ([.ref (b + 57), .ref (b + 32)]) 4
  rw [hent]
  generalize (lg_sl ([.ref (b + 57), .ref (b + 32)]) ++ List.replicate (4 - (lg_sl ([.ref (b + 57), .ref (b + 32)])).length) Slot.unset).toArray = ls at hl ⊢
  have hl : lv_has ls 4 [(0, .ref (b + 57)), (1, .ref (b + 32))] := hl
  refine lv_aload_n hx hb dX1_look_0 rfl (lv_at hl 0 rfl) ?_
  refine lv_aload_n hx hb dX1_look_1 rfl (lv_at hl 1 rfl) ?_
  refine z_calli (va_runV (As := []) (rest := [.ref (b + 57)]) ⟨hx, hb, hml, hown, hts⟩ (n_steady l D dA b M (by rw [g1]) (by rw [g2])) (cwV 0 hts (z_gV k515 k516 k517 k4 k518) rfl rfl rfl dm_X9_steady ⟨Nat.le_of_ble_eq_true rfl, Nat.le_of_ble_eq_true rfl⟩) ⟨zP_blind, (z_recv hS hK.1 (by decide) (zkd_of (rfl : zcd wC 32 = 8) rfl) (by decide) (rfl : vwCl[9]? = some (RX9, TX9, 3))), z_pre hS hK⟩ rfl rfl hl.1 rfl (lv_room (Nat.le_of_ble_eq_true rfl)) dX1_look_2 ⟨Nat.le_refl _, Nat.le_refl _⟩) hS hS0 (zms_sub rfl) (fun z5 M1 H locs r6 h2 F3 hS hS0 => ?_)
  obtain ⟨h7, h2⟩ := h2
  rw [h7] at hS
  have h8 := h2
  obtain ⟨z5e, h8⟩ := h8
  subst z5e
  refine z_i2l hx hb (by decide) dX1_look_5 ?_
  refine z_putl hx hb hts (z_memU u1) tyX1 tyX1_ok nmX1 hown hK.1 hS hS0 f1_1 (by decide) (zkd_of (rfl : zcd wC 57 = 16) rfl) (Or.inl (hts _ (z_mem k130))) rfl (z := 0) (by decide +kernel) (zbd_in (rfl : zcd wC 57 = 16) rfl (by decide)) (zms_of (rfl : zcd wC 57 = 16) rfl) dX1_look_6 (fun H locs hS hS0 => ?_)
  obtain ⟨M9, e10⟩ : ∃ M9 : zM, M9 = zup M 57 1 0 := ⟨_, rfl⟩
  rw [← e10] at hS
  have J11 := hS.2.1
  refine lv_aload_n hx hb dX1_look_9 rfl (lv_at hl 0 rfl) ?_
  refine z_iconst hx hb dX1_look_10 ?_
  refine z_puti hx hb hts (z_memU u1) tyX1 tyX1_ok nmX1 hown hK.1 hS hS0 f1_0 (by decide) (zkd_of (rfl : zcd wC 57 = 16) rfl) (Or.inl (hts _ (z_mem k129))) rfl (z := 0) (by decide +kernel) (zbd_in (rfl : zcd wC 57 = 16) rfl (by decide)) (zms_of (rfl : zcd wC 57 = 16) rfl) dX1_look_11 (fun H locs hS hS0 => ?_)
  obtain ⟨M12, e13⟩ : ∃ M12 : zM, M12 = zup M9 57 0 0 := ⟨_, rfl⟩
  rw [← e13] at hS
  have J14 := hS.2.1
  refine z_iconst hx hb dX1_look_14 ?_
  refine lv_istore_n (lv' := [(2, .int (iI 0)), (0, .ref (b + 57)), (1, .ref (b + 32))]) hx hb dX1_look_15 rfl hl (by decide) rfl (fun ls hl => ?_)
  refine lv_iload_n hx hb dX1_look_16 rfl (lv_at hl 0 rfl) ?_
  refine z_iconst hx hb dX1_look_17 ?_
  refine z_icmp_ge (tgt := 76) hx hb (by decide) (by decide) dX1_look_18 (by decide) (fun c15 => absurd c15 (by decide)) (fun c15 => ?_)
  refine lv_aload_n hx hb dX1_look_21 rfl (lv_at hl 2 rfl) ?_
  refine lv_iload_n hx hb dX1_look_22 rfl (lv_at hl 0 rfl) ?_
  refine z_callq (va_runV (As := [.int (iI 0)]) (rest := []) ⟨hx, hb, hml, hown, hts⟩ (n_find l D dA b M12 0 (by decide) (by rw [e13, zup_n _ _ (by omega), e10, zup_n _ _ (by omega), g0])) (cwV 1 hts (z_gV k521 k412 k413 k4 k414) rfl rfl rfl dm_X9_find ⟨Nat.le_of_ble_eq_true rfl, Nat.le_of_ble_eq_true rfl⟩) ⟨zP_blind, (z_recv hS hK.1 (by decide) (zkd_of (rfl : zcd wC 32 = 8) rfl) (by decide) (rfl : vwCl[9]? = some (RX9, TX9, 3))), z_pre hS hK⟩ rfl rfl hl.1 rfl (lv_room (Nat.le_of_ble_eq_true rfl)) dX1_look_23 ⟨Nat.le_refl _, Nat.le_refl _⟩) hS hS0 (zms_sub rfl) (fun z20 M16 H locs h17 F18 hS hS0 => ?_)
  obtain ⟨h21, h17⟩ := h17
  rw [h21] at hS
  have h22 := h17
  obtain ⟨z20e, h22⟩ := h22
  subst z20e
  show W _ _ _ _ _ _ _ _ _ _ _ _ _ _ _ (F0 m _ ls (.null :: []))
  refine lv_astore_nN (lv' := [(3, .null), (2, .int (iI 0)), (0, .ref (b + 57)), (1, .ref (b + 32))]) hx hb dX1_look_26 rfl hl (by decide) rfl (fun ls hl => ?_)
  refine lv_aload_nN hx hb dX1_look_27 rfl (lv_at hl 0 rfl) ?_
  refine lv_ifnullN (tgt := 70) hx hb dX1_look_28 (by decide) ?_
  refine z_iinc (lv' := [(2, .int (iI (0 + 1))), (3, .null), (0, .ref (b + 57)), (1, .ref (b + 32))]) hx hb dX1_look_70 hl (k := 1) rfl (by decide) rfl (fun ls hl => ?_)
  rw [show ((0 + 1) : Int) = 1 from by decide] at hl
  refine lv_goto (tgt := 16) hx hb dX1_look_73 (by decide) ?_
  refine lv_iload_n hx hb dX1_look_16 rfl (lv_at hl 0 rfl) ?_
  refine z_iconst hx hb dX1_look_17 ?_
  refine z_icmp_ge (tgt := 76) hx hb (by decide) (by decide) dX1_look_18 (by decide) (fun c23 => absurd c23 (by decide)) (fun c23 => ?_)
  refine lv_aload_n hx hb dX1_look_21 rfl (lv_at hl 3 rfl) ?_
  refine lv_iload_n hx hb dX1_look_22 rfl (lv_at hl 0 rfl) ?_
  refine z_callq (va_runV (As := [.int (iI 1)]) (rest := []) ⟨hx, hb, hml, hown, hts⟩ (n_find l D dA b M12 1 (by decide) (by rw [e13, zup_n _ _ (by omega), e10, zup_n _ _ (by omega), g0])) (cwV 1 hts (z_gV k521 k412 k413 k4 k414) rfl rfl rfl dm_X9_find ⟨Nat.le_of_ble_eq_true rfl, Nat.le_of_ble_eq_true rfl⟩) ⟨zP_blind, (z_recv hS hK.1 (by decide) (zkd_of (rfl : zcd wC 32 = 8) rfl) (by decide) (rfl : vwCl[9]? = some (RX9, TX9, 3))), z_pre hS hK⟩ rfl rfl hl.1 rfl (lv_room (Nat.le_of_ble_eq_true rfl)) dX1_look_23 ⟨Nat.le_refl _, Nat.le_refl _⟩) hS hS0 (zms_sub rfl) (fun z28 M24 H locs h25 F26 hS hS0 => ?_)
  obtain ⟨h29, h25⟩ := h25
  rw [h29] at hS
  have h30 := h25
  obtain ⟨z28e, h30⟩ := h30
  subst z28e
  show W _ _ _ _ _ _ _ _ _ _ _ _ _ _ _ (F0 m _ ls (.null :: []))
  refine lv_astore_nN (lv' := [(3, .null), (2, .int (iI 1)), (0, .ref (b + 57)), (1, .ref (b + 32))]) hx hb dX1_look_26 rfl hl (by decide) rfl (fun ls hl => ?_)
  refine lv_aload_nN hx hb dX1_look_27 rfl (lv_at hl 0 rfl) ?_
  refine lv_ifnullN (tgt := 70) hx hb dX1_look_28 (by decide) ?_
  refine z_iinc (lv' := [(2, .int (iI (1 + 1))), (3, .null), (0, .ref (b + 57)), (1, .ref (b + 32))]) hx hb dX1_look_70 hl (k := 1) rfl (by decide) rfl (fun ls hl => ?_)
  rw [show ((1 + 1) : Int) = 2 from by decide] at hl
  refine lv_goto (tgt := 16) hx hb dX1_look_73 (by decide) ?_
  refine lv_iload_n hx hb dX1_look_16 rfl (lv_at hl 0 rfl) ?_
  refine z_iconst hx hb dX1_look_17 ?_
  refine z_icmp_ge (tgt := 76) hx hb (by decide) (by decide) dX1_look_18 (by decide) (fun c31 => absurd c31 (by decide)) (fun c31 => ?_)
  refine lv_aload_n hx hb dX1_look_21 rfl (lv_at hl 3 rfl) ?_
  refine lv_iload_n hx hb dX1_look_22 rfl (lv_at hl 0 rfl) ?_
  refine z_callq (va_runV (As := [.int (iI 2)]) (rest := []) ⟨hx, hb, hml, hown, hts⟩ (n_find l D dA b M12 2 (by decide) (by rw [e13, zup_n _ _ (by omega), e10, zup_n _ _ (by omega), g0])) (cwV 1 hts (z_gV k521 k412 k413 k4 k414) rfl rfl rfl dm_X9_find ⟨Nat.le_of_ble_eq_true rfl, Nat.le_of_ble_eq_true rfl⟩) ⟨zP_blind, (z_recv hS hK.1 (by decide) (zkd_of (rfl : zcd wC 32 = 8) rfl) (by decide) (rfl : vwCl[9]? = some (RX9, TX9, 3))), z_pre hS hK⟩ rfl rfl hl.1 rfl (lv_room (Nat.le_of_ble_eq_true rfl)) dX1_look_23 ⟨Nat.le_refl _, Nat.le_refl _⟩) hS hS0 (zms_sub rfl) (fun z36 M32 H locs h33 F34 hS hS0 => ?_)
  obtain ⟨h37, h33⟩ := h33
  rw [h37] at hS
  have h38 := h33
  obtain ⟨z36e, h38⟩ := h38
  subst z36e
  show W _ _ _ _ _ _ _ _ _ _ _ _ _ _ _ (F0 m _ ls (.null :: []))
  refine lv_astore_nN (lv' := [(3, .null), (2, .int (iI 2)), (0, .ref (b + 57)), (1, .ref (b + 32))]) hx hb dX1_look_26 rfl hl (by decide) rfl (fun ls hl => ?_)
  refine lv_aload_nN hx hb dX1_look_27 rfl (lv_at hl 0 rfl) ?_
  refine lv_ifnullN (tgt := 70) hx hb dX1_look_28 (by decide) ?_
  refine z_iinc (lv' := [(2, .int (iI (2 + 1))), (3, .null), (0, .ref (b + 57)), (1, .ref (b + 32))]) hx hb dX1_look_70 hl (k := 1) rfl (by decide) rfl (fun ls hl => ?_)
  rw [show ((2 + 1) : Int) = 3 from by decide] at hl
  refine lv_goto (tgt := 16) hx hb dX1_look_73 (by decide) ?_
  refine lv_iload_n hx hb dX1_look_16 rfl (lv_at hl 0 rfl) ?_
  refine z_iconst hx hb dX1_look_17 ?_
  refine z_icmp_ge (tgt := 76) hx hb (by decide) (by decide) dX1_look_18 (by decide) (fun c39 => absurd c39 (by decide)) (fun c39 => ?_)
  refine lv_aload_n hx hb dX1_look_21 rfl (lv_at hl 3 rfl) ?_
  refine lv_iload_n hx hb dX1_look_22 rfl (lv_at hl 0 rfl) ?_
  refine z_callq (va_runV (As := [.int (iI 3)]) (rest := []) ⟨hx, hb, hml, hown, hts⟩ (n_find l D dA b M12 3 (by decide) (by rw [e13, zup_n _ _ (by omega), e10, zup_n _ _ (by omega), g0])) (cwV 1 hts (z_gV k521 k412 k413 k4 k414) rfl rfl rfl dm_X9_find ⟨Nat.le_of_ble_eq_true rfl, Nat.le_of_ble_eq_true rfl⟩) ⟨zP_blind, (z_recv hS hK.1 (by decide) (zkd_of (rfl : zcd wC 32 = 8) rfl) (by decide) (rfl : vwCl[9]? = some (RX9, TX9, 3))), z_pre hS hK⟩ rfl rfl hl.1 rfl (lv_room (Nat.le_of_ble_eq_true rfl)) dX1_look_23 ⟨Nat.le_refl _, Nat.le_refl _⟩) hS hS0 (zms_sub rfl) (fun z44 M40 H locs h41 F42 hS hS0 => ?_)
  obtain ⟨h45, h41⟩ := h41
  rw [h45] at hS
  have h46 := h41
  obtain ⟨z44e, h46⟩ := h46
  subst z44e
  show W _ _ _ _ _ _ _ _ _ _ _ _ _ _ _ (F0 m _ ls (.null :: []))
  refine lv_astore_nN (lv' := [(3, .null), (2, .int (iI 3)), (0, .ref (b + 57)), (1, .ref (b + 32))]) hx hb dX1_look_26 rfl hl (by decide) rfl (fun ls hl => ?_)
  refine lv_aload_nN hx hb dX1_look_27 rfl (lv_at hl 0 rfl) ?_
  refine lv_ifnullN (tgt := 70) hx hb dX1_look_28 (by decide) ?_
  refine z_iinc (lv' := [(2, .int (iI (3 + 1))), (3, .null), (0, .ref (b + 57)), (1, .ref (b + 32))]) hx hb dX1_look_70 hl (k := 1) rfl (by decide) rfl (fun ls hl => ?_)
  rw [show ((3 + 1) : Int) = 4 from by decide] at hl
  refine lv_goto (tgt := 16) hx hb dX1_look_73 (by decide) ?_
  refine lv_iload_n hx hb dX1_look_16 rfl (lv_at hl 0 rfl) ?_
  refine z_iconst hx hb dX1_look_17 ?_
  refine z_icmp_ge (tgt := 76) hx hb (by decide) (by decide) dX1_look_18 (by decide) (fun c47 => ?_) (fun c47 => absurd c47 (by decide))
  exact z_vret hx hb hr hlocks hS hS0 (⟨by first | exact trivial | exact ⟨rfl, trivial⟩ | omega | (refine ⟨by omega, trivial⟩), by rw [e13, zup_s], by rw [e13, zup_n _ _ (by omega), e10, zup_s]⟩) dX1_look_76

set_option maxHeartbeats 4000000 in
set_option maxRecDepth 100000 in
theorem n_allTicks (l : Launch) (D : va_G) (dA : Nat → ClassId) (b : Nat) (M : zM) (g0 : M 57 0 = 0) : Met l yX1_allTicks (.code yX1_allTicks cX1_allTicks 4 (some .long) :: zt) (z_rm 0) (va_Pc [.ref (b + 57)] (zP D dA vwCl (z_tys dA) wC nC b M)) (va_Ql (zQl wC (zms wC []) M (fun z M1 => M1 = M ∧ (z = 1 ∧ True))) (zB D dA vwCl wC nC b) (zA nC b)) 0 0 (zA nC b) := by
  refine Met.ofW (cc := cX1_allTicks) (maxL := 4) (ret := (some .long)) (by decide) rfl ?_
  intro p e s m args below meth c s₁ B hml hv
  obtain ⟨hargs, hR0, hJ, hK⟩ := hv
  have hx := B.exec
  have hb := B.bytes
  have hr := B.returns
  have hts := atoms_spec (ws := .code yX1_allTicks cX1_allTicks 4 (some .long) :: zt) B.pre
  have hown : s.vm.findClass RX1 = some m.cls := findClass_of_methodNamed B.named
  have hlocks := B.notSynchronized
  have hS : zS D dA vwCl wC nC b (zms wC []) M M s.heap := ⟨hR0, hJ, zF_rf _ _⟩
  have hS0 : va_S (zA nC b) s.heap s.heap [] := va_S.rf
  have hl := lv_entry ([.ref (b + 57)]) (n := 4) (Nat.le_of_ble_eq_true rfl)
  have hent : entryFrame m args 4 = F0 m 0 ((lg_sl ([.ref (b + 57)]) ++ List.replicate (4 - (lg_sl ([.ref (b + 57)])).length) Slot.unset).toArray) [] := by rw [hargs]; exact lg_entry_eq m ([.ref (b + 57)]) 4
  rw [hent]
  generalize (lg_sl ([.ref (b + 57)]) ++ List.replicate (4 - (lg_sl ([.ref (b + 57)])).length) Slot.unset).toArray = ls at hl ⊢
  have hl : lv_has ls 4 [(0, .ref (b + 57))] := hl
  refine z_lconst1 hx hb dX1_allTicks_0 ?_
  refine lv_lstore_n (lv' := [(1, .long (iL 1)), (0, .ref (b + 57))]) hx hb dX1_allTicks_1 rfl hl (by decide) rfl (fun ls hl => ?_)
  refine z_iconst hx hb dX1_allTicks_2 ?_
  refine lv_istore_n (lv' := [(3, .int (iI 0)), (1, .long (iL 1)), (0, .ref (b + 57))]) hx hb dX1_allTicks_3 rfl hl (by decide) rfl (fun ls hl => ?_)
  refine lv_iload_n hx hb dX1_allTicks_4 rfl (lv_at hl 0 rfl) ?_
  refine lv_aload_n hx hb dX1_allTicks_5 rfl (lv_at hl 2 rfl) ?_
  refine z_geti hx hb hts (z_memU u1) hown hK.1 hS f1_0 (by decide) (zkd_of (rfl : zcd wC 57 = 16) rfl) (Or.inl (hts _ (z_mem k129))) dX1_allTicks_6 ?_
  refine z_top (show M 57 0 = 0 from by rw [g0]) ?_
  refine z_icmp_ge (tgt := 29) hx hb (by decide) (by decide) dX1_allTicks_9 (by decide) (fun c1 => ?_) (fun c1 => absurd c1 (by decide))
  refine lv_lload_n hx hb dX1_allTicks_29 rfl (lv_at hl 1 rfl) ?_
  exact z_lret hx hb hr hlocks hS hS0 (by decide) (⟨rfl, by first | exact trivial | exact ⟨rfl, trivial⟩ | omega | (refine ⟨by omega, trivial⟩)⟩) dX1_allTicks_30

set_option maxHeartbeats 4000000 in
set_option maxRecDepth 100000 in
theorem n_sharedTicks (l : Launch) (D : va_G) (dA : Nat → ClassId) (b : Nat) (M : zM) (g0 : M 57 0 = 0) : Met l yX1_sharedTicks (.code yX1_sharedTicks cX1_sharedTicks 5 (some .int) :: zt) (z_rm 0) (va_Pc [.ref (b + 57)] (zP D dA vwCl (z_tys dA) wC nC b M)) (va_Qi (zQi wC (zms wC []) M (fun z M1 => M1 = M ∧ (z = 1 ∧ True))) (zB D dA vwCl wC nC b) (zA nC b)) 0 0 (zA nC b) := by
  refine Met.ofW (cc := cX1_sharedTicks) (maxL := 5) (ret := (some .int)) (by decide) rfl ?_
  intro p e s m args below meth c s₁ B hml hv
  obtain ⟨hargs, hR0, hJ, hK⟩ := hv
  have hx := B.exec
  have hb := B.bytes
  have hr := B.returns
  have hts := atoms_spec (ws := .code yX1_sharedTicks cX1_sharedTicks 5 (some .int) :: zt) B.pre
  have hown : s.vm.findClass RX1 = some m.cls := findClass_of_methodNamed B.named
  have hlocks := B.notSynchronized
  have hS : zS D dA vwCl wC nC b (zms wC []) M M s.heap := ⟨hR0, hJ, zF_rf _ _⟩
  have hS0 : va_S (zA nC b) s.heap s.heap [] := va_S.rf
  have hl := lv_entry ([.ref (b + 57)]) (n := 5) (Nat.le_of_ble_eq_true rfl)
  have hent : entryFrame m args 5 = F0 m 0 ((lg_sl ([.ref (b + 57)]) ++ List.replicate (5 - (lg_sl ([.ref (b + 57)])).length) Slot.unset).toArray) [] := by rw [hargs]; exact lg_entry_eq m ([.ref (b + 57)]) 5
  rw [hent]
  generalize (lg_sl ([.ref (b + 57)]) ++ List.replicate (5 - (lg_sl ([.ref (b + 57)])).length) Slot.unset).toArray = ls at hl ⊢
  have hl : lv_has ls 5 [(0, .ref (b + 57))] := hl
  refine z_lconst1 hx hb dX1_sharedTicks_0 ?_
  refine lv_lstore_n (lv' := [(1, .long (iL 1)), (0, .ref (b + 57))]) hx hb dX1_sharedTicks_1 rfl hl (by decide) rfl (fun ls hl => ?_)
  refine z_iconst hx hb dX1_sharedTicks_2 ?_
  refine lv_istore_n (lv' := [(3, .int (iI 0)), (1, .long (iL 1)), (0, .ref (b + 57))]) hx hb dX1_sharedTicks_3 rfl hl (by decide) rfl (fun ls hl => ?_)
  refine lv_iload_n hx hb dX1_sharedTicks_4 rfl (lv_at hl 0 rfl) ?_
  refine lv_aload_n hx hb dX1_sharedTicks_5 rfl (lv_at hl 2 rfl) ?_
  refine z_geti hx hb hts (z_memU u1) hown hK.1 hS f1_0 (by decide) (zkd_of (rfl : zcd wC 57 = 16) rfl) (Or.inl (hts _ (z_mem k129))) dX1_sharedTicks_6 ?_
  refine z_top (show M 57 0 = 0 from by rw [g0]) ?_
  refine z_icmp_ge (tgt := 60) hx hb (by decide) (by decide) dX1_sharedTicks_9 (by decide) (fun c1 => ?_) (fun c1 => absurd c1 (by decide))
  refine lv_lload_n hx hb dX1_sharedTicks_60 rfl (lv_at hl 1 rfl) ?_
  refine z_l2i hx hb dX1_sharedTicks_61 ?_
  exact z_iret hx hb hr hlocks hS hS0 (by decide) (⟨rfl, by first | exact trivial | exact ⟨rfl, trivial⟩ | omega | (refine ⟨by omega, trivial⟩)⟩) dX1_sharedTicks_62

set_option maxHeartbeats 4000000 in
set_option maxRecDepth 100000 in
theorem n_howOften (l : Launch) (D : va_G) (dA : Nat → ClassId) (b : Nat) (M : zM) (g0 : M 57 0 = 0) : Met l yX1_howOften (.code yX1_howOften cX1_howOften 8 (some .long) :: zt) (z_rm 1) (va_Pc [.ref (b + 57)] (zP D dA vwCl (z_tys dA) wC nC b M)) (va_Ql (zQl wC (zms wC []) M (fun z M1 => M1 = M ∧ (z = 1 ∧ True))) (zB D dA vwCl wC nC b) (zA nC b)) 0 0 (zA nC b) := by
  refine Met.ofW (cc := cX1_howOften) (maxL := 8) (ret := (some .long)) (by decide) rfl ?_
  intro p e s m args below meth c s₁ B hml hv
  obtain ⟨hargs, hR0, hJ, hK⟩ := hv
  have hx := B.exec
  have hb := B.bytes
  have hr := B.returns
  have hts := atoms_spec (ws := .code yX1_howOften cX1_howOften 8 (some .long) :: zt) B.pre
  have hown : s.vm.findClass RX1 = some m.cls := findClass_of_methodNamed B.named
  have hlocks := B.notSynchronized
  have hS : zS D dA vwCl wC nC b (zms wC []) M M s.heap := ⟨hR0, hJ, zF_rf _ _⟩
  have hS0 : va_S (zA nC b) s.heap s.heap [] := va_S.rf
  have hl := lv_entry ([.ref (b + 57)]) (n := 8) (Nat.le_of_ble_eq_true rfl)
  have hent : entryFrame m args 8 = F0 m 0 ((lg_sl ([.ref (b + 57)]) ++ List.replicate (8 - (lg_sl ([.ref (b + 57)])).length) Slot.unset).toArray) [] := by rw [hargs]; exact lg_entry_eq m ([.ref (b + 57)]) 8
  rw [hent]
  generalize (lg_sl ([.ref (b + 57)]) ++ List.replicate (8 - (lg_sl ([.ref (b + 57)])).length) Slot.unset).toArray = ls at hl ⊢
  have hl : lv_has ls 8 [(0, .ref (b + 57))] := hl
  refine lv_aload_n hx hb dX1_howOften_0 rfl (lv_at hl 0 rfl) ?_
  refine z_calli (va_runV (As := []) (rest := []) ⟨hx, hb, hml, hown, hts⟩ (n_sharedTicks l D dA b M (by rw [g0])) (cwV 0 hts (z_gV k575 k576 k1370 k7 k577) rfl rfl rfl dm_X1_sharedTicks ⟨Nat.le_of_ble_eq_true rfl, Nat.le_of_ble_eq_true rfl⟩) ⟨zP_blind, (z_recv hS hK.1 (by decide) (zkd_of (rfl : zcd wC 57 = 16) rfl) (by decide) (rfl : vwCl[1]? = some (RX1, TX1, 4))), z_pre hS hK⟩ rfl rfl hl.1 rfl (lv_room (Nat.le_of_ble_eq_true rfl)) dX1_howOften_1 ⟨Nat.le_refl _, Nat.le_refl _⟩) hS hS0 (zms_sub rfl) (fun z5 M1 H locs r6 h2 F3 hS hS0 => ?_)
  obtain ⟨h7, h2⟩ := h2
  rw [h7] at hS
  have h8 := h2
  obtain ⟨z5e, h8⟩ := h8
  subst z5e
  refine lv_istore_n (lv' := [(1, .int (iI 1)), (0, .ref (b + 57))]) hx hb dX1_howOften_4 rfl hl (by decide) rfl (fun ls hl => ?_)
  refine z_lconst0 hx hb dX1_howOften_5 ?_
  refine lv_lstore_n (lv' := [(2, .long (iL 0)), (1, .int (iI 1)), (0, .ref (b + 57))]) hx hb dX1_howOften_6 rfl hl (by decide) rfl (fun ls hl => ?_)
  refine z_iconst hx hb dX1_howOften_7 ?_
  refine lv_istore (lv' := [(4, .int (iI 0)), (2, .long (iL 0)), (1, .int (iI 1)), (0, .ref (b + 57))]) hx hb dX1_howOften_8 hl (by decide) rfl (fun ls hl => ?_)
  refine lv_iload hx hb dX1_howOften_10 (lv_at hl 0 rfl) ?_
  refine lv_iload_n hx hb dX1_howOften_12 rfl (lv_at hl 2 rfl) ?_
  refine z_icmp_ge (tgt := 74) hx hb (by decide) (by decide) dX1_howOften_13 (by decide) (fun c9 => absurd c9 (by decide)) (fun c9 => ?_)
  refine z_lconst1 hx hb dX1_howOften_16 ?_
  refine lv_lstore (lv' := [(5, .long (iL 1)), (4, .int (iI 0)), (2, .long (iL 0)), (1, .int (iI 1)), (0, .ref (b + 57))]) hx hb dX1_howOften_17 hl (by decide) rfl (fun ls hl => ?_)
  refine z_iconst hx hb dX1_howOften_19 ?_
  refine lv_istore (lv' := [(7, .int (iI 0)), (5, .long (iL 1)), (4, .int (iI 0)), (2, .long (iL 0)), (1, .int (iI 1)), (0, .ref (b + 57))]) hx hb dX1_howOften_20 hl (by decide) rfl (fun ls hl => ?_)
  refine lv_iload hx hb dX1_howOften_22 (lv_at hl 0 rfl) ?_
  refine lv_aload_n hx hb dX1_howOften_24 rfl (lv_at hl 5 rfl) ?_
  refine z_geti hx hb hts (z_memU u1) hown hK.1 hS f1_0 (by decide) (zkd_of (rfl : zcd wC 57 = 16) rfl) (Or.inl (hts _ (z_mem k129))) dX1_howOften_25 ?_
  refine z_top (show M 57 0 = 0 from by rw [g0]) ?_
  refine z_icmp_ge (tgt := 63) hx hb (by decide) (by decide) dX1_howOften_28 (by decide) (fun c10 => ?_) (fun c10 => absurd c10 (by decide))
  refine lv_lload_n hx hb dX1_howOften_63 rfl (lv_at hl 3 rfl) ?_
  refine lv_lload hx hb dX1_howOften_64 (lv_at hl 1 rfl) ?_
  refine z_ladd hx hb dX1_howOften_66 ?_
  refine z_topl (show ((0 + 1) : Int) = 1 from by decide) ?_
  refine lv_lstore_n (lv' := [(2, .long (iL 1)), (7, .int (iI 0)), (5, .long (iL 1)), (4, .int (iI 0)), (1, .int (iI 1)), (0, .ref (b + 57))]) hx hb dX1_howOften_67 rfl hl (by decide) rfl (fun ls hl => ?_)
  refine z_iinc (lv' := [(4, .int (iI (0 + 1))), (2, .long (iL 1)), (7, .int (iI 0)), (5, .long (iL 1)), (1, .int (iI 1)), (0, .ref (b + 57))]) hx hb dX1_howOften_68 hl (k := 3) rfl (by decide) rfl (fun ls hl => ?_)
  rw [show ((0 + 1) : Int) = 1 from by decide] at hl
  refine lv_goto (tgt := 10) hx hb dX1_howOften_71 (by decide) ?_
  refine lv_iload hx hb dX1_howOften_10 (lv_at hl 0 rfl) ?_
  refine lv_iload_n hx hb dX1_howOften_12 rfl (lv_at hl 4 rfl) ?_
  refine z_icmp_ge (tgt := 74) hx hb (by decide) (by decide) dX1_howOften_13 (by decide) (fun c11 => ?_) (fun c11 => absurd c11 (by decide))
  refine lv_lload_n hx hb dX1_howOften_74 rfl (lv_at hl 1 rfl) ?_
  exact z_lret hx hb hr hlocks hS hS0 (by decide) (⟨rfl, by first | exact trivial | exact ⟨rfl, trivial⟩ | omega | (refine ⟨by omega, trivial⟩)⟩) dX1_howOften_75

set_option maxHeartbeats 4000000 in
set_option maxRecDepth 100000 in
theorem n_firstSteady (l : Launch) (D : va_G) (dA : Nat → ClassId) (b : Nat) (M : zM) (t : Int) (r_t : R64 t) (g0 : M 57 0 = 0) (g1 : M 57 1 = 0) (p0 : 0 ≤ t ∧ t ≤ 1152921504606846976) : Met l yX1_firstSteady (.code yX1_firstSteady cX1_firstSteady 12 (some .long) :: zt) (z_rm 1) (va_Pc [.ref (b + 57), .long (iL t)] (zP D dA vwCl (z_tys dA) wC nC b M)) (va_Ql (zQl wC (zms wC []) M (fun z M1 => M1 = M ∧ (z = t ∧ True))) (zB D dA vwCl wC nC b) (zA nC b)) 0 0 (zA nC b) := by
  refine Met.ofW (cc := cX1_firstSteady) (maxL := 12) (ret := (some .long)) (by decide) rfl ?_
  intro p e s m args below meth c s₁ B hml hv
  obtain ⟨hargs, hR0, hJ, hK⟩ := hv
  have hx := B.exec
  have hb := B.bytes
  have hr := B.returns
  have hts := atoms_spec (ws := .code yX1_firstSteady cX1_firstSteady 12 (some .long) :: zt) B.pre
  have hown : s.vm.findClass RX1 = some m.cls := findClass_of_methodNamed B.named
  have hlocks := B.notSynchronized
  have hS : zS D dA vwCl wC nC b (zms wC []) M M s.heap := ⟨hR0, hJ, zF_rf _ _⟩
  have hS0 : va_S (zA nC b) s.heap s.heap [] := va_S.rf
  have hl := lv_entry ([.ref (b + 57), .long (iL t)]) (n := 12) (Nat.le_of_ble_eq_true rfl)
  have hent : entryFrame m args 12 = F0 m 0 ((lg_sl ([.ref (b + 57), .long (iL t)]) ++ List.replicate (12 - (lg_sl ([.ref (b + 57), .long (iL t)])).length) Slot.unset).toArray) [] := by rw [hargs]; exact lg_entry_eq m ([.ref (b + 57), .long (iL t)]) 12
  rw [hent]
  generalize (lg_sl ([.ref (b + 57), .long (iL t)]) ++ List.replicate (12 - (lg_sl ([.ref (b + 57), .long (iL t)])).length) Slot.unset).toArray = ls at hl ⊢
  have hl : lv_has ls 12 [(0, .ref (b + 57)), (1, .long (iL t))] := hl
  refine lv_aload_n hx hb dX1_firstSteady_0 rfl (lv_at hl 0 rfl) ?_
  refine z_calll (va_runV (As := []) (rest := []) ⟨hx, hb, hml, hown, hts⟩ (n_allTicks l D dA b M (by rw [g0])) (cwV 0 hts (z_gV k587 k543 k544 k7 k545) rfl rfl rfl dm_X1_allTicks ⟨Nat.le_of_ble_eq_true rfl, Nat.le_of_ble_eq_true rfl⟩) ⟨zP_blind, (z_recv hS hK.1 (by decide) (zkd_of (rfl : zcd wC 57 = 16) rfl) (by decide) (rfl : vwCl[1]? = some (RX1, TX1, 4))), z_pre hS hK⟩ rfl rfl hl.1 rfl (lv_room (Nat.le_of_ble_eq_true rfl)) dX1_firstSteady_1 ⟨Nat.le_refl _, Nat.le_refl _⟩) hS hS0 (zms_sub rfl) (fun z5 M1 H locs r6 h2 F3 hS hS0 => ?_)
  obtain ⟨h7, h2⟩ := h2
  rw [h7] at hS
  have h8 := h2
  obtain ⟨z5e, h8⟩ := h8
  subst z5e
  refine lv_lstore_n (lv' := [(3, .long (iL 1)), (0, .ref (b + 57)), (1, .long (iL t))]) hx hb dX1_firstSteady_4 rfl hl (by decide) rfl (fun ls hl => ?_)
  refine lv_lload_n hx hb dX1_firstSteady_5 rfl (lv_at hl 2 rfl) ?_
  refine lv_lstore (lv' := [(5, .long (iL t)), (3, .long (iL 1)), (0, .ref (b + 57)), (1, .long (iL t))]) hx hb dX1_firstSteady_6 hl (by decide) rfl (fun ls hl => ?_)
  refine z_lconst0 hx hb dX1_firstSteady_8 ?_
  refine lv_lstore (lv' := [(7, .long (iL 0)), (5, .long (iL t)), (3, .long (iL 1)), (0, .ref (b + 57)), (1, .long (iL t))]) hx hb dX1_firstSteady_9 hl (by decide) rfl (fun ls hl => ?_)
  refine lv_lload hx hb dX1_firstSteady_11 (lv_at hl 0 rfl) ?_
  refine lv_lload_n hx hb dX1_firstSteady_13 rfl (lv_at hl 2 rfl) ?_
  refine z_lcmp_ge hx hb (by decide) (by decide) dX1_firstSteady_14 dX1_firstSteady_15 (tgt := 102) (by decide) (fun c9 => absurd c9 (by decide)) (fun c9 => ?_)
  refine lv_lload hx hb dX1_firstSteady_18 (lv_at hl 1 rfl) ?_
  refine lv_lload_n hx hb dX1_firstSteady_20 rfl (lv_at hl 4 rfl) ?_
  refine lv_lload_n hx hb dX1_firstSteady_21 rfl (lv_at hl 2 rfl) ?_
  refine z_ladd hx hb dX1_firstSteady_22 ?_
  refine z_lcmp_ge hx hb r_t ⟨by omega, by omega⟩ dX1_firstSteady_23 dX1_firstSteady_24 (tgt := 102) (by decide) (fun c10 => absurd c10 (by omega)) (fun c10 => ?_)
  refine lv_lload hx hb dX1_firstSteady_27 (lv_at hl 1 rfl) ?_
  refine lv_lstore (lv' := [(9, .long (iL t)), (7, .long (iL 0)), (5, .long (iL t)), (3, .long (iL 1)), (0, .ref (b + 57)), (1, .long (iL t))]) hx hb dX1_firstSteady_29 hl (by decide) rfl (fun ls hl => ?_)
  refine z_iconst hx hb dX1_firstSteady_31 ?_
  refine lv_istore (lv' := [(11, .int (iI 0)), (9, .long (iL t)), (7, .long (iL 0)), (5, .long (iL t)), (3, .long (iL 1)), (0, .ref (b + 57)), (1, .long (iL t))]) hx hb dX1_firstSteady_32 hl (by decide) rfl (fun ls hl => ?_)
  refine lv_iload hx hb dX1_firstSteady_34 (lv_at hl 0 rfl) ?_
  refine lv_aload_n hx hb dX1_firstSteady_36 rfl (lv_at hl 5 rfl) ?_
  refine z_geti hx hb hts (z_memU u1) hown hK.1 hS f1_0 (by decide) (zkd_of (rfl : zcd wC 57 = 16) rfl) (Or.inl (hts _ (z_mem k129))) dX1_firstSteady_37 ?_
  refine z_top (show M 57 0 = 0 from by rw [g0]) ?_
  refine z_icmp_ge (tgt := 78) hx hb (by decide) (by decide) dX1_firstSteady_40 (by decide) (fun c11 => ?_) (fun c11 => absurd c11 (by decide))
  refine lv_lload hx hb dX1_firstSteady_78 (lv_at hl 1 rfl) ?_
  refine lv_lload hx hb dX1_firstSteady_80 (lv_at hl 3 rfl) ?_
  refine z_lcmp_ne hx hb r_t r_t dX1_firstSteady_82 dX1_firstSteady_83 (tgt := 89) (by decide) (fun c12 => absurd c12 (by omega)) (fun c12 => ?_)
  refine lv_lload hx hb dX1_firstSteady_86 (lv_at hl 3 rfl) ?_
  exact z_lret hx hb hr hlocks hS hS0 r_t (⟨rfl, by first | exact trivial | exact ⟨rfl, trivial⟩ | omega | (refine ⟨by omega, trivial⟩)⟩) dX1_firstSteady_88

set_option maxHeartbeats 4000000 in
set_option maxRecDepth 100000 in
theorem n_first (l : Launch) (D : va_G) (dA : Nat → ClassId) (b : Nat) (M : zM) (t : Int) (r_t : R64 t) (g0 : M 57 0 = 0) (g1 : M 57 1 = 0) (p0 : 0 ≤ t ∧ t ≤ 1152921504606846976) : Met l yX1_first (.code yX1_first cX1_first 6 (some .long) :: zt) (z_rm 2) (va_Pc [.ref (b + 57), .ref (b + 32), .long (iL t)] (zP D dA vwCl (z_tys dA) wC nC b M)) (va_Ql (zQl wC (zms wC []) M (fun z M1 => M1 = M ∧ (z = t ∧ True))) (zB D dA vwCl wC nC b) (zA nC b)) 0 0 (zA nC b) := by
  refine Met.ofW (cc := cX1_first) (maxL := 6) (ret := (some .long)) (by decide) rfl ?_
  intro p e s m args below meth c s₁ B hml hv
  obtain ⟨hargs, hR0, hJ, hK⟩ := hv
  have hx := B.exec
  have hb := B.bytes
  have hr := B.returns
  have hts := atoms_spec (ws := .code yX1_first cX1_first 6 (some .long) :: zt) B.pre
  have hown : s.vm.findClass RX1 = some m.cls := findClass_of_methodNamed B.named
  have hlocks := B.notSynchronized
  have hS : zS D dA vwCl wC nC b (zms wC []) M M s.heap := ⟨hR0, hJ, zF_rf _ _⟩
  have hS0 : va_S (zA nC b) s.heap s.heap [] := va_S.rf
  have hl := lv_entry ([.ref (b + 57), .ref (b + 32), .long (iL t)]) (n := 6) (Nat.le_of_ble_eq_true rfl)
  have hent : entryFrame m args 6 = F0 m 0 ((lg_sl ([.ref (b + 57), .ref (b + 32), .long (iL t)]) ++ List.replicate (6 - (lg_sl ([.ref (b + 57), .ref (b + 32), .long (iL t)])).length) Slot.unset).toArray) [] := by rw [hargs]; exact lg_entry_eq m ([.ref (b + 57), .ref (b + 32), .long (iL t)]) 6
  rw [hent]
  generalize (lg_sl ([.ref (b + 57), .ref (b + 32), .long (iL t)]) ++ List.replicate (6 - (lg_sl ([.ref (b + 57), .ref (b + 32), .long (iL t)])).length) Slot.unset).toArray = ls at hl ⊢
  have hl : lv_has ls 6 [(0, .ref (b + 57)), (1, .ref (b + 32)), (2, .long (iL t))] := hl
  refine lv_lload_n hx hb dX1_first_0 rfl (lv_at hl 2 rfl) ?_
  refine lv_lstore (lv' := [(4, .long (iL t)), (0, .ref (b + 57)), (1, .ref (b + 32)), (2, .long (iL t))]) hx hb dX1_first_1 hl (by decide) rfl (fun ls hl => ?_)
  refine lv_lload hx hb dX1_first_3 (lv_at hl 0 rfl) ?_
  refine lv_aload_n hx hb dX1_first_5 rfl (lv_at hl 1 rfl) ?_
  refine z_getl hx hb hts (z_memU u1) hown hK.1 hS f1_1 (by decide) (zkd_of (rfl : zcd wC 57 = 16) rfl) (Or.inl (hts _ (z_mem k130))) dX1_first_6 ?_
  refine z_topl (show M 57 1 = 0 from by rw [g1]) ?_
  refine z_lcmp_ge hx hb r_t (by decide) dX1_first_9 dX1_first_10 (tgt := 34) (by decide) (fun c1 => ?_) (fun c1 => absurd c1 (by omega))
  refine lv_aload_n hx hb dX1_first_34 rfl (lv_at hl 1 rfl) ?_
  refine z_calll (va_runV (As := []) (rest := []) ⟨hx, hb, hml, hown, hts⟩ (n_howOften l D dA b M (by rw [g0])) (cwV 0 hts (z_gV k571 k572 k573 k7 k574) rfl rfl rfl dm_X1_howOften ⟨Nat.le_of_ble_eq_true rfl, Nat.le_of_ble_eq_true rfl⟩) ⟨zP_blind, (z_recv hS hK.1 (by decide) (zkd_of (rfl : zcd wC 57 = 16) rfl) (by decide) (rfl : vwCl[1]? = some (RX1, TX1, 4))), z_pre hS hK⟩ rfl rfl hl.1 rfl (lv_room (Nat.le_of_ble_eq_true rfl)) dX1_first_35 ⟨Nat.le_refl _, Nat.le_refl _⟩) hS hS0 (zms_sub rfl) (fun z6 M2 H locs r7 h3 F4 hS hS0 => ?_)
  obtain ⟨h8, h3⟩ := h3
  rw [h8] at hS
  have h9 := h3
  obtain ⟨z6e, h9⟩ := h9
  subst z6e
  refine z_lconst0 hx hb dX1_first_38 ?_
  refine z_lcmp_ne hx hb (by decide) (by decide) dX1_first_39 dX1_first_40 (tgt := 49) (by decide) (fun c10 => ?_) (fun c10 => absurd c10 (by decide))
  refine lv_aload_n hx hb dX1_first_49 rfl (lv_at hl 1 rfl) ?_
  refine lv_lload_n hx hb dX1_first_50 rfl (lv_at hl 3 rfl) ?_
  refine lv_aload_n hx hb dX1_first_51 rfl (lv_at hl 1 rfl) ?_
  refine z_getl hx hb hts (z_memU u1) hown hK.1 hS f1_1 (by decide) (zkd_of (rfl : zcd wC 57 = 16) rfl) (Or.inl (hts _ (z_mem k130))) dX1_first_52 ?_
  refine z_topl (show M 57 1 = 0 from by rw [g1]) ?_
  refine z_mmaxl hx hb (hml.trans hl.1.symm) hown (hts _ (z_mem k583)) (hts _ (z_mem k492)) (hts _ (z_mem k15)) (hts _ (z_mem k493)) (by exact Nat.le_of_ble_eq_true rfl) (by exact Nat.le_of_ble_eq_true rfl) (by exact Nat.le_refl _) (by exact Nat.le_refl _) r_t (by decide) dX1_first_55 ?_
  refine z_topl (show ((max t 0) : Int) = t from by omega) ?_
  refine z_calll (va_runV (As := [.long (iL t)]) (rest := []) ⟨hx, hb, hml, hown, hts⟩ (n_firstSteady l D dA b M t r_t (by rw [g0]) (by rw [g1]) (by omega)) (cwV 1 hts (z_gV k584 k585 k1372 k7 k586) rfl rfl rfl dm_X1_firstSteady ⟨Nat.le_of_ble_eq_true rfl, Nat.le_of_ble_eq_true rfl⟩) ⟨zP_blind, (z_recv hS hK.1 (by decide) (zkd_of (rfl : zcd wC 57 = 16) rfl) (by decide) (rfl : vwCl[1]? = some (RX1, TX1, 4))), z_pre hS hK⟩ rfl rfl hl.1 rfl (lv_room (Nat.le_of_ble_eq_true rfl)) dX1_first_58 ⟨Nat.le_refl _, Nat.le_refl _⟩) hS hS0 (zms_sub rfl) (fun z17 M13 H locs r18 h14 F15 hS hS0 => ?_)
  obtain ⟨h19, h14⟩ := h14
  rw [h19] at hS
  have h20 := h14
  obtain ⟨z17e, h20⟩ := h20
  subst z17e
  exact z_lret hx hb hr hlocks hS hS0 r_t (⟨rfl, by first | exact trivial | exact ⟨rfl, trivial⟩ | omega | (refine ⟨by omega, trivial⟩)⟩) dX1_first_61
end
section
theorem dJ7_fill_53178_0 : decode cJ7_fill_53178 0 = .ok (.iconst 0, 1) := by decide +kernel
theorem dJ7_fill_53178_1 : decode cJ7_fill_53178 1 = .ok (.istore_n 2, 1) := by decide +kernel
theorem dJ7_fill_53178_10 : decode cJ7_fill_53178 10 = .ok (.aload_n 0, 1) := by decide +kernel
theorem dJ7_fill_53178_11 : decode cJ7_fill_53178 11 = .ok (.iload_n 2, 1) := by decide +kernel
theorem dJ7_fill_53178_12 : decode cJ7_fill_53178 12 = .ok (.iload_n 1, 1) := by decide +kernel
theorem dJ7_fill_53178_13 : decode cJ7_fill_53178 13 = .ok (.iastore, 1) := by decide +kernel
theorem dJ7_fill_53178_14 : decode cJ7_fill_53178 14 = .ok (.iinc 2 1, 3) := by decide +kernel
theorem dJ7_fill_53178_17 : decode cJ7_fill_53178 17 = .ok (.goto (-12), 3) := by decide +kernel
theorem dJ7_fill_53178_2 : decode cJ7_fill_53178 2 = .ok (.aload_n 0, 1) := by decide +kernel
theorem dJ7_fill_53178_20 : decode cJ7_fill_53178 20 = .ok (.return_, 1) := by decide +kernel
theorem dJ7_fill_53178_3 : decode cJ7_fill_53178 3 = .ok (.arraylength, 1) := by decide +kernel
theorem dJ7_fill_53178_4 : decode cJ7_fill_53178 4 = .ok (.istore_n 3, 1) := by decide +kernel
theorem dJ7_fill_53178_5 : decode cJ7_fill_53178 5 = .ok (.iload_n 2, 1) := by decide +kernel
theorem dJ7_fill_53178_6 : decode cJ7_fill_53178 6 = .ok (.iload_n 3, 1) := by decide +kernel
theorem dJ7_fill_53178_7 : decode cJ7_fill_53178 7 = .ok (.if_icmp .ge 13, 3) := by decide +kernel
theorem dX0_behind_0 : decode cX0_behind 0 = .ok (.aload_n 0, 1) := by decide +kernel
theorem dX0_behind_1 : decode cX0_behind 1 = .ok (.iload_n 1, 1) := by decide +kernel
theorem dX0_behind_10 : decode cX0_behind 10 = .ok (.ireturn, 1) := by decide +kernel
theorem dX0_behind_2 : decode cX0_behind 2 = .ok (.invokevirtual 62, 3) := by decide +kernel
theorem dX0_behind_5 : decode cX0_behind 5 = .ok (.iload_n 2, 1) := by decide +kernel
theorem dX0_behind_6 : decode cX0_behind 6 = .ok (.imul, 1) := by decide +kernel
theorem dX0_behind_7 : decode cX0_behind 7 = .ok (.bipush 100, 2) := by decide +kernel
theorem dX0_behind_9 : decode cX0_behind 9 = .ok (.idiv, 1) := by decide +kernel
theorem dX0_fate_0 : decode cX0_fate 0 = .ok (.aload_n 0, 1) := by decide +kernel
theorem dX0_fate_1 : decode cX0_fate 1 = .ok (.aload_n 1, 1) := by decide +kernel
theorem dX0_fate_12 : decode cX0_fate 12 = .ok (.istore_n 2, 1) := by decide +kernel
theorem dX0_fate_13 : decode cX0_fate 13 = .ok (.iload_n 2, 1) := by decide +kernel
theorem dX0_fate_14 : decode cX0_fate 14 = .ok (.iconst (-1), 1) := by decide +kernel
theorem dX0_fate_15 : decode cX0_fate 15 = .ok (.if_icmp .eq 5, 3) := by decide +kernel
theorem dX0_fate_18 : decode cX0_fate 18 = .ok (.iload_n 2, 1) := by decide +kernel
theorem dX0_fate_19 : decode cX0_fate 19 = .ok (.ireturn, 1) := by decide +kernel
theorem dX0_fate_2 : decode cX0_fate 2 = .ok (.sipush 4000, 3) := by decide +kernel
theorem dX0_fate_5 : decode cX0_fate 5 = .ok (.invokevirtual 65, 3) := by decide +kernel
theorem dX0_fate_8 : decode cX0_fate 8 = .ok (.aload_n 0, 1) := by decide +kernel
theorem dX0_fate_9 : decode cX0_fate 9 = .ok (.invokevirtual 69, 3) := by decide +kernel
theorem dX0_firstSilence_0 : decode cX0_firstSilence 0 = .ok (.iconst 0, 1) := by decide +kernel
theorem dX0_firstSilence_1 : decode cX0_firstSilence 1 = .ok (.istore_n 1, 1) := by decide +kernel
theorem dX0_firstSilence_11 : decode cX0_firstSilence 11 = .ok (.if_icmp .gt 38, 3) := by decide +kernel
theorem dX0_firstSilence_14 : decode cX0_firstSilence 14 = .ok (.aload_n 0, 1) := by decide +kernel
theorem dX0_firstSilence_15 : decode cX0_firstSilence 15 = .ok (.iload_n 2, 1) := by decide +kernel
theorem dX0_firstSilence_16 : decode cX0_firstSilence 16 = .ok (.invokevirtual 62, 3) := by decide +kernel
theorem dX0_firstSilence_19 : decode cX0_firstSilence 19 = .ok (.ifCond .ne 9, 3) := by decide +kernel
theorem dX0_firstSilence_2 : decode cX0_firstSilence 2 = .ok (.aload_n 0, 1) := by decide +kernel
theorem dX0_firstSilence_22 : decode cX0_firstSilence 22 = .ok (.iload_n 1, 1) := by decide +kernel
theorem dX0_firstSilence_23 : decode cX0_firstSilence 23 = .ok (.iconst 1, 1) := by decide +kernel
theorem dX0_firstSilence_24 : decode cX0_firstSilence 24 = .ok (.iadd, 1) := by decide +kernel
theorem dX0_firstSilence_25 : decode cX0_firstSilence 25 = .ok (.goto 4, 3) := by decide +kernel
theorem dX0_firstSilence_29 : decode cX0_firstSilence 29 = .ok (.istore_n 1, 1) := by decide +kernel
theorem dX0_firstSilence_3 : decode cX0_firstSilence 3 = .ok (.getfield 9, 3) := by decide +kernel
theorem dX0_firstSilence_30 : decode cX0_firstSilence 30 = .ok (.iload_n 1, 1) := by decide +kernel
theorem dX0_firstSilence_31 : decode cX0_firstSilence 31 = .ok (.bipush 20, 2) := by decide +kernel
theorem dX0_firstSilence_33 : decode cX0_firstSilence 33 = .ok (.if_icmp .ne 10, 3) := by decide +kernel
theorem dX0_firstSilence_36 : decode cX0_firstSilence 36 = .ok (.iload_n 2, 1) := by decide +kernel
theorem dX0_firstSilence_37 : decode cX0_firstSilence 37 = .ok (.bipush 20, 2) := by decide +kernel
theorem dX0_firstSilence_39 : decode cX0_firstSilence 39 = .ok (.isub, 1) := by decide +kernel
theorem dX0_firstSilence_40 : decode cX0_firstSilence 40 = .ok (.iconst 1, 1) := by decide +kernel
theorem dX0_firstSilence_41 : decode cX0_firstSilence 41 = .ok (.iadd, 1) := by decide +kernel
theorem dX0_firstSilence_42 : decode cX0_firstSilence 42 = .ok (.ireturn, 1) := by decide +kernel
theorem dX0_firstSilence_43 : decode cX0_firstSilence 43 = .ok (.iinc 2 1, 3) := by decide +kernel
theorem dX0_firstSilence_46 : decode cX0_firstSilence 46 = .ok (.goto (-39), 3) := by decide +kernel
theorem dX0_firstSilence_6 : decode cX0_firstSilence 6 = .ok (.istore_n 2, 1) := by decide +kernel
theorem dX0_firstSilence_7 : decode cX0_firstSilence 7 = .ok (.iload_n 2, 1) := by decide +kernel
theorem dX0_firstSilence_8 : decode cX0_firstSilence 8 = .ok (.sipush 4000, 3) := by decide +kernel
theorem dX0_outAt_0 : decode cX0_outAt 0 = .ok (.iload_n 1, 1) := by decide +kernel
theorem dX0_outAt_1 : decode cX0_outAt 1 = .ok (.ifCond .lt 21, 3) := by decide +kernel
theorem dX0_outAt_10 : decode cX0_outAt 10 = .ok (.if_icmp .ge 12, 3) := by decide +kernel
theorem dX0_outAt_13 : decode cX0_outAt 13 = .ok (.aload_n 0, 1) := by decide +kernel
theorem dX0_outAt_14 : decode cX0_outAt 14 = .ok (.getfield 34, 3) := by decide +kernel
theorem dX0_outAt_17 : decode cX0_outAt 17 = .ok (.iload_n 1, 1) := by decide +kernel
theorem dX0_outAt_18 : decode cX0_outAt 18 = .ok (.iaload, 1) := by decide +kernel
theorem dX0_outAt_19 : decode cX0_outAt 19 = .ok (.goto 4, 3) := by decide +kernel
theorem dX0_outAt_22 : decode cX0_outAt 22 = .ok (.iconst 0, 1) := by decide +kernel
theorem dX0_outAt_23 : decode cX0_outAt 23 = .ok (.ireturn, 1) := by decide +kernel
theorem dX0_outAt_4 : decode cX0_outAt 4 = .ok (.iload_n 1, 1) := by decide +kernel
theorem dX0_outAt_5 : decode cX0_outAt 5 = .ok (.aload_n 0, 1) := by decide +kernel
theorem dX0_outAt_6 : decode cX0_outAt 6 = .ok (.getfield 34, 3) := by decide +kernel
theorem dX0_outAt_9 : decode cX0_outAt 9 = .ok (.arraylength, 1) := by decide +kernel
theorem dX0_place_0 : decode cX0_place 0 = .ok (.aload_n 0, 1) := by decide +kernel
theorem dX0_place_1 : decode cX0_place 1 = .ok (.iload_n 1, 1) := by decide +kernel
theorem dX0_place_10 : decode cX0_place 10 = .ok (.aload_n 0, 1) := by decide +kernel
theorem dX0_place_11 : decode cX0_place 11 = .ok (.iload_n 3, 1) := by decide +kernel
theorem dX0_place_12 : decode cX0_place 12 = .ok (.putfield 28, 3) := by decide +kernel
theorem dX0_place_15 : decode cX0_place 15 = .ok (.aload_n 0, 1) := by decide +kernel
theorem dX0_place_16 : decode cX0_place 16 = .ok (.iload 4, 2) := by decide +kernel
theorem dX0_place_18 : decode cX0_place 18 = .ok (.putfield 31, 3) := by decide +kernel
theorem dX0_place_2 : decode cX0_place 2 = .ok (.putfield 22, 3) := by decide +kernel
theorem dX0_place_21 : decode cX0_place 21 = .ok (.return_, 1) := by decide +kernel
theorem dX0_place_5 : decode cX0_place 5 = .ok (.aload_n 0, 1) := by decide +kernel
theorem dX0_place_6 : decode cX0_place 6 = .ok (.iload_n 2, 1) := by decide +kernel
theorem dX0_place_7 : decode cX0_place 7 = .ok (.putfield 25, 3) := by decide +kernel
theorem dX0_run_0 : decode cX0_run 0 = .ok (.iconst 0, 1) := by decide +kernel
theorem dX0_run_1 : decode cX0_run 1 = .ok (.istore_n 3, 1) := by decide +kernel
theorem dX0_run_12 : decode cX0_run 12 = .ok (.arraylength, 1) := by decide +kernel
theorem dX0_run_13 : decode cX0_run 13 = .ok (.if_icmp .ge 81, 3) := by decide +kernel
theorem dX0_run_16 : decode cX0_run 16 = .ok (.iload_n 3, 1) := by decide +kernel
theorem dX0_run_17 : decode cX0_run 17 = .ok (.aload_n 0, 1) := by decide +kernel
theorem dX0_run_18 : decode cX0_run 18 = .ok (.getfield 9, 3) := by decide +kernel
theorem dX0_run_2 : decode cX0_run 2 = .ok (.iload_n 3, 1) := by decide +kernel
theorem dX0_run_21 : decode cX0_run 21 = .ok (.if_icmp .ge 16, 3) := by decide +kernel
theorem dX0_run_3 : decode cX0_run 3 = .ok (.iload_n 2, 1) := by decide +kernel
theorem dX0_run_37 : decode cX0_run 37 = .ok (.iconst 0, 1) := by decide +kernel
theorem dX0_run_38 : decode cX0_run 38 = .ok (.istore 4, 2) := by decide +kernel
theorem dX0_run_4 : decode cX0_run 4 = .ok (.if_icmp .gt 90, 3) := by decide +kernel
theorem dX0_run_40 : decode cX0_run 40 = .ok (.iload 4, 2) := by decide +kernel
theorem dX0_run_42 : decode cX0_run 42 = .ok (.aload_n 0, 1) := by decide +kernel
theorem dX0_run_43 : decode cX0_run 43 = .ok (.iload_n 3, 1) := by decide +kernel
theorem dX0_run_44 : decode cX0_run 44 = .ok (.aload_n 0, 1) := by decide +kernel
theorem dX0_run_45 : decode cX0_run 45 = .ok (.getfield 22, 3) := by decide +kernel
theorem dX0_run_48 : decode cX0_run 48 = .ok (.isub, 1) := by decide +kernel
theorem dX0_run_49 : decode cX0_run 49 = .ok (.aload_n 0, 1) := by decide +kernel
theorem dX0_run_50 : decode cX0_run 50 = .ok (.getfield 25, 3) := by decide +kernel
theorem dX0_run_53 : decode cX0_run 53 = .ok (.invokevirtual 53, 3) := by decide +kernel
theorem dX0_run_56 : decode cX0_run 56 = .ok (.iadd, 1) := by decide +kernel
theorem dX0_run_57 : decode cX0_run 57 = .ok (.aload_n 0, 1) := by decide +kernel
theorem dX0_run_58 : decode cX0_run 58 = .ok (.iload_n 3, 1) := by decide +kernel
theorem dX0_run_59 : decode cX0_run 59 = .ok (.aload_n 0, 1) := by decide +kernel
theorem dX0_run_60 : decode cX0_run 60 = .ok (.getfield 28, 3) := by decide +kernel
theorem dX0_run_63 : decode cX0_run 63 = .ok (.isub, 1) := by decide +kernel
theorem dX0_run_64 : decode cX0_run 64 = .ok (.aload_n 0, 1) := by decide +kernel
theorem dX0_run_65 : decode cX0_run 65 = .ok (.getfield 31, 3) := by decide +kernel
theorem dX0_run_68 : decode cX0_run 68 = .ok (.invokevirtual 53, 3) := by decide +kernel
theorem dX0_run_7 : decode cX0_run 7 = .ok (.iload_n 3, 1) := by decide +kernel
theorem dX0_run_71 : decode cX0_run 71 = .ok (.iadd, 1) := by decide +kernel
theorem dX0_run_72 : decode cX0_run 72 = .ok (.istore 5, 2) := by decide +kernel
theorem dX0_run_74 : decode cX0_run 74 = .ok (.aload_n 0, 1) := by decide +kernel
theorem dX0_run_75 : decode cX0_run 75 = .ok (.getfield 34, 3) := by decide +kernel
theorem dX0_run_78 : decode cX0_run 78 = .ok (.iload_n 3, 1) := by decide +kernel
theorem dX0_run_79 : decode cX0_run 79 = .ok (.iload 5, 2) := by decide +kernel
theorem dX0_run_8 : decode cX0_run 8 = .ok (.aload_n 0, 1) := by decide +kernel
theorem dX0_run_81 : decode cX0_run 81 = .ok (.sipush 5000, 3) := by decide +kernel
theorem dX0_run_84 : decode cX0_run 84 = .ok (.invokestatic 57, 3) := by decide +kernel
theorem dX0_run_87 : decode cX0_run 87 = .ok (.iastore, 1) := by decide +kernel
theorem dX0_run_88 : decode cX0_run 88 = .ok (.iinc 3 1, 3) := by decide +kernel
theorem dX0_run_9 : decode cX0_run 9 = .ok (.getfield 34, 3) := by decide +kernel
theorem dX0_run_91 : decode cX0_run 91 = .ok (.goto (-89), 3) := by decide +kernel
theorem dX0_run_94 : decode cX0_run 94 = .ok (.return_, 1) := by decide +kernel
theorem dX0_weigh_0 : decode cX0_weigh 0 = .ok (.aload_n 0, 1) := by decide +kernel
theorem dX0_weigh_1 : decode cX0_weigh 1 = .ok (.getfield 19, 3) := by decide +kernel
theorem dX0_weigh_11 : decode cX0_weigh 11 = .ok (.iload_n 1, 1) := by decide +kernel
theorem dX0_weigh_12 : decode cX0_weigh 12 = .ok (.iload_n 2, 1) := by decide +kernel
theorem dX0_weigh_13 : decode cX0_weigh 13 = .ok (.iastore, 1) := by decide +kernel
theorem dX0_weigh_14 : decode cX0_weigh 14 = .ok (.iload_n 3, 1) := by decide +kernel
theorem dX0_weigh_15 : decode cX0_weigh 15 = .ok (.ireturn, 1) := by decide +kernel
theorem dX0_weigh_4 : decode cX0_weigh 4 = .ok (.iload_n 1, 1) := by decide +kernel
theorem dX0_weigh_5 : decode cX0_weigh 5 = .ok (.iaload, 1) := by decide +kernel
theorem dX0_weigh_6 : decode cX0_weigh 6 = .ok (.istore_n 3, 1) := by decide +kernel
theorem dX0_weigh_7 : decode cX0_weigh 7 = .ok (.aload_n 0, 1) := by decide +kernel
theorem dX0_weigh_8 : decode cX0_weigh 8 = .ok (.getfield 19, 3) := by decide +kernel
theorem dX10_find_0 : decode cX10_find 0 = .ok (.iload_n 1, 1) := by decide +kernel
theorem dX10_find_1 : decode cX10_find 1 = .ok (.ifCond .lt 26, 3) := by decide +kernel
theorem dX10_find_27 : decode cX10_find 27 = .ok (.aconst_null, 1) := by decide +kernel
theorem dX10_find_28 : decode cX10_find 28 = .ok (.areturn, 1) := by decide +kernel
theorem dX10_find_4 : decode cX10_find 4 = .ok (.iload_n 1, 1) := by decide +kernel
theorem dX10_find_5 : decode cX10_find 5 = .ok (.aload_n 0, 1) := by decide +kernel
theorem dX10_find_6 : decode cX10_find 6 = .ok (.getfield 9, 3) := by decide +kernel
theorem dX10_find_9 : decode cX10_find 9 = .ok (.if_icmp .ge 18, 3) := by decide +kernel
theorem dX10_latest_0 : decode cX10_latest 0 = .ok (.aload_n 0, 1) := by decide +kernel
theorem dX10_latest_1 : decode cX10_latest 1 = .ok (.getfield 9, 3) := by decide +kernel
theorem dX10_latest_39 : decode cX10_latest 39 = .ok (.iconst (-1), 1) := by decide +kernel
theorem dX10_latest_4 : decode cX10_latest 4 = .ok (.iconst 1, 1) := by decide +kernel
theorem dX10_latest_40 : decode cX10_latest 40 = .ok (.ireturn, 1) := by decide +kernel
theorem dX10_latest_5 : decode cX10_latest 5 = .ok (.isub, 1) := by decide +kernel
theorem dX10_latest_6 : decode cX10_latest 6 = .ok (.istore_n 3, 1) := by decide +kernel
theorem dX10_latest_7 : decode cX10_latest 7 = .ok (.iload_n 3, 1) := by decide +kernel
theorem dX10_latest_8 : decode cX10_latest 8 = .ok (.ifCond .lt 31, 3) := by decide +kernel
theorem dX3_add_0 : decode cX3_add 0 = .ok (.aload_n 0, 1) := by decide +kernel
theorem dX3_add_1 : decode cX3_add 1 = .ok (.getfield 15, 3) := by decide +kernel
theorem dX3_add_11 : decode cX3_add 11 = .ok (.aload_n 0, 1) := by decide +kernel
theorem dX3_add_12 : decode cX3_add 12 = .ok (.getfield 9, 3) := by decide +kernel
theorem dX3_add_15 : decode cX3_add 15 = .ok (.aload_n 0, 1) := by decide +kernel
theorem dX3_add_16 : decode cX3_add 16 = .ok (.getfield 15, 3) := by decide +kernel
theorem dX3_add_19 : decode cX3_add 19 = .ok (.iload_n 1, 1) := by decide +kernel
theorem dX3_add_20 : decode cX3_add 20 = .ok (.iastore, 1) := by decide +kernel
theorem dX3_add_21 : decode cX3_add 21 = .ok (.aload_n 0, 1) := by decide +kernel
theorem dX3_add_22 : decode cX3_add 22 = .ok (.dup, 1) := by decide +kernel
theorem dX3_add_23 : decode cX3_add 23 = .ok (.getfield 15, 3) := by decide +kernel
theorem dX3_add_26 : decode cX3_add 26 = .ok (.iconst 1, 1) := by decide +kernel
theorem dX3_add_27 : decode cX3_add 27 = .ok (.iadd, 1) := by decide +kernel
theorem dX3_add_28 : decode cX3_add 28 = .ok (.putfield 15, 3) := by decide +kernel
theorem dX3_add_31 : decode cX3_add 31 = .ok (.aload_n 0, 1) := by decide +kernel
theorem dX3_add_32 : decode cX3_add 32 = .ok (.getfield 15, 3) := by decide +kernel
theorem dX3_add_35 : decode cX3_add 35 = .ok (.ireturn, 1) := by decide +kernel
theorem dX3_add_4 : decode cX3_add 4 = .ok (.bipush 60, 2) := by decide +kernel
theorem dX3_add_6 : decode cX3_add 6 = .ok (.if_icmp .lt 5, 3) := by decide +kernel
theorem dX3_makeGap_0 : decode cX3_makeGap 0 = .ok (.iload_n 1, 1) := by decide +kernel
theorem dX3_makeGap_1 : decode cX3_makeGap 1 = .ok (.ifCond .lt 11, 3) := by decide +kernel
theorem dX3_makeGap_12 : decode cX3_makeGap 12 = .ok (.iconst 0, 1) := by decide +kernel
theorem dX3_makeGap_13 : decode cX3_makeGap 13 = .ok (.ireturn, 1) := by decide +kernel
theorem dX3_makeGap_4 : decode cX3_makeGap 4 = .ok (.iload_n 1, 1) := by decide +kernel
theorem dX3_makeGap_5 : decode cX3_makeGap 5 = .ok (.aload_n 0, 1) := by decide +kernel
theorem dX3_makeGap_6 : decode cX3_makeGap 6 = .ok (.getfield 15, 3) := by decide +kernel
theorem dX3_makeGap_9 : decode cX3_makeGap 9 = .ok (.if_icmp .lt 5, 3) := by decide +kernel
theorem dX3_makeGreatest_0 : decode cX3_makeGreatest 0 = .ok (.aload_n 1, 1) := by decide +kernel
theorem dX3_makeGreatest_1 : decode cX3_makeGreatest 1 = .ok (.sipush 1022, 3) := by decide +kernel
theorem dX3_makeGreatest_10 : decode cX3_makeGreatest 10 = .ok (.aload_n 0, 1) := by decide +kernel
theorem dX3_makeGreatest_11 : decode cX3_makeGreatest 11 = .ok (.getfield 15, 3) := by decide +kernel
theorem dX3_makeGreatest_14 : decode cX3_makeGreatest 14 = .ok (.if_icmp .ge 36, 3) := by decide +kernel
theorem dX3_makeGreatest_4 : decode cX3_makeGreatest 4 = .ok (.invokestatic 29, 3) := by decide +kernel
theorem dX3_makeGreatest_50 : decode cX3_makeGreatest 50 = .ok (.return_, 1) := by decide +kernel
theorem dX3_makeGreatest_7 : decode cX3_makeGreatest 7 = .ok (.iconst 0, 1) := by decide +kernel
theorem dX3_makeGreatest_8 : decode cX3_makeGreatest 8 = .ok (.istore_n 3, 1) := by decide +kernel
theorem dX3_makeGreatest_9 : decode cX3_makeGreatest 9 = .ok (.iload_n 3, 1) := by decide +kernel
theorem dX3_mendedAt_0 : decode cX3_mendedAt 0 = .ok (.iload_n 1, 1) := by decide +kernel
theorem dX3_mendedAt_1 : decode cX3_mendedAt 1 = .ok (.ifCond .lt 11, 3) := by decide +kernel
theorem dX3_mendedAt_12 : decode cX3_mendedAt 12 = .ok (.iconst (-1), 1) := by decide +kernel
theorem dX3_mendedAt_13 : decode cX3_mendedAt 13 = .ok (.ireturn, 1) := by decide +kernel
theorem dX3_mendedAt_4 : decode cX3_mendedAt 4 = .ok (.iload_n 1, 1) := by decide +kernel
theorem dX3_mendedAt_5 : decode cX3_mendedAt 5 = .ok (.aload_n 0, 1) := by decide +kernel
theorem dX3_mendedAt_6 : decode cX3_mendedAt 6 = .ok (.getfield 15, 3) := by decide +kernel
theorem dX3_mendedAt_9 : decode cX3_mendedAt 9 = .ok (.if_icmp .lt 5, 3) := by decide +kernel
theorem dX3_pairFits_0 : decode cX3_pairFits 0 = .ok (.aload_n 0, 1) := by decide +kernel
theorem dX3_pairFits_1 : decode cX3_pairFits 1 = .ok (.aload_n 0, 1) := by decide +kernel
theorem dX3_pairFits_10 : decode cX3_pairFits 10 = .ok (.aload_n 0, 1) := by decide +kernel
theorem dX3_pairFits_11 : decode cX3_pairFits 11 = .ok (.getfield 22, 3) := by decide +kernel
theorem dX3_pairFits_14 : decode cX3_pairFits 14 = .ok (.iload_n 2, 1) := by decide +kernel
theorem dX3_pairFits_15 : decode cX3_pairFits 15 = .ok (.invokevirtual 49, 3) := by decide +kernel
theorem dX3_pairFits_18 : decode cX3_pairFits 18 = .ok (.iconst 0, 1) := by decide +kernel
theorem dX3_pairFits_19 : decode cX3_pairFits 19 = .ok (.istore_n 3, 1) := by decide +kernel
theorem dX3_pairFits_2 : decode cX3_pairFits 2 = .ok (.getfield 19, 3) := by decide +kernel
theorem dX3_pairFits_20 : decode cX3_pairFits 20 = .ok (.iload_n 3, 1) := by decide +kernel
theorem dX3_pairFits_21 : decode cX3_pairFits 21 = .ok (.aload_n 0, 1) := by decide +kernel
theorem dX3_pairFits_22 : decode cX3_pairFits 22 = .ok (.getfield 15, 3) := by decide +kernel
theorem dX3_pairFits_25 : decode cX3_pairFits 25 = .ok (.if_icmp .ge 53, 3) := by decide +kernel
theorem dX3_pairFits_5 : decode cX3_pairFits 5 = .ok (.iload_n 1, 1) := by decide +kernel
theorem dX3_pairFits_6 : decode cX3_pairFits 6 = .ok (.invokevirtual 49, 3) := by decide +kernel
theorem dX3_pairFits_78 : decode cX3_pairFits 78 = .ok (.iconst 1, 1) := by decide +kernel
theorem dX3_pairFits_79 : decode cX3_pairFits 79 = .ok (.ireturn, 1) := by decide +kernel
theorem dX3_pairFits_9 : decode cX3_pairFits 9 = .ok (.aload_n 0, 1) := by decide +kernel
theorem dX3_spanFits_0 : decode cX3_spanFits 0 = .ok (.aload_n 0, 1) := by decide +kernel
theorem dX3_spanFits_1 : decode cX3_spanFits 1 = .ok (.getfield 19, 3) := by decide +kernel
theorem dX3_spanFits_10 : decode cX3_spanFits 10 = .ok (.iload_n 2, 1) := by decide +kernel
theorem dX3_spanFits_11 : decode cX3_spanFits 11 = .ok (.aload_n 0, 1) := by decide +kernel
theorem dX3_spanFits_12 : decode cX3_spanFits 12 = .ok (.getfield 15, 3) := by decide +kernel
theorem dX3_spanFits_15 : decode cX3_spanFits 15 = .ok (.if_icmp .ge 68, 3) := by decide +kernel
theorem dX3_spanFits_4 : decode cX3_spanFits 4 = .ok (.iconst (-1), 1) := by decide +kernel
theorem dX3_spanFits_5 : decode cX3_spanFits 5 = .ok (.invokestatic 29, 3) := by decide +kernel
theorem dX3_spanFits_8 : decode cX3_spanFits 8 = .ok (.iconst 0, 1) := by decide +kernel
theorem dX3_spanFits_83 : decode cX3_spanFits 83 = .ok (.iconst 1, 1) := by decide +kernel
theorem dX3_spanFits_84 : decode cX3_spanFits 84 = .ok (.ireturn, 1) := by decide +kernel
theorem dX3_spanFits_9 : decode cX3_spanFits 9 = .ok (.istore_n 2, 1) := by decide +kernel
theorem dX3_spanNumber_0 : decode cX3_spanNumber 0 = .ok (.iconst 0, 1) := by decide +kernel
theorem dX3_spanNumber_1 : decode cX3_spanNumber 1 = .ok (.istore_n 2, 1) := by decide +kernel
theorem dX3_spanNumber_10 : decode cX3_spanNumber 10 = .ok (.aload_n 0, 1) := by decide +kernel
theorem dX3_spanNumber_11 : decode cX3_spanNumber 11 = .ok (.iload_n 3, 1) := by decide +kernel
theorem dX3_spanNumber_12 : decode cX3_spanNumber 12 = .ok (.invokevirtual 25, 3) := by decide +kernel
theorem dX3_spanNumber_15 : decode cX3_spanNumber 15 = .ok (.ifCond .eq 13, 3) := by decide +kernel
theorem dX3_spanNumber_18 : decode cX3_spanNumber 18 = .ok (.iload_n 2, 1) := by decide +kernel
theorem dX3_spanNumber_19 : decode cX3_spanNumber 19 = .ok (.iload_n 1, 1) := by decide +kernel
theorem dX3_spanNumber_2 : decode cX3_spanNumber 2 = .ok (.iconst 1, 1) := by decide +kernel
theorem dX3_spanNumber_20 : decode cX3_spanNumber 20 = .ok (.if_icmp .ne 5, 3) := by decide +kernel
theorem dX3_spanNumber_23 : decode cX3_spanNumber 23 = .ok (.iload_n 3, 1) := by decide +kernel
theorem dX3_spanNumber_24 : decode cX3_spanNumber 24 = .ok (.ireturn, 1) := by decide +kernel
theorem dX3_spanNumber_25 : decode cX3_spanNumber 25 = .ok (.iinc 2 1, 3) := by decide +kernel
theorem dX3_spanNumber_28 : decode cX3_spanNumber 28 = .ok (.iinc 3 1, 3) := by decide +kernel
theorem dX3_spanNumber_3 : decode cX3_spanNumber 3 = .ok (.istore_n 3, 1) := by decide +kernel
theorem dX3_spanNumber_31 : decode cX3_spanNumber 31 = .ok (.goto (-27), 3) := by decide +kernel
theorem dX3_spanNumber_34 : decode cX3_spanNumber 34 = .ok (.iconst (-1), 1) := by decide +kernel
theorem dX3_spanNumber_35 : decode cX3_spanNumber 35 = .ok (.ireturn, 1) := by decide +kernel
theorem dX3_spanNumber_4 : decode cX3_spanNumber 4 = .ok (.iload_n 3, 1) := by decide +kernel
theorem dX3_spanNumber_5 : decode cX3_spanNumber 5 = .ok (.bipush 24, 2) := by decide +kernel
theorem dX3_spanNumber_7 : decode cX3_spanNumber 7 = .ok (.if_icmp .gt 27, 3) := by decide +kernel
theorem dX4_joinAll_0 : decode cX4_joinAll 0 = .ok (.aload_n 0, 1) := by decide +kernel
theorem dX4_joinAll_1 : decode cX4_joinAll 1 = .ok (.bipush 41, 2) := by decide +kernel
theorem dX4_joinAll_10 : decode cX4_joinAll 10 = .ok (.invokestatic 37, 3) := by decide +kernel
theorem dX4_joinAll_13 : decode cX4_joinAll 13 = .ok (.aload_n 0, 1) := by decide +kernel
theorem dX4_joinAll_14 : decode cX4_joinAll 14 = .ok (.getfield 19, 3) := by decide +kernel
theorem dX4_joinAll_17 : decode cX4_joinAll 17 = .ok (.ireturn, 1) := by decide +kernel
theorem dX4_joinAll_3 : decode cX4_joinAll 3 = .ok (.putfield 19, 3) := by decide +kernel
theorem dX4_joinAll_6 : decode cX4_joinAll 6 = .ok (.aload_n 0, 1) := by decide +kernel
theorem dX4_joinAll_7 : decode cX4_joinAll 7 = .ok (.iconst 0, 1) := by decide +kernel
theorem dX4_joinAll_8 : decode cX4_joinAll 8 = .ok (.iconst 0, 1) := by decide +kernel
theorem dX4_joinAll_9 : decode cX4_joinAll 9 = .ok (.iconst 0, 1) := by decide +kernel
theorem dX4_keepBetter_0 : decode cX4_keepBetter 0 = .ok (.iload_n 1, 1) := by decide +kernel
theorem dX4_keepBetter_1 : decode cX4_keepBetter 1 = .ok (.aload_n 0, 1) := by decide +kernel
theorem dX4_keepBetter_2 : decode cX4_keepBetter 2 = .ok (.getfield 19, 3) := by decide +kernel
theorem dX4_keepBetter_24 : decode cX4_keepBetter 24 = .ok (.aload_n 0, 1) := by decide +kernel
theorem dX4_keepBetter_25 : decode cX4_keepBetter 25 = .ok (.iload_n 1, 1) := by decide +kernel
theorem dX4_keepBetter_26 : decode cX4_keepBetter 26 = .ok (.putfield 19, 3) := by decide +kernel
theorem dX4_keepBetter_29 : decode cX4_keepBetter 29 = .ok (.aload_n 0, 1) := by decide +kernel
theorem dX4_keepBetter_30 : decode cX4_keepBetter 30 = .ok (.getfield 30, 3) := by decide +kernel
theorem dX4_keepBetter_33 : decode cX4_keepBetter 33 = .ok (.iconst 0, 1) := by decide +kernel
theorem dX4_keepBetter_34 : decode cX4_keepBetter 34 = .ok (.aload_n 0, 1) := by decide +kernel
theorem dX4_keepBetter_35 : decode cX4_keepBetter 35 = .ok (.getfield 15, 3) := by decide +kernel
theorem dX4_keepBetter_38 : decode cX4_keepBetter 38 = .ok (.iconst 0, 1) := by decide +kernel
theorem dX4_keepBetter_39 : decode cX4_keepBetter 39 = .ok (.iload_n 1, 1) := by decide +kernel
theorem dX4_keepBetter_40 : decode cX4_keepBetter 40 = .ok (.invokestatic 65, 3) := by decide +kernel
theorem dX4_keepBetter_43 : decode cX4_keepBetter 43 = .ok (.return_, 1) := by decide +kernel
theorem dX4_keepBetter_5 : decode cX4_keepBetter 5 = .ok (.if_icmp .lt 19, 3) := by decide +kernel
theorem dX4_layRest_0 : decode cX4_layRest 0 = .ok (.iload_n 3, 1) := by decide +kernel
theorem dX4_layRest_1 : decode cX4_layRest 1 = .ok (.aload_n 0, 1) := by decide +kernel
theorem dX4_layRest_10 : decode cX4_layRest 10 = .ok (.aload_n 0, 1) := by decide +kernel
theorem dX4_layRest_11 : decode cX4_layRest 11 = .ok (.getfield 9, 3) := by decide +kernel
theorem dX4_layRest_14 : decode cX4_layRest 14 = .ok (.if_icmp .ge 8, 3) := by decide +kernel
theorem dX4_layRest_2 : decode cX4_layRest 2 = .ok (.getfield 19, 3) := by decide +kernel
theorem dX4_layRest_22 : decode cX4_layRest 22 = .ok (.aload_n 0, 1) := by decide +kernel
theorem dX4_layRest_23 : decode cX4_layRest 23 = .ok (.iload_n 3, 1) := by decide +kernel
theorem dX4_layRest_24 : decode cX4_layRest 24 = .ok (.invokevirtual 41, 3) := by decide +kernel
theorem dX4_layRest_27 : decode cX4_layRest 27 = .ok (.return_, 1) := by decide +kernel
theorem dX4_layRest_5 : decode cX4_layRest 5 = .ok (.if_icmp .le 4, 3) := by decide +kernel
theorem dX4_layRest_9 : decode cX4_layRest 9 = .ok (.iload_n 1, 1) := by decide +kernel
theorem dX5_add_0 : decode cX5_add 0 = .ok (.aload_n 0, 1) := by decide +kernel
theorem dX5_add_1 : decode cX5_add 1 = .ok (.getfield 18, 3) := by decide +kernel
theorem dX5_add_11 : decode cX5_add 11 = .ok (.aload_n 0, 1) := by decide +kernel
theorem dX5_add_12 : decode cX5_add 12 = .ok (.getfield 9, 3) := by decide +kernel
theorem dX5_add_15 : decode cX5_add 15 = .ok (.aload_n 0, 1) := by decide +kernel
theorem dX5_add_16 : decode cX5_add 16 = .ok (.getfield 18, 3) := by decide +kernel
theorem dX5_add_19 : decode cX5_add 19 = .ok (.iload_n 1, 1) := by decide +kernel
theorem dX5_add_20 : decode cX5_add 20 = .ok (.iastore, 1) := by decide +kernel
theorem dX5_add_21 : decode cX5_add 21 = .ok (.aload_n 0, 1) := by decide +kernel
theorem dX5_add_22 : decode cX5_add 22 = .ok (.getfield 15, 3) := by decide +kernel
theorem dX5_add_25 : decode cX5_add 25 = .ok (.aload_n 0, 1) := by decide +kernel
theorem dX5_add_26 : decode cX5_add 26 = .ok (.getfield 18, 3) := by decide +kernel
theorem dX5_add_29 : decode cX5_add 29 = .ok (.iload_n 2, 1) := by decide +kernel
theorem dX5_add_30 : decode cX5_add 30 = .ok (.iastore, 1) := by decide +kernel
theorem dX5_add_31 : decode cX5_add 31 = .ok (.aload_n 0, 1) := by decide +kernel
theorem dX5_add_32 : decode cX5_add 32 = .ok (.dup, 1) := by decide +kernel
theorem dX5_add_33 : decode cX5_add 33 = .ok (.getfield 18, 3) := by decide +kernel
theorem dX5_add_36 : decode cX5_add 36 = .ok (.iconst 1, 1) := by decide +kernel
theorem dX5_add_37 : decode cX5_add 37 = .ok (.iadd, 1) := by decide +kernel
theorem dX5_add_38 : decode cX5_add 38 = .ok (.putfield 18, 3) := by decide +kernel
theorem dX5_add_4 : decode cX5_add 4 = .ok (.bipush 6, 2) := by decide +kernel
theorem dX5_add_41 : decode cX5_add 41 = .ok (.aload_n 0, 1) := by decide +kernel
theorem dX5_add_42 : decode cX5_add 42 = .ok (.getfield 18, 3) := by decide +kernel
theorem dX5_add_45 : decode cX5_add 45 = .ok (.ireturn, 1) := by decide +kernel
theorem dX5_add_6 : decode cX5_add 6 = .ok (.if_icmp .lt 5, 3) := by decide +kernel
theorem dX5_carryOut_0 : decode cX5_carryOut 0 = .ok (.iconst 0, 1) := by decide +kernel
theorem dX5_carryOut_1 : decode cX5_carryOut 1 = .ok (.istore_n 2, 1) := by decide +kernel
theorem dX5_carryOut_12 : decode cX5_carryOut 12 = .ok (.astore_n 3, 1) := by decide +kernel
theorem dX5_carryOut_13 : decode cX5_carryOut 13 = .ok (.aload_n 3, 1) := by decide +kernel
theorem dX5_carryOut_14 : decode cX5_carryOut 14 = .ok (.ifnull 29, 3) := by decide +kernel
theorem dX5_carryOut_2 : decode cX5_carryOut 2 = .ok (.iload_n 2, 1) := by decide +kernel
theorem dX5_carryOut_3 : decode cX5_carryOut 3 = .ok (.iconst 4, 1) := by decide +kernel
theorem dX5_carryOut_4 : decode cX5_carryOut 4 = .ok (.if_icmp .ge 45, 3) := by decide +kernel
theorem dX5_carryOut_43 : decode cX5_carryOut 43 = .ok (.iinc 2 1, 3) := by decide +kernel
theorem dX5_carryOut_46 : decode cX5_carryOut 46 = .ok (.goto (-44), 3) := by decide +kernel
theorem dX5_carryOut_49 : decode cX5_carryOut 49 = .ok (.return_, 1) := by decide +kernel
theorem dX5_carryOut_7 : decode cX5_carryOut 7 = .ok (.aload_n 1, 1) := by decide +kernel
theorem dX5_carryOut_8 : decode cX5_carryOut 8 = .ok (.iload_n 2, 1) := by decide +kernel
theorem dX5_carryOut_9 : decode cX5_carryOut 9 = .ok (.invokevirtual 56, 3) := by decide +kernel
theorem dX5_find_0 : decode cX5_find 0 = .ok (.aload_n 1, 1) := by decide +kernel
theorem dX5_find_1 : decode cX5_find 1 = .ok (.getfield 48, 3) := by decide +kernel
theorem dX5_find_10 : decode cX5_find 10 = .ok (.aaload, 1) := by decide +kernel
theorem dX5_find_102 : decode cX5_find 102 = .ok (.iconst 1, 1) := by decide +kernel
theorem dX5_find_103 : decode cX5_find 103 = .ok (.aload_n 0, 1) := by decide +kernel
theorem dX5_find_104 : decode cX5_find 104 = .ok (.getfield 18, 3) := by decide +kernel
theorem dX5_find_107 : decode cX5_find 107 = .ok (.ishl, 1) := by decide +kernel
theorem dX5_find_108 : decode cX5_find 108 = .ok (.iconst 1, 1) := by decide +kernel
theorem dX5_find_109 : decode cX5_find 109 = .ok (.isub, 1) := by decide +kernel
theorem dX5_find_11 : decode cX5_find 11 = .ok (.ldc 49, 2) := by decide +kernel
theorem dX5_find_110 : decode cX5_find 110 = .ok (.istore_n 3, 1) := by decide +kernel
theorem dX5_find_111 : decode cX5_find 111 = .ok (.aload_n 0, 1) := by decide +kernel
theorem dX5_find_112 : decode cX5_find 112 = .ok (.getfield 30, 3) := by decide +kernel
theorem dX5_find_115 : decode cX5_find 115 = .ok (.iconst 0, 1) := by decide +kernel
theorem dX5_find_116 : decode cX5_find 116 = .ok (.aaload, 1) := by decide +kernel
theorem dX5_find_117 : decode cX5_find 117 = .ok (.iload_n 3, 1) := by decide +kernel
theorem dX5_find_118 : decode cX5_find 118 = .ok (.iaload, 1) := by decide +kernel
theorem dX5_find_119 : decode cX5_find 119 = .ok (.istore 4, 2) := by decide +kernel
theorem dX5_find_121 : decode cX5_find 121 = .ok (.iload 4, 2) := by decide +kernel
theorem dX5_find_123 : decode cX5_find 123 = .ok (.ldc 49, 2) := by decide +kernel
theorem dX5_find_125 : decode cX5_find 125 = .ok (.if_icmp .lt 5, 3) := by decide +kernel
theorem dX5_find_13 : decode cX5_find 13 = .ok (.invokestatic 50, 3) := by decide +kernel
theorem dX5_find_130 : decode cX5_find 130 = .ok (.iconst 0, 1) := by decide +kernel
theorem dX5_find_131 : decode cX5_find 131 = .ok (.istore 5, 2) := by decide +kernel
theorem dX5_find_133 : decode cX5_find 133 = .ok (.iload 5, 2) := by decide +kernel
theorem dX5_find_135 : decode cX5_find 135 = .ok (.iload_n 2, 1) := by decide +kernel
theorem dX5_find_136 : decode cX5_find 136 = .ok (.if_icmp .ge 23, 3) := by decide +kernel
theorem dX5_find_159 : decode cX5_find 159 = .ok (.iload 4, 2) := by decide +kernel
theorem dX5_find_16 : decode cX5_find 16 = .ok (.aload_n 0, 1) := by decide +kernel
theorem dX5_find_161 : decode cX5_find 161 = .ok (.ireturn, 1) := by decide +kernel
theorem dX5_find_17 : decode cX5_find 17 = .ok (.getfield 30, 3) := by decide +kernel
theorem dX5_find_20 : decode cX5_find 20 = .ok (.iload_n 2, 1) := by decide +kernel
theorem dX5_find_21 : decode cX5_find 21 = .ok (.aaload, 1) := by decide +kernel
theorem dX5_find_22 : decode cX5_find 22 = .ok (.iconst 0, 1) := by decide +kernel
theorem dX5_find_23 : decode cX5_find 23 = .ok (.iconst 0, 1) := by decide +kernel
theorem dX5_find_24 : decode cX5_find 24 = .ok (.iastore, 1) := by decide +kernel
theorem dX5_find_25 : decode cX5_find 25 = .ok (.iload_n 2, 1) := by decide +kernel
theorem dX5_find_26 : decode cX5_find 26 = .ok (.iconst 1, 1) := by decide +kernel
theorem dX5_find_27 : decode cX5_find 27 = .ok (.isub, 1) := by decide +kernel
theorem dX5_find_28 : decode cX5_find 28 = .ok (.istore_n 3, 1) := by decide +kernel
theorem dX5_find_29 : decode cX5_find 29 = .ok (.iload_n 3, 1) := by decide +kernel
theorem dX5_find_30 : decode cX5_find 30 = .ok (.ifCond .lt 72, 3) := by decide +kernel
theorem dX5_find_4 : decode cX5_find 4 = .ok (.istore_n 2, 1) := by decide +kernel
theorem dX5_find_5 : decode cX5_find 5 = .ok (.aload_n 0, 1) := by decide +kernel
theorem dX5_find_6 : decode cX5_find 6 = .ok (.getfield 30, 3) := by decide +kernel
theorem dX5_find_9 : decode cX5_find 9 = .ok (.iload_n 2, 1) := by decide +kernel
theorem dX5_marksTrue_0 : decode cX5_marksTrue 0 = .ok (.iconst 0, 1) := by decide +kernel
theorem dX5_marksTrue_1 : decode cX5_marksTrue 1 = .ok (.istore_n 2, 1) := by decide +kernel
theorem dX5_marksTrue_2 : decode cX5_marksTrue 2 = .ok (.iconst 0, 1) := by decide +kernel
theorem dX5_marksTrue_3 : decode cX5_marksTrue 3 = .ok (.istore_n 3, 1) := by decide +kernel
theorem dX5_marksTrue_4 : decode cX5_marksTrue 4 = .ok (.iload_n 3, 1) := by decide +kernel
theorem dX5_marksTrue_43 : decode cX5_marksTrue 43 = .ok (.iload_n 2, 1) := by decide +kernel
theorem dX5_marksTrue_44 : decode cX5_marksTrue 44 = .ok (.ireturn, 1) := by decide +kernel
theorem dX5_marksTrue_5 : decode cX5_marksTrue 5 = .ok (.aload_n 0, 1) := by decide +kernel
theorem dX5_marksTrue_6 : decode cX5_marksTrue 6 = .ok (.getfield 18, 3) := by decide +kernel
theorem dX5_marksTrue_9 : decode cX5_marksTrue 9 = .ok (.if_icmp .ge 34, 3) := by decide +kernel
theorem dm_J7_fill_53178 : yJ7_fill_53178.cls = RJ7 ∧ yJ7_fill_53178.cls ≠ "java/lang/invoke/MethodHandle" ∧ yJ7_fill_53178.cls ≠ "java/lang/invoke/VarHandle" ∧ (parseMethodDescriptor yJ7_fill_53178.desc).map (fun d => d.parameters.length) = some 2 := by decide +kernel
theorem dm_X0_outAt : yX0_outAt.cls = RX0 ∧ yX0_outAt.cls ≠ "java/lang/invoke/MethodHandle" ∧ yX0_outAt.cls ≠ "java/lang/invoke/VarHandle" ∧ (parseMethodDescriptor yX0_outAt.desc).map (fun d => d.parameters.length) = some 1 := by decide +kernel
theorem dm_X0_behind : yX0_behind.cls = RX0 ∧ yX0_behind.cls ≠ "java/lang/invoke/MethodHandle" ∧ yX0_behind.cls ≠ "java/lang/invoke/VarHandle" ∧ (parseMethodDescriptor yX0_behind.desc).map (fun d => d.parameters.length) = some 2 := by decide +kernel
theorem dm_X0_run : yX0_run.cls = RX0 ∧ yX0_run.cls ≠ "java/lang/invoke/MethodHandle" ∧ yX0_run.cls ≠ "java/lang/invoke/VarHandle" ∧ (parseMethodDescriptor yX0_run.desc).map (fun d => d.parameters.length) = some 2 := by decide +kernel
theorem dm_X0_firstSilence : yX0_firstSilence.cls = RX0 ∧ yX0_firstSilence.cls ≠ "java/lang/invoke/MethodHandle" ∧ yX0_firstSilence.cls ≠ "java/lang/invoke/VarHandle" ∧ (parseMethodDescriptor yX0_firstSilence.desc).map (fun d => d.parameters.length) = some 0 := by decide +kernel
theorem dm_X3_spanFits : yX3_spanFits.cls = RX3 ∧ yX3_spanFits.cls ≠ "java/lang/invoke/MethodHandle" ∧ yX3_spanFits.cls ≠ "java/lang/invoke/VarHandle" ∧ (parseMethodDescriptor yX3_spanFits.desc).map (fun d => d.parameters.length) = some 1 := by decide +kernel
theorem dm_X3_makeGreatest : yX3_makeGreatest.cls = RX3 ∧ yX3_makeGreatest.cls ≠ "java/lang/invoke/MethodHandle" ∧ yX3_makeGreatest.cls ≠ "java/lang/invoke/VarHandle" ∧ (parseMethodDescriptor yX3_makeGreatest.desc).map (fun d => d.parameters.length) = some 2 := by decide +kernel
theorem dm_X4_keepBetter : yX4_keepBetter.cls = RX4 ∧ yX4_keepBetter.cls ≠ "java/lang/invoke/MethodHandle" ∧ yX4_keepBetter.cls ≠ "java/lang/invoke/VarHandle" ∧ (parseMethodDescriptor yX4_keepBetter.desc).map (fun d => d.parameters.length) = some 1 := by decide +kernel
theorem dm_X4_layRest : yX4_layRest.cls = RX4 ∧ yX4_layRest.cls ≠ "java/lang/invoke/MethodHandle" ∧ yX4_layRest.cls ≠ "java/lang/invoke/VarHandle" ∧ (parseMethodDescriptor yX4_layRest.desc).map (fun d => d.parameters.length) = some 4 := by decide +kernel
set_option maxHeartbeats 4000000 in
set_option maxRecDepth 100000 in
theorem n_fill70 (l : Launch) (D : va_G) (dA : Nat → ClassId) (b : Nat) (M : zM) (v : Int) (r_v : R32 v) : Met l yJ7_fill_53178 (.code yJ7_fill_53178 cJ7_fill_53178 4 none :: zt) (z_rm 0) (va_Pc [.ref (b + 70), .int (iI v)] (zP D dA vwCl (z_tys dA) wC nC b M)) (va_Qv (zQv wC (zms wC [1727]) M (fun M1 => True)) (zB D dA vwCl wC nC b) (zA nC b)) 0 0 (zA nC b) := by
  refine Met.ofW (cc := cJ7_fill_53178) (maxL := 4) (ret := none) (by decide) rfl ?_
  intro p e s m args below meth c s₁ B hml hv
  obtain ⟨hargs, hR0, hJ, hK⟩ := hv
  have hx := B.exec
  have hb := B.bytes
  have hr := B.returns
  have hts := atoms_spec (ws := .code yJ7_fill_53178 cJ7_fill_53178 4 none :: zt) B.pre
  have hown : s.vm.findClass RJ7 = some m.cls := findClass_of_methodNamed B.named
  have hlocks := B.notSynchronized
  have hS : zS D dA vwCl wC nC b (zms wC [1727]) M M s.heap := ⟨hR0, hJ, zF_rf _ _⟩
  have hS0 : va_S (zA nC b) s.heap s.heap [] := va_S.rf
  have hl := lv_entry ([.ref (b + 70), .int (iI v)]) (n := 4) (Nat.le_of_ble_eq_true rfl)
  have hent : entryFrame m args 4 = F0 m 0 ((lg_sl ([.ref (b + 70), .int (iI v)]) ++ List.replicate (4 - (lg_sl ([.ref (b + 70), .int (iI v)])).length) Slot.unset).toArray) [] := by rw [hargs]; exact lg_entry_eq m ([.ref (b + 70), .int (iI v)]) 4
  rw [hent]
  generalize (lg_sl ([.ref (b + 70), .int (iI v)]) ++ List.replicate (4 - (lg_sl ([.ref (b + 70), .int (iI v)])).length) Slot.unset).toArray = ls at hl ⊢
  have hl : lv_has ls 4 [(0, .ref (b + 70)), (1, .int (iI v))] := hl
  refine z_iconst hx hb dJ7_fill_53178_0 ?_
  refine lv_istore_n (lv' := [(2, .int (iI 0)), (0, .ref (b + 70)), (1, .int (iI v))]) hx hb dJ7_fill_53178_1 rfl hl (by decide) rfl (fun ls hl => ?_)
  refine lv_aload_n hx hb dJ7_fill_53178_2 rfl (lv_at hl 1 rfl) ?_
  refine z_alen (n := 64) hx hb hK.1 (t0 := 0) rfl hS (by decide) (zkd_of (rfl : zcd wC 70 = 26) rfl) (zln_of (rfl : zcd wC 70 = 26) rfl) dJ7_fill_53178_3 ?_
  refine z_top (show (((64 : Nat) : Int)) = 64 from by decide) ?_
  refine lv_istore_n (lv' := [(3, .int (iI 64)), (2, .int (iI 0)), (0, .ref (b + 70)), (1, .int (iI v))]) hx hb dJ7_fill_53178_4 rfl hl (by decide) rfl (fun ls hl => ?_)
  have L4 : ∀ (n2 : Nat) (i1 : Int) (M5 : zM) (H : Heap) (locs : List Loc) (ls : Array Slot), (2147483648 - i1).toNat ≤ n2 → R32 i1 → (0 ≤ i1) → zS D dA vwCl wC nC b (zms wC [1727]) M M5 H → va_S (zA nC b) s.heap H locs → lv_has ls 4 [(0, .ref (b + 70)), (1, .int (iI v)), (2, .int (iI i1)), (3, .int (iI 64))] → W p l e (headSpec (.code yJ7_fill_53178 cJ7_fill_53178 4 none :: zt) (z_rm 0)).room s m args below meth c H locs 0 0 (MQ below (va_Qv (zQv wC (zms wC [1727]) M (fun M1 => True)) (zB D dA vwCl wC nC b) (zA nC b)) args s 0 0 (zA nC b)) (F0 m 5 ls []) := by
    intro n2
    induction n2 with
    | zero =>
      intro i1 M5 H locs ls hm r_i1 i6 hS hS0 hl
      exfalso
      omega
    | succ n2 ih3 =>
      intro i1 M5 H locs ls hm r_i1 i6 hS hS0 hl
      have J7 := hS.2.1
      have F8 := hS.2.2
      refine lv_iload_n hx hb dJ7_fill_53178_5 rfl (lv_at hl 2 rfl) ?_
      refine lv_iload_n hx hb dJ7_fill_53178_6 rfl (lv_at hl 3 rfl) ?_
      refine z_icmp_ge (tgt := 20) hx hb r_i1 (by decide) dJ7_fill_53178_7 (by decide) (fun c9 => ?_) (fun c9 => ?_)
      · skip
        exact z_vret hx hb hr hlocks hS hS0 (by first | exact trivial | exact ⟨rfl, trivial⟩ | omega | (refine ⟨by omega, trivial⟩)) dJ7_fill_53178_20
      · skip
        refine lv_aload_n hx hb dJ7_fill_53178_10 rfl (lv_at hl 0 rfl) ?_
        refine lv_iload_n hx hb dJ7_fill_53178_11 rfl (lv_at hl 2 rfl) ?_
        refine lv_iload_n hx hb dJ7_fill_53178_12 rfl (lv_at hl 1 rfl) ?_
        refine z_iast (n := 64) hx hb hK.1 (t0 := 0) rfl hS hS0 (by decide) (zkd_of (rfl : zcd wC 70 = 26) rfl) (zln_of (rfl : zcd wC 70 = 26) rfl) (by omega) (by omega) (by decide) (zbd_in (rfl : zcd wC 70 = 26) rfl r_v) (zms_of (rfl : zcd wC 70 = 26) rfl) dJ7_fill_53178_13 (fun H locs hS hS0 => ?_)
        obtain ⟨M10, e11⟩ : ∃ M10 : zM, M10 = zup M5 70 (i1.toNat) v := ⟨_, rfl⟩
        rw [← e11] at hS
        have J12 := hS.2.1
        refine z_iinc (lv' := [(2, .int (iI (i1 + 1))), (0, .ref (b + 70)), (1, .int (iI v)), (3, .int (iI 64))]) hx hb dJ7_fill_53178_14 hl (k := 2) rfl (by decide) rfl (fun ls hl => ?_)
        refine lv_goto (tgt := 5) hx hb dJ7_fill_53178_17 (by decide) ?_
        exact ih3 (i1 + 1) M10 _ _ _ (by omega) ⟨by omega, by omega⟩ (by omega) hS hS0 (lv_sub hl [1, 2, 0, 3] rfl)
  exact L4 _ 0 M _ _ _ (Nat.le_refl _) (by decide) (by omega) hS hS0 (lv_sub hl [2, 3, 1, 0] rfl)

set_option maxHeartbeats 4000000 in
set_option maxRecDepth 100000 in
theorem n_fill84 (l : Launch) (D : va_G) (dA : Nat → ClassId) (b : Nat) (M : zM) (v : Int) (r_v : R32 v) : Met l yJ7_fill_53178 (.code yJ7_fill_53178 cJ7_fill_53178 4 none :: zt) (z_rm 0) (va_Pc [.ref (b + 84), .int (iI v)] (zP D dA vwCl (z_tys dA) wC nC b M)) (va_Qv (zQv wC (zms wC [2367]) M (fun M1 => True)) (zB D dA vwCl wC nC b) (zA nC b)) 0 0 (zA nC b) := by
  refine Met.ofW (cc := cJ7_fill_53178) (maxL := 4) (ret := none) (by decide) rfl ?_
  intro p e s m args below meth c s₁ B hml hv
  obtain ⟨hargs, hR0, hJ, hK⟩ := hv
  have hx := B.exec
  have hb := B.bytes
  have hr := B.returns
  have hts := atoms_spec (ws := .code yJ7_fill_53178 cJ7_fill_53178 4 none :: zt) B.pre
  have hown : s.vm.findClass RJ7 = some m.cls := findClass_of_methodNamed B.named
  have hlocks := B.notSynchronized
  have hS : zS D dA vwCl wC nC b (zms wC [2367]) M M s.heap := ⟨hR0, hJ, zF_rf _ _⟩
  have hS0 : va_S (zA nC b) s.heap s.heap [] := va_S.rf
  have hl := lv_entry ([.ref (b + 84), .int (iI v)]) (n := 4) (Nat.le_of_ble_eq_true rfl)
  have hent : entryFrame m args 4 = F0 m 0 ((lg_sl ([.ref (b + 84), .int (iI v)]) ++ List.replicate (4 - (lg_sl ([.ref (b + 84), .int (iI v)])).length) Slot.unset).toArray) [] := by rw [hargs]; exact lg_entry_eq m ([.ref (b + 84), .int (iI v)]) 4
  rw [hent]
  generalize (lg_sl ([.ref (b + 84), .int (iI v)]) ++ List.replicate (4 - (lg_sl ([.ref (b + 84), .int (iI v)])).length) Slot.unset).toArray = ls at hl ⊢
  have hl : lv_has ls 4 [(0, .ref (b + 84)), (1, .int (iI v))] := hl
  refine z_iconst hx hb dJ7_fill_53178_0 ?_
  refine lv_istore_n (lv' := [(2, .int (iI 0)), (0, .ref (b + 84)), (1, .int (iI v))]) hx hb dJ7_fill_53178_1 rfl hl (by decide) rfl (fun ls hl => ?_)
  refine lv_aload_n hx hb dJ7_fill_53178_2 rfl (lv_at hl 1 rfl) ?_
  refine z_alen (n := 24) hx hb hK.1 (t0 := 0) rfl hS (by decide) (zkd_of (rfl : zcd wC 84 = 36) rfl) (zln_of (rfl : zcd wC 84 = 36) rfl) dJ7_fill_53178_3 ?_
  refine z_top (show (((24 : Nat) : Int)) = 24 from by decide) ?_
  refine lv_istore_n (lv' := [(3, .int (iI 24)), (2, .int (iI 0)), (0, .ref (b + 84)), (1, .int (iI v))]) hx hb dJ7_fill_53178_4 rfl hl (by decide) rfl (fun ls hl => ?_)
  have L4 : ∀ (n2 : Nat) (i1 : Int) (M5 : zM) (H : Heap) (locs : List Loc) (ls : Array Slot), (2147483648 - i1).toNat ≤ n2 → R32 i1 → (0 ≤ i1) → zS D dA vwCl wC nC b (zms wC [2367]) M M5 H → va_S (zA nC b) s.heap H locs → lv_has ls 4 [(0, .ref (b + 84)), (1, .int (iI v)), (2, .int (iI i1)), (3, .int (iI 24))] → W p l e (headSpec (.code yJ7_fill_53178 cJ7_fill_53178 4 none :: zt) (z_rm 0)).room s m args below meth c H locs 0 0 (MQ below (va_Qv (zQv wC (zms wC [2367]) M (fun M1 => True)) (zB D dA vwCl wC nC b) (zA nC b)) args s 0 0 (zA nC b)) (F0 m 5 ls []) := by
    intro n2
    induction n2 with
    | zero =>
      intro i1 M5 H locs ls hm r_i1 i6 hS hS0 hl
      exfalso
      omega
    | succ n2 ih3 =>
      intro i1 M5 H locs ls hm r_i1 i6 hS hS0 hl
      have J7 := hS.2.1
      have F8 := hS.2.2
      refine lv_iload_n hx hb dJ7_fill_53178_5 rfl (lv_at hl 2 rfl) ?_
      refine lv_iload_n hx hb dJ7_fill_53178_6 rfl (lv_at hl 3 rfl) ?_
      refine z_icmp_ge (tgt := 20) hx hb r_i1 (by decide) dJ7_fill_53178_7 (by decide) (fun c9 => ?_) (fun c9 => ?_)
      · skip
        exact z_vret hx hb hr hlocks hS hS0 (by first | exact trivial | exact ⟨rfl, trivial⟩ | omega | (refine ⟨by omega, trivial⟩)) dJ7_fill_53178_20
      · skip
        refine lv_aload_n hx hb dJ7_fill_53178_10 rfl (lv_at hl 0 rfl) ?_
        refine lv_iload_n hx hb dJ7_fill_53178_11 rfl (lv_at hl 2 rfl) ?_
        refine lv_iload_n hx hb dJ7_fill_53178_12 rfl (lv_at hl 1 rfl) ?_
        refine z_iast (n := 24) hx hb hK.1 (t0 := 0) rfl hS hS0 (by decide) (zkd_of (rfl : zcd wC 84 = 36) rfl) (zln_of (rfl : zcd wC 84 = 36) rfl) (by omega) (by omega) (by decide) (zbd_in (rfl : zcd wC 84 = 36) rfl r_v) (zms_of (rfl : zcd wC 84 = 36) rfl) dJ7_fill_53178_13 (fun H locs hS hS0 => ?_)
        obtain ⟨M10, e11⟩ : ∃ M10 : zM, M10 = zup M5 84 (i1.toNat) v := ⟨_, rfl⟩
        rw [← e11] at hS
        have J12 := hS.2.1
        refine z_iinc (lv' := [(2, .int (iI (i1 + 1))), (0, .ref (b + 84)), (1, .int (iI v)), (3, .int (iI 24))]) hx hb dJ7_fill_53178_14 hl (k := 2) rfl (by decide) rfl (fun ls hl => ?_)
        refine lv_goto (tgt := 5) hx hb dJ7_fill_53178_17 (by decide) ?_
        exact ih3 (i1 + 1) M10 _ _ _ (by omega) ⟨by omega, by omega⟩ (by omega) hS hS0 (lv_sub hl [1, 2, 0, 3] rfl)
  exact L4 _ 0 M _ _ _ (Nat.le_refl _) (by decide) (by omega) hS hS0 (lv_sub hl [2, 3, 1, 0] rfl)

set_option maxHeartbeats 4000000 in
set_option maxRecDepth 100000 in
theorem n_fill85 (l : Launch) (D : va_G) (dA : Nat → ClassId) (b : Nat) (M : zM) (v : Int) (r_v : R32 v) : Met l yJ7_fill_53178 (.code yJ7_fill_53178 cJ7_fill_53178 4 none :: zt) (z_rm 0) (va_Pc [.ref (b + 85), .int (iI v)] (zP D dA vwCl (z_tys dA) wC nC b M)) (va_Qv (zQv wC (zms wC [2431]) M (fun M1 => True)) (zB D dA vwCl wC nC b) (zA nC b)) 0 0 (zA nC b) := by
  refine Met.ofW (cc := cJ7_fill_53178) (maxL := 4) (ret := none) (by decide) rfl ?_
  intro p e s m args below meth c s₁ B hml hv
  obtain ⟨hargs, hR0, hJ, hK⟩ := hv
  have hx := B.exec
  have hb := B.bytes
  have hr := B.returns
  have hts := atoms_spec (ws := .code yJ7_fill_53178 cJ7_fill_53178 4 none :: zt) B.pre
  have hown : s.vm.findClass RJ7 = some m.cls := findClass_of_methodNamed B.named
  have hlocks := B.notSynchronized
  have hS : zS D dA vwCl wC nC b (zms wC [2431]) M M s.heap := ⟨hR0, hJ, zF_rf _ _⟩
  have hS0 : va_S (zA nC b) s.heap s.heap [] := va_S.rf
  have hl := lv_entry ([.ref (b + 85), .int (iI v)]) (n := 4) (Nat.le_of_ble_eq_true rfl)
  have hent : entryFrame m args 4 = F0 m 0 ((lg_sl ([.ref (b + 85), .int (iI v)]) ++ List.replicate (4 - (lg_sl ([.ref (b + 85), .int (iI v)])).length) Slot.unset).toArray) [] := by rw [hargs]; exact lg_entry_eq m ([.ref (b + 85), .int (iI v)]) 4
  rw [hent]
  generalize (lg_sl ([.ref (b + 85), .int (iI v)]) ++ List.replicate (4 - (lg_sl ([.ref (b + 85), .int (iI v)])).length) Slot.unset).toArray = ls at hl ⊢
  have hl : lv_has ls 4 [(0, .ref (b + 85)), (1, .int (iI v))] := hl
  refine z_iconst hx hb dJ7_fill_53178_0 ?_
  refine lv_istore_n (lv' := [(2, .int (iI 0)), (0, .ref (b + 85)), (1, .int (iI v))]) hx hb dJ7_fill_53178_1 rfl hl (by decide) rfl (fun ls hl => ?_)
  refine lv_aload_n hx hb dJ7_fill_53178_2 rfl (lv_at hl 1 rfl) ?_
  refine z_alen (n := 24) hx hb hK.1 (t0 := 0) rfl hS (by decide) (zkd_of (rfl : zcd wC 85 = 37) rfl) (zln_of (rfl : zcd wC 85 = 37) rfl) dJ7_fill_53178_3 ?_
  refine z_top (show (((24 : Nat) : Int)) = 24 from by decide) ?_
  refine lv_istore_n (lv' := [(3, .int (iI 24)), (2, .int (iI 0)), (0, .ref (b + 85)), (1, .int (iI v))]) hx hb dJ7_fill_53178_4 rfl hl (by decide) rfl (fun ls hl => ?_)
  have L4 : ∀ (n2 : Nat) (i1 : Int) (M5 : zM) (H : Heap) (locs : List Loc) (ls : Array Slot), (2147483648 - i1).toNat ≤ n2 → R32 i1 → (0 ≤ i1) → zS D dA vwCl wC nC b (zms wC [2431]) M M5 H → va_S (zA nC b) s.heap H locs → lv_has ls 4 [(0, .ref (b + 85)), (1, .int (iI v)), (2, .int (iI i1)), (3, .int (iI 24))] → W p l e (headSpec (.code yJ7_fill_53178 cJ7_fill_53178 4 none :: zt) (z_rm 0)).room s m args below meth c H locs 0 0 (MQ below (va_Qv (zQv wC (zms wC [2431]) M (fun M1 => True)) (zB D dA vwCl wC nC b) (zA nC b)) args s 0 0 (zA nC b)) (F0 m 5 ls []) := by
    intro n2
    induction n2 with
    | zero =>
      intro i1 M5 H locs ls hm r_i1 i6 hS hS0 hl
      exfalso
      omega
    | succ n2 ih3 =>
      intro i1 M5 H locs ls hm r_i1 i6 hS hS0 hl
      have J7 := hS.2.1
      have F8 := hS.2.2
      refine lv_iload_n hx hb dJ7_fill_53178_5 rfl (lv_at hl 2 rfl) ?_
      refine lv_iload_n hx hb dJ7_fill_53178_6 rfl (lv_at hl 3 rfl) ?_
      refine z_icmp_ge (tgt := 20) hx hb r_i1 (by decide) dJ7_fill_53178_7 (by decide) (fun c9 => ?_) (fun c9 => ?_)
      · skip
        exact z_vret hx hb hr hlocks hS hS0 (by first | exact trivial | exact ⟨rfl, trivial⟩ | omega | (refine ⟨by omega, trivial⟩)) dJ7_fill_53178_20
      · skip
        refine lv_aload_n hx hb dJ7_fill_53178_10 rfl (lv_at hl 0 rfl) ?_
        refine lv_iload_n hx hb dJ7_fill_53178_11 rfl (lv_at hl 2 rfl) ?_
        refine lv_iload_n hx hb dJ7_fill_53178_12 rfl (lv_at hl 1 rfl) ?_
        refine z_iast (n := 24) hx hb hK.1 (t0 := 0) rfl hS hS0 (by decide) (zkd_of (rfl : zcd wC 85 = 37) rfl) (zln_of (rfl : zcd wC 85 = 37) rfl) (by omega) (by omega) (by decide) (zbd_in (rfl : zcd wC 85 = 37) rfl r_v) (zms_of (rfl : zcd wC 85 = 37) rfl) dJ7_fill_53178_13 (fun H locs hS hS0 => ?_)
        obtain ⟨M10, e11⟩ : ∃ M10 : zM, M10 = zup M5 85 (i1.toNat) v := ⟨_, rfl⟩
        rw [← e11] at hS
        have J12 := hS.2.1
        refine z_iinc (lv' := [(2, .int (iI (i1 + 1))), (0, .ref (b + 85)), (1, .int (iI v)), (3, .int (iI 24))]) hx hb dJ7_fill_53178_14 hl (k := 2) rfl (by decide) rfl (fun ls hl => ?_)
        refine lv_goto (tgt := 5) hx hb dJ7_fill_53178_17 (by decide) ?_
        exact ih3 (i1 + 1) M10 _ _ _ (by omega) ⟨by omega, by omega⟩ (by omega) hS hS0 (lv_sub hl [1, 2, 0, 3] rfl)
  exact L4 _ 0 M _ _ _ (Nat.le_refl _) (by decide) (by omega) hS hS0 (lv_sub hl [2, 3, 1, 0] rfl)

set_option maxHeartbeats 4000000 in
set_option maxRecDepth 100000 in
theorem n_padd (l : Launch) (D : va_G) (dA : Nat → ClassId) (b : Nat) (M : zM) (t : Int) (sd : Int) (r_t : R32 t) (r_sd : R32 sd) (g0 : M 60 2 = 0) (p0 : 0 ≤ t ∧ t ≤ 100000) (p1 : 1 ≤ sd ∧ sd ≤ 9) : Met l yX5_add (.code yX5_add cX5_add 3 (some .int) :: zt) (z_rm 0) (va_Pc [.ref (b + 60), .int (iI t), .int (iI sd)] (zP D dA vwCl (z_tys dA) wC nC b M)) (va_Qi (zQi wC (zms wC [1218, 1343, 1407]) M (fun z M1 => z = 1 ∧ True)) (zB D dA vwCl wC nC b) (zA nC b)) 0 0 (zA nC b) := by
  refine Met.ofW (cc := cX5_add) (maxL := 3) (ret := (some .int)) (by decide) rfl ?_
  intro p e s m args below meth c s₁ B hml hv
  obtain ⟨hargs, hR0, hJ, hK⟩ := hv
  have hx := B.exec
  have hb := B.bytes
  have hr := B.returns
  have hts := atoms_spec (ws := .code yX5_add cX5_add 3 (some .int) :: zt) B.pre
  have hown : s.vm.findClass RX5 = some m.cls := findClass_of_methodNamed B.named
  have hlocks := B.notSynchronized
  have hS : zS D dA vwCl wC nC b (zms wC [1218, 1343, 1407]) M M s.heap := ⟨hR0, hJ, zF_rf _ _⟩
  have hS0 : va_S (zA nC b) s.heap s.heap [] := va_S.rf
  have hl := lv_entry ([.ref (b + 60), .int (iI t), .int (iI sd)]) (n := 3) (Nat.le_of_ble_eq_true rfl)
  have hent : entryFrame m args 3 = F0 m 0 ((lg_sl ([.ref (b + 60), .int (iI t), .int (iI sd)]) ++ List.replicate (3 - (lg_sl ([.ref (b + 60), .int (iI t), .int (iI sd)])).length) Slot.unset).toArray) [] := by rw [hargs]; exact lg_entry_eq m ([.ref (b + 60), .int (iI t), .int (iI sd)]) 3
  rw [hent]
  generalize (lg_sl ([.ref (b + 60), .int (iI t), .int (iI sd)]) ++ List.replicate (3 - (lg_sl ([.ref (b + 60), .int (iI t), .int (iI sd)])).length) Slot.unset).toArray = ls at hl ⊢
  have hl : lv_has ls 3 [(0, .ref (b + 60)), (1, .int (iI t)), (2, .int (iI sd))] := hl
  refine lv_aload_n hx hb dX5_add_0 rfl (lv_at hl 0 rfl) ?_
  refine z_geti hx hb hts (z_memU u5) hown hK.1 hS f5_2 (by decide) (zkd_of (rfl : zcd wC 60 = 19) rfl) (Or.inl (hts _ (z_mem k145))) dX5_add_1 ?_
  refine z_top (show M 60 2 = 0 from by rw [g0]) ?_
  refine z_bipush hx hb (by decide) dX5_add_4 ?_
  refine z_icmp_lt (tgt := 11) hx hb (by decide) (by decide) dX5_add_6 (by decide) (fun c1 => ?_) (fun c1 => absurd c1 (by decide))
  refine lv_aload_n hx hb dX5_add_11 rfl (lv_at hl 0 rfl) ?_
  refine z_getr (j2 := 61) hx hb hts (z_memU u5) hown hK.1 hS f5_0 (by decide) (zkd_of (rfl : zcd wC 60 = 19) rfl) (zrf_of (rfl : zcd wC 60 = 19) rfl) (Or.inl (hts _ (z_mem k143))) dX5_add_12 ?_
  refine lv_aload_n hx hb dX5_add_15 rfl (lv_at hl 0 rfl) ?_
  refine z_geti hx hb hts (z_memU u5) hown hK.1 hS f5_2 (by decide) (zkd_of (rfl : zcd wC 60 = 19) rfl) (Or.inl (hts _ (z_mem k145))) dX5_add_16 ?_
  refine z_top (show M 60 2 = 0 from by rw [g0]) ?_
  refine lv_iload_n hx hb dX5_add_19 rfl (lv_at hl 1 rfl) ?_
  refine z_iast (n := 6) hx hb hK.1 (t0 := 0) rfl hS hS0 (by decide) (zkd_of (rfl : zcd wC 61 = 20) rfl) (zln_of (rfl : zcd wC 61 = 20) rfl) (by decide) (by decide) (by decide) (zbd_in (rfl : zcd wC 61 = 20) rfl ⟨by omega, by omega⟩) (zms_of (rfl : zcd wC 61 = 20) rfl) dX5_add_20 (fun H locs hS hS0 => ?_)
  obtain ⟨M2, e3⟩ : ∃ M2 : zM, M2 = zup M 61 ((0 : Int).toNat) t := ⟨_, rfl⟩
  rw [← e3] at hS
  have J4 := hS.2.1
  refine lv_aload_n hx hb dX5_add_21 rfl (lv_at hl 0 rfl) ?_
  refine z_getr (j2 := 62) hx hb hts (z_memU u5) hown hK.1 hS f5_1 (by decide) (zkd_of (rfl : zcd wC 60 = 19) rfl) (zrf_of (rfl : zcd wC 60 = 19) rfl) (Or.inl (hts _ (z_mem k144))) dX5_add_22 ?_
  refine lv_aload_n hx hb dX5_add_25 rfl (lv_at hl 0 rfl) ?_
  refine z_geti hx hb hts (z_memU u5) hown hK.1 hS f5_2 (by decide) (zkd_of (rfl : zcd wC 60 = 19) rfl) (Or.inl (hts _ (z_mem k145))) dX5_add_26 ?_
  refine z_top (show M2 60 2 = 0 from by rw [e3, zup_n _ _ (by omega), g0]) ?_
  refine lv_iload_n hx hb dX5_add_29 rfl (lv_at hl 2 rfl) ?_
  refine z_iast (n := 6) hx hb hK.1 (t0 := 0) rfl hS hS0 (by decide) (zkd_of (rfl : zcd wC 62 = 21) rfl) (zln_of (rfl : zcd wC 62 = 21) rfl) (by decide) (by decide) (by decide) (zbd_in (rfl : zcd wC 62 = 21) rfl ⟨by omega, by omega⟩) (zms_of (rfl : zcd wC 62 = 21) rfl) dX5_add_30 (fun H locs hS hS0 => ?_)
  obtain ⟨M5, e6⟩ : ∃ M5 : zM, M5 = zup M2 62 ((0 : Int).toNat) sd := ⟨_, rfl⟩
  rw [← e6] at hS
  have J7 := hS.2.1
  refine lv_aload_n hx hb dX5_add_31 rfl (lv_at hl 0 rfl) ?_
  refine lv_dup hx hb dX5_add_32 rfl ?_
  refine z_geti hx hb hts (z_memU u5) hown hK.1 hS f5_2 (by decide) (zkd_of (rfl : zcd wC 60 = 19) rfl) (Or.inl (hts _ (z_mem k145))) dX5_add_33 ?_
  refine z_top (show M5 60 2 = 0 from by rw [e6, zup_n _ _ (by omega), e3, zup_n _ _ (by omega), g0]) ?_
  refine z_iconst hx hb dX5_add_36 ?_
  refine z_iadd hx hb dX5_add_37 ?_
  refine z_top (show ((0 + 1) : Int) = 1 from by decide) ?_
  refine z_puti hx hb hts (z_memU u5) tyX5 tyX5_ok nmX5 hown hK.1 hS hS0 f5_2 (by decide) (zkd_of (rfl : zcd wC 60 = 19) rfl) (Or.inl (hts _ (z_mem k145))) rfl (z := 1) (by decide +kernel) (zbd_in (rfl : zcd wC 60 = 19) rfl (by decide)) (zms_of (rfl : zcd wC 60 = 19) rfl) dX5_add_38 (fun H locs hS hS0 => ?_)
  obtain ⟨M8, e9⟩ : ∃ M8 : zM, M8 = zup M5 60 2 1 := ⟨_, rfl⟩
  rw [← e9] at hS
  have J10 := hS.2.1
  refine lv_aload_n hx hb dX5_add_41 rfl (lv_at hl 0 rfl) ?_
  refine z_geti hx hb hts (z_memU u5) hown hK.1 hS f5_2 (by decide) (zkd_of (rfl : zcd wC 60 = 19) rfl) (Or.inl (hts _ (z_mem k145))) dX5_add_42 ?_
  refine z_top (show M8 60 2 = 1 from by rw [e9, zup_s]) ?_
  exact z_iret hx hb hr hlocks hS hS0 (by decide) (by first | exact trivial | exact ⟨rfl, trivial⟩ | omega | (refine ⟨by omega, trivial⟩)) dX5_add_45

set_option maxHeartbeats 4000000 in
set_option maxRecDepth 100000 in
theorem n_marksTrue (l : Launch) (D : va_G) (dA : Nat → ClassId) (b : Nat) (M : zM) (g0 : M 60 2 = 0) : Met l yX5_marksTrue (.code yX5_marksTrue cX5_marksTrue 4 (some .int) :: zt) (z_rm 0) (va_Pc [.ref (b + 60), .ref (b + 32)] (zP D dA vwCl (z_tys dA) wC nC b M)) (va_Qi (zQi wC (zms wC []) M (fun z M1 => M1 = M ∧ (z = 0 ∧ True))) (zB D dA vwCl wC nC b) (zA nC b)) 0 0 (zA nC b) := by
  refine Met.ofW (cc := cX5_marksTrue) (maxL := 4) (ret := (some .int)) (by decide) rfl ?_
  intro p e s m args below meth c s₁ B hml hv
  obtain ⟨hargs, hR0, hJ, hK⟩ := hv
  have hx := B.exec
  have hb := B.bytes
  have hr := B.returns
  have hts := atoms_spec (ws := .code yX5_marksTrue cX5_marksTrue 4 (some .int) :: zt) B.pre
  have hown : s.vm.findClass RX5 = some m.cls := findClass_of_methodNamed B.named
  have hlocks := B.notSynchronized
  have hS : zS D dA vwCl wC nC b (zms wC []) M M s.heap := ⟨hR0, hJ, zF_rf _ _⟩
  have hS0 : va_S (zA nC b) s.heap s.heap [] := va_S.rf
  have hl := lv_entry ([.ref (b + 60), .ref (b + 32)]) (n := 4) (Nat.le_of_ble_eq_true rfl)
  have hent : entryFrame m args 4 = F0 m 0 ((lg_sl ([.ref (b + 60), .ref (b + 32)]) ++ List.replicate (4 - (lg_sl ([.ref (b + 60), .ref (b + 32)])).length) Slot.unset).toArray) [] := by rw [hargs]; exact lg_entry_eq m ([.ref (b + 60), .ref (b + 32)]) 4
  rw [hent]
  generalize (lg_sl ([.ref (b + 60), .ref (b + 32)]) ++ List.replicate (4 - (lg_sl ([.ref (b + 60), .ref (b + 32)])).length) Slot.unset).toArray = ls at hl ⊢
  have hl : lv_has ls 4 [(0, .ref (b + 60)), (1, .ref (b + 32))] := hl
  refine z_iconst hx hb dX5_marksTrue_0 ?_
  refine lv_istore_n (lv' := [(2, .int (iI 0)), (0, .ref (b + 60)), (1, .ref (b + 32))]) hx hb dX5_marksTrue_1 rfl hl (by decide) rfl (fun ls hl => ?_)
  refine z_iconst hx hb dX5_marksTrue_2 ?_
  refine lv_istore_n (lv' := [(3, .int (iI 0)), (2, .int (iI 0)), (0, .ref (b + 60)), (1, .ref (b + 32))]) hx hb dX5_marksTrue_3 rfl hl (by decide) rfl (fun ls hl => ?_)
  refine lv_iload_n hx hb dX5_marksTrue_4 rfl (lv_at hl 0 rfl) ?_
  refine lv_aload_n hx hb dX5_marksTrue_5 rfl (lv_at hl 2 rfl) ?_
  refine z_geti hx hb hts (z_memU u5) hown hK.1 hS f5_2 (by decide) (zkd_of (rfl : zcd wC 60 = 19) rfl) (Or.inl (hts _ (z_mem k145))) dX5_marksTrue_6 ?_
  refine z_top (show M 60 2 = 0 from by rw [g0]) ?_
  refine z_icmp_ge (tgt := 43) hx hb (by decide) (by decide) dX5_marksTrue_9 (by decide) (fun c1 => ?_) (fun c1 => absurd c1 (by decide))
  refine lv_iload_n hx hb dX5_marksTrue_43 rfl (lv_at hl 1 rfl) ?_
  exact z_iret hx hb hr hlocks hS hS0 (by decide) (⟨rfl, by first | exact trivial | exact ⟨rfl, trivial⟩ | omega | (refine ⟨by omega, trivial⟩)⟩) dX5_marksTrue_44

set_option maxHeartbeats 4000000 in
set_option maxRecDepth 100000 in
theorem n_pfind (l : Launch) (D : va_G) (dA : Nat → ClassId) (b : Nat) (M : zM) (g0 : M 60 2 = 0) (g1 : M 32 2 = 0) : Met l yX5_find (.code yX5_find cX5_find 6 (some .int) :: zt) (z_rm 1) (va_Pc [.ref (b + 60), .ref (b + 32)] (zP D dA vwCl (z_tys dA) wC nC b M)) (va_Qi (zQi wC (zms wC [1727]) M (fun z M1 => z = 0 ∧ True)) (zB D dA vwCl wC nC b) (zA nC b)) 0 0 (zA nC b) := by
  refine Met.ofW (cc := cX5_find) (maxL := 6) (ret := (some .int)) (by decide) rfl ?_
  intro p e s m args below meth c s₁ B hml hv
  obtain ⟨hargs, hR0, hJ, hK⟩ := hv
  have hx := B.exec
  have hb := B.bytes
  have hr := B.returns
  have hts := atoms_spec (ws := .code yX5_find cX5_find 6 (some .int) :: zt) B.pre
  have hown : s.vm.findClass RX5 = some m.cls := findClass_of_methodNamed B.named
  have hlocks := B.notSynchronized
  have hS : zS D dA vwCl wC nC b (zms wC [1727]) M M s.heap := ⟨hR0, hJ, zF_rf _ _⟩
  have hS0 : va_S (zA nC b) s.heap s.heap [] := va_S.rf
  have hl := lv_entry ([.ref (b + 60), .ref (b + 32)]) (n := 6) (Nat.le_of_ble_eq_true rfl)
  have hent : entryFrame m args 6 = F0 m 0 ((lg_sl ([.ref (b + 60), .ref (b + 32)]) ++ List.replicate (6 - (lg_sl ([.ref (b + 60), .ref (b + 32)])).length) Slot.unset).toArray) [] := by rw [hargs]; exact lg_entry_eq m ([.ref (b + 60), .ref (b + 32)]) 6
  rw [hent]
  generalize (lg_sl ([.ref (b + 60), .ref (b + 32)]) ++ List.replicate (6 - (lg_sl ([.ref (b + 60), .ref (b + 32)])).length) Slot.unset).toArray = ls at hl ⊢
  have hl : lv_has ls 6 [(0, .ref (b + 60)), (1, .ref (b + 32))] := hl
  refine lv_aload_n hx hb dX5_find_0 rfl (lv_at hl 1 rfl) ?_
  refine z_geti hx hb hts (z_memU u9) hown hK.1 hS f9_2 (by decide) (zkd_of (rfl : zcd wC 32 = 8) rfl) (Or.inl (hts _ (z_mem k119))) dX5_find_1 ?_
  refine z_top (show M 32 2 = 0 from by rw [g1]) ?_
  refine lv_istore_n (lv' := [(2, .int (iI 0)), (0, .ref (b + 60)), (1, .ref (b + 32))]) hx hb dX5_find_4 rfl hl (by decide) rfl (fun ls hl => ?_)
  refine lv_aload_n hx hb dX5_find_5 rfl (lv_at hl 1 rfl) ?_
  refine z_getr (j2 := 69) hx hb hts (z_memU u5) hown hK.1 hS f5_5 (by decide) (zkd_of (rfl : zcd wC 60 = 19) rfl) (zrf_of (rfl : zcd wC 60 = 19) rfl) (Or.inl (hts _ (z_mem k150))) dX5_find_6 ?_
  refine lv_iload_n hx hb dX5_find_9 rfl (lv_at hl 0 rfl) ?_
  refine z_aald (n := 5) (j2 := 70) hx hb hK.1 (t0 := 7) (r := 7) (by decide) rfl rfl hS (by decide) (zkd_of (rfl : zcd wC 69 = 25) rfl) (zln_of (rfl : zcd wC 69 = 25) rfl) (by decide) (by decide) (by decide) (zrf_of (rfl : zcd wC 69 = 25) rfl) dX5_find_10 ?_
  refine z_ldc (n := 1000000) hx hb hown (hts _ (z_mem k625)) (by decide) dX5_find_11 ?_
  refine z_callv (va_runS (As := [.ref (b + 70), .int (iI 1000000)]) (rest := []) ⟨hx, hb, hml, hown, hts⟩ (n_fill70 l D dA b M 1000000 (by decide)) (va_cwS 2 hts (z_gS k626 k170 k10 k171) rfl rfl rfl dm_J7_fill_53178.2 ⟨Nat.le_of_ble_eq_true rfl, Nat.le_of_ble_eq_true rfl⟩) ⟨zP_blind, z_pre hS hK⟩ rfl rfl hl.1 rfl (lv_room (Nat.le_of_ble_eq_true rfl)) dX5_find_13 ⟨Nat.le_refl _, Nat.le_refl _⟩) hS hS0 (zms_sub rfl) (fun M1 H locs h2 F3 hS hS0 => ?_)
  have J4 := hS.2.1
  refine lv_aload_n hx hb dX5_find_16 rfl (lv_at hl 1 rfl) ?_
  refine z_getr (j2 := 69) hx hb hts (z_memU u5) hown hK.1 hS f5_5 (by decide) (zkd_of (rfl : zcd wC 60 = 19) rfl) (zrf_of (rfl : zcd wC 60 = 19) rfl) (Or.inl (hts _ (z_mem k150))) dX5_find_17 ?_
  refine lv_iload_n hx hb dX5_find_20 rfl (lv_at hl 0 rfl) ?_
  refine z_aald (n := 5) (j2 := 70) hx hb hK.1 (t0 := 7) (r := 7) (by decide) rfl rfl hS (by decide) (zkd_of (rfl : zcd wC 69 = 25) rfl) (zln_of (rfl : zcd wC 69 = 25) rfl) (by decide) (by decide) (by decide) (zrf_of (rfl : zcd wC 69 = 25) rfl) dX5_find_21 ?_
  refine z_iconst hx hb dX5_find_22 ?_
  refine z_iconst hx hb dX5_find_23 ?_
  refine z_iast (n := 64) hx hb hK.1 (t0 := 0) rfl hS hS0 (by decide) (zkd_of (rfl : zcd wC 70 = 26) rfl) (zln_of (rfl : zcd wC 70 = 26) rfl) (by decide) (by decide) (by decide) (zbd_in (rfl : zcd wC 70 = 26) rfl (by decide)) (zms_of (rfl : zcd wC 70 = 26) rfl) dX5_find_24 (fun H locs hS hS0 => ?_)
  obtain ⟨M5, e6⟩ : ∃ M5 : zM, M5 = zup M1 70 ((0 : Int).toNat) 0 := ⟨_, rfl⟩
  rw [← e6] at hS
  have J7 := hS.2.1
  refine lv_iload_n hx hb dX5_find_25 rfl (lv_at hl 0 rfl) ?_
  refine z_iconst hx hb dX5_find_26 ?_
  refine z_isub hx hb dX5_find_27 ?_
  refine z_top (show ((0 - 1) : Int) = (-1) from by decide) ?_
  refine lv_istore_n (lv' := [(3, .int (iI (-1))), (2, .int (iI 0)), (0, .ref (b + 60)), (1, .ref (b + 32))]) hx hb dX5_find_28 rfl hl (by decide) rfl (fun ls hl => ?_)
  refine lv_iload_n hx hb dX5_find_29 rfl (lv_at hl 0 rfl) ?_
  refine z_if_lt (tgt := 102) hx hb (by decide) dX5_find_30 (by decide) (fun c8 => ?_) (fun c8 => absurd c8 (by decide))
  refine z_iconst hx hb dX5_find_102 ?_
  refine lv_aload_n hx hb dX5_find_103 rfl (lv_at hl 2 rfl) ?_
  refine z_geti hx hb hts (z_memU u5) hown hK.1 hS f5_2 (by decide) (zkd_of (rfl : zcd wC 60 = 19) rfl) (Or.inl (hts _ (z_mem k145))) dX5_find_104 ?_
  refine z_top (show M5 60 2 = 0 from by rw [e6, zup_n _ _ (by omega), F3 _ _ (zms_not (rfl : zcd wC 60 = 19) rfl), g0]) ?_
  refine z_ishl hx hb dX5_find_107 (fun z9 r10 e11 => ?_)
  obtain rfl : z9 = 1 := iI_inj r10 (by decide) (e11.trans (by decide))
  refine z_iconst hx hb dX5_find_108 ?_
  refine z_isub hx hb dX5_find_109 ?_
  refine z_top (show ((1 - 1) : Int) = 0 from by decide) ?_
  refine lv_istore_n (lv' := [(3, .int (iI 0)), (2, .int (iI 0)), (0, .ref (b + 60)), (1, .ref (b + 32))]) hx hb dX5_find_110 rfl hl (by decide) rfl (fun ls hl => ?_)
  refine lv_aload_n hx hb dX5_find_111 rfl (lv_at hl 2 rfl) ?_
  refine z_getr (j2 := 69) hx hb hts (z_memU u5) hown hK.1 hS f5_5 (by decide) (zkd_of (rfl : zcd wC 60 = 19) rfl) (zrf_of (rfl : zcd wC 60 = 19) rfl) (Or.inl (hts _ (z_mem k150))) dX5_find_112 ?_
  refine z_iconst hx hb dX5_find_115 ?_
  refine z_aald (n := 5) (j2 := 70) hx hb hK.1 (t0 := 7) (r := 7) (by decide) rfl rfl hS (by decide) (zkd_of (rfl : zcd wC 69 = 25) rfl) (zln_of (rfl : zcd wC 69 = 25) rfl) (by decide) (by decide) (by decide) (zrf_of (rfl : zcd wC 69 = 25) rfl) dX5_find_116 ?_
  refine lv_iload_n hx hb dX5_find_117 rfl (lv_at hl 0 rfl) ?_
  refine z_iald (n := 64) hx hb hK.1 (t0 := 0) rfl hS (by decide) (zkd_of (rfl : zcd wC 70 = 26) rfl) (zln_of (rfl : zcd wC 70 = 26) rfl) (by decide) (by decide) (by decide) dX5_find_118 ?_
  refine z_top (show M5 70 ((0 : Int).toNat) = 0 from by rw [e6, zup_s]) ?_
  refine lv_istore (lv' := [(4, .int (iI 0)), (3, .int (iI 0)), (2, .int (iI 0)), (0, .ref (b + 60)), (1, .ref (b + 32))]) hx hb dX5_find_119 hl (by decide) rfl (fun ls hl => ?_)
  refine lv_iload hx hb dX5_find_121 (lv_at hl 0 rfl) ?_
  refine z_ldc (n := 1000000) hx hb hown (hts _ (z_mem k625)) (by decide) dX5_find_123 ?_
  refine z_icmp_lt (tgt := 130) hx hb (by decide) (by decide) dX5_find_125 (by decide) (fun c12 => ?_) (fun c12 => absurd c12 (by decide))
  refine z_iconst hx hb dX5_find_130 ?_
  refine lv_istore (lv' := [(5, .int (iI 0)), (4, .int (iI 0)), (3, .int (iI 0)), (2, .int (iI 0)), (0, .ref (b + 60)), (1, .ref (b + 32))]) hx hb dX5_find_131 hl (by decide) rfl (fun ls hl => ?_)
  refine lv_iload hx hb dX5_find_133 (lv_at hl 0 rfl) ?_
  refine lv_iload_n hx hb dX5_find_135 rfl (lv_at hl 3 rfl) ?_
  refine z_icmp_ge (tgt := 159) hx hb (by decide) (by decide) dX5_find_136 (by decide) (fun c13 => ?_) (fun c13 => absurd c13 (by decide))
  refine lv_iload hx hb dX5_find_159 (lv_at hl 1 rfl) ?_
  exact z_iret hx hb hr hlocks hS hS0 (by decide) (by first | exact trivial | exact ⟨rfl, trivial⟩ | omega | (refine ⟨by omega, trivial⟩)) dX5_find_161

set_option maxHeartbeats 4000000 in
set_option maxRecDepth 100000 in
theorem n_carryOut (l : Launch) (D : va_G) (dA : Nat → ClassId) (b : Nat) (M : zM) (g0 : M 32 2 = 0) : Met l yX5_carryOut (.code yX5_carryOut cX5_carryOut 4 none :: zt) (z_rm 1) (va_Pc [.ref (b + 60), .ref (b + 32)] (zP D dA vwCl (z_tys dA) wC nC b M)) (va_Qv (zQv wC (zms wC []) M (fun M1 => M1 = M ∧ (True))) (zB D dA vwCl wC nC b) (zA nC b)) 0 0 (zA nC b) := by
  refine Met.ofW (cc := cX5_carryOut) (maxL := 4) (ret := none) (by decide) rfl ?_
  intro p e s m args below meth c s₁ B hml hv
  obtain ⟨hargs, hR0, hJ, hK⟩ := hv
  have hx := B.exec
  have hb := B.bytes
  have hr := B.returns
  have hts := atoms_spec (ws := .code yX5_carryOut cX5_carryOut 4 none :: zt) B.pre
  have hown : s.vm.findClass RX5 = some m.cls := findClass_of_methodNamed B.named
  have hlocks := B.notSynchronized
  have hS : zS D dA vwCl wC nC b (zms wC []) M M s.heap := ⟨hR0, hJ, zF_rf _ _⟩
  have hS0 : va_S (zA nC b) s.heap s.heap [] := va_S.rf
  have hl := lv_entry ([.ref (b + 60), .ref (b + 32)]) (n := 4) (Nat.le_of_ble_eq_true rfl)
  have hent : entryFrame m args 4 = F0 m 0 ((lg_sl ([.ref (b + 60), .ref (b + 32)]) ++ List.replicate (4 - (lg_sl ([.ref (b + 60), .ref (b + 32)])).length) Slot.unset).toArray) [] := by rw [hargs]; exact lg_entry_eq m ([.ref (b + 60), .ref (b + 32)]) 4
  rw [hent]
  generalize (lg_sl ([.ref (b + 60), .ref (b + 32)]) ++ List.replicate (4 - (lg_sl ([.ref (b + 60), .ref (b + 32)])).length) Slot.unset).toArray = ls at hl ⊢
  have hl : lv_has ls 4 [(0, .ref (b + 60)), (1, .ref (b + 32))] := hl
  refine z_iconst hx hb dX5_carryOut_0 ?_
  refine lv_istore_n (lv' := [(2, .int (iI 0)), (0, .ref (b + 60)), (1, .ref (b + 32))]) hx hb dX5_carryOut_1 rfl hl (by decide) rfl (fun ls hl => ?_)
  refine lv_iload_n hx hb dX5_carryOut_2 rfl (lv_at hl 0 rfl) ?_
  refine z_iconst hx hb dX5_carryOut_3 ?_
  refine z_icmp_ge (tgt := 49) hx hb (by decide) (by decide) dX5_carryOut_4 (by decide) (fun c1 => absurd c1 (by decide)) (fun c1 => ?_)
  refine lv_aload_n hx hb dX5_carryOut_7 rfl (lv_at hl 2 rfl) ?_
  refine lv_iload_n hx hb dX5_carryOut_8 rfl (lv_at hl 0 rfl) ?_
  refine z_callq (va_runV (As := [.int (iI 0)]) (rest := []) ⟨hx, hb, hml, hown, hts⟩ (n_find l D dA b M 0 (by decide) (by rw [g0])) (cwV 1 hts (z_gV k627 k412 k413 k4 k414) rfl rfl rfl dm_X9_find ⟨Nat.le_of_ble_eq_true rfl, Nat.le_of_ble_eq_true rfl⟩) ⟨zP_blind, (z_recv hS hK.1 (by decide) (zkd_of (rfl : zcd wC 32 = 8) rfl) (by decide) (rfl : vwCl[9]? = some (RX9, TX9, 3))), z_pre hS hK⟩ rfl rfl hl.1 rfl (lv_room (Nat.le_of_ble_eq_true rfl)) dX5_carryOut_9 ⟨Nat.le_refl _, Nat.le_refl _⟩) hS hS0 (zms_sub rfl) (fun z6 M2 H locs h3 F4 hS hS0 => ?_)
  obtain ⟨h7, h3⟩ := h3
  rw [h7] at hS
  have h8 := h3
  obtain ⟨z6e, h8⟩ := h8
  subst z6e
  show W _ _ _ _ _ _ _ _ _ _ _ _ _ _ _ (F0 m _ ls (.null :: []))
  refine lv_astore_nN (lv' := [(3, .null), (2, .int (iI 0)), (0, .ref (b + 60)), (1, .ref (b + 32))]) hx hb dX5_carryOut_12 rfl hl (by decide) rfl (fun ls hl => ?_)
  refine lv_aload_nN hx hb dX5_carryOut_13 rfl (lv_at hl 0 rfl) ?_
  refine lv_ifnullN (tgt := 43) hx hb dX5_carryOut_14 (by decide) ?_
  refine z_iinc (lv' := [(2, .int (iI (0 + 1))), (3, .null), (0, .ref (b + 60)), (1, .ref (b + 32))]) hx hb dX5_carryOut_43 hl (k := 1) rfl (by decide) rfl (fun ls hl => ?_)
  rw [show ((0 + 1) : Int) = 1 from by decide] at hl
  refine lv_goto (tgt := 2) hx hb dX5_carryOut_46 (by decide) ?_
  refine lv_iload_n hx hb dX5_carryOut_2 rfl (lv_at hl 0 rfl) ?_
  refine z_iconst hx hb dX5_carryOut_3 ?_
  refine z_icmp_ge (tgt := 49) hx hb (by decide) (by decide) dX5_carryOut_4 (by decide) (fun c9 => absurd c9 (by decide)) (fun c9 => ?_)
  refine lv_aload_n hx hb dX5_carryOut_7 rfl (lv_at hl 3 rfl) ?_
  refine lv_iload_n hx hb dX5_carryOut_8 rfl (lv_at hl 0 rfl) ?_
  refine z_callq (va_runV (As := [.int (iI 1)]) (rest := []) ⟨hx, hb, hml, hown, hts⟩ (n_find l D dA b M 1 (by decide) (by rw [g0])) (cwV 1 hts (z_gV k627 k412 k413 k4 k414) rfl rfl rfl dm_X9_find ⟨Nat.le_of_ble_eq_true rfl, Nat.le_of_ble_eq_true rfl⟩) ⟨zP_blind, (z_recv hS hK.1 (by decide) (zkd_of (rfl : zcd wC 32 = 8) rfl) (by decide) (rfl : vwCl[9]? = some (RX9, TX9, 3))), z_pre hS hK⟩ rfl rfl hl.1 rfl (lv_room (Nat.le_of_ble_eq_true rfl)) dX5_carryOut_9 ⟨Nat.le_refl _, Nat.le_refl _⟩) hS hS0 (zms_sub rfl) (fun z14 M10 H locs h11 F12 hS hS0 => ?_)
  obtain ⟨h15, h11⟩ := h11
  rw [h15] at hS
  have h16 := h11
  obtain ⟨z14e, h16⟩ := h16
  subst z14e
  show W _ _ _ _ _ _ _ _ _ _ _ _ _ _ _ (F0 m _ ls (.null :: []))
  refine lv_astore_nN (lv' := [(3, .null), (2, .int (iI 1)), (0, .ref (b + 60)), (1, .ref (b + 32))]) hx hb dX5_carryOut_12 rfl hl (by decide) rfl (fun ls hl => ?_)
  refine lv_aload_nN hx hb dX5_carryOut_13 rfl (lv_at hl 0 rfl) ?_
  refine lv_ifnullN (tgt := 43) hx hb dX5_carryOut_14 (by decide) ?_
  refine z_iinc (lv' := [(2, .int (iI (1 + 1))), (3, .null), (0, .ref (b + 60)), (1, .ref (b + 32))]) hx hb dX5_carryOut_43 hl (k := 1) rfl (by decide) rfl (fun ls hl => ?_)
  rw [show ((1 + 1) : Int) = 2 from by decide] at hl
  refine lv_goto (tgt := 2) hx hb dX5_carryOut_46 (by decide) ?_
  refine lv_iload_n hx hb dX5_carryOut_2 rfl (lv_at hl 0 rfl) ?_
  refine z_iconst hx hb dX5_carryOut_3 ?_
  refine z_icmp_ge (tgt := 49) hx hb (by decide) (by decide) dX5_carryOut_4 (by decide) (fun c17 => absurd c17 (by decide)) (fun c17 => ?_)
  refine lv_aload_n hx hb dX5_carryOut_7 rfl (lv_at hl 3 rfl) ?_
  refine lv_iload_n hx hb dX5_carryOut_8 rfl (lv_at hl 0 rfl) ?_
  refine z_callq (va_runV (As := [.int (iI 2)]) (rest := []) ⟨hx, hb, hml, hown, hts⟩ (n_find l D dA b M 2 (by decide) (by rw [g0])) (cwV 1 hts (z_gV k627 k412 k413 k4 k414) rfl rfl rfl dm_X9_find ⟨Nat.le_of_ble_eq_true rfl, Nat.le_of_ble_eq_true rfl⟩) ⟨zP_blind, (z_recv hS hK.1 (by decide) (zkd_of (rfl : zcd wC 32 = 8) rfl) (by decide) (rfl : vwCl[9]? = some (RX9, TX9, 3))), z_pre hS hK⟩ rfl rfl hl.1 rfl (lv_room (Nat.le_of_ble_eq_true rfl)) dX5_carryOut_9 ⟨Nat.le_refl _, Nat.le_refl _⟩) hS hS0 (zms_sub rfl) (fun z22 M18 H locs h19 F20 hS hS0 => ?_)
  obtain ⟨h23, h19⟩ := h19
  rw [h23] at hS
  have h24 := h19
  obtain ⟨z22e, h24⟩ := h24
  subst z22e
  show W _ _ _ _ _ _ _ _ _ _ _ _ _ _ _ (F0 m _ ls (.null :: []))
  refine lv_astore_nN (lv' := [(3, .null), (2, .int (iI 2)), (0, .ref (b + 60)), (1, .ref (b + 32))]) hx hb dX5_carryOut_12 rfl hl (by decide) rfl (fun ls hl => ?_)
  refine lv_aload_nN hx hb dX5_carryOut_13 rfl (lv_at hl 0 rfl) ?_
  refine lv_ifnullN (tgt := 43) hx hb dX5_carryOut_14 (by decide) ?_
  refine z_iinc (lv' := [(2, .int (iI (2 + 1))), (3, .null), (0, .ref (b + 60)), (1, .ref (b + 32))]) hx hb dX5_carryOut_43 hl (k := 1) rfl (by decide) rfl (fun ls hl => ?_)
  rw [show ((2 + 1) : Int) = 3 from by decide] at hl
  refine lv_goto (tgt := 2) hx hb dX5_carryOut_46 (by decide) ?_
  refine lv_iload_n hx hb dX5_carryOut_2 rfl (lv_at hl 0 rfl) ?_
  refine z_iconst hx hb dX5_carryOut_3 ?_
  refine z_icmp_ge (tgt := 49) hx hb (by decide) (by decide) dX5_carryOut_4 (by decide) (fun c25 => absurd c25 (by decide)) (fun c25 => ?_)
  refine lv_aload_n hx hb dX5_carryOut_7 rfl (lv_at hl 3 rfl) ?_
  refine lv_iload_n hx hb dX5_carryOut_8 rfl (lv_at hl 0 rfl) ?_
  refine z_callq (va_runV (As := [.int (iI 3)]) (rest := []) ⟨hx, hb, hml, hown, hts⟩ (n_find l D dA b M 3 (by decide) (by rw [g0])) (cwV 1 hts (z_gV k627 k412 k413 k4 k414) rfl rfl rfl dm_X9_find ⟨Nat.le_of_ble_eq_true rfl, Nat.le_of_ble_eq_true rfl⟩) ⟨zP_blind, (z_recv hS hK.1 (by decide) (zkd_of (rfl : zcd wC 32 = 8) rfl) (by decide) (rfl : vwCl[9]? = some (RX9, TX9, 3))), z_pre hS hK⟩ rfl rfl hl.1 rfl (lv_room (Nat.le_of_ble_eq_true rfl)) dX5_carryOut_9 ⟨Nat.le_refl _, Nat.le_refl _⟩) hS hS0 (zms_sub rfl) (fun z30 M26 H locs h27 F28 hS hS0 => ?_)
  obtain ⟨h31, h27⟩ := h27
  rw [h31] at hS
  have h32 := h27
  obtain ⟨z30e, h32⟩ := h32
  subst z30e
  show W _ _ _ _ _ _ _ _ _ _ _ _ _ _ _ (F0 m _ ls (.null :: []))
  refine lv_astore_nN (lv' := [(3, .null), (2, .int (iI 3)), (0, .ref (b + 60)), (1, .ref (b + 32))]) hx hb dX5_carryOut_12 rfl hl (by decide) rfl (fun ls hl => ?_)
  refine lv_aload_nN hx hb dX5_carryOut_13 rfl (lv_at hl 0 rfl) ?_
  refine lv_ifnullN (tgt := 43) hx hb dX5_carryOut_14 (by decide) ?_
  refine z_iinc (lv' := [(2, .int (iI (3 + 1))), (3, .null), (0, .ref (b + 60)), (1, .ref (b + 32))]) hx hb dX5_carryOut_43 hl (k := 1) rfl (by decide) rfl (fun ls hl => ?_)
  rw [show ((3 + 1) : Int) = 4 from by decide] at hl
  refine lv_goto (tgt := 2) hx hb dX5_carryOut_46 (by decide) ?_
  refine lv_iload_n hx hb dX5_carryOut_2 rfl (lv_at hl 0 rfl) ?_
  refine z_iconst hx hb dX5_carryOut_3 ?_
  refine z_icmp_ge (tgt := 49) hx hb (by decide) (by decide) dX5_carryOut_4 (by decide) (fun c33 => ?_) (fun c33 => absurd c33 (by decide))
  exact z_vret hx hb hr hlocks hS hS0 (⟨rfl, trivial⟩) dX5_carryOut_49

set_option maxHeartbeats 4000000 in
set_option maxRecDepth 100000 in
theorem n_weigh (l : Launch) (D : va_G) (dA : Nat → ClassId) (b : Nat) (M : zM) (sd : Int) (v : Int) (r_sd : R32 sd) (r_v : R32 v) (a0 : ∀ k : Nat, k < 10 → M 80 k = 100) (p0 : 1 ≤ sd ∧ sd ≤ 9) (p1 : 0 ≤ v ∧ v ≤ 200) : Met l yX0_weigh (.code yX0_weigh cX0_weigh 4 (some .int) :: zt) (z_rm 0) (va_Pc [.ref (b + 78), .int (iI sd), .int (iI v)] (zP D dA vwCl (z_tys dA) wC nC b M)) (va_Qi (zQi wC (zms wC [2111]) M (fun z M1 => z = 100 ∧ True)) (zB D dA vwCl wC nC b) (zA nC b)) 0 0 (zA nC b) := by
  refine Met.ofW (cc := cX0_weigh) (maxL := 4) (ret := (some .int)) (by decide) rfl ?_
  intro p e s m args below meth c s₁ B hml hv
  obtain ⟨hargs, hR0, hJ, hK⟩ := hv
  have hx := B.exec
  have hb := B.bytes
  have hr := B.returns
  have hts := atoms_spec (ws := .code yX0_weigh cX0_weigh 4 (some .int) :: zt) B.pre
  have hown : s.vm.findClass RX0 = some m.cls := findClass_of_methodNamed B.named
  have hlocks := B.notSynchronized
  have hS : zS D dA vwCl wC nC b (zms wC [2111]) M M s.heap := ⟨hR0, hJ, zF_rf _ _⟩
  have hS0 : va_S (zA nC b) s.heap s.heap [] := va_S.rf
  have hl := lv_entry ([.ref (b + 78), .int (iI sd), .int (iI v)]) (n := 4) (Nat.le_of_ble_eq_true rfl)
  have hent : entryFrame m args 4 = F0 m 0 ((lg_sl ([.ref (b + 78), .int (iI sd), .int (iI v)]) ++ List.replicate (4 - (lg_sl ([.ref (b + 78), .int (iI sd), .int (iI v)])).length) Slot.unset).toArray) [] := by rw [hargs]; exact lg_entry_eq m ([.ref (b + 78), .int (iI sd), .int (iI v)]) 4
  rw [hent]
  generalize (lg_sl ([.ref (b + 78), .int (iI sd), .int (iI v)]) ++ List.replicate (4 - (lg_sl ([.ref (b + 78), .int (iI sd), .int (iI v)])).length) Slot.unset).toArray = ls at hl ⊢
  have hl : lv_has ls 4 [(0, .ref (b + 78)), (1, .int (iI sd)), (2, .int (iI v))] := hl
  refine lv_aload_n hx hb dX0_weigh_0 rfl (lv_at hl 0 rfl) ?_
  refine z_getr (j2 := 80) hx hb hts (z_memU u0) hown hK.1 hS f0_2 (by decide) (zkd_of (rfl : zcd wC 78 = 30) rfl) (zrf_of (rfl : zcd wC 78 = 30) rfl) (Or.inl (hts _ (z_mem k176))) dX0_weigh_1 ?_
  refine lv_iload_n hx hb dX0_weigh_4 rfl (lv_at hl 1 rfl) ?_
  refine z_iald (n := 10) hx hb hK.1 (t0 := 0) rfl hS (by decide) (zkd_of (rfl : zcd wC 80 = 32) rfl) (zln_of (rfl : zcd wC 80 = 32) rfl) (by omega) (by omega) (by decide) dX0_weigh_5 ?_
  refine z_top (show M 80 (sd.toNat) = 100 from by rw [a0 _ (by omega)]) ?_
  refine lv_istore_n (lv' := [(3, .int (iI 100)), (0, .ref (b + 78)), (1, .int (iI sd)), (2, .int (iI v))]) hx hb dX0_weigh_6 rfl hl (by decide) rfl (fun ls hl => ?_)
  refine lv_aload_n hx hb dX0_weigh_7 rfl (lv_at hl 1 rfl) ?_
  refine z_getr (j2 := 80) hx hb hts (z_memU u0) hown hK.1 hS f0_2 (by decide) (zkd_of (rfl : zcd wC 78 = 30) rfl) (zrf_of (rfl : zcd wC 78 = 30) rfl) (Or.inl (hts _ (z_mem k176))) dX0_weigh_8 ?_
  refine lv_iload_n hx hb dX0_weigh_11 rfl (lv_at hl 2 rfl) ?_
  refine lv_iload_n hx hb dX0_weigh_12 rfl (lv_at hl 3 rfl) ?_
  refine z_iast (n := 10) hx hb hK.1 (t0 := 0) rfl hS hS0 (by decide) (zkd_of (rfl : zcd wC 80 = 32) rfl) (zln_of (rfl : zcd wC 80 = 32) rfl) (by omega) (by omega) (by decide) (zbd_in (rfl : zcd wC 80 = 32) rfl ⟨by omega, by omega⟩) (zms_of (rfl : zcd wC 80 = 32) rfl) dX0_weigh_13 (fun H locs hS hS0 => ?_)
  obtain ⟨M1, e2⟩ : ∃ M1 : zM, M1 = zup M 80 (sd.toNat) v := ⟨_, rfl⟩
  rw [← e2] at hS
  have J3 := hS.2.1
  refine lv_iload_n hx hb dX0_weigh_14 rfl (lv_at hl 0 rfl) ?_
  exact z_iret hx hb hr hlocks hS hS0 (by decide) (by first | exact trivial | exact ⟨rfl, trivial⟩ | omega | (refine ⟨by omega, trivial⟩)) dX0_weigh_15

set_option maxHeartbeats 4000000 in
set_option maxRecDepth 100000 in
theorem n_place (l : Launch) (D : va_G) (dA : Nat → ClassId) (b : Nat) (M : zM) (d : Int) (a : Int) (ed : Int) (bg : Int) (r_d : R32 d) (r_a : R32 a) (r_ed : R32 ed) (r_bg : R32 bg) (p0 : 1 ≤ d ∧ d ≤ 20) (p1 : 0 ≤ a ∧ a ≤ 100) (p2 : 1 ≤ ed ∧ ed ≤ 20) (p3 : 0 ≤ bg ∧ bg ≤ 100) : Met l yX0_place (.code yX0_place cX0_place 5 none :: zt) (z_rm 0) (va_Pc [.ref (b + 78), .int (iI d), .int (iI a), .int (iI ed), .int (iI bg)] (zP D dA vwCl (z_tys dA) wC nC b M)) (va_Qv (zQv wC (zms wC [1923, 1924, 1925, 1926]) M (fun M1 => True)) (zB D dA vwCl wC nC b) (zA nC b)) 0 0 (zA nC b) := by
  refine Met.ofW (cc := cX0_place) (maxL := 5) (ret := none) (by decide) rfl ?_
  intro p e s m args below meth c s₁ B hml hv
  obtain ⟨hargs, hR0, hJ, hK⟩ := hv
  have hx := B.exec
  have hb := B.bytes
  have hr := B.returns
  have hts := atoms_spec (ws := .code yX0_place cX0_place 5 none :: zt) B.pre
  have hown : s.vm.findClass RX0 = some m.cls := findClass_of_methodNamed B.named
  have hlocks := B.notSynchronized
  have hS : zS D dA vwCl wC nC b (zms wC [1923, 1924, 1925, 1926]) M M s.heap := ⟨hR0, hJ, zF_rf _ _⟩
  have hS0 : va_S (zA nC b) s.heap s.heap [] := va_S.rf
  have hl := lv_entry ([.ref (b + 78), .int (iI d), .int (iI a), .int (iI ed), .int (iI bg)]) (n := 5) (Nat.le_of_ble_eq_true rfl)
  have hent : entryFrame m args 5 = F0 m 0 ((lg_sl ([.ref (b + 78), .int (iI d), .int (iI a), .int (iI ed), .int (iI bg)]) ++ List.replicate (5 - (lg_sl ([.ref (b + 78), .int (iI d), .int (iI a), .int (iI ed), .int (iI bg)])).length) Slot.unset).toArray) [] := by rw [hargs]; exact lg_entry_eq m ([.ref (b + 78), .int (iI d), .int (iI a), .int (iI ed), .int (iI bg)]) 5
  rw [hent]
  generalize (lg_sl ([.ref (b + 78), .int (iI d), .int (iI a), .int (iI ed), .int (iI bg)]) ++ List.replicate (5 - (lg_sl ([.ref (b + 78), .int (iI d), .int (iI a), .int (iI ed), .int (iI bg)])).length) Slot.unset).toArray = ls at hl ⊢
  have hl : lv_has ls 5 [(0, .ref (b + 78)), (1, .int (iI d)), (2, .int (iI a)), (3, .int (iI ed)), (4, .int (iI bg))] := hl
  refine lv_aload_n hx hb dX0_place_0 rfl (lv_at hl 0 rfl) ?_
  refine lv_iload_n hx hb dX0_place_1 rfl (lv_at hl 1 rfl) ?_
  refine z_puti hx hb hts (z_memU u0) tyX0 tyX0_ok nmX0 hown hK.1 hS hS0 f0_3 (by decide) (zkd_of (rfl : zcd wC 78 = 30) rfl) (Or.inl (hts _ (z_mem k177))) rfl (z := d) (by decide +kernel) (zbd_in (rfl : zcd wC 78 = 30) rfl ⟨by omega, by omega⟩) (zms_of (rfl : zcd wC 78 = 30) rfl) dX0_place_2 (fun H locs hS hS0 => ?_)
  obtain ⟨M1, e2⟩ : ∃ M1 : zM, M1 = zup M 78 3 d := ⟨_, rfl⟩
  rw [← e2] at hS
  have J3 := hS.2.1
  refine lv_aload_n hx hb dX0_place_5 rfl (lv_at hl 0 rfl) ?_
  refine lv_iload_n hx hb dX0_place_6 rfl (lv_at hl 2 rfl) ?_
  refine z_puti hx hb hts (z_memU u0) tyX0 tyX0_ok nmX0 hown hK.1 hS hS0 f0_4 (by decide) (zkd_of (rfl : zcd wC 78 = 30) rfl) (Or.inl (hts _ (z_mem k178))) rfl (z := a) (by decide +kernel) (zbd_in (rfl : zcd wC 78 = 30) rfl ⟨by omega, by omega⟩) (zms_of (rfl : zcd wC 78 = 30) rfl) dX0_place_7 (fun H locs hS hS0 => ?_)
  obtain ⟨M4, e5⟩ : ∃ M4 : zM, M4 = zup M1 78 4 a := ⟨_, rfl⟩
  rw [← e5] at hS
  have J6 := hS.2.1
  refine lv_aload_n hx hb dX0_place_10 rfl (lv_at hl 0 rfl) ?_
  refine lv_iload_n hx hb dX0_place_11 rfl (lv_at hl 3 rfl) ?_
  refine z_puti hx hb hts (z_memU u0) tyX0 tyX0_ok nmX0 hown hK.1 hS hS0 f0_5 (by decide) (zkd_of (rfl : zcd wC 78 = 30) rfl) (Or.inl (hts _ (z_mem k179))) rfl (z := ed) (by decide +kernel) (zbd_in (rfl : zcd wC 78 = 30) rfl ⟨by omega, by omega⟩) (zms_of (rfl : zcd wC 78 = 30) rfl) dX0_place_12 (fun H locs hS hS0 => ?_)
  obtain ⟨M7, e8⟩ : ∃ M7 : zM, M7 = zup M4 78 5 ed := ⟨_, rfl⟩
  rw [← e8] at hS
  have J9 := hS.2.1
  refine lv_aload_n hx hb dX0_place_15 rfl (lv_at hl 0 rfl) ?_
  refine lv_iload hx hb dX0_place_16 (lv_at hl 4 rfl) ?_
  refine z_puti hx hb hts (z_memU u0) tyX0 tyX0_ok nmX0 hown hK.1 hS hS0 f0_6 (by decide) (zkd_of (rfl : zcd wC 78 = 30) rfl) (Or.inl (hts _ (z_mem k180))) rfl (z := bg) (by decide +kernel) (zbd_in (rfl : zcd wC 78 = 30) rfl ⟨by omega, by omega⟩) (zms_of (rfl : zcd wC 78 = 30) rfl) dX0_place_18 (fun H locs hS hS0 => ?_)
  obtain ⟨M10, e11⟩ : ∃ M10 : zM, M10 = zup M7 78 6 bg := ⟨_, rfl⟩
  rw [← e11] at hS
  have J12 := hS.2.1
  exact z_vret hx hb hr hlocks hS hS0 (by first | exact trivial | exact ⟨rfl, trivial⟩ | omega | (refine ⟨by omega, trivial⟩)) dX0_place_21

set_option maxHeartbeats 4000000 in
set_option maxRecDepth 100000 in
theorem n_outAt0 (l : Launch) (D : va_G) (dA : Nat → ClassId) (b : Nat) (M : zM) (t : Int) (r_t : R32 t) (a0 : ∀ k : Nat, k < 4001 → M 81 k = 0) : Met l yX0_outAt (.code yX0_outAt cX0_outAt 2 (some .int) :: zt) (z_rm 0) (va_Pc [.ref (b + 78), .int (iI t)] (zP D dA vwCl (z_tys dA) wC nC b M)) (va_Qi (zQi wC (zms wC []) M (fun z M1 => M1 = M ∧ (z = 0 ∧ True))) (zB D dA vwCl wC nC b) (zA nC b)) 0 0 (zA nC b) := by
  refine Met.ofW (cc := cX0_outAt) (maxL := 2) (ret := (some .int)) (by decide) rfl ?_
  intro p e s m args below meth c s₁ B hml hv
  obtain ⟨hargs, hR0, hJ, hK⟩ := hv
  have hx := B.exec
  have hb := B.bytes
  have hr := B.returns
  have hts := atoms_spec (ws := .code yX0_outAt cX0_outAt 2 (some .int) :: zt) B.pre
  have hown : s.vm.findClass RX0 = some m.cls := findClass_of_methodNamed B.named
  have hlocks := B.notSynchronized
  have hS : zS D dA vwCl wC nC b (zms wC []) M M s.heap := ⟨hR0, hJ, zF_rf _ _⟩
  have hS0 : va_S (zA nC b) s.heap s.heap [] := va_S.rf
  have hl := lv_entry ([.ref (b + 78), .int (iI t)]) (n := 2) (Nat.le_of_ble_eq_true rfl)
  have hent : entryFrame m args 2 = F0 m 0 ((lg_sl ([.ref (b + 78), .int (iI t)]) ++ List.replicate (2 - (lg_sl ([.ref (b + 78), .int (iI t)])).length) Slot.unset).toArray) [] := by rw [hargs]; exact lg_entry_eq m ([.ref (b + 78), .int (iI t)]) 2
  rw [hent]
  generalize (lg_sl ([.ref (b + 78), .int (iI t)]) ++ List.replicate (2 - (lg_sl ([.ref (b + 78), .int (iI t)])).length) Slot.unset).toArray = ls at hl ⊢
  have hl : lv_has ls 2 [(0, .ref (b + 78)), (1, .int (iI t))] := hl
  refine lv_iload_n hx hb dX0_outAt_0 rfl (lv_at hl 1 rfl) ?_
  refine z_if_lt (tgt := 22) hx hb r_t dX0_outAt_1 (by decide) (fun c1 => ?_) (fun c1 => ?_)
  · skip
    refine z_iconst hx hb dX0_outAt_22 ?_
    exact z_iret hx hb hr hlocks hS hS0 (by decide) (⟨rfl, by first | exact trivial | exact ⟨rfl, trivial⟩ | omega | (refine ⟨by omega, trivial⟩)⟩) dX0_outAt_23
  · skip
    refine lv_iload_n hx hb dX0_outAt_4 rfl (lv_at hl 1 rfl) ?_
    refine lv_aload_n hx hb dX0_outAt_5 rfl (lv_at hl 0 rfl) ?_
    refine z_getr (j2 := 81) hx hb hts (z_memU u0) hown hK.1 hS f0_7 (by decide) (zkd_of (rfl : zcd wC 78 = 30) rfl) (zrf_of (rfl : zcd wC 78 = 30) rfl) (Or.inl (hts _ (z_mem k181))) dX0_outAt_6 ?_
    refine z_alen (n := 4001) hx hb hK.1 (t0 := 0) rfl hS (by decide) (zkd_of (rfl : zcd wC 81 = 33) rfl) (zln_of (rfl : zcd wC 81 = 33) rfl) dX0_outAt_9 ?_
    refine z_top (show (((4001 : Nat) : Int)) = 4001 from by decide) ?_
    refine z_icmp_ge (tgt := 22) hx hb r_t (by decide) dX0_outAt_10 (by decide) (fun c2 => ?_) (fun c2 => ?_)
    · skip
      refine z_iconst hx hb dX0_outAt_22 ?_
      exact z_iret hx hb hr hlocks hS hS0 (by decide) (⟨rfl, by first | exact trivial | exact ⟨rfl, trivial⟩ | omega | (refine ⟨by omega, trivial⟩)⟩) dX0_outAt_23
    · skip
      refine lv_aload_n hx hb dX0_outAt_13 rfl (lv_at hl 0 rfl) ?_
      refine z_getr (j2 := 81) hx hb hts (z_memU u0) hown hK.1 hS f0_7 (by decide) (zkd_of (rfl : zcd wC 78 = 30) rfl) (zrf_of (rfl : zcd wC 78 = 30) rfl) (Or.inl (hts _ (z_mem k181))) dX0_outAt_14 ?_
      refine lv_iload_n hx hb dX0_outAt_17 rfl (lv_at hl 1 rfl) ?_
      refine z_iald (n := 4001) hx hb hK.1 (t0 := 0) rfl hS (by decide) (zkd_of (rfl : zcd wC 81 = 33) rfl) (zln_of (rfl : zcd wC 81 = 33) rfl) (by omega) (by omega) (by decide) dX0_outAt_18 ?_
      refine z_top (show M 81 (t.toNat) = 0 from by rw [a0 _ (by omega)]) ?_
      refine lv_goto (tgt := 23) hx hb dX0_outAt_19 (by decide) ?_
      exact z_iret hx hb hr hlocks hS hS0 (by decide) (⟨rfl, by first | exact trivial | exact ⟨rfl, trivial⟩ | omega | (refine ⟨by omega, trivial⟩)⟩) dX0_outAt_23

set_option maxHeartbeats 4000000 in
set_option maxRecDepth 100000 in
theorem n_outAtT (l : Launch) (D : va_G) (dA : Nat → ClassId) (b : Nat) (M : zM) (t : Int) (r_t : R32 t) (p0 : 0 ≤ t ∧ t ≤ 4000) (p1 : M 81 t.toNat = 0) : Met l yX0_outAt (.code yX0_outAt cX0_outAt 2 (some .int) :: zt) (z_rm 0) (va_Pc [.ref (b + 78), .int (iI t)] (zP D dA vwCl (z_tys dA) wC nC b M)) (va_Qi (zQi wC (zms wC []) M (fun z M1 => M1 = M ∧ (z = 0 ∧ True))) (zB D dA vwCl wC nC b) (zA nC b)) 0 0 (zA nC b) := by
  refine Met.ofW (cc := cX0_outAt) (maxL := 2) (ret := (some .int)) (by decide) rfl ?_
  intro p e s m args below meth c s₁ B hml hv
  obtain ⟨hargs, hR0, hJ, hK⟩ := hv
  have hx := B.exec
  have hb := B.bytes
  have hr := B.returns
  have hts := atoms_spec (ws := .code yX0_outAt cX0_outAt 2 (some .int) :: zt) B.pre
  have hown : s.vm.findClass RX0 = some m.cls := findClass_of_methodNamed B.named
  have hlocks := B.notSynchronized
  have hS : zS D dA vwCl wC nC b (zms wC []) M M s.heap := ⟨hR0, hJ, zF_rf _ _⟩
  have hS0 : va_S (zA nC b) s.heap s.heap [] := va_S.rf
  have hl := lv_entry ([.ref (b + 78), .int (iI t)]) (n := 2) (Nat.le_of_ble_eq_true rfl)
  have hent : entryFrame m args 2 = F0 m 0 ((lg_sl ([.ref (b + 78), .int (iI t)]) ++ List.replicate (2 - (lg_sl ([.ref (b + 78), .int (iI t)])).length) Slot.unset).toArray) [] := by rw [hargs]; exact lg_entry_eq m ([.ref (b + 78), .int (iI t)]) 2
  rw [hent]
  generalize (lg_sl ([.ref (b + 78), .int (iI t)]) ++ List.replicate (2 - (lg_sl ([.ref (b + 78), .int (iI t)])).length) Slot.unset).toArray = ls at hl ⊢
  have hl : lv_has ls 2 [(0, .ref (b + 78)), (1, .int (iI t))] := hl
  refine lv_iload_n hx hb dX0_outAt_0 rfl (lv_at hl 1 rfl) ?_
  refine z_if_lt (tgt := 22) hx hb r_t dX0_outAt_1 (by decide) (fun c1 => absurd c1 (by omega)) (fun c1 => ?_)
  refine lv_iload_n hx hb dX0_outAt_4 rfl (lv_at hl 1 rfl) ?_
  refine lv_aload_n hx hb dX0_outAt_5 rfl (lv_at hl 0 rfl) ?_
  refine z_getr (j2 := 81) hx hb hts (z_memU u0) hown hK.1 hS f0_7 (by decide) (zkd_of (rfl : zcd wC 78 = 30) rfl) (zrf_of (rfl : zcd wC 78 = 30) rfl) (Or.inl (hts _ (z_mem k181))) dX0_outAt_6 ?_
  refine z_alen (n := 4001) hx hb hK.1 (t0 := 0) rfl hS (by decide) (zkd_of (rfl : zcd wC 81 = 33) rfl) (zln_of (rfl : zcd wC 81 = 33) rfl) dX0_outAt_9 ?_
  refine z_top (show (((4001 : Nat) : Int)) = 4001 from by decide) ?_
  refine z_icmp_ge (tgt := 22) hx hb r_t (by decide) dX0_outAt_10 (by decide) (fun c2 => absurd c2 (by omega)) (fun c2 => ?_)
  refine lv_aload_n hx hb dX0_outAt_13 rfl (lv_at hl 0 rfl) ?_
  refine z_getr (j2 := 81) hx hb hts (z_memU u0) hown hK.1 hS f0_7 (by decide) (zkd_of (rfl : zcd wC 78 = 30) rfl) (zrf_of (rfl : zcd wC 78 = 30) rfl) (Or.inl (hts _ (z_mem k181))) dX0_outAt_14 ?_
  refine lv_iload_n hx hb dX0_outAt_17 rfl (lv_at hl 1 rfl) ?_
  refine z_iald (n := 4001) hx hb hK.1 (t0 := 0) rfl hS (by decide) (zkd_of (rfl : zcd wC 81 = 33) rfl) (zln_of (rfl : zcd wC 81 = 33) rfl) (by omega) (by omega) (by decide) dX0_outAt_18 ?_
  have q3 : (0 : Int) ≤ M 81 (t.toNat) ∧ M 81 (t.toNat) ≤ 5000 := zJ_at hJ (rfl : zcd wC 81 = 33) rfl
  refine lv_goto (tgt := 23) hx hb dX0_outAt_19 (by decide) ?_
  exact z_iret hx hb hr hlocks hS hS0 (r32b q3 (by decide) (by decide)) (⟨rfl, by first | exact trivial | exact ⟨rfl, trivial⟩ | omega | (refine ⟨by omega, trivial⟩)⟩) dX0_outAt_23

set_option maxHeartbeats 4000000 in
set_option maxRecDepth 100000 in
theorem n_outAt (l : Launch) (D : va_G) (dA : Nat → ClassId) (b : Nat) (M : zM) (t : Int) (r_t : R32 t) : Met l yX0_outAt (.code yX0_outAt cX0_outAt 2 (some .int) :: zt) (z_rm 0) (va_Pc [.ref (b + 78), .int (iI t)] (zP D dA vwCl (z_tys dA) wC nC b M)) (va_Qi (zQi wC (zms wC []) M (fun z M1 => M1 = M ∧ (0 ≤ z ∧ z ≤ 5000))) (zB D dA vwCl wC nC b) (zA nC b)) 0 0 (zA nC b) := by
  refine Met.ofW (cc := cX0_outAt) (maxL := 2) (ret := (some .int)) (by decide) rfl ?_
  intro p e s m args below meth c s₁ B hml hv
  obtain ⟨hargs, hR0, hJ, hK⟩ := hv
  have hx := B.exec
  have hb := B.bytes
  have hr := B.returns
  have hts := atoms_spec (ws := .code yX0_outAt cX0_outAt 2 (some .int) :: zt) B.pre
  have hown : s.vm.findClass RX0 = some m.cls := findClass_of_methodNamed B.named
  have hlocks := B.notSynchronized
  have hS : zS D dA vwCl wC nC b (zms wC []) M M s.heap := ⟨hR0, hJ, zF_rf _ _⟩
  have hS0 : va_S (zA nC b) s.heap s.heap [] := va_S.rf
  have hl := lv_entry ([.ref (b + 78), .int (iI t)]) (n := 2) (Nat.le_of_ble_eq_true rfl)
  have hent : entryFrame m args 2 = F0 m 0 ((lg_sl ([.ref (b + 78), .int (iI t)]) ++ List.replicate (2 - (lg_sl ([.ref (b + 78), .int (iI t)])).length) Slot.unset).toArray) [] := by rw [hargs]; exact lg_entry_eq m ([.ref (b + 78), .int (iI t)]) 2
  rw [hent]
  generalize (lg_sl ([.ref (b + 78), .int (iI t)]) ++ List.replicate (2 - (lg_sl ([.ref (b + 78), .int (iI t)])).length) Slot.unset).toArray = ls at hl ⊢
  have hl : lv_has ls 2 [(0, .ref (b + 78)), (1, .int (iI t))] := hl
  refine lv_iload_n hx hb dX0_outAt_0 rfl (lv_at hl 1 rfl) ?_
  refine z_if_lt (tgt := 22) hx hb r_t dX0_outAt_1 (by decide) (fun c1 => ?_) (fun c1 => ?_)
  · skip
    refine z_iconst hx hb dX0_outAt_22 ?_
    exact z_iret hx hb hr hlocks hS hS0 (by decide) (⟨rfl, by first | exact trivial | exact ⟨rfl, trivial⟩ | omega | (refine ⟨by omega, trivial⟩)⟩) dX0_outAt_23
  · skip
    refine lv_iload_n hx hb dX0_outAt_4 rfl (lv_at hl 1 rfl) ?_
    refine lv_aload_n hx hb dX0_outAt_5 rfl (lv_at hl 0 rfl) ?_
    refine z_getr (j2 := 81) hx hb hts (z_memU u0) hown hK.1 hS f0_7 (by decide) (zkd_of (rfl : zcd wC 78 = 30) rfl) (zrf_of (rfl : zcd wC 78 = 30) rfl) (Or.inl (hts _ (z_mem k181))) dX0_outAt_6 ?_
    refine z_alen (n := 4001) hx hb hK.1 (t0 := 0) rfl hS (by decide) (zkd_of (rfl : zcd wC 81 = 33) rfl) (zln_of (rfl : zcd wC 81 = 33) rfl) dX0_outAt_9 ?_
    refine z_top (show (((4001 : Nat) : Int)) = 4001 from by decide) ?_
    refine z_icmp_ge (tgt := 22) hx hb r_t (by decide) dX0_outAt_10 (by decide) (fun c2 => ?_) (fun c2 => ?_)
    · skip
      refine z_iconst hx hb dX0_outAt_22 ?_
      exact z_iret hx hb hr hlocks hS hS0 (by decide) (⟨rfl, by first | exact trivial | exact ⟨rfl, trivial⟩ | omega | (refine ⟨by omega, trivial⟩)⟩) dX0_outAt_23
    · skip
      refine lv_aload_n hx hb dX0_outAt_13 rfl (lv_at hl 0 rfl) ?_
      refine z_getr (j2 := 81) hx hb hts (z_memU u0) hown hK.1 hS f0_7 (by decide) (zkd_of (rfl : zcd wC 78 = 30) rfl) (zrf_of (rfl : zcd wC 78 = 30) rfl) (Or.inl (hts _ (z_mem k181))) dX0_outAt_14 ?_
      refine lv_iload_n hx hb dX0_outAt_17 rfl (lv_at hl 1 rfl) ?_
      refine z_iald (n := 4001) hx hb hK.1 (t0 := 0) rfl hS (by decide) (zkd_of (rfl : zcd wC 81 = 33) rfl) (zln_of (rfl : zcd wC 81 = 33) rfl) (by omega) (by omega) (by decide) dX0_outAt_18 ?_
      have q3 : (0 : Int) ≤ M 81 (t.toNat) ∧ M 81 (t.toNat) ≤ 5000 := zJ_at hJ (rfl : zcd wC 81 = 33) rfl
      refine lv_goto (tgt := 23) hx hb dX0_outAt_19 (by decide) ?_
      exact z_iret hx hb hr hlocks hS hS0 (r32b q3 (by decide) (by decide)) (⟨rfl, by first | exact trivial | exact ⟨rfl, trivial⟩ | omega | (refine ⟨by omega, trivial⟩)⟩) dX0_outAt_23

set_option maxHeartbeats 4000000 in
set_option maxRecDepth 100000 in
theorem n_behind0 (l : Launch) (D : va_G) (dA : Nat → ClassId) (b : Nat) (M : zM) (t : Int) (gn : Int) (r_t : R32 t) (r_gn : R32 gn) (p0 : gn = 0) : Met l yX0_behind (.code yX0_behind cX0_behind 3 (some .int) :: zt) (z_rm 1) (va_Pc [.ref (b + 78), .int (iI t), .int (iI gn)] (zP D dA vwCl (z_tys dA) wC nC b M)) (va_Qi (zQi wC (zms wC []) M (fun z M1 => M1 = M ∧ (z = 0 ∧ True))) (zB D dA vwCl wC nC b) (zA nC b)) 0 0 (zA nC b) := by
  refine Met.ofW (cc := cX0_behind) (maxL := 3) (ret := (some .int)) (by decide) rfl ?_
  intro p e s m args below meth c s₁ B hml hv
  obtain ⟨hargs, hR0, hJ, hK⟩ := hv
  have hx := B.exec
  have hb := B.bytes
  have hr := B.returns
  have hts := atoms_spec (ws := .code yX0_behind cX0_behind 3 (some .int) :: zt) B.pre
  have hown : s.vm.findClass RX0 = some m.cls := findClass_of_methodNamed B.named
  have hlocks := B.notSynchronized
  have hS : zS D dA vwCl wC nC b (zms wC []) M M s.heap := ⟨hR0, hJ, zF_rf _ _⟩
  have hS0 : va_S (zA nC b) s.heap s.heap [] := va_S.rf
  have hl := lv_entry ([.ref (b + 78), .int (iI t), .int (iI gn)]) (n := 3) (Nat.le_of_ble_eq_true rfl)
  have hent : entryFrame m args 3 = F0 m 0 ((lg_sl ([.ref (b + 78), .int (iI t), .int (iI gn)]) ++ List.replicate (3 - (lg_sl ([.ref (b + 78), .int (iI t), .int (iI gn)])).length) Slot.unset).toArray) [] := by rw [hargs]; exact lg_entry_eq m ([.ref (b + 78), .int (iI t), .int (iI gn)]) 3
  rw [hent]
  generalize (lg_sl ([.ref (b + 78), .int (iI t), .int (iI gn)]) ++ List.replicate (3 - (lg_sl ([.ref (b + 78), .int (iI t), .int (iI gn)])).length) Slot.unset).toArray = ls at hl ⊢
  have hl : lv_has ls 3 [(0, .ref (b + 78)), (1, .int (iI t)), (2, .int (iI gn))] := hl
  refine lv_aload_n hx hb dX0_behind_0 rfl (lv_at hl 0 rfl) ?_
  refine lv_iload_n hx hb dX0_behind_1 rfl (lv_at hl 1 rfl) ?_
  refine z_calli (va_runV (As := [.int (iI t)]) (rest := []) ⟨hx, hb, hml, hown, hts⟩ (n_outAt l D dA b M t r_t) (cwV 1 hts (z_gV k710 k711 k712 k9 k713) rfl rfl rfl dm_X0_outAt ⟨Nat.le_of_ble_eq_true rfl, Nat.le_of_ble_eq_true rfl⟩) ⟨zP_blind, (z_recv hS hK.1 (by decide) (zkd_of (rfl : zcd wC 78 = 30) rfl) (by decide) (rfl : vwCl[0]? = some (RX0, TX0, 8))), z_pre hS hK⟩ rfl rfl hl.1 rfl (lv_room (Nat.le_of_ble_eq_true rfl)) dX0_behind_2 ⟨Nat.le_refl _, Nat.le_refl _⟩) hS hS0 (zms_sub rfl) (fun z5 M1 H locs r6 h2 F3 hS hS0 => ?_)
  obtain ⟨h7, h2⟩ := h2
  rw [h7] at hS
  refine lv_iload_n hx hb dX0_behind_5 rfl (lv_at hl 2 rfl) ?_
  refine z_imul hx hb dX0_behind_6 ?_
  refine z_top (show ((z5 * gn) : Int) = 0 from by rw [show gn = (0 : Int) from by omega, Int.mul_zero]) ?_
  refine z_bipush hx hb (by decide) dX0_behind_7 ?_
  refine z_idiv hx hb (by decide) (by decide) (by omega) dX0_behind_9 ?_
  refine z_top (show ((Int.tdiv 0 100) : Int) = 0 from by decide) ?_
  exact z_iret hx hb hr hlocks hS hS0 (by decide) (⟨rfl, by first | exact trivial | exact ⟨rfl, trivial⟩ | omega | (refine ⟨by omega, trivial⟩)⟩) dX0_behind_10

set_option maxHeartbeats 4000000 in
set_option maxRecDepth 100000 in
theorem n_run (l : Launch) (D : va_G) (dA : Nat → ClassId) (b : Nat) (M : zM) (u : Int) (r_u : R32 u) (g0 : M 78 0 = 0) (g1 : M 78 3 = 1) (g2 : M 78 4 = 0) (g3 : M 78 5 = 1) (g4 : M 78 6 = 0) (p0 : 0 ≤ u ∧ u ≤ 4000) : Met l yX0_run (.code yX0_run cX0_run 6 none :: zt) (z_rm 2) (va_Pc [.ref (b + 78), .ref (b + 32), .int (iI u)] (zP D dA vwCl (z_tys dA) wC nC b M)) (va_Qv (zQv wC (zms wC [2175]) M (fun M1 => ∀ k : Nat, (k : Int) ≤ u → M1 81 k = 0)) (zB D dA vwCl wC nC b) (zA nC b)) 0 0 (zA nC b) := by
  refine Met.ofW (cc := cX0_run) (maxL := 6) (ret := none) (by decide) rfl ?_
  intro p e s m args below meth c s₁ B hml hv
  obtain ⟨hargs, hR0, hJ, hK⟩ := hv
  have hx := B.exec
  have hb := B.bytes
  have hr := B.returns
  have hts := atoms_spec (ws := .code yX0_run cX0_run 6 none :: zt) B.pre
  have hown : s.vm.findClass RX0 = some m.cls := findClass_of_methodNamed B.named
  have hlocks := B.notSynchronized
  have hS : zS D dA vwCl wC nC b (zms wC [2175]) M M s.heap := ⟨hR0, hJ, zF_rf _ _⟩
  have hS0 : va_S (zA nC b) s.heap s.heap [] := va_S.rf
  have hl := lv_entry ([.ref (b + 78), .ref (b + 32), .int (iI u)]) (n := 6) (Nat.le_of_ble_eq_true rfl)
  have hent : entryFrame m args 6 = F0 m 0 ((lg_sl ([.ref (b + 78), .ref (b + 32), .int (iI u)]) ++ List.replicate (6 - (lg_sl ([.ref (b + 78), .ref (b + 32), .int (iI u)])).length) Slot.unset).toArray) [] := by rw [hargs]; exact lg_entry_eq m ([.ref (b + 78), .ref (b + 32), .int (iI u)]) 6
  rw [hent]
  generalize (lg_sl ([.ref (b + 78), .ref (b + 32), .int (iI u)]) ++ List.replicate (6 - (lg_sl ([.ref (b + 78), .ref (b + 32), .int (iI u)])).length) Slot.unset).toArray = ls at hl ⊢
  have hl : lv_has ls 6 [(0, .ref (b + 78)), (1, .ref (b + 32)), (2, .int (iI u))] := hl
  refine z_iconst hx hb dX0_run_0 ?_
  refine lv_istore_n (lv' := [(3, .int (iI 0)), (0, .ref (b + 78)), (1, .ref (b + 32)), (2, .int (iI u))]) hx hb dX0_run_1 rfl hl (by decide) rfl (fun ls hl => ?_)
  have L4 : ∀ (n2 : Nat) (t1 : Int) (M5 : zM) (H : Heap) (locs : List Loc) (ls : Array Slot), (2147483648 - t1).toNat ≤ n2 → R32 t1 → (0 ≤ t1) → (∀ k : Nat, (k : Int) < t1 → M5 81 k = 0) → zS D dA vwCl wC nC b (zms wC [2175]) M M5 H → va_S (zA nC b) s.heap H locs → lv_has ls 6 [(0, .ref (b + 78)), (1, .ref (b + 32)), (2, .int (iI u)), (3, .int (iI t1))] → W p l e (headSpec (.code yX0_run cX0_run 6 none :: zt) (z_rm 2)).room s m args below meth c H locs 0 0 (MQ below (va_Qv (zQv wC (zms wC [2175]) M (fun M1 => ∀ k : Nat, (k : Int) ≤ u → M1 81 k = 0)) (zB D dA vwCl wC nC b) (zA nC b)) args s 0 0 (zA nC b)) (F0 m 2 ls []) := by
    intro n2
    induction n2 with
    | zero =>
      intro t1 M5 H locs ls hm r_t1 i6 i7 hS hS0 hl
      exfalso
      omega
    | succ n2 ih3 =>
      intro t1 M5 H locs ls hm r_t1 i6 i7 hS hS0 hl
      have J8 := hS.2.1
      have F9 := hS.2.2
      refine lv_iload_n hx hb dX0_run_2 rfl (lv_at hl 3 rfl) ?_
      refine lv_iload_n hx hb dX0_run_3 rfl (lv_at hl 2 rfl) ?_
      refine z_icmp_gt (tgt := 94) hx hb r_t1 r_u dX0_run_4 (by decide) (fun c10 => ?_) (fun c10 => ?_)
      · skip
        exact z_vret hx hb hr hlocks hS hS0 (fun k hk => i7 k (by omega)) dX0_run_94
      · skip
        refine lv_iload_n hx hb dX0_run_7 rfl (lv_at hl 3 rfl) ?_
        refine lv_aload_n hx hb dX0_run_8 rfl (lv_at hl 0 rfl) ?_
        refine z_getr (j2 := 81) hx hb hts (z_memU u0) hown hK.1 hS f0_7 (by decide) (zkd_of (rfl : zcd wC 78 = 30) rfl) (zrf_of (rfl : zcd wC 78 = 30) rfl) (Or.inl (hts _ (z_mem k181))) dX0_run_9 ?_
        refine z_alen (n := 4001) hx hb hK.1 (t0 := 0) rfl hS (by decide) (zkd_of (rfl : zcd wC 81 = 33) rfl) (zln_of (rfl : zcd wC 81 = 33) rfl) dX0_run_12 ?_
        refine z_top (show (((4001 : Nat) : Int)) = 4001 from by decide) ?_
        refine z_icmp_ge (tgt := 94) hx hb r_t1 (by decide) dX0_run_13 (by decide) (fun c11 => absurd c11 (by omega)) (fun c11 => ?_)
        refine lv_iload_n hx hb dX0_run_16 rfl (lv_at hl 3 rfl) ?_
        refine lv_aload_n hx hb dX0_run_17 rfl (lv_at hl 0 rfl) ?_
        refine z_geti hx hb hts (z_memU u0) hown hK.1 hS f0_0 (by decide) (zkd_of (rfl : zcd wC 78 = 30) rfl) (Or.inl (hts _ (z_mem k172))) dX0_run_18 ?_
        refine z_top (show M5 78 0 = 0 from by rw [F9 _ _ (zms_not (rfl : zcd wC 78 = 30) rfl), g0]) ?_
        refine z_icmp_ge (tgt := 37) hx hb r_t1 (by decide) dX0_run_21 (by decide) (fun c12 => ?_) (fun c12 => absurd c12 (by omega))
        refine z_iconst hx hb dX0_run_37 ?_
        refine lv_istore (lv' := [(4, .int (iI 0)), (0, .ref (b + 78)), (1, .ref (b + 32)), (2, .int (iI u)), (3, .int (iI t1))]) hx hb dX0_run_38 hl (by decide) rfl (fun ls hl => ?_)
        refine lv_iload hx hb dX0_run_40 (lv_at hl 0 rfl) ?_
        refine lv_aload_n hx hb dX0_run_42 rfl (lv_at hl 1 rfl) ?_
        refine lv_iload_n hx hb dX0_run_43 rfl (lv_at hl 4 rfl) ?_
        refine lv_aload_n hx hb dX0_run_44 rfl (lv_at hl 1 rfl) ?_
        refine z_geti hx hb hts (z_memU u0) hown hK.1 hS f0_3 (by decide) (zkd_of (rfl : zcd wC 78 = 30) rfl) (Or.inl (hts _ (z_mem k177))) dX0_run_45 ?_
        refine z_top (show M5 78 3 = 1 from by rw [F9 _ _ (zms_not (rfl : zcd wC 78 = 30) rfl), g1]) ?_
        refine z_isub hx hb dX0_run_48 ?_
        refine lv_aload_n hx hb dX0_run_49 rfl (lv_at hl 1 rfl) ?_
        refine z_geti hx hb hts (z_memU u0) hown hK.1 hS f0_4 (by decide) (zkd_of (rfl : zcd wC 78 = 30) rfl) (Or.inl (hts _ (z_mem k178))) dX0_run_50 ?_
        refine z_top (show M5 78 4 = 0 from by rw [F9 _ _ (zms_not (rfl : zcd wC 78 = 30) rfl), g2]) ?_
        refine z_calli (va_runV (As := [.int (iI (t1 - 1)), .int (iI 0)]) (rest := [.int (iI 0)]) ⟨hx, hb, hml, hown, hts⟩ (n_behind0 l D dA b M5 (t1 - 1) 0 ⟨by omega, by omega⟩ (by decide) (by omega)) (cwV 2 hts (z_gV k707 k708 k1381 k9 k709) rfl rfl rfl dm_X0_behind ⟨Nat.le_of_ble_eq_true rfl, Nat.le_of_ble_eq_true rfl⟩) ⟨zP_blind, (z_recv hS hK.1 (by decide) (zkd_of (rfl : zcd wC 78 = 30) rfl) (by decide) (rfl : vwCl[0]? = some (RX0, TX0, 8))), z_pre hS hK⟩ rfl rfl hl.1 rfl (lv_room (Nat.le_of_ble_eq_true rfl)) dX0_run_53 ⟨Nat.le_refl _, Nat.le_refl _⟩) hS hS0 (zms_sub rfl) (fun z17 M13 H locs r18 h14 F15 hS hS0 => ?_)
        obtain ⟨h19, h14⟩ := h14
        rw [h19] at hS
        have h20 := h14
        obtain ⟨z17e, h20⟩ := h20
        subst z17e
        refine z_iadd hx hb dX0_run_56 ?_
        refine z_top (show ((0 + 0) : Int) = 0 from by decide) ?_
        refine lv_aload_n hx hb dX0_run_57 rfl (lv_at hl 1 rfl) ?_
        refine lv_iload_n hx hb dX0_run_58 rfl (lv_at hl 4 rfl) ?_
        refine lv_aload_n hx hb dX0_run_59 rfl (lv_at hl 1 rfl) ?_
        refine z_geti hx hb hts (z_memU u0) hown hK.1 hS f0_5 (by decide) (zkd_of (rfl : zcd wC 78 = 30) rfl) (Or.inl (hts _ (z_mem k179))) dX0_run_60 ?_
        refine z_top (show M5 78 5 = 1 from by rw [F9 _ _ (zms_not (rfl : zcd wC 78 = 30) rfl), g3]) ?_
        refine z_isub hx hb dX0_run_63 ?_
        refine lv_aload_n hx hb dX0_run_64 rfl (lv_at hl 1 rfl) ?_
        refine z_geti hx hb hts (z_memU u0) hown hK.1 hS f0_6 (by decide) (zkd_of (rfl : zcd wC 78 = 30) rfl) (Or.inl (hts _ (z_mem k180))) dX0_run_65 ?_
        refine z_top (show M5 78 6 = 0 from by rw [F9 _ _ (zms_not (rfl : zcd wC 78 = 30) rfl), g4]) ?_
        refine z_calli (va_runV (As := [.int (iI (t1 - 1)), .int (iI 0)]) (rest := [.int (iI 0)]) ⟨hx, hb, hml, hown, hts⟩ (n_behind0 l D dA b M5 (t1 - 1) 0 ⟨by omega, by omega⟩ (by decide) (by omega)) (cwV 2 hts (z_gV k707 k708 k1381 k9 k709) rfl rfl rfl dm_X0_behind ⟨Nat.le_of_ble_eq_true rfl, Nat.le_of_ble_eq_true rfl⟩) ⟨zP_blind, (z_recv hS hK.1 (by decide) (zkd_of (rfl : zcd wC 78 = 30) rfl) (by decide) (rfl : vwCl[0]? = some (RX0, TX0, 8))), z_pre hS hK⟩ rfl rfl hl.1 rfl (lv_room (Nat.le_of_ble_eq_true rfl)) dX0_run_68 ⟨Nat.le_refl _, Nat.le_refl _⟩) hS hS0 (zms_sub rfl) (fun z25 M21 H locs r26 h22 F23 hS hS0 => ?_)
        obtain ⟨h27, h22⟩ := h22
        rw [h27] at hS
        have h28 := h22
        obtain ⟨z25e, h28⟩ := h28
        subst z25e
        refine z_iadd hx hb dX0_run_71 ?_
        refine z_top (show ((0 + 0) : Int) = 0 from by decide) ?_
        refine lv_istore (lv' := [(5, .int (iI 0)), (4, .int (iI 0)), (0, .ref (b + 78)), (1, .ref (b + 32)), (2, .int (iI u)), (3, .int (iI t1))]) hx hb dX0_run_72 hl (by decide) rfl (fun ls hl => ?_)
        refine lv_aload_n hx hb dX0_run_74 rfl (lv_at hl 2 rfl) ?_
        refine z_getr (j2 := 81) hx hb hts (z_memU u0) hown hK.1 hS f0_7 (by decide) (zkd_of (rfl : zcd wC 78 = 30) rfl) (zrf_of (rfl : zcd wC 78 = 30) rfl) (Or.inl (hts _ (z_mem k181))) dX0_run_75 ?_
        refine lv_iload_n hx hb dX0_run_78 rfl (lv_at hl 5 rfl) ?_
        refine lv_iload hx hb dX0_run_79 (lv_at hl 0 rfl) ?_
        refine z_sipush hx hb (by decide) dX0_run_81 ?_
        refine z_mmin hx hb (hml.trans hl.1.symm) hown (hts _ (z_mem k714)) (hts _ (z_mem k320)) (hts _ (z_mem k15)) (hts _ (z_mem k321)) (by exact Nat.le_of_ble_eq_true rfl) (by exact Nat.le_of_ble_eq_true rfl) (by exact Nat.le_refl _) (by exact Nat.le_refl _) (by decide) (by decide) dX0_run_84 ?_
        refine z_top (show ((min 0 5000) : Int) = 0 from by decide) ?_
        refine z_iast (n := 4001) hx hb hK.1 (t0 := 0) rfl hS hS0 (by decide) (zkd_of (rfl : zcd wC 81 = 33) rfl) (zln_of (rfl : zcd wC 81 = 33) rfl) (by omega) (by omega) (by decide) (zbd_in (rfl : zcd wC 81 = 33) rfl (by decide)) (zms_of (rfl : zcd wC 81 = 33) rfl) dX0_run_87 (fun H locs hS hS0 => ?_)
        obtain ⟨M31, e32⟩ : ∃ M31 : zM, M31 = zup M5 81 (t1.toNat) 0 := ⟨_, rfl⟩
        rw [← e32] at hS
        have J33 := hS.2.1
        refine z_iinc (lv' := [(3, .int (iI (t1 + 1))), (5, .int (iI 0)), (4, .int (iI 0)), (0, .ref (b + 78)), (1, .ref (b + 32)), (2, .int (iI u))]) hx hb dX0_run_88 hl (k := 5) rfl (by decide) rfl (fun ls hl => ?_)
        refine lv_goto (tgt := 2) hx hb dX0_run_91 (by decide) ?_
        exact ih3 (t1 + 1) M31 _ _ _ (by omega) ⟨by omega, by omega⟩ (by omega) (fun k hk => if h9 : k = t1.toNat then by rw [e32, h9]; exact zup_s _ _ _ _ else by rw [e32, zup_n _ _ (fun q => h9 q.2)]; exact i7 k (by omega)) hS hS0 (lv_sub hl [3, 4, 5, 0] rfl)
  exact L4 _ 0 M _ _ _ (Nat.le_refl _) (by decide) (by omega) (fun k hk => absurd hk (by omega)) hS hS0 (lv_sub hl [1, 2, 3, 0] rfl)

set_option maxHeartbeats 4000000 in
set_option maxRecDepth 100000 in
theorem n_firstSilence (l : Launch) (D : va_G) (dA : Nat → ClassId) (b : Nat) (M : zM) (g0 : M 78 0 = 0) (a0 : ∀ k : Nat, k < 4001 → M 81 k = 0) : Met l yX0_firstSilence (.code yX0_firstSilence cX0_firstSilence 3 (some .int) :: zt) (z_rm 1) (va_Pc [.ref (b + 78)] (zP D dA vwCl (z_tys dA) wC nC b M)) (va_Qi (zQi wC (zms wC []) M (fun z M1 => M1 = M ∧ (z = 0 ∧ True))) (zB D dA vwCl wC nC b) (zA nC b)) 0 0 (zA nC b) := by
  refine Met.ofW (cc := cX0_firstSilence) (maxL := 3) (ret := (some .int)) (by decide) rfl ?_
  intro p e s m args below meth c s₁ B hml hv
  obtain ⟨hargs, hR0, hJ, hK⟩ := hv
  have hx := B.exec
  have hb := B.bytes
  have hr := B.returns
  have hts := atoms_spec (ws := .code yX0_firstSilence cX0_firstSilence 3 (some .int) :: zt) B.pre
  have hown : s.vm.findClass RX0 = some m.cls := findClass_of_methodNamed B.named
  have hlocks := B.notSynchronized
  have hS : zS D dA vwCl wC nC b (zms wC []) M M s.heap := ⟨hR0, hJ, zF_rf _ _⟩
  have hS0 : va_S (zA nC b) s.heap s.heap [] := va_S.rf
  have hl := lv_entry ([.ref (b + 78)]) (n := 3) (Nat.le_of_ble_eq_true rfl)
  have hent : entryFrame m args 3 = F0 m 0 ((lg_sl ([.ref (b + 78)]) ++ List.replicate (3 - (lg_sl ([.ref (b + 78)])).length) Slot.unset).toArray) [] := by rw [hargs]; exact lg_entry_eq m ([.ref (b + 78)]) 3
  rw [hent]
  generalize (lg_sl ([.ref (b + 78)]) ++ List.replicate (3 - (lg_sl ([.ref (b + 78)])).length) Slot.unset).toArray = ls at hl ⊢
  have hl : lv_has ls 3 [(0, .ref (b + 78))] := hl
  refine z_iconst hx hb dX0_firstSilence_0 ?_
  refine lv_istore_n (lv' := [(1, .int (iI 0)), (0, .ref (b + 78))]) hx hb dX0_firstSilence_1 rfl hl (by decide) rfl (fun ls hl => ?_)
  refine lv_aload_n hx hb dX0_firstSilence_2 rfl (lv_at hl 1 rfl) ?_
  refine z_geti hx hb hts (z_memU u0) hown hK.1 hS f0_0 (by decide) (zkd_of (rfl : zcd wC 78 = 30) rfl) (Or.inl (hts _ (z_mem k172))) dX0_firstSilence_3 ?_
  refine z_top (show M 78 0 = 0 from by rw [g0]) ?_
  refine lv_istore_n (lv' := [(2, .int (iI 0)), (1, .int (iI 0)), (0, .ref (b + 78))]) hx hb dX0_firstSilence_6 rfl hl (by decide) rfl (fun ls hl => ?_)
  refine lv_iload_n hx hb dX0_firstSilence_7 rfl (lv_at hl 0 rfl) ?_
  refine z_sipush hx hb (by decide) dX0_firstSilence_8 ?_
  refine z_icmp_gt (tgt := 49) hx hb (by decide) (by decide) dX0_firstSilence_11 (by decide) (fun c1 => absurd c1 (by decide)) (fun c1 => ?_)
  refine lv_aload_n hx hb dX0_firstSilence_14 rfl (lv_at hl 2 rfl) ?_
  refine lv_iload_n hx hb dX0_firstSilence_15 rfl (lv_at hl 0 rfl) ?_
  refine z_calli (va_runV (As := [.int (iI 0)]) (rest := []) ⟨hx, hb, hml, hown, hts⟩ (n_outAt0 l D dA b M 0 (by decide) a0) (cwV 1 hts (z_gV k710 k711 k712 k9 k713) rfl rfl rfl dm_X0_outAt ⟨Nat.le_of_ble_eq_true rfl, Nat.le_of_ble_eq_true rfl⟩) ⟨zP_blind, (z_recv hS hK.1 (by decide) (zkd_of (rfl : zcd wC 78 = 30) rfl) (by decide) (rfl : vwCl[0]? = some (RX0, TX0, 8))), z_pre hS hK⟩ rfl rfl hl.1 rfl (lv_room (Nat.le_of_ble_eq_true rfl)) dX0_firstSilence_16 ⟨Nat.le_refl _, Nat.le_refl _⟩) hS hS0 (zms_sub rfl) (fun z6 M2 H locs r7 h3 F4 hS hS0 => ?_)
  obtain ⟨h8, h3⟩ := h3
  rw [h8] at hS
  have h9 := h3
  obtain ⟨z6e, h9⟩ := h9
  subst z6e
  refine z_if_ne (tgt := 28) hx hb (by decide) dX0_firstSilence_19 (by decide) (fun c10 => absurd c10 (by decide)) (fun c10 => ?_)
  refine lv_iload_n hx hb dX0_firstSilence_22 rfl (lv_at hl 1 rfl) ?_
  refine z_iconst hx hb dX0_firstSilence_23 ?_
  refine z_iadd hx hb dX0_firstSilence_24 ?_
  refine z_top (show ((0 + 1) : Int) = 1 from by decide) ?_
  refine lv_goto (tgt := 29) hx hb dX0_firstSilence_25 (by decide) ?_
  refine lv_istore_n (lv' := [(1, .int (iI 1)), (2, .int (iI 0)), (0, .ref (b + 78))]) hx hb dX0_firstSilence_29 rfl hl (by decide) rfl (fun ls hl => ?_)
  refine lv_iload_n hx hb dX0_firstSilence_30 rfl (lv_at hl 0 rfl) ?_
  refine z_bipush hx hb (by decide) dX0_firstSilence_31 ?_
  refine z_icmp_ne (tgt := 43) hx hb (by decide) (by decide) dX0_firstSilence_33 (by decide) (fun c11 => ?_) (fun c11 => absurd c11 (by decide))
  refine z_iinc (lv' := [(2, .int (iI (0 + 1))), (1, .int (iI 1)), (0, .ref (b + 78))]) hx hb dX0_firstSilence_43 hl (k := 1) rfl (by decide) rfl (fun ls hl => ?_)
  rw [show ((0 + 1) : Int) = 1 from by decide] at hl
  refine lv_goto (tgt := 7) hx hb dX0_firstSilence_46 (by decide) ?_
  refine lv_iload_n hx hb dX0_firstSilence_7 rfl (lv_at hl 0 rfl) ?_
  refine z_sipush hx hb (by decide) dX0_firstSilence_8 ?_
  refine z_icmp_gt (tgt := 49) hx hb (by decide) (by decide) dX0_firstSilence_11 (by decide) (fun c12 => absurd c12 (by decide)) (fun c12 => ?_)
  refine lv_aload_n hx hb dX0_firstSilence_14 rfl (lv_at hl 2 rfl) ?_
  refine lv_iload_n hx hb dX0_firstSilence_15 rfl (lv_at hl 0 rfl) ?_
  refine z_calli (va_runV (As := [.int (iI 1)]) (rest := []) ⟨hx, hb, hml, hown, hts⟩ (n_outAt0 l D dA b M 1 (by decide) a0) (cwV 1 hts (z_gV k710 k711 k712 k9 k713) rfl rfl rfl dm_X0_outAt ⟨Nat.le_of_ble_eq_true rfl, Nat.le_of_ble_eq_true rfl⟩) ⟨zP_blind, (z_recv hS hK.1 (by decide) (zkd_of (rfl : zcd wC 78 = 30) rfl) (by decide) (rfl : vwCl[0]? = some (RX0, TX0, 8))), z_pre hS hK⟩ rfl rfl hl.1 rfl (lv_room (Nat.le_of_ble_eq_true rfl)) dX0_firstSilence_16 ⟨Nat.le_refl _, Nat.le_refl _⟩) hS hS0 (zms_sub rfl) (fun z17 M13 H locs r18 h14 F15 hS hS0 => ?_)
  obtain ⟨h19, h14⟩ := h14
  rw [h19] at hS
  have h20 := h14
  obtain ⟨z17e, h20⟩ := h20
  subst z17e
  refine z_if_ne (tgt := 28) hx hb (by decide) dX0_firstSilence_19 (by decide) (fun c21 => absurd c21 (by decide)) (fun c21 => ?_)
  refine lv_iload_n hx hb dX0_firstSilence_22 rfl (lv_at hl 1 rfl) ?_
  refine z_iconst hx hb dX0_firstSilence_23 ?_
  refine z_iadd hx hb dX0_firstSilence_24 ?_
  refine z_top (show ((1 + 1) : Int) = 2 from by decide) ?_
  refine lv_goto (tgt := 29) hx hb dX0_firstSilence_25 (by decide) ?_
  refine lv_istore_n (lv' := [(1, .int (iI 2)), (2, .int (iI 1)), (0, .ref (b + 78))]) hx hb dX0_firstSilence_29 rfl hl (by decide) rfl (fun ls hl => ?_)
  refine lv_iload_n hx hb dX0_firstSilence_30 rfl (lv_at hl 0 rfl) ?_
  refine z_bipush hx hb (by decide) dX0_firstSilence_31 ?_
  refine z_icmp_ne (tgt := 43) hx hb (by decide) (by decide) dX0_firstSilence_33 (by decide) (fun c22 => ?_) (fun c22 => absurd c22 (by decide))
  refine z_iinc (lv' := [(2, .int (iI (1 + 1))), (1, .int (iI 2)), (0, .ref (b + 78))]) hx hb dX0_firstSilence_43 hl (k := 1) rfl (by decide) rfl (fun ls hl => ?_)
  rw [show ((1 + 1) : Int) = 2 from by decide] at hl
  refine lv_goto (tgt := 7) hx hb dX0_firstSilence_46 (by decide) ?_
  refine lv_iload_n hx hb dX0_firstSilence_7 rfl (lv_at hl 0 rfl) ?_
  refine z_sipush hx hb (by decide) dX0_firstSilence_8 ?_
  refine z_icmp_gt (tgt := 49) hx hb (by decide) (by decide) dX0_firstSilence_11 (by decide) (fun c23 => absurd c23 (by decide)) (fun c23 => ?_)
  refine lv_aload_n hx hb dX0_firstSilence_14 rfl (lv_at hl 2 rfl) ?_
  refine lv_iload_n hx hb dX0_firstSilence_15 rfl (lv_at hl 0 rfl) ?_
  refine z_calli (va_runV (As := [.int (iI 2)]) (rest := []) ⟨hx, hb, hml, hown, hts⟩ (n_outAt0 l D dA b M 2 (by decide) a0) (cwV 1 hts (z_gV k710 k711 k712 k9 k713) rfl rfl rfl dm_X0_outAt ⟨Nat.le_of_ble_eq_true rfl, Nat.le_of_ble_eq_true rfl⟩) ⟨zP_blind, (z_recv hS hK.1 (by decide) (zkd_of (rfl : zcd wC 78 = 30) rfl) (by decide) (rfl : vwCl[0]? = some (RX0, TX0, 8))), z_pre hS hK⟩ rfl rfl hl.1 rfl (lv_room (Nat.le_of_ble_eq_true rfl)) dX0_firstSilence_16 ⟨Nat.le_refl _, Nat.le_refl _⟩) hS hS0 (zms_sub rfl) (fun z28 M24 H locs r29 h25 F26 hS hS0 => ?_)
  obtain ⟨h30, h25⟩ := h25
  rw [h30] at hS
  have h31 := h25
  obtain ⟨z28e, h31⟩ := h31
  subst z28e
  refine z_if_ne (tgt := 28) hx hb (by decide) dX0_firstSilence_19 (by decide) (fun c32 => absurd c32 (by decide)) (fun c32 => ?_)
  refine lv_iload_n hx hb dX0_firstSilence_22 rfl (lv_at hl 1 rfl) ?_
  refine z_iconst hx hb dX0_firstSilence_23 ?_
  refine z_iadd hx hb dX0_firstSilence_24 ?_
  refine z_top (show ((2 + 1) : Int) = 3 from by decide) ?_
  refine lv_goto (tgt := 29) hx hb dX0_firstSilence_25 (by decide) ?_
  refine lv_istore_n (lv' := [(1, .int (iI 3)), (2, .int (iI 2)), (0, .ref (b + 78))]) hx hb dX0_firstSilence_29 rfl hl (by decide) rfl (fun ls hl => ?_)
  refine lv_iload_n hx hb dX0_firstSilence_30 rfl (lv_at hl 0 rfl) ?_
  refine z_bipush hx hb (by decide) dX0_firstSilence_31 ?_
  refine z_icmp_ne (tgt := 43) hx hb (by decide) (by decide) dX0_firstSilence_33 (by decide) (fun c33 => ?_) (fun c33 => absurd c33 (by decide))
  refine z_iinc (lv' := [(2, .int (iI (2 + 1))), (1, .int (iI 3)), (0, .ref (b + 78))]) hx hb dX0_firstSilence_43 hl (k := 1) rfl (by decide) rfl (fun ls hl => ?_)
  rw [show ((2 + 1) : Int) = 3 from by decide] at hl
  refine lv_goto (tgt := 7) hx hb dX0_firstSilence_46 (by decide) ?_
  refine lv_iload_n hx hb dX0_firstSilence_7 rfl (lv_at hl 0 rfl) ?_
  refine z_sipush hx hb (by decide) dX0_firstSilence_8 ?_
  refine z_icmp_gt (tgt := 49) hx hb (by decide) (by decide) dX0_firstSilence_11 (by decide) (fun c34 => absurd c34 (by decide)) (fun c34 => ?_)
  refine lv_aload_n hx hb dX0_firstSilence_14 rfl (lv_at hl 2 rfl) ?_
  refine lv_iload_n hx hb dX0_firstSilence_15 rfl (lv_at hl 0 rfl) ?_
  refine z_calli (va_runV (As := [.int (iI 3)]) (rest := []) ⟨hx, hb, hml, hown, hts⟩ (n_outAt0 l D dA b M 3 (by decide) a0) (cwV 1 hts (z_gV k710 k711 k712 k9 k713) rfl rfl rfl dm_X0_outAt ⟨Nat.le_of_ble_eq_true rfl, Nat.le_of_ble_eq_true rfl⟩) ⟨zP_blind, (z_recv hS hK.1 (by decide) (zkd_of (rfl : zcd wC 78 = 30) rfl) (by decide) (rfl : vwCl[0]? = some (RX0, TX0, 8))), z_pre hS hK⟩ rfl rfl hl.1 rfl (lv_room (Nat.le_of_ble_eq_true rfl)) dX0_firstSilence_16 ⟨Nat.le_refl _, Nat.le_refl _⟩) hS hS0 (zms_sub rfl) (fun z39 M35 H locs r40 h36 F37 hS hS0 => ?_)
  obtain ⟨h41, h36⟩ := h36
  rw [h41] at hS
  have h42 := h36
  obtain ⟨z39e, h42⟩ := h42
  subst z39e
  refine z_if_ne (tgt := 28) hx hb (by decide) dX0_firstSilence_19 (by decide) (fun c43 => absurd c43 (by decide)) (fun c43 => ?_)
  refine lv_iload_n hx hb dX0_firstSilence_22 rfl (lv_at hl 1 rfl) ?_
  refine z_iconst hx hb dX0_firstSilence_23 ?_
  refine z_iadd hx hb dX0_firstSilence_24 ?_
  refine z_top (show ((3 + 1) : Int) = 4 from by decide) ?_
  refine lv_goto (tgt := 29) hx hb dX0_firstSilence_25 (by decide) ?_
  refine lv_istore_n (lv' := [(1, .int (iI 4)), (2, .int (iI 3)), (0, .ref (b + 78))]) hx hb dX0_firstSilence_29 rfl hl (by decide) rfl (fun ls hl => ?_)
  refine lv_iload_n hx hb dX0_firstSilence_30 rfl (lv_at hl 0 rfl) ?_
  refine z_bipush hx hb (by decide) dX0_firstSilence_31 ?_
  refine z_icmp_ne (tgt := 43) hx hb (by decide) (by decide) dX0_firstSilence_33 (by decide) (fun c44 => ?_) (fun c44 => absurd c44 (by decide))
  refine z_iinc (lv' := [(2, .int (iI (3 + 1))), (1, .int (iI 4)), (0, .ref (b + 78))]) hx hb dX0_firstSilence_43 hl (k := 1) rfl (by decide) rfl (fun ls hl => ?_)
  rw [show ((3 + 1) : Int) = 4 from by decide] at hl
  refine lv_goto (tgt := 7) hx hb dX0_firstSilence_46 (by decide) ?_
  refine lv_iload_n hx hb dX0_firstSilence_7 rfl (lv_at hl 0 rfl) ?_
  refine z_sipush hx hb (by decide) dX0_firstSilence_8 ?_
  refine z_icmp_gt (tgt := 49) hx hb (by decide) (by decide) dX0_firstSilence_11 (by decide) (fun c45 => absurd c45 (by decide)) (fun c45 => ?_)
  refine lv_aload_n hx hb dX0_firstSilence_14 rfl (lv_at hl 2 rfl) ?_
  refine lv_iload_n hx hb dX0_firstSilence_15 rfl (lv_at hl 0 rfl) ?_
  refine z_calli (va_runV (As := [.int (iI 4)]) (rest := []) ⟨hx, hb, hml, hown, hts⟩ (n_outAt0 l D dA b M 4 (by decide) a0) (cwV 1 hts (z_gV k710 k711 k712 k9 k713) rfl rfl rfl dm_X0_outAt ⟨Nat.le_of_ble_eq_true rfl, Nat.le_of_ble_eq_true rfl⟩) ⟨zP_blind, (z_recv hS hK.1 (by decide) (zkd_of (rfl : zcd wC 78 = 30) rfl) (by decide) (rfl : vwCl[0]? = some (RX0, TX0, 8))), z_pre hS hK⟩ rfl rfl hl.1 rfl (lv_room (Nat.le_of_ble_eq_true rfl)) dX0_firstSilence_16 ⟨Nat.le_refl _, Nat.le_refl _⟩) hS hS0 (zms_sub rfl) (fun z50 M46 H locs r51 h47 F48 hS hS0 => ?_)
  obtain ⟨h52, h47⟩ := h47
  rw [h52] at hS
  have h53 := h47
  obtain ⟨z50e, h53⟩ := h53
  subst z50e
  refine z_if_ne (tgt := 28) hx hb (by decide) dX0_firstSilence_19 (by decide) (fun c54 => absurd c54 (by decide)) (fun c54 => ?_)
  refine lv_iload_n hx hb dX0_firstSilence_22 rfl (lv_at hl 1 rfl) ?_
  refine z_iconst hx hb dX0_firstSilence_23 ?_
  refine z_iadd hx hb dX0_firstSilence_24 ?_
  refine z_top (show ((4 + 1) : Int) = 5 from by decide) ?_
  refine lv_goto (tgt := 29) hx hb dX0_firstSilence_25 (by decide) ?_
  refine lv_istore_n (lv' := [(1, .int (iI 5)), (2, .int (iI 4)), (0, .ref (b + 78))]) hx hb dX0_firstSilence_29 rfl hl (by decide) rfl (fun ls hl => ?_)
  refine lv_iload_n hx hb dX0_firstSilence_30 rfl (lv_at hl 0 rfl) ?_
  refine z_bipush hx hb (by decide) dX0_firstSilence_31 ?_
  refine z_icmp_ne (tgt := 43) hx hb (by decide) (by decide) dX0_firstSilence_33 (by decide) (fun c55 => ?_) (fun c55 => absurd c55 (by decide))
  refine z_iinc (lv' := [(2, .int (iI (4 + 1))), (1, .int (iI 5)), (0, .ref (b + 78))]) hx hb dX0_firstSilence_43 hl (k := 1) rfl (by decide) rfl (fun ls hl => ?_)
  rw [show ((4 + 1) : Int) = 5 from by decide] at hl
  refine lv_goto (tgt := 7) hx hb dX0_firstSilence_46 (by decide) ?_
  refine lv_iload_n hx hb dX0_firstSilence_7 rfl (lv_at hl 0 rfl) ?_
  refine z_sipush hx hb (by decide) dX0_firstSilence_8 ?_
  refine z_icmp_gt (tgt := 49) hx hb (by decide) (by decide) dX0_firstSilence_11 (by decide) (fun c56 => absurd c56 (by decide)) (fun c56 => ?_)
  refine lv_aload_n hx hb dX0_firstSilence_14 rfl (lv_at hl 2 rfl) ?_
  refine lv_iload_n hx hb dX0_firstSilence_15 rfl (lv_at hl 0 rfl) ?_
  refine z_calli (va_runV (As := [.int (iI 5)]) (rest := []) ⟨hx, hb, hml, hown, hts⟩ (n_outAt0 l D dA b M 5 (by decide) a0) (cwV 1 hts (z_gV k710 k711 k712 k9 k713) rfl rfl rfl dm_X0_outAt ⟨Nat.le_of_ble_eq_true rfl, Nat.le_of_ble_eq_true rfl⟩) ⟨zP_blind, (z_recv hS hK.1 (by decide) (zkd_of (rfl : zcd wC 78 = 30) rfl) (by decide) (rfl : vwCl[0]? = some (RX0, TX0, 8))), z_pre hS hK⟩ rfl rfl hl.1 rfl (lv_room (Nat.le_of_ble_eq_true rfl)) dX0_firstSilence_16 ⟨Nat.le_refl _, Nat.le_refl _⟩) hS hS0 (zms_sub rfl) (fun z61 M57 H locs r62 h58 F59 hS hS0 => ?_)
  obtain ⟨h63, h58⟩ := h58
  rw [h63] at hS
  have h64 := h58
  obtain ⟨z61e, h64⟩ := h64
  subst z61e
  refine z_if_ne (tgt := 28) hx hb (by decide) dX0_firstSilence_19 (by decide) (fun c65 => absurd c65 (by decide)) (fun c65 => ?_)
  refine lv_iload_n hx hb dX0_firstSilence_22 rfl (lv_at hl 1 rfl) ?_
  refine z_iconst hx hb dX0_firstSilence_23 ?_
  refine z_iadd hx hb dX0_firstSilence_24 ?_
  refine z_top (show ((5 + 1) : Int) = 6 from by decide) ?_
  refine lv_goto (tgt := 29) hx hb dX0_firstSilence_25 (by decide) ?_
  refine lv_istore_n (lv' := [(1, .int (iI 6)), (2, .int (iI 5)), (0, .ref (b + 78))]) hx hb dX0_firstSilence_29 rfl hl (by decide) rfl (fun ls hl => ?_)
  refine lv_iload_n hx hb dX0_firstSilence_30 rfl (lv_at hl 0 rfl) ?_
  refine z_bipush hx hb (by decide) dX0_firstSilence_31 ?_
  refine z_icmp_ne (tgt := 43) hx hb (by decide) (by decide) dX0_firstSilence_33 (by decide) (fun c66 => ?_) (fun c66 => absurd c66 (by decide))
  refine z_iinc (lv' := [(2, .int (iI (5 + 1))), (1, .int (iI 6)), (0, .ref (b + 78))]) hx hb dX0_firstSilence_43 hl (k := 1) rfl (by decide) rfl (fun ls hl => ?_)
  rw [show ((5 + 1) : Int) = 6 from by decide] at hl
  refine lv_goto (tgt := 7) hx hb dX0_firstSilence_46 (by decide) ?_
  refine lv_iload_n hx hb dX0_firstSilence_7 rfl (lv_at hl 0 rfl) ?_
  refine z_sipush hx hb (by decide) dX0_firstSilence_8 ?_
  refine z_icmp_gt (tgt := 49) hx hb (by decide) (by decide) dX0_firstSilence_11 (by decide) (fun c67 => absurd c67 (by decide)) (fun c67 => ?_)
  refine lv_aload_n hx hb dX0_firstSilence_14 rfl (lv_at hl 2 rfl) ?_
  refine lv_iload_n hx hb dX0_firstSilence_15 rfl (lv_at hl 0 rfl) ?_
  refine z_calli (va_runV (As := [.int (iI 6)]) (rest := []) ⟨hx, hb, hml, hown, hts⟩ (n_outAt0 l D dA b M 6 (by decide) a0) (cwV 1 hts (z_gV k710 k711 k712 k9 k713) rfl rfl rfl dm_X0_outAt ⟨Nat.le_of_ble_eq_true rfl, Nat.le_of_ble_eq_true rfl⟩) ⟨zP_blind, (z_recv hS hK.1 (by decide) (zkd_of (rfl : zcd wC 78 = 30) rfl) (by decide) (rfl : vwCl[0]? = some (RX0, TX0, 8))), z_pre hS hK⟩ rfl rfl hl.1 rfl (lv_room (Nat.le_of_ble_eq_true rfl)) dX0_firstSilence_16 ⟨Nat.le_refl _, Nat.le_refl _⟩) hS hS0 (zms_sub rfl) (fun z72 M68 H locs r73 h69 F70 hS hS0 => ?_)
  obtain ⟨h74, h69⟩ := h69
  rw [h74] at hS
  have h75 := h69
  obtain ⟨z72e, h75⟩ := h75
  subst z72e
  refine z_if_ne (tgt := 28) hx hb (by decide) dX0_firstSilence_19 (by decide) (fun c76 => absurd c76 (by decide)) (fun c76 => ?_)
  refine lv_iload_n hx hb dX0_firstSilence_22 rfl (lv_at hl 1 rfl) ?_
  refine z_iconst hx hb dX0_firstSilence_23 ?_
  refine z_iadd hx hb dX0_firstSilence_24 ?_
  refine z_top (show ((6 + 1) : Int) = 7 from by decide) ?_
  refine lv_goto (tgt := 29) hx hb dX0_firstSilence_25 (by decide) ?_
  refine lv_istore_n (lv' := [(1, .int (iI 7)), (2, .int (iI 6)), (0, .ref (b + 78))]) hx hb dX0_firstSilence_29 rfl hl (by decide) rfl (fun ls hl => ?_)
  refine lv_iload_n hx hb dX0_firstSilence_30 rfl (lv_at hl 0 rfl) ?_
  refine z_bipush hx hb (by decide) dX0_firstSilence_31 ?_
  refine z_icmp_ne (tgt := 43) hx hb (by decide) (by decide) dX0_firstSilence_33 (by decide) (fun c77 => ?_) (fun c77 => absurd c77 (by decide))
  refine z_iinc (lv' := [(2, .int (iI (6 + 1))), (1, .int (iI 7)), (0, .ref (b + 78))]) hx hb dX0_firstSilence_43 hl (k := 1) rfl (by decide) rfl (fun ls hl => ?_)
  rw [show ((6 + 1) : Int) = 7 from by decide] at hl
  refine lv_goto (tgt := 7) hx hb dX0_firstSilence_46 (by decide) ?_
  refine lv_iload_n hx hb dX0_firstSilence_7 rfl (lv_at hl 0 rfl) ?_
  refine z_sipush hx hb (by decide) dX0_firstSilence_8 ?_
  refine z_icmp_gt (tgt := 49) hx hb (by decide) (by decide) dX0_firstSilence_11 (by decide) (fun c78 => absurd c78 (by decide)) (fun c78 => ?_)
  refine lv_aload_n hx hb dX0_firstSilence_14 rfl (lv_at hl 2 rfl) ?_
  refine lv_iload_n hx hb dX0_firstSilence_15 rfl (lv_at hl 0 rfl) ?_
  refine z_calli (va_runV (As := [.int (iI 7)]) (rest := []) ⟨hx, hb, hml, hown, hts⟩ (n_outAt0 l D dA b M 7 (by decide) a0) (cwV 1 hts (z_gV k710 k711 k712 k9 k713) rfl rfl rfl dm_X0_outAt ⟨Nat.le_of_ble_eq_true rfl, Nat.le_of_ble_eq_true rfl⟩) ⟨zP_blind, (z_recv hS hK.1 (by decide) (zkd_of (rfl : zcd wC 78 = 30) rfl) (by decide) (rfl : vwCl[0]? = some (RX0, TX0, 8))), z_pre hS hK⟩ rfl rfl hl.1 rfl (lv_room (Nat.le_of_ble_eq_true rfl)) dX0_firstSilence_16 ⟨Nat.le_refl _, Nat.le_refl _⟩) hS hS0 (zms_sub rfl) (fun z83 M79 H locs r84 h80 F81 hS hS0 => ?_)
  obtain ⟨h85, h80⟩ := h80
  rw [h85] at hS
  have h86 := h80
  obtain ⟨z83e, h86⟩ := h86
  subst z83e
  refine z_if_ne (tgt := 28) hx hb (by decide) dX0_firstSilence_19 (by decide) (fun c87 => absurd c87 (by decide)) (fun c87 => ?_)
  refine lv_iload_n hx hb dX0_firstSilence_22 rfl (lv_at hl 1 rfl) ?_
  refine z_iconst hx hb dX0_firstSilence_23 ?_
  refine z_iadd hx hb dX0_firstSilence_24 ?_
  refine z_top (show ((7 + 1) : Int) = 8 from by decide) ?_
  refine lv_goto (tgt := 29) hx hb dX0_firstSilence_25 (by decide) ?_
  refine lv_istore_n (lv' := [(1, .int (iI 8)), (2, .int (iI 7)), (0, .ref (b + 78))]) hx hb dX0_firstSilence_29 rfl hl (by decide) rfl (fun ls hl => ?_)
  refine lv_iload_n hx hb dX0_firstSilence_30 rfl (lv_at hl 0 rfl) ?_
  refine z_bipush hx hb (by decide) dX0_firstSilence_31 ?_
  refine z_icmp_ne (tgt := 43) hx hb (by decide) (by decide) dX0_firstSilence_33 (by decide) (fun c88 => ?_) (fun c88 => absurd c88 (by decide))
  refine z_iinc (lv' := [(2, .int (iI (7 + 1))), (1, .int (iI 8)), (0, .ref (b + 78))]) hx hb dX0_firstSilence_43 hl (k := 1) rfl (by decide) rfl (fun ls hl => ?_)
  rw [show ((7 + 1) : Int) = 8 from by decide] at hl
  refine lv_goto (tgt := 7) hx hb dX0_firstSilence_46 (by decide) ?_
  refine lv_iload_n hx hb dX0_firstSilence_7 rfl (lv_at hl 0 rfl) ?_
  refine z_sipush hx hb (by decide) dX0_firstSilence_8 ?_
  refine z_icmp_gt (tgt := 49) hx hb (by decide) (by decide) dX0_firstSilence_11 (by decide) (fun c89 => absurd c89 (by decide)) (fun c89 => ?_)
  refine lv_aload_n hx hb dX0_firstSilence_14 rfl (lv_at hl 2 rfl) ?_
  refine lv_iload_n hx hb dX0_firstSilence_15 rfl (lv_at hl 0 rfl) ?_
  refine z_calli (va_runV (As := [.int (iI 8)]) (rest := []) ⟨hx, hb, hml, hown, hts⟩ (n_outAt0 l D dA b M 8 (by decide) a0) (cwV 1 hts (z_gV k710 k711 k712 k9 k713) rfl rfl rfl dm_X0_outAt ⟨Nat.le_of_ble_eq_true rfl, Nat.le_of_ble_eq_true rfl⟩) ⟨zP_blind, (z_recv hS hK.1 (by decide) (zkd_of (rfl : zcd wC 78 = 30) rfl) (by decide) (rfl : vwCl[0]? = some (RX0, TX0, 8))), z_pre hS hK⟩ rfl rfl hl.1 rfl (lv_room (Nat.le_of_ble_eq_true rfl)) dX0_firstSilence_16 ⟨Nat.le_refl _, Nat.le_refl _⟩) hS hS0 (zms_sub rfl) (fun z94 M90 H locs r95 h91 F92 hS hS0 => ?_)
  obtain ⟨h96, h91⟩ := h91
  rw [h96] at hS
  have h97 := h91
  obtain ⟨z94e, h97⟩ := h97
  subst z94e
  refine z_if_ne (tgt := 28) hx hb (by decide) dX0_firstSilence_19 (by decide) (fun c98 => absurd c98 (by decide)) (fun c98 => ?_)
  refine lv_iload_n hx hb dX0_firstSilence_22 rfl (lv_at hl 1 rfl) ?_
  refine z_iconst hx hb dX0_firstSilence_23 ?_
  refine z_iadd hx hb dX0_firstSilence_24 ?_
  refine z_top (show ((8 + 1) : Int) = 9 from by decide) ?_
  refine lv_goto (tgt := 29) hx hb dX0_firstSilence_25 (by decide) ?_
  refine lv_istore_n (lv' := [(1, .int (iI 9)), (2, .int (iI 8)), (0, .ref (b + 78))]) hx hb dX0_firstSilence_29 rfl hl (by decide) rfl (fun ls hl => ?_)
  refine lv_iload_n hx hb dX0_firstSilence_30 rfl (lv_at hl 0 rfl) ?_
  refine z_bipush hx hb (by decide) dX0_firstSilence_31 ?_
  refine z_icmp_ne (tgt := 43) hx hb (by decide) (by decide) dX0_firstSilence_33 (by decide) (fun c99 => ?_) (fun c99 => absurd c99 (by decide))
  refine z_iinc (lv' := [(2, .int (iI (8 + 1))), (1, .int (iI 9)), (0, .ref (b + 78))]) hx hb dX0_firstSilence_43 hl (k := 1) rfl (by decide) rfl (fun ls hl => ?_)
  rw [show ((8 + 1) : Int) = 9 from by decide] at hl
  refine lv_goto (tgt := 7) hx hb dX0_firstSilence_46 (by decide) ?_
  refine lv_iload_n hx hb dX0_firstSilence_7 rfl (lv_at hl 0 rfl) ?_
  refine z_sipush hx hb (by decide) dX0_firstSilence_8 ?_
  refine z_icmp_gt (tgt := 49) hx hb (by decide) (by decide) dX0_firstSilence_11 (by decide) (fun c100 => absurd c100 (by decide)) (fun c100 => ?_)
  refine lv_aload_n hx hb dX0_firstSilence_14 rfl (lv_at hl 2 rfl) ?_
  refine lv_iload_n hx hb dX0_firstSilence_15 rfl (lv_at hl 0 rfl) ?_
  refine z_calli (va_runV (As := [.int (iI 9)]) (rest := []) ⟨hx, hb, hml, hown, hts⟩ (n_outAt0 l D dA b M 9 (by decide) a0) (cwV 1 hts (z_gV k710 k711 k712 k9 k713) rfl rfl rfl dm_X0_outAt ⟨Nat.le_of_ble_eq_true rfl, Nat.le_of_ble_eq_true rfl⟩) ⟨zP_blind, (z_recv hS hK.1 (by decide) (zkd_of (rfl : zcd wC 78 = 30) rfl) (by decide) (rfl : vwCl[0]? = some (RX0, TX0, 8))), z_pre hS hK⟩ rfl rfl hl.1 rfl (lv_room (Nat.le_of_ble_eq_true rfl)) dX0_firstSilence_16 ⟨Nat.le_refl _, Nat.le_refl _⟩) hS hS0 (zms_sub rfl) (fun z105 M101 H locs r106 h102 F103 hS hS0 => ?_)
  obtain ⟨h107, h102⟩ := h102
  rw [h107] at hS
  have h108 := h102
  obtain ⟨z105e, h108⟩ := h108
  subst z105e
  refine z_if_ne (tgt := 28) hx hb (by decide) dX0_firstSilence_19 (by decide) (fun c109 => absurd c109 (by decide)) (fun c109 => ?_)
  refine lv_iload_n hx hb dX0_firstSilence_22 rfl (lv_at hl 1 rfl) ?_
  refine z_iconst hx hb dX0_firstSilence_23 ?_
  refine z_iadd hx hb dX0_firstSilence_24 ?_
  refine z_top (show ((9 + 1) : Int) = 10 from by decide) ?_
  refine lv_goto (tgt := 29) hx hb dX0_firstSilence_25 (by decide) ?_
  refine lv_istore_n (lv' := [(1, .int (iI 10)), (2, .int (iI 9)), (0, .ref (b + 78))]) hx hb dX0_firstSilence_29 rfl hl (by decide) rfl (fun ls hl => ?_)
  refine lv_iload_n hx hb dX0_firstSilence_30 rfl (lv_at hl 0 rfl) ?_
  refine z_bipush hx hb (by decide) dX0_firstSilence_31 ?_
  refine z_icmp_ne (tgt := 43) hx hb (by decide) (by decide) dX0_firstSilence_33 (by decide) (fun c110 => ?_) (fun c110 => absurd c110 (by decide))
  refine z_iinc (lv' := [(2, .int (iI (9 + 1))), (1, .int (iI 10)), (0, .ref (b + 78))]) hx hb dX0_firstSilence_43 hl (k := 1) rfl (by decide) rfl (fun ls hl => ?_)
  rw [show ((9 + 1) : Int) = 10 from by decide] at hl
  refine lv_goto (tgt := 7) hx hb dX0_firstSilence_46 (by decide) ?_
  refine lv_iload_n hx hb dX0_firstSilence_7 rfl (lv_at hl 0 rfl) ?_
  refine z_sipush hx hb (by decide) dX0_firstSilence_8 ?_
  refine z_icmp_gt (tgt := 49) hx hb (by decide) (by decide) dX0_firstSilence_11 (by decide) (fun c111 => absurd c111 (by decide)) (fun c111 => ?_)
  refine lv_aload_n hx hb dX0_firstSilence_14 rfl (lv_at hl 2 rfl) ?_
  refine lv_iload_n hx hb dX0_firstSilence_15 rfl (lv_at hl 0 rfl) ?_
  refine z_calli (va_runV (As := [.int (iI 10)]) (rest := []) ⟨hx, hb, hml, hown, hts⟩ (n_outAt0 l D dA b M 10 (by decide) a0) (cwV 1 hts (z_gV k710 k711 k712 k9 k713) rfl rfl rfl dm_X0_outAt ⟨Nat.le_of_ble_eq_true rfl, Nat.le_of_ble_eq_true rfl⟩) ⟨zP_blind, (z_recv hS hK.1 (by decide) (zkd_of (rfl : zcd wC 78 = 30) rfl) (by decide) (rfl : vwCl[0]? = some (RX0, TX0, 8))), z_pre hS hK⟩ rfl rfl hl.1 rfl (lv_room (Nat.le_of_ble_eq_true rfl)) dX0_firstSilence_16 ⟨Nat.le_refl _, Nat.le_refl _⟩) hS hS0 (zms_sub rfl) (fun z116 M112 H locs r117 h113 F114 hS hS0 => ?_)
  obtain ⟨h118, h113⟩ := h113
  rw [h118] at hS
  have h119 := h113
  obtain ⟨z116e, h119⟩ := h119
  subst z116e
  refine z_if_ne (tgt := 28) hx hb (by decide) dX0_firstSilence_19 (by decide) (fun c120 => absurd c120 (by decide)) (fun c120 => ?_)
  refine lv_iload_n hx hb dX0_firstSilence_22 rfl (lv_at hl 1 rfl) ?_
  refine z_iconst hx hb dX0_firstSilence_23 ?_
  refine z_iadd hx hb dX0_firstSilence_24 ?_
  refine z_top (show ((10 + 1) : Int) = 11 from by decide) ?_
  refine lv_goto (tgt := 29) hx hb dX0_firstSilence_25 (by decide) ?_
  refine lv_istore_n (lv' := [(1, .int (iI 11)), (2, .int (iI 10)), (0, .ref (b + 78))]) hx hb dX0_firstSilence_29 rfl hl (by decide) rfl (fun ls hl => ?_)
  refine lv_iload_n hx hb dX0_firstSilence_30 rfl (lv_at hl 0 rfl) ?_
  refine z_bipush hx hb (by decide) dX0_firstSilence_31 ?_
  refine z_icmp_ne (tgt := 43) hx hb (by decide) (by decide) dX0_firstSilence_33 (by decide) (fun c121 => ?_) (fun c121 => absurd c121 (by decide))
  refine z_iinc (lv' := [(2, .int (iI (10 + 1))), (1, .int (iI 11)), (0, .ref (b + 78))]) hx hb dX0_firstSilence_43 hl (k := 1) rfl (by decide) rfl (fun ls hl => ?_)
  rw [show ((10 + 1) : Int) = 11 from by decide] at hl
  refine lv_goto (tgt := 7) hx hb dX0_firstSilence_46 (by decide) ?_
  refine lv_iload_n hx hb dX0_firstSilence_7 rfl (lv_at hl 0 rfl) ?_
  refine z_sipush hx hb (by decide) dX0_firstSilence_8 ?_
  refine z_icmp_gt (tgt := 49) hx hb (by decide) (by decide) dX0_firstSilence_11 (by decide) (fun c122 => absurd c122 (by decide)) (fun c122 => ?_)
  refine lv_aload_n hx hb dX0_firstSilence_14 rfl (lv_at hl 2 rfl) ?_
  refine lv_iload_n hx hb dX0_firstSilence_15 rfl (lv_at hl 0 rfl) ?_
  refine z_calli (va_runV (As := [.int (iI 11)]) (rest := []) ⟨hx, hb, hml, hown, hts⟩ (n_outAt0 l D dA b M 11 (by decide) a0) (cwV 1 hts (z_gV k710 k711 k712 k9 k713) rfl rfl rfl dm_X0_outAt ⟨Nat.le_of_ble_eq_true rfl, Nat.le_of_ble_eq_true rfl⟩) ⟨zP_blind, (z_recv hS hK.1 (by decide) (zkd_of (rfl : zcd wC 78 = 30) rfl) (by decide) (rfl : vwCl[0]? = some (RX0, TX0, 8))), z_pre hS hK⟩ rfl rfl hl.1 rfl (lv_room (Nat.le_of_ble_eq_true rfl)) dX0_firstSilence_16 ⟨Nat.le_refl _, Nat.le_refl _⟩) hS hS0 (zms_sub rfl) (fun z127 M123 H locs r128 h124 F125 hS hS0 => ?_)
  obtain ⟨h129, h124⟩ := h124
  rw [h129] at hS
  have h130 := h124
  obtain ⟨z127e, h130⟩ := h130
  subst z127e
  refine z_if_ne (tgt := 28) hx hb (by decide) dX0_firstSilence_19 (by decide) (fun c131 => absurd c131 (by decide)) (fun c131 => ?_)
  refine lv_iload_n hx hb dX0_firstSilence_22 rfl (lv_at hl 1 rfl) ?_
  refine z_iconst hx hb dX0_firstSilence_23 ?_
  refine z_iadd hx hb dX0_firstSilence_24 ?_
  refine z_top (show ((11 + 1) : Int) = 12 from by decide) ?_
  refine lv_goto (tgt := 29) hx hb dX0_firstSilence_25 (by decide) ?_
  refine lv_istore_n (lv' := [(1, .int (iI 12)), (2, .int (iI 11)), (0, .ref (b + 78))]) hx hb dX0_firstSilence_29 rfl hl (by decide) rfl (fun ls hl => ?_)
  refine lv_iload_n hx hb dX0_firstSilence_30 rfl (lv_at hl 0 rfl) ?_
  refine z_bipush hx hb (by decide) dX0_firstSilence_31 ?_
  refine z_icmp_ne (tgt := 43) hx hb (by decide) (by decide) dX0_firstSilence_33 (by decide) (fun c132 => ?_) (fun c132 => absurd c132 (by decide))
  refine z_iinc (lv' := [(2, .int (iI (11 + 1))), (1, .int (iI 12)), (0, .ref (b + 78))]) hx hb dX0_firstSilence_43 hl (k := 1) rfl (by decide) rfl (fun ls hl => ?_)
  rw [show ((11 + 1) : Int) = 12 from by decide] at hl
  refine lv_goto (tgt := 7) hx hb dX0_firstSilence_46 (by decide) ?_
  refine lv_iload_n hx hb dX0_firstSilence_7 rfl (lv_at hl 0 rfl) ?_
  refine z_sipush hx hb (by decide) dX0_firstSilence_8 ?_
  refine z_icmp_gt (tgt := 49) hx hb (by decide) (by decide) dX0_firstSilence_11 (by decide) (fun c133 => absurd c133 (by decide)) (fun c133 => ?_)
  refine lv_aload_n hx hb dX0_firstSilence_14 rfl (lv_at hl 2 rfl) ?_
  refine lv_iload_n hx hb dX0_firstSilence_15 rfl (lv_at hl 0 rfl) ?_
  refine z_calli (va_runV (As := [.int (iI 12)]) (rest := []) ⟨hx, hb, hml, hown, hts⟩ (n_outAt0 l D dA b M 12 (by decide) a0) (cwV 1 hts (z_gV k710 k711 k712 k9 k713) rfl rfl rfl dm_X0_outAt ⟨Nat.le_of_ble_eq_true rfl, Nat.le_of_ble_eq_true rfl⟩) ⟨zP_blind, (z_recv hS hK.1 (by decide) (zkd_of (rfl : zcd wC 78 = 30) rfl) (by decide) (rfl : vwCl[0]? = some (RX0, TX0, 8))), z_pre hS hK⟩ rfl rfl hl.1 rfl (lv_room (Nat.le_of_ble_eq_true rfl)) dX0_firstSilence_16 ⟨Nat.le_refl _, Nat.le_refl _⟩) hS hS0 (zms_sub rfl) (fun z138 M134 H locs r139 h135 F136 hS hS0 => ?_)
  obtain ⟨h140, h135⟩ := h135
  rw [h140] at hS
  have h141 := h135
  obtain ⟨z138e, h141⟩ := h141
  subst z138e
  refine z_if_ne (tgt := 28) hx hb (by decide) dX0_firstSilence_19 (by decide) (fun c142 => absurd c142 (by decide)) (fun c142 => ?_)
  refine lv_iload_n hx hb dX0_firstSilence_22 rfl (lv_at hl 1 rfl) ?_
  refine z_iconst hx hb dX0_firstSilence_23 ?_
  refine z_iadd hx hb dX0_firstSilence_24 ?_
  refine z_top (show ((12 + 1) : Int) = 13 from by decide) ?_
  refine lv_goto (tgt := 29) hx hb dX0_firstSilence_25 (by decide) ?_
  refine lv_istore_n (lv' := [(1, .int (iI 13)), (2, .int (iI 12)), (0, .ref (b + 78))]) hx hb dX0_firstSilence_29 rfl hl (by decide) rfl (fun ls hl => ?_)
  refine lv_iload_n hx hb dX0_firstSilence_30 rfl (lv_at hl 0 rfl) ?_
  refine z_bipush hx hb (by decide) dX0_firstSilence_31 ?_
  refine z_icmp_ne (tgt := 43) hx hb (by decide) (by decide) dX0_firstSilence_33 (by decide) (fun c143 => ?_) (fun c143 => absurd c143 (by decide))
  refine z_iinc (lv' := [(2, .int (iI (12 + 1))), (1, .int (iI 13)), (0, .ref (b + 78))]) hx hb dX0_firstSilence_43 hl (k := 1) rfl (by decide) rfl (fun ls hl => ?_)
  rw [show ((12 + 1) : Int) = 13 from by decide] at hl
  refine lv_goto (tgt := 7) hx hb dX0_firstSilence_46 (by decide) ?_
  refine lv_iload_n hx hb dX0_firstSilence_7 rfl (lv_at hl 0 rfl) ?_
  refine z_sipush hx hb (by decide) dX0_firstSilence_8 ?_
  refine z_icmp_gt (tgt := 49) hx hb (by decide) (by decide) dX0_firstSilence_11 (by decide) (fun c144 => absurd c144 (by decide)) (fun c144 => ?_)
  refine lv_aload_n hx hb dX0_firstSilence_14 rfl (lv_at hl 2 rfl) ?_
  refine lv_iload_n hx hb dX0_firstSilence_15 rfl (lv_at hl 0 rfl) ?_
  refine z_calli (va_runV (As := [.int (iI 13)]) (rest := []) ⟨hx, hb, hml, hown, hts⟩ (n_outAt0 l D dA b M 13 (by decide) a0) (cwV 1 hts (z_gV k710 k711 k712 k9 k713) rfl rfl rfl dm_X0_outAt ⟨Nat.le_of_ble_eq_true rfl, Nat.le_of_ble_eq_true rfl⟩) ⟨zP_blind, (z_recv hS hK.1 (by decide) (zkd_of (rfl : zcd wC 78 = 30) rfl) (by decide) (rfl : vwCl[0]? = some (RX0, TX0, 8))), z_pre hS hK⟩ rfl rfl hl.1 rfl (lv_room (Nat.le_of_ble_eq_true rfl)) dX0_firstSilence_16 ⟨Nat.le_refl _, Nat.le_refl _⟩) hS hS0 (zms_sub rfl) (fun z149 M145 H locs r150 h146 F147 hS hS0 => ?_)
  obtain ⟨h151, h146⟩ := h146
  rw [h151] at hS
  have h152 := h146
  obtain ⟨z149e, h152⟩ := h152
  subst z149e
  refine z_if_ne (tgt := 28) hx hb (by decide) dX0_firstSilence_19 (by decide) (fun c153 => absurd c153 (by decide)) (fun c153 => ?_)
  refine lv_iload_n hx hb dX0_firstSilence_22 rfl (lv_at hl 1 rfl) ?_
  refine z_iconst hx hb dX0_firstSilence_23 ?_
  refine z_iadd hx hb dX0_firstSilence_24 ?_
  refine z_top (show ((13 + 1) : Int) = 14 from by decide) ?_
  refine lv_goto (tgt := 29) hx hb dX0_firstSilence_25 (by decide) ?_
  refine lv_istore_n (lv' := [(1, .int (iI 14)), (2, .int (iI 13)), (0, .ref (b + 78))]) hx hb dX0_firstSilence_29 rfl hl (by decide) rfl (fun ls hl => ?_)
  refine lv_iload_n hx hb dX0_firstSilence_30 rfl (lv_at hl 0 rfl) ?_
  refine z_bipush hx hb (by decide) dX0_firstSilence_31 ?_
  refine z_icmp_ne (tgt := 43) hx hb (by decide) (by decide) dX0_firstSilence_33 (by decide) (fun c154 => ?_) (fun c154 => absurd c154 (by decide))
  refine z_iinc (lv' := [(2, .int (iI (13 + 1))), (1, .int (iI 14)), (0, .ref (b + 78))]) hx hb dX0_firstSilence_43 hl (k := 1) rfl (by decide) rfl (fun ls hl => ?_)
  rw [show ((13 + 1) : Int) = 14 from by decide] at hl
  refine lv_goto (tgt := 7) hx hb dX0_firstSilence_46 (by decide) ?_
  refine lv_iload_n hx hb dX0_firstSilence_7 rfl (lv_at hl 0 rfl) ?_
  refine z_sipush hx hb (by decide) dX0_firstSilence_8 ?_
  refine z_icmp_gt (tgt := 49) hx hb (by decide) (by decide) dX0_firstSilence_11 (by decide) (fun c155 => absurd c155 (by decide)) (fun c155 => ?_)
  refine lv_aload_n hx hb dX0_firstSilence_14 rfl (lv_at hl 2 rfl) ?_
  refine lv_iload_n hx hb dX0_firstSilence_15 rfl (lv_at hl 0 rfl) ?_
  refine z_calli (va_runV (As := [.int (iI 14)]) (rest := []) ⟨hx, hb, hml, hown, hts⟩ (n_outAt0 l D dA b M 14 (by decide) a0) (cwV 1 hts (z_gV k710 k711 k712 k9 k713) rfl rfl rfl dm_X0_outAt ⟨Nat.le_of_ble_eq_true rfl, Nat.le_of_ble_eq_true rfl⟩) ⟨zP_blind, (z_recv hS hK.1 (by decide) (zkd_of (rfl : zcd wC 78 = 30) rfl) (by decide) (rfl : vwCl[0]? = some (RX0, TX0, 8))), z_pre hS hK⟩ rfl rfl hl.1 rfl (lv_room (Nat.le_of_ble_eq_true rfl)) dX0_firstSilence_16 ⟨Nat.le_refl _, Nat.le_refl _⟩) hS hS0 (zms_sub rfl) (fun z160 M156 H locs r161 h157 F158 hS hS0 => ?_)
  obtain ⟨h162, h157⟩ := h157
  rw [h162] at hS
  have h163 := h157
  obtain ⟨z160e, h163⟩ := h163
  subst z160e
  refine z_if_ne (tgt := 28) hx hb (by decide) dX0_firstSilence_19 (by decide) (fun c164 => absurd c164 (by decide)) (fun c164 => ?_)
  refine lv_iload_n hx hb dX0_firstSilence_22 rfl (lv_at hl 1 rfl) ?_
  refine z_iconst hx hb dX0_firstSilence_23 ?_
  refine z_iadd hx hb dX0_firstSilence_24 ?_
  refine z_top (show ((14 + 1) : Int) = 15 from by decide) ?_
  refine lv_goto (tgt := 29) hx hb dX0_firstSilence_25 (by decide) ?_
  refine lv_istore_n (lv' := [(1, .int (iI 15)), (2, .int (iI 14)), (0, .ref (b + 78))]) hx hb dX0_firstSilence_29 rfl hl (by decide) rfl (fun ls hl => ?_)
  refine lv_iload_n hx hb dX0_firstSilence_30 rfl (lv_at hl 0 rfl) ?_
  refine z_bipush hx hb (by decide) dX0_firstSilence_31 ?_
  refine z_icmp_ne (tgt := 43) hx hb (by decide) (by decide) dX0_firstSilence_33 (by decide) (fun c165 => ?_) (fun c165 => absurd c165 (by decide))
  refine z_iinc (lv' := [(2, .int (iI (14 + 1))), (1, .int (iI 15)), (0, .ref (b + 78))]) hx hb dX0_firstSilence_43 hl (k := 1) rfl (by decide) rfl (fun ls hl => ?_)
  rw [show ((14 + 1) : Int) = 15 from by decide] at hl
  refine lv_goto (tgt := 7) hx hb dX0_firstSilence_46 (by decide) ?_
  refine lv_iload_n hx hb dX0_firstSilence_7 rfl (lv_at hl 0 rfl) ?_
  refine z_sipush hx hb (by decide) dX0_firstSilence_8 ?_
  refine z_icmp_gt (tgt := 49) hx hb (by decide) (by decide) dX0_firstSilence_11 (by decide) (fun c166 => absurd c166 (by decide)) (fun c166 => ?_)
  refine lv_aload_n hx hb dX0_firstSilence_14 rfl (lv_at hl 2 rfl) ?_
  refine lv_iload_n hx hb dX0_firstSilence_15 rfl (lv_at hl 0 rfl) ?_
  refine z_calli (va_runV (As := [.int (iI 15)]) (rest := []) ⟨hx, hb, hml, hown, hts⟩ (n_outAt0 l D dA b M 15 (by decide) a0) (cwV 1 hts (z_gV k710 k711 k712 k9 k713) rfl rfl rfl dm_X0_outAt ⟨Nat.le_of_ble_eq_true rfl, Nat.le_of_ble_eq_true rfl⟩) ⟨zP_blind, (z_recv hS hK.1 (by decide) (zkd_of (rfl : zcd wC 78 = 30) rfl) (by decide) (rfl : vwCl[0]? = some (RX0, TX0, 8))), z_pre hS hK⟩ rfl rfl hl.1 rfl (lv_room (Nat.le_of_ble_eq_true rfl)) dX0_firstSilence_16 ⟨Nat.le_refl _, Nat.le_refl _⟩) hS hS0 (zms_sub rfl) (fun z171 M167 H locs r172 h168 F169 hS hS0 => ?_)
  obtain ⟨h173, h168⟩ := h168
  rw [h173] at hS
  have h174 := h168
  obtain ⟨z171e, h174⟩ := h174
  subst z171e
  refine z_if_ne (tgt := 28) hx hb (by decide) dX0_firstSilence_19 (by decide) (fun c175 => absurd c175 (by decide)) (fun c175 => ?_)
  refine lv_iload_n hx hb dX0_firstSilence_22 rfl (lv_at hl 1 rfl) ?_
  refine z_iconst hx hb dX0_firstSilence_23 ?_
  refine z_iadd hx hb dX0_firstSilence_24 ?_
  refine z_top (show ((15 + 1) : Int) = 16 from by decide) ?_
  refine lv_goto (tgt := 29) hx hb dX0_firstSilence_25 (by decide) ?_
  refine lv_istore_n (lv' := [(1, .int (iI 16)), (2, .int (iI 15)), (0, .ref (b + 78))]) hx hb dX0_firstSilence_29 rfl hl (by decide) rfl (fun ls hl => ?_)
  refine lv_iload_n hx hb dX0_firstSilence_30 rfl (lv_at hl 0 rfl) ?_
  refine z_bipush hx hb (by decide) dX0_firstSilence_31 ?_
  refine z_icmp_ne (tgt := 43) hx hb (by decide) (by decide) dX0_firstSilence_33 (by decide) (fun c176 => ?_) (fun c176 => absurd c176 (by decide))
  refine z_iinc (lv' := [(2, .int (iI (15 + 1))), (1, .int (iI 16)), (0, .ref (b + 78))]) hx hb dX0_firstSilence_43 hl (k := 1) rfl (by decide) rfl (fun ls hl => ?_)
  rw [show ((15 + 1) : Int) = 16 from by decide] at hl
  refine lv_goto (tgt := 7) hx hb dX0_firstSilence_46 (by decide) ?_
  refine lv_iload_n hx hb dX0_firstSilence_7 rfl (lv_at hl 0 rfl) ?_
  refine z_sipush hx hb (by decide) dX0_firstSilence_8 ?_
  refine z_icmp_gt (tgt := 49) hx hb (by decide) (by decide) dX0_firstSilence_11 (by decide) (fun c177 => absurd c177 (by decide)) (fun c177 => ?_)
  refine lv_aload_n hx hb dX0_firstSilence_14 rfl (lv_at hl 2 rfl) ?_
  refine lv_iload_n hx hb dX0_firstSilence_15 rfl (lv_at hl 0 rfl) ?_
  refine z_calli (va_runV (As := [.int (iI 16)]) (rest := []) ⟨hx, hb, hml, hown, hts⟩ (n_outAt0 l D dA b M 16 (by decide) a0) (cwV 1 hts (z_gV k710 k711 k712 k9 k713) rfl rfl rfl dm_X0_outAt ⟨Nat.le_of_ble_eq_true rfl, Nat.le_of_ble_eq_true rfl⟩) ⟨zP_blind, (z_recv hS hK.1 (by decide) (zkd_of (rfl : zcd wC 78 = 30) rfl) (by decide) (rfl : vwCl[0]? = some (RX0, TX0, 8))), z_pre hS hK⟩ rfl rfl hl.1 rfl (lv_room (Nat.le_of_ble_eq_true rfl)) dX0_firstSilence_16 ⟨Nat.le_refl _, Nat.le_refl _⟩) hS hS0 (zms_sub rfl) (fun z182 M178 H locs r183 h179 F180 hS hS0 => ?_)
  obtain ⟨h184, h179⟩ := h179
  rw [h184] at hS
  have h185 := h179
  obtain ⟨z182e, h185⟩ := h185
  subst z182e
  refine z_if_ne (tgt := 28) hx hb (by decide) dX0_firstSilence_19 (by decide) (fun c186 => absurd c186 (by decide)) (fun c186 => ?_)
  refine lv_iload_n hx hb dX0_firstSilence_22 rfl (lv_at hl 1 rfl) ?_
  refine z_iconst hx hb dX0_firstSilence_23 ?_
  refine z_iadd hx hb dX0_firstSilence_24 ?_
  refine z_top (show ((16 + 1) : Int) = 17 from by decide) ?_
  refine lv_goto (tgt := 29) hx hb dX0_firstSilence_25 (by decide) ?_
  refine lv_istore_n (lv' := [(1, .int (iI 17)), (2, .int (iI 16)), (0, .ref (b + 78))]) hx hb dX0_firstSilence_29 rfl hl (by decide) rfl (fun ls hl => ?_)
  refine lv_iload_n hx hb dX0_firstSilence_30 rfl (lv_at hl 0 rfl) ?_
  refine z_bipush hx hb (by decide) dX0_firstSilence_31 ?_
  refine z_icmp_ne (tgt := 43) hx hb (by decide) (by decide) dX0_firstSilence_33 (by decide) (fun c187 => ?_) (fun c187 => absurd c187 (by decide))
  refine z_iinc (lv' := [(2, .int (iI (16 + 1))), (1, .int (iI 17)), (0, .ref (b + 78))]) hx hb dX0_firstSilence_43 hl (k := 1) rfl (by decide) rfl (fun ls hl => ?_)
  rw [show ((16 + 1) : Int) = 17 from by decide] at hl
  refine lv_goto (tgt := 7) hx hb dX0_firstSilence_46 (by decide) ?_
  refine lv_iload_n hx hb dX0_firstSilence_7 rfl (lv_at hl 0 rfl) ?_
  refine z_sipush hx hb (by decide) dX0_firstSilence_8 ?_
  refine z_icmp_gt (tgt := 49) hx hb (by decide) (by decide) dX0_firstSilence_11 (by decide) (fun c188 => absurd c188 (by decide)) (fun c188 => ?_)
  refine lv_aload_n hx hb dX0_firstSilence_14 rfl (lv_at hl 2 rfl) ?_
  refine lv_iload_n hx hb dX0_firstSilence_15 rfl (lv_at hl 0 rfl) ?_
  refine z_calli (va_runV (As := [.int (iI 17)]) (rest := []) ⟨hx, hb, hml, hown, hts⟩ (n_outAt0 l D dA b M 17 (by decide) a0) (cwV 1 hts (z_gV k710 k711 k712 k9 k713) rfl rfl rfl dm_X0_outAt ⟨Nat.le_of_ble_eq_true rfl, Nat.le_of_ble_eq_true rfl⟩) ⟨zP_blind, (z_recv hS hK.1 (by decide) (zkd_of (rfl : zcd wC 78 = 30) rfl) (by decide) (rfl : vwCl[0]? = some (RX0, TX0, 8))), z_pre hS hK⟩ rfl rfl hl.1 rfl (lv_room (Nat.le_of_ble_eq_true rfl)) dX0_firstSilence_16 ⟨Nat.le_refl _, Nat.le_refl _⟩) hS hS0 (zms_sub rfl) (fun z193 M189 H locs r194 h190 F191 hS hS0 => ?_)
  obtain ⟨h195, h190⟩ := h190
  rw [h195] at hS
  have h196 := h190
  obtain ⟨z193e, h196⟩ := h196
  subst z193e
  refine z_if_ne (tgt := 28) hx hb (by decide) dX0_firstSilence_19 (by decide) (fun c197 => absurd c197 (by decide)) (fun c197 => ?_)
  refine lv_iload_n hx hb dX0_firstSilence_22 rfl (lv_at hl 1 rfl) ?_
  refine z_iconst hx hb dX0_firstSilence_23 ?_
  refine z_iadd hx hb dX0_firstSilence_24 ?_
  refine z_top (show ((17 + 1) : Int) = 18 from by decide) ?_
  refine lv_goto (tgt := 29) hx hb dX0_firstSilence_25 (by decide) ?_
  refine lv_istore_n (lv' := [(1, .int (iI 18)), (2, .int (iI 17)), (0, .ref (b + 78))]) hx hb dX0_firstSilence_29 rfl hl (by decide) rfl (fun ls hl => ?_)
  refine lv_iload_n hx hb dX0_firstSilence_30 rfl (lv_at hl 0 rfl) ?_
  refine z_bipush hx hb (by decide) dX0_firstSilence_31 ?_
  refine z_icmp_ne (tgt := 43) hx hb (by decide) (by decide) dX0_firstSilence_33 (by decide) (fun c198 => ?_) (fun c198 => absurd c198 (by decide))
  refine z_iinc (lv' := [(2, .int (iI (17 + 1))), (1, .int (iI 18)), (0, .ref (b + 78))]) hx hb dX0_firstSilence_43 hl (k := 1) rfl (by decide) rfl (fun ls hl => ?_)
  rw [show ((17 + 1) : Int) = 18 from by decide] at hl
  refine lv_goto (tgt := 7) hx hb dX0_firstSilence_46 (by decide) ?_
  refine lv_iload_n hx hb dX0_firstSilence_7 rfl (lv_at hl 0 rfl) ?_
  refine z_sipush hx hb (by decide) dX0_firstSilence_8 ?_
  refine z_icmp_gt (tgt := 49) hx hb (by decide) (by decide) dX0_firstSilence_11 (by decide) (fun c199 => absurd c199 (by decide)) (fun c199 => ?_)
  refine lv_aload_n hx hb dX0_firstSilence_14 rfl (lv_at hl 2 rfl) ?_
  refine lv_iload_n hx hb dX0_firstSilence_15 rfl (lv_at hl 0 rfl) ?_
  refine z_calli (va_runV (As := [.int (iI 18)]) (rest := []) ⟨hx, hb, hml, hown, hts⟩ (n_outAt0 l D dA b M 18 (by decide) a0) (cwV 1 hts (z_gV k710 k711 k712 k9 k713) rfl rfl rfl dm_X0_outAt ⟨Nat.le_of_ble_eq_true rfl, Nat.le_of_ble_eq_true rfl⟩) ⟨zP_blind, (z_recv hS hK.1 (by decide) (zkd_of (rfl : zcd wC 78 = 30) rfl) (by decide) (rfl : vwCl[0]? = some (RX0, TX0, 8))), z_pre hS hK⟩ rfl rfl hl.1 rfl (lv_room (Nat.le_of_ble_eq_true rfl)) dX0_firstSilence_16 ⟨Nat.le_refl _, Nat.le_refl _⟩) hS hS0 (zms_sub rfl) (fun z204 M200 H locs r205 h201 F202 hS hS0 => ?_)
  obtain ⟨h206, h201⟩ := h201
  rw [h206] at hS
  have h207 := h201
  obtain ⟨z204e, h207⟩ := h207
  subst z204e
  refine z_if_ne (tgt := 28) hx hb (by decide) dX0_firstSilence_19 (by decide) (fun c208 => absurd c208 (by decide)) (fun c208 => ?_)
  refine lv_iload_n hx hb dX0_firstSilence_22 rfl (lv_at hl 1 rfl) ?_
  refine z_iconst hx hb dX0_firstSilence_23 ?_
  refine z_iadd hx hb dX0_firstSilence_24 ?_
  refine z_top (show ((18 + 1) : Int) = 19 from by decide) ?_
  refine lv_goto (tgt := 29) hx hb dX0_firstSilence_25 (by decide) ?_
  refine lv_istore_n (lv' := [(1, .int (iI 19)), (2, .int (iI 18)), (0, .ref (b + 78))]) hx hb dX0_firstSilence_29 rfl hl (by decide) rfl (fun ls hl => ?_)
  refine lv_iload_n hx hb dX0_firstSilence_30 rfl (lv_at hl 0 rfl) ?_
  refine z_bipush hx hb (by decide) dX0_firstSilence_31 ?_
  refine z_icmp_ne (tgt := 43) hx hb (by decide) (by decide) dX0_firstSilence_33 (by decide) (fun c209 => ?_) (fun c209 => absurd c209 (by decide))
  refine z_iinc (lv' := [(2, .int (iI (18 + 1))), (1, .int (iI 19)), (0, .ref (b + 78))]) hx hb dX0_firstSilence_43 hl (k := 1) rfl (by decide) rfl (fun ls hl => ?_)
  rw [show ((18 + 1) : Int) = 19 from by decide] at hl
  refine lv_goto (tgt := 7) hx hb dX0_firstSilence_46 (by decide) ?_
  refine lv_iload_n hx hb dX0_firstSilence_7 rfl (lv_at hl 0 rfl) ?_
  refine z_sipush hx hb (by decide) dX0_firstSilence_8 ?_
  refine z_icmp_gt (tgt := 49) hx hb (by decide) (by decide) dX0_firstSilence_11 (by decide) (fun c210 => absurd c210 (by decide)) (fun c210 => ?_)
  refine lv_aload_n hx hb dX0_firstSilence_14 rfl (lv_at hl 2 rfl) ?_
  refine lv_iload_n hx hb dX0_firstSilence_15 rfl (lv_at hl 0 rfl) ?_
  refine z_calli (va_runV (As := [.int (iI 19)]) (rest := []) ⟨hx, hb, hml, hown, hts⟩ (n_outAt0 l D dA b M 19 (by decide) a0) (cwV 1 hts (z_gV k710 k711 k712 k9 k713) rfl rfl rfl dm_X0_outAt ⟨Nat.le_of_ble_eq_true rfl, Nat.le_of_ble_eq_true rfl⟩) ⟨zP_blind, (z_recv hS hK.1 (by decide) (zkd_of (rfl : zcd wC 78 = 30) rfl) (by decide) (rfl : vwCl[0]? = some (RX0, TX0, 8))), z_pre hS hK⟩ rfl rfl hl.1 rfl (lv_room (Nat.le_of_ble_eq_true rfl)) dX0_firstSilence_16 ⟨Nat.le_refl _, Nat.le_refl _⟩) hS hS0 (zms_sub rfl) (fun z215 M211 H locs r216 h212 F213 hS hS0 => ?_)
  obtain ⟨h217, h212⟩ := h212
  rw [h217] at hS
  have h218 := h212
  obtain ⟨z215e, h218⟩ := h218
  subst z215e
  refine z_if_ne (tgt := 28) hx hb (by decide) dX0_firstSilence_19 (by decide) (fun c219 => absurd c219 (by decide)) (fun c219 => ?_)
  refine lv_iload_n hx hb dX0_firstSilence_22 rfl (lv_at hl 1 rfl) ?_
  refine z_iconst hx hb dX0_firstSilence_23 ?_
  refine z_iadd hx hb dX0_firstSilence_24 ?_
  refine z_top (show ((19 + 1) : Int) = 20 from by decide) ?_
  refine lv_goto (tgt := 29) hx hb dX0_firstSilence_25 (by decide) ?_
  refine lv_istore_n (lv' := [(1, .int (iI 20)), (2, .int (iI 19)), (0, .ref (b + 78))]) hx hb dX0_firstSilence_29 rfl hl (by decide) rfl (fun ls hl => ?_)
  refine lv_iload_n hx hb dX0_firstSilence_30 rfl (lv_at hl 0 rfl) ?_
  refine z_bipush hx hb (by decide) dX0_firstSilence_31 ?_
  refine z_icmp_ne (tgt := 43) hx hb (by decide) (by decide) dX0_firstSilence_33 (by decide) (fun c220 => absurd c220 (by decide)) (fun c220 => ?_)
  refine lv_iload_n hx hb dX0_firstSilence_36 rfl (lv_at hl 1 rfl) ?_
  refine z_bipush hx hb (by decide) dX0_firstSilence_37 ?_
  refine z_isub hx hb dX0_firstSilence_39 ?_
  refine z_top (show ((19 - 20) : Int) = (-1) from by decide) ?_
  refine z_iconst hx hb dX0_firstSilence_40 ?_
  refine z_iadd hx hb dX0_firstSilence_41 ?_
  refine z_top (show (((-1) + 1) : Int) = 0 from by decide) ?_
  exact z_iret hx hb hr hlocks hS hS0 (by decide) (⟨rfl, by first | exact trivial | exact ⟨rfl, trivial⟩ | omega | (refine ⟨by omega, trivial⟩)⟩) dX0_firstSilence_42

set_option maxHeartbeats 4000000 in
set_option maxRecDepth 100000 in
theorem n_fate (l : Launch) (D : va_G) (dA : Nat → ClassId) (b : Nat) (M : zM) (g0 : M 78 0 = 0) (g1 : M 78 3 = 1) (g2 : M 78 4 = 0) (g3 : M 78 5 = 1) (g4 : M 78 6 = 0) : Met l yX0_fate (.code yX0_fate cX0_fate 5 (some .int) :: zt) (z_rm 3) (va_Pc [.ref (b + 78), .ref (b + 32)] (zP D dA vwCl (z_tys dA) wC nC b M)) (va_Qi (zQi wC (zms wC [2175]) M (fun z M1 => z = 0 ∧ True)) (zB D dA vwCl wC nC b) (zA nC b)) 0 0 (zA nC b) := by
  refine Met.ofW (cc := cX0_fate) (maxL := 5) (ret := (some .int)) (by decide) rfl ?_
  intro p e s m args below meth c s₁ B hml hv
  obtain ⟨hargs, hR0, hJ, hK⟩ := hv
  have hx := B.exec
  have hb := B.bytes
  have hr := B.returns
  have hts := atoms_spec (ws := .code yX0_fate cX0_fate 5 (some .int) :: zt) B.pre
  have hown : s.vm.findClass RX0 = some m.cls := findClass_of_methodNamed B.named
  have hlocks := B.notSynchronized
  have hS : zS D dA vwCl wC nC b (zms wC [2175]) M M s.heap := ⟨hR0, hJ, zF_rf _ _⟩
  have hS0 : va_S (zA nC b) s.heap s.heap [] := va_S.rf
  have hl := lv_entry ([.ref (b + 78), .ref (b + 32)]) (n := 5) (Nat.le_of_ble_eq_true rfl)
  have hent : entryFrame m args 5 = F0 m 0 ((lg_sl ([.ref (b + 78), .ref (b + 32)]) ++ List.replicate (5 - (lg_sl ([.ref (b + 78), .ref (b + 32)])).length) Slot.unset).toArray) [] := by rw [hargs]; exact lg_entry_eq m ([.ref (b + 78), .ref (b + 32)]) 5
  rw [hent]
  generalize (lg_sl ([.ref (b + 78), .ref (b + 32)]) ++ List.replicate (5 - (lg_sl ([.ref (b + 78), .ref (b + 32)])).length) Slot.unset).toArray = ls at hl ⊢
  have hl : lv_has ls 5 [(0, .ref (b + 78)), (1, .ref (b + 32))] := hl
  refine lv_aload_n hx hb dX0_fate_0 rfl (lv_at hl 0 rfl) ?_
  refine lv_aload_n hx hb dX0_fate_1 rfl (lv_at hl 1 rfl) ?_
  refine z_sipush hx hb (by decide) dX0_fate_2 ?_
  refine z_callv (va_runV (As := [.ref (b + 32), .int (iI 4000)]) (rest := []) ⟨hx, hb, hml, hown, hts⟩ (n_run l D dA b M 4000 (by decide) (by rw [g0]) (by rw [g1]) (by rw [g2]) (by rw [g3]) (by rw [g4]) (by omega)) (cwV 2 hts (z_gV k724 k700 k701 k9 k702) rfl rfl rfl dm_X0_run ⟨Nat.le_of_ble_eq_true rfl, Nat.le_of_ble_eq_true rfl⟩) ⟨zP_blind, (z_recv hS hK.1 (by decide) (zkd_of (rfl : zcd wC 78 = 30) rfl) (by decide) (rfl : vwCl[0]? = some (RX0, TX0, 8))), z_pre hS hK⟩ rfl rfl hl.1 rfl (lv_room (Nat.le_of_ble_eq_true rfl)) dX0_fate_5 ⟨Nat.le_refl _, Nat.le_refl _⟩) hS hS0 (zms_sub rfl) (fun M1 H locs h2 F3 hS hS0 => ?_)
  have J4 := hS.2.1
  have ar5 : ∀ k : Nat, k < 4001 → M1 81 k = 0 := fun k hk => h2 k (by omega)
  refine lv_aload_n hx hb dX0_fate_8 rfl (lv_at hl 0 rfl) ?_
  refine z_calli (va_runV (As := []) (rest := []) ⟨hx, hb, hml, hown, hts⟩ (n_firstSilence l D dA b M1 (by rw [F3 _ _ (zms_not (rfl : zcd wC 78 = 30) rfl), g0]) ar5) (cwV 0 hts (z_gV k725 k726 k1382 k9 k727) rfl rfl rfl dm_X0_firstSilence ⟨Nat.le_of_ble_eq_true rfl, Nat.le_of_ble_eq_true rfl⟩) ⟨zP_blind, (z_recv hS hK.1 (by decide) (zkd_of (rfl : zcd wC 78 = 30) rfl) (by decide) (rfl : vwCl[0]? = some (RX0, TX0, 8))), z_pre hS hK⟩ rfl rfl hl.1 rfl (lv_room (Nat.le_of_ble_eq_true rfl)) dX0_fate_9 ⟨Nat.le_refl _, Nat.le_refl _⟩) hS hS0 (zms_sub rfl) (fun z10 M6 H locs r11 h7 F8 hS hS0 => ?_)
  obtain ⟨h12, h7⟩ := h7
  rw [h12] at hS
  have h13 := h7
  obtain ⟨z10e, h13⟩ := h13
  subst z10e
  refine lv_istore_n (lv' := [(2, .int (iI 0)), (0, .ref (b + 78)), (1, .ref (b + 32))]) hx hb dX0_fate_12 rfl hl (by decide) rfl (fun ls hl => ?_)
  refine lv_iload_n hx hb dX0_fate_13 rfl (lv_at hl 0 rfl) ?_
  refine z_iconst hx hb dX0_fate_14 ?_
  refine z_icmp_eq (tgt := 20) hx hb (by decide) (by decide) dX0_fate_15 (by decide) (fun c14 => absurd c14 (by decide)) (fun c14 => ?_)
  refine lv_iload_n hx hb dX0_fate_18 rfl (lv_at hl 0 rfl) ?_
  exact z_iret hx hb hr hlocks hS hS0 (by decide) (by first | exact trivial | exact ⟨rfl, trivial⟩ | omega | (refine ⟨by omega, trivial⟩)) dX0_fate_19

set_option maxHeartbeats 4000000 in
set_option maxRecDepth 100000 in
theorem n_oadd (l : Launch) (D : va_G) (dA : Nat → ClassId) (b : Nat) (M : zM) (v : Int) (c0 : Int) (r_v : R32 v) (g_c0 : M 82 1 = c0) (p0 : c0 < 60) : Met l yX3_add (.code yX3_add cX3_add 2 (some .int) :: zt) (z_rm 0) (va_Pc [.ref (b + 82), .int (iI v)] (zP D dA vwCl (z_tys dA) wC nC b M)) (va_Qi (zQi wC (zms wC [2177, 2303]) M (fun z M1 => (z = c0 + 1 ∧ True) ∧ M1 82 1 = c0 + 1)) (zB D dA vwCl wC nC b) (zA nC b)) 0 0 (zA nC b) := by
  refine Met.ofW (cc := cX3_add) (maxL := 2) (ret := (some .int)) (by decide) rfl ?_
  intro p e s m args below meth c s₁ B hml hv
  obtain ⟨hargs, hR0, hJ, hK⟩ := hv
  have hx := B.exec
  have hb := B.bytes
  have hr := B.returns
  have hts := atoms_spec (ws := .code yX3_add cX3_add 2 (some .int) :: zt) B.pre
  have hown : s.vm.findClass RX3 = some m.cls := findClass_of_methodNamed B.named
  have hlocks := B.notSynchronized
  have hS : zS D dA vwCl wC nC b (zms wC [2177, 2303]) M M s.heap := ⟨hR0, hJ, zF_rf _ _⟩
  have hS0 : va_S (zA nC b) s.heap s.heap [] := va_S.rf
  have hl := lv_entry ([.ref (b + 82), .int (iI v)]) (n := 2) (Nat.le_of_ble_eq_true rfl)
  have hent : entryFrame m args 2 = F0 m 0 ((lg_sl ([.ref (b + 82), .int (iI v)]) ++ List.replicate (2 - (lg_sl ([.ref (b + 82), .int (iI v)])).length) Slot.unset).toArray) [] := by rw [hargs]; exact lg_entry_eq m ([.ref (b + 82), .int (iI v)]) 2
  rw [hent]
  generalize (lg_sl ([.ref (b + 82), .int (iI v)]) ++ List.replicate (2 - (lg_sl ([.ref (b + 82), .int (iI v)])).length) Slot.unset).toArray = ls at hl ⊢
  have hl : lv_has ls 2 [(0, .ref (b + 82)), (1, .int (iI v))] := hl
  have gb_c0 : (0 : Int) ≤ c0 ∧ c0 ≤ 60 := by rw [← g_c0]; exact zJ_at hJ (rfl : zcd wC 82 = 34) rfl
  refine lv_aload_n hx hb dX3_add_0 rfl (lv_at hl 0 rfl) ?_
  refine z_geti hx hb hts (z_memU u3) hown hK.1 hS f3_1 (by decide) (zkd_of (rfl : zcd wC 82 = 34) rfl) (Or.inl (hts _ (z_mem k196))) dX3_add_1 ?_
  refine z_top (show M 82 1 = c0 from by rw [g_c0]) ?_
  refine z_bipush hx hb (by decide) dX3_add_4 ?_
  refine z_icmp_lt (tgt := 11) hx hb ⟨by omega, by omega⟩ (by decide) dX3_add_6 (by decide) (fun c1 => ?_) (fun c1 => absurd c1 (by omega))
  refine lv_aload_n hx hb dX3_add_11 rfl (lv_at hl 0 rfl) ?_
  refine z_getr (j2 := 83) hx hb hts (z_memU u3) hown hK.1 hS f3_0 (by decide) (zkd_of (rfl : zcd wC 82 = 34) rfl) (zrf_of (rfl : zcd wC 82 = 34) rfl) (Or.inl (hts _ (z_mem k195))) dX3_add_12 ?_
  refine lv_aload_n hx hb dX3_add_15 rfl (lv_at hl 0 rfl) ?_
  refine z_geti hx hb hts (z_memU u3) hown hK.1 hS f3_1 (by decide) (zkd_of (rfl : zcd wC 82 = 34) rfl) (Or.inl (hts _ (z_mem k196))) dX3_add_16 ?_
  refine z_top (show M 82 1 = c0 from by rw [g_c0]) ?_
  refine lv_iload_n hx hb dX3_add_19 rfl (lv_at hl 1 rfl) ?_
  refine z_iast (n := 60) hx hb hK.1 (t0 := 0) rfl hS hS0 (by decide) (zkd_of (rfl : zcd wC 83 = 35) rfl) (zln_of (rfl : zcd wC 83 = 35) rfl) (by omega) (by omega) (by decide) (zbd_in (rfl : zcd wC 83 = 35) rfl r_v) (zms_of (rfl : zcd wC 83 = 35) rfl) dX3_add_20 (fun H locs hS hS0 => ?_)
  obtain ⟨M2, e3⟩ : ∃ M2 : zM, M2 = zup M 83 (c0.toNat) v := ⟨_, rfl⟩
  rw [← e3] at hS
  have J4 := hS.2.1
  refine lv_aload_n hx hb dX3_add_21 rfl (lv_at hl 0 rfl) ?_
  refine lv_dup hx hb dX3_add_22 rfl ?_
  refine z_geti hx hb hts (z_memU u3) hown hK.1 hS f3_1 (by decide) (zkd_of (rfl : zcd wC 82 = 34) rfl) (Or.inl (hts _ (z_mem k196))) dX3_add_23 ?_
  refine z_top (show M2 82 1 = c0 from by rw [e3, zup_n _ _ (by omega), g_c0]) ?_
  refine z_iconst hx hb dX3_add_26 ?_
  refine z_iadd hx hb dX3_add_27 ?_
  refine z_puti hx hb hts (z_memU u3) tyX3 tyX3_ok nmX3 hown hK.1 hS hS0 f3_1 (by decide) (zkd_of (rfl : zcd wC 82 = 34) rfl) (Or.inl (hts _ (z_mem k196))) rfl (z := (c0 + 1)) (by decide +kernel) (zbd_in (rfl : zcd wC 82 = 34) rfl ⟨by omega, by omega⟩) (zms_of (rfl : zcd wC 82 = 34) rfl) dX3_add_28 (fun H locs hS hS0 => ?_)
  obtain ⟨M5, e6⟩ : ∃ M5 : zM, M5 = zup M2 82 1 (c0 + 1) := ⟨_, rfl⟩
  rw [← e6] at hS
  have J7 := hS.2.1
  refine lv_aload_n hx hb dX3_add_31 rfl (lv_at hl 0 rfl) ?_
  refine z_geti hx hb hts (z_memU u3) hown hK.1 hS f3_1 (by decide) (zkd_of (rfl : zcd wC 82 = 34) rfl) (Or.inl (hts _ (z_mem k196))) dX3_add_32 ?_
  refine z_top (show M5 82 1 = (c0 + 1) from by rw [e6, zup_s]) ?_
  exact z_iret hx hb hr hlocks hS hS0 ⟨by omega, by omega⟩ (⟨by first | exact trivial | exact ⟨rfl, trivial⟩ | omega | (refine ⟨by omega, trivial⟩), by rw [e6, zup_s] <;> omega⟩) dX3_add_35

set_option maxHeartbeats 4000000 in
set_option maxRecDepth 100000 in
theorem n_makeGap (l : Launch) (D : va_G) (dA : Nat → ClassId) (b : Nat) (M : zM) (i : Int) (r_i : R32 i) (g0 : M 82 1 = 0) : Met l yX3_makeGap (.code yX3_makeGap cX3_makeGap 2 (some .boolean) :: zt) (z_rm 0) (va_Pc [.ref (b + 82), .int (iI i)] (zP D dA vwCl (z_tys dA) wC nC b M)) (va_Qi (zQi wC (zms wC []) M (fun z M1 => M1 = M ∧ (z = 0 ∧ True))) (zB D dA vwCl wC nC b) (zA nC b)) 0 0 (zA nC b) := by
  refine Met.ofW (cc := cX3_makeGap) (maxL := 2) (ret := (some .boolean)) (by decide) rfl ?_
  intro p e s m args below meth c s₁ B hml hv
  obtain ⟨hargs, hR0, hJ, hK⟩ := hv
  have hx := B.exec
  have hb := B.bytes
  have hr := B.returns
  have hts := atoms_spec (ws := .code yX3_makeGap cX3_makeGap 2 (some .boolean) :: zt) B.pre
  have hown : s.vm.findClass RX3 = some m.cls := findClass_of_methodNamed B.named
  have hlocks := B.notSynchronized
  have hS : zS D dA vwCl wC nC b (zms wC []) M M s.heap := ⟨hR0, hJ, zF_rf _ _⟩
  have hS0 : va_S (zA nC b) s.heap s.heap [] := va_S.rf
  have hl := lv_entry ([.ref (b + 82), .int (iI i)]) (n := 2) (Nat.le_of_ble_eq_true rfl)
  have hent : entryFrame m args 2 = F0 m 0 ((lg_sl ([.ref (b + 82), .int (iI i)]) ++ List.replicate (2 - (lg_sl ([.ref (b + 82), .int (iI i)])).length) Slot.unset).toArray) [] := by rw [hargs]; exact lg_entry_eq m ([.ref (b + 82), .int (iI i)]) 2
  rw [hent]
  generalize (lg_sl ([.ref (b + 82), .int (iI i)]) ++ List.replicate (2 - (lg_sl ([.ref (b + 82), .int (iI i)])).length) Slot.unset).toArray = ls at hl ⊢
  have hl : lv_has ls 2 [(0, .ref (b + 82)), (1, .int (iI i))] := hl
  refine lv_iload_n hx hb dX3_makeGap_0 rfl (lv_at hl 1 rfl) ?_
  refine z_if_lt (tgt := 12) hx hb r_i dX3_makeGap_1 (by decide) (fun c1 => ?_) (fun c1 => ?_)
  · skip
    refine z_iconst hx hb dX3_makeGap_12 ?_
    exact z_zret hx hb hr hlocks hS hS0 (by first | decide | omega) (⟨rfl, by first | exact trivial | exact ⟨rfl, trivial⟩ | omega | (refine ⟨by omega, trivial⟩)⟩) dX3_makeGap_13
  · skip
    refine lv_iload_n hx hb dX3_makeGap_4 rfl (lv_at hl 1 rfl) ?_
    refine lv_aload_n hx hb dX3_makeGap_5 rfl (lv_at hl 0 rfl) ?_
    refine z_geti hx hb hts (z_memU u3) hown hK.1 hS f3_1 (by decide) (zkd_of (rfl : zcd wC 82 = 34) rfl) (Or.inl (hts _ (z_mem k196))) dX3_makeGap_6 ?_
    refine z_top (show M 82 1 = 0 from by rw [g0]) ?_
    refine z_icmp_lt (tgt := 14) hx hb r_i (by decide) dX3_makeGap_9 (by decide) (fun c2 => absurd c2 (by omega)) (fun c2 => ?_)
    refine z_iconst hx hb dX3_makeGap_12 ?_
    exact z_zret hx hb hr hlocks hS hS0 (by first | decide | omega) (⟨rfl, by first | exact trivial | exact ⟨rfl, trivial⟩ | omega | (refine ⟨by omega, trivial⟩)⟩) dX3_makeGap_13

set_option maxHeartbeats 4000000 in
set_option maxRecDepth 100000 in
theorem n_spanFits (l : Launch) (D : va_G) (dA : Nat → ClassId) (b : Nat) (M : zM) (pp : Int) (r_pp : R32 pp) (g0 : M 82 1 = 0) : Met l yX3_spanFits (.code yX3_spanFits cX3_spanFits 4 (some .boolean) :: zt) (z_rm 1) (va_Pc [.ref (b + 82), .int (iI pp)] (zP D dA vwCl (z_tys dA) wC nC b M)) (va_Qi (zQi wC (zms wC [2367]) M (fun z M1 => z = 1 ∧ True)) (zB D dA vwCl wC nC b) (zA nC b)) 0 0 (zA nC b) := by
  refine Met.ofW (cc := cX3_spanFits) (maxL := 4) (ret := (some .boolean)) (by decide) rfl ?_
  intro p e s m args below meth c s₁ B hml hv
  obtain ⟨hargs, hR0, hJ, hK⟩ := hv
  have hx := B.exec
  have hb := B.bytes
  have hr := B.returns
  have hts := atoms_spec (ws := .code yX3_spanFits cX3_spanFits 4 (some .boolean) :: zt) B.pre
  have hown : s.vm.findClass RX3 = some m.cls := findClass_of_methodNamed B.named
  have hlocks := B.notSynchronized
  have hS : zS D dA vwCl wC nC b (zms wC [2367]) M M s.heap := ⟨hR0, hJ, zF_rf _ _⟩
  have hS0 : va_S (zA nC b) s.heap s.heap [] := va_S.rf
  have hl := lv_entry ([.ref (b + 82), .int (iI pp)]) (n := 4) (Nat.le_of_ble_eq_true rfl)
  have hent : entryFrame m args 4 = F0 m 0 ((lg_sl ([.ref (b + 82), .int (iI pp)]) ++ List.replicate (4 - (lg_sl ([.ref (b + 82), .int (iI pp)])).length) Slot.unset).toArray) [] := by rw [hargs]; exact lg_entry_eq m ([.ref (b + 82), .int (iI pp)]) 4
  rw [hent]
  generalize (lg_sl ([.ref (b + 82), .int (iI pp)]) ++ List.replicate (4 - (lg_sl ([.ref (b + 82), .int (iI pp)])).length) Slot.unset).toArray = ls at hl ⊢
  have hl : lv_has ls 4 [(0, .ref (b + 82)), (1, .int (iI pp))] := hl
  refine lv_aload_n hx hb dX3_spanFits_0 rfl (lv_at hl 0 rfl) ?_
  refine z_getr (j2 := 84) hx hb hts (z_memU u3) hown hK.1 hS f3_2 (by decide) (zkd_of (rfl : zcd wC 82 = 34) rfl) (zrf_of (rfl : zcd wC 82 = 34) rfl) (Or.inl (hts _ (z_mem k198))) dX3_spanFits_1 ?_
  refine z_iconst hx hb dX3_spanFits_4 ?_
  refine z_callv (va_runS (As := [.ref (b + 84), .int (iI (-1))]) (rest := []) ⟨hx, hb, hml, hown, hts⟩ (n_fill84 l D dA b M (-1) (by decide)) (va_cwS 2 hts (z_gS k769 k170 k10 k171) rfl rfl rfl dm_J7_fill_53178.2 ⟨Nat.le_of_ble_eq_true rfl, Nat.le_of_ble_eq_true rfl⟩) ⟨zP_blind, z_pre hS hK⟩ rfl rfl hl.1 rfl (lv_room (Nat.le_of_ble_eq_true rfl)) dX3_spanFits_5 ⟨Nat.le_refl _, Nat.le_refl _⟩) hS hS0 (zms_sub rfl) (fun M1 H locs h2 F3 hS hS0 => ?_)
  have J4 := hS.2.1
  refine z_iconst hx hb dX3_spanFits_8 ?_
  refine lv_istore_n (lv' := [(2, .int (iI 0)), (0, .ref (b + 82)), (1, .int (iI pp))]) hx hb dX3_spanFits_9 rfl hl (by decide) rfl (fun ls hl => ?_)
  refine lv_iload_n hx hb dX3_spanFits_10 rfl (lv_at hl 0 rfl) ?_
  refine lv_aload_n hx hb dX3_spanFits_11 rfl (lv_at hl 1 rfl) ?_
  refine z_geti hx hb hts (z_memU u3) hown hK.1 hS f3_1 (by decide) (zkd_of (rfl : zcd wC 82 = 34) rfl) (Or.inl (hts _ (z_mem k196))) dX3_spanFits_12 ?_
  refine z_top (show M1 82 1 = 0 from by rw [F3 _ _ (zms_not (rfl : zcd wC 82 = 34) rfl), g0]) ?_
  refine z_icmp_ge (tgt := 83) hx hb (by decide) (by decide) dX3_spanFits_15 (by decide) (fun c5 => ?_) (fun c5 => absurd c5 (by decide))
  refine z_iconst hx hb dX3_spanFits_83 ?_
  exact z_zret hx hb hr hlocks hS hS0 (by first | decide | omega) (by first | exact trivial | exact ⟨rfl, trivial⟩ | omega | (refine ⟨by omega, trivial⟩)) dX3_spanFits_84

set_option maxHeartbeats 4000000 in
set_option maxRecDepth 100000 in
theorem n_spanNumber (l : Launch) (D : va_G) (dA : Nat → ClassId) (b : Nat) (M : zM) (i : Int) (r_i : R32 i) (g0 : M 82 1 = 0) : Met l yX3_spanNumber (.code yX3_spanNumber cX3_spanNumber 4 (some .int) :: zt) (z_rm 2) (va_Pc [.ref (b + 82), .int (iI i)] (zP D dA vwCl (z_tys dA) wC nC b M)) (va_Qi (zQi wC (zms wC [2367]) M (fun z M1 => (0 ≤ i ∧ i < 24 ∧ z = i + 1) ∨ ((i < 0 ∨ 24 ≤ i) ∧ z = -1))) (zB D dA vwCl wC nC b) (zA nC b)) 0 0 (zA nC b) := by
  refine Met.ofW (cc := cX3_spanNumber) (maxL := 4) (ret := (some .int)) (by decide) rfl ?_
  intro p e s m args below meth c s₁ B hml hv
  obtain ⟨hargs, hR0, hJ, hK⟩ := hv
  have hx := B.exec
  have hb := B.bytes
  have hr := B.returns
  have hts := atoms_spec (ws := .code yX3_spanNumber cX3_spanNumber 4 (some .int) :: zt) B.pre
  have hown : s.vm.findClass RX3 = some m.cls := findClass_of_methodNamed B.named
  have hlocks := B.notSynchronized
  have hS : zS D dA vwCl wC nC b (zms wC [2367]) M M s.heap := ⟨hR0, hJ, zF_rf _ _⟩
  have hS0 : va_S (zA nC b) s.heap s.heap [] := va_S.rf
  have hl := lv_entry ([.ref (b + 82), .int (iI i)]) (n := 4) (Nat.le_of_ble_eq_true rfl)
  have hent : entryFrame m args 4 = F0 m 0 ((lg_sl ([.ref (b + 82), .int (iI i)]) ++ List.replicate (4 - (lg_sl ([.ref (b + 82), .int (iI i)])).length) Slot.unset).toArray) [] := by rw [hargs]; exact lg_entry_eq m ([.ref (b + 82), .int (iI i)]) 4
  rw [hent]
  generalize (lg_sl ([.ref (b + 82), .int (iI i)]) ++ List.replicate (4 - (lg_sl ([.ref (b + 82), .int (iI i)])).length) Slot.unset).toArray = ls at hl ⊢
  have hl : lv_has ls 4 [(0, .ref (b + 82)), (1, .int (iI i))] := hl
  refine z_iconst hx hb dX3_spanNumber_0 ?_
  refine lv_istore_n (lv' := [(2, .int (iI 0)), (0, .ref (b + 82)), (1, .int (iI i))]) hx hb dX3_spanNumber_1 rfl hl (by decide) rfl (fun ls hl => ?_)
  refine z_iconst hx hb dX3_spanNumber_2 ?_
  refine lv_istore_n (lv' := [(3, .int (iI 1)), (2, .int (iI 0)), (0, .ref (b + 82)), (1, .int (iI i))]) hx hb dX3_spanNumber_3 rfl hl (by decide) rfl (fun ls hl => ?_)
  have L5 : ∀ (n3 : Nat) (f1 : Int) (pp2 : Int) (M6 : zM) (H : Heap) (locs : List Loc) (ls : Array Slot), (2147483648 - pp2).toNat ≤ n3 → R32 f1 → R32 pp2 → (1 ≤ pp2 ∧ pp2 ≤ 25) → (f1 = pp2 - 1) → (i < 0 ∨ pp2 - 1 ≤ i) → zS D dA vwCl wC nC b (zms wC [2367]) M M6 H → va_S (zA nC b) s.heap H locs → lv_has ls 4 [(0, .ref (b + 82)), (1, .int (iI i)), (2, .int (iI f1)), (3, .int (iI pp2))] → W p l e (headSpec (.code yX3_spanNumber cX3_spanNumber 4 (some .int) :: zt) (z_rm 2)).room s m args below meth c H locs 0 0 (MQ below (va_Qi (zQi wC (zms wC [2367]) M (fun z M1 => (0 ≤ i ∧ i < 24 ∧ z = i + 1) ∨ ((i < 0 ∨ 24 ≤ i) ∧ z = -1))) (zB D dA vwCl wC nC b) (zA nC b)) args s 0 0 (zA nC b)) (F0 m 4 ls []) := by
    intro n3
    induction n3 with
    | zero =>
      intro f1 pp2 M6 H locs ls hm r_f1 r_pp2 i7 i8 i9 hS hS0 hl
      exfalso
      omega
    | succ n3 ih4 =>
      intro f1 pp2 M6 H locs ls hm r_f1 r_pp2 i7 i8 i9 hS hS0 hl
      have J10 := hS.2.1
      have F11 := hS.2.2
      refine lv_iload_n hx hb dX3_spanNumber_4 rfl (lv_at hl 3 rfl) ?_
      refine z_bipush hx hb (by decide) dX3_spanNumber_5 ?_
      refine z_icmp_gt (tgt := 34) hx hb r_pp2 (by decide) dX3_spanNumber_7 (by decide) (fun c12 => ?_) (fun c12 => ?_)
      · skip
        refine z_iconst hx hb dX3_spanNumber_34 ?_
        exact z_iret hx hb hr hlocks hS hS0 (by decide) (by first | exact trivial | exact ⟨rfl, trivial⟩ | omega | (refine ⟨by omega, trivial⟩)) dX3_spanNumber_35
      · skip
        refine lv_aload_n hx hb dX3_spanNumber_10 rfl (lv_at hl 0 rfl) ?_
        refine lv_iload_n hx hb dX3_spanNumber_11 rfl (lv_at hl 3 rfl) ?_
        refine z_calli (va_runV (As := [.int (iI pp2)]) (rest := []) ⟨hx, hb, hml, hown, hts⟩ (n_spanFits l D dA b M6 pp2 r_pp2 (by rw [F11 _ _ (zms_not (rfl : zcd wC 82 = 34) rfl), g0])) (cwV 1 hts (z_gV k766 k767 k1385 k11 k768) rfl rfl rfl dm_X3_spanFits ⟨Nat.le_of_ble_eq_true rfl, Nat.le_of_ble_eq_true rfl⟩) ⟨zP_blind, (z_recv hS hK.1 (by decide) (zkd_of (rfl : zcd wC 82 = 34) rfl) (by decide) (rfl : vwCl[3]? = some (RX3, TX3, 4))), z_pre hS hK⟩ rfl rfl hl.1 rfl (lv_room (Nat.le_of_ble_eq_true rfl)) dX3_spanNumber_12 ⟨Nat.le_refl _, Nat.le_refl _⟩) hS hS0 (zms_sub rfl) (fun z17 M13 H locs r18 h14 F15 hS hS0 => ?_)
        have J16 := hS.2.1
        have h19 := h14
        obtain ⟨z17e, h19⟩ := h19
        subst z17e
        refine z_if_eq (tgt := 28) hx hb (by decide) dX3_spanNumber_15 (by decide) (fun c20 => absurd c20 (by decide)) (fun c20 => ?_)
        refine lv_iload_n hx hb dX3_spanNumber_18 rfl (lv_at hl 2 rfl) ?_
        refine lv_iload_n hx hb dX3_spanNumber_19 rfl (lv_at hl 1 rfl) ?_
        refine z_icmp_ne (tgt := 25) hx hb r_f1 r_i dX3_spanNumber_20 (by decide) (fun c21 => ?_) (fun c21 => ?_)
        · skip
          refine z_iinc (lv' := [(2, .int (iI (f1 + 1))), (0, .ref (b + 82)), (1, .int (iI i)), (3, .int (iI pp2))]) hx hb dX3_spanNumber_25 hl (k := 2) rfl (by decide) rfl (fun ls hl => ?_)
          refine z_iinc (lv' := [(3, .int (iI (pp2 + 1))), (2, .int (iI (f1 + 1))), (0, .ref (b + 82)), (1, .int (iI i))]) hx hb dX3_spanNumber_28 hl (k := 3) rfl (by decide) rfl (fun ls hl => ?_)
          refine lv_goto (tgt := 4) hx hb dX3_spanNumber_31 (by decide) ?_
          exact ih4 (f1 + 1) (pp2 + 1) M13 _ _ _ (by omega) ⟨by omega, by omega⟩ ⟨by omega, by omega⟩ (by omega) (by omega) (by omega) hS hS0 (lv_sub hl [2, 3, 1, 0] rfl)
        · skip
          refine lv_iload_n hx hb dX3_spanNumber_23 rfl (lv_at hl 3 rfl) ?_
          exact z_iret hx hb hr hlocks hS hS0 r_pp2 (by first | exact trivial | exact ⟨rfl, trivial⟩ | omega | (refine ⟨by omega, trivial⟩)) dX3_spanNumber_24
  exact L5 _ 0 1 M _ _ _ (Nat.le_refl _) (by decide) (by decide) (by omega) (by omega) (by omega) hS hS0 (lv_sub hl [2, 3, 1, 0] rfl)

set_option maxHeartbeats 4000000 in
set_option maxRecDepth 100000 in
theorem n_makeGreatest84 (l : Launch) (D : va_G) (dA : Nat → ClassId) (b : Nat) (M : zM) (n : Int) (r_n : R32 n) (g0 : M 82 1 = 0) : Met l yX3_makeGreatest (.code yX3_makeGreatest cX3_makeGreatest 4 none :: zt) (z_rm 1) (va_Pc [.ref (b + 82), .ref (b + 84), .int (iI n)] (zP D dA vwCl (z_tys dA) wC nC b M)) (va_Qv (zQv wC (zms wC [2367]) M (fun M1 => True)) (zB D dA vwCl wC nC b) (zA nC b)) 0 0 (zA nC b) := by
  refine Met.ofW (cc := cX3_makeGreatest) (maxL := 4) (ret := none) (by decide) rfl ?_
  intro p e s m args below meth c s₁ B hml hv
  obtain ⟨hargs, hR0, hJ, hK⟩ := hv
  have hx := B.exec
  have hb := B.bytes
  have hr := B.returns
  have hts := atoms_spec (ws := .code yX3_makeGreatest cX3_makeGreatest 4 none :: zt) B.pre
  have hown : s.vm.findClass RX3 = some m.cls := findClass_of_methodNamed B.named
  have hlocks := B.notSynchronized
  have hS : zS D dA vwCl wC nC b (zms wC [2367]) M M s.heap := ⟨hR0, hJ, zF_rf _ _⟩
  have hS0 : va_S (zA nC b) s.heap s.heap [] := va_S.rf
  have hl := lv_entry ([.ref (b + 82), .ref (b + 84), .int (iI n)]) (n := 4) (Nat.le_of_ble_eq_true rfl)
  have hent : entryFrame m args 4 = F0 m 0 ((lg_sl ([.ref (b + 82), .ref (b + 84), .int (iI n)]) ++ List.replicate (4 - (lg_sl ([.ref (b + 82), .ref (b + 84), .int (iI n)])).length) Slot.unset).toArray) [] := by rw [hargs]; exact lg_entry_eq m ([.ref (b + 82), .ref (b + 84), .int (iI n)]) 4
  rw [hent]
  generalize (lg_sl ([.ref (b + 82), .ref (b + 84), .int (iI n)]) ++ List.replicate (4 - (lg_sl ([.ref (b + 82), .ref (b + 84), .int (iI n)])).length) Slot.unset).toArray = ls at hl ⊢
  have hl : lv_has ls 4 [(0, .ref (b + 82)), (1, .ref (b + 84)), (2, .int (iI n))] := hl
  refine lv_aload_n hx hb dX3_makeGreatest_0 rfl (lv_at hl 1 rfl) ?_
  refine z_sipush hx hb (by decide) dX3_makeGreatest_1 ?_
  refine z_callv (va_runS (As := [.ref (b + 84), .int (iI 1022)]) (rest := []) ⟨hx, hb, hml, hown, hts⟩ (n_fill84 l D dA b M 1022 (by decide)) (va_cwS 2 hts (z_gS k769 k170 k10 k171) rfl rfl rfl dm_J7_fill_53178.2 ⟨Nat.le_of_ble_eq_true rfl, Nat.le_of_ble_eq_true rfl⟩) ⟨zP_blind, z_pre hS hK⟩ rfl rfl hl.1 rfl (lv_room (Nat.le_of_ble_eq_true rfl)) dX3_makeGreatest_4 ⟨Nat.le_refl _, Nat.le_refl _⟩) hS hS0 (zms_sub rfl) (fun M1 H locs h2 F3 hS hS0 => ?_)
  have J4 := hS.2.1
  refine z_iconst hx hb dX3_makeGreatest_7 ?_
  refine lv_istore_n (lv' := [(3, .int (iI 0)), (0, .ref (b + 82)), (1, .ref (b + 84)), (2, .int (iI n))]) hx hb dX3_makeGreatest_8 rfl hl (by decide) rfl (fun ls hl => ?_)
  refine lv_iload_n hx hb dX3_makeGreatest_9 rfl (lv_at hl 0 rfl) ?_
  refine lv_aload_n hx hb dX3_makeGreatest_10 rfl (lv_at hl 1 rfl) ?_
  refine z_geti hx hb hts (z_memU u3) hown hK.1 hS f3_1 (by decide) (zkd_of (rfl : zcd wC 82 = 34) rfl) (Or.inl (hts _ (z_mem k196))) dX3_makeGreatest_11 ?_
  refine z_top (show M1 82 1 = 0 from by rw [F3 _ _ (zms_not (rfl : zcd wC 82 = 34) rfl), g0]) ?_
  refine z_icmp_ge (tgt := 50) hx hb (by decide) (by decide) dX3_makeGreatest_14 (by decide) (fun c5 => ?_) (fun c5 => absurd c5 (by decide))
  exact z_vret hx hb hr hlocks hS hS0 (by first | exact trivial | exact ⟨rfl, trivial⟩ | omega | (refine ⟨by omega, trivial⟩)) dX3_makeGreatest_50

set_option maxHeartbeats 4000000 in
set_option maxRecDepth 100000 in
theorem n_makeGreatest85 (l : Launch) (D : va_G) (dA : Nat → ClassId) (b : Nat) (M : zM) (n : Int) (r_n : R32 n) (g0 : M 82 1 = 0) : Met l yX3_makeGreatest (.code yX3_makeGreatest cX3_makeGreatest 4 none :: zt) (z_rm 1) (va_Pc [.ref (b + 82), .ref (b + 85), .int (iI n)] (zP D dA vwCl (z_tys dA) wC nC b M)) (va_Qv (zQv wC (zms wC [2431]) M (fun M1 => True)) (zB D dA vwCl wC nC b) (zA nC b)) 0 0 (zA nC b) := by
  refine Met.ofW (cc := cX3_makeGreatest) (maxL := 4) (ret := none) (by decide) rfl ?_
  intro p e s m args below meth c s₁ B hml hv
  obtain ⟨hargs, hR0, hJ, hK⟩ := hv
  have hx := B.exec
  have hb := B.bytes
  have hr := B.returns
  have hts := atoms_spec (ws := .code yX3_makeGreatest cX3_makeGreatest 4 none :: zt) B.pre
  have hown : s.vm.findClass RX3 = some m.cls := findClass_of_methodNamed B.named
  have hlocks := B.notSynchronized
  have hS : zS D dA vwCl wC nC b (zms wC [2431]) M M s.heap := ⟨hR0, hJ, zF_rf _ _⟩
  have hS0 : va_S (zA nC b) s.heap s.heap [] := va_S.rf
  have hl := lv_entry ([.ref (b + 82), .ref (b + 85), .int (iI n)]) (n := 4) (Nat.le_of_ble_eq_true rfl)
  have hent : entryFrame m args 4 = F0 m 0 ((lg_sl ([.ref (b + 82), .ref (b + 85), .int (iI n)]) ++ List.replicate (4 - (lg_sl ([.ref (b + 82), .ref (b + 85), .int (iI n)])).length) Slot.unset).toArray) [] := by rw [hargs]; exact lg_entry_eq m ([.ref (b + 82), .ref (b + 85), .int (iI n)]) 4
  rw [hent]
  generalize (lg_sl ([.ref (b + 82), .ref (b + 85), .int (iI n)]) ++ List.replicate (4 - (lg_sl ([.ref (b + 82), .ref (b + 85), .int (iI n)])).length) Slot.unset).toArray = ls at hl ⊢
  have hl : lv_has ls 4 [(0, .ref (b + 82)), (1, .ref (b + 85)), (2, .int (iI n))] := hl
  refine lv_aload_n hx hb dX3_makeGreatest_0 rfl (lv_at hl 1 rfl) ?_
  refine z_sipush hx hb (by decide) dX3_makeGreatest_1 ?_
  refine z_callv (va_runS (As := [.ref (b + 85), .int (iI 1022)]) (rest := []) ⟨hx, hb, hml, hown, hts⟩ (n_fill85 l D dA b M 1022 (by decide)) (va_cwS 2 hts (z_gS k769 k170 k10 k171) rfl rfl rfl dm_J7_fill_53178.2 ⟨Nat.le_of_ble_eq_true rfl, Nat.le_of_ble_eq_true rfl⟩) ⟨zP_blind, z_pre hS hK⟩ rfl rfl hl.1 rfl (lv_room (Nat.le_of_ble_eq_true rfl)) dX3_makeGreatest_4 ⟨Nat.le_refl _, Nat.le_refl _⟩) hS hS0 (zms_sub rfl) (fun M1 H locs h2 F3 hS hS0 => ?_)
  have J4 := hS.2.1
  refine z_iconst hx hb dX3_makeGreatest_7 ?_
  refine lv_istore_n (lv' := [(3, .int (iI 0)), (0, .ref (b + 82)), (1, .ref (b + 85)), (2, .int (iI n))]) hx hb dX3_makeGreatest_8 rfl hl (by decide) rfl (fun ls hl => ?_)
  refine lv_iload_n hx hb dX3_makeGreatest_9 rfl (lv_at hl 0 rfl) ?_
  refine lv_aload_n hx hb dX3_makeGreatest_10 rfl (lv_at hl 1 rfl) ?_
  refine z_geti hx hb hts (z_memU u3) hown hK.1 hS f3_1 (by decide) (zkd_of (rfl : zcd wC 82 = 34) rfl) (Or.inl (hts _ (z_mem k196))) dX3_makeGreatest_11 ?_
  refine z_top (show M1 82 1 = 0 from by rw [F3 _ _ (zms_not (rfl : zcd wC 82 = 34) rfl), g0]) ?_
  refine z_icmp_ge (tgt := 50) hx hb (by decide) (by decide) dX3_makeGreatest_14 (by decide) (fun c5 => ?_) (fun c5 => absurd c5 (by decide))
  exact z_vret hx hb hr hlocks hS hS0 (by first | exact trivial | exact ⟨rfl, trivial⟩ | omega | (refine ⟨by omega, trivial⟩)) dX3_makeGreatest_50

set_option maxHeartbeats 4000000 in
set_option maxRecDepth 100000 in
theorem n_pairFits (l : Launch) (D : va_G) (dA : Nat → ClassId) (b : Nat) (M : zM) (pp : Int) (qq : Int) (r_pp : R32 pp) (r_qq : R32 qq) (g0 : M 82 1 = 0) : Met l yX3_pairFits (.code yX3_pairFits cX3_pairFits 4 (some .boolean) :: zt) (z_rm 2) (va_Pc [.ref (b + 82), .int (iI pp), .int (iI qq)] (zP D dA vwCl (z_tys dA) wC nC b M)) (va_Qi (zQi wC (zms wC [2367, 2431]) M (fun z M1 => z = 1 ∧ True)) (zB D dA vwCl wC nC b) (zA nC b)) 0 0 (zA nC b) := by
  refine Met.ofW (cc := cX3_pairFits) (maxL := 4) (ret := (some .boolean)) (by decide) rfl ?_
  intro p e s m args below meth c s₁ B hml hv
  obtain ⟨hargs, hR0, hJ, hK⟩ := hv
  have hx := B.exec
  have hb := B.bytes
  have hr := B.returns
  have hts := atoms_spec (ws := .code yX3_pairFits cX3_pairFits 4 (some .boolean) :: zt) B.pre
  have hown : s.vm.findClass RX3 = some m.cls := findClass_of_methodNamed B.named
  have hlocks := B.notSynchronized
  have hS : zS D dA vwCl wC nC b (zms wC [2367, 2431]) M M s.heap := ⟨hR0, hJ, zF_rf _ _⟩
  have hS0 : va_S (zA nC b) s.heap s.heap [] := va_S.rf
  have hl := lv_entry ([.ref (b + 82), .int (iI pp), .int (iI qq)]) (n := 4) (Nat.le_of_ble_eq_true rfl)
  have hent : entryFrame m args 4 = F0 m 0 ((lg_sl ([.ref (b + 82), .int (iI pp), .int (iI qq)]) ++ List.replicate (4 - (lg_sl ([.ref (b + 82), .int (iI pp), .int (iI qq)])).length) Slot.unset).toArray) [] := by rw [hargs]; exact lg_entry_eq m ([.ref (b + 82), .int (iI pp), .int (iI qq)]) 4
  rw [hent]
  generalize (lg_sl ([.ref (b + 82), .int (iI pp), .int (iI qq)]) ++ List.replicate (4 - (lg_sl ([.ref (b + 82), .int (iI pp), .int (iI qq)])).length) Slot.unset).toArray = ls at hl ⊢
  have hl : lv_has ls 4 [(0, .ref (b + 82)), (1, .int (iI pp)), (2, .int (iI qq))] := hl
  refine lv_aload_n hx hb dX3_pairFits_0 rfl (lv_at hl 0 rfl) ?_
  refine lv_aload_n hx hb dX3_pairFits_1 rfl (lv_at hl 0 rfl) ?_
  refine z_getr (j2 := 84) hx hb hts (z_memU u3) hown hK.1 hS f3_2 (by decide) (zkd_of (rfl : zcd wC 82 = 34) rfl) (zrf_of (rfl : zcd wC 82 = 34) rfl) (Or.inl (hts _ (z_mem k198))) dX3_pairFits_2 ?_
  refine lv_iload_n hx hb dX3_pairFits_5 rfl (lv_at hl 1 rfl) ?_
  refine z_callv (va_runV (As := [.ref (b + 84), .int (iI pp)]) (rest := []) ⟨hx, hb, hml, hown, hts⟩ (n_makeGreatest84 l D dA b M pp r_pp (by rw [g0])) (cwV 2 hts (z_gV k782 k783 k1387 k11 k784) rfl rfl rfl dm_X3_makeGreatest ⟨Nat.le_of_ble_eq_true rfl, Nat.le_of_ble_eq_true rfl⟩) ⟨zP_blind, (z_recv hS hK.1 (by decide) (zkd_of (rfl : zcd wC 82 = 34) rfl) (by decide) (rfl : vwCl[3]? = some (RX3, TX3, 4))), z_pre hS hK⟩ rfl rfl hl.1 rfl (lv_room (Nat.le_of_ble_eq_true rfl)) dX3_pairFits_6 ⟨Nat.le_refl _, Nat.le_refl _⟩) hS hS0 (zms_sub rfl) (fun M1 H locs h2 F3 hS hS0 => ?_)
  have J4 := hS.2.1
  refine lv_aload_n hx hb dX3_pairFits_9 rfl (lv_at hl 0 rfl) ?_
  refine lv_aload_n hx hb dX3_pairFits_10 rfl (lv_at hl 0 rfl) ?_
  refine z_getr (j2 := 85) hx hb hts (z_memU u3) hown hK.1 hS f3_3 (by decide) (zkd_of (rfl : zcd wC 82 = 34) rfl) (zrf_of (rfl : zcd wC 82 = 34) rfl) (Or.inl (hts _ (z_mem k199))) dX3_pairFits_11 ?_
  refine lv_iload_n hx hb dX3_pairFits_14 rfl (lv_at hl 2 rfl) ?_
  refine z_callv (va_runV (As := [.ref (b + 85), .int (iI qq)]) (rest := []) ⟨hx, hb, hml, hown, hts⟩ (n_makeGreatest85 l D dA b M1 qq r_qq (by rw [F3 _ _ (zms_not (rfl : zcd wC 82 = 34) rfl), g0])) (cwV 2 hts (z_gV k782 k783 k1387 k11 k784) rfl rfl rfl dm_X3_makeGreatest ⟨Nat.le_of_ble_eq_true rfl, Nat.le_of_ble_eq_true rfl⟩) ⟨zP_blind, (z_recv hS hK.1 (by decide) (zkd_of (rfl : zcd wC 82 = 34) rfl) (by decide) (rfl : vwCl[3]? = some (RX3, TX3, 4))), z_pre hS hK⟩ rfl rfl hl.1 rfl (lv_room (Nat.le_of_ble_eq_true rfl)) dX3_pairFits_15 ⟨Nat.le_refl _, Nat.le_refl _⟩) hS hS0 (zms_sub rfl) (fun M5 H locs h6 F7 hS hS0 => ?_)
  have J8 := hS.2.1
  refine z_iconst hx hb dX3_pairFits_18 ?_
  refine lv_istore_n (lv' := [(3, .int (iI 0)), (0, .ref (b + 82)), (1, .int (iI pp)), (2, .int (iI qq))]) hx hb dX3_pairFits_19 rfl hl (by decide) rfl (fun ls hl => ?_)
  refine lv_iload_n hx hb dX3_pairFits_20 rfl (lv_at hl 0 rfl) ?_
  refine lv_aload_n hx hb dX3_pairFits_21 rfl (lv_at hl 1 rfl) ?_
  refine z_geti hx hb hts (z_memU u3) hown hK.1 hS f3_1 (by decide) (zkd_of (rfl : zcd wC 82 = 34) rfl) (Or.inl (hts _ (z_mem k196))) dX3_pairFits_22 ?_
  refine z_top (show M5 82 1 = 0 from by rw [F7 _ _ (zms_not (rfl : zcd wC 82 = 34) rfl), F3 _ _ (zms_not (rfl : zcd wC 82 = 34) rfl), g0]) ?_
  refine z_icmp_ge (tgt := 78) hx hb (by decide) (by decide) dX3_pairFits_25 (by decide) (fun c9 => ?_) (fun c9 => absurd c9 (by decide))
  refine z_iconst hx hb dX3_pairFits_78 ?_
  exact z_zret hx hb hr hlocks hS hS0 (by first | decide | omega) (by first | exact trivial | exact ⟨rfl, trivial⟩ | omega | (refine ⟨by omega, trivial⟩)) dX3_pairFits_79

set_option maxHeartbeats 4000000 in
set_option maxRecDepth 100000 in
theorem n_mendedAt (l : Launch) (D : va_G) (dA : Nat → ClassId) (b : Nat) (M : zM) (i : Int) (r_i : R32 i) (g0 : M 82 1 = 0) : Met l yX3_mendedAt (.code yX3_mendedAt cX3_mendedAt 3 (some .int) :: zt) (z_rm 0) (va_Pc [.ref (b + 82), .int (iI i)] (zP D dA vwCl (z_tys dA) wC nC b M)) (va_Qi (zQi wC (zms wC []) M (fun z M1 => M1 = M ∧ (z = -1 ∧ True))) (zB D dA vwCl wC nC b) (zA nC b)) 0 0 (zA nC b) := by
  refine Met.ofW (cc := cX3_mendedAt) (maxL := 3) (ret := (some .int)) (by decide) rfl ?_
  intro p e s m args below meth c s₁ B hml hv
  obtain ⟨hargs, hR0, hJ, hK⟩ := hv
  have hx := B.exec
  have hb := B.bytes
  have hr := B.returns
  have hts := atoms_spec (ws := .code yX3_mendedAt cX3_mendedAt 3 (some .int) :: zt) B.pre
  have hown : s.vm.findClass RX3 = some m.cls := findClass_of_methodNamed B.named
  have hlocks := B.notSynchronized
  have hS : zS D dA vwCl wC nC b (zms wC []) M M s.heap := ⟨hR0, hJ, zF_rf _ _⟩
  have hS0 : va_S (zA nC b) s.heap s.heap [] := va_S.rf
  have hl := lv_entry ([.ref (b + 82), .int (iI i)]) (n := 3) (Nat.le_of_ble_eq_true rfl)
  have hent : entryFrame m args 3 = F0 m 0 ((lg_sl ([.ref (b + 82), .int (iI i)]) ++ List.replicate (3 - (lg_sl ([.ref (b + 82), .int (iI i)])).length) Slot.unset).toArray) [] := by rw [hargs]; exact lg_entry_eq m ([.ref (b + 82), .int (iI i)]) 3
  rw [hent]
  generalize (lg_sl ([.ref (b + 82), .int (iI i)]) ++ List.replicate (3 - (lg_sl ([.ref (b + 82), .int (iI i)])).length) Slot.unset).toArray = ls at hl ⊢
  have hl : lv_has ls 3 [(0, .ref (b + 82)), (1, .int (iI i))] := hl
  refine lv_iload_n hx hb dX3_mendedAt_0 rfl (lv_at hl 1 rfl) ?_
  refine z_if_lt (tgt := 12) hx hb r_i dX3_mendedAt_1 (by decide) (fun c1 => ?_) (fun c1 => ?_)
  · skip
    refine z_iconst hx hb dX3_mendedAt_12 ?_
    exact z_iret hx hb hr hlocks hS hS0 (by decide) (⟨rfl, by first | exact trivial | exact ⟨rfl, trivial⟩ | omega | (refine ⟨by omega, trivial⟩)⟩) dX3_mendedAt_13
  · skip
    refine lv_iload_n hx hb dX3_mendedAt_4 rfl (lv_at hl 1 rfl) ?_
    refine lv_aload_n hx hb dX3_mendedAt_5 rfl (lv_at hl 0 rfl) ?_
    refine z_geti hx hb hts (z_memU u3) hown hK.1 hS f3_1 (by decide) (zkd_of (rfl : zcd wC 82 = 34) rfl) (Or.inl (hts _ (z_mem k196))) dX3_mendedAt_6 ?_
    refine z_top (show M 82 1 = 0 from by rw [g0]) ?_
    refine z_icmp_lt (tgt := 14) hx hb r_i (by decide) dX3_mendedAt_9 (by decide) (fun c2 => absurd c2 (by omega)) (fun c2 => ?_)
    refine z_iconst hx hb dX3_mendedAt_12 ?_
    exact z_iret hx hb hr hlocks hS hS0 (by decide) (⟨rfl, by first | exact trivial | exact ⟨rfl, trivial⟩ | omega | (refine ⟨by omega, trivial⟩)⟩) dX3_mendedAt_13

set_option maxHeartbeats 4000000 in
set_option maxRecDepth 100000 in
theorem n_keepBetter (l : Launch) (D : va_G) (dA : Nat → ClassId) (b : Nat) (M : zM) (n : Int) (r_n : R32 n) (g0 : M 86 2 = 41) (p0 : n = 0) : Met l yX4_keepBetter (.code yX4_keepBetter cX4_keepBetter 2 none :: zt) (z_rm 1) (va_Pc [.ref (b + 86), .int (iI n)] (zP D dA vwCl (z_tys dA) wC nC b M)) (va_Qv (zQv wC (zms wC [2434, 2559]) M (fun M1 => (True) ∧ M1 86 2 = 0)) (zB D dA vwCl wC nC b) (zA nC b)) 0 0 (zA nC b) := by
  refine Met.ofW (cc := cX4_keepBetter) (maxL := 2) (ret := none) (by decide) rfl ?_
  intro p e s m args below meth c s₁ B hml hv
  obtain ⟨hargs, hR0, hJ, hK⟩ := hv
  have hx := B.exec
  have hb := B.bytes
  have hr := B.returns
  have hts := atoms_spec (ws := .code yX4_keepBetter cX4_keepBetter 2 none :: zt) B.pre
  have hown : s.vm.findClass RX4 = some m.cls := findClass_of_methodNamed B.named
  have hlocks := B.notSynchronized
  have hS : zS D dA vwCl wC nC b (zms wC [2434, 2559]) M M s.heap := ⟨hR0, hJ, zF_rf _ _⟩
  have hS0 : va_S (zA nC b) s.heap s.heap [] := va_S.rf
  have hl := lv_entry ([.ref (b + 86), .int (iI n)]) (n := 2) (Nat.le_of_ble_eq_true rfl)
  have hent : entryFrame m args 2 = F0 m 0 ((lg_sl ([.ref (b + 86), .int (iI n)]) ++ List.replicate (2 - (lg_sl ([.ref (b + 86), .int (iI n)])).length) Slot.unset).toArray) [] := by rw [hargs]; exact lg_entry_eq m ([.ref (b + 86), .int (iI n)]) 2
  rw [hent]
  generalize (lg_sl ([.ref (b + 86), .int (iI n)]) ++ List.replicate (2 - (lg_sl ([.ref (b + 86), .int (iI n)])).length) Slot.unset).toArray = ls at hl ⊢
  have hl : lv_has ls 2 [(0, .ref (b + 86)), (1, .int (iI n))] := hl
  refine lv_iload_n hx hb dX4_keepBetter_0 rfl (lv_at hl 1 rfl) ?_
  refine lv_aload_n hx hb dX4_keepBetter_1 rfl (lv_at hl 0 rfl) ?_
  refine z_geti hx hb hts (z_memU u4) hown hK.1 hS f4_2 (by decide) (zkd_of (rfl : zcd wC 86 = 38) rfl) (Or.inl (hts _ (z_mem k214))) dX4_keepBetter_2 ?_
  refine z_top (show M 86 2 = 41 from by rw [g0]) ?_
  refine z_icmp_lt (tgt := 24) hx hb r_n (by decide) dX4_keepBetter_5 (by decide) (fun c1 => ?_) (fun c1 => absurd c1 (by omega))
  refine lv_aload_n hx hb dX4_keepBetter_24 rfl (lv_at hl 0 rfl) ?_
  refine lv_iload_n hx hb dX4_keepBetter_25 rfl (lv_at hl 1 rfl) ?_
  refine z_puti hx hb hts (z_memU u4) tyX4 tyX4_ok nmX4 hown hK.1 hS hS0 f4_2 (by decide) (zkd_of (rfl : zcd wC 86 = 38) rfl) (Or.inl (hts _ (z_mem k214))) rfl (z := n) (by decide +kernel) (zbd_in (rfl : zcd wC 86 = 38) rfl r_n) (zms_of (rfl : zcd wC 86 = 38) rfl) dX4_keepBetter_26 (fun H locs hS hS0 => ?_)
  obtain ⟨M2, e3⟩ : ∃ M2 : zM, M2 = zup M 86 2 n := ⟨_, rfl⟩
  rw [← e3] at hS
  have J4 := hS.2.1
  refine lv_aload_n hx hb dX4_keepBetter_29 rfl (lv_at hl 0 rfl) ?_
  refine z_getr (j2 := 95) hx hb hts (z_memU u4) hown hK.1 hS f4_5 (by decide) (zkd_of (rfl : zcd wC 86 = 38) rfl) (zrf_of (rfl : zcd wC 86 = 38) rfl) (Or.inl (hts _ (z_mem k217))) dX4_keepBetter_30 ?_
  refine z_iconst hx hb dX4_keepBetter_33 ?_
  refine lv_aload_n hx hb dX4_keepBetter_34 rfl (lv_at hl 0 rfl) ?_
  refine z_getr (j2 := 87) hx hb hts (z_memU u4) hown hK.1 hS f4_1 (by decide) (zkd_of (rfl : zcd wC 86 = 38) rfl) (zrf_of (rfl : zcd wC 86 = 38) rfl) (Or.inl (hts _ (z_mem k212))) dX4_keepBetter_35 ?_
  refine z_iconst hx hb dX4_keepBetter_38 ?_
  refine lv_iload_n hx hb dX4_keepBetter_39 rfl (lv_at hl 1 rfl) ?_
  refine z_acopy (n0 := 40) (n1 := 40) hx hb (hml.trans hl.1.symm) hown (hts _ (z_mem k826)) (hts _ (z_mem k366)) (hts _ (z_mem k365)) (hts _ (z_mem k16)) hK.1 (t0 := 0) rfl hS hS0 (by decide) (by decide) (by decide) (zkd_of (rfl : zcd wC 95 = 43) rfl) (zkd_of (rfl : zcd wC 87 = 39) rfl) (zln_of (rfl : zcd wC 95 = 43) rfl) (zln_of (rfl : zcd wC 87 = 39) rfl) (by decide) (by decide) (by decide) (by decide) (by omega) (by omega) (by omega) (fun k hk => zbd_in (lo := 0) (hi := 9) (rfl : zcd wC 87 = 39) rfl (zwk (zJ_at (lo := 0) (hi := 9) J4 (rfl : zcd wC 95 = 43) rfl) (by decide) (by decide))) (fun k => zms_of (rfl : zcd wC 87 = 39) rfl) (by exact Nat.le_of_ble_eq_true rfl) (by exact Nat.le_of_ble_eq_true rfl) dX4_keepBetter_40 (fun H locs hS hS0 => ?_)
  obtain ⟨M5, e6⟩ : ∃ M5 : zM, M5 = zcp M2 95 87 (0 : Int).toNat (0 : Int).toNat (n : Int).toNat := ⟨_, rfl⟩
  rw [← e6] at hS
  have J7 := hS.2.1
  have F8 : zF (zms wC [2559]) M2 M5 := by rw [e6]; exact zcp_F (rfl : zcd wC 87 = 39) (fun _ => rfl)
  exact z_vret hx hb hr hlocks hS hS0 (⟨by first | exact trivial | exact ⟨rfl, trivial⟩ | omega | (refine ⟨by omega, trivial⟩), by rw [F8 _ _ (zms_not (rfl : zcd wC 86 = 38) rfl), e3, zup_s] <;> omega⟩) dX4_keepBetter_43

set_option maxHeartbeats 4000000 in
set_option maxRecDepth 100000 in
theorem n_layRest (l : Launch) (D : va_G) (dA : Nat → ClassId) (b : Nat) (M : zM) (d : Int) (u : Int) (n : Int) (r_d : R32 d) (r_u : R32 u) (r_n : R32 n) (g0 : M 86 0 = 0) (g1 : M 86 2 = 41) (p0 : d = 0) (p1 : n = 0) : Met l yX4_layRest (.code yX4_layRest cX4_layRest 6 none :: zt) (z_rm 2) (va_Pc [.ref (b + 86), .int (iI d), .int (iI u), .int (iI n)] (zP D dA vwCl (z_tys dA) wC nC b M)) (va_Qv (zQv wC (zms wC [2434, 2559]) M (fun M1 => (True) ∧ M1 86 2 = 0)) (zB D dA vwCl wC nC b) (zA nC b)) 0 0 (zA nC b) := by
  refine Met.ofW (cc := cX4_layRest) (maxL := 6) (ret := none) (by decide) rfl ?_
  intro p e s m args below meth c s₁ B hml hv
  obtain ⟨hargs, hR0, hJ, hK⟩ := hv
  have hx := B.exec
  have hb := B.bytes
  have hr := B.returns
  have hts := atoms_spec (ws := .code yX4_layRest cX4_layRest 6 none :: zt) B.pre
  have hown : s.vm.findClass RX4 = some m.cls := findClass_of_methodNamed B.named
  have hlocks := B.notSynchronized
  have hS : zS D dA vwCl wC nC b (zms wC [2434, 2559]) M M s.heap := ⟨hR0, hJ, zF_rf _ _⟩
  have hS0 : va_S (zA nC b) s.heap s.heap [] := va_S.rf
  have hl := lv_entry ([.ref (b + 86), .int (iI d), .int (iI u), .int (iI n)]) (n := 6) (Nat.le_of_ble_eq_true rfl)
  have hent : entryFrame m args 6 = F0 m 0 ((lg_sl ([.ref (b + 86), .int (iI d), .int (iI u), .int (iI n)]) ++ List.replicate (6 - (lg_sl ([.ref (b + 86), .int (iI d), .int (iI u), .int (iI n)])).length) Slot.unset).toArray) [] := by rw [hargs]; exact lg_entry_eq m ([.ref (b + 86), .int (iI d), .int (iI u), .int (iI n)]) 6
  rw [hent]
  generalize (lg_sl ([.ref (b + 86), .int (iI d), .int (iI u), .int (iI n)]) ++ List.replicate (6 - (lg_sl ([.ref (b + 86), .int (iI d), .int (iI u), .int (iI n)])).length) Slot.unset).toArray = ls at hl ⊢
  have hl : lv_has ls 6 [(0, .ref (b + 86)), (1, .int (iI d)), (2, .int (iI u)), (3, .int (iI n))] := hl
  refine lv_iload_n hx hb dX4_layRest_0 rfl (lv_at hl 3 rfl) ?_
  refine lv_aload_n hx hb dX4_layRest_1 rfl (lv_at hl 0 rfl) ?_
  refine z_geti hx hb hts (z_memU u4) hown hK.1 hS f4_2 (by decide) (zkd_of (rfl : zcd wC 86 = 38) rfl) (Or.inl (hts _ (z_mem k214))) dX4_layRest_2 ?_
  refine z_top (show M 86 2 = 41 from by rw [g1]) ?_
  refine z_icmp_le (tgt := 9) hx hb r_n (by decide) dX4_layRest_5 (by decide) (fun c1 => ?_) (fun c1 => absurd c1 (by omega))
  refine lv_iload_n hx hb dX4_layRest_9 rfl (lv_at hl 1 rfl) ?_
  refine lv_aload_n hx hb dX4_layRest_10 rfl (lv_at hl 0 rfl) ?_
  refine z_geti hx hb hts (z_memU u4) hown hK.1 hS f4_0 (by decide) (zkd_of (rfl : zcd wC 86 = 38) rfl) (Or.inl (hts _ (z_mem k210))) dX4_layRest_11 ?_
  refine z_top (show M 86 0 = 0 from by rw [g0]) ?_
  refine z_icmp_ge (tgt := 22) hx hb r_d (by decide) dX4_layRest_14 (by decide) (fun c2 => ?_) (fun c2 => absurd c2 (by omega))
  refine lv_aload_n hx hb dX4_layRest_22 rfl (lv_at hl 0 rfl) ?_
  refine lv_iload_n hx hb dX4_layRest_23 rfl (lv_at hl 3 rfl) ?_
  refine z_callv (va_runV (As := [.int (iI n)]) (rest := []) ⟨hx, hb, hml, hown, hts⟩ (n_keepBetter l D dA b M n r_n (by rw [g1]) (by omega)) (cwV 1 hts (z_gV k820 k821 k1388 k12 k822) rfl rfl rfl dm_X4_keepBetter ⟨Nat.le_of_ble_eq_true rfl, Nat.le_of_ble_eq_true rfl⟩) ⟨zP_blind, (z_recv hS hK.1 (by decide) (zkd_of (rfl : zcd wC 86 = 38) rfl) (by decide) (rfl : vwCl[4]? = some (RX4, TX4, 6))), z_pre hS hK⟩ rfl rfl hl.1 rfl (lv_room (Nat.le_of_ble_eq_true rfl)) dX4_layRest_24 ⟨Nat.le_refl _, Nat.le_refl _⟩) hS hS0 (zms_sub rfl) (fun M3 H locs h4 F5 hS hS0 => ?_)
  have J6 := hS.2.1
  obtain ⟨h4, m7⟩ := h4
  exact z_vret hx hb hr hlocks hS hS0 (⟨by first | exact trivial | exact ⟨rfl, trivial⟩ | omega | (refine ⟨by omega, trivial⟩), by rw [m7]⟩) dX4_layRest_27

set_option maxHeartbeats 4000000 in
set_option maxRecDepth 100000 in
theorem n_joinAll (l : Launch) (D : va_G) (dA : Nat → ClassId) (b : Nat) (M : zM) (g0 : M 86 0 = 0) : Met l yX4_joinAll (.code yX4_joinAll cX4_joinAll 1 (some .int) :: zt) (z_rm 3) (va_Pc [.ref (b + 86)] (zP D dA vwCl (z_tys dA) wC nC b M)) (va_Qi (zQi wC (zms wC [2434, 2559]) M (fun z M1 => z = 0 ∧ True)) (zB D dA vwCl wC nC b) (zA nC b)) 0 0 (zA nC b) := by
  refine Met.ofW (cc := cX4_joinAll) (maxL := 1) (ret := (some .int)) (by decide) rfl ?_
  intro p e s m args below meth c s₁ B hml hv
  obtain ⟨hargs, hR0, hJ, hK⟩ := hv
  have hx := B.exec
  have hb := B.bytes
  have hr := B.returns
  have hts := atoms_spec (ws := .code yX4_joinAll cX4_joinAll 1 (some .int) :: zt) B.pre
  have hown : s.vm.findClass RX4 = some m.cls := findClass_of_methodNamed B.named
  have hlocks := B.notSynchronized
  have hS : zS D dA vwCl wC nC b (zms wC [2434, 2559]) M M s.heap := ⟨hR0, hJ, zF_rf _ _⟩
  have hS0 : va_S (zA nC b) s.heap s.heap [] := va_S.rf
  have hl := lv_entry ([.ref (b + 86)]) (n := 1) (Nat.le_of_ble_eq_true rfl)
  have hent : entryFrame m args 1 = F0 m 0 ((lg_sl ([.ref (b + 86)]) ++ List.replicate (1 - (lg_sl ([.ref (b + 86)])).length) Slot.unset).toArray) [] := by rw [hargs]; exact lg_entry_eq m ([.ref (b + 86)]) 1
  rw [hent]
  generalize (lg_sl ([.ref (b + 86)]) ++ List.replicate (1 - (lg_sl ([.ref (b + 86)])).length) Slot.unset).toArray = ls at hl ⊢
  have hl : lv_has ls 1 [(0, .ref (b + 86))] := hl
  refine lv_aload_n hx hb dX4_joinAll_0 rfl (lv_at hl 0 rfl) ?_
  refine z_bipush hx hb (by decide) dX4_joinAll_1 ?_
  refine z_puti hx hb hts (z_memU u4) tyX4 tyX4_ok nmX4 hown hK.1 hS hS0 f4_2 (by decide) (zkd_of (rfl : zcd wC 86 = 38) rfl) (Or.inl (hts _ (z_mem k214))) rfl (z := 41) (by decide +kernel) (zbd_in (rfl : zcd wC 86 = 38) rfl (by decide)) (zms_of (rfl : zcd wC 86 = 38) rfl) dX4_joinAll_3 (fun H locs hS hS0 => ?_)
  obtain ⟨M1, e2⟩ : ∃ M1 : zM, M1 = zup M 86 2 41 := ⟨_, rfl⟩
  rw [← e2] at hS
  have J3 := hS.2.1
  refine lv_aload_n hx hb dX4_joinAll_6 rfl (lv_at hl 0 rfl) ?_
  refine z_iconst hx hb dX4_joinAll_7 ?_
  refine z_iconst hx hb dX4_joinAll_8 ?_
  refine z_iconst hx hb dX4_joinAll_9 ?_
  refine z_callv (va_runS (As := [.ref (b + 86), .int (iI 0), .int (iI 0), .int (iI 0)]) (rest := []) ⟨hx, hb, hml, hown, hts⟩ (n_layRest l D dA b M1 0 0 0 (by decide) (by decide) (by decide) (by rw [e2, zup_n _ _ (by omega), g0]) (by rw [e2, zup_s]) (by omega) (by omega)) (va_cwS 4 hts (z_gS k817 k818 k12 k819) rfl rfl rfl dm_X4_layRest.2 ⟨Nat.le_of_ble_eq_true rfl, Nat.le_of_ble_eq_true rfl⟩) ⟨zP_blind, z_pre hS hK⟩ rfl rfl hl.1 rfl (lv_room (Nat.le_of_ble_eq_true rfl)) dX4_joinAll_10 ⟨Nat.le_refl _, Nat.le_refl _⟩) hS hS0 (zms_sub rfl) (fun M4 H locs h5 F6 hS hS0 => ?_)
  have J7 := hS.2.1
  obtain ⟨h5, m8⟩ := h5
  refine lv_aload_n hx hb dX4_joinAll_13 rfl (lv_at hl 0 rfl) ?_
  refine z_geti hx hb hts (z_memU u4) hown hK.1 hS f4_2 (by decide) (zkd_of (rfl : zcd wC 86 = 38) rfl) (Or.inl (hts _ (z_mem k214))) dX4_joinAll_14 ?_
  refine z_top (show M4 86 2 = 0 from by rw [m8]) ?_
  exact z_iret hx hb hr hlocks hS hS0 (by decide) (by first | exact trivial | exact ⟨rfl, trivial⟩ | omega | (refine ⟨by omega, trivial⟩)) dX4_joinAll_17

set_option maxHeartbeats 4000000 in
set_option maxRecDepth 100000 in
theorem n_vfind (l : Launch) (D : va_G) (dA : Nat → ClassId) (b : Nat) (M : zM) (i : Int) (r_i : R32 i) (g0 : M 96 0 = 0) : Met l yX10_find (.code yX10_find cX10_find 2 (some (.object "TapeRings$Strip")) :: zt) (z_rm 0) (va_Pc [.ref (b + 96), .int (iI i)] (zP D dA vwCl (z_tys dA) wC nC b M)) (va_Qq (zQq wC (zms wC []) M (fun z M1 => M1 = M ∧ (z = none ∧ True))) (zB D dA vwCl wC nC b) (zA nC b)) 0 0 (zA nC b) := by
  refine Met.ofW (cc := cX10_find) (maxL := 2) (ret := (some (.object "TapeRings$Strip"))) (by decide) rfl ?_
  intro p e s m args below meth c s₁ B hml hv
  obtain ⟨hargs, hR0, hJ, hK⟩ := hv
  have hx := B.exec
  have hb := B.bytes
  have hr := B.returns
  have hts := atoms_spec (ws := .code yX10_find cX10_find 2 (some (.object "TapeRings$Strip")) :: zt) B.pre
  have hown : s.vm.findClass RX10 = some m.cls := findClass_of_methodNamed B.named
  have hlocks := B.notSynchronized
  have hS : zS D dA vwCl wC nC b (zms wC []) M M s.heap := ⟨hR0, hJ, zF_rf _ _⟩
  have hS0 : va_S (zA nC b) s.heap s.heap [] := va_S.rf
  have hl := lv_entry ([.ref (b + 96), .int (iI i)]) (n := 2) (Nat.le_of_ble_eq_true rfl)
  have hent : entryFrame m args 2 = F0 m 0 ((lg_sl ([.ref (b + 96), .int (iI i)]) ++ List.replicate (2 - (lg_sl ([.ref (b + 96), .int (iI i)])).length) Slot.unset).toArray) [] := by rw [hargs]; exact lg_entry_eq m ([.ref (b + 96), .int (iI i)]) 2
  rw [hent]
  generalize (lg_sl ([.ref (b + 96), .int (iI i)]) ++ List.replicate (2 - (lg_sl ([.ref (b + 96), .int (iI i)])).length) Slot.unset).toArray = ls at hl ⊢
  have hl : lv_has ls 2 [(0, .ref (b + 96)), (1, .int (iI i))] := hl
  refine lv_iload_n hx hb dX10_find_0 rfl (lv_at hl 1 rfl) ?_
  refine z_if_lt (tgt := 27) hx hb r_i dX10_find_1 (by decide) (fun c1 => ?_) (fun c1 => ?_)
  · skip
    refine lv_null hx hb dX10_find_27 ?_
    exact z_aret (r := none) hx hb hr (Or.inl ⟨_, rfl⟩) hlocks hS hS0 rfl (⟨rfl, by first | exact trivial | exact ⟨rfl, trivial⟩ | omega | (refine ⟨by omega, trivial⟩)⟩) dX10_find_28
  · skip
    refine lv_iload_n hx hb dX10_find_4 rfl (lv_at hl 1 rfl) ?_
    refine lv_aload_n hx hb dX10_find_5 rfl (lv_at hl 0 rfl) ?_
    refine z_geti hx hb hts (z_memU u10) hown hK.1 hS f10_0 (by decide) (zkd_of (rfl : zcd wC 96 = 44) rfl) (Or.inl (hts _ (z_mem k231))) dX10_find_6 ?_
    refine z_top (show M 96 0 = 0 from by rw [g0]) ?_
    refine z_icmp_ge (tgt := 27) hx hb r_i (by decide) dX10_find_9 (by decide) (fun c2 => ?_) (fun c2 => absurd c2 (by omega))
    refine lv_null hx hb dX10_find_27 ?_
    exact z_aret (r := none) hx hb hr (Or.inl ⟨_, rfl⟩) hlocks hS hS0 rfl (⟨rfl, by first | exact trivial | exact ⟨rfl, trivial⟩ | omega | (refine ⟨by omega, trivial⟩)⟩) dX10_find_28

set_option maxHeartbeats 4000000 in
set_option maxRecDepth 100000 in
theorem n_latest (l : Launch) (D : va_G) (dA : Nat → ClassId) (b : Nat) (M : zM) (r : Int) (d : Int) (r_r : R32 r) (r_d : R32 d) (g0 : M 96 0 = 0) : Met l yX10_latest (.code yX10_latest cX10_latest 4 (some .int) :: zt) (z_rm 0) (va_Pc [.ref (b + 96), .int (iI r), .int (iI d)] (zP D dA vwCl (z_tys dA) wC nC b M)) (va_Qi (zQi wC (zms wC []) M (fun z M1 => M1 = M ∧ (z = -1 ∧ True))) (zB D dA vwCl wC nC b) (zA nC b)) 0 0 (zA nC b) := by
  refine Met.ofW (cc := cX10_latest) (maxL := 4) (ret := (some .int)) (by decide) rfl ?_
  intro p e s m args below meth c s₁ B hml hv
  obtain ⟨hargs, hR0, hJ, hK⟩ := hv
  have hx := B.exec
  have hb := B.bytes
  have hr := B.returns
  have hts := atoms_spec (ws := .code yX10_latest cX10_latest 4 (some .int) :: zt) B.pre
  have hown : s.vm.findClass RX10 = some m.cls := findClass_of_methodNamed B.named
  have hlocks := B.notSynchronized
  have hS : zS D dA vwCl wC nC b (zms wC []) M M s.heap := ⟨hR0, hJ, zF_rf _ _⟩
  have hS0 : va_S (zA nC b) s.heap s.heap [] := va_S.rf
  have hl := lv_entry ([.ref (b + 96), .int (iI r), .int (iI d)]) (n := 4) (Nat.le_of_ble_eq_true rfl)
  have hent : entryFrame m args 4 = F0 m 0 ((lg_sl ([.ref (b + 96), .int (iI r), .int (iI d)]) ++ List.replicate (4 - (lg_sl ([.ref (b + 96), .int (iI r), .int (iI d)])).length) Slot.unset).toArray) [] := by rw [hargs]; exact lg_entry_eq m ([.ref (b + 96), .int (iI r), .int (iI d)]) 4
  rw [hent]
  generalize (lg_sl ([.ref (b + 96), .int (iI r), .int (iI d)]) ++ List.replicate (4 - (lg_sl ([.ref (b + 96), .int (iI r), .int (iI d)])).length) Slot.unset).toArray = ls at hl ⊢
  have hl : lv_has ls 4 [(0, .ref (b + 96)), (1, .int (iI r)), (2, .int (iI d))] := hl
  refine lv_aload_n hx hb dX10_latest_0 rfl (lv_at hl 0 rfl) ?_
  refine z_geti hx hb hts (z_memU u10) hown hK.1 hS f10_0 (by decide) (zkd_of (rfl : zcd wC 96 = 44) rfl) (Or.inl (hts _ (z_mem k231))) dX10_latest_1 ?_
  refine z_top (show M 96 0 = 0 from by rw [g0]) ?_
  refine z_iconst hx hb dX10_latest_4 ?_
  refine z_isub hx hb dX10_latest_5 ?_
  refine z_top (show ((0 - 1) : Int) = (-1) from by decide) ?_
  refine lv_istore_n (lv' := [(3, .int (iI (-1))), (0, .ref (b + 96)), (1, .int (iI r)), (2, .int (iI d))]) hx hb dX10_latest_6 rfl hl (by decide) rfl (fun ls hl => ?_)
  refine lv_iload_n hx hb dX10_latest_7 rfl (lv_at hl 0 rfl) ?_
  refine z_if_lt (tgt := 39) hx hb (by decide) dX10_latest_8 (by decide) (fun c1 => ?_) (fun c1 => absurd c1 (by decide))
  refine z_iconst hx hb dX10_latest_39 ?_
  exact z_iret hx hb hr hlocks hS hS0 (by decide) (⟨rfl, by first | exact trivial | exact ⟨rfl, trivial⟩ | omega | (refine ⟨by omega, trivial⟩)⟩) dX10_latest_40
end
section
/-- a digit of a written piece -/
def DIG (v i : Int) : Int := (((iI v).toUInt32 >>> ((iI (28 - (4 * i))).toUInt32 &&& Int32.toUInt32 31)).toInt32 &&& iI 15).toInt
/-- pairs: the least p of a sum, how many have a sum below n + 2, the i-th -/
def PL (s : Int) : Int := max 1 (s - 24)
def PF : Nat → Int
  | 0 => 0
  | n + 1 => PF n + ((((n : Int) + 2) / 2 - PL ((n : Int) + 2)) + 1)
theorem PF_s (s : Int) (h1 : 2 ≤ s) (h2 : s ≤ 48) : PF ((s + 1) - 2).toNat = PF (s - 2).toNat + ((s / 2 - PL s) + 1) := by
  obtain ⟨n, hn⟩ : ∃ n : Nat, s = n + 2 := ⟨(s - 2).toNat, by omega⟩
  subst hn
  rw [show (((n : Int) + 2 + 1) - 2).toNat = n + 1 by omega, show ((n : Int) + 2 - 2).toNat = n by omega, PF]
theorem PF_b (n : Nat) (h : n < 48) : 0 ≤ PF n ∧ PF n ≤ 300 := (by decide : ∀ n, n < 48 → 0 ≤ PF n ∧ PF n ≤ 300) n h
def PR (i z : Int) : Prop := (∃ s p : Int, 2 ≤ s ∧ s ≤ 48 ∧ PL s ≤ p ∧ 2 * p ≤ s ∧ i = PF (s - 2).toNat + (p - PL s) ∧ z = 100 * p + s - p) ∨ ((i < 0 ∨ PF 47 ≤ i) ∧ z = -1)
theorem dX3_pairNumber_0 : decode cX3_pairNumber 0 = .ok (.iconst 0, 1) := by decide +kernel
theorem dX3_pairNumber_1 : decode cX3_pairNumber 1 = .ok (.istore_n 2, 1) := by decide +kernel
theorem dX3_pairNumber_10 : decode cX3_pairNumber 10 = .ok (.iconst 1, 1) := by decide +kernel
theorem dX3_pairNumber_11 : decode cX3_pairNumber 11 = .ok (.iload_n 3, 1) := by decide +kernel
theorem dX3_pairNumber_12 : decode cX3_pairNumber 12 = .ok (.bipush 24, 2) := by decide +kernel
theorem dX3_pairNumber_14 : decode cX3_pairNumber 14 = .ok (.isub, 1) := by decide +kernel
theorem dX3_pairNumber_15 : decode cX3_pairNumber 15 = .ok (.invokestatic 39, 3) := by decide +kernel
theorem dX3_pairNumber_18 : decode cX3_pairNumber 18 = .ok (.istore 4, 2) := by decide +kernel
theorem dX3_pairNumber_2 : decode cX3_pairNumber 2 = .ok (.iconst 2, 1) := by decide +kernel
theorem dX3_pairNumber_20 : decode cX3_pairNumber 20 = .ok (.iload 4, 2) := by decide +kernel
theorem dX3_pairNumber_22 : decode cX3_pairNumber 22 = .ok (.iload_n 3, 1) := by decide +kernel
theorem dX3_pairNumber_23 : decode cX3_pairNumber 23 = .ok (.iload 4, 2) := by decide +kernel
theorem dX3_pairNumber_25 : decode cX3_pairNumber 25 = .ok (.isub, 1) := by decide +kernel
theorem dX3_pairNumber_26 : decode cX3_pairNumber 26 = .ok (.if_icmp .gt 41, 3) := by decide +kernel
theorem dX3_pairNumber_29 : decode cX3_pairNumber 29 = .ok (.aload_n 0, 1) := by decide +kernel
theorem dX3_pairNumber_3 : decode cX3_pairNumber 3 = .ok (.istore_n 3, 1) := by decide +kernel
theorem dX3_pairNumber_30 : decode cX3_pairNumber 30 = .ok (.iload 4, 2) := by decide +kernel
theorem dX3_pairNumber_32 : decode cX3_pairNumber 32 = .ok (.iload_n 3, 1) := by decide +kernel
theorem dX3_pairNumber_33 : decode cX3_pairNumber 33 = .ok (.iload 4, 2) := by decide +kernel
theorem dX3_pairNumber_35 : decode cX3_pairNumber 35 = .ok (.isub, 1) := by decide +kernel
theorem dX3_pairNumber_36 : decode cX3_pairNumber 36 = .ok (.invokevirtual 45, 3) := by decide +kernel
theorem dX3_pairNumber_39 : decode cX3_pairNumber 39 = .ok (.ifCond .eq 22, 3) := by decide +kernel
theorem dX3_pairNumber_4 : decode cX3_pairNumber 4 = .ok (.iload_n 3, 1) := by decide +kernel
theorem dX3_pairNumber_42 : decode cX3_pairNumber 42 = .ok (.iload_n 2, 1) := by decide +kernel
theorem dX3_pairNumber_43 : decode cX3_pairNumber 43 = .ok (.iload_n 1, 1) := by decide +kernel
theorem dX3_pairNumber_44 : decode cX3_pairNumber 44 = .ok (.if_icmp .ne 14, 3) := by decide +kernel
theorem dX3_pairNumber_47 : decode cX3_pairNumber 47 = .ok (.bipush 100, 2) := by decide +kernel
theorem dX3_pairNumber_49 : decode cX3_pairNumber 49 = .ok (.iload 4, 2) := by decide +kernel
theorem dX3_pairNumber_5 : decode cX3_pairNumber 5 = .ok (.bipush 48, 2) := by decide +kernel
theorem dX3_pairNumber_51 : decode cX3_pairNumber 51 = .ok (.imul, 1) := by decide +kernel
theorem dX3_pairNumber_52 : decode cX3_pairNumber 52 = .ok (.iload_n 3, 1) := by decide +kernel
theorem dX3_pairNumber_53 : decode cX3_pairNumber 53 = .ok (.iadd, 1) := by decide +kernel
theorem dX3_pairNumber_54 : decode cX3_pairNumber 54 = .ok (.iload 4, 2) := by decide +kernel
theorem dX3_pairNumber_56 : decode cX3_pairNumber 56 = .ok (.isub, 1) := by decide +kernel
theorem dX3_pairNumber_57 : decode cX3_pairNumber 57 = .ok (.ireturn, 1) := by decide +kernel
theorem dX3_pairNumber_58 : decode cX3_pairNumber 58 = .ok (.iinc 2 1, 3) := by decide +kernel
theorem dX3_pairNumber_61 : decode cX3_pairNumber 61 = .ok (.iinc 4 1, 3) := by decide +kernel
theorem dX3_pairNumber_64 : decode cX3_pairNumber 64 = .ok (.goto (-44), 3) := by decide +kernel
theorem dX3_pairNumber_67 : decode cX3_pairNumber 67 = .ok (.iinc 3 1, 3) := by decide +kernel
theorem dX3_pairNumber_7 : decode cX3_pairNumber 7 = .ok (.if_icmp .gt 66, 3) := by decide +kernel
theorem dX3_pairNumber_70 : decode cX3_pairNumber 70 = .ok (.goto (-66), 3) := by decide +kernel
theorem dX3_pairNumber_73 : decode cX3_pairNumber 73 = .ok (.iconst (-1), 1) := by decide +kernel
theorem dX3_pairNumber_74 : decode cX3_pairNumber 74 = .ok (.ireturn, 1) := by decide +kernel
theorem dX4_add_0 : decode cX4_add 0 = .ok (.aload_n 0, 1) := by decide +kernel
theorem dX4_add_1 : decode cX4_add 1 = .ok (.getfield 9, 3) := by decide +kernel
theorem dX4_add_10 : decode cX4_add 10 = .ok (.iconst 0, 1) := by decide +kernel
theorem dX4_add_11 : decode cX4_add 11 = .ok (.istore_n 3, 1) := by decide +kernel
theorem dX4_add_12 : decode cX4_add 12 = .ok (.iload_n 3, 1) := by decide +kernel
theorem dX4_add_13 : decode cX4_add 13 = .ok (.iload_n 2, 1) := by decide +kernel
theorem dX4_add_14 : decode cX4_add 14 = .ok (.if_icmp .ge 38, 3) := by decide +kernel
theorem dX4_add_17 : decode cX4_add 17 = .ok (.iload_n 1, 1) := by decide +kernel
theorem dX4_add_18 : decode cX4_add 18 = .ok (.iload_n 3, 1) := by decide +kernel
theorem dX4_add_19 : decode cX4_add 19 = .ok (.invokestatic 33, 3) := by decide +kernel
theorem dX4_add_22 : decode cX4_add 22 = .ok (.istore 4, 2) := by decide +kernel
theorem dX4_add_24 : decode cX4_add 24 = .ok (.iload 4, 2) := by decide +kernel
theorem dX4_add_26 : decode cX4_add 26 = .ok (.bipush 9, 2) := by decide +kernel
theorem dX4_add_28 : decode cX4_add 28 = .ok (.if_icmp .le 5, 3) := by decide +kernel
theorem dX4_add_31 : decode cX4_add 31 = .ok (.iconst (-1), 1) := by decide +kernel
theorem dX4_add_32 : decode cX4_add 32 = .ok (.ireturn, 1) := by decide +kernel
theorem dX4_add_33 : decode cX4_add 33 = .ok (.aload_n 0, 1) := by decide +kernel
theorem dX4_add_34 : decode cX4_add 34 = .ok (.getfield 24, 3) := by decide +kernel
theorem dX4_add_37 : decode cX4_add 37 = .ok (.aload_n 0, 1) := by decide +kernel
theorem dX4_add_38 : decode cX4_add 38 = .ok (.getfield 9, 3) := by decide +kernel
theorem dX4_add_4 : decode cX4_add 4 = .ok (.iconst 5, 1) := by decide +kernel
theorem dX4_add_41 : decode cX4_add 41 = .ok (.aaload, 1) := by decide +kernel
theorem dX4_add_42 : decode cX4_add 42 = .ok (.iload_n 3, 1) := by decide +kernel
theorem dX4_add_43 : decode cX4_add 43 = .ok (.iload 4, 2) := by decide +kernel
theorem dX4_add_45 : decode cX4_add 45 = .ok (.iastore, 1) := by decide +kernel
theorem dX4_add_46 : decode cX4_add 46 = .ok (.iinc 3 1, 3) := by decide +kernel
theorem dX4_add_49 : decode cX4_add 49 = .ok (.goto (-37), 3) := by decide +kernel
theorem dX4_add_5 : decode cX4_add 5 = .ok (.if_icmp .lt 5, 3) := by decide +kernel
theorem dX4_add_52 : decode cX4_add 52 = .ok (.aload_n 0, 1) := by decide +kernel
theorem dX4_add_53 : decode cX4_add 53 = .ok (.getfield 27, 3) := by decide +kernel
theorem dX4_add_56 : decode cX4_add 56 = .ok (.aload_n 0, 1) := by decide +kernel
theorem dX4_add_57 : decode cX4_add 57 = .ok (.getfield 9, 3) := by decide +kernel
theorem dX4_add_60 : decode cX4_add 60 = .ok (.iload_n 2, 1) := by decide +kernel
theorem dX4_add_61 : decode cX4_add 61 = .ok (.iastore, 1) := by decide +kernel
theorem dX4_add_62 : decode cX4_add 62 = .ok (.aload_n 0, 1) := by decide +kernel
theorem dX4_add_63 : decode cX4_add 63 = .ok (.dup, 1) := by decide +kernel
theorem dX4_add_64 : decode cX4_add 64 = .ok (.getfield 9, 3) := by decide +kernel
theorem dX4_add_67 : decode cX4_add 67 = .ok (.iconst 1, 1) := by decide +kernel
theorem dX4_add_68 : decode cX4_add 68 = .ok (.iadd, 1) := by decide +kernel
theorem dX4_add_69 : decode cX4_add 69 = .ok (.putfield 9, 3) := by decide +kernel
theorem dX4_add_72 : decode cX4_add 72 = .ok (.aload_n 0, 1) := by decide +kernel
theorem dX4_add_73 : decode cX4_add 73 = .ok (.getfield 9, 3) := by decide +kernel
theorem dX4_add_76 : decode cX4_add 76 = .ok (.iconst 1, 1) := by decide +kernel
theorem dX4_add_77 : decode cX4_add 77 = .ok (.isub, 1) := by decide +kernel
theorem dX4_add_78 : decode cX4_add 78 = .ok (.ireturn, 1) := by decide +kernel
theorem dX4_digit_0 : decode cX4_digit 0 = .ok (.iload_n 0, 1) := by decide +kernel
theorem dX4_digit_1 : decode cX4_digit 1 = .ok (.bipush 28, 2) := by decide +kernel
theorem dX4_digit_10 : decode cX4_digit 10 = .ok (.iand, 1) := by decide +kernel
theorem dX4_digit_11 : decode cX4_digit 11 = .ok (.ireturn, 1) := by decide +kernel
theorem dX4_digit_3 : decode cX4_digit 3 = .ok (.iconst 4, 1) := by decide +kernel
theorem dX4_digit_4 : decode cX4_digit 4 = .ok (.iload_n 1, 1) := by decide +kernel
theorem dX4_digit_5 : decode cX4_digit 5 = .ok (.imul, 1) := by decide +kernel
theorem dX4_digit_6 : decode cX4_digit 6 = .ok (.isub, 1) := by decide +kernel
theorem dX4_digit_7 : decode cX4_digit 7 = .ok (.iushr, 1) := by decide +kernel
theorem dX4_digit_8 : decode cX4_digit 8 = .ok (.bipush 15, 2) := by decide +kernel
theorem dm_X4_digit : yX4_digit.cls = RX4 ∧ yX4_digit.cls ≠ "java/lang/invoke/MethodHandle" ∧ yX4_digit.cls ≠ "java/lang/invoke/VarHandle" ∧ (parseMethodDescriptor yX4_digit.desc).map (fun d => d.parameters.length) = some 2 := by decide +kernel
theorem dm_X3_pairFits : yX3_pairFits.cls = RX3 ∧ yX3_pairFits.cls ≠ "java/lang/invoke/MethodHandle" ∧ yX3_pairFits.cls ≠ "java/lang/invoke/VarHandle" ∧ (parseMethodDescriptor yX3_pairFits.desc).map (fun d => d.parameters.length) = some 2 := by decide +kernel
set_option maxHeartbeats 4000000 in
set_option maxRecDepth 100000 in
theorem c_digit (l : Launch) (D : va_G) (dA : Nat → ClassId) (b : Nat) (M : zM) (v : Int) (i : Int) (r_v : R32 v) (r_i : R32 i) : Met l yX4_digit (.code yX4_digit cX4_digit 2 (some .int) :: zt) (z_rm 0) (va_Pc [.int (iI v), .int (iI i)] (zP D dA vwCl (z_tys dA) wC nC b M)) (va_Qi (zQi wC (zms wC []) M (fun z M1 => M1 = M ∧ (z = DIG v i ∧ 0 ≤ z ∧ z ≤ 15))) (zB D dA vwCl wC nC b) (zA nC b)) 0 0 (zA nC b) := by
  refine Met.ofW (cc := cX4_digit) (maxL := 2) (ret := (some .int)) (by decide) rfl ?_
  intro p e s m args below meth c s₁ B hml hv
  obtain ⟨hargs, hR0, hJ, hK⟩ := hv
  have hx := B.exec
  have hb := B.bytes
  have hr := B.returns
  have hts := atoms_spec (ws := .code yX4_digit cX4_digit 2 (some .int) :: zt) B.pre
  have hown : s.vm.findClass RX4 = some m.cls := findClass_of_methodNamed B.named
  have hlocks := B.notSynchronized
  have hS : zS D dA vwCl wC nC b (zms wC []) M M s.heap := ⟨hR0, hJ, zF_rf _ _⟩
  have hS0 : va_S (zA nC b) s.heap s.heap [] := va_S.rf
  have hl := lv_entry ([.int (iI v), .int (iI i)]) (n := 2) (Nat.le_of_ble_eq_true rfl)
  have hent : entryFrame m args 2 = F0 m 0 ((lg_sl ([.int (iI v), .int (iI i)]) ++ List.replicate (2 - (lg_sl ([.int (iI v), .int (iI i)])).length) Slot.unset).toArray) [] := by rw [hargs]; exact lg_entry_eq m ([.int (iI v), .int (iI i)]) 2
  rw [hent]
  generalize (lg_sl ([.int (iI v), .int (iI i)]) ++ List.replicate (2 - (lg_sl ([.int (iI v), .int (iI i)])).length) Slot.unset).toArray = ls at hl ⊢
  have hl : lv_has ls 2 [(0, .int (iI v)), (1, .int (iI i))] := hl
  refine lv_iload_n hx hb dX4_digit_0 rfl (lv_at hl 0 rfl) ?_
  refine z_bipush hx hb (by decide) dX4_digit_1 ?_
  refine z_iconst hx hb dX4_digit_3 ?_
  refine lv_iload_n hx hb dX4_digit_4 rfl (lv_at hl 1 rfl) ?_
  refine z_imul hx hb dX4_digit_5 ?_
  refine z_isub hx hb dX4_digit_6 ?_
  refine z_iushr hx hb dX4_digit_7 (fun z1 r2 e3 => ?_)
  refine z_bipush hx hb (by decide) dX4_digit_8 ?_
  refine z_iand hx hb dX4_digit_10 (fun z4 r5 e6 => ?_)
  have q7 : (0 : Int) ≤ z4 ∧ z4 ≤ 15 := zand_r (by decide) (by decide) r5 e6
  exact z_iret hx hb hr hlocks hS hS0 r5 (⟨rfl, by unfold DIG; rw [← e3, ← e6, iI_t r5], by omega, by omega⟩) dX4_digit_11

set_option maxHeartbeats 4000000 in
set_option maxRecDepth 100000 in
theorem n_pcadd (l : Launch) (D : va_G) (dA : Nat → ClassId) (b : Nat) (M : zM) (v : Int) (n : Int) (r_v : R32 v) (r_n : R32 n) (g0 : M 86 0 = 0) (p0 : 1 ≤ n ∧ n ≤ 8) : Met l yX4_add (.code yX4_add cX4_add 5 (some .int) :: zt) (z_rm 1) (va_Pc [.ref (b + 86), .int (iI v), .int (iI n)] (zP D dA vwCl (z_tys dA) wC nC b M)) (va_Qi (zQi wC (zms wC [2432, 2687, 2751]) M (fun z M1 => (z = 0 ∧ ∀ k : Int, 0 ≤ k → k < n → DIG v k ≤ 9) ∨ (z = -1 ∧ ∃ k : Int, 0 ≤ k ∧ k < n ∧ 9 < DIG v k))) (zB D dA vwCl wC nC b) (zA nC b)) 0 0 (zA nC b) := by
  refine Met.ofW (cc := cX4_add) (maxL := 5) (ret := (some .int)) (by decide) rfl ?_
  intro p e s m args below meth c s₁ B hml hv
  obtain ⟨hargs, hR0, hJ, hK⟩ := hv
  have hx := B.exec
  have hb := B.bytes
  have hr := B.returns
  have hts := atoms_spec (ws := .code yX4_add cX4_add 5 (some .int) :: zt) B.pre
  have hown : s.vm.findClass RX4 = some m.cls := findClass_of_methodNamed B.named
  have hlocks := B.notSynchronized
  have hS : zS D dA vwCl wC nC b (zms wC [2432, 2687, 2751]) M M s.heap := ⟨hR0, hJ, zF_rf _ _⟩
  have hS0 : va_S (zA nC b) s.heap s.heap [] := va_S.rf
  have hl := lv_entry ([.ref (b + 86), .int (iI v), .int (iI n)]) (n := 5) (Nat.le_of_ble_eq_true rfl)
  have hent : entryFrame m args 5 = F0 m 0 ((lg_sl ([.ref (b + 86), .int (iI v), .int (iI n)]) ++ List.replicate (5 - (lg_sl ([.ref (b + 86), .int (iI v), .int (iI n)])).length) Slot.unset).toArray) [] := by rw [hargs]; exact lg_entry_eq m ([.ref (b + 86), .int (iI v), .int (iI n)]) 5
  rw [hent]
  generalize (lg_sl ([.ref (b + 86), .int (iI v), .int (iI n)]) ++ List.replicate (5 - (lg_sl ([.ref (b + 86), .int (iI v), .int (iI n)])).length) Slot.unset).toArray = ls at hl ⊢
  have hl : lv_has ls 5 [(0, .ref (b + 86)), (1, .int (iI v)), (2, .int (iI n))] := hl
  refine lv_aload_n hx hb dX4_add_0 rfl (lv_at hl 0 rfl) ?_
  refine z_geti hx hb hts (z_memU u4) hown hK.1 hS f4_0 (by decide) (zkd_of (rfl : zcd wC 86 = 38) rfl) (Or.inl (hts _ (z_mem k210))) dX4_add_1 ?_
  refine z_top (show M 86 0 = 0 from by rw [g0]) ?_
  refine z_iconst hx hb dX4_add_4 ?_
  refine z_icmp_lt (tgt := 10) hx hb (by decide) (by decide) dX4_add_5 (by decide) (fun c1 => ?_) (fun c1 => absurd c1 (by decide))
  refine z_iconst hx hb dX4_add_10 ?_
  refine lv_istore_n (lv' := [(3, .int (iI 0)), (0, .ref (b + 86)), (1, .int (iI v)), (2, .int (iI n))]) hx hb dX4_add_11 rfl hl (by decide) rfl (fun ls hl => ?_)
  have L5 : ∀ (n3 : Nat) (i2 : Int) (M6 : zM) (H : Heap) (locs : List Loc) (ls : Array Slot), (2147483648 - i2).toNat ≤ n3 → R32 i2 → (0 ≤ i2) → (∀ k : Int, 0 ≤ k → k < i2 → DIG v k ≤ 9) → (M6 86 0 = 0) → zS D dA vwCl wC nC b (zms wC [2432, 2687, 2751]) M M6 H → va_S (zA nC b) s.heap H locs → lv_has ls 5 [(0, .ref (b + 86)), (1, .int (iI v)), (2, .int (iI n)), (3, .int (iI i2))] → W p l e (headSpec (.code yX4_add cX4_add 5 (some .int) :: zt) (z_rm 1)).room s m args below meth c H locs 0 0 (MQ below (va_Qi (zQi wC (zms wC [2432, 2687, 2751]) M (fun z M1 => (z = 0 ∧ ∀ k : Int, 0 ≤ k → k < n → DIG v k ≤ 9) ∨ (z = -1 ∧ ∃ k : Int, 0 ≤ k ∧ k < n ∧ 9 < DIG v k))) (zB D dA vwCl wC nC b) (zA nC b)) args s 0 0 (zA nC b)) (F0 m 12 ls []) := by
    intro n3
    induction n3 with
    | zero =>
      intro i2 M6 H locs ls hm r_i2 i7 i8 i9 hS hS0 hl
      exfalso
      omega
    | succ n3 ih4 =>
      intro i2 M6 H locs ls hm r_i2 i7 i8 i9 hS hS0 hl
      have J10 := hS.2.1
      have F11 := hS.2.2
      refine lv_iload_n hx hb dX4_add_12 rfl (lv_at hl 3 rfl) ?_
      refine lv_iload_n hx hb dX4_add_13 rfl (lv_at hl 2 rfl) ?_
      refine z_icmp_ge (tgt := 52) hx hb r_i2 r_n dX4_add_14 (by decide) (fun c12 => ?_) (fun c12 => ?_)
      · skip
        refine lv_aload_n hx hb dX4_add_52 rfl (lv_at hl 0 rfl) ?_
        refine z_getr (j2 := 94) hx hb hts (z_memU u4) hown hK.1 hS f4_4 (by decide) (zkd_of (rfl : zcd wC 86 = 38) rfl) (zrf_of (rfl : zcd wC 86 = 38) rfl) (Or.inl (hts _ (z_mem k216))) dX4_add_53 ?_
        refine lv_aload_n hx hb dX4_add_56 rfl (lv_at hl 0 rfl) ?_
        refine z_geti hx hb hts (z_memU u4) hown hK.1 hS f4_0 (by decide) (zkd_of (rfl : zcd wC 86 = 38) rfl) (Or.inl (hts _ (z_mem k210))) dX4_add_57 ?_
        refine z_top (show M6 86 0 = 0 from by rw [i9]) ?_
        refine lv_iload_n hx hb dX4_add_60 rfl (lv_at hl 2 rfl) ?_
        refine z_iast (n := 5) hx hb hK.1 (t0 := 0) rfl hS hS0 (by decide) (zkd_of (rfl : zcd wC 94 = 42) rfl) (zln_of (rfl : zcd wC 94 = 42) rfl) (by decide) (by decide) (by decide) (zbd_in (rfl : zcd wC 94 = 42) rfl ⟨by omega, by omega⟩) (zms_of (rfl : zcd wC 94 = 42) rfl) dX4_add_61 (fun H locs hS hS0 => ?_)
        obtain ⟨M13, e14⟩ : ∃ M13 : zM, M13 = zup M6 94 ((0 : Int).toNat) n := ⟨_, rfl⟩
        rw [← e14] at hS
        have J15 := hS.2.1
        refine lv_aload_n hx hb dX4_add_62 rfl (lv_at hl 0 rfl) ?_
        refine lv_dup hx hb dX4_add_63 rfl ?_
        refine z_geti hx hb hts (z_memU u4) hown hK.1 hS f4_0 (by decide) (zkd_of (rfl : zcd wC 86 = 38) rfl) (Or.inl (hts _ (z_mem k210))) dX4_add_64 ?_
        refine z_top (show M13 86 0 = 0 from by rw [e14, zup_n _ _ (by omega), i9]) ?_
        refine z_iconst hx hb dX4_add_67 ?_
        refine z_iadd hx hb dX4_add_68 ?_
        refine z_top (show ((0 + 1) : Int) = 1 from by decide) ?_
        refine z_puti hx hb hts (z_memU u4) tyX4 tyX4_ok nmX4 hown hK.1 hS hS0 f4_0 (by decide) (zkd_of (rfl : zcd wC 86 = 38) rfl) (Or.inl (hts _ (z_mem k210))) rfl (z := 1) (by decide +kernel) (zbd_in (rfl : zcd wC 86 = 38) rfl (by decide)) (zms_of (rfl : zcd wC 86 = 38) rfl) dX4_add_69 (fun H locs hS hS0 => ?_)
        obtain ⟨M16, e17⟩ : ∃ M16 : zM, M16 = zup M13 86 0 1 := ⟨_, rfl⟩
        rw [← e17] at hS
        have J18 := hS.2.1
        refine lv_aload_n hx hb dX4_add_72 rfl (lv_at hl 0 rfl) ?_
        refine z_geti hx hb hts (z_memU u4) hown hK.1 hS f4_0 (by decide) (zkd_of (rfl : zcd wC 86 = 38) rfl) (Or.inl (hts _ (z_mem k210))) dX4_add_73 ?_
        refine z_top (show M16 86 0 = 1 from by rw [e17, zup_s]) ?_
        refine z_iconst hx hb dX4_add_76 ?_
        refine z_isub hx hb dX4_add_77 ?_
        refine z_top (show ((1 - 1) : Int) = 0 from by decide) ?_
        exact z_iret hx hb hr hlocks hS hS0 (by decide) (Or.inl ⟨rfl, fun k h0 h1 => i8 k h0 (by omega)⟩) dX4_add_78
      · skip
        refine lv_iload_n hx hb dX4_add_17 rfl (lv_at hl 1 rfl) ?_
        refine lv_iload_n hx hb dX4_add_18 rfl (lv_at hl 3 rfl) ?_
        refine z_calli (va_runS (As := [.int (iI v), .int (iI i2)]) (rest := []) ⟨hx, hb, hml, hown, hts⟩ (c_digit l D dA b M6 v i2 r_v r_i2) (va_cwS 2 hts (z_gS k802 k803 k12 k804) rfl rfl rfl dm_X4_digit.2 ⟨Nat.le_of_ble_eq_true rfl, Nat.le_of_ble_eq_true rfl⟩) ⟨zP_blind, z_pre hS hK⟩ rfl rfl hl.1 rfl (lv_room (Nat.le_of_ble_eq_true rfl)) dX4_add_19 ⟨Nat.le_refl _, Nat.le_refl _⟩) hS hS0 (zms_sub rfl) (fun z23 M19 H locs r24 h20 F21 hS hS0 => ?_)
        obtain ⟨h25, h20⟩ := h20
        rw [h25] at hS
        refine lv_istore (lv' := [(4, .int (iI z23)), (0, .ref (b + 86)), (1, .int (iI v)), (2, .int (iI n)), (3, .int (iI i2))]) hx hb dX4_add_22 hl (by decide) rfl (fun ls hl => ?_)
        refine lv_iload hx hb dX4_add_24 (lv_at hl 0 rfl) ?_
        refine z_bipush hx hb (by decide) dX4_add_26 ?_
        refine z_icmp_le (tgt := 33) hx hb r24 (by decide) dX4_add_28 (by decide) (fun c26 => ?_) (fun c26 => ?_)
        · skip
          refine lv_aload_n hx hb dX4_add_33 rfl (lv_at hl 1 rfl) ?_
          refine z_getr (j2 := 88) hx hb hts (z_memU u4) hown hK.1 hS f4_3 (by decide) (zkd_of (rfl : zcd wC 86 = 38) rfl) (zrf_of (rfl : zcd wC 86 = 38) rfl) (Or.inl (hts _ (z_mem k215))) dX4_add_34 ?_
          refine lv_aload_n hx hb dX4_add_37 rfl (lv_at hl 1 rfl) ?_
          refine z_geti hx hb hts (z_memU u4) hown hK.1 hS f4_0 (by decide) (zkd_of (rfl : zcd wC 86 = 38) rfl) (Or.inl (hts _ (z_mem k210))) dX4_add_38 ?_
          refine z_top (show M6 86 0 = 0 from by rw [i9]) ?_
          refine z_aald (n := 5) (j2 := 89) hx hb hK.1 (t0 := 7) (r := 7) (by decide) rfl rfl hS (by decide) (zkd_of (rfl : zcd wC 88 = 40) rfl) (zln_of (rfl : zcd wC 88 = 40) rfl) (by decide) (by decide) (by decide) (zrf_of (rfl : zcd wC 88 = 40) rfl) dX4_add_41 ?_
          refine lv_iload_n hx hb dX4_add_42 rfl (lv_at hl 4 rfl) ?_
          refine lv_iload hx hb dX4_add_43 (lv_at hl 0 rfl) ?_
          refine z_iast (n := 8) hx hb hK.1 (t0 := 0) rfl hS hS0 (by decide) (zkd_of (rfl : zcd wC 89 = 41) rfl) (zln_of (rfl : zcd wC 89 = 41) rfl) (by omega) (by omega) (by decide) (zbd_in (rfl : zcd wC 89 = 41) rfl ⟨by omega, by omega⟩) (zms_of (rfl : zcd wC 89 = 41) rfl) dX4_add_45 (fun H locs hS hS0 => ?_)
          obtain ⟨M27, e28⟩ : ∃ M27 : zM, M27 = zup M6 89 (i2.toNat) z23 := ⟨_, rfl⟩
          rw [← e28] at hS
          have J29 := hS.2.1
          refine z_iinc (lv' := [(3, .int (iI (i2 + 1))), (4, .int (iI z23)), (0, .ref (b + 86)), (1, .int (iI v)), (2, .int (iI n))]) hx hb dX4_add_46 hl (k := 4) rfl (by decide) rfl (fun ls hl => ?_)
          refine lv_goto (tgt := 12) hx hb dX4_add_49 (by decide) ?_
          exact ih4 (i2 + 1) M27 _ _ _ (by omega) ⟨by omega, by omega⟩ (by omega) (fun k h0 h1 => if h9 : k = i2 then by rw [h9, ← h20.1]; omega else i8 k h0 (by omega)) (by rw [e28, zup_n _ _ (by omega), i9]) hS hS0 (lv_sub hl [2, 3, 4, 0] rfl)
        · skip
          refine z_iconst hx hb dX4_add_31 ?_
          exact z_iret hx hb hr hlocks hS hS0 (by decide) (Or.inr ⟨rfl, i2, by omega, by omega, by rw [← h20.1]; omega⟩) dX4_add_32
  exact L5 _ 0 M _ _ _ (Nat.le_refl _) (by decide) (by omega) (fun k h0 h1 => absurd h1 (by omega)) (by rw [g0]) hS hS0 (lv_sub hl [1, 2, 3, 0] rfl)

set_option maxHeartbeats 4000000 in
set_option maxRecDepth 100000 in
theorem n_pairNumber (l : Launch) (D : va_G) (dA : Nat → ClassId) (b : Nat) (M : zM) (i : Int) (r_i : R32 i) (g0 : M 82 1 = 0) : Met l yX3_pairNumber (.code yX3_pairNumber cX3_pairNumber 5 (some .int) :: zt) (z_rm 3) (va_Pc [.ref (b + 82), .int (iI i)] (zP D dA vwCl (z_tys dA) wC nC b M)) (va_Qi (zQi wC (zms wC [2367, 2431]) M (fun z M1 => PR i z)) (zB D dA vwCl wC nC b) (zA nC b)) 0 0 (zA nC b) := by
  refine Met.ofW (cc := cX3_pairNumber) (maxL := 5) (ret := (some .int)) (by decide) rfl ?_
  intro p e s m args below meth c s₁ B hml hv
  obtain ⟨hargs, hR0, hJ, hK⟩ := hv
  have hx := B.exec
  have hb := B.bytes
  have hr := B.returns
  have hts := atoms_spec (ws := .code yX3_pairNumber cX3_pairNumber 5 (some .int) :: zt) B.pre
  have hown : s.vm.findClass RX3 = some m.cls := findClass_of_methodNamed B.named
  have hlocks := B.notSynchronized
  have hS : zS D dA vwCl wC nC b (zms wC [2367, 2431]) M M s.heap := ⟨hR0, hJ, zF_rf _ _⟩
  have hS0 : va_S (zA nC b) s.heap s.heap [] := va_S.rf
  have hl := lv_entry ([.ref (b + 82), .int (iI i)]) (n := 5) (Nat.le_of_ble_eq_true rfl)
  have hent : entryFrame m args 5 = F0 m 0 ((lg_sl ([.ref (b + 82), .int (iI i)]) ++ List.replicate (5 - (lg_sl ([.ref (b + 82), .int (iI i)])).length) Slot.unset).toArray) [] := by rw [hargs]; exact lg_entry_eq m ([.ref (b + 82), .int (iI i)]) 5
  rw [hent]
  generalize (lg_sl ([.ref (b + 82), .int (iI i)]) ++ List.replicate (5 - (lg_sl ([.ref (b + 82), .int (iI i)])).length) Slot.unset).toArray = ls at hl ⊢
  have hl : lv_has ls 5 [(0, .ref (b + 82)), (1, .int (iI i))] := hl
  refine z_iconst hx hb dX3_pairNumber_0 ?_
  refine lv_istore_n (lv' := [(2, .int (iI 0)), (0, .ref (b + 82)), (1, .int (iI i))]) hx hb dX3_pairNumber_1 rfl hl (by decide) rfl (fun ls hl => ?_)
  refine z_iconst hx hb dX3_pairNumber_2 ?_
  refine lv_istore_n (lv' := [(3, .int (iI 2)), (2, .int (iI 0)), (0, .ref (b + 82)), (1, .int (iI i))]) hx hb dX3_pairNumber_3 rfl hl (by decide) rfl (fun ls hl => ?_)
  have L5 : ∀ (n3 : Nat) (f1 : Int) (sm2 : Int) (M6 : zM) (H : Heap) (locs : List Loc) (ls : Array Slot), (2147483648 - sm2).toNat ≤ n3 → R32 f1 → R32 sm2 → (2 ≤ sm2 ∧ sm2 ≤ 49) → (f1 = PF (sm2 - 2).toNat) → (i < 0 ∨ f1 ≤ i) → (0 ≤ f1 ∧ f1 ≤ 300) → zS D dA vwCl wC nC b (zms wC [2367, 2431]) M M6 H → va_S (zA nC b) s.heap H locs → lv_has ls 5 [(0, .ref (b + 82)), (1, .int (iI i)), (2, .int (iI f1)), (3, .int (iI sm2))] → W p l e (headSpec (.code yX3_pairNumber cX3_pairNumber 5 (some .int) :: zt) (z_rm 3)).room s m args below meth c H locs 0 0 (MQ below (va_Qi (zQi wC (zms wC [2367, 2431]) M (fun z M1 => PR i z)) (zB D dA vwCl wC nC b) (zA nC b)) args s 0 0 (zA nC b)) (F0 m 4 ls []) := by
    intro n3
    induction n3 with
    | zero =>
      intro f1 sm2 M6 H locs ls hm r_f1 r_sm2 i7 i8 i9 i10 hS hS0 hl
      exfalso
      omega
    | succ n3 ih4 =>
      intro f1 sm2 M6 H locs ls hm r_f1 r_sm2 i7 i8 i9 i10 hS hS0 hl
      have J11 := hS.2.1
      have F12 := hS.2.2
      refine lv_iload_n hx hb dX3_pairNumber_4 rfl (lv_at hl 3 rfl) ?_
      refine z_bipush hx hb (by decide) dX3_pairNumber_5 ?_
      refine z_icmp_gt (tgt := 73) hx hb r_sm2 (by decide) dX3_pairNumber_7 (by decide) (fun c13 => ?_) (fun c13 => ?_)
      · skip
        refine z_iconst hx hb dX3_pairNumber_73 ?_
        exact z_iret hx hb hr hlocks hS hS0 (by decide) (Or.inr ⟨by have e9 : (sm2 - 2).toNat = 47 := (by omega); have h9 := i8; rw [e9] at h9; omega, rfl⟩) dX3_pairNumber_74
      · skip
        refine z_iconst hx hb dX3_pairNumber_10 ?_
        refine lv_iload_n hx hb dX3_pairNumber_11 rfl (lv_at hl 3 rfl) ?_
        refine z_bipush hx hb (by decide) dX3_pairNumber_12 ?_
        refine z_isub hx hb dX3_pairNumber_14 ?_
        refine z_mmax hx hb (hml.trans hl.1.symm) hown (hts _ (z_mem k778)) (hts _ (z_mem k341)) (hts _ (z_mem k15)) (hts _ (z_mem k342)) (by exact Nat.le_of_ble_eq_true rfl) (by exact Nat.le_of_ble_eq_true rfl) (by exact Nat.le_refl _) (by exact Nat.le_refl _) (by decide) ⟨by omega, by omega⟩ dX3_pairNumber_15 ?_
        obtain ⟨z14, q15⟩ : ∃ z14 : Int, z14 = (max 1 (sm2 - 24)) := ⟨_, rfl⟩
        rw [← q15]
        refine lv_istore (lv' := [(4, .int (iI z14)), (0, .ref (b + 82)), (1, .int (iI i)), (2, .int (iI f1)), (3, .int (iI sm2))]) hx hb dX3_pairNumber_18 hl (by decide) rfl (fun ls hl => ?_)
        have L20 : ∀ (n18 : Nat) (f16 : Int) (pp17 : Int) (M21 : zM) (H : Heap) (locs : List Loc) (ls : Array Slot), (2147483648 - pp17).toNat ≤ n18 → R32 f16 → R32 pp17 → (PL sm2 ≤ pp17) → (2 * pp17 ≤ sm2 + 2) → (f16 = PF (sm2 - 2).toNat + (pp17 - PL sm2)) → (i < 0 ∨ f16 ≤ i) → (1 ≤ pp17) → (0 ≤ f16 ∧ f16 ≤ 300 + pp17) → zS D dA vwCl wC nC b (zms wC [2367, 2431]) M M21 H → va_S (zA nC b) s.heap H locs → lv_has ls 5 [(0, .ref (b + 82)), (1, .int (iI i)), (2, .int (iI f16)), (3, .int (iI sm2)), (4, .int (iI pp17))] → W p l e (headSpec (.code yX3_pairNumber cX3_pairNumber 5 (some .int) :: zt) (z_rm 3)).room s m args below meth c H locs 0 0 (MQ below (va_Qi (zQi wC (zms wC [2367, 2431]) M (fun z M1 => PR i z)) (zB D dA vwCl wC nC b) (zA nC b)) args s 0 0 (zA nC b)) (F0 m 20 ls []) := by
          intro n18
          induction n18 with
          | zero =>
            intro f16 pp17 M21 H locs ls hm r_f16 r_pp17 i22 i23 i24 i25 i26 i27 hS hS0 hl
            exfalso
            omega
          | succ n18 ih19 =>
            intro f16 pp17 M21 H locs ls hm r_f16 r_pp17 i22 i23 i24 i25 i26 i27 hS hS0 hl
            have J28 := hS.2.1
            have F29 := hS.2.2
            refine lv_iload hx hb dX3_pairNumber_20 (lv_at hl 4 rfl) ?_
            refine lv_iload_n hx hb dX3_pairNumber_22 rfl (lv_at hl 3 rfl) ?_
            refine lv_iload hx hb dX3_pairNumber_23 (lv_at hl 4 rfl) ?_
            refine z_isub hx hb dX3_pairNumber_25 ?_
            refine z_icmp_gt (tgt := 67) hx hb r_pp17 ⟨by omega, by omega⟩ dX3_pairNumber_26 (by decide) (fun c30 => ?_) (fun c30 => ?_)
            · skip
              refine z_iinc (lv' := [(3, .int (iI (sm2 + 1))), (0, .ref (b + 82)), (1, .int (iI i)), (2, .int (iI f16)), (4, .int (iI pp17))]) hx hb dX3_pairNumber_67 hl (k := 3) rfl (by decide) rfl (fun ls hl => ?_)
              refine lv_goto (tgt := 4) hx hb dX3_pairNumber_70 (by decide) ?_
              exact ih4 f16 (sm2 + 1) M21 _ _ _ (by omega) r_f16 ⟨by omega, by omega⟩ (by omega) (by rw [PF_s _ (by omega) (by omega)]; omega) (by omega) (by have q9 := PF_b ((sm2 + 1) - 2).toNat (by omega); rw [PF_s _ (by omega) (by omega)] at q9; omega) hS hS0 (lv_sub hl [1, 2, 3, 0] rfl)
            · skip
              refine lv_aload_n hx hb dX3_pairNumber_29 rfl (lv_at hl 0 rfl) ?_
              refine lv_iload hx hb dX3_pairNumber_30 (lv_at hl 4 rfl) ?_
              refine lv_iload_n hx hb dX3_pairNumber_32 rfl (lv_at hl 3 rfl) ?_
              refine lv_iload hx hb dX3_pairNumber_33 (lv_at hl 4 rfl) ?_
              refine z_isub hx hb dX3_pairNumber_35 ?_
              refine z_calli (va_runV (As := [.int (iI pp17), .int (iI (sm2 - pp17))]) (rest := []) ⟨hx, hb, hml, hown, hts⟩ (n_pairFits l D dA b M21 pp17 (sm2 - pp17) r_pp17 ⟨by omega, by omega⟩ (by rw [F29 _ _ (zms_not (rfl : zcd wC 82 = 34) rfl), g0])) (cwV 2 hts (z_gV k779 k780 k1386 k11 k781) rfl rfl rfl dm_X3_pairFits ⟨Nat.le_of_ble_eq_true rfl, Nat.le_of_ble_eq_true rfl⟩) ⟨zP_blind, (z_recv hS hK.1 (by decide) (zkd_of (rfl : zcd wC 82 = 34) rfl) (by decide) (rfl : vwCl[3]? = some (RX3, TX3, 4))), z_pre hS hK⟩ rfl rfl hl.1 rfl (lv_room (Nat.le_of_ble_eq_true rfl)) dX3_pairNumber_36 ⟨Nat.le_refl _, Nat.le_refl _⟩) hS hS0 (zms_sub rfl) (fun z35 M31 H locs r36 h32 F33 hS hS0 => ?_)
              have J34 := hS.2.1
              have h37 := h32
              obtain ⟨z35e, h37⟩ := h37
              subst z35e
              refine z_if_eq (tgt := 61) hx hb (by decide) dX3_pairNumber_39 (by decide) (fun c38 => absurd c38 (by decide)) (fun c38 => ?_)
              refine lv_iload_n hx hb dX3_pairNumber_42 rfl (lv_at hl 2 rfl) ?_
              refine lv_iload_n hx hb dX3_pairNumber_43 rfl (lv_at hl 1 rfl) ?_
              refine z_icmp_ne (tgt := 58) hx hb r_f16 r_i dX3_pairNumber_44 (by decide) (fun c39 => ?_) (fun c39 => ?_)
              · skip
                refine z_iinc (lv' := [(2, .int (iI (f16 + 1))), (0, .ref (b + 82)), (1, .int (iI i)), (3, .int (iI sm2)), (4, .int (iI pp17))]) hx hb dX3_pairNumber_58 hl (k := 2) rfl (by decide) rfl (fun ls hl => ?_)
                refine z_iinc (lv' := [(4, .int (iI (pp17 + 1))), (2, .int (iI (f16 + 1))), (0, .ref (b + 82)), (1, .int (iI i)), (3, .int (iI sm2))]) hx hb dX3_pairNumber_61 hl (k := 4) rfl (by decide) rfl (fun ls hl => ?_)
                refine lv_goto (tgt := 20) hx hb dX3_pairNumber_64 (by decide) ?_
                exact ih19 (f16 + 1) (pp17 + 1) M31 _ _ _ (by omega) ⟨by omega, by omega⟩ ⟨by omega, by omega⟩ (by first | omega | (unfold PL; omega)) (by omega) (by first | omega | (unfold PL; omega)) (by omega) (by omega) (by omega) hS hS0 (lv_sub hl [2, 3, 1, 4, 0] rfl)
              · skip
                refine z_bipush hx hb (by decide) dX3_pairNumber_47 ?_
                refine lv_iload hx hb dX3_pairNumber_49 (lv_at hl 4 rfl) ?_
                refine z_imul hx hb dX3_pairNumber_51 ?_
                refine lv_iload_n hx hb dX3_pairNumber_52 rfl (lv_at hl 3 rfl) ?_
                refine z_iadd hx hb dX3_pairNumber_53 ?_
                refine lv_iload hx hb dX3_pairNumber_54 (lv_at hl 4 rfl) ?_
                refine z_isub hx hb dX3_pairNumber_56 ?_
                exact z_iret hx hb hr hlocks hS hS0 ⟨by omega, by omega⟩ (Or.inl ⟨sm2, pp17, by omega, by omega, by omega, by omega, by omega, by omega⟩) dX3_pairNumber_57
        exact L20 _ f1 z14 M6 _ _ _ (Nat.le_refl _) r_f1 ⟨by omega, by omega⟩ (by first | omega | (unfold PL; omega)) (by omega) (by first | omega | (unfold PL; omega)) (by omega) (by omega) (by omega) hS hS0 (lv_sub hl [1, 2, 3, 4, 0] rfl)
  exact L5 _ 0 2 M _ _ _ (Nat.le_refl _) (by decide) (by decide) (by omega) rfl (by omega) (by omega) hS hS0 (lv_sub hl [2, 3, 1, 0] rfl)
end
