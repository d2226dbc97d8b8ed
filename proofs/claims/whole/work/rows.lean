section
/-- a private method of a class that the tables say can be made, by its rows of tables_1 -/
def lw_okq (q : MethodName × Nat) : Prop := (q.1.cls ≠ "java/lang/invoke/MethodHandle" ∧ q.1.cls ≠ "java/lang/invoke/VarHandle") ∧ Cond.instantiable q.1.cls q.2 ∈ tables_1 ∧ Cond.privateMethod q.1 ∈ tables_1 ∧ Cond.instanceMethod q.1 ∈ tables_1
theorem lw_p0 : lw_okq (⟨"ClockPost", "found", "(I)I"⟩, 9) := ⟨⟨by decide +kernel, by decide +kernel⟩, List.mem_of_getElem? (i := 15) (by decide +kernel), List.mem_of_getElem? (i := 250) (by decide +kernel), List.mem_of_getElem? (i := 251) (by decide +kernel)⟩
theorem lw_p1 : lw_okq (⟨"ClockPost", "foundNothing", "(I)I"⟩, 9) := ⟨⟨by decide +kernel, by decide +kernel⟩, List.mem_of_getElem? (i := 15) (by decide +kernel), List.mem_of_getElem? (i := 262) (by decide +kernel), List.mem_of_getElem? (i := 263) (by decide +kernel)⟩
theorem lw_p2 : lw_okq (⟨"ClockPost$Tape", "readLaw", "(LClockPost$House;)Z"⟩, 5) := ⟨⟨by decide +kernel, by decide +kernel⟩, List.mem_of_getElem? (i := 25) (by decide +kernel), List.mem_of_getElem? (i := 311) (by decide +kernel), List.mem_of_getElem? (i := 312) (by decide +kernel)⟩
theorem lw_p3 : lw_okq (⟨"ClockPost$Tape", "readSign", "(C)Z"⟩, 5) := ⟨⟨by decide +kernel, by decide +kernel⟩, List.mem_of_getElem? (i := 25) (by decide +kernel), List.mem_of_getElem? (i := 315) (by decide +kernel), List.mem_of_getElem? (i := 316) (by decide +kernel)⟩
theorem lw_p4 : lw_okq (⟨"ClockPost$Tape", "byteAt", "(I)I"⟩, 5) := ⟨⟨by decide +kernel, by decide +kernel⟩, List.mem_of_getElem? (i := 25) (by decide +kernel), List.mem_of_getElem? (i := 319) (by decide +kernel), List.mem_of_getElem? (i := 320) (by decide +kernel)⟩
theorem lw_p5 : lw_okq (⟨"ClockPost$Tape", "fail", "(I)Z"⟩, 5) := ⟨⟨by decide +kernel, by decide +kernel⟩, List.mem_of_getElem? (i := 25) (by decide +kernel), List.mem_of_getElem? (i := 323) (by decide +kernel), List.mem_of_getElem? (i := 324) (by decide +kernel)⟩
theorem lw_p6 : lw_okq (⟨"ClockPost$Tape", "readNumber", "(II)Z"⟩, 5) := ⟨⟨by decide +kernel, by decide +kernel⟩, List.mem_of_getElem? (i := 25) (by decide +kernel), List.mem_of_getElem? (i := 327) (by decide +kernel), List.mem_of_getElem? (i := 328) (by decide +kernel)⟩
theorem lw_p7 : lw_okq (⟨"ClockPost$Tape", "readLetters", "(LClockPost$House;)Z"⟩, 5) := ⟨⟨by decide +kernel, by decide +kernel⟩, List.mem_of_getElem? (i := 25) (by decide +kernel), List.mem_of_getElem? (i := 335) (by decide +kernel), List.mem_of_getElem? (i := 336) (by decide +kernel)⟩
theorem lw_p8 : lw_okq (⟨"ClockPost$Tape", "readLetter", "(LClockPost$House;)Z"⟩, 5) := ⟨⟨by decide +kernel, by decide +kernel⟩, List.mem_of_getElem? (i := 25) (by decide +kernel), List.mem_of_getElem? (i := 339) (by decide +kernel), List.mem_of_getElem? (i := 340) (by decide +kernel)⟩
theorem lw_p9 : lw_okq (⟨"ClockPost$Tape", "readFigures", "(LClockPost$Letter;)Z"⟩, 5) := ⟨⟨by decide +kernel, by decide +kernel⟩, List.mem_of_getElem? (i := 25) (by decide +kernel), List.mem_of_getElem? (i := 346) (by decide +kernel), List.mem_of_getElem? (i := 347) (by decide +kernel)⟩
theorem lw_p10 : lw_okq (⟨"ClockPost$House", "nextToFall", "()I"⟩, 8) := ⟨⟨by decide +kernel, by decide +kernel⟩, List.mem_of_getElem? (i := 51) (by decide +kernel), List.mem_of_getElem? (i := 415) (by decide +kernel), List.mem_of_getElem? (i := 416) (by decide +kernel)⟩
theorem lw_p11 : lw_okq (⟨"ClockPost$House", "takeAway", "(II)V"⟩, 8) := ⟨⟨by decide +kernel, by decide +kernel⟩, List.mem_of_getElem? (i := 51) (by decide +kernel), List.mem_of_getElem? (i := 423) (by decide +kernel), List.mem_of_getElem? (i := 424) (by decide +kernel)⟩
theorem lw_p12 : lw_okq (⟨"ClockPost", "refusalOf", "(Z)I"⟩, 9) := ⟨⟨by decide +kernel, by decide +kernel⟩, List.mem_of_getElem? (i := 15) (by decide +kernel), List.mem_of_getElem? (i := 467) (by decide +kernel), List.mem_of_getElem? (i := 468) (by decide +kernel)⟩
theorem lw_p13 : lw_okq (⟨"ClockPost", "foretell", "(I)LClockPost$House;"⟩, 9) := ⟨⟨by decide +kernel, by decide +kernel⟩, List.mem_of_getElem? (i := 15) (by decide +kernel), List.mem_of_getElem? (i := 471) (by decide +kernel), List.mem_of_getElem? (i := 472) (by decide +kernel)⟩
theorem lw_p14 : lw_okq (⟨"ClockPost", "isSmallerPart", "(II)Z"⟩, 9) := ⟨⟨by decide +kernel, by decide +kernel⟩, List.mem_of_getElem? (i := 15) (by decide +kernel), List.mem_of_getElem? (i := 511) (by decide +kernel), List.mem_of_getElem? (i := 512) (by decide +kernel)⟩
theorem lw_p15 : lw_okq (⟨"ClockPost", "nothingFallsWithout", "(II)Z"⟩, 9) := ⟨⟨by decide +kernel, by decide +kernel⟩, List.mem_of_getElem? (i := 15) (by decide +kernel), List.mem_of_getElem? (i := 515) (by decide +kernel), List.mem_of_getElem? (i := 516) (by decide +kernel)⟩
def lw_privs_1 : List (MethodName × Nat) := [(⟨"ClockPost", "found", "(I)I"⟩, 9), (⟨"ClockPost", "foundNothing", "(I)I"⟩, 9), (⟨"ClockPost$Tape", "readLaw", "(LClockPost$House;)Z"⟩, 5), (⟨"ClockPost$Tape", "readSign", "(C)Z"⟩, 5), (⟨"ClockPost$Tape", "byteAt", "(I)I"⟩, 5), (⟨"ClockPost$Tape", "fail", "(I)Z"⟩, 5), (⟨"ClockPost$Tape", "readNumber", "(II)Z"⟩, 5), (⟨"ClockPost$Tape", "readLetters", "(LClockPost$House;)Z"⟩, 5), (⟨"ClockPost$Tape", "readLetter", "(LClockPost$House;)Z"⟩, 5), (⟨"ClockPost$Tape", "readFigures", "(LClockPost$Letter;)Z"⟩, 5), (⟨"ClockPost$House", "nextToFall", "()I"⟩, 8), (⟨"ClockPost$House", "takeAway", "(II)V"⟩, 8), (⟨"ClockPost", "refusalOf", "(Z)I"⟩, 9), (⟨"ClockPost", "foretell", "(I)LClockPost$House;"⟩, 9), (⟨"ClockPost", "isSmallerPart", "(II)Z"⟩, 9), (⟨"ClockPost", "nothingFallsWithout", "(II)Z"⟩, 9)]
theorem lw_r1 : ∀ q ∈ lw_privs_1, lw_okq q := List.forall_mem_cons.mpr ⟨lw_p0, List.forall_mem_cons.mpr ⟨lw_p1, List.forall_mem_cons.mpr ⟨lw_p2, List.forall_mem_cons.mpr ⟨lw_p3, List.forall_mem_cons.mpr ⟨lw_p4, List.forall_mem_cons.mpr ⟨lw_p5, List.forall_mem_cons.mpr ⟨lw_p6, List.forall_mem_cons.mpr ⟨lw_p7, List.forall_mem_cons.mpr ⟨lw_p8, List.forall_mem_cons.mpr ⟨lw_p9, List.forall_mem_cons.mpr ⟨lw_p10, List.forall_mem_cons.mpr ⟨lw_p11, List.forall_mem_cons.mpr ⟨lw_p12, List.forall_mem_cons.mpr ⟨lw_p13, List.forall_mem_cons.mpr ⟨lw_p14, List.forall_mem_cons.mpr ⟨lw_p15, fun _ h => absurd h List.not_mem_nil⟩⟩⟩⟩⟩⟩⟩⟩⟩⟩⟩⟩⟩⟩⟩⟩
theorem lw_p16 : lw_okq (⟨"ClockPost", "foretellWithout", "(I)V"⟩, 9) := ⟨⟨by decide +kernel, by decide +kernel⟩, List.mem_of_getElem? (i := 15) (by decide +kernel), List.mem_of_getElem? (i := 519) (by decide +kernel), List.mem_of_getElem? (i := 520) (by decide +kernel)⟩
theorem lw_p17 : lw_okq (⟨"ClockPost", "staysEasyWithout", "(III)Z"⟩, 9) := ⟨⟨by decide +kernel, by decide +kernel⟩, List.mem_of_getElem? (i := 15) (by decide +kernel), List.mem_of_getElem? (i := 527) (by decide +kernel), List.mem_of_getElem? (i := 528) (by decide +kernel)⟩
theorem lw_p18 : lw_okq (⟨"ClockPost", "isToldBy", "(LClockPost$Row;II)Z"⟩, 9) := ⟨⟨by decide +kernel, by decide +kernel⟩, List.mem_of_getElem? (i := 15) (by decide +kernel), List.mem_of_getElem? (i := 548) (by decide +kernel), List.mem_of_getElem? (i := 549) (by decide +kernel)⟩
theorem lw_p19 : lw_okq (⟨"ClockPost", "rowsThere", "()I"⟩, 9) := ⟨⟨by decide +kernel, by decide +kernel⟩, List.mem_of_getElem? (i := 15) (by decide +kernel), List.mem_of_getElem? (i := 637) (by decide +kernel), List.mem_of_getElem? (i := 638) (by decide +kernel)⟩
theorem lw_p20 : lw_okq (⟨"ClockPostModel", "find", "(I)I"⟩, 18) := ⟨⟨by decide +kernel, by decide +kernel⟩, List.mem_of_getElem? (i := 645) (by decide +kernel), List.mem_of_getElem? (i := 720) (by decide +kernel), List.mem_of_getElem? (i := 721) (by decide +kernel)⟩
theorem lw_p21 : lw_okq (⟨"ClockPostModel", "well", "(I)I"⟩, 18) := ⟨⟨by decide +kernel, by decide +kernel⟩, List.mem_of_getElem? (i := 645) (by decide +kernel), List.mem_of_getElem? (i := 725) (by decide +kernel), List.mem_of_getElem? (i := 726) (by decide +kernel)⟩
theorem lw_p22 : lw_okq (⟨"ClockPostModel", "isSpan", "(III)Z"⟩, 18) := ⟨⟨by decide +kernel, by decide +kernel⟩, List.mem_of_getElem? (i := 645) (by decide +kernel), List.mem_of_getElem? (i := 740) (by decide +kernel), List.mem_of_getElem? (i := 741) (by decide +kernel)⟩
theorem lw_p23 : lw_okq (⟨"ClockPostModel", "reads", "()Z"⟩, 18) := ⟨⟨by decide +kernel, by decide +kernel⟩, List.mem_of_getElem? (i := 645) (by decide +kernel), List.mem_of_getElem? (i := 758) (by decide +kernel), List.mem_of_getElem? (i := 759) (by decide +kernel)⟩
theorem lw_p24 : lw_okq (⟨"ClockPostModel", "readsLaw", "()Z"⟩, 18) := ⟨⟨by decide +kernel, by decide +kernel⟩, List.mem_of_getElem? (i := 645) (by decide +kernel), List.mem_of_getElem? (i := 762) (by decide +kernel), List.mem_of_getElem? (i := 763) (by decide +kernel)⟩
theorem lw_p25 : lw_okq (⟨"ClockPostModel", "sign", "(I)Z"⟩, 18) := ⟨⟨by decide +kernel, by decide +kernel⟩, List.mem_of_getElem? (i := 645) (by decide +kernel), List.mem_of_getElem? (i := 766) (by decide +kernel), List.mem_of_getElem? (i := 767) (by decide +kernel)⟩
theorem lw_p26 : lw_okq (⟨"ClockPostModel", "isLetter", "(I)Z"⟩, 18) := ⟨⟨by decide +kernel, by decide +kernel⟩, List.mem_of_getElem? (i := 645) (by decide +kernel), List.mem_of_getElem? (i := 770) (by decide +kernel), List.mem_of_getElem? (i := 771) (by decide +kernel)⟩
theorem lw_p27 : lw_okq (⟨"ClockPostModel", "refuse", "(I)Z"⟩, 18) := ⟨⟨by decide +kernel, by decide +kernel⟩, List.mem_of_getElem? (i := 645) (by decide +kernel), List.mem_of_getElem? (i := 774) (by decide +kernel), List.mem_of_getElem? (i := 775) (by decide +kernel)⟩
theorem lw_p28 : lw_okq (⟨"ClockPostModel", "readsNumber", "(II)Z"⟩, 18) := ⟨⟨by decide +kernel, by decide +kernel⟩, List.mem_of_getElem? (i := 645) (by decide +kernel), List.mem_of_getElem? (i := 778) (by decide +kernel), List.mem_of_getElem? (i := 779) (by decide +kernel)⟩
theorem lw_p29 : lw_okq (⟨"ClockPostModel", "isFigure", "(I)Z"⟩, 18) := ⟨⟨by decide +kernel, by decide +kernel⟩, List.mem_of_getElem? (i := 645) (by decide +kernel), List.mem_of_getElem? (i := 782) (by decide +kernel), List.mem_of_getElem? (i := 783) (by decide +kernel)⟩
theorem lw_p30 : lw_okq (⟨"ClockPostModel", "isSort", "()Z"⟩, 18) := ⟨⟨by decide +kernel, by decide +kernel⟩, List.mem_of_getElem? (i := 645) (by decide +kernel), List.mem_of_getElem? (i := 788) (by decide +kernel), List.mem_of_getElem? (i := 789) (by decide +kernel)⟩
theorem lw_p31 : lw_okq (⟨"ClockPostModel", "readsLetter", "()Z"⟩, 18) := ⟨⟨by decide +kernel, by decide +kernel⟩, List.mem_of_getElem? (i := 645) (by decide +kernel), List.mem_of_getElem? (i := 795) (by decide +kernel), List.mem_of_getElem? (i := 796) (by decide +kernel)⟩
def lw_privs_2 : List (MethodName × Nat) := [(⟨"ClockPost", "foretellWithout", "(I)V"⟩, 9), (⟨"ClockPost", "staysEasyWithout", "(III)Z"⟩, 9), (⟨"ClockPost", "isToldBy", "(LClockPost$Row;II)Z"⟩, 9), (⟨"ClockPost", "rowsThere", "()I"⟩, 9), (⟨"ClockPostModel", "find", "(I)I"⟩, 18), (⟨"ClockPostModel", "well", "(I)I"⟩, 18), (⟨"ClockPostModel", "isSpan", "(III)Z"⟩, 18), (⟨"ClockPostModel", "reads", "()Z"⟩, 18), (⟨"ClockPostModel", "readsLaw", "()Z"⟩, 18), (⟨"ClockPostModel", "sign", "(I)Z"⟩, 18), (⟨"ClockPostModel", "isLetter", "(I)Z"⟩, 18), (⟨"ClockPostModel", "refuse", "(I)Z"⟩, 18), (⟨"ClockPostModel", "readsNumber", "(II)Z"⟩, 18), (⟨"ClockPostModel", "isFigure", "(I)Z"⟩, 18), (⟨"ClockPostModel", "isSort", "()Z"⟩, 18), (⟨"ClockPostModel", "readsLetter", "()Z"⟩, 18)]
theorem lw_r2 : ∀ q ∈ lw_privs_2, lw_okq q := List.forall_mem_cons.mpr ⟨lw_p16, List.forall_mem_cons.mpr ⟨lw_p17, List.forall_mem_cons.mpr ⟨lw_p18, List.forall_mem_cons.mpr ⟨lw_p19, List.forall_mem_cons.mpr ⟨lw_p20, List.forall_mem_cons.mpr ⟨lw_p21, List.forall_mem_cons.mpr ⟨lw_p22, List.forall_mem_cons.mpr ⟨lw_p23, List.forall_mem_cons.mpr ⟨lw_p24, List.forall_mem_cons.mpr ⟨lw_p25, List.forall_mem_cons.mpr ⟨lw_p26, List.forall_mem_cons.mpr ⟨lw_p27, List.forall_mem_cons.mpr ⟨lw_p28, List.forall_mem_cons.mpr ⟨lw_p29, List.forall_mem_cons.mpr ⟨lw_p30, List.forall_mem_cons.mpr ⟨lw_p31, fun _ h => absurd h List.not_mem_nil⟩⟩⟩⟩⟩⟩⟩⟩⟩⟩⟩⟩⟩⟩⟩⟩
theorem lw_p32 : lw_okq (⟨"ClockPostModel", "copyTown", "(II)V"⟩, 18) := ⟨⟨by decide +kernel, by decide +kernel⟩, List.mem_of_getElem? (i := 645) (by decide +kernel), List.mem_of_getElem? (i := 800) (by decide +kernel), List.mem_of_getElem? (i := 801) (by decide +kernel)⟩
theorem lw_p33 : lw_okq (⟨"ClockPostModel", "keepPast", "()V"⟩, 18) := ⟨⟨by decide +kernel, by decide +kernel⟩, List.mem_of_getElem? (i := 645) (by decide +kernel), List.mem_of_getElem? (i := 818) (by decide +kernel), List.mem_of_getElem? (i := 819) (by decide +kernel)⟩
theorem lw_p34 : lw_okq (⟨"ClockPostModel", "pass", "(I)I"⟩, 18) := ⟨⟨by decide +kernel, by decide +kernel⟩, List.mem_of_getElem? (i := 645) (by decide +kernel), List.mem_of_getElem? (i := 822) (by decide +kernel), List.mem_of_getElem? (i := 823) (by decide +kernel)⟩
theorem lw_p35 : lw_okq (⟨"ClockPostModel", "burdenAt", "(I)I"⟩, 18) := ⟨⟨by decide +kernel, by decide +kernel⟩, List.mem_of_getElem? (i := 645) (by decide +kernel), List.mem_of_getElem? (i := 826) (by decide +kernel), List.mem_of_getElem? (i := 827) (by decide +kernel)⟩
theorem lw_p36 : lw_okq (⟨"ClockPostModel", "weighs", "(II)I"⟩, 18) := ⟨⟨by decide +kernel, by decide +kernel⟩, List.mem_of_getElem? (i := 645) (by decide +kernel), List.mem_of_getElem? (i := 830) (by decide +kernel), List.mem_of_getElem? (i := 831) (by decide +kernel)⟩
theorem lw_p37 : lw_okq (⟨"ClockPostModel", "nextToFall", "(I)I"⟩, 18) := ⟨⟨by decide +kernel, by decide +kernel⟩, List.mem_of_getElem? (i := 645) (by decide +kernel), List.mem_of_getElem? (i := 843) (by decide +kernel), List.mem_of_getElem? (i := 844) (by decide +kernel)⟩
theorem lw_p38 : lw_okq (⟨"ClockPostModel", "fallsAhead", "(III)Z"⟩, 18) := ⟨⟨by decide +kernel, by decide +kernel⟩, List.mem_of_getElem? (i := 645) (by decide +kernel), List.mem_of_getElem? (i := 848) (by decide +kernel), List.mem_of_getElem? (i := 849) (by decide +kernel)⟩
theorem lw_p39 : lw_okq (⟨"ClockPostModel", "thickness", "(I)I"⟩, 18) := ⟨⟨by decide +kernel, by decide +kernel⟩, List.mem_of_getElem? (i := 645) (by decide +kernel), List.mem_of_getElem? (i := 852) (by decide +kernel), List.mem_of_getElem? (i := 853) (by decide +kernel)⟩
theorem lw_p40 : lw_okq (⟨"ClockPostModel", "away", "(III)V"⟩, 18) := ⟨⟨by decide +kernel, by decide +kernel⟩, List.mem_of_getElem? (i := 645) (by decide +kernel), List.mem_of_getElem? (i := 856) (by decide +kernel), List.mem_of_getElem? (i := 857) (by decide +kernel)⟩
theorem lw_p41 : lw_okq (⟨"ClockPostModel", "isLetterThere", "(I)Z"⟩, 18) := ⟨⟨by decide +kernel, by decide +kernel⟩, List.mem_of_getElem? (i := 645) (by decide +kernel), List.mem_of_getElem? (i := 864) (by decide +kernel), List.mem_of_getElem? (i := 865) (by decide +kernel)⟩
theorem lw_p42 : lw_okq (⟨"ClockPostModel", "answers", "(II)V"⟩, 18) := ⟨⟨by decide +kernel, by decide +kernel⟩, List.mem_of_getElem? (i := 645) (by decide +kernel), List.mem_of_getElem? (i := 868) (by decide +kernel), List.mem_of_getElem? (i := 869) (by decide +kernel)⟩
theorem lw_p43 : lw_okq (⟨"ClockPostModel", "posts", "(II)V"⟩, 18) := ⟨⟨by decide +kernel, by decide +kernel⟩, List.mem_of_getElem? (i := 645) (by decide +kernel), List.mem_of_getElem? (i := 876) (by decide +kernel), List.mem_of_getElem? (i := 877) (by decide +kernel)⟩
theorem lw_p44 : lw_okq (⟨"ClockPostModel", "noDays", "(I)I"⟩, 18) := ⟨⟨by decide +kernel, by decide +kernel⟩, List.mem_of_getElem? (i := 645) (by decide +kernel), List.mem_of_getElem? (i := 893) (by decide +kernel), List.mem_of_getElem? (i := 894) (by decide +kernel)⟩
theorem lw_p45 : lw_okq (⟨"ClockPostModel", "layTried", "()V"⟩, 18) := ⟨⟨by decide +kernel, by decide +kernel⟩, List.mem_of_getElem? (i := 645) (by decide +kernel), List.mem_of_getElem? (i := 898) (by decide +kernel), List.mem_of_getElem? (i := 899) (by decide +kernel)⟩
theorem lw_p46 : lw_okq (⟨"ClockPostModel", "passes", "(II)V"⟩, 18) := ⟨⟨by decide +kernel, by decide +kernel⟩, List.mem_of_getElem? (i := 645) (by decide +kernel), List.mem_of_getElem? (i := 902) (by decide +kernel), List.mem_of_getElem? (i := 903) (by decide +kernel)⟩
theorem lw_p47 : lw_okq (⟨"ClockPostModel", "growsBy", "(I)I"⟩, 18) := ⟨⟨by decide +kernel, by decide +kernel⟩, List.mem_of_getElem? (i := 645) (by decide +kernel), List.mem_of_getElem? (i := 924) (by decide +kernel), List.mem_of_getElem? (i := 925) (by decide +kernel)⟩
def lw_privs_3 : List (MethodName × Nat) := [(⟨"ClockPostModel", "copyTown", "(II)V"⟩, 18), (⟨"ClockPostModel", "keepPast", "()V"⟩, 18), (⟨"ClockPostModel", "pass", "(I)I"⟩, 18), (⟨"ClockPostModel", "burdenAt", "(I)I"⟩, 18), (⟨"ClockPostModel", "weighs", "(II)I"⟩, 18), (⟨"ClockPostModel", "nextToFall", "(I)I"⟩, 18), (⟨"ClockPostModel", "fallsAhead", "(III)Z"⟩, 18), (⟨"ClockPostModel", "thickness", "(I)I"⟩, 18), (⟨"ClockPostModel", "away", "(III)V"⟩, 18), (⟨"ClockPostModel", "isLetterThere", "(I)Z"⟩, 18), (⟨"ClockPostModel", "answers", "(II)V"⟩, 18), (⟨"ClockPostModel", "posts", "(II)V"⟩, 18), (⟨"ClockPostModel", "noDays", "(I)I"⟩, 18), (⟨"ClockPostModel", "layTried", "()V"⟩, 18), (⟨"ClockPostModel", "passes", "(II)V"⟩, 18), (⟨"ClockPostModel", "growsBy", "(I)I"⟩, 18)]
theorem lw_r3 : ∀ q ∈ lw_privs_3, lw_okq q := List.forall_mem_cons.mpr ⟨lw_p32, List.forall_mem_cons.mpr ⟨lw_p33, List.forall_mem_cons.mpr ⟨lw_p34, List.forall_mem_cons.mpr ⟨lw_p35, List.forall_mem_cons.mpr ⟨lw_p36, List.forall_mem_cons.mpr ⟨lw_p37, List.forall_mem_cons.mpr ⟨lw_p38, List.forall_mem_cons.mpr ⟨lw_p39, List.forall_mem_cons.mpr ⟨lw_p40, List.forall_mem_cons.mpr ⟨lw_p41, List.forall_mem_cons.mpr ⟨lw_p42, List.forall_mem_cons.mpr ⟨lw_p43, List.forall_mem_cons.mpr ⟨lw_p44, List.forall_mem_cons.mpr ⟨lw_p45, List.forall_mem_cons.mpr ⟨lw_p46, List.forall_mem_cons.mpr ⟨lw_p47, fun _ h => absurd h List.not_mem_nil⟩⟩⟩⟩⟩⟩⟩⟩⟩⟩⟩⟩⟩⟩⟩⟩
theorem lw_p48 : lw_okq (⟨"ClockPostModel", "nextLine", "(I)Z"⟩, 18) := ⟨⟨by decide +kernel, by decide +kernel⟩, List.mem_of_getElem? (i := 645) (by decide +kernel), List.mem_of_getElem? (i := 928) (by decide +kernel), List.mem_of_getElem? (i := 929) (by decide +kernel)⟩
theorem lw_p49 : lw_okq (⟨"ClockPostModel", "swapLine", "(II)V"⟩, 18) := ⟨⟨by decide +kernel, by decide +kernel⟩, List.mem_of_getElem? (i := 645) (by decide +kernel), List.mem_of_getElem? (i := 932) (by decide +kernel), List.mem_of_getElem? (i := 933) (by decide +kernel)⟩
theorem lw_p50 : lw_okq (⟨"ClockPostModel", "fewest", "(II)I"⟩, 18) := ⟨⟨by decide +kernel, by decide +kernel⟩, List.mem_of_getElem? (i := 645) (by decide +kernel), List.mem_of_getElem? (i := 940) (by decide +kernel), List.mem_of_getElem? (i := 941) (by decide +kernel)⟩
theorem lw_p51 : lw_okq (⟨"ClockPostModel", "holds", "(II)Z"⟩, 18) := ⟨⟨by decide +kernel, by decide +kernel⟩, List.mem_of_getElem? (i := 645) (by decide +kernel), List.mem_of_getElem? (i := 944) (by decide +kernel), List.mem_of_getElem? (i := 945) (by decide +kernel)⟩
theorem lw_p52 : lw_okq (⟨"ClockPostModel", "answersAll", "(I)V"⟩, 18) := ⟨⟨by decide +kernel, by decide +kernel⟩, List.mem_of_getElem? (i := 645) (by decide +kernel), List.mem_of_getElem? (i := 948) (by decide +kernel), List.mem_of_getElem? (i := 949) (by decide +kernel)⟩
theorem lw_p53 : lw_okq (⟨"ClockPostModel", "eases", "(III)Z"⟩, 18) := ⟨⟨by decide +kernel, by decide +kernel⟩, List.mem_of_getElem? (i := 645) (by decide +kernel), List.mem_of_getElem? (i := 952) (by decide +kernel), List.mem_of_getElem? (i := 953) (by decide +kernel)⟩
theorem lw_p54 : lw_okq (⟨"ClockPostModel", "noItems", "(III)I"⟩, 18) := ⟨⟨by decide +kernel, by decide +kernel⟩, List.mem_of_getElem? (i := 645) (by decide +kernel), List.mem_of_getElem? (i := 966) (by decide +kernel), List.mem_of_getElem? (i := 967) (by decide +kernel)⟩
theorem lw_p55 : lw_okq (⟨"ClockPostModel", "isSo", "(III)Z"⟩, 18) := ⟨⟨by decide +kernel, by decide +kernel⟩, List.mem_of_getElem? (i := 645) (by decide +kernel), List.mem_of_getElem? (i := 970) (by decide +kernel), List.mem_of_getElem? (i := 971) (by decide +kernel)⟩
theorem lw_p56 : lw_okq (⟨"ClockPostModel", "isOf", "(II)Z"⟩, 18) := ⟨⟨by decide +kernel, by decide +kernel⟩, List.mem_of_getElem? (i := 645) (by decide +kernel), List.mem_of_getElem? (i := 1007) (by decide +kernel), List.mem_of_getElem? (i := 1008) (by decide +kernel)⟩
theorem lw_p57 : lw_okq (⟨"ClockPostModel", "sizeOf", "(I)I"⟩, 18) := ⟨⟨by decide +kernel, by decide +kernel⟩, List.mem_of_getElem? (i := 645) (by decide +kernel), List.mem_of_getElem? (i := 1015) (by decide +kernel), List.mem_of_getElem? (i := 1016) (by decide +kernel)⟩
theorem lw_p58 : lw_okq (⟨"ClockPostModel", "begin", "(I)V"⟩, 18) := ⟨⟨by decide +kernel, by decide +kernel⟩, List.mem_of_getElem? (i := 645) (by decide +kernel), List.mem_of_getElem? (i := 1019) (by decide +kernel), List.mem_of_getElem? (i := 1020) (by decide +kernel)⟩
theorem lw_p59 : lw_okq (⟨"ClockPostModel", "billSize", "(I)I"⟩, 18) := ⟨⟨by decide +kernel, by decide +kernel⟩, List.mem_of_getElem? (i := 645) (by decide +kernel), List.mem_of_getElem? (i := 1023) (by decide +kernel), List.mem_of_getElem? (i := 1024) (by decide +kernel)⟩
theorem lw_p60 : lw_okq (⟨"ClockPostModel", "lentSize", "(I)I"⟩, 18) := ⟨⟨by decide +kernel, by decide +kernel⟩, List.mem_of_getElem? (i := 645) (by decide +kernel), List.mem_of_getElem? (i := 1027) (by decide +kernel), List.mem_of_getElem? (i := 1028) (by decide +kernel)⟩
theorem lw_p61 : lw_okq (⟨"ClockPostModel", "mark", "(I)I"⟩, 18) := ⟨⟨by decide +kernel, by decide +kernel⟩, List.mem_of_getElem? (i := 645) (by decide +kernel), List.mem_of_getElem? (i := 1031) (by decide +kernel), List.mem_of_getElem? (i := 1032) (by decide +kernel)⟩
theorem lw_p62 : lw_okq (⟨"ClockPostModel", "billMark", "(I)I"⟩, 18) := ⟨⟨by decide +kernel, by decide +kernel⟩, List.mem_of_getElem? (i := 645) (by decide +kernel), List.mem_of_getElem? (i := 1035) (by decide +kernel), List.mem_of_getElem? (i := 1036) (by decide +kernel)⟩
theorem lw_p63 : lw_okq (⟨"ClockPostModel", "lentMark", "(I)I"⟩, 18) := ⟨⟨by decide +kernel, by decide +kernel⟩, List.mem_of_getElem? (i := 645) (by decide +kernel), List.mem_of_getElem? (i := 1039) (by decide +kernel), List.mem_of_getElem? (i := 1040) (by decide +kernel)⟩
def lw_privs_4 : List (MethodName × Nat) := [(⟨"ClockPostModel", "nextLine", "(I)Z"⟩, 18), (⟨"ClockPostModel", "swapLine", "(II)V"⟩, 18), (⟨"ClockPostModel", "fewest", "(II)I"⟩, 18), (⟨"ClockPostModel", "holds", "(II)Z"⟩, 18), (⟨"ClockPostModel", "answersAll", "(I)V"⟩, 18), (⟨"ClockPostModel", "eases", "(III)Z"⟩, 18), (⟨"ClockPostModel", "noItems", "(III)I"⟩, 18), (⟨"ClockPostModel", "isSo", "(III)Z"⟩, 18), (⟨"ClockPostModel", "isOf", "(II)Z"⟩, 18), (⟨"ClockPostModel", "sizeOf", "(I)I"⟩, 18), (⟨"ClockPostModel", "begin", "(I)V"⟩, 18), (⟨"ClockPostModel", "billSize", "(I)I"⟩, 18), (⟨"ClockPostModel", "lentSize", "(I)I"⟩, 18), (⟨"ClockPostModel", "mark", "(I)I"⟩, 18), (⟨"ClockPostModel", "billMark", "(I)I"⟩, 18), (⟨"ClockPostModel", "lentMark", "(I)I"⟩, 18)]
theorem lw_r4 : ∀ q ∈ lw_privs_4, lw_okq q := List.forall_mem_cons.mpr ⟨lw_p48, List.forall_mem_cons.mpr ⟨lw_p49, List.forall_mem_cons.mpr ⟨lw_p50, List.forall_mem_cons.mpr ⟨lw_p51, List.forall_mem_cons.mpr ⟨lw_p52, List.forall_mem_cons.mpr ⟨lw_p53, List.forall_mem_cons.mpr ⟨lw_p54, List.forall_mem_cons.mpr ⟨lw_p55, List.forall_mem_cons.mpr ⟨lw_p56, List.forall_mem_cons.mpr ⟨lw_p57, List.forall_mem_cons.mpr ⟨lw_p58, List.forall_mem_cons.mpr ⟨lw_p59, List.forall_mem_cons.mpr ⟨lw_p60, List.forall_mem_cons.mpr ⟨lw_p61, List.forall_mem_cons.mpr ⟨lw_p62, List.forall_mem_cons.mpr ⟨lw_p63, fun _ h => absurd h List.not_mem_nil⟩⟩⟩⟩⟩⟩⟩⟩⟩⟩⟩⟩⟩⟩⟩⟩
theorem lw_p64 : lw_okq (⟨"ClockPostModel", "noteSize", "(I)I"⟩, 18) := ⟨⟨by decide +kernel, by decide +kernel⟩, List.mem_of_getElem? (i := 645) (by decide +kernel), List.mem_of_getElem? (i := 1043) (by decide +kernel), List.mem_of_getElem? (i := 1044) (by decide +kernel)⟩
theorem lw_p65 : lw_okq (⟨"ClockPostModel", "noteMark", "(I)I"⟩, 18) := ⟨⟨by decide +kernel, by decide +kernel⟩, List.mem_of_getElem? (i := 645) (by decide +kernel), List.mem_of_getElem? (i := 1047) (by decide +kernel), List.mem_of_getElem? (i := 1048) (by decide +kernel)⟩
def lw_privs_5 : List (MethodName × Nat) := [(⟨"ClockPostModel", "noteSize", "(I)I"⟩, 18), (⟨"ClockPostModel", "noteMark", "(I)I"⟩, 18)]
theorem lw_r5 : ∀ q ∈ lw_privs_5, lw_okq q := List.forall_mem_cons.mpr ⟨lw_p64, List.forall_mem_cons.mpr ⟨lw_p65, fun _ h => absurd h List.not_mem_nil⟩⟩
def lw_privs : List (MethodName × Nat) := lw_privs_1 ++ (lw_privs_2 ++ (lw_privs_3 ++ (lw_privs_4 ++ (lw_privs_5))))
def lw_tbl : List Cond := k2_sels lw_privs ++ tables_1
theorem lw_privs_ok : ∀ q ∈ lw_privs, lw_okq q := by
  show ∀ q ∈ lw_privs_1 ++ (lw_privs_2 ++ (lw_privs_3 ++ (lw_privs_4 ++ (lw_privs_5)))), lw_okq q
  exact List.forall_mem_append.mpr ⟨lw_r1, List.forall_mem_append.mpr ⟨lw_r2, List.forall_mem_append.mpr ⟨lw_r3, List.forall_mem_append.mpr ⟨lw_r4, lw_r5⟩⟩⟩⟩
end
section
def tbl : List Cond := lw_tbl.filter goodWord
theorem tbl_goodIn : GoodIn tbl tbl := fun w hw => ⟨hw, good_of_word (List.mem_filter.mp hw).2⟩
theorem tb_m {i : Nat} {w : Cond} (h : lw_tbl[i]? = some w) (g : goodWord w = true) : w ∈ tbl := List.mem_filter.mpr ⟨List.mem_of_getElem? h, g⟩
def fT_L : u_T := fun k => match k with
  | 0 => ("ClockPost$Letter", "kind", "I", false)
  | 1 => ("ClockPost$Letter", "fear", "I", false)
  | 2 => ("ClockPost$Letter", "thick", "I", false)
  | 3 => ("ClockPost$Letter", "holds", "I", false)
  | _ => ("ClockPost$Letter", "age", "I", false)
def fY_L : Nat → FieldType := fun k => match k with
  | 0 => .int
  | 1 => .int
  | 2 => .int
  | 3 => .int
  | _ => .int
def fT_R : u_T := fun k => match k with
  | 0 => ("ClockPost$Row", "items", "[I", true)
  | 1 => ("ClockPost$Row", "missing", "Z", false)
  | 2 => ("ClockPost$Row", "lane", "I", false)
  | _ => ("ClockPost$Row", "size", "I", false)
def fY_R : Nat → FieldType := fun k => match k with
  | 0 => .array .int
  | 1 => .boolean
  | 2 => .int
  | _ => .int
def fT_T : u_T := fun k => match k with
  | 0 => ("ClockPost$Trace", "bodies", "[I", true)
  | _ => ("ClockPost$Trace", "length", "I", false)
def fY_T : Nat → FieldType := fun k => match k with
  | 0 => .array .int
  | _ => .int
def fT_H : u_T := fun k => match k with
  | 0 => ("ClockPost$House", "letters", "[LClockPost$Letter;", true)
  | 1 => ("ClockPost$House", "stands", "Z", false)
  | 2 => ("ClockPost$House", "letterCount", "I", false)
  | 3 => ("ClockPost$House", "gap", "I", false)
  | 4 => ("ClockPost$House", "behindBits", "I", false)
  | 5 => ("ClockPost$House", "day", "I", false)
  | 6 => ("ClockPost$House", "sum", "I", false)
  | _ => ("ClockPost$House", "sorrow", "I", false)
def fY_H : Nat → FieldType := fun k => match k with
  | 0 => .array (.object "ClockPost$Letter")
  | 1 => .boolean
  | 2 => .int
  | 3 => .int
  | 4 => .int
  | 5 => .int
  | 6 => .int
  | _ => .int
def fT_A : u_T := fun k => match k with
  | 0 => ("ClockPost$Acts", "before", "[LClockPost$House;", true)
  | 1 => ("ClockPost$Acts", "oldest", "I", false)
  | _ => ("ClockPost$Acts", "kept", "I", false)
def fY_A : Nat → FieldType := fun k => match k with
  | 0 => .array (.object "ClockPost$House")
  | 1 => .int
  | _ => .int
def fT_O : u_T := fun k => match k with
  | 0 => ("ClockPost$OrderSearch", "stages", "[LClockPost$House;", true)
  | 1 => ("ClockPost$OrderSearch", "tried", "[I", true)
  | 2 => ("ClockPost$OrderSearch", "best", "[I", true)
  | _ => ("ClockPost$OrderSearch", "leastGrowth", "I", false)
def fY_O : Nat → FieldType := fun k => match k with
  | 0 => .array (.object "ClockPost$House")
  | 1 => .array .int
  | 2 => .array .int
  | _ => .int
def fT_P : u_T := fun k => match k with
  | 0 => ("ClockPost$Tape", "bytes", "[I", true)
  | 1 => ("ClockPost$Tape", "length", "I", false)
  | 2 => ("ClockPost$Tape", "latestFault", "I", false)
  | 3 => ("ClockPost$Tape", "place", "I", false)
  | _ => ("ClockPost$Tape", "number", "I", false)
def fY_P : Nat → FieldType := fun k => match k with
  | 0 => .array .int
  | 1 => .int
  | 2 => .int
  | 3 => .int
  | _ => .int
def fT_X : u_T := fun k => match k with
  | 0 => ("ClockPost", "rows", "[LClockPost$Row;", true)
  | 1 => ("ClockPost", "tape", "LClockPost$Tape;", true)
  | 2 => ("ClockPost", "now", "LClockPost$House;", true)
  | 3 => ("ClockPost", "foretold", "LClockPost$House;", true)
  | 4 => ("ClockPost", "images", "[LClockPost$House;", true)
  | 5 => ("ClockPost", "acts", "LClockPost$Acts;", true)
  | 6 => ("ClockPost", "orders", "LClockPost$OrderSearch;", true)
  | 7 => ("ClockPost", "traced", "LClockPost$Trace;", true)
  | _ => ("ClockPost", "finding", "I", false)
def fY_X : Nat → FieldType := fun k => match k with
  | 0 => .array (.object "ClockPost$Row")
  | 1 => .object "ClockPost$Tape"
  | 2 => .object "ClockPost$House"
  | 3 => .object "ClockPost$House"
  | 4 => .array (.object "ClockPost$House")
  | 5 => .object "ClockPost$Acts"
  | 6 => .object "ClockPost$OrderSearch"
  | 7 => .object "ClockPost$Trace"
  | _ => .int
def fT_M : u_T := fun k => match k with
  | 0 => ("ClockPostModel", "row", "[I", true)
  | 1 => ("ClockPostModel", "isHouse", "Z", false)
  | 2 => ("ClockPostModel", "undos", "I", false)
  | 3 => ("ClockPostModel", "isKept", "[Z", true)
  | 4 => ("ClockPostModel", "lanes", "[I", true)
  | 5 => ("ClockPostModel", "sizes", "[I", true)
  | 6 => ("ClockPostModel", "items", "[I", true)
  | 7 => ("ClockPostModel", "tape", "[I", true)
  | 8 => ("ClockPostModel", "length", "I", false)
  | 9 => ("ClockPostModel", "fault", "I", false)
  | 10 => ("ClockPostModel", "status", "I", false)
  | 11 => ("ClockPostModel", "trace", "[I", true)
  | 12 => ("ClockPostModel", "traced", "I", false)
  | 13 => ("ClockPostModel", "at", "I", false)
  | 14 => ("ClockPostModel", "wrong", "I", false)
  | 15 => ("ClockPostModel", "number", "I", false)
  | 16 => ("ClockPostModel", "line", "[I", true)
  | _ => ("ClockPostModel", "bestLine", "[I", true)
def fY_M : Nat → FieldType := fun k => match k with
  | 0 => .array .int
  | 1 => .boolean
  | 2 => .int
  | 3 => .array .boolean
  | 4 => .array .int
  | 5 => .array .int
  | 6 => .array .int
  | 7 => .array .int
  | 8 => .int
  | 9 => .int
  | 10 => .int
  | 11 => .array .int
  | 12 => .int
  | 13 => .int
  | 14 => .int
  | 15 => .int
  | 16 => .array .int
  | _ => .array .int
abbrev clz : List vw_C := [("ClockPost$Letter", fT_L, 5), ("ClockPost$Row", fT_R, 4), ("ClockPost$Trace", fT_T, 2), ("ClockPost$House", fT_H, 8), ("ClockPost$Acts", fT_A, 3), ("ClockPost$OrderSearch", fT_O, 4), ("ClockPost$Tape", fT_P, 5), ("ClockPost", fT_X, 9), ("ClockPostModel", fT_M, 18)]
def y_A_forgetAll : MethodName := ⟨"ClockPost$Acts", "forgetAll", "()V"⟩
def y_A_init : MethodName := ⟨"ClockPost$Acts", "<init>", "()V"⟩
def y_A_keep : MethodName := ⟨"ClockPost$Acts", "keep", "(LClockPost$House;)V"⟩
def y_A_takeBack : MethodName := ⟨"ClockPost$Acts", "takeBack", "(LClockPost$House;)Z"⟩
def y_H_answerOne : MethodName := ⟨"ClockPost$House", "answerOne", "(I)V"⟩
def y_H_become : MethodName := ⟨"ClockPost$House", "become", "(LClockPost$House;)V"⟩
def y_H_clear : MethodName := ⟨"ClockPost$House", "clear", "()V"⟩
def y_H_hasLetter : MethodName := ⟨"ClockPost$House", "hasLetter", "(I)Z"⟩
def y_H_init : MethodName := ⟨"ClockPost$House", "<init>", "()V"⟩
def y_H_isBehind : MethodName := ⟨"ClockPost$House", "isBehind", "(I)Z"⟩
def y_H_nextToFall : MethodName := ⟨"ClockPost$House", "nextToFall", "()I"⟩
def y_H_passDay : MethodName := ⟨"ClockPost$House", "passDay", "()I"⟩
def y_H_putBehind : MethodName := ⟨"ClockPost$House", "putBehind", "(I)V"⟩
def y_H_takeAway : MethodName := ⟨"ClockPost$House", "takeAway", "(II)V"⟩
def y_H_takeDraw : MethodName := ⟨"ClockPost$House", "takeDraw", "(J)V"⟩
def y_H_thickness : MethodName := ⟨"ClockPost$House", "thickness", "()I"⟩
def y_H_weight : MethodName := ⟨"ClockPost$House", "weight", "()I"⟩
def y_H_weightOf : MethodName := ⟨"ClockPost$House", "weightOf", "(I)I"⟩
def y_JA_fill : MethodName := ⟨"java/util/Arrays", "fill", "([II)V"⟩
def y_JI_bitCount : MethodName := ⟨"java/lang/Integer", "bitCount", "(I)I"⟩
def y_JM_max : MethodName := ⟨"java/lang/Math", "max", "(II)I"⟩
def y_JM_min : MethodName := ⟨"java/lang/Math", "min", "(II)I"⟩
def y_L_become : MethodName := ⟨"ClockPost$Letter", "become", "(LClockPost$Letter;)V"⟩
def y_L_change : MethodName := ⟨"ClockPost$Letter", "change", "(II)V"⟩
def y_L_fallsAheadOf : MethodName := ⟨"ClockPost$Letter", "fallsAheadOf", "(LClockPost$Letter;)Z"⟩
def y_L_init : MethodName := ⟨"ClockPost$Letter", "<init>", "()V"⟩
def y_L_weighAmong : MethodName := ⟨"ClockPost$Letter", "weighAmong", "(I)I"⟩
def y_M_answer : MethodName := ⟨"ClockPostModel", "answer", "(I)I"⟩
def y_M_answers : MethodName := ⟨"ClockPostModel", "answers", "(II)V"⟩
def y_M_answersAll : MethodName := ⟨"ClockPostModel", "answersAll", "(I)V"⟩
def y_M_as : MethodName := ⟨"ClockPostModel", "as", "(II)I"⟩
def y_M_ask : MethodName := ⟨"ClockPostModel", "ask", "(II)I"⟩
def y_M_atMost : MethodName := ⟨"ClockPostModel", "atMost", "(II)I"⟩
def y_M_away : MethodName := ⟨"ClockPostModel", "away", "(III)V"⟩
def y_M_begin : MethodName := ⟨"ClockPostModel", "begin", "(I)V"⟩
def y_M_behind : MethodName := ⟨"ClockPostModel", "behind", "(I)I"⟩
def y_M_billMark : MethodName := ⟨"ClockPostModel", "billMark", "(I)I"⟩
def y_M_billSize : MethodName := ⟨"ClockPostModel", "billSize", "(I)I"⟩
def y_M_bits : MethodName := ⟨"ClockPostModel", "bits", "(I)I"⟩
def y_M_burden : MethodName := ⟨"ClockPostModel", "burden", "(I)I"⟩
def y_M_burdenAt : MethodName := ⟨"ClockPostModel", "burdenAt", "(I)I"⟩
def y_M_copy : MethodName := ⟨"ClockPostModel", "copy", "(IIIII)I"⟩
def y_M_copyTown : MethodName := ⟨"ClockPostModel", "copyTown", "(II)V"⟩
def y_M_count : MethodName := ⟨"ClockPostModel", "count", "(I)I"⟩
def y_M_days : MethodName := ⟨"ClockPostModel", "days", "(I)I"⟩
def y_M_drawn : MethodName := ⟨"ClockPostModel", "drawn", "(III)I"⟩
def y_M_dread : MethodName := ⟨"ClockPostModel", "dread", "(II)I"⟩
def y_M_drop : MethodName := ⟨"ClockPostModel", "drop", "(I)I"⟩
def y_M_ease : MethodName := ⟨"ClockPostModel", "ease", "(III)I"⟩
def y_M_eases : MethodName := ⟨"ClockPostModel", "eases", "(III)Z"⟩
def y_M_falls : MethodName := ⟨"ClockPostModel", "falls", "(I)I"⟩
def y_M_fallsAhead : MethodName := ⟨"ClockPostModel", "fallsAhead", "(III)Z"⟩
def y_M_fault : MethodName := ⟨"ClockPostModel", "fault", "()I"⟩
def y_M_feed : MethodName := ⟨"ClockPostModel", "feed", "(I)I"⟩
def y_M_fewest : MethodName := ⟨"ClockPostModel", "fewest", "(II)I"⟩
def y_M_find : MethodName := ⟨"ClockPostModel", "find", "(I)I"⟩
def y_M_fits : MethodName := ⟨"ClockPostModel", "fits", "(IIIII)I"⟩
def y_M_growsBy : MethodName := ⟨"ClockPostModel", "growsBy", "(I)I"⟩
def y_M_has : MethodName := ⟨"ClockPostModel", "has", "(II)Z"⟩
def y_M_hold : MethodName := ⟨"ClockPostModel", "hold", "(II)I"⟩
def y_M_holds : MethodName := ⟨"ClockPostModel", "holds", "(II)Z"⟩
def y_M_house : MethodName := ⟨"ClockPostModel", "house", "()I"⟩
def y_M_image : MethodName := ⟨"ClockPostModel", "image", "(I)I"⟩
def y_M_in : MethodName := ⟨"ClockPostModel", "in", "(JJJ)Z"⟩
def y_M_init : MethodName := ⟨"ClockPostModel", "<init>", "()V"⟩
def y_M_isFigure : MethodName := ⟨"ClockPostModel", "isFigure", "(I)Z"⟩
def y_M_isLetter : MethodName := ⟨"ClockPostModel", "isLetter", "(I)Z"⟩
def y_M_isLetterThere : MethodName := ⟨"ClockPostModel", "isLetterThere", "(I)Z"⟩
def y_M_isOf : MethodName := ⟨"ClockPostModel", "isOf", "(II)Z"⟩
def y_M_isRow : MethodName := ⟨"ClockPostModel", "isRow", "(I)Z"⟩
def y_M_isSo : MethodName := ⟨"ClockPostModel", "isSo", "(III)Z"⟩
def y_M_isSort : MethodName := ⟨"ClockPostModel", "isSort", "()Z"⟩
def y_M_isSpan : MethodName := ⟨"ClockPostModel", "isSpan", "(III)Z"⟩
def y_M_keepPast : MethodName := ⟨"ClockPostModel", "keepPast", "()V"⟩
def y_M_kind : MethodName := ⟨"ClockPostModel", "kind", "(I)I"⟩
def y_M_kindOfLetter : MethodName := ⟨"ClockPostModel", "kindOfLetter", "(I)I"⟩
def y_M_layTried : MethodName := ⟨"ClockPostModel", "layTried", "()V"⟩
def y_M_lentMark : MethodName := ⟨"ClockPostModel", "lentMark", "(I)I"⟩
def y_M_lentSize : MethodName := ⟨"ClockPostModel", "lentSize", "(I)I"⟩
def y_M_letter : MethodName := ⟨"ClockPostModel", "letter", "(II)I"⟩
def y_M_lost : MethodName := ⟨"ClockPostModel", "lost", "(III)I"⟩
def y_M_mark : MethodName := ⟨"ClockPostModel", "mark", "(I)I"⟩
def y_M_narrow : MethodName := ⟨"ClockPostModel", "narrow", "(II)I"⟩
def y_M_nextLine : MethodName := ⟨"ClockPostModel", "nextLine", "(I)Z"⟩
def y_M_nextToFall : MethodName := ⟨"ClockPostModel", "nextToFall", "(I)I"⟩
def y_M_noDays : MethodName := ⟨"ClockPostModel", "noDays", "(I)I"⟩
def y_M_noItems : MethodName := ⟨"ClockPostModel", "noItems", "(III)I"⟩
def y_M_noteMark : MethodName := ⟨"ClockPostModel", "noteMark", "(I)I"⟩
def y_M_noteSize : MethodName := ⟨"ClockPostModel", "noteSize", "(I)I"⟩
def y_M_order : MethodName := ⟨"ClockPostModel", "order", "(II)I"⟩
def y_M_pass : MethodName := ⟨"ClockPostModel", "pass", "(I)I"⟩
def y_M_passes : MethodName := ⟨"ClockPostModel", "passes", "(II)V"⟩
def y_M_post : MethodName := ⟨"ClockPostModel", "post", "(I)I"⟩
def y_M_posts : MethodName := ⟨"ClockPostModel", "posts", "(II)V"⟩
def y_M_reads : MethodName := ⟨"ClockPostModel", "reads", "()Z"⟩
def y_M_readsLaw : MethodName := ⟨"ClockPostModel", "readsLaw", "()Z"⟩
def y_M_readsLetter : MethodName := ⟨"ClockPostModel", "readsLetter", "()Z"⟩
def y_M_readsNumber : MethodName := ⟨"ClockPostModel", "readsNumber", "(II)Z"⟩
def y_M_refuse : MethodName := ⟨"ClockPostModel", "refuse", "(I)Z"⟩
def y_M_restore : MethodName := ⟨"ClockPostModel", "restore", "(I)I"⟩
def y_M_row : MethodName := ⟨"ClockPostModel", "row", "(III)I"⟩
def y_M_set : MethodName := ⟨"ClockPostModel", "set", "(III)I"⟩
def y_M_sign : MethodName := ⟨"ClockPostModel", "sign", "(I)Z"⟩
def y_M_sizeOf : MethodName := ⟨"ClockPostModel", "sizeOf", "(I)I"⟩
def y_M_status : MethodName := ⟨"ClockPostModel", "status", "()I"⟩
def y_M_stealth : MethodName := ⟨"ClockPostModel", "stealth", "(III)I"⟩
def y_M_sum : MethodName := ⟨"ClockPostModel", "sum", "(I)I"⟩
def y_M_swapLine : MethodName := ⟨"ClockPostModel", "swapLine", "(II)V"⟩
def y_M_thickness : MethodName := ⟨"ClockPostModel", "thickness", "(I)I"⟩
def y_M_trace : MethodName := ⟨"ClockPostModel", "trace", "(I)I"⟩
def y_M_undo : MethodName := ⟨"ClockPostModel", "undo", "()I"⟩
def y_M_weighs : MethodName := ⟨"ClockPostModel", "weighs", "(II)I"⟩
def y_M_well : MethodName := ⟨"ClockPostModel", "well", "(I)I"⟩
def y_O_extend : MethodName := ⟨"ClockPost$OrderSearch", "extend", "(LClockPost$OrderSearch;III)V"⟩
def y_O_init : MethodName := ⟨"ClockPost$OrderSearch", "<init>", "()V"⟩
def y_O_search : MethodName := ⟨"ClockPost$OrderSearch", "search", "(LClockPost$House;I)V"⟩
def y_P_add : MethodName := ⟨"ClockPost$Tape", "add", "(I)Z"⟩
def y_P_byteAt : MethodName := ⟨"ClockPost$Tape", "byteAt", "(I)I"⟩
def y_P_fail : MethodName := ⟨"ClockPost$Tape", "fail", "(I)Z"⟩
def y_P_init : MethodName := ⟨"ClockPost$Tape", "<init>", "()V"⟩
def y_P_isFigure : MethodName := ⟨"ClockPost$Tape", "isFigure", "(I)Z"⟩
def y_P_kindToldBy : MethodName := ⟨"ClockPost$Tape", "kindToldBy", "(I)I"⟩
def y_P_readFigures : MethodName := ⟨"ClockPost$Tape", "readFigures", "(LClockPost$Letter;)Z"⟩
def y_P_readInto : MethodName := ⟨"ClockPost$Tape", "readInto", "(LClockPost$House;)Z"⟩
def y_P_readLaw : MethodName := ⟨"ClockPost$Tape", "readLaw", "(LClockPost$House;)Z"⟩
def y_P_readLetter : MethodName := ⟨"ClockPost$Tape", "readLetter", "(LClockPost$House;)Z"⟩
def y_P_readLetters : MethodName := ⟨"ClockPost$Tape", "readLetters", "(LClockPost$House;)Z"⟩
def y_P_readNumber : MethodName := ⟨"ClockPost$Tape", "readNumber", "(II)Z"⟩
def y_P_readSign : MethodName := ⟨"ClockPost$Tape", "readSign", "(C)Z"⟩
def y_R_hasPlaces : MethodName := ⟨"ClockPost$Row", "hasPlaces", "(II)Z"⟩
def y_R_init : MethodName := ⟨"ClockPost$Row", "<init>", "()V"⟩
def y_R_itemAt : MethodName := ⟨"ClockPost$Row", "itemAt", "(I)I"⟩
def y_R_lay : MethodName := ⟨"ClockPost$Row", "lay", "(II)V"⟩
def y_R_put : MethodName := ⟨"ClockPost$Row", "put", "(II)I"⟩
def y_T_init : MethodName := ⟨"ClockPost$Trace", "<init>", "()V"⟩
def y_T_leave : MethodName := ⟨"ClockPost$Trace", "leave", "(I)V"⟩
def y_W_law : MethodName := ⟨"ClockPostLaw", "law", "([I)Z"⟩
def y_X_answer : MethodName := ⟨"ClockPost", "answer", "(I)I"⟩
def y_X_as : MethodName := ⟨"ClockPost", "as", "(II)I"⟩
def y_X_ask : MethodName := ⟨"ClockPost", "ask", "(II)I"⟩
def y_X_begin : MethodName := ⟨"ClockPost", "begin", "(LClockPost$Trace;ILClockPost$Letter;II)I"⟩
def y_X_behind : MethodName := ⟨"ClockPost", "behind", "(I)I"⟩
def y_X_bodyOf : MethodName := ⟨"ClockPost", "bodyOf", "(II)I"⟩
def y_X_burden : MethodName := ⟨"ClockPost", "burden", "(I)I"⟩
def y_X_copy : MethodName := ⟨"ClockPost", "copy", "(IIIII)I"⟩
def y_X_count : MethodName := ⟨"ClockPost", "count", "(I)I"⟩
def y_X_days : MethodName := ⟨"ClockPost", "days", "(I)I"⟩
def y_X_drawn : MethodName := ⟨"ClockPost", "drawn", "(III)I"⟩
def y_X_dread : MethodName := ⟨"ClockPost", "dread", "(II)I"⟩
def y_X_drop : MethodName := ⟨"ClockPost", "drop", "(I)I"⟩
def y_X_ease : MethodName := ⟨"ClockPost", "ease", "(III)I"⟩
def y_X_falls : MethodName := ⟨"ClockPost", "falls", "(I)I"⟩
def y_X_fault : MethodName := ⟨"ClockPost", "fault", "()I"⟩
def y_X_feed : MethodName := ⟨"ClockPost", "feed", "(I)I"⟩
def y_X_fits : MethodName := ⟨"ClockPost", "fits", "(IIIII)I"⟩
def y_X_flawOf : MethodName := ⟨"ClockPost", "flawOf", "(LClockPost$Row;II)I"⟩
def y_X_foretell : MethodName := ⟨"ClockPost", "foretell", "(I)LClockPost$House;"⟩
def y_X_foretellWithout : MethodName := ⟨"ClockPost", "foretellWithout", "(I)V"⟩
def y_X_found : MethodName := ⟨"ClockPost", "found", "(I)I"⟩
def y_X_foundNothing : MethodName := ⟨"ClockPost", "foundNothing", "(I)I"⟩
def y_X_greatestShared : MethodName := ⟨"ClockPost", "greatestShared", "(II)I"⟩
def y_X_hold : MethodName := ⟨"ClockPost", "hold", "(II)I"⟩
def y_X_house : MethodName := ⟨"ClockPost", "house", "()I"⟩
def y_X_image : MethodName := ⟨"ClockPost", "image", "(I)I"⟩
def y_X_init : MethodName := ⟨"ClockPost", "<init>", "()V"⟩
def y_X_isOfKind : MethodName := ⟨"ClockPost", "isOfKind", "(II)Z"⟩
def y_X_isRow : MethodName := ⟨"ClockPost", "isRow", "(I)Z"⟩
def y_X_isSmallerPart : MethodName := ⟨"ClockPost", "isSmallerPart", "(II)Z"⟩
def y_X_isToldBy : MethodName := ⟨"ClockPost", "isToldBy", "(LClockPost$Row;II)Z"⟩
def y_X_isWithin : MethodName := ⟨"ClockPost", "isWithin", "(III)Z"⟩
def y_X_kind : MethodName := ⟨"ClockPost", "kind", "(I)I"⟩
def y_X_leastTried : MethodName := ⟨"ClockPost", "leastTried", "(I)I"⟩
def y_X_letter : MethodName := ⟨"ClockPost", "letter", "(II)I"⟩
def y_X_lost : MethodName := ⟨"ClockPost", "lost", "(III)I"⟩
def y_X_mostTried : MethodName := ⟨"ClockPost", "mostTried", "(I)I"⟩
def y_X_nearestKind : MethodName := ⟨"ClockPost", "nearestKind", "(I)I"⟩
def y_X_nothingFallsWithout : MethodName := ⟨"ClockPost", "nothingFallsWithout", "(II)Z"⟩
def y_X_order : MethodName := ⟨"ClockPost", "order", "(II)I"⟩
def y_X_post : MethodName := ⟨"ClockPost", "post", "(I)I"⟩
def y_X_power : MethodName := ⟨"ClockPost", "power", "(II)I"⟩
def y_X_refusalOf : MethodName := ⟨"ClockPost", "refusalOf", "(Z)I"⟩
def y_X_restore : MethodName := ⟨"ClockPost", "restore", "(I)I"⟩
def y_X_row : MethodName := ⟨"ClockPost", "row", "(III)I"⟩
def y_X_rowsThere : MethodName := ⟨"ClockPost", "rowsThere", "()I"⟩
def y_X_set : MethodName := ⟨"ClockPost", "set", "(III)I"⟩
def y_X_status : MethodName := ⟨"ClockPost", "status", "()I"⟩
def y_X_staysEasyWithout : MethodName := ⟨"ClockPost", "staysEasyWithout", "(III)Z"⟩
def y_X_stealth : MethodName := ⟨"ClockPost", "stealth", "(III)I"⟩
def y_X_sum : MethodName := ⟨"ClockPost", "sum", "(I)I"⟩
def y_X_trace : MethodName := ⟨"ClockPost", "trace", "(I)I"⟩
def y_X_undo : MethodName := ⟨"ClockPost", "undo", "()I"⟩
abbrev nestL : List (String × Nat × MethodName × String) := [("ClockPost", 17, y_P_init, "ClockPost"), ("ClockPost", 52, y_T_init, "ClockPost"), ("ClockPost", 57, y_R_init, "ClockPost"), ("ClockPost$House", 17, y_L_init, "ClockPost"), ("ClockPost$Tape", 100, y_X_isWithin, "ClockPost")]
theorem nest_in : ∀ q ∈ nestL, Cond.methodLinkNest q.1 q.2.1 q.2.2.1 q.2.2.2 ∈ lw_tbl := by
  intro q hq
  simp only [nestL, List.mem_cons, List.not_mem_nil, or_false] at hq
  rcases hq with rfl | rfl | rfl | rfl | rfl
  · exact List.mem_of_getElem? (i := 92) (by decide +kernel)
  · exact List.mem_of_getElem? (i := 241) (by decide +kernel)
  · exact List.mem_of_getElem? (i := 255) (by decide +kernel)
  · exact List.mem_of_getElem? (i := 125) (by decide +kernel)
  · exact List.mem_of_getElem? (i := 399) (by decide +kernel)
abbrev overL : List String := ["ClockPost$Row", "ClockPost$House", "ClockPost$Letter"]
theorem over_in : ∀ C ∈ overL, Cond.arrayOver (.object C) ∈ lw_tbl := by
  intro q hq
  simp only [overL, List.mem_cons, List.not_mem_nil, or_false] at hq
  rcases hq with rfl | rfl | rfl
  · exact List.mem_of_getElem? (i := 89) (by decide +kernel)
  · exact List.mem_of_getElem? (i := 196) (by decide +kernel)
  · exact List.mem_of_getElem? (i := 123) (by decide +kernel)
theorem wa_int : Cond.arrayClass .int ∈ tbl := tb_m (i := 115) (by decide +kernel) rfl
theorem wa_boolean : Cond.arrayClass .boolean ∈ tbl := tb_m (i := 771) (by decide +kernel) rfl
theorem wl_X_9 : Cond.classLink "ClockPost" 9 "ClockPost$Row" ∈ tbl := tb_m (i := 88) (by decide +kernel) rfl
theorem wl_X_15 : Cond.classLink "ClockPost" 15 "ClockPost$Tape" ∈ tbl := tb_m (i := 90) (by decide +kernel) rfl
theorem wl_X_22 : Cond.classLink "ClockPost" 22 "ClockPost$House" ∈ tbl := tb_m (i := 116) (by decide +kernel) rfl
theorem wl_X_36 : Cond.classLink "ClockPost" 36 "ClockPost$Acts" ∈ tbl := tb_m (i := 197) (by decide +kernel) rfl
theorem wl_X_43 : Cond.classLink "ClockPost" 43 "ClockPost$OrderSearch" ∈ tbl := tb_m (i := 216) (by decide +kernel) rfl
theorem wl_X_50 : Cond.classLink "ClockPost" 50 "ClockPost$Trace" ∈ tbl := tb_m (i := 239) (by decide +kernel) rfl
theorem wl_A_9 : Cond.classLink "ClockPost$Acts" 9 "ClockPost$House" ∈ tbl := tb_m (i := 203) (by decide +kernel) rfl
theorem wl_H_9 : Cond.classLink "ClockPost$House" 9 "ClockPost$Letter" ∈ tbl := tb_m (i := 122) (by decide +kernel) rfl
theorem wl_O_9 : Cond.classLink "ClockPost$OrderSearch" 9 "ClockPost$House" ∈ tbl := tb_m (i := 222) (by decide +kernel) rfl
theorem wl_W_7 : Cond.classLink "ClockPostLaw" 7 "ClockPost" ∈ tbl := tb_m (i := 80) (by decide +kernel) rfl
theorem wl_W_10 : Cond.classLink "ClockPostLaw" 10 "ClockPostModel" ∈ tbl := tb_m (i := 710) (by decide +kernel) rfl
theorem wi_X : Cond.instantiable "ClockPost" 9 ∈ tbl := tb_m (i := 81) (by decide +kernel) rfl
theorem wi_A : Cond.instantiable "ClockPost$Acts" 3 ∈ tbl := tb_m (i := 198) (by decide +kernel) rfl
theorem wi_H : Cond.instantiable "ClockPost$House" 8 ∈ tbl := tb_m (i := 117) (by decide +kernel) rfl
theorem wi_L : Cond.instantiable "ClockPost$Letter" 5 ∈ tbl := tb_m (i := 124) (by decide +kernel) rfl
theorem wi_O : Cond.instantiable "ClockPost$OrderSearch" 4 ∈ tbl := tb_m (i := 217) (by decide +kernel) rfl
theorem wi_R : Cond.instantiable "ClockPost$Row" 4 ∈ tbl := tb_m (i := 254) (by decide +kernel) rfl
theorem wi_P : Cond.instantiable "ClockPost$Tape" 5 ∈ tbl := tb_m (i := 91) (by decide +kernel) rfl
theorem wi_T : Cond.instantiable "ClockPost$Trace" 2 ∈ tbl := tb_m (i := 240) (by decide +kernel) rfl
theorem wi_M : Cond.instantiable "ClockPostModel" 18 ∈ tbl := tb_m (i := 711) (by decide +kernel) rfl
theorem wz_L : Cond.initialized "ClockPost$Letter" ∈ tbl := tb_m (i := 70) (by decide +kernel) rfl
theorem wz_R : Cond.initialized "ClockPost$Row" ∈ tbl := tb_m (i := 74) (by decide +kernel) rfl
theorem wz_T : Cond.initialized "ClockPost$Trace" ∈ tbl := tb_m (i := 73) (by decide +kernel) rfl
theorem wz_H : Cond.initialized "ClockPost$House" ∈ tbl := tb_m (i := 69) (by decide +kernel) rfl
theorem wz_A : Cond.initialized "ClockPost$Acts" ∈ tbl := tb_m (i := 71) (by decide +kernel) rfl
theorem wz_O : Cond.initialized "ClockPost$OrderSearch" ∈ tbl := tb_m (i := 72) (by decide +kernel) rfl
theorem wz_P : Cond.initialized "ClockPost$Tape" ∈ tbl := tb_m (i := 68) (by decide +kernel) rfl
theorem wz_X : Cond.initialized "ClockPost" ∈ tbl := tb_m (i := 67) (by decide +kernel) rfl
theorem wz_M : Cond.initialized "ClockPostModel" ∈ tbl := tb_m (i := 75) (by decide +kernel) rfl
theorem wz_JM : Cond.initialized "java/lang/Math" ∈ tbl := tb_m (i := 79) (by decide +kernel) rfl
theorem wz_JS : Cond.initialized "java/lang/System" ∈ tbl := tb_m (i := 77) (by decide +kernel) rfl
theorem ws_max : Cond.static Lib.Math.max.name ∈ tbl := tb_m (i := 636) (by decide +kernel) rfl
theorem wc_max : Cond.code Lib.Math.max.name Lib.Math.max.code 2 (some .int) ∈ tbl := tb_m (i := 637) (by decide +kernel) rfl
theorem ws_min : Cond.static Lib.Math.min.name ∈ tbl := tb_m (i := 473) (by decide +kernel) rfl
theorem wc_min : Cond.code Lib.Math.min.name Lib.Math.min.code 2 (some .int) ∈ tbl := tb_m (i := 474) (by decide +kernel) rfl
theorem ws_copy : Cond.static arraycopyName ∈ tbl := tb_m (i := 349) (by decide +kernel) rfl
theorem wn_copy : Cond.native arraycopyName ∈ tbl := tb_m (i := 350) (by decide +kernel) rfl
theorem wi_obj : Cond.instanceMethod Lib.objectInit ∈ tbl := tb_m (i := 86) (by decide +kernel) rfl
theorem wc_obj : Cond.code Lib.objectInit ⟨#[0xb1]⟩ 1 none ∈ tbl := tb_m (i := 87) (by decide +kernel) rfl
theorem wo_X_3 : Cond.methodLink "ClockPost" 3 Lib.objectInit ∈ tbl := tb_m (i := 85) (by decide +kernel) rfl
theorem wo_X_98 : Cond.methodLink "ClockPost" 98 arraycopyName ∈ tbl := tb_m (i := 348) (by decide +kernel) rfl
theorem wo_X_263 : Cond.methodLink "ClockPost" 263 Lib.Math.max.name ∈ tbl := tb_m (i := 635) (by decide +kernel) rfl
theorem wo_A_3 : Cond.methodLink "ClockPost$Acts" 3 Lib.objectInit ∈ tbl := tb_m (i := 202) (by decide +kernel) rfl
theorem wo_H_3 : Cond.methodLink "ClockPost$House" 3 Lib.objectInit ∈ tbl := tb_m (i := 121) (by decide +kernel) rfl
theorem wo_H_71 : Cond.methodLink "ClockPost$House" 71 Lib.Math.min.name ∈ tbl := tb_m (i := 472) (by decide +kernel) rfl
theorem wo_L_3 : Cond.methodLink "ClockPost$Letter" 3 Lib.objectInit ∈ tbl := tb_m (i := 128) (by decide +kernel) rfl
theorem wo_O_3 : Cond.methodLink "ClockPost$OrderSearch" 3 Lib.objectInit ∈ tbl := tb_m (i := 221) (by decide +kernel) rfl
theorem wo_O_40 : Cond.methodLink "ClockPost$OrderSearch" 40 arraycopyName ∈ tbl := tb_m (i := 568) (by decide +kernel) rfl
theorem wo_R_3 : Cond.methodLink "ClockPost$Row" 3 Lib.objectInit ∈ tbl := tb_m (i := 258) (by decide +kernel) rfl
theorem wo_P_3 : Cond.methodLink "ClockPost$Tape" 3 Lib.objectInit ∈ tbl := tb_m (i := 95) (by decide +kernel) rfl
theorem wo_T_3 : Cond.methodLink "ClockPost$Trace" 3 Lib.objectInit ∈ tbl := tb_m (i := 244) (by decide +kernel) rfl
theorem wo_M_1 : Cond.methodLink "ClockPostModel" 1 Lib.objectInit ∈ tbl := tb_m (i := 715) (by decide +kernel) rfl
def ClOk (ci : Nat) (C : String) (T : u_T) (N : Nat) (ty0 : Nat → FieldType) : Prop := clz[ci]? = some (C, T, N) ∧ (∀ w ∈ u_ws C T N, w ∈ tbl) ∧ (∀ k, k < N → parseFieldDescriptor (T k).2.2.1 = some (ty0 k)) ∧ (∀ a, a < N → ∀ b, b < N → a ≠ b → (T a).2.1 ≠ (T b).2.1)
def LkF (own : String) (idx ci k : Nat) (ty : FieldType) (fin : Bool) : Prop := ∃ (C : String) (T : u_T) (N : Nat) (ty0 : Nat → FieldType), ClOk ci C T N ty0 ∧ k < N ∧ Cond.fieldLink own idx C (T k).2.1 (T k).2.2.1 ∈ tbl ∧ (T k).1 = C ∧ (T k).2.2.2 = fin ∧ ty0 k = ty
def mOk (y : MethodName) (n : Nat) : Prop := (y.cls ≠ "java/lang/invoke/MethodHandle" ∧ y.cls ≠ "java/lang/invoke/VarHandle" ∧ (parseMethodDescriptor y.desc).map (fun d => d.parameters.length) = some n) ∧ Cond.initialized y.cls ∈ tbl
def LkL (own : String) (idx : Nat) (y : MethodName) : Prop := Cond.methodLink own idx y ∈ tbl ∨ ∃ host, (own, idx, y, host) ∈ nestL
def LkV (own : String) (idx : Nat) (y : MethodName) (n ci : Nat) : Prop := mOk y n ∧ Cond.methodLink own idx y ∈ tbl ∧ Cond.instanceMethod y ∈ tbl ∧ Cond.selects y.cls y y ∈ tbl ∧ ∃ q : vw_C, clz[ci]? = some q ∧ q.1 = y.cls
def LkS (own : String) (idx : Nat) (y : MethodName) (n : Nat) : Prop := mOk y n ∧ LkL own idx y ∧ Cond.static y ∈ tbl
def LkI (own : String) (idx : Nat) (y : MethodName) (n : Nat) : Prop := mOk y n ∧ LkL own idx y ∧ y.name = "<init>" ∧ Cond.instanceMethod y ∈ tbl
theorem clw_L : ∀ w ∈ u_ws "ClockPost$Letter" fT_L 5, w ∈ tbl := by
  intro w hw
  obtain ⟨k, hk, rfl⟩ := List.mem_map.mp hw
  have hk2 := List.mem_range.mp hk
  match k, hk2 with
  | 0, _ => exact tb_m (i := 147) (by decide +kernel) rfl
  | 1, _ => exact tb_m (i := 149) (by decide +kernel) rfl
  | 2, _ => exact tb_m (i := 151) (by decide +kernel) rfl
  | 3, _ => exact tb_m (i := 153) (by decide +kernel) rfl
  | 4, _ => exact tb_m (i := 155) (by decide +kernel) rfl
  | k + 5, h => exact absurd h (by omega)
theorem cl_L : ClOk 0 "ClockPost$Letter" fT_L 5 fY_L := ⟨rfl, clw_L, by decide +kernel, by decide +kernel⟩
theorem clw_R : ∀ w ∈ u_ws "ClockPost$Row" fT_R 4, w ∈ tbl := by
  intro w hw
  obtain ⟨k, hk, rfl⟩ := List.mem_map.mp hw
  have hk2 := List.mem_range.mp hk
  match k, hk2 with
  | 0, _ => exact tb_m (i := 267) (by decide +kernel) rfl
  | 1, _ => exact tb_m (i := 269) (by decide +kernel) rfl
  | 2, _ => exact tb_m (i := 271) (by decide +kernel) rfl
  | 3, _ => exact tb_m (i := 273) (by decide +kernel) rfl
  | k + 4, h => exact absurd h (by omega)
theorem cl_R : ClOk 1 "ClockPost$Row" fT_R 4 fY_R := ⟨rfl, clw_R, by decide +kernel, by decide +kernel⟩
theorem clw_T : ∀ w ∈ u_ws "ClockPost$Trace" fT_T 2, w ∈ tbl := by
  intro w hw
  obtain ⟨k, hk, rfl⟩ := List.mem_map.mp hw
  have hk2 := List.mem_range.mp hk
  match k, hk2 with
  | 0, _ => exact tb_m (i := 249) (by decide +kernel) rfl
  | 1, _ => exact tb_m (i := 251) (by decide +kernel) rfl
  | k + 2, h => exact absurd h (by omega)
theorem cl_T : ClOk 2 "ClockPost$Trace" fT_T 2 fY_T := ⟨rfl, clw_T, by decide +kernel, by decide +kernel⟩
theorem clw_H : ∀ w ∈ u_ws "ClockPost$House" fT_H 8, w ∈ tbl := by
  intro w hw
  obtain ⟨k, hk, rfl⟩ := List.mem_map.mp hw
  have hk2 := List.mem_range.mp hk
  match k, hk2 with
  | 0, _ => exact tb_m (i := 179) (by decide +kernel) rfl
  | 1, _ => exact tb_m (i := 181) (by decide +kernel) rfl
  | 2, _ => exact tb_m (i := 183) (by decide +kernel) rfl
  | 3, _ => exact tb_m (i := 185) (by decide +kernel) rfl
  | 4, _ => exact tb_m (i := 187) (by decide +kernel) rfl
  | 5, _ => exact tb_m (i := 189) (by decide +kernel) rfl
  | 6, _ => exact tb_m (i := 191) (by decide +kernel) rfl
  | 7, _ => exact tb_m (i := 193) (by decide +kernel) rfl
  | k + 8, h => exact absurd h (by omega)
theorem cl_H : ClOk 3 "ClockPost$House" fT_H 8 fY_H := ⟨rfl, clw_H, by decide +kernel, by decide +kernel⟩
theorem clw_A : ∀ w ∈ u_ws "ClockPost$Acts" fT_A 3, w ∈ tbl := by
  intro w hw
  obtain ⟨k, hk, rfl⟩ := List.mem_map.mp hw
  have hk2 := List.mem_range.mp hk
  match k, hk2 with
  | 0, _ => exact tb_m (i := 209) (by decide +kernel) rfl
  | 1, _ => exact tb_m (i := 211) (by decide +kernel) rfl
  | 2, _ => exact tb_m (i := 213) (by decide +kernel) rfl
  | k + 3, h => exact absurd h (by omega)
theorem cl_A : ClOk 4 "ClockPost$Acts" fT_A 3 fY_A := ⟨rfl, clw_A, by decide +kernel, by decide +kernel⟩
theorem clw_O : ∀ w ∈ u_ws "ClockPost$OrderSearch" fT_O 4, w ∈ tbl := by
  intro w hw
  obtain ⟨k, hk, rfl⟩ := List.mem_map.mp hw
  have hk2 := List.mem_range.mp hk
  match k, hk2 with
  | 0, _ => exact tb_m (i := 230) (by decide +kernel) rfl
  | 1, _ => exact tb_m (i := 232) (by decide +kernel) rfl
  | 2, _ => exact tb_m (i := 234) (by decide +kernel) rfl
  | 3, _ => exact tb_m (i := 236) (by decide +kernel) rfl
  | k + 4, h => exact absurd h (by omega)
theorem cl_O : ClOk 5 "ClockPost$OrderSearch" fT_O 4 fY_O := ⟨rfl, clw_O, by decide +kernel, by decide +kernel⟩
theorem clw_P : ∀ w ∈ u_ws "ClockPost$Tape" fT_P 5, w ∈ tbl := by
  intro w hw
  obtain ⟨k, hk, rfl⟩ := List.mem_map.mp hw
  have hk2 := List.mem_range.mp hk
  match k, hk2 with
  | 0, _ => exact tb_m (i := 104) (by decide +kernel) rfl
  | 1, _ => exact tb_m (i := 106) (by decide +kernel) rfl
  | 2, _ => exact tb_m (i := 108) (by decide +kernel) rfl
  | 3, _ => exact tb_m (i := 110) (by decide +kernel) rfl
  | 4, _ => exact tb_m (i := 112) (by decide +kernel) rfl
  | k + 5, h => exact absurd h (by omega)
theorem cl_P : ClOk 6 "ClockPost$Tape" fT_P 5 fY_P := ⟨rfl, clw_P, by decide +kernel, by decide +kernel⟩
theorem clw_X : ∀ w ∈ u_ws "ClockPost" fT_X 9, w ∈ tbl := by
  intro w hw
  obtain ⟨k, hk, rfl⟩ := List.mem_map.mp hw
  have hk2 := List.mem_range.mp hk
  match k, hk2 with
  | 0, _ => exact tb_m (i := 285) (by decide +kernel) rfl
  | 1, _ => exact tb_m (i := 287) (by decide +kernel) rfl
  | 2, _ => exact tb_m (i := 289) (by decide +kernel) rfl
  | 3, _ => exact tb_m (i := 291) (by decide +kernel) rfl
  | 4, _ => exact tb_m (i := 293) (by decide +kernel) rfl
  | 5, _ => exact tb_m (i := 295) (by decide +kernel) rfl
  | 6, _ => exact tb_m (i := 297) (by decide +kernel) rfl
  | 7, _ => exact tb_m (i := 299) (by decide +kernel) rfl
  | 8, _ => exact tb_m (i := 301) (by decide +kernel) rfl
  | k + 9, h => exact absurd h (by omega)
theorem cl_X : ClOk 7 "ClockPost" fT_X 9 fY_X := ⟨rfl, clw_X, by decide +kernel, by decide +kernel⟩
theorem clw_M : ∀ w ∈ u_ws "ClockPostModel" fT_M 18, w ∈ tbl := by
  intro w hw
  obtain ⟨k, hk, rfl⟩ := List.mem_map.mp hw
  have hk2 := List.mem_range.mp hk
  match k, hk2 with
  | 0, _ => exact tb_m (i := 734) (by decide +kernel) rfl
  | 1, _ => exact tb_m (i := 736) (by decide +kernel) rfl
  | 2, _ => exact tb_m (i := 738) (by decide +kernel) rfl
  | 3, _ => exact tb_m (i := 740) (by decide +kernel) rfl
  | 4, _ => exact tb_m (i := 742) (by decide +kernel) rfl
  | 5, _ => exact tb_m (i := 744) (by decide +kernel) rfl
  | 6, _ => exact tb_m (i := 746) (by decide +kernel) rfl
  | 7, _ => exact tb_m (i := 748) (by decide +kernel) rfl
  | 8, _ => exact tb_m (i := 750) (by decide +kernel) rfl
  | 9, _ => exact tb_m (i := 752) (by decide +kernel) rfl
  | 10, _ => exact tb_m (i := 754) (by decide +kernel) rfl
  | 11, _ => exact tb_m (i := 756) (by decide +kernel) rfl
  | 12, _ => exact tb_m (i := 758) (by decide +kernel) rfl
  | 13, _ => exact tb_m (i := 760) (by decide +kernel) rfl
  | 14, _ => exact tb_m (i := 762) (by decide +kernel) rfl
  | 15, _ => exact tb_m (i := 764) (by decide +kernel) rfl
  | 16, _ => exact tb_m (i := 766) (by decide +kernel) rfl
  | 17, _ => exact tb_m (i := 768) (by decide +kernel) rfl
  | k + 18, h => exact absurd h (by omega)
theorem cl_M : ClOk 8 "ClockPostModel" fT_M 18 fY_M := ⟨rfl, clw_M, by decide +kernel, by decide +kernel⟩
theorem lf_X_11 : LkF "ClockPost" 11 7 0 (.array (.object "ClockPost$Row")) true := ⟨_, _, _, _, cl_X, by decide, tb_m (i := 276) (by decide +kernel) rfl, rfl, rfl, rfl⟩
theorem lf_X_18 : LkF "ClockPost" 18 7 1 (.object "ClockPost$Tape") true := ⟨_, _, _, _, cl_X, by decide, tb_m (i := 277) (by decide +kernel) rfl, rfl, rfl, rfl⟩
theorem lf_X_25 : LkF "ClockPost" 25 7 2 (.object "ClockPost$House") true := ⟨_, _, _, _, cl_X, by decide, tb_m (i := 278) (by decide +kernel) rfl, rfl, rfl, rfl⟩
theorem lf_X_29 : LkF "ClockPost" 29 7 3 (.object "ClockPost$House") true := ⟨_, _, _, _, cl_X, by decide, tb_m (i := 279) (by decide +kernel) rfl, rfl, rfl, rfl⟩
theorem lf_X_32 : LkF "ClockPost" 32 7 4 (.array (.object "ClockPost$House")) true := ⟨_, _, _, _, cl_X, by decide, tb_m (i := 280) (by decide +kernel) rfl, rfl, rfl, rfl⟩
theorem lf_X_39 : LkF "ClockPost" 39 7 5 (.object "ClockPost$Acts") true := ⟨_, _, _, _, cl_X, by decide, tb_m (i := 281) (by decide +kernel) rfl, rfl, rfl, rfl⟩
theorem lf_X_46 : LkF "ClockPost" 46 7 6 (.object "ClockPost$OrderSearch") true := ⟨_, _, _, _, cl_X, by decide, tb_m (i := 282) (by decide +kernel) rfl, rfl, rfl, rfl⟩
theorem lf_X_53 : LkF "ClockPost" 53 7 7 (.object "ClockPost$Trace") true := ⟨_, _, _, _, cl_X, by decide, tb_m (i := 283) (by decide +kernel) rfl, rfl, rfl, rfl⟩
theorem lf_X_78 : LkF "ClockPost" 78 1 1 (.boolean) false := ⟨_, _, _, _, cl_R, by decide, tb_m (i := 262) (by decide +kernel) rfl, rfl, rfl, rfl⟩
theorem lf_X_90 : LkF "ClockPost" 90 1 2 (.int) false := ⟨_, _, _, _, cl_R, by decide, tb_m (i := 264) (by decide +kernel) rfl, rfl, rfl, rfl⟩
theorem lf_X_94 : LkF "ClockPost" 94 1 0 (.array .int) true := ⟨_, _, _, _, cl_R, by decide, tb_m (i := 260) (by decide +kernel) rfl, rfl, rfl, rfl⟩
theorem lf_X_104 : LkF "ClockPost" 104 1 3 (.int) false := ⟨_, _, _, _, cl_R, by decide, tb_m (i := 266) (by decide +kernel) rfl, rfl, rfl, rfl⟩
theorem lf_X_110 : LkF "ClockPost" 110 6 1 (.int) false := ⟨_, _, _, _, cl_P, by decide, tb_m (i := 98) (by decide +kernel) rfl, rfl, rfl, rfl⟩
theorem lf_X_119 : LkF "ClockPost" 119 6 3 (.int) false := ⟨_, _, _, _, cl_P, by decide, tb_m (i := 102) (by decide +kernel) rfl, rfl, rfl, rfl⟩
theorem lf_X_129 : LkF "ClockPost" 129 3 2 (.int) false := ⟨_, _, _, _, cl_H, by decide, tb_m (i := 166) (by decide +kernel) rfl, rfl, rfl, rfl⟩
theorem lf_X_132 : LkF "ClockPost" 132 6 2 (.int) false := ⟨_, _, _, _, cl_P, by decide, tb_m (i := 99) (by decide +kernel) rfl, rfl, rfl, rfl⟩
theorem lf_X_135 : LkF "ClockPost" 135 3 1 (.boolean) false := ⟨_, _, _, _, cl_H, by decide, tb_m (i := 163) (by decide +kernel) rfl, rfl, rfl, rfl⟩
theorem lf_X_139 : LkF "ClockPost" 139 3 5 (.int) false := ⟨_, _, _, _, cl_H, by decide, tb_m (i := 174) (by decide +kernel) rfl, rfl, rfl, rfl⟩
theorem lf_X_149 : LkF "ClockPost" 149 3 4 (.int) false := ⟨_, _, _, _, cl_H, by decide, tb_m (i := 172) (by decide +kernel) rfl, rfl, rfl, rfl⟩
theorem lf_X_162 : LkF "ClockPost" 162 3 7 (.int) false := ⟨_, _, _, _, cl_H, by decide, tb_m (i := 178) (by decide +kernel) rfl, rfl, rfl, rfl⟩
theorem lf_X_171 : LkF "ClockPost" 171 3 0 (.array (.object "ClockPost$Letter")) true := ⟨_, _, _, _, cl_H, by decide, tb_m (i := 160) (by decide +kernel) rfl, rfl, rfl, rfl⟩
theorem lf_X_175 : LkF "ClockPost" 175 0 1 (.int) false := ⟨_, _, _, _, cl_L, by decide, tb_m (i := 134) (by decide +kernel) rfl, rfl, rfl, rfl⟩
theorem lf_X_183 : LkF "ClockPost" 183 4 2 (.int) false := ⟨_, _, _, _, cl_A, by decide, tb_m (i := 208) (by decide +kernel) rfl, rfl, rfl, rfl⟩
theorem lf_X_186 : LkF "ClockPost" 186 0 2 (.int) false := ⟨_, _, _, _, cl_L, by decide, tb_m (i := 138) (by decide +kernel) rfl, rfl, rfl, rfl⟩
theorem lf_X_189 : LkF "ClockPost" 189 0 3 (.int) false := ⟨_, _, _, _, cl_L, by decide, tb_m (i := 142) (by decide +kernel) rfl, rfl, rfl, rfl⟩
theorem lf_X_192 : LkF "ClockPost" 192 0 4 (.int) false := ⟨_, _, _, _, cl_L, by decide, tb_m (i := 146) (by decide +kernel) rfl, rfl, rfl, rfl⟩
theorem lf_X_209 : LkF "ClockPost" 209 3 6 (.int) false := ⟨_, _, _, _, cl_H, by decide, tb_m (i := 176) (by decide +kernel) rfl, rfl, rfl, rfl⟩
theorem lf_X_222 : LkF "ClockPost" 222 5 3 (.int) false := ⟨_, _, _, _, cl_O, by decide, tb_m (i := 229) (by decide +kernel) rfl, rfl, rfl, rfl⟩
theorem lf_X_225 : LkF "ClockPost" 225 5 2 (.array .int) true := ⟨_, _, _, _, cl_O, by decide, tb_m (i := 227) (by decide +kernel) rfl, rfl, rfl, rfl⟩
theorem lf_X_277 : LkF "ClockPost" 277 0 0 (.int) false := ⟨_, _, _, _, cl_L, by decide, tb_m (i := 131) (by decide +kernel) rfl, rfl, rfl, rfl⟩
theorem lf_X_283 : LkF "ClockPost" 283 2 1 (.int) false := ⟨_, _, _, _, cl_T, by decide, tb_m (i := 248) (by decide +kernel) rfl, rfl, rfl, rfl⟩
theorem lf_X_291 : LkF "ClockPost" 291 2 0 (.array .int) true := ⟨_, _, _, _, cl_T, by decide, tb_m (i := 246) (by decide +kernel) rfl, rfl, rfl, rfl⟩
theorem lf_X_297 : LkF "ClockPost" 297 3 3 (.int) false := ⟨_, _, _, _, cl_H, by decide, tb_m (i := 169) (by decide +kernel) rfl, rfl, rfl, rfl⟩
theorem lf_X_300 : LkF "ClockPost" 300 7 8 (.int) false := ⟨_, _, _, _, cl_X, by decide, tb_m (i := 284) (by decide +kernel) rfl, rfl, rfl, rfl⟩
theorem lf_A_11 : LkF "ClockPost$Acts" 11 4 0 (.array (.object "ClockPost$House")) true := ⟨_, _, _, _, cl_A, by decide, tb_m (i := 205) (by decide +kernel) rfl, rfl, rfl, rfl⟩
theorem lf_A_18 : LkF "ClockPost$Acts" 18 4 1 (.int) false := ⟨_, _, _, _, cl_A, by decide, tb_m (i := 206) (by decide +kernel) rfl, rfl, rfl, rfl⟩
theorem lf_A_22 : LkF "ClockPost$Acts" 22 4 2 (.int) false := ⟨_, _, _, _, cl_A, by decide, tb_m (i := 207) (by decide +kernel) rfl, rfl, rfl, rfl⟩
theorem lf_H_11 : LkF "ClockPost$House" 11 3 0 (.array (.object "ClockPost$Letter")) true := ⟨_, _, _, _, cl_H, by decide, tb_m (i := 158) (by decide +kernel) rfl, rfl, rfl, rfl⟩
theorem lf_H_18 : LkF "ClockPost$House" 18 3 1 (.boolean) false := ⟨_, _, _, _, cl_H, by decide, tb_m (i := 161) (by decide +kernel) rfl, rfl, rfl, rfl⟩
theorem lf_H_22 : LkF "ClockPost$House" 22 3 2 (.int) false := ⟨_, _, _, _, cl_H, by decide, tb_m (i := 164) (by decide +kernel) rfl, rfl, rfl, rfl⟩
theorem lf_H_26 : LkF "ClockPost$House" 26 3 3 (.int) false := ⟨_, _, _, _, cl_H, by decide, tb_m (i := 167) (by decide +kernel) rfl, rfl, rfl, rfl⟩
theorem lf_H_29 : LkF "ClockPost$House" 29 3 4 (.int) false := ⟨_, _, _, _, cl_H, by decide, tb_m (i := 170) (by decide +kernel) rfl, rfl, rfl, rfl⟩
theorem lf_H_32 : LkF "ClockPost$House" 32 3 5 (.int) false := ⟨_, _, _, _, cl_H, by decide, tb_m (i := 173) (by decide +kernel) rfl, rfl, rfl, rfl⟩
theorem lf_H_35 : LkF "ClockPost$House" 35 3 6 (.int) false := ⟨_, _, _, _, cl_H, by decide, tb_m (i := 175) (by decide +kernel) rfl, rfl, rfl, rfl⟩
theorem lf_H_38 : LkF "ClockPost$House" 38 3 7 (.int) false := ⟨_, _, _, _, cl_H, by decide, tb_m (i := 177) (by decide +kernel) rfl, rfl, rfl, rfl⟩
theorem lf_H_64 : LkF "ClockPost$House" 64 0 2 (.int) false := ⟨_, _, _, _, cl_L, by decide, tb_m (i := 137) (by decide +kernel) rfl, rfl, rfl, rfl⟩
theorem lf_H_77 : LkF "ClockPost$House" 77 0 4 (.int) false := ⟨_, _, _, _, cl_L, by decide, tb_m (i := 145) (by decide +kernel) rfl, rfl, rfl, rfl⟩
theorem lf_H_87 : LkF "ClockPost$House" 87 0 3 (.int) false := ⟨_, _, _, _, cl_L, by decide, tb_m (i := 141) (by decide +kernel) rfl, rfl, rfl, rfl⟩
theorem lf_L_9 : LkF "ClockPost$Letter" 9 0 0 (.int) false := ⟨_, _, _, _, cl_L, by decide, tb_m (i := 129) (by decide +kernel) rfl, rfl, rfl, rfl⟩
theorem lf_L_15 : LkF "ClockPost$Letter" 15 0 1 (.int) false := ⟨_, _, _, _, cl_L, by decide, tb_m (i := 132) (by decide +kernel) rfl, rfl, rfl, rfl⟩
theorem lf_L_18 : LkF "ClockPost$Letter" 18 0 2 (.int) false := ⟨_, _, _, _, cl_L, by decide, tb_m (i := 135) (by decide +kernel) rfl, rfl, rfl, rfl⟩
theorem lf_L_21 : LkF "ClockPost$Letter" 21 0 3 (.int) false := ⟨_, _, _, _, cl_L, by decide, tb_m (i := 139) (by decide +kernel) rfl, rfl, rfl, rfl⟩
theorem lf_L_24 : LkF "ClockPost$Letter" 24 0 4 (.int) false := ⟨_, _, _, _, cl_L, by decide, tb_m (i := 143) (by decide +kernel) rfl, rfl, rfl, rfl⟩
theorem lf_O_11 : LkF "ClockPost$OrderSearch" 11 5 0 (.array (.object "ClockPost$House")) true := ⟨_, _, _, _, cl_O, by decide, tb_m (i := 224) (by decide +kernel) rfl, rfl, rfl, rfl⟩
theorem lf_O_17 : LkF "ClockPost$OrderSearch" 17 5 1 (.array .int) true := ⟨_, _, _, _, cl_O, by decide, tb_m (i := 225) (by decide +kernel) rfl, rfl, rfl, rfl⟩
theorem lf_O_21 : LkF "ClockPost$OrderSearch" 21 5 2 (.array .int) true := ⟨_, _, _, _, cl_O, by decide, tb_m (i := 226) (by decide +kernel) rfl, rfl, rfl, rfl⟩
theorem lf_O_32 : LkF "ClockPost$OrderSearch" 32 5 3 (.int) false := ⟨_, _, _, _, cl_O, by decide, tb_m (i := 228) (by decide +kernel) rfl, rfl, rfl, rfl⟩
theorem lf_R_9 : LkF "ClockPost$Row" 9 1 0 (.array .int) true := ⟨_, _, _, _, cl_R, by decide, tb_m (i := 259) (by decide +kernel) rfl, rfl, rfl, rfl⟩
theorem lf_R_15 : LkF "ClockPost$Row" 15 1 1 (.boolean) false := ⟨_, _, _, _, cl_R, by decide, tb_m (i := 261) (by decide +kernel) rfl, rfl, rfl, rfl⟩
theorem lf_R_25 : LkF "ClockPost$Row" 25 1 2 (.int) false := ⟨_, _, _, _, cl_R, by decide, tb_m (i := 263) (by decide +kernel) rfl, rfl, rfl, rfl⟩
theorem lf_R_29 : LkF "ClockPost$Row" 29 1 3 (.int) false := ⟨_, _, _, _, cl_R, by decide, tb_m (i := 265) (by decide +kernel) rfl, rfl, rfl, rfl⟩
theorem lf_P_9 : LkF "ClockPost$Tape" 9 6 0 (.array .int) true := ⟨_, _, _, _, cl_P, by decide, tb_m (i := 96) (by decide +kernel) rfl, rfl, rfl, rfl⟩
theorem lf_P_15 : LkF "ClockPost$Tape" 15 6 1 (.int) false := ⟨_, _, _, _, cl_P, by decide, tb_m (i := 97) (by decide +kernel) rfl, rfl, rfl, rfl⟩
theorem lf_P_19 : LkF "ClockPost$Tape" 19 6 3 (.int) false := ⟨_, _, _, _, cl_P, by decide, tb_m (i := 101) (by decide +kernel) rfl, rfl, rfl, rfl⟩
theorem lf_P_34 : LkF "ClockPost$Tape" 34 3 1 (.boolean) false := ⟨_, _, _, _, cl_H, by decide, tb_m (i := 162) (by decide +kernel) rfl, rfl, rfl, rfl⟩
theorem lf_P_46 : LkF "ClockPost$Tape" 46 6 4 (.int) false := ⟨_, _, _, _, cl_P, by decide, tb_m (i := 103) (by decide +kernel) rfl, rfl, rfl, rfl⟩
theorem lf_P_49 : LkF "ClockPost$Tape" 49 3 3 (.int) false := ⟨_, _, _, _, cl_H, by decide, tb_m (i := 168) (by decide +kernel) rfl, rfl, rfl, rfl⟩
theorem lf_P_66 : LkF "ClockPost$Tape" 66 3 2 (.int) false := ⟨_, _, _, _, cl_H, by decide, tb_m (i := 165) (by decide +kernel) rfl, rfl, rfl, rfl⟩
theorem lf_P_69 : LkF "ClockPost$Tape" 69 3 0 (.array (.object "ClockPost$Letter")) true := ⟨_, _, _, _, cl_H, by decide, tb_m (i := 159) (by decide +kernel) rfl, rfl, rfl, rfl⟩
theorem lf_P_73 : LkF "ClockPost$Tape" 73 0 0 (.int) false := ⟨_, _, _, _, cl_L, by decide, tb_m (i := 130) (by decide +kernel) rfl, rfl, rfl, rfl⟩
theorem lf_P_78 : LkF "ClockPost$Tape" 78 0 4 (.int) false := ⟨_, _, _, _, cl_L, by decide, tb_m (i := 144) (by decide +kernel) rfl, rfl, rfl, rfl⟩
theorem lf_P_85 : LkF "ClockPost$Tape" 85 3 4 (.int) false := ⟨_, _, _, _, cl_H, by decide, tb_m (i := 171) (by decide +kernel) rfl, rfl, rfl, rfl⟩
theorem lf_P_88 : LkF "ClockPost$Tape" 88 0 1 (.int) false := ⟨_, _, _, _, cl_L, by decide, tb_m (i := 133) (by decide +kernel) rfl, rfl, rfl, rfl⟩
theorem lf_P_91 : LkF "ClockPost$Tape" 91 0 2 (.int) false := ⟨_, _, _, _, cl_L, by decide, tb_m (i := 136) (by decide +kernel) rfl, rfl, rfl, rfl⟩
theorem lf_P_94 : LkF "ClockPost$Tape" 94 0 3 (.int) false := ⟨_, _, _, _, cl_L, by decide, tb_m (i := 140) (by decide +kernel) rfl, rfl, rfl, rfl⟩
theorem lf_P_104 : LkF "ClockPost$Tape" 104 6 2 (.int) false := ⟨_, _, _, _, cl_P, by decide, tb_m (i := 100) (by decide +kernel) rfl, rfl, rfl, rfl⟩
theorem lf_T_9 : LkF "ClockPost$Trace" 9 2 0 (.array .int) true := ⟨_, _, _, _, cl_T, by decide, tb_m (i := 245) (by decide +kernel) rfl, rfl, rfl, rfl⟩
theorem lf_T_15 : LkF "ClockPost$Trace" 15 2 1 (.int) false := ⟨_, _, _, _, cl_T, by decide, tb_m (i := 247) (by decide +kernel) rfl, rfl, rfl, rfl⟩
theorem lf_M_7 : LkF "ClockPostModel" 7 8 0 (.array .int) true := ⟨_, _, _, _, cl_M, by decide, tb_m (i := 716) (by decide +kernel) rfl, rfl, rfl, rfl⟩
theorem lf_M_13 : LkF "ClockPostModel" 13 8 3 (.array .boolean) true := ⟨_, _, _, _, cl_M, by decide, tb_m (i := 719) (by decide +kernel) rfl, rfl, rfl, rfl⟩
theorem lf_M_17 : LkF "ClockPostModel" 17 8 4 (.array .int) true := ⟨_, _, _, _, cl_M, by decide, tb_m (i := 720) (by decide +kernel) rfl, rfl, rfl, rfl⟩
theorem lf_M_20 : LkF "ClockPostModel" 20 8 5 (.array .int) true := ⟨_, _, _, _, cl_M, by decide, tb_m (i := 721) (by decide +kernel) rfl, rfl, rfl, rfl⟩
theorem lf_M_23 : LkF "ClockPostModel" 23 8 6 (.array .int) true := ⟨_, _, _, _, cl_M, by decide, tb_m (i := 722) (by decide +kernel) rfl, rfl, rfl, rfl⟩
theorem lf_M_26 : LkF "ClockPostModel" 26 8 7 (.array .int) true := ⟨_, _, _, _, cl_M, by decide, tb_m (i := 723) (by decide +kernel) rfl, rfl, rfl, rfl⟩
theorem lf_M_29 : LkF "ClockPostModel" 29 8 11 (.array .int) true := ⟨_, _, _, _, cl_M, by decide, tb_m (i := 727) (by decide +kernel) rfl, rfl, rfl, rfl⟩
theorem lf_M_32 : LkF "ClockPostModel" 32 8 16 (.array .int) true := ⟨_, _, _, _, cl_M, by decide, tb_m (i := 732) (by decide +kernel) rfl, rfl, rfl, rfl⟩
theorem lf_M_35 : LkF "ClockPostModel" 35 8 17 (.array .int) true := ⟨_, _, _, _, cl_M, by decide, tb_m (i := 733) (by decide +kernel) rfl, rfl, rfl, rfl⟩
theorem lf_M_38 : LkF "ClockPostModel" 38 8 10 (.int) false := ⟨_, _, _, _, cl_M, by decide, tb_m (i := 726) (by decide +kernel) rfl, rfl, rfl, rfl⟩
theorem lf_M_73 : LkF "ClockPostModel" 73 8 8 (.int) false := ⟨_, _, _, _, cl_M, by decide, tb_m (i := 724) (by decide +kernel) rfl, rfl, rfl, rfl⟩
theorem lf_M_77 : LkF "ClockPostModel" 77 8 13 (.int) false := ⟨_, _, _, _, cl_M, by decide, tb_m (i := 729) (by decide +kernel) rfl, rfl, rfl, rfl⟩
theorem lf_M_84 : LkF "ClockPostModel" 84 8 14 (.int) false := ⟨_, _, _, _, cl_M, by decide, tb_m (i := 730) (by decide +kernel) rfl, rfl, rfl, rfl⟩
theorem lf_M_96 : LkF "ClockPostModel" 96 8 15 (.int) false := ⟨_, _, _, _, cl_M, by decide, tb_m (i := 731) (by decide +kernel) rfl, rfl, rfl, rfl⟩
theorem lf_M_122 : LkF "ClockPostModel" 122 8 9 (.int) false := ⟨_, _, _, _, cl_M, by decide, tb_m (i := 725) (by decide +kernel) rfl, rfl, rfl, rfl⟩
theorem lf_M_130 : LkF "ClockPostModel" 130 8 1 (.boolean) false := ⟨_, _, _, _, cl_M, by decide, tb_m (i := 717) (by decide +kernel) rfl, rfl, rfl, rfl⟩
theorem lf_M_134 : LkF "ClockPostModel" 134 8 2 (.int) false := ⟨_, _, _, _, cl_M, by decide, tb_m (i := 718) (by decide +kernel) rfl, rfl, rfl, rfl⟩
theorem lf_M_247 : LkF "ClockPostModel" 247 8 12 (.int) false := ⟨_, _, _, _, cl_M, by decide, tb_m (i := 728) (by decide +kernel) rfl, rfl, rfl, rfl⟩
theorem lg_X_310 : Cond.fieldLink "ClockPost" 310 "ClockPost" "NEAREST_KIND" "[I" ∈ tbl := tb_m (i := 674) (by decide +kernel) rfl
theorem lg_X_313 : Cond.fieldLink "ClockPost" 313 "ClockPost" "SIZE_BODIES" "[I" ∈ tbl := tb_m (i := 683) (by decide +kernel) rfl
theorem lg_X_316 : Cond.fieldLink "ClockPost" 316 "ClockPost" "MARK_BODIES" "[I" ∈ tbl := tb_m (i := 685) (by decide +kernel) rfl
abbrev b_A_forgetAll : ByteArray := prog_2_method_4_code
theorem cw_A_forgetAll : Cond.code y_A_forgetAll b_A_forgetAll 1 (none) ∈ tbl := tb_m (i := 427) (by decide +kernel) rfl
abbrev b_A_init : ByteArray := prog_2_method_1_code
theorem cw_A_init : Cond.code y_A_init b_A_init 2 (none) ∈ tbl := tb_m (i := 201) (by decide +kernel) rfl
abbrev b_A_keep : ByteArray := prog_2_method_2_code
theorem cw_A_keep : Cond.code y_A_keep b_A_keep 2 (none) ∈ tbl := tb_m (i := 440) (by decide +kernel) rfl
abbrev b_A_takeBack : ByteArray := prog_2_method_3_code
theorem cw_A_takeBack : Cond.code y_A_takeBack b_A_takeBack 2 (some FieldType.boolean) ∈ tbl := tb_m (i := 522) (by decide +kernel) rfl
abbrev b_H_answerOne : ByteArray := prog_3_method_12_code
theorem cw_H_answerOne : Cond.code y_H_answerOne b_H_answerOne 2 (none) ∈ tbl := tb_m (i := 501) (by decide +kernel) rfl
abbrev b_H_become : ByteArray := prog_3_method_3_code
theorem cw_H_become : Cond.code y_H_become b_H_become 3 (none) ∈ tbl := tb_m (i := 419) (by decide +kernel) rfl
abbrev b_H_clear : ByteArray := prog_3_method_2_code
theorem cw_H_clear : Cond.code y_H_clear b_H_clear 1 (none) ∈ tbl := tb_m (i := 375) (by decide +kernel) rfl
abbrev b_H_hasLetter : ByteArray := prog_3_method_4_code
theorem cw_H_hasLetter : Cond.code y_H_hasLetter b_H_hasLetter 2 (some FieldType.boolean) ∈ tbl := tb_m (i := 461) (by decide +kernel) rfl
abbrev b_H_init : ByteArray := prog_3_method_1_code
theorem cw_H_init : Cond.code y_H_init b_H_init 2 (none) ∈ tbl := tb_m (i := 120) (by decide +kernel) rfl
abbrev b_H_isBehind : ByteArray := prog_3_method_5_code
theorem cw_H_isBehind : Cond.code y_H_isBehind b_H_isBehind 2 (some FieldType.boolean) ∈ tbl := tb_m (i := 457) (by decide +kernel) rfl
abbrev b_H_nextToFall : ByteArray := prog_3_method_10_code
theorem cw_H_nextToFall : Cond.code y_H_nextToFall b_H_nextToFall 3 (some FieldType.int) ∈ tbl := tb_m (i := 483) (by decide +kernel) rfl
abbrev b_H_passDay : ByteArray := prog_3_method_9_code
theorem cw_H_passDay : Cond.code y_H_passDay b_H_passDay 4 (some FieldType.int) ∈ tbl := tb_m (i := 445) (by decide +kernel) rfl
abbrev b_H_putBehind : ByteArray := prog_3_method_13_code
theorem cw_H_putBehind : Cond.code y_H_putBehind b_H_putBehind 2 (none) ∈ tbl := tb_m (i := 509) (by decide +kernel) rfl
abbrev b_H_takeAway : ByteArray := prog_3_method_11_code
theorem cw_H_takeAway : Cond.code y_H_takeAway b_H_takeAway 3 (none) ∈ tbl := tb_m (i := 491) (by decide +kernel) rfl
abbrev b_H_takeDraw : ByteArray := prog_3_method_14_code
theorem cw_H_takeDraw : Cond.code y_H_takeDraw b_H_takeDraw 4 (none) ∈ tbl := tb_m (i := 648) (by decide +kernel) rfl
abbrev b_H_thickness : ByteArray := prog_3_method_8_code
theorem cw_H_thickness : Cond.code y_H_thickness b_H_thickness 3 (some FieldType.int) ∈ tbl := tb_m (i := 479) (by decide +kernel) rfl
abbrev b_H_weight : ByteArray := prog_3_method_7_code
theorem cw_H_weight : Cond.code y_H_weight b_H_weight 3 (some FieldType.int) ∈ tbl := tb_m (i := 449) (by decide +kernel) rfl
abbrev b_H_weightOf : ByteArray := prog_3_method_6_code
theorem cw_H_weightOf : Cond.code y_H_weightOf b_H_weightOf 2 (some FieldType.int) ∈ tbl := tb_m (i := 453) (by decide +kernel) rfl
abbrev b_JA_fill : ByteArray := prog_14_method_103_code
theorem cw_JA_fill : Cond.code y_JA_fill b_JA_fill 4 (none) ∈ tbl := tb_m (i := 326) (by decide +kernel) rfl
abbrev b_JI_bitCount : ByteArray := prog_11_method_49_code
theorem cw_JI_bitCount : Cond.code y_JI_bitCount b_JI_bitCount 1 (some FieldType.int) ∈ tbl := tb_m (i := 464) (by decide +kernel) rfl
abbrev b_JM_max : ByteArray := prog_12_method_65_code
theorem cw_JM_max : Cond.code y_JM_max b_JM_max 2 (some FieldType.int) ∈ tbl := tb_m (i := 637) (by decide +kernel) rfl
abbrev b_JM_min : ByteArray := prog_12_method_69_code
theorem cw_JM_min : Cond.code y_JM_min b_JM_min 2 (some FieldType.int) ∈ tbl := tb_m (i := 474) (by decide +kernel) rfl
abbrev b_L_become : ByteArray := prog_4_method_2_code
theorem cw_L_become : Cond.code y_L_become b_L_become 2 (none) ∈ tbl := tb_m (i := 423) (by decide +kernel) rfl
abbrev b_L_change : ByteArray := prog_4_method_3_code
theorem cw_L_change : Cond.code y_L_change b_L_change 3 (none) ∈ tbl := tb_m (i := 612) (by decide +kernel) rfl
abbrev b_L_fallsAheadOf : ByteArray := prog_4_method_5_code
theorem cw_L_fallsAheadOf : Cond.code y_L_fallsAheadOf b_L_fallsAheadOf 2 (some FieldType.boolean) ∈ tbl := tb_m (i := 487) (by decide +kernel) rfl
abbrev b_L_init : ByteArray := prog_4_method_1_code
theorem cw_L_init : Cond.code y_L_init b_L_init 1 (none) ∈ tbl := tb_m (i := 127) (by decide +kernel) rfl
abbrev b_L_weighAmong : ByteArray := prog_4_method_4_code
theorem cw_L_weighAmong : Cond.code y_L_weighAmong b_L_weighAmong 2 (some FieldType.int) ∈ tbl := tb_m (i := 471) (by decide +kernel) rfl
abbrev b_M_answer : ByteArray := prog_10_method_42_code
theorem cw_M_answer : Cond.code y_M_answer b_M_answer 2 (some FieldType.int) ∈ tbl := tb_m (i := 928) (by decide +kernel) rfl
abbrev b_M_answers : ByteArray := prog_10_method_41_code
theorem cw_M_answers : Cond.code y_M_answers b_M_answers 3 (none) ∈ tbl := tb_m (i := 936) (by decide +kernel) rfl
abbrev b_M_answersAll : ByteArray := prog_10_method_57_code
theorem cw_M_answersAll : Cond.code y_M_answersAll b_M_answersAll 3 (none) ∈ tbl := tb_m (i := 1016) (by decide +kernel) rfl
abbrev b_M_as : ByteArray := prog_10_method_73_code
theorem cw_M_as : Cond.code y_M_as b_M_as 3 (some FieldType.int) ∈ tbl := tb_m (i := 1071) (by decide +kernel) rfl
abbrev b_M_ask : ByteArray := prog_10_method_83_code
theorem cw_M_ask : Cond.code y_M_ask b_M_ask 3 (some FieldType.int) ∈ tbl := tb_m (i := 1079) (by decide +kernel) rfl
abbrev b_M_atMost : ByteArray := prog_10_method_5_code
theorem cw_M_atMost : Cond.code y_M_atMost b_M_atMost 2 (some FieldType.int) ∈ tbl := tb_m (i := 907) (by decide +kernel) rfl
abbrev b_M_away : ByteArray := prog_10_method_37_code
theorem cw_M_away : Cond.code y_M_away b_M_away 4 (none) ∈ tbl := tb_m (i := 924) (by decide +kernel) rfl
abbrev b_M_begin : ByteArray := prog_10_method_74_code
theorem cw_M_begin : Cond.code y_M_begin b_M_begin 2 (none) ∈ tbl := tb_m (i := 1087) (by decide +kernel) rfl
abbrev b_M_behind : ByteArray := prog_10_method_51_code
theorem cw_M_behind : Cond.code y_M_behind b_M_behind 3 (some FieldType.int) ∈ tbl := tb_m (i := 978) (by decide +kernel) rfl
abbrev b_M_billMark : ByteArray := prog_10_method_80_code
theorem cw_M_billMark : Cond.code y_M_billMark b_M_billMark 2 (some FieldType.int) ∈ tbl := tb_m (i := 1103) (by decide +kernel) rfl
abbrev b_M_billSize : ByteArray := prog_10_method_76_code
theorem cw_M_billSize : Cond.code y_M_billSize b_M_billSize 3 (some FieldType.int) ∈ tbl := tb_m (i := 1091) (by decide +kernel) rfl
abbrev b_M_bits : ByteArray := prog_10_method_4_code
theorem cw_M_bits : Cond.code y_M_bits b_M_bits 3 (some FieldType.int) ∈ tbl := tb_m (i := 904) (by decide +kernel) rfl
abbrev b_M_burden : ByteArray := prog_10_method_49_code
theorem cw_M_burden : Cond.code y_M_burden b_M_burden 3 (some FieldType.int) ∈ tbl := tb_m (i := 957) (by decide +kernel) rfl
abbrev b_M_burdenAt : ByteArray := prog_10_method_33_code
theorem cw_M_burdenAt : Cond.code y_M_burdenAt b_M_burdenAt 4 (some FieldType.int) ∈ tbl := tb_m (i := 894) (by decide +kernel) rfl
abbrev b_M_copy : ByteArray := prog_10_method_13_code
theorem cw_M_copy : Cond.code y_M_copy b_M_copy 9 (some FieldType.int) ∈ tbl := tb_m (i := 804) (by decide +kernel) rfl
abbrev b_M_copyTown : ByteArray := prog_10_method_28_code
theorem cw_M_copyTown : Cond.code y_M_copyTown b_M_copyTown 4 (none) ∈ tbl := tb_m (i := 868) (by decide +kernel) rfl
abbrev b_M_count : ByteArray := prog_10_method_85_code
theorem cw_M_count : Cond.code y_M_count b_M_count 4 (some FieldType.int) ∈ tbl := tb_m (i := 1123) (by decide +kernel) rfl
abbrev b_M_days : ByteArray := prog_10_method_40_code
theorem cw_M_days : Cond.code y_M_days b_M_days 3 (some FieldType.int) ∈ tbl := tb_m (i := 881) (by decide +kernel) rfl
abbrev b_M_drawn : ByteArray := prog_10_method_68_code
theorem cw_M_drawn : Cond.code y_M_drawn b_M_drawn 9 (some FieldType.int) ∈ tbl := tb_m (i := 1051) (by decide +kernel) rfl
abbrev b_M_dread : ByteArray := prog_10_method_45_code
theorem cw_M_dread : Cond.code y_M_dread b_M_dread 4 (some FieldType.int) ∈ tbl := tb_m (i := 948) (by decide +kernel) rfl
abbrev b_M_drop : ByteArray := prog_10_method_14_code
theorem cw_M_drop : Cond.code y_M_drop b_M_drop 3 (some FieldType.int) ∈ tbl := tb_m (i := 812) (by decide +kernel) rfl
abbrev b_M_ease : ByteArray := prog_10_method_62_code
theorem cw_M_ease : Cond.code y_M_ease b_M_ease 5 (some FieldType.int) ∈ tbl := tb_m (i := 1024) (by decide +kernel) rfl
abbrev b_M_eases : ByteArray := prog_10_method_59_code
theorem cw_M_eases : Cond.code y_M_eases b_M_eases 6 (some FieldType.boolean) ∈ tbl := tb_m (i := 1020) (by decide +kernel) rfl
abbrev b_M_falls : ByteArray := prog_10_method_52_code
theorem cw_M_falls : Cond.code y_M_falls b_M_falls 4 (some FieldType.int) ∈ tbl := tb_m (i := 982) (by decide +kernel) rfl
abbrev b_M_fallsAhead : ByteArray := prog_10_method_35_code
theorem cw_M_fallsAhead : Cond.code y_M_fallsAhead b_M_fallsAhead 5 (some FieldType.boolean) ∈ tbl := tb_m (i := 916) (by decide +kernel) rfl
abbrev b_M_fault : ByteArray := prog_10_method_27_code
theorem cw_M_fault : Cond.code y_M_fault b_M_fault 1 (some FieldType.int) ∈ tbl := tb_m (i := 872) (by decide +kernel) rfl
abbrev b_M_feed : ByteArray := prog_10_method_15_code
theorem cw_M_feed : Cond.code y_M_feed b_M_feed 2 (some FieldType.int) ∈ tbl := tb_m (i := 816) (by decide +kernel) rfl
abbrev b_M_fewest : ByteArray := prog_10_method_60_code
theorem cw_M_fewest : Cond.code y_M_fewest b_M_fewest 6 (some FieldType.int) ∈ tbl := tb_m (i := 1008) (by decide +kernel) rfl
abbrev b_M_find : ByteArray := prog_10_method_6_code
theorem cw_M_find : Cond.code y_M_find b_M_find 2 (some FieldType.int) ∈ tbl := tb_m (i := 788) (by decide +kernel) rfl
abbrev b_M_fits : ByteArray := prog_10_method_65_code
theorem cw_M_fits : Cond.code y_M_fits b_M_fits 11 (some FieldType.int) ∈ tbl := tb_m (i := 1029) (by decide +kernel) rfl
abbrev b_M_growsBy : ByteArray := prog_10_method_55_code
theorem cw_M_growsBy : Cond.code y_M_growsBy b_M_growsBy 4 (some FieldType.int) ∈ tbl := tb_m (i := 992) (by decide +kernel) rfl
abbrev b_M_has : ByteArray := prog_10_method_3_code
theorem cw_M_has : Cond.code y_M_has b_M_has 2 (some FieldType.boolean) ∈ tbl := tb_m (i := 901) (by decide +kernel) rfl
abbrev b_M_hold : ByteArray := prog_10_method_61_code
theorem cw_M_hold : Cond.code y_M_hold b_M_hold 4 (some FieldType.int) ∈ tbl := tb_m (i := 1004) (by decide +kernel) rfl
abbrev b_M_holds : ByteArray := prog_10_method_58_code
theorem cw_M_holds : Cond.code y_M_holds b_M_holds 4 (some FieldType.boolean) ∈ tbl := tb_m (i := 1012) (by decide +kernel) rfl
abbrev b_M_house : ByteArray := prog_10_method_26_code
theorem cw_M_house : Cond.code y_M_house b_M_house 2 (some FieldType.int) ∈ tbl := tb_m (i := 822) (by decide +kernel) rfl
abbrev b_M_image : ByteArray := prog_10_method_69_code
theorem cw_M_image : Cond.code y_M_image b_M_image 2 (some FieldType.int) ∈ tbl := tb_m (i := 1059) (by decide +kernel) rfl
abbrev b_M_in : ByteArray := prog_10_method_2_code
theorem cw_M_in : Cond.code y_M_in b_M_in 6 (some FieldType.boolean) ∈ tbl := tb_m (i := 782) (by decide +kernel) rfl
abbrev b_M_init : ByteArray := prog_10_method_1_code
theorem cw_M_init : Cond.code y_M_init b_M_init 1 (none) ∈ tbl := tb_m (i := 714) (by decide +kernel) rfl
abbrev b_M_isFigure : ByteArray := prog_10_method_17_code
theorem cw_M_isFigure : Cond.code y_M_isFigure b_M_isFigure 2 (some FieldType.boolean) ∈ tbl := tb_m (i := 850) (by decide +kernel) rfl
abbrev b_M_isLetter : ByteArray := prog_10_method_16_code
theorem cw_M_isLetter : Cond.code y_M_isLetter b_M_isLetter 2 (some FieldType.boolean) ∈ tbl := tb_m (i := 838) (by decide +kernel) rfl
abbrev b_M_isLetterThere : ByteArray := prog_10_method_31_code
theorem cw_M_isLetterThere : Cond.code y_M_isLetterThere b_M_isLetterThere 2 (some FieldType.boolean) ∈ tbl := tb_m (i := 932) (by decide +kernel) rfl
abbrev b_M_isOf : ByteArray := prog_10_method_72_code
theorem cw_M_isOf : Cond.code y_M_isOf b_M_isOf 4 (some FieldType.boolean) ∈ tbl := tb_m (i := 1075) (by decide +kernel) rfl
abbrev b_M_isRow : ByteArray := prog_10_method_8_code
theorem cw_M_isRow : Cond.code y_M_isRow b_M_isRow 1 (some FieldType.boolean) ∈ tbl := tb_m (i := 778) (by decide +kernel) rfl
abbrev b_M_isSo : ByteArray := prog_10_method_64_code
theorem cw_M_isSo : Cond.code y_M_isSo b_M_isSo 5 (some FieldType.boolean) ∈ tbl := tb_m (i := 1038) (by decide +kernel) rfl
abbrev b_M_isSort : ByteArray := prog_10_method_24_code
theorem cw_M_isSort : Cond.code y_M_isSort b_M_isSort 1 (some FieldType.boolean) ∈ tbl := tb_m (i := 856) (by decide +kernel) rfl
abbrev b_M_isSpan : ByteArray := prog_10_method_12_code
theorem cw_M_isSpan : Cond.code y_M_isSpan b_M_isSpan 4 (some FieldType.boolean) ∈ tbl := tb_m (i := 808) (by decide +kernel) rfl
abbrev b_M_keepPast : ByteArray := prog_10_method_29_code
theorem cw_M_keepPast : Cond.code y_M_keepPast b_M_keepPast 2 (none) ∈ tbl := tb_m (i := 886) (by decide +kernel) rfl
abbrev b_M_kind : ByteArray := prog_10_method_71_code
theorem cw_M_kind : Cond.code y_M_kind b_M_kind 2 (some FieldType.int) ∈ tbl := tb_m (i := 1067) (by decide +kernel) rfl
abbrev b_M_kindOfLetter : ByteArray := prog_10_method_22_code
theorem cw_M_kindOfLetter : Cond.code y_M_kindOfLetter b_M_kindOfLetter 1 (some FieldType.int) ∈ tbl := tb_m (i := 859) (by decide +kernel) rfl
abbrev b_M_layTried : ByteArray := prog_10_method_47_code
theorem cw_M_layTried : Cond.code y_M_layTried b_M_layTried 1 (none) ∈ tbl := tb_m (i := 966) (by decide +kernel) rfl
abbrev b_M_lentMark : ByteArray := prog_10_method_79_code
theorem cw_M_lentMark : Cond.code y_M_lentMark b_M_lentMark 2 (some FieldType.int) ∈ tbl := tb_m (i := 1107) (by decide +kernel) rfl
abbrev b_M_lentSize : ByteArray := prog_10_method_75_code
theorem cw_M_lentSize : Cond.code y_M_lentSize b_M_lentSize 2 (some FieldType.int) ∈ tbl := tb_m (i := 1095) (by decide +kernel) rfl
abbrev b_M_letter : ByteArray := prog_10_method_46_code
theorem cw_M_letter : Cond.code y_M_letter b_M_letter 3 (some FieldType.int) ∈ tbl := tb_m (i := 953) (by decide +kernel) rfl
abbrev b_M_lost : ByteArray := prog_10_method_67_code
theorem cw_M_lost : Cond.code y_M_lost b_M_lost 9 (some FieldType.int) ∈ tbl := tb_m (i := 1046) (by decide +kernel) rfl
abbrev b_M_mark : ByteArray := prog_10_method_81_code
theorem cw_M_mark : Cond.code y_M_mark b_M_mark 2 (some FieldType.int) ∈ tbl := tb_m (i := 1099) (by decide +kernel) rfl
abbrev b_M_narrow : ByteArray := prog_10_method_10_code
theorem cw_M_narrow : Cond.code y_M_narrow b_M_narrow 2 (some FieldType.int) ∈ tbl := tb_m (i := 800) (by decide +kernel) rfl
abbrev b_M_nextLine : ByteArray := prog_10_method_54_code
theorem cw_M_nextLine : Cond.code y_M_nextLine b_M_nextLine 6 (some FieldType.boolean) ∈ tbl := tb_m (i := 996) (by decide +kernel) rfl
abbrev b_M_nextToFall : ByteArray := prog_10_method_36_code
theorem cw_M_nextToFall : Cond.code y_M_nextToFall b_M_nextToFall 4 (some FieldType.int) ∈ tbl := tb_m (i := 911) (by decide +kernel) rfl
abbrev b_M_noDays : ByteArray := prog_10_method_48_code
theorem cw_M_noDays : Cond.code y_M_noDays b_M_noDays 2 (some FieldType.int) ∈ tbl := tb_m (i := 961) (by decide +kernel) rfl
abbrev b_M_noItems : ByteArray := prog_10_method_63_code
theorem cw_M_noItems : Cond.code y_M_noItems b_M_noItems 4 (some FieldType.int) ∈ tbl := tb_m (i := 1034) (by decide +kernel) rfl
abbrev b_M_noteMark : ByteArray := prog_10_method_82_code
theorem cw_M_noteMark : Cond.code y_M_noteMark b_M_noteMark 3 (some FieldType.int) ∈ tbl := tb_m (i := 1115) (by decide +kernel) rfl
abbrev b_M_noteSize : ByteArray := prog_10_method_77_code
theorem cw_M_noteSize : Cond.code y_M_noteSize b_M_noteSize 2 (some FieldType.int) ∈ tbl := tb_m (i := 1111) (by decide +kernel) rfl
abbrev b_M_order : ByteArray := prog_10_method_56_code
theorem cw_M_order : Cond.code y_M_order b_M_order 8 (some FieldType.int) ∈ tbl := tb_m (i := 986) (by decide +kernel) rfl
abbrev b_M_pass : ByteArray := prog_10_method_38_code
theorem cw_M_pass : Cond.code y_M_pass b_M_pass 4 (some FieldType.int) ∈ tbl := tb_m (i := 890) (by decide +kernel) rfl
abbrev b_M_passes : ByteArray := prog_10_method_39_code
theorem cw_M_passes : Cond.code y_M_passes b_M_passes 4 (none) ∈ tbl := tb_m (i := 970) (by decide +kernel) rfl
abbrev b_M_post : ByteArray := prog_10_method_44_code
theorem cw_M_post : Cond.code y_M_post b_M_post 2 (some FieldType.int) ∈ tbl := tb_m (i := 940) (by decide +kernel) rfl
abbrev b_M_posts : ByteArray := prog_10_method_43_code
theorem cw_M_posts : Cond.code y_M_posts b_M_posts 3 (none) ∈ tbl := tb_m (i := 944) (by decide +kernel) rfl
abbrev b_M_reads : ByteArray := prog_10_method_25_code
theorem cw_M_reads : Cond.code y_M_reads b_M_reads 2 (some FieldType.boolean) ∈ tbl := tb_m (i := 826) (by decide +kernel) rfl
abbrev b_M_readsLaw : ByteArray := prog_10_method_21_code
theorem cw_M_readsLaw : Cond.code y_M_readsLaw b_M_readsLaw 1 (some FieldType.boolean) ∈ tbl := tb_m (i := 830) (by decide +kernel) rfl
abbrev b_M_readsLetter : ByteArray := prog_10_method_23_code
theorem cw_M_readsLetter : Cond.code y_M_readsLetter b_M_readsLetter 2 (some FieldType.boolean) ∈ tbl := tb_m (i := 863) (by decide +kernel) rfl
abbrev b_M_readsNumber : ByteArray := prog_10_method_20_code
theorem cw_M_readsNumber : Cond.code y_M_readsNumber b_M_readsNumber 4 (some FieldType.boolean) ∈ tbl := tb_m (i := 846) (by decide +kernel) rfl
abbrev b_M_refuse : ByteArray := prog_10_method_18_code
theorem cw_M_refuse : Cond.code y_M_refuse b_M_refuse 2 (some FieldType.boolean) ∈ tbl := tb_m (i := 842) (by decide +kernel) rfl
abbrev b_M_restore : ByteArray := prog_10_method_70_code
theorem cw_M_restore : Cond.code y_M_restore b_M_restore 2 (some FieldType.int) ∈ tbl := tb_m (i := 1063) (by decide +kernel) rfl
abbrev b_M_row : ByteArray := prog_10_method_9_code
theorem cw_M_row : Cond.code y_M_row b_M_row 5 (some FieldType.int) ∈ tbl := tb_m (i := 775) (by decide +kernel) rfl
abbrev b_M_set : ByteArray := prog_10_method_11_code
theorem cw_M_set : Cond.code y_M_set b_M_set 4 (some FieldType.int) ∈ tbl := tb_m (i := 797) (by decide +kernel) rfl
abbrev b_M_sign : ByteArray := prog_10_method_19_code
theorem cw_M_sign : Cond.code y_M_sign b_M_sign 2 (some FieldType.boolean) ∈ tbl := tb_m (i := 834) (by decide +kernel) rfl
abbrev b_M_sizeOf : ByteArray := prog_10_method_78_code
theorem cw_M_sizeOf : Cond.code y_M_sizeOf b_M_sizeOf 2 (some FieldType.int) ∈ tbl := tb_m (i := 1083) (by decide +kernel) rfl
abbrev b_M_status : ByteArray := prog_10_method_86_code
theorem cw_M_status : Cond.code y_M_status b_M_status 1 (some FieldType.int) ∈ tbl := tb_m (i := 1127) (by decide +kernel) rfl
abbrev b_M_stealth : ByteArray := prog_10_method_66_code
theorem cw_M_stealth : Cond.code y_M_stealth b_M_stealth 8 (some FieldType.int) ∈ tbl := tb_m (i := 1042) (by decide +kernel) rfl
abbrev b_M_sum : ByteArray := prog_10_method_50_code
theorem cw_M_sum : Cond.code y_M_sum b_M_sum 3 (some FieldType.int) ∈ tbl := tb_m (i := 974) (by decide +kernel) rfl
abbrev b_M_swapLine : ByteArray := prog_10_method_53_code
theorem cw_M_swapLine : Cond.code y_M_swapLine b_M_swapLine 4 (none) ∈ tbl := tb_m (i := 1000) (by decide +kernel) rfl
abbrev b_M_thickness : ByteArray := prog_10_method_34_code
theorem cw_M_thickness : Cond.code y_M_thickness b_M_thickness 4 (some FieldType.int) ∈ tbl := tb_m (i := 920) (by decide +kernel) rfl
abbrev b_M_trace : ByteArray := prog_10_method_84_code
theorem cw_M_trace : Cond.code y_M_trace b_M_trace 2 (some FieldType.int) ∈ tbl := tb_m (i := 1119) (by decide +kernel) rfl
abbrev b_M_undo : ByteArray := prog_10_method_30_code
theorem cw_M_undo : Cond.code y_M_undo b_M_undo 1 (some FieldType.int) ∈ tbl := tb_m (i := 876) (by decide +kernel) rfl
abbrev b_M_weighs : ByteArray := prog_10_method_32_code
theorem cw_M_weighs : Cond.code y_M_weighs b_M_weighs 4 (some FieldType.int) ∈ tbl := tb_m (i := 898) (by decide +kernel) rfl
abbrev b_M_well : ByteArray := prog_10_method_7_code
theorem cw_M_well : Cond.code y_M_well b_M_well 2 (some FieldType.int) ∈ tbl := tb_m (i := 793) (by decide +kernel) rfl
abbrev b_O_extend : ByteArray := prog_5_method_3_code
theorem cw_O_extend : Cond.code y_O_extend b_O_extend 7 (none) ∈ tbl := tb_m (i := 567) (by decide +kernel) rfl
abbrev b_O_init : ByteArray := prog_5_method_1_code
theorem cw_O_init : Cond.code y_O_init b_O_init 2 (none) ∈ tbl := tb_m (i := 220) (by decide +kernel) rfl
abbrev b_O_search : ByteArray := prog_5_method_2_code
theorem cw_O_search : Cond.code y_O_search b_O_search 3 (none) ∈ tbl := tb_m (i := 562) (by decide +kernel) rfl
abbrev b_P_add : ByteArray := prog_7_method_2_code
theorem cw_P_add : Cond.code y_P_add b_P_add 2 (some FieldType.boolean) ∈ tbl := tb_m (i := 362) (by decide +kernel) rfl
abbrev b_P_byteAt : ByteArray := prog_7_method_12_code
theorem cw_P_byteAt : Cond.code y_P_byteAt b_P_byteAt 2 (some FieldType.int) ∈ tbl := tb_m (i := 387) (by decide +kernel) rfl
abbrev b_P_fail : ByteArray := prog_7_method_13_code
theorem cw_P_fail : Cond.code y_P_fail b_P_fail 2 (some FieldType.boolean) ∈ tbl := tb_m (i := 391) (by decide +kernel) rfl
abbrev b_P_init : ByteArray := prog_7_method_1_code
theorem cw_P_init : Cond.code y_P_init b_P_init 1 (none) ∈ tbl := tb_m (i := 94) (by decide +kernel) rfl
abbrev b_P_isFigure : ByteArray := prog_7_method_11_code
theorem cw_P_isFigure : Cond.code y_P_isFigure b_P_isFigure 1 (some FieldType.boolean) ∈ tbl := tb_m (i := 398) (by decide +kernel) rfl
abbrev b_P_kindToldBy : ByteArray := prog_7_method_8_code
theorem cw_P_kindToldBy : Cond.code y_P_kindToldBy b_P_kindToldBy 1 (some FieldType.int) ∈ tbl := tb_m (i := 410) (by decide +kernel) rfl
abbrev b_P_readFigures : ByteArray := prog_7_method_7_code
theorem cw_P_readFigures : Cond.code y_P_readFigures b_P_readFigures 2 (some FieldType.boolean) ∈ tbl := tb_m (i := 414) (by decide +kernel) rfl
abbrev b_P_readInto : ByteArray := prog_7_method_3_code
theorem cw_P_readInto : Cond.code y_P_readInto b_P_readInto 2 (some FieldType.boolean) ∈ tbl := tb_m (i := 371) (by decide +kernel) rfl
abbrev b_P_readLaw : ByteArray := prog_7_method_4_code
theorem cw_P_readLaw : Cond.code y_P_readLaw b_P_readLaw 2 (some FieldType.boolean) ∈ tbl := tb_m (i := 379) (by decide +kernel) rfl
abbrev b_P_readLetter : ByteArray := prog_7_method_6_code
theorem cw_P_readLetter : Cond.code y_P_readLetter b_P_readLetter 4 (some FieldType.boolean) ∈ tbl := tb_m (i := 407) (by decide +kernel) rfl
abbrev b_P_readLetters : ByteArray := prog_7_method_5_code
theorem cw_P_readLetters : Cond.code y_P_readLetters b_P_readLetters 3 (some FieldType.boolean) ∈ tbl := tb_m (i := 403) (by decide +kernel) rfl
abbrev b_P_readNumber : ByteArray := prog_7_method_10_code
theorem cw_P_readNumber : Cond.code y_P_readNumber b_P_readNumber 6 (some FieldType.boolean) ∈ tbl := tb_m (i := 395) (by decide +kernel) rfl
abbrev b_P_readSign : ByteArray := prog_7_method_9_code
theorem cw_P_readSign : Cond.code y_P_readSign b_P_readSign 2 (some FieldType.boolean) ∈ tbl := tb_m (i := 383) (by decide +kernel) rfl
abbrev b_R_hasPlaces : ByteArray := prog_6_method_3_code
theorem cw_R_hasPlaces : Cond.code y_R_hasPlaces b_R_hasPlaces 3 (some FieldType.boolean) ∈ tbl := tb_m (i := 338) (by decide +kernel) rfl
abbrev b_R_init : ByteArray := prog_6_method_1_code
theorem cw_R_init : Cond.code y_R_init b_R_init 1 (none) ∈ tbl := tb_m (i := 257) (by decide +kernel) rfl
abbrev b_R_itemAt : ByteArray := prog_6_method_5_code
theorem cw_R_itemAt : Cond.code y_R_itemAt b_R_itemAt 2 (some FieldType.int) ∈ tbl := tb_m (i := 620) (by decide +kernel) rfl
abbrev b_R_lay : ByteArray := prog_6_method_2_code
theorem cw_R_lay : Cond.code y_R_lay b_R_lay 3 (none) ∈ tbl := tb_m (i := 323) (by decide +kernel) rfl
abbrev b_R_put : ByteArray := prog_6_method_4_code
theorem cw_R_put : Cond.code y_R_put b_R_put 4 (some FieldType.int) ∈ tbl := tb_m (i := 342) (by decide +kernel) rfl
abbrev b_T_init : ByteArray := prog_8_method_1_code
theorem cw_T_init : Cond.code y_T_init b_T_init 1 (none) ∈ tbl := tb_m (i := 243) (by decide +kernel) rfl
abbrev b_T_leave : ByteArray := prog_8_method_2_code
theorem cw_T_leave : Cond.code y_T_leave b_T_leave 2 (none) ∈ tbl := tb_m (i := 693) (by decide +kernel) rfl
abbrev b_X_answer : ByteArray := prog_1_method_10_code
theorem cw_X_answer : Cond.code y_X_answer b_X_answer 2 (some FieldType.int) ∈ tbl := tb_m (i := 495) (by decide +kernel) rfl
abbrev b_X_as : ByteArray := prog_1_method_29_code
theorem cw_X_as : Cond.code y_X_as b_X_as 3 (some FieldType.int) ∈ tbl := tb_m (i := 667) (by decide +kernel) rfl
abbrev b_X_ask : ByteArray := prog_1_method_30_code
theorem cw_X_ask : Cond.code y_X_ask b_X_ask 4 (some FieldType.int) ∈ tbl := tb_m (i := 679) (by decide +kernel) rfl
abbrev b_X_begin : ByteArray := prog_1_method_54_code
theorem cw_X_begin : Cond.code y_X_begin b_X_begin 6 (some FieldType.int) ∈ tbl := tb_m (i := 689) (by decide +kernel) rfl
abbrev b_X_behind : ByteArray := prog_1_method_17_code
theorem cw_X_behind : Cond.code y_X_behind b_X_behind 3 (some FieldType.int) ∈ tbl := tb_m (i := 548) (by decide +kernel) rfl
abbrev b_X_bodyOf : ByteArray := prog_1_method_53_code
theorem cw_X_bodyOf : Cond.code y_X_bodyOf b_X_bodyOf 3 (some FieldType.int) ∈ tbl := tb_m (i := 682) (by decide +kernel) rfl
abbrev b_X_burden : ByteArray := prog_1_method_15_code
theorem cw_X_burden : Cond.code y_X_burden b_X_burden 3 (some FieldType.int) ∈ tbl := tb_m (i := 531) (by decide +kernel) rfl
abbrev b_X_copy : ByteArray := prog_1_method_4_code
theorem cw_X_copy : Cond.code y_X_copy b_X_copy 8 (some FieldType.int) ∈ tbl := tb_m (i := 347) (by decide +kernel) rfl
abbrev b_X_count : ByteArray := prog_1_method_32_code
theorem cw_X_count : Cond.code y_X_count b_X_count 2 (some FieldType.int) ∈ tbl := tb_m (i := 701) (by decide +kernel) rfl
abbrev b_X_days : ByteArray := prog_1_method_9_code
theorem cw_X_days : Cond.code y_X_days b_X_days 3 (some FieldType.int) ∈ tbl := tb_m (i := 435) (by decide +kernel) rfl
abbrev b_X_drawn : ByteArray := prog_1_method_25_code
theorem cw_X_drawn : Cond.code y_X_drawn b_X_drawn 8 (some FieldType.int) ∈ tbl := tb_m (i := 641) (by decide +kernel) rfl
abbrev b_X_dread : ByteArray := prog_1_method_12_code
theorem cw_X_dread : Cond.code y_X_dread b_X_dread 4 (some FieldType.int) ∈ tbl := tb_m (i := 514) (by decide +kernel) rfl
abbrev b_X_drop : ByteArray := prog_1_method_5_code
theorem cw_X_drop : Cond.code y_X_drop b_X_drop 2 (some FieldType.int) ∈ tbl := tb_m (i := 354) (by decide +kernel) rfl
abbrev b_X_ease : ByteArray := prog_1_method_21_code
theorem cw_X_ease : Cond.code y_X_ease b_X_ease 7 (some FieldType.int) ∈ tbl := tb_m (i := 591) (by decide +kernel) rfl
abbrev b_X_falls : ByteArray := prog_1_method_18_code
theorem cw_X_falls : Cond.code y_X_falls b_X_falls 5 (some FieldType.int) ∈ tbl := tb_m (i := 552) (by decide +kernel) rfl
abbrev b_X_fault : ByteArray := prog_1_method_8_code
theorem cw_X_fault : Cond.code y_X_fault b_X_fault 1 (some FieldType.int) ∈ tbl := tb_m (i := 431) (by decide +kernel) rfl
abbrev b_X_feed : ByteArray := prog_1_method_6_code
theorem cw_X_feed : Cond.code y_X_feed b_X_feed 2 (some FieldType.int) ∈ tbl := tb_m (i := 358) (by decide +kernel) rfl
abbrev b_X_fits : ByteArray := prog_1_method_22_code
theorem cw_X_fits : Cond.code y_X_fits b_X_fits 9 (some FieldType.int) ∈ tbl := tb_m (i := 599) (by decide +kernel) rfl
abbrev b_X_flawOf : ByteArray := prog_1_method_37_code
theorem cw_X_flawOf : Cond.code y_X_flawOf b_X_flawOf 3 (some FieldType.int) ∈ tbl := tb_m (i := 602) (by decide +kernel) rfl
abbrev b_X_foretell : ByteArray := prog_1_method_41_code
theorem cw_X_foretell : Cond.code y_X_foretell b_X_foretell 3 (some (FieldType.object "ClockPost$House")) ∈ tbl := tb_m (i := 539) (by decide +kernel) rfl
abbrev b_X_foretellWithout : ByteArray := prog_1_method_42_code
theorem cw_X_foretellWithout : Cond.code y_X_foretellWithout b_X_foretellWithout 2 (none) ∈ tbl := tb_m (i := 587) (by decide +kernel) rfl
abbrev b_X_found : ByteArray := prog_1_method_38_code
theorem cw_X_found : Cond.code y_X_found b_X_found 2 (some FieldType.int) ∈ tbl := tb_m (i := 318) (by decide +kernel) rfl
abbrev b_X_foundNothing : ByteArray := prog_1_method_39_code
theorem cw_X_foundNothing : Cond.code y_X_foundNothing b_X_foundNothing 2 (some FieldType.int) ∈ tbl := tb_m (i := 330) (by decide +kernel) rfl
abbrev b_X_greatestShared : ByteArray := prog_1_method_50_code
theorem cw_X_greatestShared : Cond.code y_X_greatestShared b_X_greatestShared 6 (some FieldType.int) ∈ tbl := tb_m (i := 634) (by decide +kernel) rfl
abbrev b_X_hold : ByteArray := prog_1_method_20_code
theorem cw_X_hold : Cond.code y_X_hold b_X_hold 6 (some FieldType.int) ∈ tbl := tb_m (i := 575) (by decide +kernel) rfl
abbrev b_X_house : ByteArray := prog_1_method_7_code
theorem cw_X_house : Cond.code y_X_house b_X_house 2 (some FieldType.int) ∈ tbl := tb_m (i := 367) (by decide +kernel) rfl
abbrev b_X_image : ByteArray := prog_1_method_26_code
theorem cw_X_image : Cond.code y_X_image b_X_image 2 (some FieldType.int) ∈ tbl := tb_m (i := 655) (by decide +kernel) rfl
abbrev b_X_init : ByteArray := prog_1_method_1_code
theorem cw_X_init : Cond.code y_X_init b_X_init 2 (none) ∈ tbl := tb_m (i := 84) (by decide +kernel) rfl
abbrev b_X_isOfKind : ByteArray := prog_1_method_51_code
theorem cw_X_isOfKind : Cond.code y_X_isOfKind b_X_isOfKind 2 (some FieldType.boolean) ∈ tbl := tb_m (i := 670) (by decide +kernel) rfl
abbrev b_X_isRow : ByteArray := prog_1_method_35_code
theorem cw_X_isRow : Cond.code y_X_isRow b_X_isRow 1 (some FieldType.boolean) ∈ tbl := tb_m (i := 310) (by decide +kernel) rfl
abbrev b_X_isSmallerPart : ByteArray := prog_1_method_43_code
theorem cw_X_isSmallerPart : Cond.code y_X_isSmallerPart b_X_isSmallerPart 3 (some FieldType.boolean) ∈ tbl := tb_m (i := 579) (by decide +kernel) rfl
abbrev b_X_isToldBy : ByteArray := prog_1_method_46_code
theorem cw_X_isToldBy : Cond.code y_X_isToldBy b_X_isToldBy 5 (some FieldType.boolean) ∈ tbl := tb_m (i := 616) (by decide +kernel) rfl
abbrev b_X_isWithin : ByteArray := prog_1_method_34_code
theorem cw_X_isWithin : Cond.code y_X_isWithin b_X_isWithin 3 (some FieldType.boolean) ∈ tbl := tb_m (i := 313) (by decide +kernel) rfl
abbrev b_X_kind : ByteArray := prog_1_method_28_code
theorem cw_X_kind : Cond.code y_X_kind b_X_kind 2 (some FieldType.int) ∈ tbl := tb_m (i := 663) (by decide +kernel) rfl
abbrev b_X_leastTried : ByteArray := prog_1_method_47_code
theorem cw_X_leastTried : Cond.code y_X_leastTried b_X_leastTried 1 (some FieldType.int) ∈ tbl := tb_m (i := 605) (by decide +kernel) rfl
abbrev b_X_letter : ByteArray := prog_1_method_14_code
theorem cw_X_letter : Cond.code y_X_letter b_X_letter 4 (some FieldType.int) ∈ tbl := tb_m (i := 526) (by decide +kernel) rfl
abbrev b_X_lost : ByteArray := prog_1_method_24_code
theorem cw_X_lost : Cond.code y_X_lost b_X_lost 9 (some FieldType.int) ∈ tbl := tb_m (i := 628) (by decide +kernel) rfl
abbrev b_X_mostTried : ByteArray := prog_1_method_48_code
theorem cw_X_mostTried : Cond.code y_X_mostTried b_X_mostTried 1 (some FieldType.int) ∈ tbl := tb_m (i := 608) (by decide +kernel) rfl
abbrev b_X_nearestKind : ByteArray := prog_1_method_52_code
theorem cw_X_nearestKind : Cond.code y_X_nearestKind b_X_nearestKind 1 (some FieldType.int) ∈ tbl := tb_m (i := 673) (by decide +kernel) rfl
abbrev b_X_nothingFallsWithout : ByteArray := prog_1_method_44_code
theorem cw_X_nothingFallsWithout : Cond.code y_X_nothingFallsWithout b_X_nothingFallsWithout 4 (some FieldType.boolean) ∈ tbl := tb_m (i := 583) (by decide +kernel) rfl
abbrev b_X_order : ByteArray := prog_1_method_19_code
theorem cw_X_order : Cond.code y_X_order b_X_order 5 (some FieldType.int) ∈ tbl := tb_m (i := 557) (by decide +kernel) rfl
abbrev b_X_post : ByteArray := prog_1_method_11_code
theorem cw_X_post : Cond.code y_X_post b_X_post 2 (some FieldType.int) ∈ tbl := tb_m (i := 505) (by decide +kernel) rfl
abbrev b_X_power : ByteArray := prog_1_method_49_code
theorem cw_X_power : Cond.code y_X_power b_X_power 4 (some FieldType.int) ∈ tbl := tb_m (i := 631) (by decide +kernel) rfl
abbrev b_X_refusalOf : ByteArray := prog_1_method_36_code
theorem cw_X_refusalOf : Cond.code y_X_refusalOf b_X_refusalOf 2 (some FieldType.int) ∈ tbl := tb_m (i := 535) (by decide +kernel) rfl
abbrev b_X_restore : ByteArray := prog_1_method_27_code
theorem cw_X_restore : Cond.code y_X_restore b_X_restore 2 (some FieldType.int) ∈ tbl := tb_m (i := 659) (by decide +kernel) rfl
abbrev b_X_row : ByteArray := prog_1_method_2_code
theorem cw_X_row : Cond.code y_X_row b_X_row 4 (some FieldType.int) ∈ tbl := tb_m (i := 307) (by decide +kernel) rfl
abbrev b_X_rowsThere : ByteArray := prog_1_method_40_code
theorem cw_X_rowsThere : Cond.code y_X_rowsThere b_X_rowsThere 3 (some FieldType.int) ∈ tbl := tb_m (i := 705) (by decide +kernel) rfl
abbrev b_X_set : ByteArray := prog_1_method_3_code
theorem cw_X_set : Cond.code y_X_set b_X_set 4 (some FieldType.int) ∈ tbl := tb_m (i := 334) (by decide +kernel) rfl
abbrev b_X_status : ByteArray := prog_1_method_33_code
theorem cw_X_status : Cond.code y_X_status b_X_status 1 (some FieldType.int) ∈ tbl := tb_m (i := 709) (by decide +kernel) rfl
abbrev b_X_staysEasyWithout : ByteArray := prog_1_method_45_code
theorem cw_X_staysEasyWithout : Cond.code y_X_staysEasyWithout b_X_staysEasyWithout 5 (some FieldType.boolean) ∈ tbl := tb_m (i := 595) (by decide +kernel) rfl
abbrev b_X_stealth : ByteArray := prog_1_method_23_code
theorem cw_X_stealth : Cond.code y_X_stealth b_X_stealth 8 (some FieldType.int) ∈ tbl := tb_m (i := 624) (by decide +kernel) rfl
abbrev b_X_sum : ByteArray := prog_1_method_16_code
theorem cw_X_sum : Cond.code y_X_sum b_X_sum 3 (some FieldType.int) ∈ tbl := tb_m (i := 544) (by decide +kernel) rfl
abbrev b_X_trace : ByteArray := prog_1_method_31_code
theorem cw_X_trace : Cond.code y_X_trace b_X_trace 2 (some FieldType.int) ∈ tbl := tb_m (i := 697) (by decide +kernel) rfl
abbrev b_X_undo : ByteArray := prog_1_method_13_code
theorem cw_X_undo : Cond.code y_X_undo b_X_undo 1 (some FieldType.int) ∈ tbl := tb_m (i := 518) (by decide +kernel) rfl
theorem mo_P_init : mOk y_P_init 0 := ⟨⟨by decide +kernel, by decide +kernel, by decide +kernel⟩, tb_m (i := 68) (by decide +kernel) rfl⟩
theorem lm_X_17 : LkI "ClockPost" 17 y_P_init 0 := ⟨mo_P_init, Or.inr ⟨"ClockPost", by simp [nestL]⟩, rfl, tb_m (i := 93) (by decide +kernel) rfl⟩
theorem mo_H_init : mOk y_H_init 0 := ⟨⟨by decide +kernel, by decide +kernel, by decide +kernel⟩, tb_m (i := 69) (by decide +kernel) rfl⟩
theorem lm_X_24 : LkI "ClockPost" 24 y_H_init 0 := ⟨mo_H_init, Or.inl (tb_m (i := 118) (by decide +kernel) rfl), rfl, tb_m (i := 119) (by decide +kernel) rfl⟩
theorem mo_A_init : mOk y_A_init 0 := ⟨⟨by decide +kernel, by decide +kernel, by decide +kernel⟩, tb_m (i := 71) (by decide +kernel) rfl⟩
theorem lm_X_38 : LkI "ClockPost" 38 y_A_init 0 := ⟨mo_A_init, Or.inl (tb_m (i := 199) (by decide +kernel) rfl), rfl, tb_m (i := 200) (by decide +kernel) rfl⟩
theorem mo_O_init : mOk y_O_init 0 := ⟨⟨by decide +kernel, by decide +kernel, by decide +kernel⟩, tb_m (i := 72) (by decide +kernel) rfl⟩
theorem lm_X_45 : LkI "ClockPost" 45 y_O_init 0 := ⟨mo_O_init, Or.inl (tb_m (i := 218) (by decide +kernel) rfl), rfl, tb_m (i := 219) (by decide +kernel) rfl⟩
theorem mo_T_init : mOk y_T_init 0 := ⟨⟨by decide +kernel, by decide +kernel, by decide +kernel⟩, tb_m (i := 73) (by decide +kernel) rfl⟩
theorem lm_X_52 : LkI "ClockPost" 52 y_T_init 0 := ⟨mo_T_init, Or.inr ⟨"ClockPost", by simp [nestL]⟩, rfl, tb_m (i := 242) (by decide +kernel) rfl⟩
theorem mo_R_init : mOk y_R_init 0 := ⟨⟨by decide +kernel, by decide +kernel, by decide +kernel⟩, tb_m (i := 74) (by decide +kernel) rfl⟩
theorem lm_X_57 : LkI "ClockPost" 57 y_R_init 0 := ⟨mo_R_init, Or.inr ⟨"ClockPost", by simp [nestL]⟩, rfl, tb_m (i := 256) (by decide +kernel) rfl⟩
theorem mo_X_isRow : mOk y_X_isRow 1 := ⟨⟨by decide +kernel, by decide +kernel, by decide +kernel⟩, tb_m (i := 67) (by decide +kernel) rfl⟩
theorem lm_X_58 : LkS "ClockPost" 58 y_X_isRow 1 := ⟨mo_X_isRow, Or.inl (tb_m (i := 308) (by decide +kernel) rfl), tb_m (i := 309) (by decide +kernel) rfl⟩
theorem mo_X_isWithin : mOk y_X_isWithin 3 := ⟨⟨by decide +kernel, by decide +kernel, by decide +kernel⟩, tb_m (i := 67) (by decide +kernel) rfl⟩
theorem lm_X_62 : LkS "ClockPost" 62 y_X_isWithin 3 := ⟨mo_X_isWithin, Or.inl (tb_m (i := 311) (by decide +kernel) rfl), tb_m (i := 312) (by decide +kernel) rfl⟩
theorem mo_X_found : mOk y_X_found 1 := ⟨⟨by decide +kernel, by decide +kernel, by decide +kernel⟩, tb_m (i := 67) (by decide +kernel) rfl⟩
theorem lm_X_67 : LkV "ClockPost" 67 y_X_found 1 7 := ⟨mo_X_found, tb_m (i := 315) (by decide +kernel) rfl, tb_m (i := 317) (by decide +kernel) rfl, tb_m (i := 0) (by decide +kernel) rfl, _, rfl, rfl⟩
theorem mo_R_lay : mOk y_R_lay 2 := ⟨⟨by decide +kernel, by decide +kernel, by decide +kernel⟩, tb_m (i := 74) (by decide +kernel) rfl⟩
theorem lm_X_71 : LkV "ClockPost" 71 y_R_lay 2 1 := ⟨mo_R_lay, tb_m (i := 320) (by decide +kernel) rfl, tb_m (i := 321) (by decide +kernel) rfl, tb_m (i := 322) (by decide +kernel) rfl, _, rfl, rfl⟩
theorem mo_X_foundNothing : mOk y_X_foundNothing 1 := ⟨⟨by decide +kernel, by decide +kernel, by decide +kernel⟩, tb_m (i := 67) (by decide +kernel) rfl⟩
theorem lm_X_75 : LkV "ClockPost" 75 y_X_foundNothing 1 7 := ⟨mo_X_foundNothing, tb_m (i := 327) (by decide +kernel) rfl, tb_m (i := 329) (by decide +kernel) rfl, tb_m (i := 1) (by decide +kernel) rfl, _, rfl, rfl⟩
theorem mo_R_hasPlaces : mOk y_R_hasPlaces 2 := ⟨⟨by decide +kernel, by decide +kernel, by decide +kernel⟩, tb_m (i := 74) (by decide +kernel) rfl⟩
theorem lm_X_82 : LkV "ClockPost" 82 y_R_hasPlaces 2 1 := ⟨mo_R_hasPlaces, tb_m (i := 335) (by decide +kernel) rfl, tb_m (i := 336) (by decide +kernel) rfl, tb_m (i := 337) (by decide +kernel) rfl, _, rfl, rfl⟩
theorem mo_R_put : mOk y_R_put 2 := ⟨⟨by decide +kernel, by decide +kernel, by decide +kernel⟩, tb_m (i := 74) (by decide +kernel) rfl⟩
theorem lm_X_86 : LkV "ClockPost" 86 y_R_put 2 1 := ⟨mo_R_put, tb_m (i := 339) (by decide +kernel) rfl, tb_m (i := 340) (by decide +kernel) rfl, tb_m (i := 341) (by decide +kernel) rfl, _, rfl, rfl⟩
theorem mo_P_add : mOk y_P_add 1 := ⟨⟨by decide +kernel, by decide +kernel, by decide +kernel⟩, tb_m (i := 68) (by decide +kernel) rfl⟩
theorem lm_X_107 : LkV "ClockPost" 107 y_P_add 1 6 := ⟨mo_P_add, tb_m (i := 359) (by decide +kernel) rfl, tb_m (i := 360) (by decide +kernel) rfl, tb_m (i := 361) (by decide +kernel) rfl, _, rfl, rfl⟩
theorem mo_P_readInto : mOk y_P_readInto 1 := ⟨⟨by decide +kernel, by decide +kernel, by decide +kernel⟩, tb_m (i := 68) (by decide +kernel) rfl⟩
theorem lm_X_114 : LkV "ClockPost" 114 y_P_readInto 1 6 := ⟨mo_P_readInto, tb_m (i := 368) (by decide +kernel) rfl, tb_m (i := 369) (by decide +kernel) rfl, tb_m (i := 370) (by decide +kernel) rfl, _, rfl, rfl⟩
theorem mo_H_become : mOk y_H_become 1 := ⟨⟨by decide +kernel, by decide +kernel, by decide +kernel⟩, tb_m (i := 69) (by decide +kernel) rfl⟩
theorem lm_X_122 : LkV "ClockPost" 122 y_H_become 1 3 := ⟨mo_H_become, tb_m (i := 416) (by decide +kernel) rfl, tb_m (i := 417) (by decide +kernel) rfl, tb_m (i := 418) (by decide +kernel) rfl, _, rfl, rfl⟩
theorem mo_A_forgetAll : mOk y_A_forgetAll 0 := ⟨⟨by decide +kernel, by decide +kernel, by decide +kernel⟩, tb_m (i := 71) (by decide +kernel) rfl⟩
theorem lm_X_126 : LkV "ClockPost" 126 y_A_forgetAll 0 4 := ⟨mo_A_forgetAll, tb_m (i := 424) (by decide +kernel) rfl, tb_m (i := 425) (by decide +kernel) rfl, tb_m (i := 426) (by decide +kernel) rfl, _, rfl, rfl⟩
theorem mo_A_keep : mOk y_A_keep 1 := ⟨⟨by decide +kernel, by decide +kernel, by decide +kernel⟩, tb_m (i := 71) (by decide +kernel) rfl⟩
theorem lm_X_142 : LkV "ClockPost" 142 y_A_keep 1 4 := ⟨mo_A_keep, tb_m (i := 437) (by decide +kernel) rfl, tb_m (i := 438) (by decide +kernel) rfl, tb_m (i := 439) (by decide +kernel) rfl, _, rfl, rfl⟩
theorem mo_H_passDay : mOk y_H_passDay 0 := ⟨⟨by decide +kernel, by decide +kernel, by decide +kernel⟩, tb_m (i := 69) (by decide +kernel) rfl⟩
theorem lm_X_145 : LkV "ClockPost" 145 y_H_passDay 0 3 := ⟨mo_H_passDay, tb_m (i := 442) (by decide +kernel) rfl, tb_m (i := 443) (by decide +kernel) rfl, tb_m (i := 444) (by decide +kernel) rfl, _, rfl, rfl⟩
theorem mo_H_hasLetter : mOk y_H_hasLetter 1 := ⟨⟨by decide +kernel, by decide +kernel, by decide +kernel⟩, tb_m (i := 69) (by decide +kernel) rfl⟩
theorem lm_X_152 : LkV "ClockPost" 152 y_H_hasLetter 1 3 := ⟨mo_H_hasLetter, tb_m (i := 496) (by decide +kernel) rfl, tb_m (i := 459) (by decide +kernel) rfl, tb_m (i := 460) (by decide +kernel) rfl, _, rfl, rfl⟩
theorem mo_H_isBehind : mOk y_H_isBehind 1 := ⟨⟨by decide +kernel, by decide +kernel, by decide +kernel⟩, tb_m (i := 69) (by decide +kernel) rfl⟩
theorem lm_X_155 : LkV "ClockPost" 155 y_H_isBehind 1 3 := ⟨mo_H_isBehind, tb_m (i := 497) (by decide +kernel) rfl, tb_m (i := 455) (by decide +kernel) rfl, tb_m (i := 456) (by decide +kernel) rfl, _, rfl, rfl⟩
theorem mo_H_answerOne : mOk y_H_answerOne 1 := ⟨⟨by decide +kernel, by decide +kernel, by decide +kernel⟩, tb_m (i := 69) (by decide +kernel) rfl⟩
theorem lm_X_158 : LkV "ClockPost" 158 y_H_answerOne 1 3 := ⟨mo_H_answerOne, tb_m (i := 498) (by decide +kernel) rfl, tb_m (i := 499) (by decide +kernel) rfl, tb_m (i := 500) (by decide +kernel) rfl, _, rfl, rfl⟩
theorem mo_H_putBehind : mOk y_H_putBehind 1 := ⟨⟨by decide +kernel, by decide +kernel, by decide +kernel⟩, tb_m (i := 69) (by decide +kernel) rfl⟩
theorem lm_X_165 : LkV "ClockPost" 165 y_H_putBehind 1 3 := ⟨mo_H_putBehind, tb_m (i := 506) (by decide +kernel) rfl, tb_m (i := 507) (by decide +kernel) rfl, tb_m (i := 508) (by decide +kernel) rfl, _, rfl, rfl⟩
theorem mo_H_thickness : mOk y_H_thickness 0 := ⟨⟨by decide +kernel, by decide +kernel, by decide +kernel⟩, tb_m (i := 69) (by decide +kernel) rfl⟩
theorem lm_X_168 : LkV "ClockPost" 168 y_H_thickness 0 3 := ⟨mo_H_thickness, tb_m (i := 510) (by decide +kernel) rfl, tb_m (i := 477) (by decide +kernel) rfl, tb_m (i := 478) (by decide +kernel) rfl, _, rfl, rfl⟩
theorem mo_A_takeBack : mOk y_A_takeBack 1 := ⟨⟨by decide +kernel, by decide +kernel, by decide +kernel⟩, tb_m (i := 71) (by decide +kernel) rfl⟩
theorem lm_X_180 : LkV "ClockPost" 180 y_A_takeBack 1 4 := ⟨mo_A_takeBack, tb_m (i := 519) (by decide +kernel) rfl, tb_m (i := 520) (by decide +kernel) rfl, tb_m (i := 521) (by decide +kernel) rfl, _, rfl, rfl⟩
theorem mo_H_weightOf : mOk y_H_weightOf 1 := ⟨⟨by decide +kernel, by decide +kernel, by decide +kernel⟩, tb_m (i := 69) (by decide +kernel) rfl⟩
theorem lm_X_195 : LkV "ClockPost" 195 y_H_weightOf 1 3 := ⟨mo_H_weightOf, tb_m (i := 527) (by decide +kernel) rfl, tb_m (i := 451) (by decide +kernel) rfl, tb_m (i := 452) (by decide +kernel) rfl, _, rfl, rfl⟩
theorem mo_X_refusalOf : mOk y_X_refusalOf 1 := ⟨⟨by decide +kernel, by decide +kernel, by decide +kernel⟩, tb_m (i := 67) (by decide +kernel) rfl⟩
theorem lm_X_198 : LkV "ClockPost" 198 y_X_refusalOf 1 7 := ⟨mo_X_refusalOf, tb_m (i := 532) (by decide +kernel) rfl, tb_m (i := 534) (by decide +kernel) rfl, tb_m (i := 12) (by decide +kernel) rfl, _, rfl, rfl⟩
theorem mo_X_foretell : mOk y_X_foretell 1 := ⟨⟨by decide +kernel, by decide +kernel, by decide +kernel⟩, tb_m (i := 67) (by decide +kernel) rfl⟩
theorem lm_X_202 : LkV "ClockPost" 202 y_X_foretell 1 7 := ⟨mo_X_foretell, tb_m (i := 536) (by decide +kernel) rfl, tb_m (i := 538) (by decide +kernel) rfl, tb_m (i := 13) (by decide +kernel) rfl, _, rfl, rfl⟩
theorem mo_H_weight : mOk y_H_weight 0 := ⟨⟨by decide +kernel, by decide +kernel, by decide +kernel⟩, tb_m (i := 69) (by decide +kernel) rfl⟩
theorem lm_X_206 : LkV "ClockPost" 206 y_H_weight 0 3 := ⟨mo_H_weight, tb_m (i := 540) (by decide +kernel) rfl, tb_m (i := 447) (by decide +kernel) rfl, tb_m (i := 448) (by decide +kernel) rfl, _, rfl, rfl⟩
theorem mo_JI_bitCount : mOk y_JI_bitCount 1 := ⟨⟨by decide +kernel, by decide +kernel, by decide +kernel⟩, tb_m (i := 78) (by decide +kernel) rfl⟩
theorem lm_X_213 : LkS "ClockPost" 213 y_JI_bitCount 1 := ⟨mo_JI_bitCount, Or.inl (tb_m (i := 558) (by decide +kernel) rfl), tb_m (i := 463) (by decide +kernel) rfl⟩
theorem mo_O_search : mOk y_O_search 2 := ⟨⟨by decide +kernel, by decide +kernel, by decide +kernel⟩, tb_m (i := 72) (by decide +kernel) rfl⟩
theorem lm_X_218 : LkV "ClockPost" 218 y_O_search 2 5 := ⟨mo_O_search, tb_m (i := 559) (by decide +kernel) rfl, tb_m (i := 560) (by decide +kernel) rfl, tb_m (i := 561) (by decide +kernel) rfl, _, rfl, rfl⟩
theorem mo_X_isSmallerPart : mOk y_X_isSmallerPart 2 := ⟨⟨by decide +kernel, by decide +kernel, by decide +kernel⟩, tb_m (i := 67) (by decide +kernel) rfl⟩
theorem lm_X_228 : LkV "ClockPost" 228 y_X_isSmallerPart 2 7 := ⟨mo_X_isSmallerPart, tb_m (i := 576) (by decide +kernel) rfl, tb_m (i := 578) (by decide +kernel) rfl, tb_m (i := 14) (by decide +kernel) rfl, _, rfl, rfl⟩
theorem mo_X_nothingFallsWithout : mOk y_X_nothingFallsWithout 2 := ⟨⟨by decide +kernel, by decide +kernel, by decide +kernel⟩, tb_m (i := 67) (by decide +kernel) rfl⟩
theorem lm_X_231 : LkV "ClockPost" 231 y_X_nothingFallsWithout 2 7 := ⟨mo_X_nothingFallsWithout, tb_m (i := 580) (by decide +kernel) rfl, tb_m (i := 582) (by decide +kernel) rfl, tb_m (i := 15) (by decide +kernel) rfl, _, rfl, rfl⟩
theorem mo_X_staysEasyWithout : mOk y_X_staysEasyWithout 3 := ⟨⟨by decide +kernel, by decide +kernel, by decide +kernel⟩, tb_m (i := 67) (by decide +kernel) rfl⟩
theorem lm_X_234 : LkV "ClockPost" 234 y_X_staysEasyWithout 3 7 := ⟨mo_X_staysEasyWithout, tb_m (i := 592) (by decide +kernel) rfl, tb_m (i := 594) (by decide +kernel) rfl, tb_m (i := 17) (by decide +kernel) rfl, _, rfl, rfl⟩
theorem mo_X_flawOf : mOk y_X_flawOf 3 := ⟨⟨by decide +kernel, by decide +kernel, by decide +kernel⟩, tb_m (i := 67) (by decide +kernel) rfl⟩
theorem lm_X_237 : LkS "ClockPost" 237 y_X_flawOf 3 := ⟨mo_X_flawOf, Or.inl (tb_m (i := 600) (by decide +kernel) rfl), tb_m (i := 601) (by decide +kernel) rfl⟩
theorem mo_X_leastTried : mOk y_X_leastTried 1 := ⟨⟨by decide +kernel, by decide +kernel, by decide +kernel⟩, tb_m (i := 67) (by decide +kernel) rfl⟩
theorem lm_X_241 : LkS "ClockPost" 241 y_X_leastTried 1 := ⟨mo_X_leastTried, Or.inl (tb_m (i := 603) (by decide +kernel) rfl), tb_m (i := 604) (by decide +kernel) rfl⟩
theorem mo_X_mostTried : mOk y_X_mostTried 1 := ⟨⟨by decide +kernel, by decide +kernel, by decide +kernel⟩, tb_m (i := 67) (by decide +kernel) rfl⟩
theorem lm_X_244 : LkS "ClockPost" 244 y_X_mostTried 1 := ⟨mo_X_mostTried, Or.inl (tb_m (i := 606) (by decide +kernel) rfl), tb_m (i := 607) (by decide +kernel) rfl⟩
theorem mo_L_change : mOk y_L_change 2 := ⟨⟨by decide +kernel, by decide +kernel, by decide +kernel⟩, tb_m (i := 70) (by decide +kernel) rfl⟩
theorem lm_X_247 : LkV "ClockPost" 247 y_L_change 2 0 := ⟨mo_L_change, tb_m (i := 609) (by decide +kernel) rfl, tb_m (i := 610) (by decide +kernel) rfl, tb_m (i := 611) (by decide +kernel) rfl, _, rfl, rfl⟩
theorem mo_X_isToldBy : mOk y_X_isToldBy 3 := ⟨⟨by decide +kernel, by decide +kernel, by decide +kernel⟩, tb_m (i := 67) (by decide +kernel) rfl⟩
theorem lm_X_250 : LkV "ClockPost" 250 y_X_isToldBy 3 7 := ⟨mo_X_isToldBy, tb_m (i := 613) (by decide +kernel) rfl, tb_m (i := 615) (by decide +kernel) rfl, tb_m (i := 18) (by decide +kernel) rfl, _, rfl, rfl⟩
theorem mo_X_foretellWithout : mOk y_X_foretellWithout 1 := ⟨⟨by decide +kernel, by decide +kernel, by decide +kernel⟩, tb_m (i := 67) (by decide +kernel) rfl⟩
theorem lm_X_254 : LkV "ClockPost" 254 y_X_foretellWithout 1 7 := ⟨mo_X_foretellWithout, tb_m (i := 584) (by decide +kernel) rfl, tb_m (i := 586) (by decide +kernel) rfl, tb_m (i := 16) (by decide +kernel) rfl, _, rfl, rfl⟩
theorem mo_X_power : mOk y_X_power 2 := ⟨⟨by decide +kernel, by decide +kernel, by decide +kernel⟩, tb_m (i := 67) (by decide +kernel) rfl⟩
theorem lm_X_257 : LkS "ClockPost" 257 y_X_power 2 := ⟨mo_X_power, Or.inl (tb_m (i := 629) (by decide +kernel) rfl), tb_m (i := 630) (by decide +kernel) rfl⟩
theorem mo_X_greatestShared : mOk y_X_greatestShared 2 := ⟨⟨by decide +kernel, by decide +kernel, by decide +kernel⟩, tb_m (i := 67) (by decide +kernel) rfl⟩
theorem lm_X_260 : LkS "ClockPost" 260 y_X_greatestShared 2 := ⟨mo_X_greatestShared, Or.inl (tb_m (i := 632) (by decide +kernel) rfl), tb_m (i := 633) (by decide +kernel) rfl⟩
theorem mo_H_takeDraw : mOk y_H_takeDraw 1 := ⟨⟨by decide +kernel, by decide +kernel, by decide +kernel⟩, tb_m (i := 69) (by decide +kernel) rfl⟩
theorem lm_X_273 : LkV "ClockPost" 273 y_H_takeDraw 1 3 := ⟨mo_H_takeDraw, tb_m (i := 645) (by decide +kernel) rfl, tb_m (i := 646) (by decide +kernel) rfl, tb_m (i := 647) (by decide +kernel) rfl, _, rfl, rfl⟩
theorem mo_X_isOfKind : mOk y_X_isOfKind 2 := ⟨⟨by decide +kernel, by decide +kernel, by decide +kernel⟩, tb_m (i := 67) (by decide +kernel) rfl⟩
theorem lm_X_280 : LkS "ClockPost" 280 y_X_isOfKind 2 := ⟨mo_X_isOfKind, Or.inl (tb_m (i := 668) (by decide +kernel) rfl), tb_m (i := 669) (by decide +kernel) rfl⟩
theorem mo_X_bodyOf : mOk y_X_bodyOf 2 := ⟨⟨by decide +kernel, by decide +kernel, by decide +kernel⟩, tb_m (i := 67) (by decide +kernel) rfl⟩
theorem lm_X_284 : LkS "ClockPost" 284 y_X_bodyOf 2 := ⟨mo_X_bodyOf, Or.inl (tb_m (i := 680) (by decide +kernel) rfl), tb_m (i := 681) (by decide +kernel) rfl⟩
theorem mo_X_begin : mOk y_X_begin 5 := ⟨⟨by decide +kernel, by decide +kernel, by decide +kernel⟩, tb_m (i := 67) (by decide +kernel) rfl⟩
theorem lm_X_287 : LkS "ClockPost" 287 y_X_begin 5 := ⟨mo_X_begin, Or.inl (tb_m (i := 687) (by decide +kernel) rfl), tb_m (i := 688) (by decide +kernel) rfl⟩
theorem mo_X_rowsThere : mOk y_X_rowsThere 0 := ⟨⟨by decide +kernel, by decide +kernel, by decide +kernel⟩, tb_m (i := 67) (by decide +kernel) rfl⟩
theorem lm_X_294 : LkV "ClockPost" 294 y_X_rowsThere 0 7 := ⟨mo_X_rowsThere, tb_m (i := 702) (by decide +kernel) rfl, tb_m (i := 704) (by decide +kernel) rfl, tb_m (i := 19) (by decide +kernel) rfl, _, rfl, rfl⟩
theorem mo_R_itemAt : mOk y_R_itemAt 1 := ⟨⟨by decide +kernel, by decide +kernel, by decide +kernel⟩, tb_m (i := 74) (by decide +kernel) rfl⟩
theorem lm_X_304 : LkV "ClockPost" 304 y_R_itemAt 1 1 := ⟨mo_R_itemAt, tb_m (i := 617) (by decide +kernel) rfl, tb_m (i := 618) (by decide +kernel) rfl, tb_m (i := 619) (by decide +kernel) rfl, _, rfl, rfl⟩
theorem mo_X_nearestKind : mOk y_X_nearestKind 1 := ⟨⟨by decide +kernel, by decide +kernel, by decide +kernel⟩, tb_m (i := 67) (by decide +kernel) rfl⟩
theorem lm_X_307 : LkS "ClockPost" 307 y_X_nearestKind 1 := ⟨mo_X_nearestKind, Or.inl (tb_m (i := 671) (by decide +kernel) rfl), tb_m (i := 672) (by decide +kernel) rfl⟩
theorem mo_T_leave : mOk y_T_leave 1 := ⟨⟨by decide +kernel, by decide +kernel, by decide +kernel⟩, tb_m (i := 73) (by decide +kernel) rfl⟩
theorem lm_X_319 : LkV "ClockPost" 319 y_T_leave 1 2 := ⟨mo_T_leave, tb_m (i := 690) (by decide +kernel) rfl, tb_m (i := 691) (by decide +kernel) rfl, tb_m (i := 692) (by decide +kernel) rfl, _, rfl, rfl⟩
theorem lm_A_17 : LkI "ClockPost$Acts" 17 y_H_init 0 := ⟨mo_H_init, Or.inl (tb_m (i := 204) (by decide +kernel) rfl), rfl, tb_m (i := 119) (by decide +kernel) rfl⟩
theorem lm_A_25 : LkV "ClockPost$Acts" 25 y_H_become 1 3 := ⟨mo_H_become, tb_m (i := 441) (by decide +kernel) rfl, tb_m (i := 417) (by decide +kernel) rfl, tb_m (i := 418) (by decide +kernel) rfl, _, rfl, rfl⟩
theorem mo_L_init : mOk y_L_init 0 := ⟨⟨by decide +kernel, by decide +kernel, by decide +kernel⟩, tb_m (i := 70) (by decide +kernel) rfl⟩
theorem lm_H_17 : LkI "ClockPost$House" 17 y_L_init 0 := ⟨mo_L_init, Or.inr ⟨"ClockPost", by simp [nestL]⟩, rfl, tb_m (i := 126) (by decide +kernel) rfl⟩
theorem mo_L_become : mOk y_L_become 1 := ⟨⟨by decide +kernel, by decide +kernel, by decide +kernel⟩, tb_m (i := 70) (by decide +kernel) rfl⟩
theorem lm_H_41 : LkV "ClockPost$House" 41 y_L_become 1 0 := ⟨mo_L_become, tb_m (i := 420) (by decide +kernel) rfl, tb_m (i := 421) (by decide +kernel) rfl, tb_m (i := 422) (by decide +kernel) rfl, _, rfl, rfl⟩
theorem lm_H_45 : LkV "ClockPost$House" 45 y_H_hasLetter 1 3 := ⟨mo_H_hasLetter, tb_m (i := 458) (by decide +kernel) rfl, tb_m (i := 459) (by decide +kernel) rfl, tb_m (i := 460) (by decide +kernel) rfl, _, rfl, rfl⟩
theorem lm_H_49 : LkV "ClockPost$House" 49 y_H_isBehind 1 3 := ⟨mo_H_isBehind, tb_m (i := 454) (by decide +kernel) rfl, tb_m (i := 455) (by decide +kernel) rfl, tb_m (i := 456) (by decide +kernel) rfl, _, rfl, rfl⟩
theorem lm_H_52 : LkS "ClockPost$House" 52 y_JI_bitCount 1 := ⟨mo_JI_bitCount, Or.inl (tb_m (i := 462) (by decide +kernel) rfl), tb_m (i := 463) (by decide +kernel) rfl⟩
theorem mo_L_weighAmong : mOk y_L_weighAmong 1 := ⟨⟨by decide +kernel, by decide +kernel, by decide +kernel⟩, tb_m (i := 70) (by decide +kernel) rfl⟩
theorem lm_H_58 : LkV "ClockPost$House" 58 y_L_weighAmong 1 0 := ⟨mo_L_weighAmong, tb_m (i := 468) (by decide +kernel) rfl, tb_m (i := 469) (by decide +kernel) rfl, tb_m (i := 470) (by decide +kernel) rfl, _, rfl, rfl⟩
theorem lm_H_61 : LkV "ClockPost$House" 61 y_H_weightOf 1 3 := ⟨mo_H_weightOf, tb_m (i := 450) (by decide +kernel) rfl, tb_m (i := 451) (by decide +kernel) rfl, tb_m (i := 452) (by decide +kernel) rfl, _, rfl, rfl⟩
theorem lm_H_67 : LkV "ClockPost$House" 67 y_H_weight 0 3 := ⟨mo_H_weight, tb_m (i := 446) (by decide +kernel) rfl, tb_m (i := 447) (by decide +kernel) rfl, tb_m (i := 448) (by decide +kernel) rfl, _, rfl, rfl⟩
theorem lm_H_81 : LkV "ClockPost$House" 81 y_H_thickness 0 3 := ⟨mo_H_thickness, tb_m (i := 476) (by decide +kernel) rfl, tb_m (i := 477) (by decide +kernel) rfl, tb_m (i := 478) (by decide +kernel) rfl, _, rfl, rfl⟩
theorem mo_H_nextToFall : mOk y_H_nextToFall 0 := ⟨⟨by decide +kernel, by decide +kernel, by decide +kernel⟩, tb_m (i := 69) (by decide +kernel) rfl⟩
theorem lm_H_84 : LkV "ClockPost$House" 84 y_H_nextToFall 0 3 := ⟨mo_H_nextToFall, tb_m (i := 480) (by decide +kernel) rfl, tb_m (i := 482) (by decide +kernel) rfl, tb_m (i := 10) (by decide +kernel) rfl, _, rfl, rfl⟩
theorem mo_H_takeAway : mOk y_H_takeAway 2 := ⟨⟨by decide +kernel, by decide +kernel, by decide +kernel⟩, tb_m (i := 69) (by decide +kernel) rfl⟩
theorem lm_H_90 : LkV "ClockPost$House" 90 y_H_takeAway 2 3 := ⟨mo_H_takeAway, tb_m (i := 488) (by decide +kernel) rfl, tb_m (i := 490) (by decide +kernel) rfl, tb_m (i := 11) (by decide +kernel) rfl, _, rfl, rfl⟩
theorem mo_L_fallsAheadOf : mOk y_L_fallsAheadOf 1 := ⟨⟨by decide +kernel, by decide +kernel, by decide +kernel⟩, tb_m (i := 70) (by decide +kernel) rfl⟩
theorem lm_H_94 : LkV "ClockPost$House" 94 y_L_fallsAheadOf 1 0 := ⟨mo_L_fallsAheadOf, tb_m (i := 484) (by decide +kernel) rfl, tb_m (i := 485) (by decide +kernel) rfl, tb_m (i := 486) (by decide +kernel) rfl, _, rfl, rfl⟩
theorem lm_H_100 : LkV "ClockPost$House" 100 y_H_answerOne 1 3 := ⟨mo_H_answerOne, tb_m (i := 650) (by decide +kernel) rfl, tb_m (i := 499) (by decide +kernel) rfl, tb_m (i := 500) (by decide +kernel) rfl, _, rfl, rfl⟩
theorem lm_H_104 : LkV "ClockPost$House" 104 y_H_putBehind 1 3 := ⟨mo_H_putBehind, tb_m (i := 651) (by decide +kernel) rfl, tb_m (i := 507) (by decide +kernel) rfl, tb_m (i := 508) (by decide +kernel) rfl, _, rfl, rfl⟩
theorem lm_O_24 : LkI "ClockPost$OrderSearch" 24 y_H_init 0 := ⟨mo_H_init, Or.inl (tb_m (i := 223) (by decide +kernel) rfl), rfl, tb_m (i := 119) (by decide +kernel) rfl⟩
theorem lm_O_25 : LkV "ClockPost$OrderSearch" 25 y_H_become 1 3 := ⟨mo_H_become, tb_m (i := 563) (by decide +kernel) rfl, tb_m (i := 417) (by decide +kernel) rfl, tb_m (i := 418) (by decide +kernel) rfl, _, rfl, rfl⟩
theorem mo_O_extend : mOk y_O_extend 4 := ⟨⟨by decide +kernel, by decide +kernel, by decide +kernel⟩, tb_m (i := 72) (by decide +kernel) rfl⟩
theorem lm_O_36 : LkS "ClockPost$OrderSearch" 36 y_O_extend 4 := ⟨mo_O_extend, Or.inl (tb_m (i := 565) (by decide +kernel) rfl), tb_m (i := 566) (by decide +kernel) rfl⟩
theorem lm_O_46 : LkV "ClockPost$OrderSearch" 46 y_H_answerOne 1 3 := ⟨mo_H_answerOne, tb_m (i := 569) (by decide +kernel) rfl, tb_m (i := 499) (by decide +kernel) rfl, tb_m (i := 500) (by decide +kernel) rfl, _, rfl, rfl⟩
theorem lm_O_50 : LkV "ClockPost$OrderSearch" 50 y_H_weight 0 3 := ⟨mo_H_weight, tb_m (i := 570) (by decide +kernel) rfl, tb_m (i := 447) (by decide +kernel) rfl, tb_m (i := 448) (by decide +kernel) rfl, _, rfl, rfl⟩
theorem lm_O_54 : LkV "ClockPost$OrderSearch" 54 y_H_passDay 0 3 := ⟨mo_H_passDay, tb_m (i := 571) (by decide +kernel) rfl, tb_m (i := 443) (by decide +kernel) rfl, tb_m (i := 444) (by decide +kernel) rfl, _, rfl, rfl⟩
theorem mo_JA_fill : mOk y_JA_fill 2 := ⟨⟨by decide +kernel, by decide +kernel, by decide +kernel⟩, tb_m (i := 76) (by decide +kernel) rfl⟩
theorem lm_R_19 : LkS "ClockPost$Row" 19 y_JA_fill 2 := ⟨mo_JA_fill, Or.inl (tb_m (i := 324) (by decide +kernel) rfl), tb_m (i := 325) (by decide +kernel) rfl⟩
theorem lm_R_32 : LkV "ClockPost$Row" 32 y_R_hasPlaces 2 1 := ⟨mo_R_hasPlaces, tb_m (i := 343) (by decide +kernel) rfl, tb_m (i := 336) (by decide +kernel) rfl, tb_m (i := 337) (by decide +kernel) rfl, _, rfl, rfl⟩
theorem mo_H_clear : mOk y_H_clear 0 := ⟨⟨by decide +kernel, by decide +kernel, by decide +kernel⟩, tb_m (i := 69) (by decide +kernel) rfl⟩
theorem lm_P_22 : LkV "ClockPost$Tape" 22 y_H_clear 0 3 := ⟨mo_H_clear, tb_m (i := 372) (by decide +kernel) rfl, tb_m (i := 373) (by decide +kernel) rfl, tb_m (i := 374) (by decide +kernel) rfl, _, rfl, rfl⟩
theorem mo_P_readLaw : mOk y_P_readLaw 1 := ⟨⟨by decide +kernel, by decide +kernel, by decide +kernel⟩, tb_m (i := 68) (by decide +kernel) rfl⟩
theorem lm_P_27 : LkV "ClockPost$Tape" 27 y_P_readLaw 1 6 := ⟨mo_P_readLaw, tb_m (i := 376) (by decide +kernel) rfl, tb_m (i := 378) (by decide +kernel) rfl, tb_m (i := 2) (by decide +kernel) rfl, _, rfl, rfl⟩
theorem mo_P_readLetters : mOk y_P_readLetters 1 := ⟨⟨by decide +kernel, by decide +kernel, by decide +kernel⟩, tb_m (i := 68) (by decide +kernel) rfl⟩
theorem lm_P_31 : LkV "ClockPost$Tape" 31 y_P_readLetters 1 6 := ⟨mo_P_readLetters, tb_m (i := 400) (by decide +kernel) rfl, tb_m (i := 402) (by decide +kernel) rfl, tb_m (i := 7) (by decide +kernel) rfl, _, rfl, rfl⟩
theorem mo_P_readSign : mOk y_P_readSign 1 := ⟨⟨by decide +kernel, by decide +kernel, by decide +kernel⟩, tb_m (i := 68) (by decide +kernel) rfl⟩
theorem lm_P_38 : LkV "ClockPost$Tape" 38 y_P_readSign 1 6 := ⟨mo_P_readSign, tb_m (i := 380) (by decide +kernel) rfl, tb_m (i := 382) (by decide +kernel) rfl, tb_m (i := 3) (by decide +kernel) rfl, _, rfl, rfl⟩
theorem mo_P_readNumber : mOk y_P_readNumber 2 := ⟨⟨by decide +kernel, by decide +kernel, by decide +kernel⟩, tb_m (i := 68) (by decide +kernel) rfl⟩
theorem lm_P_42 : LkV "ClockPost$Tape" 42 y_P_readNumber 2 6 := ⟨mo_P_readNumber, tb_m (i := 392) (by decide +kernel) rfl, tb_m (i := 394) (by decide +kernel) rfl, tb_m (i := 6) (by decide +kernel) rfl, _, rfl, rfl⟩
theorem mo_P_readLetter : mOk y_P_readLetter 1 := ⟨⟨by decide +kernel, by decide +kernel, by decide +kernel⟩, tb_m (i := 68) (by decide +kernel) rfl⟩
theorem lm_P_52 : LkV "ClockPost$Tape" 52 y_P_readLetter 1 6 := ⟨mo_P_readLetter, tb_m (i := 404) (by decide +kernel) rfl, tb_m (i := 406) (by decide +kernel) rfl, tb_m (i := 8) (by decide +kernel) rfl, _, rfl, rfl⟩
theorem mo_P_byteAt : mOk y_P_byteAt 1 := ⟨⟨by decide +kernel, by decide +kernel, by decide +kernel⟩, tb_m (i := 68) (by decide +kernel) rfl⟩
theorem lm_P_55 : LkV "ClockPost$Tape" 55 y_P_byteAt 1 6 := ⟨mo_P_byteAt, tb_m (i := 384) (by decide +kernel) rfl, tb_m (i := 386) (by decide +kernel) rfl, tb_m (i := 4) (by decide +kernel) rfl, _, rfl, rfl⟩
theorem mo_P_kindToldBy : mOk y_P_kindToldBy 1 := ⟨⟨by decide +kernel, by decide +kernel, by decide +kernel⟩, tb_m (i := 68) (by decide +kernel) rfl⟩
theorem lm_P_59 : LkS "ClockPost$Tape" 59 y_P_kindToldBy 1 := ⟨mo_P_kindToldBy, Or.inl (tb_m (i := 408) (by decide +kernel) rfl), tb_m (i := 409) (by decide +kernel) rfl⟩
theorem mo_P_fail : mOk y_P_fail 1 := ⟨⟨by decide +kernel, by decide +kernel, by decide +kernel⟩, tb_m (i := 68) (by decide +kernel) rfl⟩
theorem lm_P_62 : LkV "ClockPost$Tape" 62 y_P_fail 1 6 := ⟨mo_P_fail, tb_m (i := 388) (by decide +kernel) rfl, tb_m (i := 390) (by decide +kernel) rfl, tb_m (i := 5) (by decide +kernel) rfl, _, rfl, rfl⟩
theorem mo_P_readFigures : mOk y_P_readFigures 1 := ⟨⟨by decide +kernel, by decide +kernel, by decide +kernel⟩, tb_m (i := 68) (by decide +kernel) rfl⟩
theorem lm_P_81 : LkV "ClockPost$Tape" 81 y_P_readFigures 1 6 := ⟨mo_P_readFigures, tb_m (i := 411) (by decide +kernel) rfl, tb_m (i := 413) (by decide +kernel) rfl, tb_m (i := 9) (by decide +kernel) rfl, _, rfl, rfl⟩
theorem mo_P_isFigure : mOk y_P_isFigure 1 := ⟨⟨by decide +kernel, by decide +kernel, by decide +kernel⟩, tb_m (i := 68) (by decide +kernel) rfl⟩
theorem lm_P_97 : LkS "ClockPost$Tape" 97 y_P_isFigure 1 := ⟨mo_P_isFigure, Or.inl (tb_m (i := 396) (by decide +kernel) rfl), tb_m (i := 397) (by decide +kernel) rfl⟩
theorem lm_P_100 : LkS "ClockPost$Tape" 100 y_X_isWithin 3 := ⟨mo_X_isWithin, Or.inr ⟨"ClockPost", by simp [nestL]⟩, tb_m (i := 312) (by decide +kernel) rfl⟩
theorem mo_X_init : mOk y_X_init 0 := ⟨⟨by decide +kernel, by decide +kernel, by decide +kernel⟩, tb_m (i := 67) (by decide +kernel) rfl⟩
theorem lm_W_9 : LkI "ClockPostLaw" 9 y_X_init 0 := ⟨mo_X_init, Or.inl (tb_m (i := 82) (by decide +kernel) rfl), rfl, tb_m (i := 83) (by decide +kernel) rfl⟩
theorem mo_M_init : mOk y_M_init 0 := ⟨⟨by decide +kernel, by decide +kernel, by decide +kernel⟩, tb_m (i := 75) (by decide +kernel) rfl⟩
theorem lm_W_12 : LkI "ClockPostLaw" 12 y_M_init 0 := ⟨mo_M_init, Or.inl (tb_m (i := 712) (by decide +kernel) rfl), rfl, tb_m (i := 713) (by decide +kernel) rfl⟩
theorem mo_X_row : mOk y_X_row 3 := ⟨⟨by decide +kernel, by decide +kernel, by decide +kernel⟩, tb_m (i := 67) (by decide +kernel) rfl⟩
theorem lm_W_13 : LkV "ClockPostLaw" 13 y_X_row 3 7 := ⟨mo_X_row, tb_m (i := 304) (by decide +kernel) rfl, tb_m (i := 305) (by decide +kernel) rfl, tb_m (i := 306) (by decide +kernel) rfl, _, rfl, rfl⟩
theorem mo_M_row : mOk y_M_row 3 := ⟨⟨by decide +kernel, by decide +kernel, by decide +kernel⟩, tb_m (i := 75) (by decide +kernel) rfl⟩
theorem lm_W_17 : LkV "ClockPostLaw" 17 y_M_row 3 8 := ⟨mo_M_row, tb_m (i := 772) (by decide +kernel) rfl, tb_m (i := 773) (by decide +kernel) rfl, tb_m (i := 774) (by decide +kernel) rfl, _, rfl, rfl⟩
theorem mo_X_set : mOk y_X_set 3 := ⟨⟨by decide +kernel, by decide +kernel, by decide +kernel⟩, tb_m (i := 67) (by decide +kernel) rfl⟩
theorem lm_W_18 : LkV "ClockPostLaw" 18 y_X_set 3 7 := ⟨mo_X_set, tb_m (i := 331) (by decide +kernel) rfl, tb_m (i := 332) (by decide +kernel) rfl, tb_m (i := 333) (by decide +kernel) rfl, _, rfl, rfl⟩
theorem mo_M_set : mOk y_M_set 3 := ⟨⟨by decide +kernel, by decide +kernel, by decide +kernel⟩, tb_m (i := 75) (by decide +kernel) rfl⟩
theorem lm_W_21 : LkV "ClockPostLaw" 21 y_M_set 3 8 := ⟨mo_M_set, tb_m (i := 794) (by decide +kernel) rfl, tb_m (i := 795) (by decide +kernel) rfl, tb_m (i := 796) (by decide +kernel) rfl, _, rfl, rfl⟩
theorem mo_X_copy : mOk y_X_copy 5 := ⟨⟨by decide +kernel, by decide +kernel, by decide +kernel⟩, tb_m (i := 67) (by decide +kernel) rfl⟩
theorem lm_W_22 : LkV "ClockPostLaw" 22 y_X_copy 5 7 := ⟨mo_X_copy, tb_m (i := 344) (by decide +kernel) rfl, tb_m (i := 345) (by decide +kernel) rfl, tb_m (i := 346) (by decide +kernel) rfl, _, rfl, rfl⟩
theorem mo_M_copy : mOk y_M_copy 5 := ⟨⟨by decide +kernel, by decide +kernel, by decide +kernel⟩, tb_m (i := 75) (by decide +kernel) rfl⟩
theorem lm_W_26 : LkV "ClockPostLaw" 26 y_M_copy 5 8 := ⟨mo_M_copy, tb_m (i := 801) (by decide +kernel) rfl, tb_m (i := 802) (by decide +kernel) rfl, tb_m (i := 803) (by decide +kernel) rfl, _, rfl, rfl⟩
theorem mo_X_drop : mOk y_X_drop 1 := ⟨⟨by decide +kernel, by decide +kernel, by decide +kernel⟩, tb_m (i := 67) (by decide +kernel) rfl⟩
theorem lm_W_27 : LkV "ClockPostLaw" 27 y_X_drop 1 7 := ⟨mo_X_drop, tb_m (i := 351) (by decide +kernel) rfl, tb_m (i := 352) (by decide +kernel) rfl, tb_m (i := 353) (by decide +kernel) rfl, _, rfl, rfl⟩
theorem mo_M_drop : mOk y_M_drop 1 := ⟨⟨by decide +kernel, by decide +kernel, by decide +kernel⟩, tb_m (i := 75) (by decide +kernel) rfl⟩
theorem lm_W_31 : LkV "ClockPostLaw" 31 y_M_drop 1 8 := ⟨mo_M_drop, tb_m (i := 809) (by decide +kernel) rfl, tb_m (i := 810) (by decide +kernel) rfl, tb_m (i := 811) (by decide +kernel) rfl, _, rfl, rfl⟩
theorem mo_X_feed : mOk y_X_feed 1 := ⟨⟨by decide +kernel, by decide +kernel, by decide +kernel⟩, tb_m (i := 67) (by decide +kernel) rfl⟩
theorem lm_W_32 : LkV "ClockPostLaw" 32 y_X_feed 1 7 := ⟨mo_X_feed, tb_m (i := 355) (by decide +kernel) rfl, tb_m (i := 356) (by decide +kernel) rfl, tb_m (i := 357) (by decide +kernel) rfl, _, rfl, rfl⟩
theorem mo_M_feed : mOk y_M_feed 1 := ⟨⟨by decide +kernel, by decide +kernel, by decide +kernel⟩, tb_m (i := 75) (by decide +kernel) rfl⟩
theorem lm_W_35 : LkV "ClockPostLaw" 35 y_M_feed 1 8 := ⟨mo_M_feed, tb_m (i := 813) (by decide +kernel) rfl, tb_m (i := 814) (by decide +kernel) rfl, tb_m (i := 815) (by decide +kernel) rfl, _, rfl, rfl⟩
theorem mo_X_house : mOk y_X_house 0 := ⟨⟨by decide +kernel, by decide +kernel, by decide +kernel⟩, tb_m (i := 67) (by decide +kernel) rfl⟩
theorem lm_W_36 : LkV "ClockPostLaw" 36 y_X_house 0 7 := ⟨mo_X_house, tb_m (i := 364) (by decide +kernel) rfl, tb_m (i := 365) (by decide +kernel) rfl, tb_m (i := 366) (by decide +kernel) rfl, _, rfl, rfl⟩
theorem mo_M_house : mOk y_M_house 0 := ⟨⟨by decide +kernel, by decide +kernel, by decide +kernel⟩, tb_m (i := 75) (by decide +kernel) rfl⟩
theorem lm_W_40 : LkV "ClockPostLaw" 40 y_M_house 0 8 := ⟨mo_M_house, tb_m (i := 819) (by decide +kernel) rfl, tb_m (i := 820) (by decide +kernel) rfl, tb_m (i := 821) (by decide +kernel) rfl, _, rfl, rfl⟩
theorem mo_X_fault : mOk y_X_fault 0 := ⟨⟨by decide +kernel, by decide +kernel, by decide +kernel⟩, tb_m (i := 67) (by decide +kernel) rfl⟩
theorem lm_W_41 : LkV "ClockPostLaw" 41 y_X_fault 0 7 := ⟨mo_X_fault, tb_m (i := 428) (by decide +kernel) rfl, tb_m (i := 429) (by decide +kernel) rfl, tb_m (i := 430) (by decide +kernel) rfl, _, rfl, rfl⟩
theorem mo_M_fault : mOk y_M_fault 0 := ⟨⟨by decide +kernel, by decide +kernel, by decide +kernel⟩, tb_m (i := 75) (by decide +kernel) rfl⟩
theorem lm_W_44 : LkV "ClockPostLaw" 44 y_M_fault 0 8 := ⟨mo_M_fault, tb_m (i := 869) (by decide +kernel) rfl, tb_m (i := 870) (by decide +kernel) rfl, tb_m (i := 871) (by decide +kernel) rfl, _, rfl, rfl⟩
theorem mo_X_days : mOk y_X_days 1 := ⟨⟨by decide +kernel, by decide +kernel, by decide +kernel⟩, tb_m (i := 67) (by decide +kernel) rfl⟩
theorem lm_W_45 : LkV "ClockPostLaw" 45 y_X_days 1 7 := ⟨mo_X_days, tb_m (i := 432) (by decide +kernel) rfl, tb_m (i := 433) (by decide +kernel) rfl, tb_m (i := 434) (by decide +kernel) rfl, _, rfl, rfl⟩
theorem mo_M_days : mOk y_M_days 1 := ⟨⟨by decide +kernel, by decide +kernel, by decide +kernel⟩, tb_m (i := 75) (by decide +kernel) rfl⟩
theorem lm_W_48 : LkV "ClockPostLaw" 48 y_M_days 1 8 := ⟨mo_M_days, tb_m (i := 878) (by decide +kernel) rfl, tb_m (i := 879) (by decide +kernel) rfl, tb_m (i := 880) (by decide +kernel) rfl, _, rfl, rfl⟩
theorem mo_X_answer : mOk y_X_answer 1 := ⟨⟨by decide +kernel, by decide +kernel, by decide +kernel⟩, tb_m (i := 67) (by decide +kernel) rfl⟩
theorem lm_W_49 : LkV "ClockPostLaw" 49 y_X_answer 1 7 := ⟨mo_X_answer, tb_m (i := 492) (by decide +kernel) rfl, tb_m (i := 493) (by decide +kernel) rfl, tb_m (i := 494) (by decide +kernel) rfl, _, rfl, rfl⟩
theorem mo_M_answer : mOk y_M_answer 1 := ⟨⟨by decide +kernel, by decide +kernel, by decide +kernel⟩, tb_m (i := 75) (by decide +kernel) rfl⟩
theorem lm_W_52 : LkV "ClockPostLaw" 52 y_M_answer 1 8 := ⟨mo_M_answer, tb_m (i := 925) (by decide +kernel) rfl, tb_m (i := 926) (by decide +kernel) rfl, tb_m (i := 927) (by decide +kernel) rfl, _, rfl, rfl⟩
theorem mo_X_post : mOk y_X_post 1 := ⟨⟨by decide +kernel, by decide +kernel, by decide +kernel⟩, tb_m (i := 67) (by decide +kernel) rfl⟩
theorem lm_W_53 : LkV "ClockPostLaw" 53 y_X_post 1 7 := ⟨mo_X_post, tb_m (i := 502) (by decide +kernel) rfl, tb_m (i := 503) (by decide +kernel) rfl, tb_m (i := 504) (by decide +kernel) rfl, _, rfl, rfl⟩
theorem mo_M_post : mOk y_M_post 1 := ⟨⟨by decide +kernel, by decide +kernel, by decide +kernel⟩, tb_m (i := 75) (by decide +kernel) rfl⟩
theorem lm_W_56 : LkV "ClockPostLaw" 56 y_M_post 1 8 := ⟨mo_M_post, tb_m (i := 937) (by decide +kernel) rfl, tb_m (i := 938) (by decide +kernel) rfl, tb_m (i := 939) (by decide +kernel) rfl, _, rfl, rfl⟩
theorem mo_X_dread : mOk y_X_dread 2 := ⟨⟨by decide +kernel, by decide +kernel, by decide +kernel⟩, tb_m (i := 67) (by decide +kernel) rfl⟩
theorem lm_W_57 : LkV "ClockPostLaw" 57 y_X_dread 2 7 := ⟨mo_X_dread, tb_m (i := 511) (by decide +kernel) rfl, tb_m (i := 512) (by decide +kernel) rfl, tb_m (i := 513) (by decide +kernel) rfl, _, rfl, rfl⟩
theorem mo_M_dread : mOk y_M_dread 2 := ⟨⟨by decide +kernel, by decide +kernel, by decide +kernel⟩, tb_m (i := 75) (by decide +kernel) rfl⟩
theorem lm_W_61 : LkV "ClockPostLaw" 61 y_M_dread 2 8 := ⟨mo_M_dread, tb_m (i := 945) (by decide +kernel) rfl, tb_m (i := 946) (by decide +kernel) rfl, tb_m (i := 947) (by decide +kernel) rfl, _, rfl, rfl⟩
theorem mo_X_undo : mOk y_X_undo 0 := ⟨⟨by decide +kernel, by decide +kernel, by decide +kernel⟩, tb_m (i := 67) (by decide +kernel) rfl⟩
theorem lm_W_62 : LkV "ClockPostLaw" 62 y_X_undo 0 7 := ⟨mo_X_undo, tb_m (i := 515) (by decide +kernel) rfl, tb_m (i := 516) (by decide +kernel) rfl, tb_m (i := 517) (by decide +kernel) rfl, _, rfl, rfl⟩
theorem mo_M_undo : mOk y_M_undo 0 := ⟨⟨by decide +kernel, by decide +kernel, by decide +kernel⟩, tb_m (i := 75) (by decide +kernel) rfl⟩
theorem lm_W_65 : LkV "ClockPostLaw" 65 y_M_undo 0 8 := ⟨mo_M_undo, tb_m (i := 873) (by decide +kernel) rfl, tb_m (i := 874) (by decide +kernel) rfl, tb_m (i := 875) (by decide +kernel) rfl, _, rfl, rfl⟩
theorem mo_X_letter : mOk y_X_letter 2 := ⟨⟨by decide +kernel, by decide +kernel, by decide +kernel⟩, tb_m (i := 67) (by decide +kernel) rfl⟩
theorem lm_W_66 : LkV "ClockPostLaw" 66 y_X_letter 2 7 := ⟨mo_X_letter, tb_m (i := 523) (by decide +kernel) rfl, tb_m (i := 524) (by decide +kernel) rfl, tb_m (i := 525) (by decide +kernel) rfl, _, rfl, rfl⟩
theorem mo_M_letter : mOk y_M_letter 2 := ⟨⟨by decide +kernel, by decide +kernel, by decide +kernel⟩, tb_m (i := 75) (by decide +kernel) rfl⟩
theorem lm_W_69 : LkV "ClockPostLaw" 69 y_M_letter 2 8 := ⟨mo_M_letter, tb_m (i := 950) (by decide +kernel) rfl, tb_m (i := 951) (by decide +kernel) rfl, tb_m (i := 952) (by decide +kernel) rfl, _, rfl, rfl⟩
theorem mo_X_burden : mOk y_X_burden 1 := ⟨⟨by decide +kernel, by decide +kernel, by decide +kernel⟩, tb_m (i := 67) (by decide +kernel) rfl⟩
theorem lm_W_70 : LkV "ClockPostLaw" 70 y_X_burden 1 7 := ⟨mo_X_burden, tb_m (i := 528) (by decide +kernel) rfl, tb_m (i := 529) (by decide +kernel) rfl, tb_m (i := 530) (by decide +kernel) rfl, _, rfl, rfl⟩
theorem mo_M_burden : mOk y_M_burden 1 := ⟨⟨by decide +kernel, by decide +kernel, by decide +kernel⟩, tb_m (i := 75) (by decide +kernel) rfl⟩
theorem lm_W_73 : LkV "ClockPostLaw" 73 y_M_burden 1 8 := ⟨mo_M_burden, tb_m (i := 954) (by decide +kernel) rfl, tb_m (i := 955) (by decide +kernel) rfl, tb_m (i := 956) (by decide +kernel) rfl, _, rfl, rfl⟩
theorem mo_X_sum : mOk y_X_sum 1 := ⟨⟨by decide +kernel, by decide +kernel, by decide +kernel⟩, tb_m (i := 67) (by decide +kernel) rfl⟩
theorem lm_W_74 : LkV "ClockPostLaw" 74 y_X_sum 1 7 := ⟨mo_X_sum, tb_m (i := 541) (by decide +kernel) rfl, tb_m (i := 542) (by decide +kernel) rfl, tb_m (i := 543) (by decide +kernel) rfl, _, rfl, rfl⟩
theorem mo_M_sum : mOk y_M_sum 1 := ⟨⟨by decide +kernel, by decide +kernel, by decide +kernel⟩, tb_m (i := 75) (by decide +kernel) rfl⟩
theorem lm_W_77 : LkV "ClockPostLaw" 77 y_M_sum 1 8 := ⟨mo_M_sum, tb_m (i := 971) (by decide +kernel) rfl, tb_m (i := 972) (by decide +kernel) rfl, tb_m (i := 973) (by decide +kernel) rfl, _, rfl, rfl⟩
theorem mo_X_behind : mOk y_X_behind 1 := ⟨⟨by decide +kernel, by decide +kernel, by decide +kernel⟩, tb_m (i := 67) (by decide +kernel) rfl⟩
theorem lm_W_78 : LkV "ClockPostLaw" 78 y_X_behind 1 7 := ⟨mo_X_behind, tb_m (i := 545) (by decide +kernel) rfl, tb_m (i := 546) (by decide +kernel) rfl, tb_m (i := 547) (by decide +kernel) rfl, _, rfl, rfl⟩
theorem mo_M_behind : mOk y_M_behind 1 := ⟨⟨by decide +kernel, by decide +kernel, by decide +kernel⟩, tb_m (i := 75) (by decide +kernel) rfl⟩
theorem lm_W_81 : LkV "ClockPostLaw" 81 y_M_behind 1 8 := ⟨mo_M_behind, tb_m (i := 975) (by decide +kernel) rfl, tb_m (i := 976) (by decide +kernel) rfl, tb_m (i := 977) (by decide +kernel) rfl, _, rfl, rfl⟩
theorem mo_X_falls : mOk y_X_falls 1 := ⟨⟨by decide +kernel, by decide +kernel, by decide +kernel⟩, tb_m (i := 67) (by decide +kernel) rfl⟩
theorem lm_W_82 : LkV "ClockPostLaw" 82 y_X_falls 1 7 := ⟨mo_X_falls, tb_m (i := 549) (by decide +kernel) rfl, tb_m (i := 550) (by decide +kernel) rfl, tb_m (i := 551) (by decide +kernel) rfl, _, rfl, rfl⟩
theorem mo_M_falls : mOk y_M_falls 1 := ⟨⟨by decide +kernel, by decide +kernel, by decide +kernel⟩, tb_m (i := 75) (by decide +kernel) rfl⟩
theorem lm_W_85 : LkV "ClockPostLaw" 85 y_M_falls 1 8 := ⟨mo_M_falls, tb_m (i := 979) (by decide +kernel) rfl, tb_m (i := 980) (by decide +kernel) rfl, tb_m (i := 981) (by decide +kernel) rfl, _, rfl, rfl⟩
theorem mo_X_order : mOk y_X_order 2 := ⟨⟨by decide +kernel, by decide +kernel, by decide +kernel⟩, tb_m (i := 67) (by decide +kernel) rfl⟩
theorem lm_W_86 : LkV "ClockPostLaw" 86 y_X_order 2 7 := ⟨mo_X_order, tb_m (i := 554) (by decide +kernel) rfl, tb_m (i := 555) (by decide +kernel) rfl, tb_m (i := 556) (by decide +kernel) rfl, _, rfl, rfl⟩
theorem mo_M_order : mOk y_M_order 2 := ⟨⟨by decide +kernel, by decide +kernel, by decide +kernel⟩, tb_m (i := 75) (by decide +kernel) rfl⟩
theorem lm_W_89 : LkV "ClockPostLaw" 89 y_M_order 2 8 := ⟨mo_M_order, tb_m (i := 983) (by decide +kernel) rfl, tb_m (i := 984) (by decide +kernel) rfl, tb_m (i := 985) (by decide +kernel) rfl, _, rfl, rfl⟩
theorem mo_X_hold : mOk y_X_hold 2 := ⟨⟨by decide +kernel, by decide +kernel, by decide +kernel⟩, tb_m (i := 67) (by decide +kernel) rfl⟩
theorem lm_W_90 : LkV "ClockPostLaw" 90 y_X_hold 2 7 := ⟨mo_X_hold, tb_m (i := 572) (by decide +kernel) rfl, tb_m (i := 573) (by decide +kernel) rfl, tb_m (i := 574) (by decide +kernel) rfl, _, rfl, rfl⟩
theorem mo_M_hold : mOk y_M_hold 2 := ⟨⟨by decide +kernel, by decide +kernel, by decide +kernel⟩, tb_m (i := 75) (by decide +kernel) rfl⟩
theorem lm_W_93 : LkV "ClockPostLaw" 93 y_M_hold 2 8 := ⟨mo_M_hold, tb_m (i := 1001) (by decide +kernel) rfl, tb_m (i := 1002) (by decide +kernel) rfl, tb_m (i := 1003) (by decide +kernel) rfl, _, rfl, rfl⟩
theorem mo_X_ease : mOk y_X_ease 3 := ⟨⟨by decide +kernel, by decide +kernel, by decide +kernel⟩, tb_m (i := 67) (by decide +kernel) rfl⟩
theorem lm_W_94 : LkV "ClockPostLaw" 94 y_X_ease 3 7 := ⟨mo_X_ease, tb_m (i := 588) (by decide +kernel) rfl, tb_m (i := 589) (by decide +kernel) rfl, tb_m (i := 590) (by decide +kernel) rfl, _, rfl, rfl⟩
theorem mo_M_ease : mOk y_M_ease 3 := ⟨⟨by decide +kernel, by decide +kernel, by decide +kernel⟩, tb_m (i := 75) (by decide +kernel) rfl⟩
theorem lm_W_97 : LkV "ClockPostLaw" 97 y_M_ease 3 8 := ⟨mo_M_ease, tb_m (i := 1021) (by decide +kernel) rfl, tb_m (i := 1022) (by decide +kernel) rfl, tb_m (i := 1023) (by decide +kernel) rfl, _, rfl, rfl⟩
theorem mo_X_fits : mOk y_X_fits 5 := ⟨⟨by decide +kernel, by decide +kernel, by decide +kernel⟩, tb_m (i := 67) (by decide +kernel) rfl⟩
theorem lm_W_98 : LkV "ClockPostLaw" 98 y_X_fits 5 7 := ⟨mo_X_fits, tb_m (i := 596) (by decide +kernel) rfl, tb_m (i := 597) (by decide +kernel) rfl, tb_m (i := 598) (by decide +kernel) rfl, _, rfl, rfl⟩
theorem mo_M_fits : mOk y_M_fits 5 := ⟨⟨by decide +kernel, by decide +kernel, by decide +kernel⟩, tb_m (i := 75) (by decide +kernel) rfl⟩
theorem lm_W_101 : LkV "ClockPostLaw" 101 y_M_fits 5 8 := ⟨mo_M_fits, tb_m (i := 1026) (by decide +kernel) rfl, tb_m (i := 1027) (by decide +kernel) rfl, tb_m (i := 1028) (by decide +kernel) rfl, _, rfl, rfl⟩
theorem mo_X_stealth : mOk y_X_stealth 3 := ⟨⟨by decide +kernel, by decide +kernel, by decide +kernel⟩, tb_m (i := 67) (by decide +kernel) rfl⟩
theorem lm_W_102 : LkV "ClockPostLaw" 102 y_X_stealth 3 7 := ⟨mo_X_stealth, tb_m (i := 621) (by decide +kernel) rfl, tb_m (i := 622) (by decide +kernel) rfl, tb_m (i := 623) (by decide +kernel) rfl, _, rfl, rfl⟩
theorem mo_M_stealth : mOk y_M_stealth 3 := ⟨⟨by decide +kernel, by decide +kernel, by decide +kernel⟩, tb_m (i := 75) (by decide +kernel) rfl⟩
theorem lm_W_105 : LkV "ClockPostLaw" 105 y_M_stealth 3 8 := ⟨mo_M_stealth, tb_m (i := 1039) (by decide +kernel) rfl, tb_m (i := 1040) (by decide +kernel) rfl, tb_m (i := 1041) (by decide +kernel) rfl, _, rfl, rfl⟩
theorem mo_X_lost : mOk y_X_lost 3 := ⟨⟨by decide +kernel, by decide +kernel, by decide +kernel⟩, tb_m (i := 67) (by decide +kernel) rfl⟩
theorem lm_W_106 : LkV "ClockPostLaw" 106 y_X_lost 3 7 := ⟨mo_X_lost, tb_m (i := 625) (by decide +kernel) rfl, tb_m (i := 626) (by decide +kernel) rfl, tb_m (i := 627) (by decide +kernel) rfl, _, rfl, rfl⟩
theorem mo_M_lost : mOk y_M_lost 3 := ⟨⟨by decide +kernel, by decide +kernel, by decide +kernel⟩, tb_m (i := 75) (by decide +kernel) rfl⟩
theorem lm_W_109 : LkV "ClockPostLaw" 109 y_M_lost 3 8 := ⟨mo_M_lost, tb_m (i := 1043) (by decide +kernel) rfl, tb_m (i := 1044) (by decide +kernel) rfl, tb_m (i := 1045) (by decide +kernel) rfl, _, rfl, rfl⟩
theorem mo_X_drawn : mOk y_X_drawn 3 := ⟨⟨by decide +kernel, by decide +kernel, by decide +kernel⟩, tb_m (i := 67) (by decide +kernel) rfl⟩
theorem lm_W_110 : LkV "ClockPostLaw" 110 y_X_drawn 3 7 := ⟨mo_X_drawn, tb_m (i := 638) (by decide +kernel) rfl, tb_m (i := 639) (by decide +kernel) rfl, tb_m (i := 640) (by decide +kernel) rfl, _, rfl, rfl⟩
theorem mo_M_drawn : mOk y_M_drawn 3 := ⟨⟨by decide +kernel, by decide +kernel, by decide +kernel⟩, tb_m (i := 75) (by decide +kernel) rfl⟩
theorem lm_W_113 : LkV "ClockPostLaw" 113 y_M_drawn 3 8 := ⟨mo_M_drawn, tb_m (i := 1048) (by decide +kernel) rfl, tb_m (i := 1049) (by decide +kernel) rfl, tb_m (i := 1050) (by decide +kernel) rfl, _, rfl, rfl⟩
theorem mo_X_image : mOk y_X_image 1 := ⟨⟨by decide +kernel, by decide +kernel, by decide +kernel⟩, tb_m (i := 67) (by decide +kernel) rfl⟩
theorem lm_W_114 : LkV "ClockPostLaw" 114 y_X_image 1 7 := ⟨mo_X_image, tb_m (i := 652) (by decide +kernel) rfl, tb_m (i := 653) (by decide +kernel) rfl, tb_m (i := 654) (by decide +kernel) rfl, _, rfl, rfl⟩
theorem mo_M_image : mOk y_M_image 1 := ⟨⟨by decide +kernel, by decide +kernel, by decide +kernel⟩, tb_m (i := 75) (by decide +kernel) rfl⟩
theorem lm_W_117 : LkV "ClockPostLaw" 117 y_M_image 1 8 := ⟨mo_M_image, tb_m (i := 1056) (by decide +kernel) rfl, tb_m (i := 1057) (by decide +kernel) rfl, tb_m (i := 1058) (by decide +kernel) rfl, _, rfl, rfl⟩
theorem mo_X_restore : mOk y_X_restore 1 := ⟨⟨by decide +kernel, by decide +kernel, by decide +kernel⟩, tb_m (i := 67) (by decide +kernel) rfl⟩
theorem lm_W_118 : LkV "ClockPostLaw" 118 y_X_restore 1 7 := ⟨mo_X_restore, tb_m (i := 656) (by decide +kernel) rfl, tb_m (i := 657) (by decide +kernel) rfl, tb_m (i := 658) (by decide +kernel) rfl, _, rfl, rfl⟩
theorem mo_M_restore : mOk y_M_restore 1 := ⟨⟨by decide +kernel, by decide +kernel, by decide +kernel⟩, tb_m (i := 75) (by decide +kernel) rfl⟩
theorem lm_W_121 : LkV "ClockPostLaw" 121 y_M_restore 1 8 := ⟨mo_M_restore, tb_m (i := 1060) (by decide +kernel) rfl, tb_m (i := 1061) (by decide +kernel) rfl, tb_m (i := 1062) (by decide +kernel) rfl, _, rfl, rfl⟩
theorem mo_X_kind : mOk y_X_kind 1 := ⟨⟨by decide +kernel, by decide +kernel, by decide +kernel⟩, tb_m (i := 67) (by decide +kernel) rfl⟩
theorem lm_W_122 : LkV "ClockPostLaw" 122 y_X_kind 1 7 := ⟨mo_X_kind, tb_m (i := 660) (by decide +kernel) rfl, tb_m (i := 661) (by decide +kernel) rfl, tb_m (i := 662) (by decide +kernel) rfl, _, rfl, rfl⟩
theorem mo_M_kind : mOk y_M_kind 1 := ⟨⟨by decide +kernel, by decide +kernel, by decide +kernel⟩, tb_m (i := 75) (by decide +kernel) rfl⟩
theorem lm_W_125 : LkV "ClockPostLaw" 125 y_M_kind 1 8 := ⟨mo_M_kind, tb_m (i := 1064) (by decide +kernel) rfl, tb_m (i := 1065) (by decide +kernel) rfl, tb_m (i := 1066) (by decide +kernel) rfl, _, rfl, rfl⟩
theorem mo_X_as : mOk y_X_as 2 := ⟨⟨by decide +kernel, by decide +kernel, by decide +kernel⟩, tb_m (i := 67) (by decide +kernel) rfl⟩
theorem lm_W_126 : LkV "ClockPostLaw" 126 y_X_as 2 7 := ⟨mo_X_as, tb_m (i := 664) (by decide +kernel) rfl, tb_m (i := 665) (by decide +kernel) rfl, tb_m (i := 666) (by decide +kernel) rfl, _, rfl, rfl⟩
theorem mo_M_as : mOk y_M_as 2 := ⟨⟨by decide +kernel, by decide +kernel, by decide +kernel⟩, tb_m (i := 75) (by decide +kernel) rfl⟩
theorem lm_W_129 : LkV "ClockPostLaw" 129 y_M_as 2 8 := ⟨mo_M_as, tb_m (i := 1068) (by decide +kernel) rfl, tb_m (i := 1069) (by decide +kernel) rfl, tb_m (i := 1070) (by decide +kernel) rfl, _, rfl, rfl⟩
theorem mo_X_ask : mOk y_X_ask 2 := ⟨⟨by decide +kernel, by decide +kernel, by decide +kernel⟩, tb_m (i := 67) (by decide +kernel) rfl⟩
theorem lm_W_130 : LkV "ClockPostLaw" 130 y_X_ask 2 7 := ⟨mo_X_ask, tb_m (i := 676) (by decide +kernel) rfl, tb_m (i := 677) (by decide +kernel) rfl, tb_m (i := 678) (by decide +kernel) rfl, _, rfl, rfl⟩
theorem mo_M_ask : mOk y_M_ask 2 := ⟨⟨by decide +kernel, by decide +kernel, by decide +kernel⟩, tb_m (i := 75) (by decide +kernel) rfl⟩
theorem lm_W_133 : LkV "ClockPostLaw" 133 y_M_ask 2 8 := ⟨mo_M_ask, tb_m (i := 1076) (by decide +kernel) rfl, tb_m (i := 1077) (by decide +kernel) rfl, tb_m (i := 1078) (by decide +kernel) rfl, _, rfl, rfl⟩
theorem mo_X_trace : mOk y_X_trace 1 := ⟨⟨by decide +kernel, by decide +kernel, by decide +kernel⟩, tb_m (i := 67) (by decide +kernel) rfl⟩
theorem lm_W_134 : LkV "ClockPostLaw" 134 y_X_trace 1 7 := ⟨mo_X_trace, tb_m (i := 694) (by decide +kernel) rfl, tb_m (i := 695) (by decide +kernel) rfl, tb_m (i := 696) (by decide +kernel) rfl, _, rfl, rfl⟩
theorem mo_M_trace : mOk y_M_trace 1 := ⟨⟨by decide +kernel, by decide +kernel, by decide +kernel⟩, tb_m (i := 75) (by decide +kernel) rfl⟩
theorem lm_W_137 : LkV "ClockPostLaw" 137 y_M_trace 1 8 := ⟨mo_M_trace, tb_m (i := 1116) (by decide +kernel) rfl, tb_m (i := 1117) (by decide +kernel) rfl, tb_m (i := 1118) (by decide +kernel) rfl, _, rfl, rfl⟩
theorem mo_X_count : mOk y_X_count 1 := ⟨⟨by decide +kernel, by decide +kernel, by decide +kernel⟩, tb_m (i := 67) (by decide +kernel) rfl⟩
theorem lm_W_138 : LkV "ClockPostLaw" 138 y_X_count 1 7 := ⟨mo_X_count, tb_m (i := 698) (by decide +kernel) rfl, tb_m (i := 699) (by decide +kernel) rfl, tb_m (i := 700) (by decide +kernel) rfl, _, rfl, rfl⟩
theorem mo_M_count : mOk y_M_count 1 := ⟨⟨by decide +kernel, by decide +kernel, by decide +kernel⟩, tb_m (i := 75) (by decide +kernel) rfl⟩
theorem lm_W_141 : LkV "ClockPostLaw" 141 y_M_count 1 8 := ⟨mo_M_count, tb_m (i := 1120) (by decide +kernel) rfl, tb_m (i := 1121) (by decide +kernel) rfl, tb_m (i := 1122) (by decide +kernel) rfl, _, rfl, rfl⟩
theorem mo_X_status : mOk y_X_status 0 := ⟨⟨by decide +kernel, by decide +kernel, by decide +kernel⟩, tb_m (i := 67) (by decide +kernel) rfl⟩
theorem lm_W_142 : LkV "ClockPostLaw" 142 y_X_status 0 7 := ⟨mo_X_status, tb_m (i := 706) (by decide +kernel) rfl, tb_m (i := 707) (by decide +kernel) rfl, tb_m (i := 708) (by decide +kernel) rfl, _, rfl, rfl⟩
theorem mo_M_status : mOk y_M_status 0 := ⟨⟨by decide +kernel, by decide +kernel, by decide +kernel⟩, tb_m (i := 75) (by decide +kernel) rfl⟩
theorem lm_W_145 : LkV "ClockPostLaw" 145 y_M_status 0 8 := ⟨mo_M_status, tb_m (i := 1124) (by decide +kernel) rfl, tb_m (i := 1125) (by decide +kernel) rfl, tb_m (i := 1126) (by decide +kernel) rfl, _, rfl, rfl⟩
theorem mo_M_in : mOk y_M_in 3 := ⟨⟨by decide +kernel, by decide +kernel, by decide +kernel⟩, tb_m (i := 75) (by decide +kernel) rfl⟩
theorem lm_M_45 : LkS "ClockPostModel" 45 y_M_in 3 := ⟨mo_M_in, Or.inl (tb_m (i := 780) (by decide +kernel) rfl), tb_m (i := 781) (by decide +kernel) rfl⟩
theorem mo_M_isRow : mOk y_M_isRow 1 := ⟨⟨by decide +kernel, by decide +kernel, by decide +kernel⟩, tb_m (i := 75) (by decide +kernel) rfl⟩
theorem lm_M_49 : LkS "ClockPostModel" 49 y_M_isRow 1 := ⟨mo_M_isRow, Or.inl (tb_m (i := 776) (by decide +kernel) rfl), tb_m (i := 777) (by decide +kernel) rfl⟩
theorem mo_M_find : mOk y_M_find 1 := ⟨⟨by decide +kernel, by decide +kernel, by decide +kernel⟩, tb_m (i := 75) (by decide +kernel) rfl⟩
theorem lm_M_56 : LkV "ClockPostModel" 56 y_M_find 1 8 := ⟨mo_M_find, tb_m (i := 785) (by decide +kernel) rfl, tb_m (i := 787) (by decide +kernel) rfl, tb_m (i := 20) (by decide +kernel) rfl, _, rfl, rfl⟩
theorem mo_M_well : mOk y_M_well 1 := ⟨⟨by decide +kernel, by decide +kernel, by decide +kernel⟩, tb_m (i := 75) (by decide +kernel) rfl⟩
theorem lm_M_60 : LkV "ClockPostModel" 60 y_M_well 1 8 := ⟨mo_M_well, tb_m (i := 790) (by decide +kernel) rfl, tb_m (i := 792) (by decide +kernel) rfl, tb_m (i := 21) (by decide +kernel) rfl, _, rfl, rfl⟩
theorem mo_M_narrow : mOk y_M_narrow 2 := ⟨⟨by decide +kernel, by decide +kernel, by decide +kernel⟩, tb_m (i := 75) (by decide +kernel) rfl⟩
theorem lm_M_63 : LkS "ClockPostModel" 63 y_M_narrow 2 := ⟨mo_M_narrow, Or.inl (tb_m (i := 798) (by decide +kernel) rfl), tb_m (i := 799) (by decide +kernel) rfl⟩
theorem mo_M_isSpan : mOk y_M_isSpan 3 := ⟨⟨by decide +kernel, by decide +kernel, by decide +kernel⟩, tb_m (i := 75) (by decide +kernel) rfl⟩
theorem lm_M_67 : LkV "ClockPostModel" 67 y_M_isSpan 3 8 := ⟨mo_M_isSpan, tb_m (i := 805) (by decide +kernel) rfl, tb_m (i := 807) (by decide +kernel) rfl, tb_m (i := 22) (by decide +kernel) rfl, _, rfl, rfl⟩
theorem mo_M_isLetter : mOk y_M_isLetter 1 := ⟨⟨by decide +kernel, by decide +kernel, by decide +kernel⟩, tb_m (i := 75) (by decide +kernel) rfl⟩
theorem lm_M_87 : LkV "ClockPostModel" 87 y_M_isLetter 1 8 := ⟨mo_M_isLetter, tb_m (i := 835) (by decide +kernel) rfl, tb_m (i := 837) (by decide +kernel) rfl, tb_m (i := 26) (by decide +kernel) rfl, _, rfl, rfl⟩
theorem mo_M_refuse : mOk y_M_refuse 1 := ⟨⟨by decide +kernel, by decide +kernel, by decide +kernel⟩, tb_m (i := 75) (by decide +kernel) rfl⟩
theorem lm_M_90 : LkV "ClockPostModel" 90 y_M_refuse 1 8 := ⟨mo_M_refuse, tb_m (i := 839) (by decide +kernel) rfl, tb_m (i := 841) (by decide +kernel) rfl, tb_m (i := 27) (by decide +kernel) rfl, _, rfl, rfl⟩
theorem mo_M_isFigure : mOk y_M_isFigure 1 := ⟨⟨by decide +kernel, by decide +kernel, by decide +kernel⟩, tb_m (i := 75) (by decide +kernel) rfl⟩
theorem lm_M_93 : LkV "ClockPostModel" 93 y_M_isFigure 1 8 := ⟨mo_M_isFigure, tb_m (i := 847) (by decide +kernel) rfl, tb_m (i := 849) (by decide +kernel) rfl, tb_m (i := 29) (by decide +kernel) rfl, _, rfl, rfl⟩
theorem mo_M_sign : mOk y_M_sign 1 := ⟨⟨by decide +kernel, by decide +kernel, by decide +kernel⟩, tb_m (i := 75) (by decide +kernel) rfl⟩
theorem lm_M_99 : LkV "ClockPostModel" 99 y_M_sign 1 8 := ⟨mo_M_sign, tb_m (i := 831) (by decide +kernel) rfl, tb_m (i := 833) (by decide +kernel) rfl, tb_m (i := 25) (by decide +kernel) rfl, _, rfl, rfl⟩
theorem mo_M_readsNumber : mOk y_M_readsNumber 2 := ⟨⟨by decide +kernel, by decide +kernel, by decide +kernel⟩, tb_m (i := 75) (by decide +kernel) rfl⟩
theorem lm_M_102 : LkV "ClockPostModel" 102 y_M_readsNumber 2 8 := ⟨mo_M_readsNumber, tb_m (i := 843) (by decide +kernel) rfl, tb_m (i := 845) (by decide +kernel) rfl, tb_m (i := 28) (by decide +kernel) rfl, _, rfl, rfl⟩
theorem mo_M_kindOfLetter : mOk y_M_kindOfLetter 1 := ⟨⟨by decide +kernel, by decide +kernel, by decide +kernel⟩, tb_m (i := 75) (by decide +kernel) rfl⟩
theorem lm_M_106 : LkS "ClockPostModel" 106 y_M_kindOfLetter 1 := ⟨mo_M_kindOfLetter, Or.inl (tb_m (i := 857) (by decide +kernel) rfl), tb_m (i := 858) (by decide +kernel) rfl⟩
theorem mo_M_readsLaw : mOk y_M_readsLaw 0 := ⟨⟨by decide +kernel, by decide +kernel, by decide +kernel⟩, tb_m (i := 75) (by decide +kernel) rfl⟩
theorem lm_M_109 : LkV "ClockPostModel" 109 y_M_readsLaw 0 8 := ⟨mo_M_readsLaw, tb_m (i := 827) (by decide +kernel) rfl, tb_m (i := 829) (by decide +kernel) rfl, tb_m (i := 24) (by decide +kernel) rfl, _, rfl, rfl⟩
theorem mo_M_isSort : mOk y_M_isSort 0 := ⟨⟨by decide +kernel, by decide +kernel, by decide +kernel⟩, tb_m (i := 75) (by decide +kernel) rfl⟩
theorem lm_M_113 : LkV "ClockPostModel" 113 y_M_isSort 0 8 := ⟨mo_M_isSort, tb_m (i := 853) (by decide +kernel) rfl, tb_m (i := 855) (by decide +kernel) rfl, tb_m (i := 30) (by decide +kernel) rfl, _, rfl, rfl⟩
theorem mo_M_readsLetter : mOk y_M_readsLetter 0 := ⟨⟨by decide +kernel, by decide +kernel, by decide +kernel⟩, tb_m (i := 75) (by decide +kernel) rfl⟩
theorem lm_M_116 : LkV "ClockPostModel" 116 y_M_readsLetter 0 8 := ⟨mo_M_readsLetter, tb_m (i := 860) (by decide +kernel) rfl, tb_m (i := 862) (by decide +kernel) rfl, tb_m (i := 31) (by decide +kernel) rfl, _, rfl, rfl⟩
theorem mo_M_reads : mOk y_M_reads 0 := ⟨⟨by decide +kernel, by decide +kernel, by decide +kernel⟩, tb_m (i := 75) (by decide +kernel) rfl⟩
theorem lm_M_119 : LkV "ClockPostModel" 119 y_M_reads 0 8 := ⟨mo_M_reads, tb_m (i := 823) (by decide +kernel) rfl, tb_m (i := 825) (by decide +kernel) rfl, tb_m (i := 23) (by decide +kernel) rfl, _, rfl, rfl⟩
theorem mo_M_copyTown : mOk y_M_copyTown 2 := ⟨⟨by decide +kernel, by decide +kernel, by decide +kernel⟩, tb_m (i := 75) (by decide +kernel) rfl⟩
theorem lm_M_126 : LkV "ClockPostModel" 126 y_M_copyTown 2 8 := ⟨mo_M_copyTown, tb_m (i := 865) (by decide +kernel) rfl, tb_m (i := 867) (by decide +kernel) rfl, tb_m (i := 32) (by decide +kernel) rfl, _, rfl, rfl⟩
theorem mo_M_has : mOk y_M_has 2 := ⟨⟨by decide +kernel, by decide +kernel, by decide +kernel⟩, tb_m (i := 75) (by decide +kernel) rfl⟩
theorem lm_M_138 : LkS "ClockPostModel" 138 y_M_has 2 := ⟨mo_M_has, Or.inl (tb_m (i := 899) (by decide +kernel) rfl), tb_m (i := 900) (by decide +kernel) rfl⟩
theorem mo_M_bits : mOk y_M_bits 1 := ⟨⟨by decide +kernel, by decide +kernel, by decide +kernel⟩, tb_m (i := 75) (by decide +kernel) rfl⟩
theorem lm_M_141 : LkS "ClockPostModel" 141 y_M_bits 1 := ⟨mo_M_bits, Or.inl (tb_m (i := 902) (by decide +kernel) rfl), tb_m (i := 903) (by decide +kernel) rfl⟩
theorem mo_M_weighs : mOk y_M_weighs 2 := ⟨⟨by decide +kernel, by decide +kernel, by decide +kernel⟩, tb_m (i := 75) (by decide +kernel) rfl⟩
theorem lm_M_144 : LkV "ClockPostModel" 144 y_M_weighs 2 8 := ⟨mo_M_weighs, tb_m (i := 895) (by decide +kernel) rfl, tb_m (i := 897) (by decide +kernel) rfl, tb_m (i := 36) (by decide +kernel) rfl, _, rfl, rfl⟩
theorem mo_M_fallsAhead : mOk y_M_fallsAhead 3 := ⟨⟨by decide +kernel, by decide +kernel, by decide +kernel⟩, tb_m (i := 75) (by decide +kernel) rfl⟩
theorem lm_M_148 : LkV "ClockPostModel" 148 y_M_fallsAhead 3 8 := ⟨mo_M_fallsAhead, tb_m (i := 913) (by decide +kernel) rfl, tb_m (i := 915) (by decide +kernel) rfl, tb_m (i := 38) (by decide +kernel) rfl, _, rfl, rfl⟩
theorem mo_M_thickness : mOk y_M_thickness 1 := ⟨⟨by decide +kernel, by decide +kernel, by decide +kernel⟩, tb_m (i := 75) (by decide +kernel) rfl⟩
theorem lm_M_151 : LkV "ClockPostModel" 151 y_M_thickness 1 8 := ⟨mo_M_thickness, tb_m (i := 917) (by decide +kernel) rfl, tb_m (i := 919) (by decide +kernel) rfl, tb_m (i := 39) (by decide +kernel) rfl, _, rfl, rfl⟩
theorem mo_M_atMost : mOk y_M_atMost 2 := ⟨⟨by decide +kernel, by decide +kernel, by decide +kernel⟩, tb_m (i := 75) (by decide +kernel) rfl⟩
theorem lm_M_154 : LkS "ClockPostModel" 154 y_M_atMost 2 := ⟨mo_M_atMost, Or.inl (tb_m (i := 905) (by decide +kernel) rfl), tb_m (i := 906) (by decide +kernel) rfl⟩
theorem mo_M_burdenAt : mOk y_M_burdenAt 1 := ⟨⟨by decide +kernel, by decide +kernel, by decide +kernel⟩, tb_m (i := 75) (by decide +kernel) rfl⟩
theorem lm_M_157 : LkV "ClockPostModel" 157 y_M_burdenAt 1 8 := ⟨mo_M_burdenAt, tb_m (i := 891) (by decide +kernel) rfl, tb_m (i := 893) (by decide +kernel) rfl, tb_m (i := 35) (by decide +kernel) rfl, _, rfl, rfl⟩
theorem mo_M_nextToFall : mOk y_M_nextToFall 1 := ⟨⟨by decide +kernel, by decide +kernel, by decide +kernel⟩, tb_m (i := 75) (by decide +kernel) rfl⟩
theorem lm_M_160 : LkV "ClockPostModel" 160 y_M_nextToFall 1 8 := ⟨mo_M_nextToFall, tb_m (i := 908) (by decide +kernel) rfl, tb_m (i := 910) (by decide +kernel) rfl, tb_m (i := 37) (by decide +kernel) rfl, _, rfl, rfl⟩
theorem mo_M_away : mOk y_M_away 3 := ⟨⟨by decide +kernel, by decide +kernel, by decide +kernel⟩, tb_m (i := 75) (by decide +kernel) rfl⟩
theorem lm_M_163 : LkV "ClockPostModel" 163 y_M_away 3 8 := ⟨mo_M_away, tb_m (i := 921) (by decide +kernel) rfl, tb_m (i := 923) (by decide +kernel) rfl, tb_m (i := 40) (by decide +kernel) rfl, _, rfl, rfl⟩
theorem mo_M_pass : mOk y_M_pass 1 := ⟨⟨by decide +kernel, by decide +kernel, by decide +kernel⟩, tb_m (i := 75) (by decide +kernel) rfl⟩
theorem lm_M_167 : LkV "ClockPostModel" 167 y_M_pass 1 8 := ⟨mo_M_pass, tb_m (i := 887) (by decide +kernel) rfl, tb_m (i := 889) (by decide +kernel) rfl, tb_m (i := 34) (by decide +kernel) rfl, _, rfl, rfl⟩
theorem mo_M_keepPast : mOk y_M_keepPast 0 := ⟨⟨by decide +kernel, by decide +kernel, by decide +kernel⟩, tb_m (i := 75) (by decide +kernel) rfl⟩
theorem lm_M_172 : LkV "ClockPostModel" 172 y_M_keepPast 0 8 := ⟨mo_M_keepPast, tb_m (i := 883) (by decide +kernel) rfl, tb_m (i := 885) (by decide +kernel) rfl, tb_m (i := 33) (by decide +kernel) rfl, _, rfl, rfl⟩
theorem mo_M_isLetterThere : mOk y_M_isLetterThere 1 := ⟨⟨by decide +kernel, by decide +kernel, by decide +kernel⟩, tb_m (i := 75) (by decide +kernel) rfl⟩
theorem lm_M_175 : LkV "ClockPostModel" 175 y_M_isLetterThere 1 8 := ⟨mo_M_isLetterThere, tb_m (i := 929) (by decide +kernel) rfl, tb_m (i := 931) (by decide +kernel) rfl, tb_m (i := 41) (by decide +kernel) rfl, _, rfl, rfl⟩
theorem mo_M_answers : mOk y_M_answers 2 := ⟨⟨by decide +kernel, by decide +kernel, by decide +kernel⟩, tb_m (i := 75) (by decide +kernel) rfl⟩
theorem lm_M_178 : LkV "ClockPostModel" 178 y_M_answers 2 8 := ⟨mo_M_answers, tb_m (i := 933) (by decide +kernel) rfl, tb_m (i := 935) (by decide +kernel) rfl, tb_m (i := 42) (by decide +kernel) rfl, _, rfl, rfl⟩
theorem mo_M_posts : mOk y_M_posts 2 := ⟨⟨by decide +kernel, by decide +kernel, by decide +kernel⟩, tb_m (i := 75) (by decide +kernel) rfl⟩
theorem lm_M_181 : LkV "ClockPostModel" 181 y_M_posts 2 8 := ⟨mo_M_posts, tb_m (i := 941) (by decide +kernel) rfl, tb_m (i := 943) (by decide +kernel) rfl, tb_m (i := 43) (by decide +kernel) rfl, _, rfl, rfl⟩
theorem mo_M_layTried : mOk y_M_layTried 0 := ⟨⟨by decide +kernel, by decide +kernel, by decide +kernel⟩, tb_m (i := 75) (by decide +kernel) rfl⟩
theorem lm_M_188 : LkV "ClockPostModel" 188 y_M_layTried 0 8 := ⟨mo_M_layTried, tb_m (i := 963) (by decide +kernel) rfl, tb_m (i := 965) (by decide +kernel) rfl, tb_m (i := 45) (by decide +kernel) rfl, _, rfl, rfl⟩
theorem mo_M_passes : mOk y_M_passes 2 := ⟨⟨by decide +kernel, by decide +kernel, by decide +kernel⟩, tb_m (i := 75) (by decide +kernel) rfl⟩
theorem lm_M_191 : LkV "ClockPostModel" 191 y_M_passes 2 8 := ⟨mo_M_passes, tb_m (i := 967) (by decide +kernel) rfl, tb_m (i := 969) (by decide +kernel) rfl, tb_m (i := 46) (by decide +kernel) rfl, _, rfl, rfl⟩
theorem mo_M_noDays : mOk y_M_noDays 1 := ⟨⟨by decide +kernel, by decide +kernel, by decide +kernel⟩, tb_m (i := 75) (by decide +kernel) rfl⟩
theorem lm_M_194 : LkV "ClockPostModel" 194 y_M_noDays 1 8 := ⟨mo_M_noDays, tb_m (i := 958) (by decide +kernel) rfl, tb_m (i := 960) (by decide +kernel) rfl, tb_m (i := 44) (by decide +kernel) rfl, _, rfl, rfl⟩
theorem mo_M_swapLine : mOk y_M_swapLine 2 := ⟨⟨by decide +kernel, by decide +kernel, by decide +kernel⟩, tb_m (i := 75) (by decide +kernel) rfl⟩
theorem lm_M_197 : LkV "ClockPostModel" 197 y_M_swapLine 2 8 := ⟨mo_M_swapLine, tb_m (i := 997) (by decide +kernel) rfl, tb_m (i := 999) (by decide +kernel) rfl, tb_m (i := 49) (by decide +kernel) rfl, _, rfl, rfl⟩
theorem mo_M_growsBy : mOk y_M_growsBy 1 := ⟨⟨by decide +kernel, by decide +kernel, by decide +kernel⟩, tb_m (i := 75) (by decide +kernel) rfl⟩
theorem lm_M_204 : LkV "ClockPostModel" 204 y_M_growsBy 1 8 := ⟨mo_M_growsBy, tb_m (i := 989) (by decide +kernel) rfl, tb_m (i := 991) (by decide +kernel) rfl, tb_m (i := 47) (by decide +kernel) rfl, _, rfl, rfl⟩
theorem mo_M_nextLine : mOk y_M_nextLine 1 := ⟨⟨by decide +kernel, by decide +kernel, by decide +kernel⟩, tb_m (i := 75) (by decide +kernel) rfl⟩
theorem lm_M_207 : LkV "ClockPostModel" 207 y_M_nextLine 1 8 := ⟨mo_M_nextLine, tb_m (i := 993) (by decide +kernel) rfl, tb_m (i := 995) (by decide +kernel) rfl, tb_m (i := 48) (by decide +kernel) rfl, _, rfl, rfl⟩
theorem mo_M_answersAll : mOk y_M_answersAll 1 := ⟨⟨by decide +kernel, by decide +kernel, by decide +kernel⟩, tb_m (i := 75) (by decide +kernel) rfl⟩
theorem lm_M_210 : LkV "ClockPostModel" 210 y_M_answersAll 1 8 := ⟨mo_M_answersAll, tb_m (i := 1013) (by decide +kernel) rfl, tb_m (i := 1015) (by decide +kernel) rfl, tb_m (i := 52) (by decide +kernel) rfl, _, rfl, rfl⟩
theorem mo_M_holds : mOk y_M_holds 2 := ⟨⟨by decide +kernel, by decide +kernel, by decide +kernel⟩, tb_m (i := 75) (by decide +kernel) rfl⟩
theorem lm_M_214 : LkV "ClockPostModel" 214 y_M_holds 2 8 := ⟨mo_M_holds, tb_m (i := 1009) (by decide +kernel) rfl, tb_m (i := 1011) (by decide +kernel) rfl, tb_m (i := 51) (by decide +kernel) rfl, _, rfl, rfl⟩
theorem mo_M_eases : mOk y_M_eases 3 := ⟨⟨by decide +kernel, by decide +kernel, by decide +kernel⟩, tb_m (i := 75) (by decide +kernel) rfl⟩
theorem lm_M_217 : LkV "ClockPostModel" 217 y_M_eases 3 8 := ⟨mo_M_eases, tb_m (i := 1017) (by decide +kernel) rfl, tb_m (i := 1019) (by decide +kernel) rfl, tb_m (i := 53) (by decide +kernel) rfl, _, rfl, rfl⟩
theorem mo_M_fewest : mOk y_M_fewest 2 := ⟨⟨by decide +kernel, by decide +kernel, by decide +kernel⟩, tb_m (i := 75) (by decide +kernel) rfl⟩
theorem lm_M_220 : LkV "ClockPostModel" 220 y_M_fewest 2 8 := ⟨mo_M_fewest, tb_m (i := 1005) (by decide +kernel) rfl, tb_m (i := 1007) (by decide +kernel) rfl, tb_m (i := 50) (by decide +kernel) rfl, _, rfl, rfl⟩
theorem mo_M_noItems : mOk y_M_noItems 3 := ⟨⟨by decide +kernel, by decide +kernel, by decide +kernel⟩, tb_m (i := 75) (by decide +kernel) rfl⟩
theorem lm_M_227 : LkV "ClockPostModel" 227 y_M_noItems 3 8 := ⟨mo_M_noItems, tb_m (i := 1031) (by decide +kernel) rfl, tb_m (i := 1033) (by decide +kernel) rfl, tb_m (i := 54) (by decide +kernel) rfl, _, rfl, rfl⟩
theorem mo_M_isSo : mOk y_M_isSo 3 := ⟨⟨by decide +kernel, by decide +kernel, by decide +kernel⟩, tb_m (i := 75) (by decide +kernel) rfl⟩
theorem lm_M_231 : LkV "ClockPostModel" 231 y_M_isSo 3 8 := ⟨mo_M_isSo, tb_m (i := 1035) (by decide +kernel) rfl, tb_m (i := 1037) (by decide +kernel) rfl, tb_m (i := 55) (by decide +kernel) rfl, _, rfl, rfl⟩
theorem mo_M_isOf : mOk y_M_isOf 2 := ⟨⟨by decide +kernel, by decide +kernel, by decide +kernel⟩, tb_m (i := 75) (by decide +kernel) rfl⟩
theorem lm_M_244 : LkV "ClockPostModel" 244 y_M_isOf 2 8 := ⟨mo_M_isOf, tb_m (i := 1072) (by decide +kernel) rfl, tb_m (i := 1074) (by decide +kernel) rfl, tb_m (i := 56) (by decide +kernel) rfl, _, rfl, rfl⟩
theorem mo_M_begin : mOk y_M_begin 1 := ⟨⟨by decide +kernel, by decide +kernel, by decide +kernel⟩, tb_m (i := 75) (by decide +kernel) rfl⟩
theorem lm_M_250 : LkV "ClockPostModel" 250 y_M_begin 1 8 := ⟨mo_M_begin, tb_m (i := 1084) (by decide +kernel) rfl, tb_m (i := 1086) (by decide +kernel) rfl, tb_m (i := 58) (by decide +kernel) rfl, _, rfl, rfl⟩
theorem mo_M_lentSize : mOk y_M_lentSize 1 := ⟨⟨by decide +kernel, by decide +kernel, by decide +kernel⟩, tb_m (i := 75) (by decide +kernel) rfl⟩
theorem lm_M_253 : LkV "ClockPostModel" 253 y_M_lentSize 1 8 := ⟨mo_M_lentSize, tb_m (i := 1092) (by decide +kernel) rfl, tb_m (i := 1094) (by decide +kernel) rfl, tb_m (i := 60) (by decide +kernel) rfl, _, rfl, rfl⟩
theorem mo_M_mark : mOk y_M_mark 1 := ⟨⟨by decide +kernel, by decide +kernel, by decide +kernel⟩, tb_m (i := 75) (by decide +kernel) rfl⟩
theorem lm_M_256 : LkV "ClockPostModel" 256 y_M_mark 1 8 := ⟨mo_M_mark, tb_m (i := 1096) (by decide +kernel) rfl, tb_m (i := 1098) (by decide +kernel) rfl, tb_m (i := 61) (by decide +kernel) rfl, _, rfl, rfl⟩
theorem mo_M_billSize : mOk y_M_billSize 1 := ⟨⟨by decide +kernel, by decide +kernel, by decide +kernel⟩, tb_m (i := 75) (by decide +kernel) rfl⟩
theorem lm_M_259 : LkV "ClockPostModel" 259 y_M_billSize 1 8 := ⟨mo_M_billSize, tb_m (i := 1088) (by decide +kernel) rfl, tb_m (i := 1090) (by decide +kernel) rfl, tb_m (i := 59) (by decide +kernel) rfl, _, rfl, rfl⟩
theorem mo_M_noteSize : mOk y_M_noteSize 1 := ⟨⟨by decide +kernel, by decide +kernel, by decide +kernel⟩, tb_m (i := 75) (by decide +kernel) rfl⟩
theorem lm_M_262 : LkV "ClockPostModel" 262 y_M_noteSize 1 8 := ⟨mo_M_noteSize, tb_m (i := 1108) (by decide +kernel) rfl, tb_m (i := 1110) (by decide +kernel) rfl, tb_m (i := 64) (by decide +kernel) rfl, _, rfl, rfl⟩
theorem mo_M_lentMark : mOk y_M_lentMark 1 := ⟨⟨by decide +kernel, by decide +kernel, by decide +kernel⟩, tb_m (i := 75) (by decide +kernel) rfl⟩
theorem lm_M_265 : LkV "ClockPostModel" 265 y_M_lentMark 1 8 := ⟨mo_M_lentMark, tb_m (i := 1104) (by decide +kernel) rfl, tb_m (i := 1106) (by decide +kernel) rfl, tb_m (i := 63) (by decide +kernel) rfl, _, rfl, rfl⟩
theorem mo_M_billMark : mOk y_M_billMark 1 := ⟨⟨by decide +kernel, by decide +kernel, by decide +kernel⟩, tb_m (i := 75) (by decide +kernel) rfl⟩
theorem lm_M_268 : LkV "ClockPostModel" 268 y_M_billMark 1 8 := ⟨mo_M_billMark, tb_m (i := 1100) (by decide +kernel) rfl, tb_m (i := 1102) (by decide +kernel) rfl, tb_m (i := 62) (by decide +kernel) rfl, _, rfl, rfl⟩
theorem mo_M_sizeOf : mOk y_M_sizeOf 1 := ⟨⟨by decide +kernel, by decide +kernel, by decide +kernel⟩, tb_m (i := 75) (by decide +kernel) rfl⟩
theorem lm_M_271 : LkV "ClockPostModel" 271 y_M_sizeOf 1 8 := ⟨mo_M_sizeOf, tb_m (i := 1080) (by decide +kernel) rfl, tb_m (i := 1082) (by decide +kernel) rfl, tb_m (i := 57) (by decide +kernel) rfl, _, rfl, rfl⟩
theorem mo_M_noteMark : mOk y_M_noteMark 1 := ⟨⟨by decide +kernel, by decide +kernel, by decide +kernel⟩, tb_m (i := 75) (by decide +kernel) rfl⟩
theorem lm_M_274 : LkV "ClockPostModel" 274 y_M_noteMark 1 8 := ⟨mo_M_noteMark, tb_m (i := 1112) (by decide +kernel) rfl, tb_m (i := 1114) (by decide +kernel) rfl, tb_m (i := 65) (by decide +kernel) rfl, _, rfl, rfl⟩
theorem lc_X_66 : Cond.constant "ClockPost" 66 (-1000001) ∈ tbl := tb_m (i := 314) (by decide +kernel) rfl
theorem lc_X_113 : Cond.constant "ClockPost" 113 (-1000003) ∈ tbl := tb_m (i := 363) (by decide +kernel) rfl
theorem lc_X_118 : Cond.constant "ClockPost" 118 (-1000100) ∈ tbl := tb_m (i := 415) (by decide +kernel) rfl
theorem lc_X_138 : Cond.constant "ClockPost" 138 (-1000002) ∈ tbl := tb_m (i := 436) (by decide +kernel) rfl
theorem lc_X_212 : Cond.constant "ClockPost" 212 (-1000000) ∈ tbl := tb_m (i := 553) (by decide +kernel) rfl
theorem lc_X_268 : Cond.constant "ClockPost" 268 (999999) ∈ tbl := tb_m (i := 642) (by decide +kernel) rfl
theorem lc_X_269 : Cond.constantLong "ClockPost" 269 (16807) ∈ tbl := tb_m (i := 643) (by decide +kernel) rfl
theorem lc_X_271 : Cond.constantLong "ClockPost" 271 (2147483647) ∈ tbl := tb_m (i := 644) (by decide +kernel) rfl
theorem lc_X_303 : Cond.constant "ClockPost" 303 (-1000010) ∈ tbl := tb_m (i := 319) (by decide +kernel) rfl
theorem lc_H_80 : Cond.constant "ClockPost$House" 80 (-1000000) ∈ tbl := tb_m (i := 475) (by decide +kernel) rfl
theorem lc_H_98 : Cond.constantLong "ClockPost$House" 98 (3) ∈ tbl := tb_m (i := 649) (by decide +kernel) rfl
theorem lc_O_31 : Cond.constant "ClockPost$OrderSearch" 31 (2147483647) ∈ tbl := tb_m (i := 564) (by decide +kernel) rfl
theorem lc_M_42 : Cond.constant "ClockPostModel" 42 (-1000010) ∈ tbl := tb_m (i := 789) (by decide +kernel) rfl
theorem lc_M_43 : Cond.constantLong "ClockPostModel" 43 (7) ∈ tbl := tb_m (i := 779) (by decide +kernel) rfl
theorem lc_M_53 : Cond.constantLong "ClockPostModel" 53 (2) ∈ tbl := tb_m (i := 783) (by decide +kernel) rfl
theorem lc_M_55 : Cond.constant "ClockPostModel" 55 (-1000001) ∈ tbl := tb_m (i := 784) (by decide +kernel) rfl
theorem lc_M_71 : Cond.constantLong "ClockPostModel" 71 (255) ∈ tbl := tb_m (i := 817) (by decide +kernel) rfl
theorem lc_M_76 : Cond.constant "ClockPostModel" 76 (-1000003) ∈ tbl := tb_m (i := 818) (by decide +kernel) rfl
theorem lc_M_80 : Cond.constantLong "ClockPostModel" 80 (48) ∈ tbl := tb_m (i := 851) (by decide +kernel) rfl
theorem lc_M_82 : Cond.constantLong "ClockPostModel" 82 (57) ∈ tbl := tb_m (i := 852) (by decide +kernel) rfl
theorem lc_M_125 : Cond.constant "ClockPostModel" 125 (-1000100) ∈ tbl := tb_m (i := 864) (by decide +kernel) rfl
theorem lc_M_137 : Cond.constant "ClockPostModel" 137 (-1000002) ∈ tbl := tb_m (i := 877) (by decide +kernel) rfl
theorem lc_M_147 : Cond.constant "ClockPostModel" 147 (-1000000) ∈ tbl := tb_m (i := 912) (by decide +kernel) rfl
theorem lc_M_170 : Cond.constantLong "ClockPostModel" 170 (24) ∈ tbl := tb_m (i := 882) (by decide +kernel) rfl
theorem lc_M_184 : Cond.constantLong "ClockPostModel" 184 (9) ∈ tbl := tb_m (i := 949) (by decide +kernel) rfl
theorem lc_M_186 : Cond.constantLong "ClockPostModel" 186 (60) ∈ tbl := tb_m (i := 962) (by decide +kernel) rfl
theorem lc_M_200 : Cond.constantLong "ClockPostModel" 200 (-1) ∈ tbl := tb_m (i := 987) (by decide +kernel) rfl
theorem lc_M_202 : Cond.constantLong "ClockPostModel" 202 (5) ∈ tbl := tb_m (i := 988) (by decide +kernel) rfl
theorem lc_M_223 : Cond.constantLong "ClockPostModel" 223 (300) ∈ tbl := tb_m (i := 1025) (by decide +kernel) rfl
theorem lc_M_225 : Cond.constantLong "ClockPostModel" 225 (16) ∈ tbl := tb_m (i := 1030) (by decide +kernel) rfl
theorem lc_M_234 : Cond.constantLong "ClockPostModel" 234 (10) ∈ tbl := tb_m (i := 1047) (by decide +kernel) rfl
theorem lc_M_236 : Cond.constantLong "ClockPostModel" 236 (999999) ∈ tbl := tb_m (i := 1052) (by decide +kernel) rfl
theorem lc_M_238 : Cond.constantLong "ClockPostModel" 238 (16807) ∈ tbl := tb_m (i := 1053) (by decide +kernel) rfl
theorem lc_M_240 : Cond.constantLong "ClockPostModel" 240 (2147483647) ∈ tbl := tb_m (i := 1054) (by decide +kernel) rfl
theorem lc_M_242 : Cond.constantLong "ClockPostModel" 242 (3) ∈ tbl := tb_m (i := 1055) (by decide +kernel) rfl
theorem lc_JI_265 : Cond.constant "java/lang/Integer" 265 (1431655765) ∈ tbl := tb_m (i := 465) (by decide +kernel) rfl
theorem lc_JI_266 : Cond.constant "java/lang/Integer" 266 (858993459) ∈ tbl := tb_m (i := 466) (by decide +kernel) rfl
theorem lc_JI_267 : Cond.constant "java/lang/Integer" 267 (252645135) ∈ tbl := tb_m (i := 467) (by decide +kernel) rfl
end
section
theorem d_A_forgetAll_0 : decode b_A_forgetAll 0 = .ok (.aload_n 0, 1) := by decide +kernel
theorem d_A_forgetAll_1 : decode b_A_forgetAll 1 = .ok (.iconst 0, 1) := by decide +kernel
theorem d_A_forgetAll_2 : decode b_A_forgetAll 2 = .ok (.putfield 22, 3) := by decide +kernel
theorem d_A_forgetAll_5 : decode b_A_forgetAll 5 = .ok (.return_, 1) := by decide +kernel
theorem d_A_init_0 : decode b_A_init 0 = .ok (.aload_n 0, 1) := by decide +kernel
theorem d_A_init_1 : decode b_A_init 1 = .ok (.invokespecial 3, 3) := by decide +kernel
theorem d_A_init_4 : decode b_A_init 4 = .ok (.aload_n 0, 1) := by decide +kernel
theorem d_A_init_5 : decode b_A_init 5 = .ok (.bipush 24, 2) := by decide +kernel
theorem d_A_init_7 : decode b_A_init 7 = .ok (.anewarray 9, 3) := by decide +kernel
theorem d_A_init_10 : decode b_A_init 10 = .ok (.putfield 11, 3) := by decide +kernel
theorem d_A_init_13 : decode b_A_init 13 = .ok (.iconst 0, 1) := by decide +kernel
theorem d_A_init_14 : decode b_A_init 14 = .ok (.istore_n 1, 1) := by decide +kernel
theorem d_A_init_15 : decode b_A_init 15 = .ok (.iload_n 1, 1) := by decide +kernel
theorem d_A_init_16 : decode b_A_init 16 = .ok (.aload_n 0, 1) := by decide +kernel
theorem d_A_init_17 : decode b_A_init 17 = .ok (.getfield 11, 3) := by decide +kernel
theorem d_A_init_20 : decode b_A_init 20 = .ok (.arraylength, 1) := by decide +kernel
theorem d_A_init_21 : decode b_A_init 21 = .ok (.if_icmp .ge 22, 3) := by decide +kernel
theorem d_A_init_24 : decode b_A_init 24 = .ok (.aload_n 0, 1) := by decide +kernel
theorem d_A_init_25 : decode b_A_init 25 = .ok (.getfield 11, 3) := by decide +kernel
theorem d_A_init_28 : decode b_A_init 28 = .ok (.iload_n 1, 1) := by decide +kernel
theorem d_A_init_29 : decode b_A_init 29 = .ok (.new 9, 3) := by decide +kernel
theorem d_A_init_32 : decode b_A_init 32 = .ok (.dup, 1) := by decide +kernel
theorem d_A_init_33 : decode b_A_init 33 = .ok (.invokespecial 17, 3) := by decide +kernel
theorem d_A_init_36 : decode b_A_init 36 = .ok (.aastore, 1) := by decide +kernel
theorem d_A_init_37 : decode b_A_init 37 = .ok (.iinc 1 1, 3) := by decide +kernel
theorem d_A_init_40 : decode b_A_init 40 = .ok (.goto (-25), 3) := by decide +kernel
theorem d_A_init_43 : decode b_A_init 43 = .ok (.return_, 1) := by decide +kernel
theorem d_A_keep_0 : decode b_A_keep 0 = .ok (.aload_n 0, 1) := by decide +kernel
theorem d_A_keep_1 : decode b_A_keep 1 = .ok (.getfield 11, 3) := by decide +kernel
theorem d_A_keep_4 : decode b_A_keep 4 = .ok (.aload_n 0, 1) := by decide +kernel
theorem d_A_keep_5 : decode b_A_keep 5 = .ok (.getfield 18, 3) := by decide +kernel
theorem d_A_keep_8 : decode b_A_keep 8 = .ok (.aload_n 0, 1) := by decide +kernel
theorem d_A_keep_9 : decode b_A_keep 9 = .ok (.getfield 22, 3) := by decide +kernel
theorem d_A_keep_12 : decode b_A_keep 12 = .ok (.iadd, 1) := by decide +kernel
theorem d_A_keep_13 : decode b_A_keep 13 = .ok (.bipush 24, 2) := by decide +kernel
theorem d_A_keep_15 : decode b_A_keep 15 = .ok (.irem, 1) := by decide +kernel
theorem d_A_keep_16 : decode b_A_keep 16 = .ok (.aaload, 1) := by decide +kernel
theorem d_A_keep_17 : decode b_A_keep 17 = .ok (.aload_n 1, 1) := by decide +kernel
theorem d_A_keep_18 : decode b_A_keep 18 = .ok (.invokevirtual 25, 3) := by decide +kernel
theorem d_A_keep_21 : decode b_A_keep 21 = .ok (.aload_n 0, 1) := by decide +kernel
theorem d_A_keep_22 : decode b_A_keep 22 = .ok (.getfield 22, 3) := by decide +kernel
theorem d_A_keep_25 : decode b_A_keep 25 = .ok (.bipush 24, 2) := by decide +kernel
theorem d_A_keep_27 : decode b_A_keep 27 = .ok (.if_icmp .ge 16, 3) := by decide +kernel
theorem d_A_keep_30 : decode b_A_keep 30 = .ok (.aload_n 0, 1) := by decide +kernel
theorem d_A_keep_31 : decode b_A_keep 31 = .ok (.dup, 1) := by decide +kernel
theorem d_A_keep_32 : decode b_A_keep 32 = .ok (.getfield 22, 3) := by decide +kernel
theorem d_A_keep_35 : decode b_A_keep 35 = .ok (.iconst 1, 1) := by decide +kernel
theorem d_A_keep_36 : decode b_A_keep 36 = .ok (.iadd, 1) := by decide +kernel
theorem d_A_keep_37 : decode b_A_keep 37 = .ok (.putfield 22, 3) := by decide +kernel
theorem d_A_keep_40 : decode b_A_keep 40 = .ok (.goto 16, 3) := by decide +kernel
theorem d_A_keep_43 : decode b_A_keep 43 = .ok (.aload_n 0, 1) := by decide +kernel
theorem d_A_keep_44 : decode b_A_keep 44 = .ok (.aload_n 0, 1) := by decide +kernel
theorem d_A_keep_45 : decode b_A_keep 45 = .ok (.getfield 18, 3) := by decide +kernel
theorem d_A_keep_48 : decode b_A_keep 48 = .ok (.iconst 1, 1) := by decide +kernel
theorem d_A_keep_49 : decode b_A_keep 49 = .ok (.iadd, 1) := by decide +kernel
theorem d_A_keep_50 : decode b_A_keep 50 = .ok (.bipush 24, 2) := by decide +kernel
theorem d_A_keep_52 : decode b_A_keep 52 = .ok (.irem, 1) := by decide +kernel
theorem d_A_keep_53 : decode b_A_keep 53 = .ok (.putfield 18, 3) := by decide +kernel
theorem d_A_keep_56 : decode b_A_keep 56 = .ok (.return_, 1) := by decide +kernel
theorem d_A_takeBack_0 : decode b_A_takeBack 0 = .ok (.aload_n 0, 1) := by decide +kernel
theorem d_A_takeBack_1 : decode b_A_takeBack 1 = .ok (.getfield 22, 3) := by decide +kernel
theorem d_A_takeBack_4 : decode b_A_takeBack 4 = .ok (.iconst 1, 1) := by decide +kernel
theorem d_A_takeBack_5 : decode b_A_takeBack 5 = .ok (.if_icmp .ge 5, 3) := by decide +kernel
theorem d_A_takeBack_8 : decode b_A_takeBack 8 = .ok (.iconst 0, 1) := by decide +kernel
theorem d_A_takeBack_9 : decode b_A_takeBack 9 = .ok (.ireturn, 1) := by decide +kernel
theorem d_A_takeBack_10 : decode b_A_takeBack 10 = .ok (.aload_n 0, 1) := by decide +kernel
theorem d_A_takeBack_11 : decode b_A_takeBack 11 = .ok (.dup, 1) := by decide +kernel
theorem d_A_takeBack_12 : decode b_A_takeBack 12 = .ok (.getfield 22, 3) := by decide +kernel
theorem d_A_takeBack_15 : decode b_A_takeBack 15 = .ok (.iconst 1, 1) := by decide +kernel
theorem d_A_takeBack_16 : decode b_A_takeBack 16 = .ok (.isub, 1) := by decide +kernel
theorem d_A_takeBack_17 : decode b_A_takeBack 17 = .ok (.putfield 22, 3) := by decide +kernel
theorem d_A_takeBack_20 : decode b_A_takeBack 20 = .ok (.aload_n 1, 1) := by decide +kernel
theorem d_A_takeBack_21 : decode b_A_takeBack 21 = .ok (.aload_n 0, 1) := by decide +kernel
theorem d_A_takeBack_22 : decode b_A_takeBack 22 = .ok (.getfield 11, 3) := by decide +kernel
theorem d_A_takeBack_25 : decode b_A_takeBack 25 = .ok (.aload_n 0, 1) := by decide +kernel
theorem d_A_takeBack_26 : decode b_A_takeBack 26 = .ok (.getfield 18, 3) := by decide +kernel
theorem d_A_takeBack_29 : decode b_A_takeBack 29 = .ok (.aload_n 0, 1) := by decide +kernel
theorem d_A_takeBack_30 : decode b_A_takeBack 30 = .ok (.getfield 22, 3) := by decide +kernel
theorem d_A_takeBack_33 : decode b_A_takeBack 33 = .ok (.iadd, 1) := by decide +kernel
theorem d_A_takeBack_34 : decode b_A_takeBack 34 = .ok (.bipush 24, 2) := by decide +kernel
theorem d_A_takeBack_36 : decode b_A_takeBack 36 = .ok (.irem, 1) := by decide +kernel
theorem d_A_takeBack_37 : decode b_A_takeBack 37 = .ok (.aaload, 1) := by decide +kernel
theorem d_A_takeBack_38 : decode b_A_takeBack 38 = .ok (.invokevirtual 25, 3) := by decide +kernel
theorem d_A_takeBack_41 : decode b_A_takeBack 41 = .ok (.iconst 1, 1) := by decide +kernel
theorem d_A_takeBack_42 : decode b_A_takeBack 42 = .ok (.ireturn, 1) := by decide +kernel
theorem d_H_answerOne_0 : decode b_H_answerOne 0 = .ok (.aload_n 0, 1) := by decide +kernel
theorem d_H_answerOne_1 : decode b_H_answerOne 1 = .ok (.iload_n 1, 1) := by decide +kernel
theorem d_H_answerOne_2 : decode b_H_answerOne 2 = .ok (.invokevirtual 49, 3) := by decide +kernel
theorem d_H_answerOne_5 : decode b_H_answerOne 5 = .ok (.ifCond .eq 19, 3) := by decide +kernel
theorem d_H_answerOne_8 : decode b_H_answerOne 8 = .ok (.aload_n 0, 1) := by decide +kernel
theorem d_H_answerOne_9 : decode b_H_answerOne 9 = .ok (.iload_n 1, 1) := by decide +kernel
theorem d_H_answerOne_10 : decode b_H_answerOne 10 = .ok (.aload_n 0, 1) := by decide +kernel
theorem d_H_answerOne_11 : decode b_H_answerOne 11 = .ok (.getfield 11, 3) := by decide +kernel
theorem d_H_answerOne_14 : decode b_H_answerOne 14 = .ok (.iload_n 1, 1) := by decide +kernel
theorem d_H_answerOne_15 : decode b_H_answerOne 15 = .ok (.aaload, 1) := by decide +kernel
theorem d_H_answerOne_16 : decode b_H_answerOne 16 = .ok (.getfield 87, 3) := by decide +kernel
theorem d_H_answerOne_19 : decode b_H_answerOne 19 = .ok (.iconst 2, 1) := by decide +kernel
theorem d_H_answerOne_20 : decode b_H_answerOne 20 = .ok (.idiv, 1) := by decide +kernel
theorem d_H_answerOne_21 : decode b_H_answerOne 21 = .ok (.invokevirtual 90, 3) := by decide +kernel
theorem d_H_answerOne_24 : decode b_H_answerOne 24 = .ok (.return_, 1) := by decide +kernel
theorem d_H_become_0 : decode b_H_become 0 = .ok (.aload_n 0, 1) := by decide +kernel
theorem d_H_become_1 : decode b_H_become 1 = .ok (.aload_n 1, 1) := by decide +kernel
theorem d_H_become_2 : decode b_H_become 2 = .ok (.getfield 18, 3) := by decide +kernel
theorem d_H_become_5 : decode b_H_become 5 = .ok (.putfield 18, 3) := by decide +kernel
theorem d_H_become_8 : decode b_H_become 8 = .ok (.aload_n 0, 1) := by decide +kernel
theorem d_H_become_9 : decode b_H_become 9 = .ok (.aload_n 1, 1) := by decide +kernel
theorem d_H_become_10 : decode b_H_become 10 = .ok (.getfield 22, 3) := by decide +kernel
theorem d_H_become_13 : decode b_H_become 13 = .ok (.putfield 22, 3) := by decide +kernel
theorem d_H_become_16 : decode b_H_become 16 = .ok (.aload_n 0, 1) := by decide +kernel
theorem d_H_become_17 : decode b_H_become 17 = .ok (.aload_n 1, 1) := by decide +kernel
theorem d_H_become_18 : decode b_H_become 18 = .ok (.getfield 26, 3) := by decide +kernel
theorem d_H_become_21 : decode b_H_become 21 = .ok (.putfield 26, 3) := by decide +kernel
theorem d_H_become_24 : decode b_H_become 24 = .ok (.aload_n 0, 1) := by decide +kernel
theorem d_H_become_25 : decode b_H_become 25 = .ok (.aload_n 1, 1) := by decide +kernel
theorem d_H_become_26 : decode b_H_become 26 = .ok (.getfield 29, 3) := by decide +kernel
theorem d_H_become_29 : decode b_H_become 29 = .ok (.putfield 29, 3) := by decide +kernel
theorem d_H_become_32 : decode b_H_become 32 = .ok (.aload_n 0, 1) := by decide +kernel
theorem d_H_become_33 : decode b_H_become 33 = .ok (.aload_n 1, 1) := by decide +kernel
theorem d_H_become_34 : decode b_H_become 34 = .ok (.getfield 32, 3) := by decide +kernel
theorem d_H_become_37 : decode b_H_become 37 = .ok (.putfield 32, 3) := by decide +kernel
theorem d_H_become_40 : decode b_H_become 40 = .ok (.aload_n 0, 1) := by decide +kernel
theorem d_H_become_41 : decode b_H_become 41 = .ok (.aload_n 1, 1) := by decide +kernel
theorem d_H_become_42 : decode b_H_become 42 = .ok (.getfield 35, 3) := by decide +kernel
theorem d_H_become_45 : decode b_H_become 45 = .ok (.putfield 35, 3) := by decide +kernel
theorem d_H_become_48 : decode b_H_become 48 = .ok (.aload_n 0, 1) := by decide +kernel
theorem d_H_become_49 : decode b_H_become 49 = .ok (.aload_n 1, 1) := by decide +kernel
theorem d_H_become_50 : decode b_H_become 50 = .ok (.getfield 38, 3) := by decide +kernel
theorem d_H_become_53 : decode b_H_become 53 = .ok (.putfield 38, 3) := by decide +kernel
theorem d_H_become_56 : decode b_H_become 56 = .ok (.iconst 0, 1) := by decide +kernel
theorem d_H_become_57 : decode b_H_become 57 = .ok (.istore_n 2, 1) := by decide +kernel
theorem d_H_become_58 : decode b_H_become 58 = .ok (.iload_n 2, 1) := by decide +kernel
theorem d_H_become_59 : decode b_H_become 59 = .ok (.aload_n 0, 1) := by decide +kernel
theorem d_H_become_60 : decode b_H_become 60 = .ok (.getfield 22, 3) := by decide +kernel
theorem d_H_become_63 : decode b_H_become 63 = .ok (.if_icmp .ge 24, 3) := by decide +kernel
theorem d_H_become_66 : decode b_H_become 66 = .ok (.aload_n 0, 1) := by decide +kernel
theorem d_H_become_67 : decode b_H_become 67 = .ok (.getfield 11, 3) := by decide +kernel
theorem d_H_become_70 : decode b_H_become 70 = .ok (.iload_n 2, 1) := by decide +kernel
theorem d_H_become_71 : decode b_H_become 71 = .ok (.aaload, 1) := by decide +kernel
theorem d_H_become_72 : decode b_H_become 72 = .ok (.aload_n 1, 1) := by decide +kernel
theorem d_H_become_73 : decode b_H_become 73 = .ok (.getfield 11, 3) := by decide +kernel
theorem d_H_become_76 : decode b_H_become 76 = .ok (.iload_n 2, 1) := by decide +kernel
theorem d_H_become_77 : decode b_H_become 77 = .ok (.aaload, 1) := by decide +kernel
theorem d_H_become_78 : decode b_H_become 78 = .ok (.invokevirtual 41, 3) := by decide +kernel
theorem d_H_become_81 : decode b_H_become 81 = .ok (.iinc 2 1, 3) := by decide +kernel
theorem d_H_become_84 : decode b_H_become 84 = .ok (.goto (-26), 3) := by decide +kernel
theorem d_H_become_87 : decode b_H_become 87 = .ok (.return_, 1) := by decide +kernel
theorem d_H_clear_0 : decode b_H_clear 0 = .ok (.aload_n 0, 1) := by decide +kernel
theorem d_H_clear_1 : decode b_H_clear 1 = .ok (.iconst 0, 1) := by decide +kernel
theorem d_H_clear_2 : decode b_H_clear 2 = .ok (.putfield 18, 3) := by decide +kernel
theorem d_H_clear_5 : decode b_H_clear 5 = .ok (.aload_n 0, 1) := by decide +kernel
theorem d_H_clear_6 : decode b_H_clear 6 = .ok (.iconst 0, 1) := by decide +kernel
theorem d_H_clear_7 : decode b_H_clear 7 = .ok (.putfield 22, 3) := by decide +kernel
theorem d_H_clear_10 : decode b_H_clear 10 = .ok (.aload_n 0, 1) := by decide +kernel
theorem d_H_clear_11 : decode b_H_clear 11 = .ok (.iconst 0, 1) := by decide +kernel
theorem d_H_clear_12 : decode b_H_clear 12 = .ok (.putfield 26, 3) := by decide +kernel
theorem d_H_clear_15 : decode b_H_clear 15 = .ok (.aload_n 0, 1) := by decide +kernel
theorem d_H_clear_16 : decode b_H_clear 16 = .ok (.iconst 0, 1) := by decide +kernel
theorem d_H_clear_17 : decode b_H_clear 17 = .ok (.putfield 29, 3) := by decide +kernel
theorem d_H_clear_20 : decode b_H_clear 20 = .ok (.aload_n 0, 1) := by decide +kernel
theorem d_H_clear_21 : decode b_H_clear 21 = .ok (.iconst 0, 1) := by decide +kernel
theorem d_H_clear_22 : decode b_H_clear 22 = .ok (.putfield 32, 3) := by decide +kernel
theorem d_H_clear_25 : decode b_H_clear 25 = .ok (.aload_n 0, 1) := by decide +kernel
theorem d_H_clear_26 : decode b_H_clear 26 = .ok (.iconst 0, 1) := by decide +kernel
theorem d_H_clear_27 : decode b_H_clear 27 = .ok (.putfield 35, 3) := by decide +kernel
theorem d_H_clear_30 : decode b_H_clear 30 = .ok (.aload_n 0, 1) := by decide +kernel
theorem d_H_clear_31 : decode b_H_clear 31 = .ok (.iconst 0, 1) := by decide +kernel
theorem d_H_clear_32 : decode b_H_clear 32 = .ok (.putfield 38, 3) := by decide +kernel
theorem d_H_clear_35 : decode b_H_clear 35 = .ok (.return_, 1) := by decide +kernel
theorem d_H_hasLetter_0 : decode b_H_hasLetter 0 = .ok (.iload_n 1, 1) := by decide +kernel
theorem d_H_hasLetter_1 : decode b_H_hasLetter 1 = .ok (.ifCond .lt 15, 3) := by decide +kernel
theorem d_H_hasLetter_4 : decode b_H_hasLetter 4 = .ok (.iload_n 1, 1) := by decide +kernel
theorem d_H_hasLetter_5 : decode b_H_hasLetter 5 = .ok (.aload_n 0, 1) := by decide +kernel
theorem d_H_hasLetter_6 : decode b_H_hasLetter 6 = .ok (.getfield 22, 3) := by decide +kernel
theorem d_H_hasLetter_9 : decode b_H_hasLetter 9 = .ok (.if_icmp .ge 7, 3) := by decide +kernel
theorem d_H_hasLetter_12 : decode b_H_hasLetter 12 = .ok (.iconst 1, 1) := by decide +kernel
theorem d_H_hasLetter_13 : decode b_H_hasLetter 13 = .ok (.goto 4, 3) := by decide +kernel
theorem d_H_hasLetter_16 : decode b_H_hasLetter 16 = .ok (.iconst 0, 1) := by decide +kernel
theorem d_H_hasLetter_17 : decode b_H_hasLetter 17 = .ok (.ireturn, 1) := by decide +kernel
theorem d_H_init_0 : decode b_H_init 0 = .ok (.aload_n 0, 1) := by decide +kernel
theorem d_H_init_1 : decode b_H_init 1 = .ok (.invokespecial 3, 3) := by decide +kernel
theorem d_H_init_4 : decode b_H_init 4 = .ok (.aload_n 0, 1) := by decide +kernel
theorem d_H_init_5 : decode b_H_init 5 = .ok (.bipush 6, 2) := by decide +kernel
theorem d_H_init_7 : decode b_H_init 7 = .ok (.anewarray 9, 3) := by decide +kernel
theorem d_H_init_10 : decode b_H_init 10 = .ok (.putfield 11, 3) := by decide +kernel
theorem d_H_init_13 : decode b_H_init 13 = .ok (.iconst 0, 1) := by decide +kernel
theorem d_H_init_14 : decode b_H_init 14 = .ok (.istore_n 1, 1) := by decide +kernel
theorem d_H_init_15 : decode b_H_init 15 = .ok (.iload_n 1, 1) := by decide +kernel
theorem d_H_init_16 : decode b_H_init 16 = .ok (.aload_n 0, 1) := by decide +kernel
theorem d_H_init_17 : decode b_H_init 17 = .ok (.getfield 11, 3) := by decide +kernel
theorem d_H_init_20 : decode b_H_init 20 = .ok (.arraylength, 1) := by decide +kernel
theorem d_H_init_21 : decode b_H_init 21 = .ok (.if_icmp .ge 22, 3) := by decide +kernel
theorem d_H_init_24 : decode b_H_init 24 = .ok (.aload_n 0, 1) := by decide +kernel
theorem d_H_init_25 : decode b_H_init 25 = .ok (.getfield 11, 3) := by decide +kernel
theorem d_H_init_28 : decode b_H_init 28 = .ok (.iload_n 1, 1) := by decide +kernel
theorem d_H_init_29 : decode b_H_init 29 = .ok (.new 9, 3) := by decide +kernel
theorem d_H_init_32 : decode b_H_init 32 = .ok (.dup, 1) := by decide +kernel
theorem d_H_init_33 : decode b_H_init 33 = .ok (.invokespecial 17, 3) := by decide +kernel
theorem d_H_init_36 : decode b_H_init 36 = .ok (.aastore, 1) := by decide +kernel
theorem d_H_init_37 : decode b_H_init 37 = .ok (.iinc 1 1, 3) := by decide +kernel
theorem d_H_init_40 : decode b_H_init 40 = .ok (.goto (-25), 3) := by decide +kernel
theorem d_H_init_43 : decode b_H_init 43 = .ok (.return_, 1) := by decide +kernel
theorem d_H_isBehind_0 : decode b_H_isBehind 0 = .ok (.aload_n 0, 1) := by decide +kernel
theorem d_H_isBehind_1 : decode b_H_isBehind 1 = .ok (.iload_n 1, 1) := by decide +kernel
theorem d_H_isBehind_2 : decode b_H_isBehind 2 = .ok (.invokevirtual 45, 3) := by decide +kernel
theorem d_H_isBehind_5 : decode b_H_isBehind 5 = .ok (.ifCond .eq 19, 3) := by decide +kernel
theorem d_H_isBehind_8 : decode b_H_isBehind 8 = .ok (.aload_n 0, 1) := by decide +kernel
theorem d_H_isBehind_9 : decode b_H_isBehind 9 = .ok (.getfield 29, 3) := by decide +kernel
theorem d_H_isBehind_12 : decode b_H_isBehind 12 = .ok (.iload_n 1, 1) := by decide +kernel
theorem d_H_isBehind_13 : decode b_H_isBehind 13 = .ok (.ishr, 1) := by decide +kernel
theorem d_H_isBehind_14 : decode b_H_isBehind 14 = .ok (.iconst 1, 1) := by decide +kernel
theorem d_H_isBehind_15 : decode b_H_isBehind 15 = .ok (.iand, 1) := by decide +kernel
theorem d_H_isBehind_16 : decode b_H_isBehind 16 = .ok (.iconst 1, 1) := by decide +kernel
theorem d_H_isBehind_17 : decode b_H_isBehind 17 = .ok (.if_icmp .ne 7, 3) := by decide +kernel
theorem d_H_isBehind_20 : decode b_H_isBehind 20 = .ok (.iconst 1, 1) := by decide +kernel
theorem d_H_isBehind_21 : decode b_H_isBehind 21 = .ok (.goto 4, 3) := by decide +kernel
theorem d_H_isBehind_24 : decode b_H_isBehind 24 = .ok (.iconst 0, 1) := by decide +kernel
theorem d_H_isBehind_25 : decode b_H_isBehind 25 = .ok (.ireturn, 1) := by decide +kernel
theorem d_H_nextToFall_0 : decode b_H_nextToFall 0 = .ok (.ldc 80, 2) := by decide +kernel
theorem d_H_nextToFall_2 : decode b_H_nextToFall 2 = .ok (.istore_n 1, 1) := by decide +kernel
theorem d_H_nextToFall_3 : decode b_H_nextToFall 3 = .ok (.iconst 0, 1) := by decide +kernel
theorem d_H_nextToFall_4 : decode b_H_nextToFall 4 = .ok (.istore_n 2, 1) := by decide +kernel
theorem d_H_nextToFall_5 : decode b_H_nextToFall 5 = .ok (.iload_n 2, 1) := by decide +kernel
theorem d_H_nextToFall_6 : decode b_H_nextToFall 6 = .ok (.aload_n 0, 1) := by decide +kernel
theorem d_H_nextToFall_7 : decode b_H_nextToFall 7 = .ok (.getfield 22, 3) := by decide +kernel
theorem d_H_nextToFall_10 : decode b_H_nextToFall 10 = .ok (.if_icmp .ge 45, 3) := by decide +kernel
theorem d_H_nextToFall_13 : decode b_H_nextToFall 13 = .ok (.aload_n 0, 1) := by decide +kernel
theorem d_H_nextToFall_14 : decode b_H_nextToFall 14 = .ok (.iload_n 2, 1) := by decide +kernel
theorem d_H_nextToFall_15 : decode b_H_nextToFall 15 = .ok (.invokevirtual 49, 3) := by decide +kernel
theorem d_H_nextToFall_18 : decode b_H_nextToFall 18 = .ok (.ifCond .eq 31, 3) := by decide +kernel
theorem d_H_nextToFall_21 : decode b_H_nextToFall 21 = .ok (.aload_n 0, 1) := by decide +kernel
theorem d_H_nextToFall_22 : decode b_H_nextToFall 22 = .ok (.iload_n 1, 1) := by decide +kernel
theorem d_H_nextToFall_23 : decode b_H_nextToFall 23 = .ok (.invokevirtual 45, 3) := by decide +kernel
theorem d_H_nextToFall_26 : decode b_H_nextToFall 26 = .ok (.ifCond .eq 21, 3) := by decide +kernel
theorem d_H_nextToFall_29 : decode b_H_nextToFall 29 = .ok (.aload_n 0, 1) := by decide +kernel
theorem d_H_nextToFall_30 : decode b_H_nextToFall 30 = .ok (.getfield 11, 3) := by decide +kernel
theorem d_H_nextToFall_33 : decode b_H_nextToFall 33 = .ok (.iload_n 2, 1) := by decide +kernel
theorem d_H_nextToFall_34 : decode b_H_nextToFall 34 = .ok (.aaload, 1) := by decide +kernel
theorem d_H_nextToFall_35 : decode b_H_nextToFall 35 = .ok (.aload_n 0, 1) := by decide +kernel
theorem d_H_nextToFall_36 : decode b_H_nextToFall 36 = .ok (.getfield 11, 3) := by decide +kernel
theorem d_H_nextToFall_39 : decode b_H_nextToFall 39 = .ok (.iload_n 1, 1) := by decide +kernel
theorem d_H_nextToFall_40 : decode b_H_nextToFall 40 = .ok (.aaload, 1) := by decide +kernel
theorem d_H_nextToFall_41 : decode b_H_nextToFall 41 = .ok (.invokevirtual 94, 3) := by decide +kernel
theorem d_H_nextToFall_44 : decode b_H_nextToFall 44 = .ok (.ifCond .eq 5, 3) := by decide +kernel
theorem d_H_nextToFall_47 : decode b_H_nextToFall 47 = .ok (.iload_n 2, 1) := by decide +kernel
theorem d_H_nextToFall_48 : decode b_H_nextToFall 48 = .ok (.istore_n 1, 1) := by decide +kernel
theorem d_H_nextToFall_49 : decode b_H_nextToFall 49 = .ok (.iinc 2 1, 3) := by decide +kernel
theorem d_H_nextToFall_52 : decode b_H_nextToFall 52 = .ok (.goto (-47), 3) := by decide +kernel
theorem d_H_nextToFall_55 : decode b_H_nextToFall 55 = .ok (.iload_n 1, 1) := by decide +kernel
theorem d_H_nextToFall_56 : decode b_H_nextToFall 56 = .ok (.ireturn, 1) := by decide +kernel
theorem d_H_passDay_0 : decode b_H_passDay 0 = .ok (.aload_n 0, 1) := by decide +kernel
theorem d_H_passDay_1 : decode b_H_passDay 1 = .ok (.sipush 9999, 3) := by decide +kernel
theorem d_H_passDay_4 : decode b_H_passDay 4 = .ok (.aload_n 0, 1) := by decide +kernel
theorem d_H_passDay_5 : decode b_H_passDay 5 = .ok (.getfield 35, 3) := by decide +kernel
theorem d_H_passDay_8 : decode b_H_passDay 8 = .ok (.aload_n 0, 1) := by decide +kernel
theorem d_H_passDay_9 : decode b_H_passDay 9 = .ok (.invokevirtual 67, 3) := by decide +kernel
theorem d_H_passDay_12 : decode b_H_passDay 12 = .ok (.iadd, 1) := by decide +kernel
theorem d_H_passDay_13 : decode b_H_passDay 13 = .ok (.invokestatic 71, 3) := by decide +kernel
theorem d_H_passDay_16 : decode b_H_passDay 16 = .ok (.putfield 35, 3) := by decide +kernel
theorem d_H_passDay_19 : decode b_H_passDay 19 = .ok (.iconst 0, 1) := by decide +kernel
theorem d_H_passDay_20 : decode b_H_passDay 20 = .ok (.istore_n 1, 1) := by decide +kernel
theorem d_H_passDay_21 : decode b_H_passDay 21 = .ok (.iload_n 1, 1) := by decide +kernel
theorem d_H_passDay_22 : decode b_H_passDay 22 = .ok (.aload_n 0, 1) := by decide +kernel
theorem d_H_passDay_23 : decode b_H_passDay 23 = .ok (.getfield 22, 3) := by decide +kernel
theorem d_H_passDay_26 : decode b_H_passDay 26 = .ok (.if_icmp .ge 42, 3) := by decide +kernel
theorem d_H_passDay_29 : decode b_H_passDay 29 = .ok (.aload_n 0, 1) := by decide +kernel
theorem d_H_passDay_30 : decode b_H_passDay 30 = .ok (.iload_n 1, 1) := by decide +kernel
theorem d_H_passDay_31 : decode b_H_passDay 31 = .ok (.invokevirtual 49, 3) := by decide +kernel
theorem d_H_passDay_34 : decode b_H_passDay 34 = .ok (.ifCond .eq 28, 3) := by decide +kernel
theorem d_H_passDay_37 : decode b_H_passDay 37 = .ok (.aload_n 0, 1) := by decide +kernel
theorem d_H_passDay_38 : decode b_H_passDay 38 = .ok (.getfield 11, 3) := by decide +kernel
theorem d_H_passDay_41 : decode b_H_passDay 41 = .ok (.iload_n 1, 1) := by decide +kernel
theorem d_H_passDay_42 : decode b_H_passDay 42 = .ok (.aaload, 1) := by decide +kernel
theorem d_H_passDay_43 : decode b_H_passDay 43 = .ok (.bipush 99, 2) := by decide +kernel
theorem d_H_passDay_45 : decode b_H_passDay 45 = .ok (.aload_n 0, 1) := by decide +kernel
theorem d_H_passDay_46 : decode b_H_passDay 46 = .ok (.getfield 11, 3) := by decide +kernel
theorem d_H_passDay_49 : decode b_H_passDay 49 = .ok (.iload_n 1, 1) := by decide +kernel
theorem d_H_passDay_50 : decode b_H_passDay 50 = .ok (.aaload, 1) := by decide +kernel
theorem d_H_passDay_51 : decode b_H_passDay 51 = .ok (.getfield 77, 3) := by decide +kernel
theorem d_H_passDay_54 : decode b_H_passDay 54 = .ok (.iconst 1, 1) := by decide +kernel
theorem d_H_passDay_55 : decode b_H_passDay 55 = .ok (.iadd, 1) := by decide +kernel
theorem d_H_passDay_56 : decode b_H_passDay 56 = .ok (.invokestatic 71, 3) := by decide +kernel
theorem d_H_passDay_59 : decode b_H_passDay 59 = .ok (.putfield 77, 3) := by decide +kernel
theorem d_H_passDay_62 : decode b_H_passDay 62 = .ok (.iinc 1 1, 3) := by decide +kernel
theorem d_H_passDay_65 : decode b_H_passDay 65 = .ok (.goto (-44), 3) := by decide +kernel
theorem d_H_passDay_68 : decode b_H_passDay 68 = .ok (.aload_n 0, 1) := by decide +kernel
theorem d_H_passDay_69 : decode b_H_passDay 69 = .ok (.dup, 1) := by decide +kernel
theorem d_H_passDay_70 : decode b_H_passDay 70 = .ok (.getfield 32, 3) := by decide +kernel
theorem d_H_passDay_73 : decode b_H_passDay 73 = .ok (.iconst 1, 1) := by decide +kernel
theorem d_H_passDay_74 : decode b_H_passDay 74 = .ok (.iadd, 1) := by decide +kernel
theorem d_H_passDay_75 : decode b_H_passDay 75 = .ok (.putfield 32, 3) := by decide +kernel
theorem d_H_passDay_78 : decode b_H_passDay 78 = .ok (.ldc 80, 2) := by decide +kernel
theorem d_H_passDay_80 : decode b_H_passDay 80 = .ok (.istore_n 1, 1) := by decide +kernel
theorem d_H_passDay_81 : decode b_H_passDay 81 = .ok (.iconst 0, 1) := by decide +kernel
theorem d_H_passDay_82 : decode b_H_passDay 82 = .ok (.istore_n 2, 1) := by decide +kernel
theorem d_H_passDay_83 : decode b_H_passDay 83 = .ok (.iload_n 2, 1) := by decide +kernel
theorem d_H_passDay_84 : decode b_H_passDay 84 = .ok (.aload_n 0, 1) := by decide +kernel
theorem d_H_passDay_85 : decode b_H_passDay 85 = .ok (.getfield 22, 3) := by decide +kernel
theorem d_H_passDay_88 : decode b_H_passDay 88 = .ok (.if_icmp .ge 59, 3) := by decide +kernel
theorem d_H_passDay_91 : decode b_H_passDay 91 = .ok (.aload_n 0, 1) := by decide +kernel
theorem d_H_passDay_92 : decode b_H_passDay 92 = .ok (.invokevirtual 81, 3) := by decide +kernel
theorem d_H_passDay_95 : decode b_H_passDay 95 = .ok (.aload_n 0, 1) := by decide +kernel
theorem d_H_passDay_96 : decode b_H_passDay 96 = .ok (.getfield 26, 3) := by decide +kernel
theorem d_H_passDay_99 : decode b_H_passDay 99 = .ok (.if_icmp .le 48, 3) := by decide +kernel
theorem d_H_passDay_102 : decode b_H_passDay 102 = .ok (.aload_n 0, 1) := by decide +kernel
theorem d_H_passDay_103 : decode b_H_passDay 103 = .ok (.invokevirtual 84, 3) := by decide +kernel
theorem d_H_passDay_106 : decode b_H_passDay 106 = .ok (.istore_n 3, 1) := by decide +kernel
theorem d_H_passDay_107 : decode b_H_passDay 107 = .ok (.aload_n 0, 1) := by decide +kernel
theorem d_H_passDay_108 : decode b_H_passDay 108 = .ok (.iload_n 3, 1) := by decide +kernel
theorem d_H_passDay_109 : decode b_H_passDay 109 = .ok (.invokevirtual 45, 3) := by decide +kernel
theorem d_H_passDay_112 : decode b_H_passDay 112 = .ok (.ifCond .eq 29, 3) := by decide +kernel
theorem d_H_passDay_115 : decode b_H_passDay 115 = .ok (.aload_n 0, 1) := by decide +kernel
theorem d_H_passDay_116 : decode b_H_passDay 116 = .ok (.iload_n 3, 1) := by decide +kernel
theorem d_H_passDay_117 : decode b_H_passDay 117 = .ok (.aload_n 0, 1) := by decide +kernel
theorem d_H_passDay_118 : decode b_H_passDay 118 = .ok (.getfield 11, 3) := by decide +kernel
theorem d_H_passDay_121 : decode b_H_passDay 121 = .ok (.iload_n 3, 1) := by decide +kernel
theorem d_H_passDay_122 : decode b_H_passDay 122 = .ok (.aaload, 1) := by decide +kernel
theorem d_H_passDay_123 : decode b_H_passDay 123 = .ok (.getfield 87, 3) := by decide +kernel
theorem d_H_passDay_126 : decode b_H_passDay 126 = .ok (.invokevirtual 90, 3) := by decide +kernel
theorem d_H_passDay_129 : decode b_H_passDay 129 = .ok (.iload_n 1, 1) := by decide +kernel
theorem d_H_passDay_130 : decode b_H_passDay 130 = .ok (.ldc 80, 2) := by decide +kernel
theorem d_H_passDay_132 : decode b_H_passDay 132 = .ok (.if_icmp .ne 7, 3) := by decide +kernel
theorem d_H_passDay_135 : decode b_H_passDay 135 = .ok (.iload_n 3, 1) := by decide +kernel
theorem d_H_passDay_136 : decode b_H_passDay 136 = .ok (.goto 4, 3) := by decide +kernel
theorem d_H_passDay_139 : decode b_H_passDay 139 = .ok (.iload_n 1, 1) := by decide +kernel
theorem d_H_passDay_140 : decode b_H_passDay 140 = .ok (.istore_n 1, 1) := by decide +kernel
theorem d_H_passDay_141 : decode b_H_passDay 141 = .ok (.iinc 2 1, 3) := by decide +kernel
theorem d_H_passDay_144 : decode b_H_passDay 144 = .ok (.goto (-61), 3) := by decide +kernel
theorem d_H_passDay_147 : decode b_H_passDay 147 = .ok (.iload_n 1, 1) := by decide +kernel
theorem d_H_passDay_148 : decode b_H_passDay 148 = .ok (.ireturn, 1) := by decide +kernel
theorem d_H_putBehind_0 : decode b_H_putBehind 0 = .ok (.aload_n 0, 1) := by decide +kernel
theorem d_H_putBehind_1 : decode b_H_putBehind 1 = .ok (.iload_n 1, 1) := by decide +kernel
theorem d_H_putBehind_2 : decode b_H_putBehind 2 = .ok (.invokevirtual 45, 3) := by decide +kernel
theorem d_H_putBehind_5 : decode b_H_putBehind 5 = .ok (.ifCond .eq 33, 3) := by decide +kernel
theorem d_H_putBehind_8 : decode b_H_putBehind 8 = .ok (.aload_n 0, 1) := by decide +kernel
theorem d_H_putBehind_9 : decode b_H_putBehind 9 = .ok (.iload_n 1, 1) := by decide +kernel
theorem d_H_putBehind_10 : decode b_H_putBehind 10 = .ok (.invokevirtual 49, 3) := by decide +kernel
theorem d_H_putBehind_13 : decode b_H_putBehind 13 = .ok (.ifCond .ne 25, 3) := by decide +kernel
theorem d_H_putBehind_16 : decode b_H_putBehind 16 = .ok (.aload_n 0, 1) := by decide +kernel
theorem d_H_putBehind_17 : decode b_H_putBehind 17 = .ok (.dup, 1) := by decide +kernel
theorem d_H_putBehind_18 : decode b_H_putBehind 18 = .ok (.getfield 29, 3) := by decide +kernel
theorem d_H_putBehind_21 : decode b_H_putBehind 21 = .ok (.iconst 1, 1) := by decide +kernel
theorem d_H_putBehind_22 : decode b_H_putBehind 22 = .ok (.iload_n 1, 1) := by decide +kernel
theorem d_H_putBehind_23 : decode b_H_putBehind 23 = .ok (.ishl, 1) := by decide +kernel
theorem d_H_putBehind_24 : decode b_H_putBehind 24 = .ok (.ior, 1) := by decide +kernel
theorem d_H_putBehind_25 : decode b_H_putBehind 25 = .ok (.putfield 29, 3) := by decide +kernel
theorem d_H_putBehind_28 : decode b_H_putBehind 28 = .ok (.aload_n 0, 1) := by decide +kernel
theorem d_H_putBehind_29 : decode b_H_putBehind 29 = .ok (.getfield 11, 3) := by decide +kernel
theorem d_H_putBehind_32 : decode b_H_putBehind 32 = .ok (.iload_n 1, 1) := by decide +kernel
theorem d_H_putBehind_33 : decode b_H_putBehind 33 = .ok (.aaload, 1) := by decide +kernel
theorem d_H_putBehind_34 : decode b_H_putBehind 34 = .ok (.iconst 0, 1) := by decide +kernel
theorem d_H_putBehind_35 : decode b_H_putBehind 35 = .ok (.putfield 77, 3) := by decide +kernel
theorem d_H_putBehind_38 : decode b_H_putBehind 38 = .ok (.return_, 1) := by decide +kernel
theorem d_H_takeAway_0 : decode b_H_takeAway 0 = .ok (.aload_n 0, 1) := by decide +kernel
theorem d_H_takeAway_1 : decode b_H_takeAway 1 = .ok (.dup, 1) := by decide +kernel
theorem d_H_takeAway_2 : decode b_H_takeAway 2 = .ok (.getfield 29, 3) := by decide +kernel
theorem d_H_takeAway_5 : decode b_H_takeAway 5 = .ok (.iconst 1, 1) := by decide +kernel
theorem d_H_takeAway_6 : decode b_H_takeAway 6 = .ok (.iload_n 1, 1) := by decide +kernel
theorem d_H_takeAway_7 : decode b_H_takeAway 7 = .ok (.ishl, 1) := by decide +kernel
theorem d_H_takeAway_8 : decode b_H_takeAway 8 = .ok (.iconst (-1), 1) := by decide +kernel
theorem d_H_takeAway_9 : decode b_H_takeAway 9 = .ok (.ixor, 1) := by decide +kernel
theorem d_H_takeAway_10 : decode b_H_takeAway 10 = .ok (.iand, 1) := by decide +kernel
theorem d_H_takeAway_11 : decode b_H_takeAway 11 = .ok (.putfield 29, 3) := by decide +kernel
theorem d_H_takeAway_14 : decode b_H_takeAway 14 = .ok (.aload_n 0, 1) := by decide +kernel
theorem d_H_takeAway_15 : decode b_H_takeAway 15 = .ok (.sipush 9999, 3) := by decide +kernel
theorem d_H_takeAway_18 : decode b_H_takeAway 18 = .ok (.aload_n 0, 1) := by decide +kernel
theorem d_H_takeAway_19 : decode b_H_takeAway 19 = .ok (.getfield 38, 3) := by decide +kernel
theorem d_H_takeAway_22 : decode b_H_takeAway 22 = .ok (.iload_n 2, 1) := by decide +kernel
theorem d_H_takeAway_23 : decode b_H_takeAway 23 = .ok (.iadd, 1) := by decide +kernel
theorem d_H_takeAway_24 : decode b_H_takeAway 24 = .ok (.invokestatic 71, 3) := by decide +kernel
theorem d_H_takeAway_27 : decode b_H_takeAway 27 = .ok (.putfield 38, 3) := by decide +kernel
theorem d_H_takeAway_30 : decode b_H_takeAway 30 = .ok (.return_, 1) := by decide +kernel
theorem d_H_takeDraw_0 : decode b_H_takeDraw 0 = .ok (.aload_n 0, 1) := by decide +kernel
theorem d_H_takeDraw_1 : decode b_H_takeDraw 1 = .ok (.getfield 22, 3) := by decide +kernel
theorem d_H_takeDraw_4 : decode b_H_takeDraw 4 = .ok (.iconst 1, 1) := by decide +kernel
theorem d_H_takeDraw_5 : decode b_H_takeDraw 5 = .ok (.if_icmp .ge 4, 3) := by decide +kernel
theorem d_H_takeDraw_8 : decode b_H_takeDraw 8 = .ok (.return_, 1) := by decide +kernel
theorem d_H_takeDraw_9 : decode b_H_takeDraw 9 = .ok (.lload_n 1, 1) := by decide +kernel
theorem d_H_takeDraw_10 : decode b_H_takeDraw 10 = .ok (.aload_n 0, 1) := by decide +kernel
theorem d_H_takeDraw_11 : decode b_H_takeDraw 11 = .ok (.getfield 22, 3) := by decide +kernel
theorem d_H_takeDraw_14 : decode b_H_takeDraw 14 = .ok (.i2l, 1) := by decide +kernel
theorem d_H_takeDraw_15 : decode b_H_takeDraw 15 = .ok (.lrem, 1) := by decide +kernel
theorem d_H_takeDraw_16 : decode b_H_takeDraw 16 = .ok (.l2i, 1) := by decide +kernel
theorem d_H_takeDraw_17 : decode b_H_takeDraw 17 = .ok (.istore_n 3, 1) := by decide +kernel
theorem d_H_takeDraw_18 : decode b_H_takeDraw 18 = .ok (.lload_n 1, 1) := by decide +kernel
theorem d_H_takeDraw_19 : decode b_H_takeDraw 19 = .ok (.ldc2_w 98, 3) := by decide +kernel
theorem d_H_takeDraw_22 : decode b_H_takeDraw 22 = .ok (.lrem, 1) := by decide +kernel
theorem d_H_takeDraw_23 : decode b_H_takeDraw 23 = .ok (.lconst 0, 1) := by decide +kernel
theorem d_H_takeDraw_24 : decode b_H_takeDraw 24 = .ok (.lcmp, 1) := by decide +kernel
theorem d_H_takeDraw_25 : decode b_H_takeDraw 25 = .ok (.ifCond .ne 11, 3) := by decide +kernel
theorem d_H_takeDraw_28 : decode b_H_takeDraw 28 = .ok (.aload_n 0, 1) := by decide +kernel
theorem d_H_takeDraw_29 : decode b_H_takeDraw 29 = .ok (.iload_n 3, 1) := by decide +kernel
theorem d_H_takeDraw_30 : decode b_H_takeDraw 30 = .ok (.invokevirtual 100, 3) := by decide +kernel
theorem d_H_takeDraw_33 : decode b_H_takeDraw 33 = .ok (.goto 18, 3) := by decide +kernel
theorem d_H_takeDraw_36 : decode b_H_takeDraw 36 = .ok (.lload_n 1, 1) := by decide +kernel
theorem d_H_takeDraw_37 : decode b_H_takeDraw 37 = .ok (.ldc2_w 98, 3) := by decide +kernel
theorem d_H_takeDraw_40 : decode b_H_takeDraw 40 = .ok (.lrem, 1) := by decide +kernel
theorem d_H_takeDraw_41 : decode b_H_takeDraw 41 = .ok (.lconst 1, 1) := by decide +kernel
theorem d_H_takeDraw_42 : decode b_H_takeDraw 42 = .ok (.lcmp, 1) := by decide +kernel
theorem d_H_takeDraw_43 : decode b_H_takeDraw 43 = .ok (.ifCond .ne 8, 3) := by decide +kernel
theorem d_H_takeDraw_46 : decode b_H_takeDraw 46 = .ok (.aload_n 0, 1) := by decide +kernel
theorem d_H_takeDraw_47 : decode b_H_takeDraw 47 = .ok (.iload_n 3, 1) := by decide +kernel
theorem d_H_takeDraw_48 : decode b_H_takeDraw 48 = .ok (.invokevirtual 104, 3) := by decide +kernel
theorem d_H_takeDraw_51 : decode b_H_takeDraw 51 = .ok (.return_, 1) := by decide +kernel
theorem d_H_thickness_0 : decode b_H_thickness 0 = .ok (.iconst 0, 1) := by decide +kernel
theorem d_H_thickness_1 : decode b_H_thickness 1 = .ok (.istore_n 1, 1) := by decide +kernel
theorem d_H_thickness_2 : decode b_H_thickness 2 = .ok (.iconst 0, 1) := by decide +kernel
theorem d_H_thickness_3 : decode b_H_thickness 3 = .ok (.istore_n 2, 1) := by decide +kernel
theorem d_H_thickness_4 : decode b_H_thickness 4 = .ok (.iload_n 2, 1) := by decide +kernel
theorem d_H_thickness_5 : decode b_H_thickness 5 = .ok (.aload_n 0, 1) := by decide +kernel
theorem d_H_thickness_6 : decode b_H_thickness 6 = .ok (.getfield 22, 3) := by decide +kernel
theorem d_H_thickness_9 : decode b_H_thickness 9 = .ok (.if_icmp .ge 33, 3) := by decide +kernel
theorem d_H_thickness_12 : decode b_H_thickness 12 = .ok (.iload_n 1, 1) := by decide +kernel
theorem d_H_thickness_13 : decode b_H_thickness 13 = .ok (.aload_n 0, 1) := by decide +kernel
theorem d_H_thickness_14 : decode b_H_thickness 14 = .ok (.iload_n 2, 1) := by decide +kernel
theorem d_H_thickness_15 : decode b_H_thickness 15 = .ok (.invokevirtual 49, 3) := by decide +kernel
theorem d_H_thickness_18 : decode b_H_thickness 18 = .ok (.ifCond .eq 15, 3) := by decide +kernel
theorem d_H_thickness_21 : decode b_H_thickness 21 = .ok (.aload_n 0, 1) := by decide +kernel
theorem d_H_thickness_22 : decode b_H_thickness 22 = .ok (.getfield 11, 3) := by decide +kernel
theorem d_H_thickness_25 : decode b_H_thickness 25 = .ok (.iload_n 2, 1) := by decide +kernel
theorem d_H_thickness_26 : decode b_H_thickness 26 = .ok (.aaload, 1) := by decide +kernel
theorem d_H_thickness_27 : decode b_H_thickness 27 = .ok (.getfield 64, 3) := by decide +kernel
theorem d_H_thickness_30 : decode b_H_thickness 30 = .ok (.goto 4, 3) := by decide +kernel
theorem d_H_thickness_33 : decode b_H_thickness 33 = .ok (.iconst 0, 1) := by decide +kernel
theorem d_H_thickness_34 : decode b_H_thickness 34 = .ok (.iadd, 1) := by decide +kernel
theorem d_H_thickness_35 : decode b_H_thickness 35 = .ok (.istore_n 1, 1) := by decide +kernel
theorem d_H_thickness_36 : decode b_H_thickness 36 = .ok (.iinc 2 1, 3) := by decide +kernel
theorem d_H_thickness_39 : decode b_H_thickness 39 = .ok (.goto (-35), 3) := by decide +kernel
theorem d_H_thickness_42 : decode b_H_thickness 42 = .ok (.iload_n 1, 1) := by decide +kernel
theorem d_H_thickness_43 : decode b_H_thickness 43 = .ok (.ireturn, 1) := by decide +kernel
theorem d_H_weight_0 : decode b_H_weight 0 = .ok (.iconst 0, 1) := by decide +kernel
theorem d_H_weight_1 : decode b_H_weight 1 = .ok (.istore_n 1, 1) := by decide +kernel
theorem d_H_weight_2 : decode b_H_weight 2 = .ok (.iconst 0, 1) := by decide +kernel
theorem d_H_weight_3 : decode b_H_weight 3 = .ok (.istore_n 2, 1) := by decide +kernel
theorem d_H_weight_4 : decode b_H_weight 4 = .ok (.iload_n 2, 1) := by decide +kernel
theorem d_H_weight_5 : decode b_H_weight 5 = .ok (.aload_n 0, 1) := by decide +kernel
theorem d_H_weight_6 : decode b_H_weight 6 = .ok (.getfield 22, 3) := by decide +kernel
theorem d_H_weight_9 : decode b_H_weight 9 = .ok (.if_icmp .ge 17, 3) := by decide +kernel
theorem d_H_weight_12 : decode b_H_weight 12 = .ok (.iload_n 1, 1) := by decide +kernel
theorem d_H_weight_13 : decode b_H_weight 13 = .ok (.aload_n 0, 1) := by decide +kernel
theorem d_H_weight_14 : decode b_H_weight 14 = .ok (.iload_n 2, 1) := by decide +kernel
theorem d_H_weight_15 : decode b_H_weight 15 = .ok (.invokevirtual 61, 3) := by decide +kernel
theorem d_H_weight_18 : decode b_H_weight 18 = .ok (.iadd, 1) := by decide +kernel
theorem d_H_weight_19 : decode b_H_weight 19 = .ok (.istore_n 1, 1) := by decide +kernel
theorem d_H_weight_20 : decode b_H_weight 20 = .ok (.iinc 2 1, 3) := by decide +kernel
theorem d_H_weight_23 : decode b_H_weight 23 = .ok (.goto (-19), 3) := by decide +kernel
theorem d_H_weight_26 : decode b_H_weight 26 = .ok (.iload_n 1, 1) := by decide +kernel
theorem d_H_weight_27 : decode b_H_weight 27 = .ok (.ireturn, 1) := by decide +kernel
theorem d_H_weightOf_0 : decode b_H_weightOf 0 = .ok (.aload_n 0, 1) := by decide +kernel
theorem d_H_weightOf_1 : decode b_H_weightOf 1 = .ok (.iload_n 1, 1) := by decide +kernel
theorem d_H_weightOf_2 : decode b_H_weightOf 2 = .ok (.invokevirtual 49, 3) := by decide +kernel
theorem d_H_weightOf_5 : decode b_H_weightOf 5 = .ok (.ifCond .eq 24, 3) := by decide +kernel
theorem d_H_weightOf_8 : decode b_H_weightOf 8 = .ok (.aload_n 0, 1) := by decide +kernel
theorem d_H_weightOf_9 : decode b_H_weightOf 9 = .ok (.getfield 11, 3) := by decide +kernel
theorem d_H_weightOf_12 : decode b_H_weightOf 12 = .ok (.iload_n 1, 1) := by decide +kernel
theorem d_H_weightOf_13 : decode b_H_weightOf 13 = .ok (.aaload, 1) := by decide +kernel
theorem d_H_weightOf_14 : decode b_H_weightOf 14 = .ok (.aload_n 0, 1) := by decide +kernel
theorem d_H_weightOf_15 : decode b_H_weightOf 15 = .ok (.getfield 29, 3) := by decide +kernel
theorem d_H_weightOf_18 : decode b_H_weightOf 18 = .ok (.invokestatic 52, 3) := by decide +kernel
theorem d_H_weightOf_21 : decode b_H_weightOf 21 = .ok (.iconst 1, 1) := by decide +kernel
theorem d_H_weightOf_22 : decode b_H_weightOf 22 = .ok (.isub, 1) := by decide +kernel
theorem d_H_weightOf_23 : decode b_H_weightOf 23 = .ok (.invokevirtual 58, 3) := by decide +kernel
theorem d_H_weightOf_26 : decode b_H_weightOf 26 = .ok (.goto 4, 3) := by decide +kernel
theorem d_H_weightOf_29 : decode b_H_weightOf 29 = .ok (.iconst 0, 1) := by decide +kernel
theorem d_H_weightOf_30 : decode b_H_weightOf 30 = .ok (.ireturn, 1) := by decide +kernel
theorem d_JA_fill_0 : decode b_JA_fill 0 = .ok (.iconst 0, 1) := by decide +kernel
theorem d_JA_fill_1 : decode b_JA_fill 1 = .ok (.istore_n 2, 1) := by decide +kernel
theorem d_JA_fill_2 : decode b_JA_fill 2 = .ok (.aload_n 0, 1) := by decide +kernel
theorem d_JA_fill_3 : decode b_JA_fill 3 = .ok (.arraylength, 1) := by decide +kernel
theorem d_JA_fill_4 : decode b_JA_fill 4 = .ok (.istore_n 3, 1) := by decide +kernel
theorem d_JA_fill_5 : decode b_JA_fill 5 = .ok (.iload_n 2, 1) := by decide +kernel
theorem d_JA_fill_6 : decode b_JA_fill 6 = .ok (.iload_n 3, 1) := by decide +kernel
theorem d_JA_fill_7 : decode b_JA_fill 7 = .ok (.if_icmp .ge 13, 3) := by decide +kernel
theorem d_JA_fill_10 : decode b_JA_fill 10 = .ok (.aload_n 0, 1) := by decide +kernel
theorem d_JA_fill_11 : decode b_JA_fill 11 = .ok (.iload_n 2, 1) := by decide +kernel
theorem d_JA_fill_12 : decode b_JA_fill 12 = .ok (.iload_n 1, 1) := by decide +kernel
theorem d_JA_fill_13 : decode b_JA_fill 13 = .ok (.iastore, 1) := by decide +kernel
theorem d_JA_fill_14 : decode b_JA_fill 14 = .ok (.iinc 2 1, 3) := by decide +kernel
theorem d_JA_fill_17 : decode b_JA_fill 17 = .ok (.goto (-12), 3) := by decide +kernel
theorem d_JA_fill_20 : decode b_JA_fill 20 = .ok (.return_, 1) := by decide +kernel
theorem d_JI_bitCount_0 : decode b_JI_bitCount 0 = .ok (.iload_n 0, 1) := by decide +kernel
theorem d_JI_bitCount_1 : decode b_JI_bitCount 1 = .ok (.iload_n 0, 1) := by decide +kernel
theorem d_JI_bitCount_2 : decode b_JI_bitCount 2 = .ok (.iconst 1, 1) := by decide +kernel
theorem d_JI_bitCount_3 : decode b_JI_bitCount 3 = .ok (.iushr, 1) := by decide +kernel
theorem d_JI_bitCount_4 : decode b_JI_bitCount 4 = .ok (.ldc_w 265, 3) := by decide +kernel
theorem d_JI_bitCount_7 : decode b_JI_bitCount 7 = .ok (.iand, 1) := by decide +kernel
theorem d_JI_bitCount_8 : decode b_JI_bitCount 8 = .ok (.isub, 1) := by decide +kernel
theorem d_JI_bitCount_9 : decode b_JI_bitCount 9 = .ok (.istore_n 0, 1) := by decide +kernel
theorem d_JI_bitCount_10 : decode b_JI_bitCount 10 = .ok (.iload_n 0, 1) := by decide +kernel
theorem d_JI_bitCount_11 : decode b_JI_bitCount 11 = .ok (.ldc_w 266, 3) := by decide +kernel
theorem d_JI_bitCount_14 : decode b_JI_bitCount 14 = .ok (.iand, 1) := by decide +kernel
theorem d_JI_bitCount_15 : decode b_JI_bitCount 15 = .ok (.iload_n 0, 1) := by decide +kernel
theorem d_JI_bitCount_16 : decode b_JI_bitCount 16 = .ok (.iconst 2, 1) := by decide +kernel
theorem d_JI_bitCount_17 : decode b_JI_bitCount 17 = .ok (.iushr, 1) := by decide +kernel
theorem d_JI_bitCount_18 : decode b_JI_bitCount 18 = .ok (.ldc_w 266, 3) := by decide +kernel
theorem d_JI_bitCount_21 : decode b_JI_bitCount 21 = .ok (.iand, 1) := by decide +kernel
theorem d_JI_bitCount_22 : decode b_JI_bitCount 22 = .ok (.iadd, 1) := by decide +kernel
theorem d_JI_bitCount_23 : decode b_JI_bitCount 23 = .ok (.istore_n 0, 1) := by decide +kernel
theorem d_JI_bitCount_24 : decode b_JI_bitCount 24 = .ok (.iload_n 0, 1) := by decide +kernel
theorem d_JI_bitCount_25 : decode b_JI_bitCount 25 = .ok (.iload_n 0, 1) := by decide +kernel
theorem d_JI_bitCount_26 : decode b_JI_bitCount 26 = .ok (.iconst 4, 1) := by decide +kernel
theorem d_JI_bitCount_27 : decode b_JI_bitCount 27 = .ok (.iushr, 1) := by decide +kernel
theorem d_JI_bitCount_28 : decode b_JI_bitCount 28 = .ok (.iadd, 1) := by decide +kernel
theorem d_JI_bitCount_29 : decode b_JI_bitCount 29 = .ok (.ldc_w 267, 3) := by decide +kernel
theorem d_JI_bitCount_32 : decode b_JI_bitCount 32 = .ok (.iand, 1) := by decide +kernel
theorem d_JI_bitCount_33 : decode b_JI_bitCount 33 = .ok (.istore_n 0, 1) := by decide +kernel
theorem d_JI_bitCount_34 : decode b_JI_bitCount 34 = .ok (.iload_n 0, 1) := by decide +kernel
theorem d_JI_bitCount_35 : decode b_JI_bitCount 35 = .ok (.iload_n 0, 1) := by decide +kernel
theorem d_JI_bitCount_36 : decode b_JI_bitCount 36 = .ok (.bipush 8, 2) := by decide +kernel
theorem d_JI_bitCount_38 : decode b_JI_bitCount 38 = .ok (.iushr, 1) := by decide +kernel
theorem d_JI_bitCount_39 : decode b_JI_bitCount 39 = .ok (.iadd, 1) := by decide +kernel
theorem d_JI_bitCount_40 : decode b_JI_bitCount 40 = .ok (.istore_n 0, 1) := by decide +kernel
theorem d_JI_bitCount_41 : decode b_JI_bitCount 41 = .ok (.iload_n 0, 1) := by decide +kernel
theorem d_JI_bitCount_42 : decode b_JI_bitCount 42 = .ok (.iload_n 0, 1) := by decide +kernel
theorem d_JI_bitCount_43 : decode b_JI_bitCount 43 = .ok (.bipush 16, 2) := by decide +kernel
theorem d_JI_bitCount_45 : decode b_JI_bitCount 45 = .ok (.iushr, 1) := by decide +kernel
theorem d_JI_bitCount_46 : decode b_JI_bitCount 46 = .ok (.iadd, 1) := by decide +kernel
theorem d_JI_bitCount_47 : decode b_JI_bitCount 47 = .ok (.istore_n 0, 1) := by decide +kernel
theorem d_JI_bitCount_48 : decode b_JI_bitCount 48 = .ok (.iload_n 0, 1) := by decide +kernel
theorem d_JI_bitCount_49 : decode b_JI_bitCount 49 = .ok (.bipush 63, 2) := by decide +kernel
theorem d_JI_bitCount_51 : decode b_JI_bitCount 51 = .ok (.iand, 1) := by decide +kernel
theorem d_JI_bitCount_52 : decode b_JI_bitCount 52 = .ok (.ireturn, 1) := by decide +kernel
theorem d_JM_max_0 : decode b_JM_max 0 = .ok (.iload_n 0, 1) := by decide +kernel
theorem d_JM_max_1 : decode b_JM_max 1 = .ok (.iload_n 1, 1) := by decide +kernel
theorem d_JM_max_2 : decode b_JM_max 2 = .ok (.if_icmp .lt 7, 3) := by decide +kernel
theorem d_JM_max_5 : decode b_JM_max 5 = .ok (.iload_n 0, 1) := by decide +kernel
theorem d_JM_max_6 : decode b_JM_max 6 = .ok (.goto 4, 3) := by decide +kernel
theorem d_JM_max_9 : decode b_JM_max 9 = .ok (.iload_n 1, 1) := by decide +kernel
theorem d_JM_max_10 : decode b_JM_max 10 = .ok (.ireturn, 1) := by decide +kernel
theorem d_JM_min_0 : decode b_JM_min 0 = .ok (.iload_n 0, 1) := by decide +kernel
theorem d_JM_min_1 : decode b_JM_min 1 = .ok (.iload_n 1, 1) := by decide +kernel
theorem d_JM_min_2 : decode b_JM_min 2 = .ok (.if_icmp .gt 7, 3) := by decide +kernel
theorem d_JM_min_5 : decode b_JM_min 5 = .ok (.iload_n 0, 1) := by decide +kernel
theorem d_JM_min_6 : decode b_JM_min 6 = .ok (.goto 4, 3) := by decide +kernel
theorem d_JM_min_9 : decode b_JM_min 9 = .ok (.iload_n 1, 1) := by decide +kernel
theorem d_JM_min_10 : decode b_JM_min 10 = .ok (.ireturn, 1) := by decide +kernel
theorem d_L_become_0 : decode b_L_become 0 = .ok (.aload_n 0, 1) := by decide +kernel
theorem d_L_become_1 : decode b_L_become 1 = .ok (.aload_n 1, 1) := by decide +kernel
theorem d_L_become_2 : decode b_L_become 2 = .ok (.getfield 9, 3) := by decide +kernel
theorem d_L_become_5 : decode b_L_become 5 = .ok (.putfield 9, 3) := by decide +kernel
theorem d_L_become_8 : decode b_L_become 8 = .ok (.aload_n 0, 1) := by decide +kernel
theorem d_L_become_9 : decode b_L_become 9 = .ok (.aload_n 1, 1) := by decide +kernel
theorem d_L_become_10 : decode b_L_become 10 = .ok (.getfield 15, 3) := by decide +kernel
theorem d_L_become_13 : decode b_L_become 13 = .ok (.putfield 15, 3) := by decide +kernel
theorem d_L_become_16 : decode b_L_become 16 = .ok (.aload_n 0, 1) := by decide +kernel
theorem d_L_become_17 : decode b_L_become 17 = .ok (.aload_n 1, 1) := by decide +kernel
theorem d_L_become_18 : decode b_L_become 18 = .ok (.getfield 18, 3) := by decide +kernel
theorem d_L_become_21 : decode b_L_become 21 = .ok (.putfield 18, 3) := by decide +kernel
theorem d_L_become_24 : decode b_L_become 24 = .ok (.aload_n 0, 1) := by decide +kernel
theorem d_L_become_25 : decode b_L_become 25 = .ok (.aload_n 1, 1) := by decide +kernel
theorem d_L_become_26 : decode b_L_become 26 = .ok (.getfield 21, 3) := by decide +kernel
theorem d_L_become_29 : decode b_L_become 29 = .ok (.putfield 21, 3) := by decide +kernel
theorem d_L_become_32 : decode b_L_become 32 = .ok (.aload_n 0, 1) := by decide +kernel
theorem d_L_become_33 : decode b_L_become 33 = .ok (.aload_n 1, 1) := by decide +kernel
theorem d_L_become_34 : decode b_L_become 34 = .ok (.getfield 24, 3) := by decide +kernel
theorem d_L_become_37 : decode b_L_become 37 = .ok (.putfield 24, 3) := by decide +kernel
theorem d_L_become_40 : decode b_L_become 40 = .ok (.return_, 1) := by decide +kernel
theorem d_L_change_0 : decode b_L_change 0 = .ok (.iload_n 1, 1) := by decide +kernel
theorem d_L_change_1 : decode b_L_change 1 = .ok (.lookupswitch 43 #[(0, 27), (1, 35)], 27) := by decide +kernel
theorem d_L_change_28 : decode b_L_change 28 = .ok (.aload_n 0, 1) := by decide +kernel
theorem d_L_change_29 : decode b_L_change 29 = .ok (.iload_n 2, 1) := by decide +kernel
theorem d_L_change_30 : decode b_L_change 30 = .ok (.putfield 15, 3) := by decide +kernel
theorem d_L_change_33 : decode b_L_change 33 = .ok (.goto 16, 3) := by decide +kernel
theorem d_L_change_36 : decode b_L_change 36 = .ok (.aload_n 0, 1) := by decide +kernel
theorem d_L_change_37 : decode b_L_change 37 = .ok (.iload_n 2, 1) := by decide +kernel
theorem d_L_change_38 : decode b_L_change 38 = .ok (.putfield 24, 3) := by decide +kernel
theorem d_L_change_41 : decode b_L_change 41 = .ok (.goto 8, 3) := by decide +kernel
theorem d_L_change_44 : decode b_L_change 44 = .ok (.aload_n 0, 1) := by decide +kernel
theorem d_L_change_45 : decode b_L_change 45 = .ok (.iload_n 2, 1) := by decide +kernel
theorem d_L_change_46 : decode b_L_change 46 = .ok (.putfield 9, 3) := by decide +kernel
theorem d_L_change_49 : decode b_L_change 49 = .ok (.return_, 1) := by decide +kernel
theorem d_L_fallsAheadOf_0 : decode b_L_fallsAheadOf 0 = .ok (.aload_n 0, 1) := by decide +kernel
theorem d_L_fallsAheadOf_1 : decode b_L_fallsAheadOf 1 = .ok (.getfield 18, 3) := by decide +kernel
theorem d_L_fallsAheadOf_4 : decode b_L_fallsAheadOf 4 = .ok (.aload_n 1, 1) := by decide +kernel
theorem d_L_fallsAheadOf_5 : decode b_L_fallsAheadOf 5 = .ok (.getfield 18, 3) := by decide +kernel
theorem d_L_fallsAheadOf_8 : decode b_L_fallsAheadOf 8 = .ok (.if_icmp .gt 25, 3) := by decide +kernel
theorem d_L_fallsAheadOf_11 : decode b_L_fallsAheadOf 11 = .ok (.aload_n 0, 1) := by decide +kernel
theorem d_L_fallsAheadOf_12 : decode b_L_fallsAheadOf 12 = .ok (.getfield 18, 3) := by decide +kernel
theorem d_L_fallsAheadOf_15 : decode b_L_fallsAheadOf 15 = .ok (.aload_n 1, 1) := by decide +kernel
theorem d_L_fallsAheadOf_16 : decode b_L_fallsAheadOf 16 = .ok (.getfield 18, 3) := by decide +kernel
theorem d_L_fallsAheadOf_19 : decode b_L_fallsAheadOf 19 = .ok (.if_icmp .ne 18, 3) := by decide +kernel
theorem d_L_fallsAheadOf_22 : decode b_L_fallsAheadOf 22 = .ok (.aload_n 0, 1) := by decide +kernel
theorem d_L_fallsAheadOf_23 : decode b_L_fallsAheadOf 23 = .ok (.getfield 24, 3) := by decide +kernel
theorem d_L_fallsAheadOf_26 : decode b_L_fallsAheadOf 26 = .ok (.aload_n 1, 1) := by decide +kernel
theorem d_L_fallsAheadOf_27 : decode b_L_fallsAheadOf 27 = .ok (.getfield 24, 3) := by decide +kernel
theorem d_L_fallsAheadOf_30 : decode b_L_fallsAheadOf 30 = .ok (.if_icmp .le 7, 3) := by decide +kernel
theorem d_L_fallsAheadOf_33 : decode b_L_fallsAheadOf 33 = .ok (.iconst 1, 1) := by decide +kernel
theorem d_L_fallsAheadOf_34 : decode b_L_fallsAheadOf 34 = .ok (.goto 4, 3) := by decide +kernel
theorem d_L_fallsAheadOf_37 : decode b_L_fallsAheadOf 37 = .ok (.iconst 0, 1) := by decide +kernel
theorem d_L_fallsAheadOf_38 : decode b_L_fallsAheadOf 38 = .ok (.ireturn, 1) := by decide +kernel
theorem d_L_init_0 : decode b_L_init 0 = .ok (.aload_n 0, 1) := by decide +kernel
theorem d_L_init_1 : decode b_L_init 1 = .ok (.invokespecial 3, 3) := by decide +kernel
theorem d_L_init_4 : decode b_L_init 4 = .ok (.aload_n 0, 1) := by decide +kernel
theorem d_L_init_5 : decode b_L_init 5 = .ok (.iconst 1, 1) := by decide +kernel
theorem d_L_init_6 : decode b_L_init 6 = .ok (.putfield 9, 3) := by decide +kernel
theorem d_L_init_9 : decode b_L_init 9 = .ok (.return_, 1) := by decide +kernel
theorem d_L_weighAmong_0 : decode b_L_weighAmong 0 = .ok (.aload_n 0, 1) := by decide +kernel
theorem d_L_weighAmong_1 : decode b_L_weighAmong 1 = .ok (.getfield 9, 3) := by decide +kernel
theorem d_L_weighAmong_4 : decode b_L_weighAmong 4 = .ok (.tableswitch 79 2 5 #[32, 44, 67, 72], 32) := by decide +kernel
theorem d_L_weighAmong_36 : decode b_L_weighAmong 36 = .ok (.iconst 2, 1) := by decide +kernel
theorem d_L_weighAmong_37 : decode b_L_weighAmong 37 = .ok (.aload_n 0, 1) := by decide +kernel
theorem d_L_weighAmong_38 : decode b_L_weighAmong 38 = .ok (.getfield 15, 3) := by decide +kernel
theorem d_L_weighAmong_41 : decode b_L_weighAmong 41 = .ok (.aload_n 0, 1) := by decide +kernel
theorem d_L_weighAmong_42 : decode b_L_weighAmong 42 = .ok (.getfield 24, 3) := by decide +kernel
theorem d_L_weighAmong_45 : decode b_L_weighAmong 45 = .ok (.iadd, 1) := by decide +kernel
theorem d_L_weighAmong_46 : decode b_L_weighAmong 46 = .ok (.imul, 1) := by decide +kernel
theorem d_L_weighAmong_47 : decode b_L_weighAmong 47 = .ok (.ireturn, 1) := by decide +kernel
theorem d_L_weighAmong_48 : decode b_L_weighAmong 48 = .ok (.aload_n 0, 1) := by decide +kernel
theorem d_L_weighAmong_49 : decode b_L_weighAmong 49 = .ok (.getfield 24, 3) := by decide +kernel
theorem d_L_weighAmong_52 : decode b_L_weighAmong 52 = .ok (.bipush 9, 2) := by decide +kernel
theorem d_L_weighAmong_54 : decode b_L_weighAmong 54 = .ok (.if_icmp .ge 15, 3) := by decide +kernel
theorem d_L_weighAmong_57 : decode b_L_weighAmong 57 = .ok (.aload_n 0, 1) := by decide +kernel
theorem d_L_weighAmong_58 : decode b_L_weighAmong 58 = .ok (.getfield 15, 3) := by decide +kernel
theorem d_L_weighAmong_61 : decode b_L_weighAmong 61 = .ok (.aload_n 0, 1) := by decide +kernel
theorem d_L_weighAmong_62 : decode b_L_weighAmong 62 = .ok (.getfield 24, 3) := by decide +kernel
theorem d_L_weighAmong_65 : decode b_L_weighAmong 65 = .ok (.iadd, 1) := by decide +kernel
theorem d_L_weighAmong_66 : decode b_L_weighAmong 66 = .ok (.goto 4, 3) := by decide +kernel
theorem d_L_weighAmong_69 : decode b_L_weighAmong 69 = .ok (.iconst 0, 1) := by decide +kernel
theorem d_L_weighAmong_70 : decode b_L_weighAmong 70 = .ok (.ireturn, 1) := by decide +kernel
theorem d_L_weighAmong_71 : decode b_L_weighAmong 71 = .ok (.aload_n 0, 1) := by decide +kernel
theorem d_L_weighAmong_72 : decode b_L_weighAmong 72 = .ok (.getfield 15, 3) := by decide +kernel
theorem d_L_weighAmong_75 : decode b_L_weighAmong 75 = .ok (.ireturn, 1) := by decide +kernel
theorem d_L_weighAmong_76 : decode b_L_weighAmong 76 = .ok (.aload_n 0, 1) := by decide +kernel
theorem d_L_weighAmong_77 : decode b_L_weighAmong 77 = .ok (.getfield 15, 3) := by decide +kernel
theorem d_L_weighAmong_80 : decode b_L_weighAmong 80 = .ok (.iload_n 1, 1) := by decide +kernel
theorem d_L_weighAmong_81 : decode b_L_weighAmong 81 = .ok (.iadd, 1) := by decide +kernel
theorem d_L_weighAmong_82 : decode b_L_weighAmong 82 = .ok (.ireturn, 1) := by decide +kernel
theorem d_L_weighAmong_83 : decode b_L_weighAmong 83 = .ok (.aload_n 0, 1) := by decide +kernel
theorem d_L_weighAmong_84 : decode b_L_weighAmong 84 = .ok (.getfield 15, 3) := by decide +kernel
theorem d_L_weighAmong_87 : decode b_L_weighAmong 87 = .ok (.aload_n 0, 1) := by decide +kernel
theorem d_L_weighAmong_88 : decode b_L_weighAmong 88 = .ok (.getfield 24, 3) := by decide +kernel
theorem d_L_weighAmong_91 : decode b_L_weighAmong 91 = .ok (.iadd, 1) := by decide +kernel
theorem d_L_weighAmong_92 : decode b_L_weighAmong 92 = .ok (.ireturn, 1) := by decide +kernel
theorem d_M_answer_0 : decode b_M_answer 0 = .ok (.aload_n 0, 1) := by decide +kernel
theorem d_M_answer_1 : decode b_M_answer 1 = .ok (.iload_n 1, 1) := by decide +kernel
theorem d_M_answer_2 : decode b_M_answer 2 = .ok (.invokevirtual 175, 3) := by decide +kernel
theorem d_M_answer_5 : decode b_M_answer 5 = .ok (.ifCond .ne 6, 3) := by decide +kernel
theorem d_M_answer_8 : decode b_M_answer 8 = .ok (.ldc 55, 2) := by decide +kernel
theorem d_M_answer_10 : decode b_M_answer 10 = .ok (.ireturn, 1) := by decide +kernel
theorem d_M_answer_11 : decode b_M_answer 11 = .ok (.aload_n 0, 1) := by decide +kernel
theorem d_M_answer_12 : decode b_M_answer 12 = .ok (.getfield 7, 3) := by decide +kernel
theorem d_M_answer_15 : decode b_M_answer 15 = .ok (.iconst 3, 1) := by decide +kernel
theorem d_M_answer_16 : decode b_M_answer 16 = .ok (.iaload, 1) := by decide +kernel
theorem d_M_answer_17 : decode b_M_answer 17 = .ok (.iload_n 1, 1) := by decide +kernel
theorem d_M_answer_18 : decode b_M_answer 18 = .ok (.invokestatic 138, 3) := by decide +kernel
theorem d_M_answer_21 : decode b_M_answer 21 = .ok (.ifCond .ne 6, 3) := by decide +kernel
theorem d_M_answer_24 : decode b_M_answer 24 = .ok (.ldc 137, 2) := by decide +kernel
theorem d_M_answer_26 : decode b_M_answer 26 = .ok (.ireturn, 1) := by decide +kernel
theorem d_M_answer_27 : decode b_M_answer 27 = .ok (.aload_n 0, 1) := by decide +kernel
theorem d_M_answer_28 : decode b_M_answer 28 = .ok (.invokevirtual 172, 3) := by decide +kernel
theorem d_M_answer_31 : decode b_M_answer 31 = .ok (.aload_n 0, 1) := by decide +kernel
theorem d_M_answer_32 : decode b_M_answer 32 = .ok (.iconst 0, 1) := by decide +kernel
theorem d_M_answer_33 : decode b_M_answer 33 = .ok (.iload_n 1, 1) := by decide +kernel
theorem d_M_answer_34 : decode b_M_answer 34 = .ok (.invokevirtual 178, 3) := by decide +kernel
theorem d_M_answer_37 : decode b_M_answer 37 = .ok (.aload_n 0, 1) := by decide +kernel
theorem d_M_answer_38 : decode b_M_answer 38 = .ok (.getfield 7, 3) := by decide +kernel
theorem d_M_answer_41 : decode b_M_answer 41 = .ok (.iconst 5, 1) := by decide +kernel
theorem d_M_answer_42 : decode b_M_answer 42 = .ok (.iaload, 1) := by decide +kernel
theorem d_M_answer_43 : decode b_M_answer 43 = .ok (.ireturn, 1) := by decide +kernel
theorem d_M_answers_0 : decode b_M_answers 0 = .ok (.aload_n 0, 1) := by decide +kernel
theorem d_M_answers_1 : decode b_M_answers 1 = .ok (.iload_n 1, 1) := by decide +kernel
theorem d_M_answers_2 : decode b_M_answers 2 = .ok (.iload_n 2, 1) := by decide +kernel
theorem d_M_answers_3 : decode b_M_answers 3 = .ok (.aload_n 0, 1) := by decide +kernel
theorem d_M_answers_4 : decode b_M_answers 4 = .ok (.getfield 7, 3) := by decide +kernel
theorem d_M_answers_7 : decode b_M_answers 7 = .ok (.iload_n 1, 1) := by decide +kernel
theorem d_M_answers_8 : decode b_M_answers 8 = .ok (.bipush 24, 2) := by decide +kernel
theorem d_M_answers_10 : decode b_M_answers 10 = .ok (.iadd, 1) := by decide +kernel
theorem d_M_answers_11 : decode b_M_answers 11 = .ok (.iload_n 2, 1) := by decide +kernel
theorem d_M_answers_12 : decode b_M_answers 12 = .ok (.iadd, 1) := by decide +kernel
theorem d_M_answers_13 : decode b_M_answers 13 = .ok (.iaload, 1) := by decide +kernel
theorem d_M_answers_14 : decode b_M_answers 14 = .ok (.iconst 2, 1) := by decide +kernel
theorem d_M_answers_15 : decode b_M_answers 15 = .ok (.idiv, 1) := by decide +kernel
theorem d_M_answers_16 : decode b_M_answers 16 = .ok (.invokevirtual 163, 3) := by decide +kernel
theorem d_M_answers_19 : decode b_M_answers 19 = .ok (.return_, 1) := by decide +kernel
theorem d_M_answersAll_0 : decode b_M_answersAll 0 = .ok (.aload_n 0, 1) := by decide +kernel
theorem d_M_answersAll_1 : decode b_M_answersAll 1 = .ok (.invokevirtual 188, 3) := by decide +kernel
theorem d_M_answersAll_4 : decode b_M_answersAll 4 = .ok (.iconst 0, 1) := by decide +kernel
theorem d_M_answersAll_5 : decode b_M_answersAll 5 = .ok (.istore_n 2, 1) := by decide +kernel
theorem d_M_answersAll_6 : decode b_M_answersAll 6 = .ok (.iload_n 2, 1) := by decide +kernel
theorem d_M_answersAll_7 : decode b_M_answersAll 7 = .ok (.aload_n 0, 1) := by decide +kernel
theorem d_M_answersAll_8 : decode b_M_answersAll 8 = .ok (.getfield 7, 3) := by decide +kernel
theorem d_M_answersAll_11 : decode b_M_answersAll 11 = .ok (.iconst 0, 1) := by decide +kernel
theorem d_M_answersAll_12 : decode b_M_answersAll 12 = .ok (.iaload, 1) := by decide +kernel
theorem d_M_answersAll_13 : decode b_M_answersAll 13 = .ok (.if_icmp .ge 25, 3) := by decide +kernel
theorem d_M_answersAll_16 : decode b_M_answersAll 16 = .ok (.iload_n 1, 1) := by decide +kernel
theorem d_M_answersAll_17 : decode b_M_answersAll 17 = .ok (.iload_n 2, 1) := by decide +kernel
theorem d_M_answersAll_18 : decode b_M_answersAll 18 = .ok (.invokestatic 138, 3) := by decide +kernel
theorem d_M_answersAll_21 : decode b_M_answersAll 21 = .ok (.ifCond .eq 11, 3) := by decide +kernel
theorem d_M_answersAll_24 : decode b_M_answersAll 24 = .ok (.aload_n 0, 1) := by decide +kernel
theorem d_M_answersAll_25 : decode b_M_answersAll 25 = .ok (.sipush 972, 3) := by decide +kernel
theorem d_M_answersAll_28 : decode b_M_answersAll 28 = .ok (.iload_n 2, 1) := by decide +kernel
theorem d_M_answersAll_29 : decode b_M_answersAll 29 = .ok (.invokevirtual 178, 3) := by decide +kernel
theorem d_M_answersAll_32 : decode b_M_answersAll 32 = .ok (.iinc 2 1, 3) := by decide +kernel
theorem d_M_answersAll_35 : decode b_M_answersAll 35 = .ok (.goto (-29), 3) := by decide +kernel
theorem d_M_answersAll_38 : decode b_M_answersAll 38 = .ok (.return_, 1) := by decide +kernel
theorem d_M_as_0 : decode b_M_as 0 = .ok (.aload_n 0, 1) := by decide +kernel
theorem d_M_as_1 : decode b_M_as 1 = .ok (.iload_n 1, 1) := by decide +kernel
theorem d_M_as_2 : decode b_M_as 2 = .ok (.invokevirtual 175, 3) := by decide +kernel
theorem d_M_as_5 : decode b_M_as 5 = .ok (.ifCond .eq 15, 3) := by decide +kernel
theorem d_M_as_8 : decode b_M_as 8 = .ok (.iload_n 2, 1) := by decide +kernel
theorem d_M_as_9 : decode b_M_as 9 = .ok (.i2l, 1) := by decide +kernel
theorem d_M_as_10 : decode b_M_as 10 = .ok (.lconst 0, 1) := by decide +kernel
theorem d_M_as_11 : decode b_M_as 11 = .ok (.ldc2_w 202, 3) := by decide +kernel
theorem d_M_as_14 : decode b_M_as 14 = .ok (.invokestatic 45, 3) := by decide +kernel
theorem d_M_as_17 : decode b_M_as 17 = .ok (.ifCond .ne 6, 3) := by decide +kernel
theorem d_M_as_20 : decode b_M_as 20 = .ok (.ldc 55, 2) := by decide +kernel
theorem d_M_as_22 : decode b_M_as 22 = .ok (.ireturn, 1) := by decide +kernel
theorem d_M_as_23 : decode b_M_as 23 = .ok (.aload_n 0, 1) := by decide +kernel
theorem d_M_as_24 : decode b_M_as 24 = .ok (.iload_n 1, 1) := by decide +kernel
theorem d_M_as_25 : decode b_M_as 25 = .ok (.iload_n 2, 1) := by decide +kernel
theorem d_M_as_26 : decode b_M_as 26 = .ok (.invokevirtual 244, 3) := by decide +kernel
theorem d_M_as_29 : decode b_M_as 29 = .ok (.ifCond .eq 11, 3) := by decide +kernel
theorem d_M_as_32 : decode b_M_as 32 = .ok (.aload_n 0, 1) := by decide +kernel
theorem d_M_as_33 : decode b_M_as 33 = .ok (.iload_n 1, 1) := by decide +kernel
theorem d_M_as_34 : decode b_M_as 34 = .ok (.invokevirtual 60, 3) := by decide +kernel
theorem d_M_as_37 : decode b_M_as 37 = .ok (.goto 8, 3) := by decide +kernel
theorem d_M_as_40 : decode b_M_as 40 = .ok (.aload_n 0, 1) := by decide +kernel
theorem d_M_as_41 : decode b_M_as 41 = .ok (.iconst 3, 1) := by decide +kernel
theorem d_M_as_42 : decode b_M_as 42 = .ok (.invokevirtual 56, 3) := by decide +kernel
theorem d_M_as_45 : decode b_M_as 45 = .ok (.ireturn, 1) := by decide +kernel
theorem d_M_ask_0 : decode b_M_ask 0 = .ok (.aload_n 0, 1) := by decide +kernel
theorem d_M_ask_1 : decode b_M_ask 1 = .ok (.iload_n 1, 1) := by decide +kernel
theorem d_M_ask_2 : decode b_M_ask 2 = .ok (.invokevirtual 175, 3) := by decide +kernel
theorem d_M_ask_5 : decode b_M_ask 5 = .ok (.ifCond .eq 13, 3) := by decide +kernel
theorem d_M_ask_8 : decode b_M_ask 8 = .ok (.iload_n 2, 1) := by decide +kernel
theorem d_M_ask_9 : decode b_M_ask 9 = .ok (.i2l, 1) := by decide +kernel
theorem d_M_ask_10 : decode b_M_ask 10 = .ok (.lconst 0, 1) := by decide +kernel
theorem d_M_ask_11 : decode b_M_ask 11 = .ok (.lconst 1, 1) := by decide +kernel
theorem d_M_ask_12 : decode b_M_ask 12 = .ok (.invokestatic 45, 3) := by decide +kernel
theorem d_M_ask_15 : decode b_M_ask 15 = .ok (.ifCond .ne 6, 3) := by decide +kernel
theorem d_M_ask_18 : decode b_M_ask 18 = .ok (.ldc 55, 2) := by decide +kernel
theorem d_M_ask_20 : decode b_M_ask 20 = .ok (.ireturn, 1) := by decide +kernel
theorem d_M_ask_21 : decode b_M_ask 21 = .ok (.aload_n 0, 1) := by decide +kernel
theorem d_M_ask_22 : decode b_M_ask 22 = .ok (.iconst 0, 1) := by decide +kernel
theorem d_M_ask_23 : decode b_M_ask 23 = .ok (.putfield 247, 3) := by decide +kernel
theorem d_M_ask_26 : decode b_M_ask 26 = .ok (.iload_n 2, 1) := by decide +kernel
theorem d_M_ask_27 : decode b_M_ask 27 = .ok (.ifCond .ne 11, 3) := by decide +kernel
theorem d_M_ask_30 : decode b_M_ask 30 = .ok (.aload_n 0, 1) := by decide +kernel
theorem d_M_ask_31 : decode b_M_ask 31 = .ok (.iload_n 1, 1) := by decide +kernel
theorem d_M_ask_32 : decode b_M_ask 32 = .ok (.invokevirtual 271, 3) := by decide +kernel
theorem d_M_ask_35 : decode b_M_ask 35 = .ok (.goto 25, 3) := by decide +kernel
theorem d_M_ask_38 : decode b_M_ask 38 = .ok (.aload_n 0, 1) := by decide +kernel
theorem d_M_ask_39 : decode b_M_ask 39 = .ok (.iload_n 1, 1) := by decide +kernel
theorem d_M_ask_40 : decode b_M_ask 40 = .ok (.iconst 4, 1) := by decide +kernel
theorem d_M_ask_41 : decode b_M_ask 41 = .ok (.invokevirtual 244, 3) := by decide +kernel
theorem d_M_ask_44 : decode b_M_ask 44 = .ok (.ifCond .eq 11, 3) := by decide +kernel
theorem d_M_ask_47 : decode b_M_ask 47 = .ok (.aload_n 0, 1) := by decide +kernel
theorem d_M_ask_48 : decode b_M_ask 48 = .ok (.iload_n 1, 1) := by decide +kernel
theorem d_M_ask_49 : decode b_M_ask 49 = .ok (.invokevirtual 274, 3) := by decide +kernel
theorem d_M_ask_52 : decode b_M_ask 52 = .ok (.goto 8, 3) := by decide +kernel
theorem d_M_ask_55 : decode b_M_ask 55 = .ok (.aload_n 0, 1) := by decide +kernel
theorem d_M_ask_56 : decode b_M_ask 56 = .ok (.iload_n 1, 1) := by decide +kernel
theorem d_M_ask_57 : decode b_M_ask 57 = .ok (.invokevirtual 256, 3) := by decide +kernel
theorem d_M_ask_60 : decode b_M_ask 60 = .ok (.ireturn, 1) := by decide +kernel
theorem d_M_atMost_0 : decode b_M_atMost 0 = .ok (.iload_n 0, 1) := by decide +kernel
theorem d_M_atMost_1 : decode b_M_atMost 1 = .ok (.iload_n 1, 1) := by decide +kernel
theorem d_M_atMost_2 : decode b_M_atMost 2 = .ok (.if_icmp .le 7, 3) := by decide +kernel
theorem d_M_atMost_5 : decode b_M_atMost 5 = .ok (.iload_n 1, 1) := by decide +kernel
theorem d_M_atMost_6 : decode b_M_atMost 6 = .ok (.goto 4, 3) := by decide +kernel
theorem d_M_atMost_9 : decode b_M_atMost 9 = .ok (.iload_n 0, 1) := by decide +kernel
theorem d_M_atMost_10 : decode b_M_atMost 10 = .ok (.ireturn, 1) := by decide +kernel
theorem d_M_away_0 : decode b_M_away 0 = .ok (.aload_n 0, 1) := by decide +kernel
theorem d_M_away_1 : decode b_M_away 1 = .ok (.getfield 7, 3) := by decide +kernel
theorem d_M_away_4 : decode b_M_away 4 = .ok (.iload_n 1, 1) := by decide +kernel
theorem d_M_away_5 : decode b_M_away 5 = .ok (.iconst 3, 1) := by decide +kernel
theorem d_M_away_6 : decode b_M_away 6 = .ok (.iadd, 1) := by decide +kernel
theorem d_M_away_7 : decode b_M_away 7 = .ok (.dup2, 1) := by decide +kernel
theorem d_M_away_8 : decode b_M_away 8 = .ok (.iaload, 1) := by decide +kernel
theorem d_M_away_9 : decode b_M_away 9 = .ok (.iconst 1, 1) := by decide +kernel
theorem d_M_away_10 : decode b_M_away 10 = .ok (.iload_n 2, 1) := by decide +kernel
theorem d_M_away_11 : decode b_M_away 11 = .ok (.ishl, 1) := by decide +kernel
theorem d_M_away_12 : decode b_M_away 12 = .ok (.iconst (-1), 1) := by decide +kernel
theorem d_M_away_13 : decode b_M_away 13 = .ok (.ixor, 1) := by decide +kernel
theorem d_M_away_14 : decode b_M_away 14 = .ok (.iand, 1) := by decide +kernel
theorem d_M_away_15 : decode b_M_away 15 = .ok (.iastore, 1) := by decide +kernel
theorem d_M_away_16 : decode b_M_away 16 = .ok (.aload_n 0, 1) := by decide +kernel
theorem d_M_away_17 : decode b_M_away 17 = .ok (.getfield 7, 3) := by decide +kernel
theorem d_M_away_20 : decode b_M_away 20 = .ok (.iload_n 1, 1) := by decide +kernel
theorem d_M_away_21 : decode b_M_away 21 = .ok (.iconst 5, 1) := by decide +kernel
theorem d_M_away_22 : decode b_M_away 22 = .ok (.iadd, 1) := by decide +kernel
theorem d_M_away_23 : decode b_M_away 23 = .ok (.aload_n 0, 1) := by decide +kernel
theorem d_M_away_24 : decode b_M_away 24 = .ok (.getfield 7, 3) := by decide +kernel
theorem d_M_away_27 : decode b_M_away 27 = .ok (.iload_n 1, 1) := by decide +kernel
theorem d_M_away_28 : decode b_M_away 28 = .ok (.iconst 5, 1) := by decide +kernel
theorem d_M_away_29 : decode b_M_away 29 = .ok (.iadd, 1) := by decide +kernel
theorem d_M_away_30 : decode b_M_away 30 = .ok (.iaload, 1) := by decide +kernel
theorem d_M_away_31 : decode b_M_away 31 = .ok (.iload_n 3, 1) := by decide +kernel
theorem d_M_away_32 : decode b_M_away 32 = .ok (.iadd, 1) := by decide +kernel
theorem d_M_away_33 : decode b_M_away 33 = .ok (.sipush 9999, 3) := by decide +kernel
theorem d_M_away_36 : decode b_M_away 36 = .ok (.invokestatic 154, 3) := by decide +kernel
theorem d_M_away_39 : decode b_M_away 39 = .ok (.iastore, 1) := by decide +kernel
theorem d_M_away_40 : decode b_M_away 40 = .ok (.return_, 1) := by decide +kernel
theorem d_M_begin_0 : decode b_M_begin 0 = .ok (.aload_n 0, 1) := by decide +kernel
theorem d_M_begin_1 : decode b_M_begin 1 = .ok (.getfield 247, 3) := by decide +kernel
theorem d_M_begin_4 : decode b_M_begin 4 = .ok (.bipush 16, 2) := by decide +kernel
theorem d_M_begin_6 : decode b_M_begin 6 = .ok (.if_icmp .ge 23, 3) := by decide +kernel
theorem d_M_begin_9 : decode b_M_begin 9 = .ok (.aload_n 0, 1) := by decide +kernel
theorem d_M_begin_10 : decode b_M_begin 10 = .ok (.getfield 29, 3) := by decide +kernel
theorem d_M_begin_13 : decode b_M_begin 13 = .ok (.aload_n 0, 1) := by decide +kernel
theorem d_M_begin_14 : decode b_M_begin 14 = .ok (.getfield 247, 3) := by decide +kernel
theorem d_M_begin_17 : decode b_M_begin 17 = .ok (.iload_n 1, 1) := by decide +kernel
theorem d_M_begin_18 : decode b_M_begin 18 = .ok (.iastore, 1) := by decide +kernel
theorem d_M_begin_19 : decode b_M_begin 19 = .ok (.aload_n 0, 1) := by decide +kernel
theorem d_M_begin_20 : decode b_M_begin 20 = .ok (.dup, 1) := by decide +kernel
theorem d_M_begin_21 : decode b_M_begin 21 = .ok (.getfield 247, 3) := by decide +kernel
theorem d_M_begin_24 : decode b_M_begin 24 = .ok (.iconst 1, 1) := by decide +kernel
theorem d_M_begin_25 : decode b_M_begin 25 = .ok (.iadd, 1) := by decide +kernel
theorem d_M_begin_26 : decode b_M_begin 26 = .ok (.putfield 247, 3) := by decide +kernel
theorem d_M_begin_29 : decode b_M_begin 29 = .ok (.return_, 1) := by decide +kernel
theorem d_M_behind_0 : decode b_M_behind 0 = .ok (.aload_n 0, 1) := by decide +kernel
theorem d_M_behind_1 : decode b_M_behind 1 = .ok (.iload_n 1, 1) := by decide +kernel
theorem d_M_behind_2 : decode b_M_behind 2 = .ok (.invokevirtual 194, 3) := by decide +kernel
theorem d_M_behind_5 : decode b_M_behind 5 = .ok (.istore_n 2, 1) := by decide +kernel
theorem d_M_behind_6 : decode b_M_behind 6 = .ok (.iload_n 2, 1) := by decide +kernel
theorem d_M_behind_7 : decode b_M_behind 7 = .ok (.ifCond .eq 7, 3) := by decide +kernel
theorem d_M_behind_10 : decode b_M_behind 10 = .ok (.iload_n 2, 1) := by decide +kernel
theorem d_M_behind_11 : decode b_M_behind 11 = .ok (.goto 11, 3) := by decide +kernel
theorem d_M_behind_14 : decode b_M_behind 14 = .ok (.aload_n 0, 1) := by decide +kernel
theorem d_M_behind_15 : decode b_M_behind 15 = .ok (.getfield 7, 3) := by decide +kernel
theorem d_M_behind_18 : decode b_M_behind 18 = .ok (.sipush 975, 3) := by decide +kernel
theorem d_M_behind_21 : decode b_M_behind 21 = .ok (.iaload, 1) := by decide +kernel
theorem d_M_behind_22 : decode b_M_behind 22 = .ok (.ireturn, 1) := by decide +kernel
theorem d_M_billMark_0 : decode b_M_billMark 0 = .ok (.aload_n 0, 1) := by decide +kernel
theorem d_M_billMark_1 : decode b_M_billMark 1 = .ok (.bipush 21, 2) := by decide +kernel
theorem d_M_billMark_3 : decode b_M_billMark 3 = .ok (.invokevirtual 250, 3) := by decide +kernel
theorem d_M_billMark_6 : decode b_M_billMark 6 = .ok (.aload_n 0, 1) := by decide +kernel
theorem d_M_billMark_7 : decode b_M_billMark 7 = .ok (.iload_n 1, 1) := by decide +kernel
theorem d_M_billMark_8 : decode b_M_billMark 8 = .ok (.invokevirtual 265, 3) := by decide +kernel
theorem d_M_billMark_11 : decode b_M_billMark 11 = .ok (.aload_n 0, 1) := by decide +kernel
theorem d_M_billMark_12 : decode b_M_billMark 12 = .ok (.getfield 7, 3) := by decide +kernel
theorem d_M_billMark_15 : decode b_M_billMark 15 = .ok (.bipush 30, 2) := by decide +kernel
theorem d_M_billMark_17 : decode b_M_billMark 17 = .ok (.iload_n 1, 1) := by decide +kernel
theorem d_M_billMark_18 : decode b_M_billMark 18 = .ok (.iadd, 1) := by decide +kernel
theorem d_M_billMark_19 : decode b_M_billMark 19 = .ok (.iaload, 1) := by decide +kernel
theorem d_M_billMark_20 : decode b_M_billMark 20 = .ok (.iadd, 1) := by decide +kernel
theorem d_M_billMark_21 : decode b_M_billMark 21 = .ok (.ireturn, 1) := by decide +kernel
theorem d_M_billSize_0 : decode b_M_billSize 0 = .ok (.aload_n 0, 1) := by decide +kernel
theorem d_M_billSize_1 : decode b_M_billSize 1 = .ok (.bipush 11, 2) := by decide +kernel
theorem d_M_billSize_3 : decode b_M_billSize 3 = .ok (.invokevirtual 250, 3) := by decide +kernel
theorem d_M_billSize_6 : decode b_M_billSize 6 = .ok (.aload_n 0, 1) := by decide +kernel
theorem d_M_billSize_7 : decode b_M_billSize 7 = .ok (.iload_n 1, 1) := by decide +kernel
theorem d_M_billSize_8 : decode b_M_billSize 8 = .ok (.invokevirtual 253, 3) := by decide +kernel
theorem d_M_billSize_11 : decode b_M_billSize 11 = .ok (.istore_n 2, 1) := by decide +kernel
theorem d_M_billSize_12 : decode b_M_billSize 12 = .ok (.iload_n 2, 1) := by decide +kernel
theorem d_M_billSize_13 : decode b_M_billSize 13 = .ok (.aload_n 0, 1) := by decide +kernel
theorem d_M_billSize_14 : decode b_M_billSize 14 = .ok (.iload_n 1, 1) := by decide +kernel
theorem d_M_billSize_15 : decode b_M_billSize 15 = .ok (.invokevirtual 256, 3) := by decide +kernel
theorem d_M_billSize_18 : decode b_M_billSize 18 = .ok (.iadd, 1) := by decide +kernel
theorem d_M_billSize_19 : decode b_M_billSize 19 = .ok (.ireturn, 1) := by decide +kernel
theorem d_M_bits_0 : decode b_M_bits 0 = .ok (.iconst 0, 1) := by decide +kernel
theorem d_M_bits_1 : decode b_M_bits 1 = .ok (.istore_n 1, 1) := by decide +kernel
theorem d_M_bits_2 : decode b_M_bits 2 = .ok (.iconst 0, 1) := by decide +kernel
theorem d_M_bits_3 : decode b_M_bits 3 = .ok (.istore_n 2, 1) := by decide +kernel
theorem d_M_bits_4 : decode b_M_bits 4 = .ok (.iload_n 2, 1) := by decide +kernel
theorem d_M_bits_5 : decode b_M_bits 5 = .ok (.bipush 6, 2) := by decide +kernel
theorem d_M_bits_7 : decode b_M_bits 7 = .ok (.if_icmp .ge 17, 3) := by decide +kernel
theorem d_M_bits_10 : decode b_M_bits 10 = .ok (.iload_n 1, 1) := by decide +kernel
theorem d_M_bits_11 : decode b_M_bits 11 = .ok (.iload_n 0, 1) := by decide +kernel
theorem d_M_bits_12 : decode b_M_bits 12 = .ok (.iload_n 2, 1) := by decide +kernel
theorem d_M_bits_13 : decode b_M_bits 13 = .ok (.ishr, 1) := by decide +kernel
theorem d_M_bits_14 : decode b_M_bits 14 = .ok (.iconst 1, 1) := by decide +kernel
theorem d_M_bits_15 : decode b_M_bits 15 = .ok (.iand, 1) := by decide +kernel
theorem d_M_bits_16 : decode b_M_bits 16 = .ok (.iadd, 1) := by decide +kernel
theorem d_M_bits_17 : decode b_M_bits 17 = .ok (.istore_n 1, 1) := by decide +kernel
theorem d_M_bits_18 : decode b_M_bits 18 = .ok (.iinc 2 1, 3) := by decide +kernel
theorem d_M_bits_21 : decode b_M_bits 21 = .ok (.goto (-17), 3) := by decide +kernel
theorem d_M_bits_24 : decode b_M_bits 24 = .ok (.iload_n 1, 1) := by decide +kernel
theorem d_M_bits_25 : decode b_M_bits 25 = .ok (.ireturn, 1) := by decide +kernel
theorem d_M_burden_0 : decode b_M_burden 0 = .ok (.aload_n 0, 1) := by decide +kernel
theorem d_M_burden_1 : decode b_M_burden 1 = .ok (.iload_n 1, 1) := by decide +kernel
theorem d_M_burden_2 : decode b_M_burden 2 = .ok (.invokevirtual 194, 3) := by decide +kernel
theorem d_M_burden_5 : decode b_M_burden 5 = .ok (.istore_n 2, 1) := by decide +kernel
theorem d_M_burden_6 : decode b_M_burden 6 = .ok (.iload_n 2, 1) := by decide +kernel
theorem d_M_burden_7 : decode b_M_burden 7 = .ok (.ifCond .eq 7, 3) := by decide +kernel
theorem d_M_burden_10 : decode b_M_burden 10 = .ok (.iload_n 2, 1) := by decide +kernel
theorem d_M_burden_11 : decode b_M_burden 11 = .ok (.goto 10, 3) := by decide +kernel
theorem d_M_burden_14 : decode b_M_burden 14 = .ok (.aload_n 0, 1) := by decide +kernel
theorem d_M_burden_15 : decode b_M_burden 15 = .ok (.sipush 972, 3) := by decide +kernel
theorem d_M_burden_18 : decode b_M_burden 18 = .ok (.invokevirtual 157, 3) := by decide +kernel
theorem d_M_burden_21 : decode b_M_burden 21 = .ok (.ireturn, 1) := by decide +kernel
theorem d_M_burdenAt_0 : decode b_M_burdenAt 0 = .ok (.iconst 0, 1) := by decide +kernel
theorem d_M_burdenAt_1 : decode b_M_burdenAt 1 = .ok (.istore_n 2, 1) := by decide +kernel
theorem d_M_burdenAt_2 : decode b_M_burdenAt 2 = .ok (.iconst 0, 1) := by decide +kernel
theorem d_M_burdenAt_3 : decode b_M_burdenAt 3 = .ok (.istore_n 3, 1) := by decide +kernel
theorem d_M_burdenAt_4 : decode b_M_burdenAt 4 = .ok (.iload_n 3, 1) := by decide +kernel
theorem d_M_burdenAt_5 : decode b_M_burdenAt 5 = .ok (.aload_n 0, 1) := by decide +kernel
theorem d_M_burdenAt_6 : decode b_M_burdenAt 6 = .ok (.getfield 7, 3) := by decide +kernel
theorem d_M_burdenAt_9 : decode b_M_burdenAt 9 = .ok (.iload_n 1, 1) := by decide +kernel
theorem d_M_burdenAt_10 : decode b_M_burdenAt 10 = .ok (.iconst 0, 1) := by decide +kernel
theorem d_M_burdenAt_11 : decode b_M_burdenAt 11 = .ok (.iadd, 1) := by decide +kernel
theorem d_M_burdenAt_12 : decode b_M_burdenAt 12 = .ok (.iaload, 1) := by decide +kernel
theorem d_M_burdenAt_13 : decode b_M_burdenAt 13 = .ok (.if_icmp .ge 18, 3) := by decide +kernel
theorem d_M_burdenAt_16 : decode b_M_burdenAt 16 = .ok (.iload_n 2, 1) := by decide +kernel
theorem d_M_burdenAt_17 : decode b_M_burdenAt 17 = .ok (.aload_n 0, 1) := by decide +kernel
theorem d_M_burdenAt_18 : decode b_M_burdenAt 18 = .ok (.iload_n 1, 1) := by decide +kernel
theorem d_M_burdenAt_19 : decode b_M_burdenAt 19 = .ok (.iload_n 3, 1) := by decide +kernel
theorem d_M_burdenAt_20 : decode b_M_burdenAt 20 = .ok (.invokevirtual 144, 3) := by decide +kernel
theorem d_M_burdenAt_23 : decode b_M_burdenAt 23 = .ok (.iadd, 1) := by decide +kernel
theorem d_M_burdenAt_24 : decode b_M_burdenAt 24 = .ok (.istore_n 2, 1) := by decide +kernel
theorem d_M_burdenAt_25 : decode b_M_burdenAt 25 = .ok (.iinc 3 1, 3) := by decide +kernel
theorem d_M_burdenAt_28 : decode b_M_burdenAt 28 = .ok (.goto (-24), 3) := by decide +kernel
theorem d_M_burdenAt_31 : decode b_M_burdenAt 31 = .ok (.iload_n 2, 1) := by decide +kernel
theorem d_M_burdenAt_32 : decode b_M_burdenAt 32 = .ok (.ireturn, 1) := by decide +kernel
theorem d_M_copy_0 : decode b_M_copy 0 = .ok (.iload_n 1, 1) := by decide +kernel
theorem d_M_copy_1 : decode b_M_copy 1 = .ok (.invokestatic 49, 3) := by decide +kernel
theorem d_M_copy_4 : decode b_M_copy 4 = .ok (.ifCond .eq 10, 3) := by decide +kernel
theorem d_M_copy_7 : decode b_M_copy 7 = .ok (.iload_n 3, 1) := by decide +kernel
theorem d_M_copy_8 : decode b_M_copy 8 = .ok (.invokestatic 49, 3) := by decide +kernel
theorem d_M_copy_11 : decode b_M_copy 11 = .ok (.ifCond .ne 6, 3) := by decide +kernel
theorem d_M_copy_14 : decode b_M_copy 14 = .ok (.ldc 55, 2) := by decide +kernel
theorem d_M_copy_16 : decode b_M_copy 16 = .ok (.ireturn, 1) := by decide +kernel
theorem d_M_copy_17 : decode b_M_copy 17 = .ok (.aload_n 0, 1) := by decide +kernel
theorem d_M_copy_18 : decode b_M_copy 18 = .ok (.getfield 20, 3) := by decide +kernel
theorem d_M_copy_21 : decode b_M_copy 21 = .ok (.iload_n 1, 1) := by decide +kernel
theorem d_M_copy_22 : decode b_M_copy 22 = .ok (.iaload, 1) := by decide +kernel
theorem d_M_copy_23 : decode b_M_copy 23 = .ok (.ifCond .lt 12, 3) := by decide +kernel
theorem d_M_copy_26 : decode b_M_copy 26 = .ok (.aload_n 0, 1) := by decide +kernel
theorem d_M_copy_27 : decode b_M_copy 27 = .ok (.getfield 20, 3) := by decide +kernel
theorem d_M_copy_30 : decode b_M_copy 30 = .ok (.iload_n 3, 1) := by decide +kernel
theorem d_M_copy_31 : decode b_M_copy 31 = .ok (.iaload, 1) := by decide +kernel
theorem d_M_copy_32 : decode b_M_copy 32 = .ok (.ifCond .ge 9, 3) := by decide +kernel
theorem d_M_copy_35 : decode b_M_copy 35 = .ok (.aload_n 0, 1) := by decide +kernel
theorem d_M_copy_36 : decode b_M_copy 36 = .ok (.iconst 1, 1) := by decide +kernel
theorem d_M_copy_37 : decode b_M_copy 37 = .ok (.invokevirtual 56, 3) := by decide +kernel
theorem d_M_copy_40 : decode b_M_copy 40 = .ok (.ireturn, 1) := by decide +kernel
theorem d_M_copy_41 : decode b_M_copy 41 = .ok (.aload_n 0, 1) := by decide +kernel
theorem d_M_copy_42 : decode b_M_copy 42 = .ok (.getfield 17, 3) := by decide +kernel
theorem d_M_copy_45 : decode b_M_copy 45 = .ok (.iload_n 1, 1) := by decide +kernel
theorem d_M_copy_46 : decode b_M_copy 46 = .ok (.iaload, 1) := by decide +kernel
theorem d_M_copy_47 : decode b_M_copy 47 = .ok (.aload_n 0, 1) := by decide +kernel
theorem d_M_copy_48 : decode b_M_copy 48 = .ok (.getfield 17, 3) := by decide +kernel
theorem d_M_copy_51 : decode b_M_copy 51 = .ok (.iload_n 3, 1) := by decide +kernel
theorem d_M_copy_52 : decode b_M_copy 52 = .ok (.iaload, 1) := by decide +kernel
theorem d_M_copy_53 : decode b_M_copy 53 = .ok (.if_icmp .eq 9, 3) := by decide +kernel
theorem d_M_copy_56 : decode b_M_copy 56 = .ok (.aload_n 0, 1) := by decide +kernel
theorem d_M_copy_57 : decode b_M_copy 57 = .ok (.iconst 5, 1) := by decide +kernel
theorem d_M_copy_58 : decode b_M_copy 58 = .ok (.invokevirtual 56, 3) := by decide +kernel
theorem d_M_copy_61 : decode b_M_copy 61 = .ok (.ireturn, 1) := by decide +kernel
theorem d_M_copy_62 : decode b_M_copy 62 = .ok (.aload_n 0, 1) := by decide +kernel
theorem d_M_copy_63 : decode b_M_copy 63 = .ok (.iload_n 1, 1) := by decide +kernel
theorem d_M_copy_64 : decode b_M_copy 64 = .ok (.iload_n 2, 1) := by decide +kernel
theorem d_M_copy_65 : decode b_M_copy 65 = .ok (.iload 5, 2) := by decide +kernel
theorem d_M_copy_67 : decode b_M_copy 67 = .ok (.invokevirtual 67, 3) := by decide +kernel
theorem d_M_copy_70 : decode b_M_copy 70 = .ok (.ifCond .eq 15, 3) := by decide +kernel
theorem d_M_copy_73 : decode b_M_copy 73 = .ok (.aload_n 0, 1) := by decide +kernel
theorem d_M_copy_74 : decode b_M_copy 74 = .ok (.iload_n 3, 1) := by decide +kernel
theorem d_M_copy_75 : decode b_M_copy 75 = .ok (.iload 4, 2) := by decide +kernel
theorem d_M_copy_77 : decode b_M_copy 77 = .ok (.iload 5, 2) := by decide +kernel
theorem d_M_copy_79 : decode b_M_copy 79 = .ok (.invokevirtual 67, 3) := by decide +kernel
theorem d_M_copy_82 : decode b_M_copy 82 = .ok (.ifCond .ne 9, 3) := by decide +kernel
theorem d_M_copy_85 : decode b_M_copy 85 = .ok (.aload_n 0, 1) := by decide +kernel
theorem d_M_copy_86 : decode b_M_copy 86 = .ok (.iconst 2, 1) := by decide +kernel
theorem d_M_copy_87 : decode b_M_copy 87 = .ok (.invokevirtual 56, 3) := by decide +kernel
theorem d_M_copy_90 : decode b_M_copy 90 = .ok (.ireturn, 1) := by decide +kernel
theorem d_M_copy_91 : decode b_M_copy 91 = .ok (.iload_n 2, 1) := by decide +kernel
theorem d_M_copy_92 : decode b_M_copy 92 = .ok (.iload 4, 2) := by decide +kernel
theorem d_M_copy_94 : decode b_M_copy 94 = .ok (.if_icmp .ge 7, 3) := by decide +kernel
theorem d_M_copy_97 : decode b_M_copy 97 = .ok (.iconst 1, 1) := by decide +kernel
theorem d_M_copy_98 : decode b_M_copy 98 = .ok (.goto 4, 3) := by decide +kernel
theorem d_M_copy_101 : decode b_M_copy 101 = .ok (.iconst 0, 1) := by decide +kernel
theorem d_M_copy_102 : decode b_M_copy 102 = .ok (.istore 6, 2) := by decide +kernel
theorem d_M_copy_104 : decode b_M_copy 104 = .ok (.iconst 0, 1) := by decide +kernel
theorem d_M_copy_105 : decode b_M_copy 105 = .ok (.istore 7, 2) := by decide +kernel
theorem d_M_copy_107 : decode b_M_copy 107 = .ok (.iload 7, 2) := by decide +kernel
theorem d_M_copy_109 : decode b_M_copy 109 = .ok (.iload 5, 2) := by decide +kernel
theorem d_M_copy_111 : decode b_M_copy 111 = .ok (.if_icmp .ge 57, 3) := by decide +kernel
theorem d_M_copy_114 : decode b_M_copy 114 = .ok (.iload 6, 2) := by decide +kernel
theorem d_M_copy_116 : decode b_M_copy 116 = .ok (.ifCond .eq 13, 3) := by decide +kernel
theorem d_M_copy_119 : decode b_M_copy 119 = .ok (.iload 5, 2) := by decide +kernel
theorem d_M_copy_121 : decode b_M_copy 121 = .ok (.iconst 1, 1) := by decide +kernel
theorem d_M_copy_122 : decode b_M_copy 122 = .ok (.isub, 1) := by decide +kernel
theorem d_M_copy_123 : decode b_M_copy 123 = .ok (.iload 7, 2) := by decide +kernel
theorem d_M_copy_125 : decode b_M_copy 125 = .ok (.isub, 1) := by decide +kernel
theorem d_M_copy_126 : decode b_M_copy 126 = .ok (.goto 5, 3) := by decide +kernel
theorem d_M_copy_129 : decode b_M_copy 129 = .ok (.iload 7, 2) := by decide +kernel
theorem d_M_copy_131 : decode b_M_copy 131 = .ok (.istore 8, 2) := by decide +kernel
theorem d_M_copy_133 : decode b_M_copy 133 = .ok (.aload_n 0, 1) := by decide +kernel
theorem d_M_copy_134 : decode b_M_copy 134 = .ok (.getfield 23, 3) := by decide +kernel
theorem d_M_copy_137 : decode b_M_copy 137 = .ok (.bipush 40, 2) := by decide +kernel
theorem d_M_copy_139 : decode b_M_copy 139 = .ok (.iload_n 3, 1) := by decide +kernel
theorem d_M_copy_140 : decode b_M_copy 140 = .ok (.imul, 1) := by decide +kernel
theorem d_M_copy_141 : decode b_M_copy 141 = .ok (.iload 4, 2) := by decide +kernel
theorem d_M_copy_143 : decode b_M_copy 143 = .ok (.iadd, 1) := by decide +kernel
theorem d_M_copy_144 : decode b_M_copy 144 = .ok (.iload 8, 2) := by decide +kernel
theorem d_M_copy_146 : decode b_M_copy 146 = .ok (.iadd, 1) := by decide +kernel
theorem d_M_copy_147 : decode b_M_copy 147 = .ok (.aload_n 0, 1) := by decide +kernel
theorem d_M_copy_148 : decode b_M_copy 148 = .ok (.getfield 23, 3) := by decide +kernel
theorem d_M_copy_151 : decode b_M_copy 151 = .ok (.bipush 40, 2) := by decide +kernel
theorem d_M_copy_153 : decode b_M_copy 153 = .ok (.iload_n 1, 1) := by decide +kernel
theorem d_M_copy_154 : decode b_M_copy 154 = .ok (.imul, 1) := by decide +kernel
theorem d_M_copy_155 : decode b_M_copy 155 = .ok (.iload_n 2, 1) := by decide +kernel
theorem d_M_copy_156 : decode b_M_copy 156 = .ok (.iadd, 1) := by decide +kernel
theorem d_M_copy_157 : decode b_M_copy 157 = .ok (.iload 8, 2) := by decide +kernel
theorem d_M_copy_159 : decode b_M_copy 159 = .ok (.iadd, 1) := by decide +kernel
theorem d_M_copy_160 : decode b_M_copy 160 = .ok (.iaload, 1) := by decide +kernel
theorem d_M_copy_161 : decode b_M_copy 161 = .ok (.iastore, 1) := by decide +kernel
theorem d_M_copy_162 : decode b_M_copy 162 = .ok (.iinc 7 1, 3) := by decide +kernel
theorem d_M_copy_165 : decode b_M_copy 165 = .ok (.goto (-58), 3) := by decide +kernel
theorem d_M_copy_168 : decode b_M_copy 168 = .ok (.aload_n 0, 1) := by decide +kernel
theorem d_M_copy_169 : decode b_M_copy 169 = .ok (.iload 5, 2) := by decide +kernel
theorem d_M_copy_171 : decode b_M_copy 171 = .ok (.invokevirtual 60, 3) := by decide +kernel
theorem d_M_copy_174 : decode b_M_copy 174 = .ok (.ireturn, 1) := by decide +kernel
theorem d_M_copyTown_0 : decode b_M_copyTown 0 = .ok (.iconst 0, 1) := by decide +kernel
theorem d_M_copyTown_1 : decode b_M_copyTown 1 = .ok (.istore_n 3, 1) := by decide +kernel
theorem d_M_copyTown_2 : decode b_M_copyTown 2 = .ok (.iload_n 3, 1) := by decide +kernel
theorem d_M_copyTown_3 : decode b_M_copyTown 3 = .ok (.bipush 36, 2) := by decide +kernel
theorem d_M_copyTown_5 : decode b_M_copyTown 5 = .ok (.if_icmp .ge 25, 3) := by decide +kernel
theorem d_M_copyTown_8 : decode b_M_copyTown 8 = .ok (.aload_n 0, 1) := by decide +kernel
theorem d_M_copyTown_9 : decode b_M_copyTown 9 = .ok (.getfield 7, 3) := by decide +kernel
theorem d_M_copyTown_12 : decode b_M_copyTown 12 = .ok (.iload_n 2, 1) := by decide +kernel
theorem d_M_copyTown_13 : decode b_M_copyTown 13 = .ok (.iload_n 3, 1) := by decide +kernel
theorem d_M_copyTown_14 : decode b_M_copyTown 14 = .ok (.iadd, 1) := by decide +kernel
theorem d_M_copyTown_15 : decode b_M_copyTown 15 = .ok (.aload_n 0, 1) := by decide +kernel
theorem d_M_copyTown_16 : decode b_M_copyTown 16 = .ok (.getfield 7, 3) := by decide +kernel
theorem d_M_copyTown_19 : decode b_M_copyTown 19 = .ok (.iload_n 1, 1) := by decide +kernel
theorem d_M_copyTown_20 : decode b_M_copyTown 20 = .ok (.iload_n 3, 1) := by decide +kernel
theorem d_M_copyTown_21 : decode b_M_copyTown 21 = .ok (.iadd, 1) := by decide +kernel
theorem d_M_copyTown_22 : decode b_M_copyTown 22 = .ok (.iaload, 1) := by decide +kernel
theorem d_M_copyTown_23 : decode b_M_copyTown 23 = .ok (.iastore, 1) := by decide +kernel
theorem d_M_copyTown_24 : decode b_M_copyTown 24 = .ok (.iinc 3 1, 3) := by decide +kernel
theorem d_M_copyTown_27 : decode b_M_copyTown 27 = .ok (.goto (-25), 3) := by decide +kernel
theorem d_M_copyTown_30 : decode b_M_copyTown 30 = .ok (.return_, 1) := by decide +kernel
theorem d_M_count_0 : decode b_M_count 0 = .ok (.iconst 0, 1) := by decide +kernel
theorem d_M_count_1 : decode b_M_count 1 = .ok (.istore_n 2, 1) := by decide +kernel
theorem d_M_count_2 : decode b_M_count 2 = .ok (.iload_n 1, 1) := by decide +kernel
theorem d_M_count_3 : decode b_M_count 3 = .ok (.tableswitch 144 0 9 #[53, 86, 93, 100, 107, 113, 120, 125, 130, 137], 53) := by decide +kernel
theorem d_M_count_56 : decode b_M_count 56 = .ok (.iconst 0, 1) := by decide +kernel
theorem d_M_count_57 : decode b_M_count 57 = .ok (.istore_n 3, 1) := by decide +kernel
theorem d_M_count_58 : decode b_M_count 58 = .ok (.iload_n 3, 1) := by decide +kernel
theorem d_M_count_59 : decode b_M_count 59 = .ok (.bipush 8, 2) := by decide +kernel
theorem d_M_count_61 : decode b_M_count 61 = .ok (.if_icmp .ge 26, 3) := by decide +kernel
theorem d_M_count_64 : decode b_M_count 64 = .ok (.iload_n 2, 1) := by decide +kernel
theorem d_M_count_65 : decode b_M_count 65 = .ok (.aload_n 0, 1) := by decide +kernel
theorem d_M_count_66 : decode b_M_count 66 = .ok (.getfield 20, 3) := by decide +kernel
theorem d_M_count_69 : decode b_M_count 69 = .ok (.iload_n 3, 1) := by decide +kernel
theorem d_M_count_70 : decode b_M_count 70 = .ok (.iaload, 1) := by decide +kernel
theorem d_M_count_71 : decode b_M_count 71 = .ok (.ifCond .ge 7, 3) := by decide +kernel
theorem d_M_count_74 : decode b_M_count 74 = .ok (.iconst 0, 1) := by decide +kernel
theorem d_M_count_75 : decode b_M_count 75 = .ok (.goto 4, 3) := by decide +kernel
theorem d_M_count_78 : decode b_M_count 78 = .ok (.iconst 1, 1) := by decide +kernel
theorem d_M_count_79 : decode b_M_count 79 = .ok (.iadd, 1) := by decide +kernel
theorem d_M_count_80 : decode b_M_count 80 = .ok (.istore_n 2, 1) := by decide +kernel
theorem d_M_count_81 : decode b_M_count 81 = .ok (.iinc 3 1, 3) := by decide +kernel
theorem d_M_count_84 : decode b_M_count 84 = .ok (.goto (-26), 3) := by decide +kernel
theorem d_M_count_87 : decode b_M_count 87 = .ok (.iload_n 2, 1) := by decide +kernel
theorem d_M_count_88 : decode b_M_count 88 = .ok (.ireturn, 1) := by decide +kernel
theorem d_M_count_89 : decode b_M_count 89 = .ok (.aload_n 0, 1) := by decide +kernel
theorem d_M_count_90 : decode b_M_count 90 = .ok (.getfield 7, 3) := by decide +kernel
theorem d_M_count_93 : decode b_M_count 93 = .ok (.iconst 0, 1) := by decide +kernel
theorem d_M_count_94 : decode b_M_count 94 = .ok (.iaload, 1) := by decide +kernel
theorem d_M_count_95 : decode b_M_count 95 = .ok (.ireturn, 1) := by decide +kernel
theorem d_M_count_96 : decode b_M_count 96 = .ok (.aload_n 0, 1) := by decide +kernel
theorem d_M_count_97 : decode b_M_count 97 = .ok (.getfield 7, 3) := by decide +kernel
theorem d_M_count_100 : decode b_M_count 100 = .ok (.iconst 2, 1) := by decide +kernel
theorem d_M_count_101 : decode b_M_count 101 = .ok (.iaload, 1) := by decide +kernel
theorem d_M_count_102 : decode b_M_count 102 = .ok (.ireturn, 1) := by decide +kernel
theorem d_M_count_103 : decode b_M_count 103 = .ok (.aload_n 0, 1) := by decide +kernel
theorem d_M_count_104 : decode b_M_count 104 = .ok (.getfield 7, 3) := by decide +kernel
theorem d_M_count_107 : decode b_M_count 107 = .ok (.iconst 3, 1) := by decide +kernel
theorem d_M_count_108 : decode b_M_count 108 = .ok (.iaload, 1) := by decide +kernel
theorem d_M_count_109 : decode b_M_count 109 = .ok (.ireturn, 1) := by decide +kernel
theorem d_M_count_110 : decode b_M_count 110 = .ok (.aload_n 0, 1) := by decide +kernel
theorem d_M_count_111 : decode b_M_count 111 = .ok (.iconst 0, 1) := by decide +kernel
theorem d_M_count_112 : decode b_M_count 112 = .ok (.invokevirtual 151, 3) := by decide +kernel
theorem d_M_count_115 : decode b_M_count 115 = .ok (.ireturn, 1) := by decide +kernel
theorem d_M_count_116 : decode b_M_count 116 = .ok (.aload_n 0, 1) := by decide +kernel
theorem d_M_count_117 : decode b_M_count 117 = .ok (.getfield 7, 3) := by decide +kernel
theorem d_M_count_120 : decode b_M_count 120 = .ok (.iconst 4, 1) := by decide +kernel
theorem d_M_count_121 : decode b_M_count 121 = .ok (.iaload, 1) := by decide +kernel
theorem d_M_count_122 : decode b_M_count 122 = .ok (.ireturn, 1) := by decide +kernel
theorem d_M_count_123 : decode b_M_count 123 = .ok (.aload_n 0, 1) := by decide +kernel
theorem d_M_count_124 : decode b_M_count 124 = .ok (.getfield 134, 3) := by decide +kernel
theorem d_M_count_127 : decode b_M_count 127 = .ok (.ireturn, 1) := by decide +kernel
theorem d_M_count_128 : decode b_M_count 128 = .ok (.aload_n 0, 1) := by decide +kernel
theorem d_M_count_129 : decode b_M_count 129 = .ok (.getfield 73, 3) := by decide +kernel
theorem d_M_count_132 : decode b_M_count 132 = .ok (.ireturn, 1) := by decide +kernel
theorem d_M_count_133 : decode b_M_count 133 = .ok (.aload_n 0, 1) := by decide +kernel
theorem d_M_count_134 : decode b_M_count 134 = .ok (.getfield 7, 3) := by decide +kernel
theorem d_M_count_137 : decode b_M_count 137 = .ok (.iconst 5, 1) := by decide +kernel
theorem d_M_count_138 : decode b_M_count 138 = .ok (.iaload, 1) := by decide +kernel
theorem d_M_count_139 : decode b_M_count 139 = .ok (.ireturn, 1) := by decide +kernel
theorem d_M_count_140 : decode b_M_count 140 = .ok (.aload_n 0, 1) := by decide +kernel
theorem d_M_count_141 : decode b_M_count 141 = .ok (.getfield 7, 3) := by decide +kernel
theorem d_M_count_144 : decode b_M_count 144 = .ok (.iconst 1, 1) := by decide +kernel
theorem d_M_count_145 : decode b_M_count 145 = .ok (.iaload, 1) := by decide +kernel
theorem d_M_count_146 : decode b_M_count 146 = .ok (.ireturn, 1) := by decide +kernel
theorem d_M_count_147 : decode b_M_count 147 = .ok (.ldc 55, 2) := by decide +kernel
theorem d_M_count_149 : decode b_M_count 149 = .ok (.ireturn, 1) := by decide +kernel
theorem d_M_days_0 : decode b_M_days 0 = .ok (.aload_n 0, 1) := by decide +kernel
theorem d_M_days_1 : decode b_M_days 1 = .ok (.getfield 130, 3) := by decide +kernel
theorem d_M_days_4 : decode b_M_days 4 = .ok (.ifCond .ne 6, 3) := by decide +kernel
theorem d_M_days_7 : decode b_M_days 7 = .ok (.ldc 137, 2) := by decide +kernel
theorem d_M_days_9 : decode b_M_days 9 = .ok (.ireturn, 1) := by decide +kernel
theorem d_M_days_10 : decode b_M_days 10 = .ok (.iload_n 1, 1) := by decide +kernel
theorem d_M_days_11 : decode b_M_days 11 = .ok (.i2l, 1) := by decide +kernel
theorem d_M_days_12 : decode b_M_days 12 = .ok (.lconst 1, 1) := by decide +kernel
theorem d_M_days_13 : decode b_M_days 13 = .ok (.ldc2_w 170, 3) := by decide +kernel
theorem d_M_days_16 : decode b_M_days 16 = .ok (.invokestatic 45, 3) := by decide +kernel
theorem d_M_days_19 : decode b_M_days 19 = .ok (.ifCond .ne 6, 3) := by decide +kernel
theorem d_M_days_22 : decode b_M_days 22 = .ok (.ldc 55, 2) := by decide +kernel
theorem d_M_days_24 : decode b_M_days 24 = .ok (.ireturn, 1) := by decide +kernel
theorem d_M_days_25 : decode b_M_days 25 = .ok (.aload_n 0, 1) := by decide +kernel
theorem d_M_days_26 : decode b_M_days 26 = .ok (.getfield 7, 3) := by decide +kernel
theorem d_M_days_29 : decode b_M_days 29 = .ok (.iconst 2, 1) := by decide +kernel
theorem d_M_days_30 : decode b_M_days 30 = .ok (.iaload, 1) := by decide +kernel
theorem d_M_days_31 : decode b_M_days 31 = .ok (.iload_n 1, 1) := by decide +kernel
theorem d_M_days_32 : decode b_M_days 32 = .ok (.iadd, 1) := by decide +kernel
theorem d_M_days_33 : decode b_M_days 33 = .ok (.sipush 999, 3) := by decide +kernel
theorem d_M_days_36 : decode b_M_days 36 = .ok (.if_icmp .le 6, 3) := by decide +kernel
theorem d_M_days_39 : decode b_M_days 39 = .ok (.ldc 76, 2) := by decide +kernel
theorem d_M_days_41 : decode b_M_days 41 = .ok (.ireturn, 1) := by decide +kernel
theorem d_M_days_42 : decode b_M_days 42 = .ok (.iconst 0, 1) := by decide +kernel
theorem d_M_days_43 : decode b_M_days 43 = .ok (.istore_n 2, 1) := by decide +kernel
theorem d_M_days_44 : decode b_M_days 44 = .ok (.iload_n 2, 1) := by decide +kernel
theorem d_M_days_45 : decode b_M_days 45 = .ok (.iload_n 1, 1) := by decide +kernel
theorem d_M_days_46 : decode b_M_days 46 = .ok (.if_icmp .ge 19, 3) := by decide +kernel
theorem d_M_days_49 : decode b_M_days 49 = .ok (.aload_n 0, 1) := by decide +kernel
theorem d_M_days_50 : decode b_M_days 50 = .ok (.invokevirtual 172, 3) := by decide +kernel
theorem d_M_days_53 : decode b_M_days 53 = .ok (.aload_n 0, 1) := by decide +kernel
theorem d_M_days_54 : decode b_M_days 54 = .ok (.iconst 0, 1) := by decide +kernel
theorem d_M_days_55 : decode b_M_days 55 = .ok (.invokevirtual 167, 3) := by decide +kernel
theorem d_M_days_58 : decode b_M_days 58 = .ok (.pop, 1) := by decide +kernel
theorem d_M_days_59 : decode b_M_days 59 = .ok (.iinc 2 1, 3) := by decide +kernel
theorem d_M_days_62 : decode b_M_days 62 = .ok (.goto (-18), 3) := by decide +kernel
theorem d_M_days_65 : decode b_M_days 65 = .ok (.aload_n 0, 1) := by decide +kernel
theorem d_M_days_66 : decode b_M_days 66 = .ok (.getfield 7, 3) := by decide +kernel
theorem d_M_days_69 : decode b_M_days 69 = .ok (.iconst 3, 1) := by decide +kernel
theorem d_M_days_70 : decode b_M_days 70 = .ok (.iaload, 1) := by decide +kernel
theorem d_M_days_71 : decode b_M_days 71 = .ok (.ireturn, 1) := by decide +kernel
theorem d_M_drawn_0 : decode b_M_drawn 0 = .ok (.aload_n 0, 1) := by decide +kernel
theorem d_M_drawn_1 : decode b_M_drawn 1 = .ok (.getfield 130, 3) := by decide +kernel
theorem d_M_drawn_4 : decode b_M_drawn 4 = .ok (.ifCond .ne 6, 3) := by decide +kernel
theorem d_M_drawn_7 : decode b_M_drawn 7 = .ok (.ldc 137, 2) := by decide +kernel
theorem d_M_drawn_9 : decode b_M_drawn 9 = .ok (.ireturn, 1) := by decide +kernel
theorem d_M_drawn_10 : decode b_M_drawn 10 = .ok (.iload_n 1, 1) := by decide +kernel
theorem d_M_drawn_11 : decode b_M_drawn 11 = .ok (.i2l, 1) := by decide +kernel
theorem d_M_drawn_12 : decode b_M_drawn 12 = .ok (.lconst 0, 1) := by decide +kernel
theorem d_M_drawn_13 : decode b_M_drawn 13 = .ok (.ldc2_w 186, 3) := by decide +kernel
theorem d_M_drawn_16 : decode b_M_drawn 16 = .ok (.invokestatic 45, 3) := by decide +kernel
theorem d_M_drawn_19 : decode b_M_drawn 19 = .ok (.ifCond .eq 25, 3) := by decide +kernel
theorem d_M_drawn_22 : decode b_M_drawn 22 = .ok (.iload_n 2, 1) := by decide +kernel
theorem d_M_drawn_23 : decode b_M_drawn 23 = .ok (.i2l, 1) := by decide +kernel
theorem d_M_drawn_24 : decode b_M_drawn 24 = .ok (.lconst 1, 1) := by decide +kernel
theorem d_M_drawn_25 : decode b_M_drawn 25 = .ok (.ldc2_w 236, 3) := by decide +kernel
theorem d_M_drawn_28 : decode b_M_drawn 28 = .ok (.invokestatic 45, 3) := by decide +kernel
theorem d_M_drawn_31 : decode b_M_drawn 31 = .ok (.ifCond .eq 13, 3) := by decide +kernel
theorem d_M_drawn_34 : decode b_M_drawn 34 = .ok (.iload_n 3, 1) := by decide +kernel
theorem d_M_drawn_35 : decode b_M_drawn 35 = .ok (.i2l, 1) := by decide +kernel
theorem d_M_drawn_36 : decode b_M_drawn 36 = .ok (.lconst 0, 1) := by decide +kernel
theorem d_M_drawn_37 : decode b_M_drawn 37 = .ok (.lconst 1, 1) := by decide +kernel
theorem d_M_drawn_38 : decode b_M_drawn 38 = .ok (.invokestatic 45, 3) := by decide +kernel
theorem d_M_drawn_41 : decode b_M_drawn 41 = .ok (.ifCond .ne 6, 3) := by decide +kernel
theorem d_M_drawn_44 : decode b_M_drawn 44 = .ok (.ldc 55, 2) := by decide +kernel
theorem d_M_drawn_46 : decode b_M_drawn 46 = .ok (.ireturn, 1) := by decide +kernel
theorem d_M_drawn_47 : decode b_M_drawn 47 = .ok (.aload_n 0, 1) := by decide +kernel
theorem d_M_drawn_48 : decode b_M_drawn 48 = .ok (.invokevirtual 188, 3) := by decide +kernel
theorem d_M_drawn_51 : decode b_M_drawn 51 = .ok (.iload_n 2, 1) := by decide +kernel
theorem d_M_drawn_52 : decode b_M_drawn 52 = .ok (.i2l, 1) := by decide +kernel
theorem d_M_drawn_53 : decode b_M_drawn 53 = .ok (.lstore 4, 2) := by decide +kernel
theorem d_M_drawn_55 : decode b_M_drawn 55 = .ok (.iconst 0, 1) := by decide +kernel
theorem d_M_drawn_56 : decode b_M_drawn 56 = .ok (.istore 6, 2) := by decide +kernel
theorem d_M_drawn_58 : decode b_M_drawn 58 = .ok (.iload 6, 2) := by decide +kernel
theorem d_M_drawn_60 : decode b_M_drawn 60 = .ok (.iload_n 1, 1) := by decide +kernel
theorem d_M_drawn_61 : decode b_M_drawn 61 = .ok (.if_icmp .ge 132, 3) := by decide +kernel
theorem d_M_drawn_64 : decode b_M_drawn 64 = .ok (.lload 4, 2) := by decide +kernel
theorem d_M_drawn_66 : decode b_M_drawn 66 = .ok (.ldc2_w 238, 3) := by decide +kernel
theorem d_M_drawn_69 : decode b_M_drawn 69 = .ok (.lmul, 1) := by decide +kernel
theorem d_M_drawn_70 : decode b_M_drawn 70 = .ok (.ldc2_w 240, 3) := by decide +kernel
theorem d_M_drawn_73 : decode b_M_drawn 73 = .ok (.lrem, 1) := by decide +kernel
theorem d_M_drawn_74 : decode b_M_drawn 74 = .ok (.lstore 4, 2) := by decide +kernel
theorem d_M_drawn_76 : decode b_M_drawn 76 = .ok (.aload_n 0, 1) := by decide +kernel
theorem d_M_drawn_77 : decode b_M_drawn 77 = .ok (.getfield 7, 3) := by decide +kernel
theorem d_M_drawn_80 : decode b_M_drawn 80 = .ok (.iconst 0, 1) := by decide +kernel
theorem d_M_drawn_81 : decode b_M_drawn 81 = .ok (.iaload, 1) := by decide +kernel
theorem d_M_drawn_82 : decode b_M_drawn 82 = .ok (.ifCond .ne 7, 3) := by decide +kernel
theorem d_M_drawn_85 : decode b_M_drawn 85 = .ok (.iconst 0, 1) := by decide +kernel
theorem d_M_drawn_86 : decode b_M_drawn 86 = .ok (.goto 14, 3) := by decide +kernel
theorem d_M_drawn_89 : decode b_M_drawn 89 = .ok (.lload 4, 2) := by decide +kernel
theorem d_M_drawn_91 : decode b_M_drawn 91 = .ok (.aload_n 0, 1) := by decide +kernel
theorem d_M_drawn_92 : decode b_M_drawn 92 = .ok (.getfield 7, 3) := by decide +kernel
theorem d_M_drawn_95 : decode b_M_drawn 95 = .ok (.iconst 0, 1) := by decide +kernel
theorem d_M_drawn_96 : decode b_M_drawn 96 = .ok (.iaload, 1) := by decide +kernel
theorem d_M_drawn_97 : decode b_M_drawn 97 = .ok (.i2l, 1) := by decide +kernel
theorem d_M_drawn_98 : decode b_M_drawn 98 = .ok (.lrem, 1) := by decide +kernel
theorem d_M_drawn_99 : decode b_M_drawn 99 = .ok (.l2i, 1) := by decide +kernel
theorem d_M_drawn_100 : decode b_M_drawn 100 = .ok (.istore 7, 2) := by decide +kernel
theorem d_M_drawn_102 : decode b_M_drawn 102 = .ok (.aload_n 0, 1) := by decide +kernel
theorem d_M_drawn_103 : decode b_M_drawn 103 = .ok (.getfield 7, 3) := by decide +kernel
theorem d_M_drawn_106 : decode b_M_drawn 106 = .ok (.sipush 975, 3) := by decide +kernel
theorem d_M_drawn_109 : decode b_M_drawn 109 = .ok (.iaload, 1) := by decide +kernel
theorem d_M_drawn_110 : decode b_M_drawn 110 = .ok (.iload 7, 2) := by decide +kernel
theorem d_M_drawn_112 : decode b_M_drawn 112 = .ok (.invokestatic 138, 3) := by decide +kernel
theorem d_M_drawn_115 : decode b_M_drawn 115 = .ok (.istore 8, 2) := by decide +kernel
theorem d_M_drawn_117 : decode b_M_drawn 117 = .ok (.lload 4, 2) := by decide +kernel
theorem d_M_drawn_119 : decode b_M_drawn 119 = .ok (.ldc2_w 242, 3) := by decide +kernel
theorem d_M_drawn_122 : decode b_M_drawn 122 = .ok (.lrem, 1) := by decide +kernel
theorem d_M_drawn_123 : decode b_M_drawn 123 = .ok (.lconst 0, 1) := by decide +kernel
theorem d_M_drawn_124 : decode b_M_drawn 124 = .ok (.lcmp, 1) := by decide +kernel
theorem d_M_drawn_125 : decode b_M_drawn 125 = .ok (.ifCond .ne 20, 3) := by decide +kernel
theorem d_M_drawn_128 : decode b_M_drawn 128 = .ok (.iload 8, 2) := by decide +kernel
theorem d_M_drawn_130 : decode b_M_drawn 130 = .ok (.ifCond .eq 15, 3) := by decide +kernel
theorem d_M_drawn_133 : decode b_M_drawn 133 = .ok (.aload_n 0, 1) := by decide +kernel
theorem d_M_drawn_134 : decode b_M_drawn 134 = .ok (.sipush 972, 3) := by decide +kernel
theorem d_M_drawn_137 : decode b_M_drawn 137 = .ok (.iload 7, 2) := by decide +kernel
theorem d_M_drawn_139 : decode b_M_drawn 139 = .ok (.invokevirtual 178, 3) := by decide +kernel
theorem d_M_drawn_142 : decode b_M_drawn 142 = .ok (.goto 37, 3) := by decide +kernel
theorem d_M_drawn_145 : decode b_M_drawn 145 = .ok (.lload 4, 2) := by decide +kernel
theorem d_M_drawn_147 : decode b_M_drawn 147 = .ok (.ldc2_w 242, 3) := by decide +kernel
theorem d_M_drawn_150 : decode b_M_drawn 150 = .ok (.lrem, 1) := by decide +kernel
theorem d_M_drawn_151 : decode b_M_drawn 151 = .ok (.lconst 1, 1) := by decide +kernel
theorem d_M_drawn_152 : decode b_M_drawn 152 = .ok (.lcmp, 1) := by decide +kernel
theorem d_M_drawn_153 : decode b_M_drawn 153 = .ok (.ifCond .ne 26, 3) := by decide +kernel
theorem d_M_drawn_156 : decode b_M_drawn 156 = .ok (.iload 8, 2) := by decide +kernel
theorem d_M_drawn_158 : decode b_M_drawn 158 = .ok (.ifCond .ne 21, 3) := by decide +kernel
theorem d_M_drawn_161 : decode b_M_drawn 161 = .ok (.aload_n 0, 1) := by decide +kernel
theorem d_M_drawn_162 : decode b_M_drawn 162 = .ok (.getfield 7, 3) := by decide +kernel
theorem d_M_drawn_165 : decode b_M_drawn 165 = .ok (.iconst 0, 1) := by decide +kernel
theorem d_M_drawn_166 : decode b_M_drawn 166 = .ok (.iaload, 1) := by decide +kernel
theorem d_M_drawn_167 : decode b_M_drawn 167 = .ok (.ifCond .le 12, 3) := by decide +kernel
theorem d_M_drawn_170 : decode b_M_drawn 170 = .ok (.aload_n 0, 1) := by decide +kernel
theorem d_M_drawn_171 : decode b_M_drawn 171 = .ok (.sipush 972, 3) := by decide +kernel
theorem d_M_drawn_174 : decode b_M_drawn 174 = .ok (.iload 7, 2) := by decide +kernel
theorem d_M_drawn_176 : decode b_M_drawn 176 = .ok (.invokevirtual 181, 3) := by decide +kernel
theorem d_M_drawn_179 : decode b_M_drawn 179 = .ok (.aload_n 0, 1) := by decide +kernel
theorem d_M_drawn_180 : decode b_M_drawn 180 = .ok (.sipush 972, 3) := by decide +kernel
theorem d_M_drawn_183 : decode b_M_drawn 183 = .ok (.invokevirtual 167, 3) := by decide +kernel
theorem d_M_drawn_186 : decode b_M_drawn 186 = .ok (.pop, 1) := by decide +kernel
theorem d_M_drawn_187 : decode b_M_drawn 187 = .ok (.iinc 6 1, 3) := by decide +kernel
theorem d_M_drawn_190 : decode b_M_drawn 190 = .ok (.goto (-132), 3) := by decide +kernel
theorem d_M_drawn_193 : decode b_M_drawn 193 = .ok (.aload_n 0, 1) := by decide +kernel
theorem d_M_drawn_194 : decode b_M_drawn 194 = .ok (.getfield 7, 3) := by decide +kernel
theorem d_M_drawn_197 : decode b_M_drawn 197 = .ok (.sipush 972, 3) := by decide +kernel
theorem d_M_drawn_200 : decode b_M_drawn 200 = .ok (.iload_n 3, 1) := by decide +kernel
theorem d_M_drawn_201 : decode b_M_drawn 201 = .ok (.ifCond .ne 7, 3) := by decide +kernel
theorem d_M_drawn_204 : decode b_M_drawn 204 = .ok (.iconst 4, 1) := by decide +kernel
theorem d_M_drawn_205 : decode b_M_drawn 205 = .ok (.goto 4, 3) := by decide +kernel
theorem d_M_drawn_208 : decode b_M_drawn 208 = .ok (.iconst 5, 1) := by decide +kernel
theorem d_M_drawn_209 : decode b_M_drawn 209 = .ok (.iadd, 1) := by decide +kernel
theorem d_M_drawn_210 : decode b_M_drawn 210 = .ok (.iaload, 1) := by decide +kernel
theorem d_M_drawn_211 : decode b_M_drawn 211 = .ok (.ireturn, 1) := by decide +kernel
theorem d_M_dread_0 : decode b_M_dread 0 = .ok (.aload_n 0, 1) := by decide +kernel
theorem d_M_dread_1 : decode b_M_dread 1 = .ok (.iload_n 1, 1) := by decide +kernel
theorem d_M_dread_2 : decode b_M_dread 2 = .ok (.invokevirtual 175, 3) := by decide +kernel
theorem d_M_dread_5 : decode b_M_dread 5 = .ok (.ifCond .eq 15, 3) := by decide +kernel
theorem d_M_dread_8 : decode b_M_dread 8 = .ok (.iload_n 2, 1) := by decide +kernel
theorem d_M_dread_9 : decode b_M_dread 9 = .ok (.i2l, 1) := by decide +kernel
theorem d_M_dread_10 : decode b_M_dread 10 = .ok (.lconst 0, 1) := by decide +kernel
theorem d_M_dread_11 : decode b_M_dread 11 = .ok (.ldc2_w 184, 3) := by decide +kernel
theorem d_M_dread_14 : decode b_M_dread 14 = .ok (.invokestatic 45, 3) := by decide +kernel
theorem d_M_dread_17 : decode b_M_dread 17 = .ok (.ifCond .ne 6, 3) := by decide +kernel
theorem d_M_dread_20 : decode b_M_dread 20 = .ok (.ldc 55, 2) := by decide +kernel
theorem d_M_dread_22 : decode b_M_dread 22 = .ok (.ireturn, 1) := by decide +kernel
theorem d_M_dread_23 : decode b_M_dread 23 = .ok (.aload_n 0, 1) := by decide +kernel
theorem d_M_dread_24 : decode b_M_dread 24 = .ok (.invokevirtual 172, 3) := by decide +kernel
theorem d_M_dread_27 : decode b_M_dread 27 = .ok (.aload_n 0, 1) := by decide +kernel
theorem d_M_dread_28 : decode b_M_dread 28 = .ok (.getfield 7, 3) := by decide +kernel
theorem d_M_dread_31 : decode b_M_dread 31 = .ok (.bipush 12, 2) := by decide +kernel
theorem d_M_dread_33 : decode b_M_dread 33 = .ok (.iload_n 1, 1) := by decide +kernel
theorem d_M_dread_34 : decode b_M_dread 34 = .ok (.iadd, 1) := by decide +kernel
theorem d_M_dread_35 : decode b_M_dread 35 = .ok (.iaload, 1) := by decide +kernel
theorem d_M_dread_36 : decode b_M_dread 36 = .ok (.istore_n 3, 1) := by decide +kernel
theorem d_M_dread_37 : decode b_M_dread 37 = .ok (.aload_n 0, 1) := by decide +kernel
theorem d_M_dread_38 : decode b_M_dread 38 = .ok (.getfield 7, 3) := by decide +kernel
theorem d_M_dread_41 : decode b_M_dread 41 = .ok (.bipush 12, 2) := by decide +kernel
theorem d_M_dread_43 : decode b_M_dread 43 = .ok (.iload_n 1, 1) := by decide +kernel
theorem d_M_dread_44 : decode b_M_dread 44 = .ok (.iadd, 1) := by decide +kernel
theorem d_M_dread_45 : decode b_M_dread 45 = .ok (.iload_n 2, 1) := by decide +kernel
theorem d_M_dread_46 : decode b_M_dread 46 = .ok (.iastore, 1) := by decide +kernel
theorem d_M_dread_47 : decode b_M_dread 47 = .ok (.iload_n 3, 1) := by decide +kernel
theorem d_M_dread_48 : decode b_M_dread 48 = .ok (.ireturn, 1) := by decide +kernel
theorem d_M_drop_0 : decode b_M_drop 0 = .ok (.iload_n 1, 1) := by decide +kernel
theorem d_M_drop_1 : decode b_M_drop 1 = .ok (.invokestatic 49, 3) := by decide +kernel
theorem d_M_drop_4 : decode b_M_drop 4 = .ok (.ifCond .ne 6, 3) := by decide +kernel
theorem d_M_drop_7 : decode b_M_drop 7 = .ok (.ldc 55, 2) := by decide +kernel
theorem d_M_drop_9 : decode b_M_drop 9 = .ok (.ireturn, 1) := by decide +kernel
theorem d_M_drop_10 : decode b_M_drop 10 = .ok (.aload_n 0, 1) := by decide +kernel
theorem d_M_drop_11 : decode b_M_drop 11 = .ok (.getfield 20, 3) := by decide +kernel
theorem d_M_drop_14 : decode b_M_drop 14 = .ok (.iload_n 1, 1) := by decide +kernel
theorem d_M_drop_15 : decode b_M_drop 15 = .ok (.iaload, 1) := by decide +kernel
theorem d_M_drop_16 : decode b_M_drop 16 = .ok (.ifCond .ge 9, 3) := by decide +kernel
theorem d_M_drop_19 : decode b_M_drop 19 = .ok (.aload_n 0, 1) := by decide +kernel
theorem d_M_drop_20 : decode b_M_drop 20 = .ok (.iconst 1, 1) := by decide +kernel
theorem d_M_drop_21 : decode b_M_drop 21 = .ok (.invokevirtual 56, 3) := by decide +kernel
theorem d_M_drop_24 : decode b_M_drop 24 = .ok (.ireturn, 1) := by decide +kernel
theorem d_M_drop_25 : decode b_M_drop 25 = .ok (.aload_n 0, 1) := by decide +kernel
theorem d_M_drop_26 : decode b_M_drop 26 = .ok (.getfield 20, 3) := by decide +kernel
theorem d_M_drop_29 : decode b_M_drop 29 = .ok (.iload_n 1, 1) := by decide +kernel
theorem d_M_drop_30 : decode b_M_drop 30 = .ok (.iaload, 1) := by decide +kernel
theorem d_M_drop_31 : decode b_M_drop 31 = .ok (.istore_n 2, 1) := by decide +kernel
theorem d_M_drop_32 : decode b_M_drop 32 = .ok (.aload_n 0, 1) := by decide +kernel
theorem d_M_drop_33 : decode b_M_drop 33 = .ok (.getfield 20, 3) := by decide +kernel
theorem d_M_drop_36 : decode b_M_drop 36 = .ok (.iload_n 1, 1) := by decide +kernel
theorem d_M_drop_37 : decode b_M_drop 37 = .ok (.iconst (-1), 1) := by decide +kernel
theorem d_M_drop_38 : decode b_M_drop 38 = .ok (.iastore, 1) := by decide +kernel
theorem d_M_drop_39 : decode b_M_drop 39 = .ok (.aload_n 0, 1) := by decide +kernel
theorem d_M_drop_40 : decode b_M_drop 40 = .ok (.iload_n 2, 1) := by decide +kernel
theorem d_M_drop_41 : decode b_M_drop 41 = .ok (.invokevirtual 60, 3) := by decide +kernel
theorem d_M_drop_44 : decode b_M_drop 44 = .ok (.ireturn, 1) := by decide +kernel
theorem d_M_ease_0 : decode b_M_ease 0 = .ok (.aload_n 0, 1) := by decide +kernel
theorem d_M_ease_1 : decode b_M_ease 1 = .ok (.getfield 130, 3) := by decide +kernel
theorem d_M_ease_4 : decode b_M_ease 4 = .ok (.ifCond .ne 6, 3) := by decide +kernel
theorem d_M_ease_7 : decode b_M_ease 7 = .ok (.ldc 137, 2) := by decide +kernel
theorem d_M_ease_9 : decode b_M_ease 9 = .ok (.ireturn, 1) := by decide +kernel
theorem d_M_ease_10 : decode b_M_ease 10 = .ok (.iload_n 1, 1) := by decide +kernel
theorem d_M_ease_11 : decode b_M_ease 11 = .ok (.i2l, 1) := by decide +kernel
theorem d_M_ease_12 : decode b_M_ease 12 = .ok (.lconst 1, 1) := by decide +kernel
theorem d_M_ease_13 : decode b_M_ease 13 = .ok (.ldc2_w 186, 3) := by decide +kernel
theorem d_M_ease_16 : decode b_M_ease 16 = .ok (.invokestatic 45, 3) := by decide +kernel
theorem d_M_ease_19 : decode b_M_ease 19 = .ok (.ifCond .eq 25, 3) := by decide +kernel
theorem d_M_ease_22 : decode b_M_ease 22 = .ok (.iload_n 2, 1) := by decide +kernel
theorem d_M_ease_23 : decode b_M_ease 23 = .ok (.i2l, 1) := by decide +kernel
theorem d_M_ease_24 : decode b_M_ease 24 = .ok (.lconst 0, 1) := by decide +kernel
theorem d_M_ease_25 : decode b_M_ease 25 = .ok (.ldc2_w 223, 3) := by decide +kernel
theorem d_M_ease_28 : decode b_M_ease 28 = .ok (.invokestatic 45, 3) := by decide +kernel
theorem d_M_ease_31 : decode b_M_ease 31 = .ok (.ifCond .eq 13, 3) := by decide +kernel
theorem d_M_ease_34 : decode b_M_ease 34 = .ok (.iload_n 3, 1) := by decide +kernel
theorem d_M_ease_35 : decode b_M_ease 35 = .ok (.i2l, 1) := by decide +kernel
theorem d_M_ease_36 : decode b_M_ease 36 = .ok (.lconst 0, 1) := by decide +kernel
theorem d_M_ease_37 : decode b_M_ease 37 = .ok (.lconst 1, 1) := by decide +kernel
theorem d_M_ease_38 : decode b_M_ease 38 = .ok (.invokestatic 45, 3) := by decide +kernel
theorem d_M_ease_41 : decode b_M_ease 41 = .ok (.ifCond .ne 6, 3) := by decide +kernel
theorem d_M_ease_44 : decode b_M_ease 44 = .ok (.ldc 55, 2) := by decide +kernel
theorem d_M_ease_46 : decode b_M_ease 46 = .ok (.ireturn, 1) := by decide +kernel
theorem d_M_ease_47 : decode b_M_ease 47 = .ok (.aload_n 0, 1) := by decide +kernel
theorem d_M_ease_48 : decode b_M_ease 48 = .ok (.iload_n 1, 1) := by decide +kernel
theorem d_M_ease_49 : decode b_M_ease 49 = .ok (.iload_n 2, 1) := by decide +kernel
theorem d_M_ease_50 : decode b_M_ease 50 = .ok (.invokevirtual 220, 3) := by decide +kernel
theorem d_M_ease_53 : decode b_M_ease 53 = .ok (.istore 4, 2) := by decide +kernel
theorem d_M_ease_55 : decode b_M_ease 55 = .ok (.iload_n 3, 1) := by decide +kernel
theorem d_M_ease_56 : decode b_M_ease 56 = .ok (.ifCond .ne 11, 3) := by decide +kernel
theorem d_M_ease_59 : decode b_M_ease 59 = .ok (.iload 4, 2) := by decide +kernel
theorem d_M_ease_61 : decode b_M_ease 61 = .ok (.invokestatic 141, 3) := by decide +kernel
theorem d_M_ease_64 : decode b_M_ease 64 = .ok (.goto 5, 3) := by decide +kernel
theorem d_M_ease_67 : decode b_M_ease 67 = .ok (.iload 4, 2) := by decide +kernel
theorem d_M_ease_69 : decode b_M_ease 69 = .ok (.ireturn, 1) := by decide +kernel
theorem d_M_eases_0 : decode b_M_eases 0 = .ok (.aload_n 0, 1) := by decide +kernel
theorem d_M_eases_1 : decode b_M_eases 1 = .ok (.iload_n 1, 1) := by decide +kernel
theorem d_M_eases_2 : decode b_M_eases 2 = .ok (.invokevirtual 210, 3) := by decide +kernel
theorem d_M_eases_5 : decode b_M_eases 5 = .ok (.aload_n 0, 1) := by decide +kernel
theorem d_M_eases_6 : decode b_M_eases 6 = .ok (.sipush 972, 3) := by decide +kernel
theorem d_M_eases_9 : decode b_M_eases 9 = .ok (.invokevirtual 157, 3) := by decide +kernel
theorem d_M_eases_12 : decode b_M_eases 12 = .ok (.iload_n 3, 1) := by decide +kernel
theorem d_M_eases_13 : decode b_M_eases 13 = .ok (.if_icmp .gt 7, 3) := by decide +kernel
theorem d_M_eases_16 : decode b_M_eases 16 = .ok (.iconst 1, 1) := by decide +kernel
theorem d_M_eases_17 : decode b_M_eases 17 = .ok (.goto 4, 3) := by decide +kernel
theorem d_M_eases_20 : decode b_M_eases 20 = .ok (.iconst 0, 1) := by decide +kernel
theorem d_M_eases_21 : decode b_M_eases 21 = .ok (.istore 4, 2) := by decide +kernel
theorem d_M_eases_23 : decode b_M_eases 23 = .ok (.iconst 1, 1) := by decide +kernel
theorem d_M_eases_24 : decode b_M_eases 24 = .ok (.istore 5, 2) := by decide +kernel
theorem d_M_eases_26 : decode b_M_eases 26 = .ok (.iload 5, 2) := by decide +kernel
theorem d_M_eases_28 : decode b_M_eases 28 = .ok (.iload_n 2, 1) := by decide +kernel
theorem d_M_eases_29 : decode b_M_eases 29 = .ok (.if_icmp .ge 40, 3) := by decide +kernel
theorem d_M_eases_32 : decode b_M_eases 32 = .ok (.iload 4, 2) := by decide +kernel
theorem d_M_eases_34 : decode b_M_eases 34 = .ok (.ifCond .eq 35, 3) := by decide +kernel
theorem d_M_eases_37 : decode b_M_eases 37 = .ok (.aload_n 0, 1) := by decide +kernel
theorem d_M_eases_38 : decode b_M_eases 38 = .ok (.sipush 972, 3) := by decide +kernel
theorem d_M_eases_41 : decode b_M_eases 41 = .ok (.invokevirtual 167, 3) := by decide +kernel
theorem d_M_eases_44 : decode b_M_eases 44 = .ok (.pop, 1) := by decide +kernel
theorem d_M_eases_45 : decode b_M_eases 45 = .ok (.aload_n 0, 1) := by decide +kernel
theorem d_M_eases_46 : decode b_M_eases 46 = .ok (.sipush 972, 3) := by decide +kernel
theorem d_M_eases_49 : decode b_M_eases 49 = .ok (.invokevirtual 157, 3) := by decide +kernel
theorem d_M_eases_52 : decode b_M_eases 52 = .ok (.iload_n 3, 1) := by decide +kernel
theorem d_M_eases_53 : decode b_M_eases 53 = .ok (.if_icmp .gt 7, 3) := by decide +kernel
theorem d_M_eases_56 : decode b_M_eases 56 = .ok (.iconst 1, 1) := by decide +kernel
theorem d_M_eases_57 : decode b_M_eases 57 = .ok (.goto 4, 3) := by decide +kernel
theorem d_M_eases_60 : decode b_M_eases 60 = .ok (.iconst 0, 1) := by decide +kernel
theorem d_M_eases_61 : decode b_M_eases 61 = .ok (.istore 4, 2) := by decide +kernel
theorem d_M_eases_63 : decode b_M_eases 63 = .ok (.iinc 5 1, 3) := by decide +kernel
theorem d_M_eases_66 : decode b_M_eases 66 = .ok (.goto (-40), 3) := by decide +kernel
theorem d_M_eases_69 : decode b_M_eases 69 = .ok (.iload 4, 2) := by decide +kernel
theorem d_M_eases_71 : decode b_M_eases 71 = .ok (.ireturn, 1) := by decide +kernel
theorem d_M_falls_0 : decode b_M_falls 0 = .ok (.aload_n 0, 1) := by decide +kernel
theorem d_M_falls_1 : decode b_M_falls 1 = .ok (.getfield 130, 3) := by decide +kernel
theorem d_M_falls_4 : decode b_M_falls 4 = .ok (.ifCond .ne 6, 3) := by decide +kernel
theorem d_M_falls_7 : decode b_M_falls 7 = .ok (.ldc 137, 2) := by decide +kernel
theorem d_M_falls_9 : decode b_M_falls 9 = .ok (.ireturn, 1) := by decide +kernel
theorem d_M_falls_10 : decode b_M_falls 10 = .ok (.iload_n 1, 1) := by decide +kernel
theorem d_M_falls_11 : decode b_M_falls 11 = .ok (.i2l, 1) := by decide +kernel
theorem d_M_falls_12 : decode b_M_falls 12 = .ok (.lconst 0, 1) := by decide +kernel
theorem d_M_falls_13 : decode b_M_falls 13 = .ok (.lconst 1, 1) := by decide +kernel
theorem d_M_falls_14 : decode b_M_falls 14 = .ok (.invokestatic 45, 3) := by decide +kernel
theorem d_M_falls_17 : decode b_M_falls 17 = .ok (.ifCond .ne 6, 3) := by decide +kernel
theorem d_M_falls_20 : decode b_M_falls 20 = .ok (.ldc 55, 2) := by decide +kernel
theorem d_M_falls_22 : decode b_M_falls 22 = .ok (.ireturn, 1) := by decide +kernel
theorem d_M_falls_23 : decode b_M_falls 23 = .ok (.aload_n 0, 1) := by decide +kernel
theorem d_M_falls_24 : decode b_M_falls 24 = .ok (.invokevirtual 188, 3) := by decide +kernel
theorem d_M_falls_27 : decode b_M_falls 27 = .ok (.iconst 1, 1) := by decide +kernel
theorem d_M_falls_28 : decode b_M_falls 28 = .ok (.istore_n 2, 1) := by decide +kernel
theorem d_M_falls_29 : decode b_M_falls 29 = .ok (.iload_n 2, 1) := by decide +kernel
theorem d_M_falls_30 : decode b_M_falls 30 = .ok (.bipush 61, 2) := by decide +kernel
theorem d_M_falls_32 : decode b_M_falls 32 = .ok (.if_icmp .ge 33, 3) := by decide +kernel
theorem d_M_falls_35 : decode b_M_falls 35 = .ok (.aload_n 0, 1) := by decide +kernel
theorem d_M_falls_36 : decode b_M_falls 36 = .ok (.sipush 972, 3) := by decide +kernel
theorem d_M_falls_39 : decode b_M_falls 39 = .ok (.invokevirtual 167, 3) := by decide +kernel
theorem d_M_falls_42 : decode b_M_falls 42 = .ok (.istore_n 3, 1) := by decide +kernel
theorem d_M_falls_43 : decode b_M_falls 43 = .ok (.iload_n 3, 1) := by decide +kernel
theorem d_M_falls_44 : decode b_M_falls 44 = .ok (.ldc 147, 2) := by decide +kernel
theorem d_M_falls_46 : decode b_M_falls 46 = .ok (.if_icmp .eq 13, 3) := by decide +kernel
theorem d_M_falls_49 : decode b_M_falls 49 = .ok (.iload_n 1, 1) := by decide +kernel
theorem d_M_falls_50 : decode b_M_falls 50 = .ok (.ifCond .ne 7, 3) := by decide +kernel
theorem d_M_falls_53 : decode b_M_falls 53 = .ok (.iload_n 2, 1) := by decide +kernel
theorem d_M_falls_54 : decode b_M_falls 54 = .ok (.goto 4, 3) := by decide +kernel
theorem d_M_falls_57 : decode b_M_falls 57 = .ok (.iload_n 3, 1) := by decide +kernel
theorem d_M_falls_58 : decode b_M_falls 58 = .ok (.ireturn, 1) := by decide +kernel
theorem d_M_falls_59 : decode b_M_falls 59 = .ok (.iinc 2 1, 3) := by decide +kernel
theorem d_M_falls_62 : decode b_M_falls 62 = .ok (.goto (-33), 3) := by decide +kernel
theorem d_M_falls_65 : decode b_M_falls 65 = .ok (.ldc 147, 2) := by decide +kernel
theorem d_M_falls_67 : decode b_M_falls 67 = .ok (.ireturn, 1) := by decide +kernel
theorem d_M_fallsAhead_0 : decode b_M_fallsAhead 0 = .ok (.aload_n 0, 1) := by decide +kernel
theorem d_M_fallsAhead_1 : decode b_M_fallsAhead 1 = .ok (.getfield 7, 3) := by decide +kernel
theorem d_M_fallsAhead_4 : decode b_M_fallsAhead 4 = .ok (.iload_n 1, 1) := by decide +kernel
theorem d_M_fallsAhead_5 : decode b_M_fallsAhead 5 = .ok (.bipush 18, 2) := by decide +kernel
theorem d_M_fallsAhead_7 : decode b_M_fallsAhead 7 = .ok (.iadd, 1) := by decide +kernel
theorem d_M_fallsAhead_8 : decode b_M_fallsAhead 8 = .ok (.iload_n 2, 1) := by decide +kernel
theorem d_M_fallsAhead_9 : decode b_M_fallsAhead 9 = .ok (.iadd, 1) := by decide +kernel
theorem d_M_fallsAhead_10 : decode b_M_fallsAhead 10 = .ok (.iaload, 1) := by decide +kernel
theorem d_M_fallsAhead_11 : decode b_M_fallsAhead 11 = .ok (.aload_n 0, 1) := by decide +kernel
theorem d_M_fallsAhead_12 : decode b_M_fallsAhead 12 = .ok (.getfield 7, 3) := by decide +kernel
theorem d_M_fallsAhead_15 : decode b_M_fallsAhead 15 = .ok (.iload_n 1, 1) := by decide +kernel
theorem d_M_fallsAhead_16 : decode b_M_fallsAhead 16 = .ok (.bipush 18, 2) := by decide +kernel
theorem d_M_fallsAhead_18 : decode b_M_fallsAhead 18 = .ok (.iadd, 1) := by decide +kernel
theorem d_M_fallsAhead_19 : decode b_M_fallsAhead 19 = .ok (.iload_n 3, 1) := by decide +kernel
theorem d_M_fallsAhead_20 : decode b_M_fallsAhead 20 = .ok (.iadd, 1) := by decide +kernel
theorem d_M_fallsAhead_21 : decode b_M_fallsAhead 21 = .ok (.iaload, 1) := by decide +kernel
theorem d_M_fallsAhead_22 : decode b_M_fallsAhead 22 = .ok (.isub, 1) := by decide +kernel
theorem d_M_fallsAhead_23 : decode b_M_fallsAhead 23 = .ok (.istore 4, 2) := by decide +kernel
theorem d_M_fallsAhead_25 : decode b_M_fallsAhead 25 = .ok (.iload 4, 2) := by decide +kernel
theorem d_M_fallsAhead_27 : decode b_M_fallsAhead 27 = .ok (.ifCond .gt 33, 3) := by decide +kernel
theorem d_M_fallsAhead_30 : decode b_M_fallsAhead 30 = .ok (.iload 4, 2) := by decide +kernel
theorem d_M_fallsAhead_32 : decode b_M_fallsAhead 32 = .ok (.ifCond .ne 32, 3) := by decide +kernel
theorem d_M_fallsAhead_35 : decode b_M_fallsAhead 35 = .ok (.aload_n 0, 1) := by decide +kernel
theorem d_M_fallsAhead_36 : decode b_M_fallsAhead 36 = .ok (.getfield 7, 3) := by decide +kernel
theorem d_M_fallsAhead_39 : decode b_M_fallsAhead 39 = .ok (.iload_n 1, 1) := by decide +kernel
theorem d_M_fallsAhead_40 : decode b_M_fallsAhead 40 = .ok (.bipush 30, 2) := by decide +kernel
theorem d_M_fallsAhead_42 : decode b_M_fallsAhead 42 = .ok (.iadd, 1) := by decide +kernel
theorem d_M_fallsAhead_43 : decode b_M_fallsAhead 43 = .ok (.iload_n 2, 1) := by decide +kernel
theorem d_M_fallsAhead_44 : decode b_M_fallsAhead 44 = .ok (.iadd, 1) := by decide +kernel
theorem d_M_fallsAhead_45 : decode b_M_fallsAhead 45 = .ok (.iaload, 1) := by decide +kernel
theorem d_M_fallsAhead_46 : decode b_M_fallsAhead 46 = .ok (.aload_n 0, 1) := by decide +kernel
theorem d_M_fallsAhead_47 : decode b_M_fallsAhead 47 = .ok (.getfield 7, 3) := by decide +kernel
theorem d_M_fallsAhead_50 : decode b_M_fallsAhead 50 = .ok (.iload_n 1, 1) := by decide +kernel
theorem d_M_fallsAhead_51 : decode b_M_fallsAhead 51 = .ok (.bipush 30, 2) := by decide +kernel
theorem d_M_fallsAhead_53 : decode b_M_fallsAhead 53 = .ok (.iadd, 1) := by decide +kernel
theorem d_M_fallsAhead_54 : decode b_M_fallsAhead 54 = .ok (.iload_n 3, 1) := by decide +kernel
theorem d_M_fallsAhead_55 : decode b_M_fallsAhead 55 = .ok (.iadd, 1) := by decide +kernel
theorem d_M_fallsAhead_56 : decode b_M_fallsAhead 56 = .ok (.iaload, 1) := by decide +kernel
theorem d_M_fallsAhead_57 : decode b_M_fallsAhead 57 = .ok (.if_icmp .le 7, 3) := by decide +kernel
theorem d_M_fallsAhead_60 : decode b_M_fallsAhead 60 = .ok (.iconst 1, 1) := by decide +kernel
theorem d_M_fallsAhead_61 : decode b_M_fallsAhead 61 = .ok (.goto 4, 3) := by decide +kernel
theorem d_M_fallsAhead_64 : decode b_M_fallsAhead 64 = .ok (.iconst 0, 1) := by decide +kernel
theorem d_M_fallsAhead_65 : decode b_M_fallsAhead 65 = .ok (.ireturn, 1) := by decide +kernel
theorem d_M_fault_0 : decode b_M_fault 0 = .ok (.aload_n 0, 1) := by decide +kernel
theorem d_M_fault_1 : decode b_M_fault 1 = .ok (.getfield 122, 3) := by decide +kernel
theorem d_M_fault_4 : decode b_M_fault 4 = .ok (.ireturn, 1) := by decide +kernel
theorem d_M_feed_0 : decode b_M_feed 0 = .ok (.iload_n 1, 1) := by decide +kernel
theorem d_M_feed_1 : decode b_M_feed 1 = .ok (.i2l, 1) := by decide +kernel
theorem d_M_feed_2 : decode b_M_feed 2 = .ok (.lconst 0, 1) := by decide +kernel
theorem d_M_feed_3 : decode b_M_feed 3 = .ok (.ldc2_w 71, 3) := by decide +kernel
theorem d_M_feed_6 : decode b_M_feed 6 = .ok (.invokestatic 45, 3) := by decide +kernel
theorem d_M_feed_9 : decode b_M_feed 9 = .ok (.ifCond .ne 6, 3) := by decide +kernel
theorem d_M_feed_12 : decode b_M_feed 12 = .ok (.ldc 55, 2) := by decide +kernel
theorem d_M_feed_14 : decode b_M_feed 14 = .ok (.ireturn, 1) := by decide +kernel
theorem d_M_feed_15 : decode b_M_feed 15 = .ok (.aload_n 0, 1) := by decide +kernel
theorem d_M_feed_16 : decode b_M_feed 16 = .ok (.getfield 73, 3) := by decide +kernel
theorem d_M_feed_19 : decode b_M_feed 19 = .ok (.bipush 100, 2) := by decide +kernel
theorem d_M_feed_21 : decode b_M_feed 21 = .ok (.if_icmp .ne 6, 3) := by decide +kernel
theorem d_M_feed_24 : decode b_M_feed 24 = .ok (.ldc 76, 2) := by decide +kernel
theorem d_M_feed_26 : decode b_M_feed 26 = .ok (.ireturn, 1) := by decide +kernel
theorem d_M_feed_27 : decode b_M_feed 27 = .ok (.aload_n 0, 1) := by decide +kernel
theorem d_M_feed_28 : decode b_M_feed 28 = .ok (.getfield 26, 3) := by decide +kernel
theorem d_M_feed_31 : decode b_M_feed 31 = .ok (.aload_n 0, 1) := by decide +kernel
theorem d_M_feed_32 : decode b_M_feed 32 = .ok (.getfield 73, 3) := by decide +kernel
theorem d_M_feed_35 : decode b_M_feed 35 = .ok (.iload_n 1, 1) := by decide +kernel
theorem d_M_feed_36 : decode b_M_feed 36 = .ok (.iastore, 1) := by decide +kernel
theorem d_M_feed_37 : decode b_M_feed 37 = .ok (.aload_n 0, 1) := by decide +kernel
theorem d_M_feed_38 : decode b_M_feed 38 = .ok (.dup, 1) := by decide +kernel
theorem d_M_feed_39 : decode b_M_feed 39 = .ok (.getfield 73, 3) := by decide +kernel
theorem d_M_feed_42 : decode b_M_feed 42 = .ok (.iconst 1, 1) := by decide +kernel
theorem d_M_feed_43 : decode b_M_feed 43 = .ok (.iadd, 1) := by decide +kernel
theorem d_M_feed_44 : decode b_M_feed 44 = .ok (.putfield 73, 3) := by decide +kernel
theorem d_M_feed_47 : decode b_M_feed 47 = .ok (.aload_n 0, 1) := by decide +kernel
theorem d_M_feed_48 : decode b_M_feed 48 = .ok (.getfield 73, 3) := by decide +kernel
theorem d_M_feed_51 : decode b_M_feed 51 = .ok (.ireturn, 1) := by decide +kernel
theorem d_M_fewest_0 : decode b_M_fewest 0 = .ok (.aload_n 0, 1) := by decide +kernel
theorem d_M_fewest_1 : decode b_M_fewest 1 = .ok (.getfield 7, 3) := by decide +kernel
theorem d_M_fewest_4 : decode b_M_fewest 4 = .ok (.iconst 3, 1) := by decide +kernel
theorem d_M_fewest_5 : decode b_M_fewest 5 = .ok (.iaload, 1) := by decide +kernel
theorem d_M_fewest_6 : decode b_M_fewest 6 = .ok (.istore_n 3, 1) := by decide +kernel
theorem d_M_fewest_7 : decode b_M_fewest 7 = .ok (.bipush 63, 2) := by decide +kernel
theorem d_M_fewest_9 : decode b_M_fewest 9 = .ok (.istore 4, 2) := by decide +kernel
theorem d_M_fewest_11 : decode b_M_fewest 11 = .ok (.iload 4, 2) := by decide +kernel
theorem d_M_fewest_13 : decode b_M_fewest 13 = .ok (.ifCond .lt 82, 3) := by decide +kernel
theorem d_M_fewest_16 : decode b_M_fewest 16 = .ok (.iload 4, 2) := by decide +kernel
theorem d_M_fewest_18 : decode b_M_fewest 18 = .ok (.aload_n 0, 1) := by decide +kernel
theorem d_M_fewest_19 : decode b_M_fewest 19 = .ok (.getfield 7, 3) := by decide +kernel
theorem d_M_fewest_22 : decode b_M_fewest 22 = .ok (.iconst 3, 1) := by decide +kernel
theorem d_M_fewest_23 : decode b_M_fewest 23 = .ok (.iaload, 1) := by decide +kernel
theorem d_M_fewest_24 : decode b_M_fewest 24 = .ok (.iconst (-1), 1) := by decide +kernel
theorem d_M_fewest_25 : decode b_M_fewest 25 = .ok (.ixor, 1) := by decide +kernel
theorem d_M_fewest_26 : decode b_M_fewest 26 = .ok (.iand, 1) := by decide +kernel
theorem d_M_fewest_27 : decode b_M_fewest 27 = .ok (.ifCond .ne 19, 3) := by decide +kernel
theorem d_M_fewest_30 : decode b_M_fewest 30 = .ok (.iload 4, 2) := by decide +kernel
theorem d_M_fewest_32 : decode b_M_fewest 32 = .ok (.invokestatic 141, 3) := by decide +kernel
theorem d_M_fewest_35 : decode b_M_fewest 35 = .ok (.iload_n 3, 1) := by decide +kernel
theorem d_M_fewest_36 : decode b_M_fewest 36 = .ok (.invokestatic 141, 3) := by decide +kernel
theorem d_M_fewest_39 : decode b_M_fewest 39 = .ok (.if_icmp .gt 7, 3) := by decide +kernel
theorem d_M_fewest_42 : decode b_M_fewest 42 = .ok (.iconst 1, 1) := by decide +kernel
theorem d_M_fewest_43 : decode b_M_fewest 43 = .ok (.goto 4, 3) := by decide +kernel
theorem d_M_fewest_46 : decode b_M_fewest 46 = .ok (.iconst 0, 1) := by decide +kernel
theorem d_M_fewest_47 : decode b_M_fewest 47 = .ok (.istore 5, 2) := by decide +kernel
theorem d_M_fewest_49 : decode b_M_fewest 49 = .ok (.iload 5, 2) := by decide +kernel
theorem d_M_fewest_51 : decode b_M_fewest 51 = .ok (.ifCond .eq 36, 3) := by decide +kernel
theorem d_M_fewest_54 : decode b_M_fewest 54 = .ok (.iload_n 2, 1) := by decide +kernel
theorem d_M_fewest_55 : decode b_M_fewest 55 = .ok (.ifCond .ge 16, 3) := by decide +kernel
theorem d_M_fewest_58 : decode b_M_fewest 58 = .ok (.aload_n 0, 1) := by decide +kernel
theorem d_M_fewest_59 : decode b_M_fewest 59 = .ok (.iload 4, 2) := by decide +kernel
theorem d_M_fewest_61 : decode b_M_fewest 61 = .ok (.iload_n 1, 1) := by decide +kernel
theorem d_M_fewest_62 : decode b_M_fewest 62 = .ok (.invokevirtual 214, 3) := by decide +kernel
theorem d_M_fewest_65 : decode b_M_fewest 65 = .ok (.ifCond .eq 22, 3) := by decide +kernel
theorem d_M_fewest_68 : decode b_M_fewest 68 = .ok (.goto 14, 3) := by decide +kernel
theorem d_M_fewest_71 : decode b_M_fewest 71 = .ok (.aload_n 0, 1) := by decide +kernel
theorem d_M_fewest_72 : decode b_M_fewest 72 = .ok (.iload 4, 2) := by decide +kernel
theorem d_M_fewest_74 : decode b_M_fewest 74 = .ok (.iload_n 1, 1) := by decide +kernel
theorem d_M_fewest_75 : decode b_M_fewest 75 = .ok (.iload_n 2, 1) := by decide +kernel
theorem d_M_fewest_76 : decode b_M_fewest 76 = .ok (.invokevirtual 217, 3) := by decide +kernel
theorem d_M_fewest_79 : decode b_M_fewest 79 = .ok (.ifCond .eq 8, 3) := by decide +kernel
theorem d_M_fewest_82 : decode b_M_fewest 82 = .ok (.iload 4, 2) := by decide +kernel
theorem d_M_fewest_84 : decode b_M_fewest 84 = .ok (.goto 4, 3) := by decide +kernel
theorem d_M_fewest_87 : decode b_M_fewest 87 = .ok (.iload_n 3, 1) := by decide +kernel
theorem d_M_fewest_88 : decode b_M_fewest 88 = .ok (.istore_n 3, 1) := by decide +kernel
theorem d_M_fewest_89 : decode b_M_fewest 89 = .ok (.iinc 4 (-1), 3) := by decide +kernel
theorem d_M_fewest_92 : decode b_M_fewest 92 = .ok (.goto (-81), 3) := by decide +kernel
theorem d_M_fewest_95 : decode b_M_fewest 95 = .ok (.iload_n 3, 1) := by decide +kernel
theorem d_M_fewest_96 : decode b_M_fewest 96 = .ok (.ireturn, 1) := by decide +kernel
theorem d_M_find_0 : decode b_M_find 0 = .ok (.aload_n 0, 1) := by decide +kernel
theorem d_M_find_1 : decode b_M_find 1 = .ok (.iload_n 1, 1) := by decide +kernel
theorem d_M_find_2 : decode b_M_find 2 = .ok (.putfield 38, 3) := by decide +kernel
theorem d_M_find_5 : decode b_M_find 5 = .ok (.ldc 42, 2) := by decide +kernel
theorem d_M_find_7 : decode b_M_find 7 = .ok (.iload_n 1, 1) := by decide +kernel
theorem d_M_find_8 : decode b_M_find 8 = .ok (.isub, 1) := by decide +kernel
theorem d_M_find_9 : decode b_M_find 9 = .ok (.ireturn, 1) := by decide +kernel
theorem d_M_fits_0 : decode b_M_fits 0 = .ok (.aload_n 0, 1) := by decide +kernel
theorem d_M_fits_1 : decode b_M_fits 1 = .ok (.iload_n 1, 1) := by decide +kernel
theorem d_M_fits_2 : decode b_M_fits 2 = .ok (.invokevirtual 175, 3) := by decide +kernel
theorem d_M_fits_5 : decode b_M_fits 5 = .ok (.ifCond .eq 36, 3) := by decide +kernel
theorem d_M_fits_8 : decode b_M_fits 8 = .ok (.iload_n 2, 1) := by decide +kernel
theorem d_M_fits_9 : decode b_M_fits 9 = .ok (.invokestatic 49, 3) := by decide +kernel
theorem d_M_fits_12 : decode b_M_fits 12 = .ok (.ifCond .eq 29, 3) := by decide +kernel
theorem d_M_fits_15 : decode b_M_fits 15 = .ok (.iload 4, 2) := by decide +kernel
theorem d_M_fits_17 : decode b_M_fits 17 = .ok (.i2l, 1) := by decide +kernel
theorem d_M_fits_18 : decode b_M_fits 18 = .ok (.lconst 1, 1) := by decide +kernel
theorem d_M_fits_19 : decode b_M_fits 19 = .ok (.ldc2_w 225, 3) := by decide +kernel
theorem d_M_fits_22 : decode b_M_fits 22 = .ok (.invokestatic 45, 3) := by decide +kernel
theorem d_M_fits_25 : decode b_M_fits 25 = .ok (.ifCond .eq 16, 3) := by decide +kernel
theorem d_M_fits_28 : decode b_M_fits 28 = .ok (.iload 5, 2) := by decide +kernel
theorem d_M_fits_30 : decode b_M_fits 30 = .ok (.i2l, 1) := by decide +kernel
theorem d_M_fits_31 : decode b_M_fits 31 = .ok (.lconst 0, 1) := by decide +kernel
theorem d_M_fits_32 : decode b_M_fits 32 = .ok (.ldc2_w 53, 3) := by decide +kernel
theorem d_M_fits_35 : decode b_M_fits 35 = .ok (.invokestatic 45, 3) := by decide +kernel
theorem d_M_fits_38 : decode b_M_fits 38 = .ok (.ifCond .ne 6, 3) := by decide +kernel
theorem d_M_fits_41 : decode b_M_fits 41 = .ok (.ldc 55, 2) := by decide +kernel
theorem d_M_fits_43 : decode b_M_fits 43 = .ok (.ireturn, 1) := by decide +kernel
theorem d_M_fits_44 : decode b_M_fits 44 = .ok (.aload_n 0, 1) := by decide +kernel
theorem d_M_fits_45 : decode b_M_fits 45 = .ok (.iload_n 2, 1) := by decide +kernel
theorem d_M_fits_46 : decode b_M_fits 46 = .ok (.iload_n 3, 1) := by decide +kernel
theorem d_M_fits_47 : decode b_M_fits 47 = .ok (.iload 4, 2) := by decide +kernel
theorem d_M_fits_49 : decode b_M_fits 49 = .ok (.invokevirtual 227, 3) := by decide +kernel
theorem d_M_fits_52 : decode b_M_fits 52 = .ok (.istore 6, 2) := by decide +kernel
theorem d_M_fits_54 : decode b_M_fits 54 = .ok (.iload 6, 2) := by decide +kernel
theorem d_M_fits_56 : decode b_M_fits 56 = .ok (.ifCond .eq 6, 3) := by decide +kernel
theorem d_M_fits_59 : decode b_M_fits 59 = .ok (.iload 6, 2) := by decide +kernel
theorem d_M_fits_61 : decode b_M_fits 61 = .ok (.ireturn, 1) := by decide +kernel
theorem d_M_fits_62 : decode b_M_fits 62 = .ok (.iload 5, 2) := by decide +kernel
theorem d_M_fits_64 : decode b_M_fits 64 = .ok (.ifCond .ne 8, 3) := by decide +kernel
theorem d_M_fits_67 : decode b_M_fits 67 = .ok (.bipush 12, 2) := by decide +kernel
theorem d_M_fits_69 : decode b_M_fits 69 = .ok (.goto 16, 3) := by decide +kernel
theorem d_M_fits_72 : decode b_M_fits 72 = .ok (.iload 5, 2) := by decide +kernel
theorem d_M_fits_74 : decode b_M_fits 74 = .ok (.iconst 1, 1) := by decide +kernel
theorem d_M_fits_75 : decode b_M_fits 75 = .ok (.if_icmp .ne 8, 3) := by decide +kernel
theorem d_M_fits_78 : decode b_M_fits 78 = .ok (.bipush 30, 2) := by decide +kernel
theorem d_M_fits_80 : decode b_M_fits 80 = .ok (.goto 5, 3) := by decide +kernel
theorem d_M_fits_83 : decode b_M_fits 83 = .ok (.bipush 6, 2) := by decide +kernel
theorem d_M_fits_85 : decode b_M_fits 85 = .ok (.iload_n 1, 1) := by decide +kernel
theorem d_M_fits_86 : decode b_M_fits 86 = .ok (.iadd, 1) := by decide +kernel
theorem d_M_fits_87 : decode b_M_fits 87 = .ok (.istore 7, 2) := by decide +kernel
theorem d_M_fits_89 : decode b_M_fits 89 = .ok (.iload 5, 2) := by decide +kernel
theorem d_M_fits_91 : decode b_M_fits 91 = .ok (.ifCond .ne 8, 3) := by decide +kernel
theorem d_M_fits_94 : decode b_M_fits 94 = .ok (.bipush 9, 2) := by decide +kernel
theorem d_M_fits_96 : decode b_M_fits 96 = .ok (.goto 15, 3) := by decide +kernel
theorem d_M_fits_99 : decode b_M_fits 99 = .ok (.iload 5, 2) := by decide +kernel
theorem d_M_fits_101 : decode b_M_fits 101 = .ok (.iconst 1, 1) := by decide +kernel
theorem d_M_fits_102 : decode b_M_fits 102 = .ok (.if_icmp .ne 8, 3) := by decide +kernel
theorem d_M_fits_105 : decode b_M_fits 105 = .ok (.bipush 20, 2) := by decide +kernel
theorem d_M_fits_107 : decode b_M_fits 107 = .ok (.goto 4, 3) := by decide +kernel
theorem d_M_fits_110 : decode b_M_fits 110 = .ok (.iconst 5, 1) := by decide +kernel
theorem d_M_fits_111 : decode b_M_fits 111 = .ok (.istore 8, 2) := by decide +kernel
theorem d_M_fits_113 : decode b_M_fits 113 = .ok (.iconst 0, 1) := by decide +kernel
theorem d_M_fits_114 : decode b_M_fits 114 = .ok (.istore 9, 2) := by decide +kernel
theorem d_M_fits_116 : decode b_M_fits 116 = .ok (.iload 5, 2) := by decide +kernel
theorem d_M_fits_118 : decode b_M_fits 118 = .ok (.iconst 2, 1) := by decide +kernel
theorem d_M_fits_119 : decode b_M_fits 119 = .ok (.if_icmp .ne 7, 3) := by decide +kernel
theorem d_M_fits_122 : decode b_M_fits 122 = .ok (.iconst 1, 1) := by decide +kernel
theorem d_M_fits_123 : decode b_M_fits 123 = .ok (.goto 4, 3) := by decide +kernel
theorem d_M_fits_126 : decode b_M_fits 126 = .ok (.iconst 0, 1) := by decide +kernel
theorem d_M_fits_127 : decode b_M_fits 127 = .ok (.istore 10, 2) := by decide +kernel
theorem d_M_fits_129 : decode b_M_fits 129 = .ok (.iload 10, 2) := by decide +kernel
theorem d_M_fits_131 : decode b_M_fits 131 = .ok (.iload 8, 2) := by decide +kernel
theorem d_M_fits_133 : decode b_M_fits 133 = .ok (.if_icmp .gt 50, 3) := by decide +kernel
theorem d_M_fits_136 : decode b_M_fits 136 = .ok (.aload_n 0, 1) := by decide +kernel
theorem d_M_fits_137 : decode b_M_fits 137 = .ok (.invokevirtual 188, 3) := by decide +kernel
theorem d_M_fits_140 : decode b_M_fits 140 = .ok (.aload_n 0, 1) := by decide +kernel
theorem d_M_fits_141 : decode b_M_fits 141 = .ok (.getfield 7, 3) := by decide +kernel
theorem d_M_fits_144 : decode b_M_fits 144 = .ok (.sipush 972, 3) := by decide +kernel
theorem d_M_fits_147 : decode b_M_fits 147 = .ok (.iload 7, 2) := by decide +kernel
theorem d_M_fits_149 : decode b_M_fits 149 = .ok (.iadd, 1) := by decide +kernel
theorem d_M_fits_150 : decode b_M_fits 150 = .ok (.iload 10, 2) := by decide +kernel
theorem d_M_fits_152 : decode b_M_fits 152 = .ok (.iastore, 1) := by decide +kernel
theorem d_M_fits_153 : decode b_M_fits 153 = .ok (.iload 9, 2) := by decide +kernel
theorem d_M_fits_155 : decode b_M_fits 155 = .ok (.aload_n 0, 1) := by decide +kernel
theorem d_M_fits_156 : decode b_M_fits 156 = .ok (.iload_n 2, 1) := by decide +kernel
theorem d_M_fits_157 : decode b_M_fits 157 = .ok (.iload_n 3, 1) := by decide +kernel
theorem d_M_fits_158 : decode b_M_fits 158 = .ok (.iload 4, 2) := by decide +kernel
theorem d_M_fits_160 : decode b_M_fits 160 = .ok (.invokevirtual 231, 3) := by decide +kernel
theorem d_M_fits_163 : decode b_M_fits 163 = .ok (.ifCond .eq 10, 3) := by decide +kernel
theorem d_M_fits_166 : decode b_M_fits 166 = .ok (.iconst 1, 1) := by decide +kernel
theorem d_M_fits_167 : decode b_M_fits 167 = .ok (.iload 10, 2) := by decide +kernel
theorem d_M_fits_169 : decode b_M_fits 169 = .ok (.ishl, 1) := by decide +kernel
theorem d_M_fits_170 : decode b_M_fits 170 = .ok (.goto 4, 3) := by decide +kernel
theorem d_M_fits_173 : decode b_M_fits 173 = .ok (.iconst 0, 1) := by decide +kernel
theorem d_M_fits_174 : decode b_M_fits 174 = .ok (.ior, 1) := by decide +kernel
theorem d_M_fits_175 : decode b_M_fits 175 = .ok (.istore 9, 2) := by decide +kernel
theorem d_M_fits_177 : decode b_M_fits 177 = .ok (.iinc 10 1, 3) := by decide +kernel
theorem d_M_fits_180 : decode b_M_fits 180 = .ok (.goto (-51), 3) := by decide +kernel
theorem d_M_fits_183 : decode b_M_fits 183 = .ok (.aload_n 0, 1) := by decide +kernel
theorem d_M_fits_184 : decode b_M_fits 184 = .ok (.iload 9, 2) := by decide +kernel
theorem d_M_fits_186 : decode b_M_fits 186 = .ok (.invokevirtual 60, 3) := by decide +kernel
theorem d_M_fits_189 : decode b_M_fits 189 = .ok (.ireturn, 1) := by decide +kernel
theorem d_M_growsBy_0 : decode b_M_growsBy 0 = .ok (.iconst 0, 1) := by decide +kernel
theorem d_M_growsBy_1 : decode b_M_growsBy 1 = .ok (.istore_n 2, 1) := by decide +kernel
theorem d_M_growsBy_2 : decode b_M_growsBy 2 = .ok (.aload_n 0, 1) := by decide +kernel
theorem d_M_growsBy_3 : decode b_M_growsBy 3 = .ok (.invokevirtual 188, 3) := by decide +kernel
theorem d_M_growsBy_6 : decode b_M_growsBy 6 = .ok (.iconst 0, 1) := by decide +kernel
theorem d_M_growsBy_7 : decode b_M_growsBy 7 = .ok (.istore_n 3, 1) := by decide +kernel
theorem d_M_growsBy_8 : decode b_M_growsBy 8 = .ok (.iload_n 3, 1) := by decide +kernel
theorem d_M_growsBy_9 : decode b_M_growsBy 9 = .ok (.iload_n 1, 1) := by decide +kernel
theorem d_M_growsBy_10 : decode b_M_growsBy 10 = .ok (.if_icmp .ge 60, 3) := by decide +kernel
theorem d_M_growsBy_13 : decode b_M_growsBy 13 = .ok (.aload_n 0, 1) := by decide +kernel
theorem d_M_growsBy_14 : decode b_M_growsBy 14 = .ok (.getfield 7, 3) := by decide +kernel
theorem d_M_growsBy_17 : decode b_M_growsBy 17 = .ok (.sipush 975, 3) := by decide +kernel
theorem d_M_growsBy_20 : decode b_M_growsBy 20 = .ok (.iaload, 1) := by decide +kernel
theorem d_M_growsBy_21 : decode b_M_growsBy 21 = .ok (.aload_n 0, 1) := by decide +kernel
theorem d_M_growsBy_22 : decode b_M_growsBy 22 = .ok (.getfield 32, 3) := by decide +kernel
theorem d_M_growsBy_25 : decode b_M_growsBy 25 = .ok (.iload_n 3, 1) := by decide +kernel
theorem d_M_growsBy_26 : decode b_M_growsBy 26 = .ok (.iaload, 1) := by decide +kernel
theorem d_M_growsBy_27 : decode b_M_growsBy 27 = .ok (.invokestatic 138, 3) := by decide +kernel
theorem d_M_growsBy_30 : decode b_M_growsBy 30 = .ok (.ifCond .eq 16, 3) := by decide +kernel
theorem d_M_growsBy_33 : decode b_M_growsBy 33 = .ok (.aload_n 0, 1) := by decide +kernel
theorem d_M_growsBy_34 : decode b_M_growsBy 34 = .ok (.sipush 972, 3) := by decide +kernel
theorem d_M_growsBy_37 : decode b_M_growsBy 37 = .ok (.aload_n 0, 1) := by decide +kernel
theorem d_M_growsBy_38 : decode b_M_growsBy 38 = .ok (.getfield 32, 3) := by decide +kernel
theorem d_M_growsBy_41 : decode b_M_growsBy 41 = .ok (.iload_n 3, 1) := by decide +kernel
theorem d_M_growsBy_42 : decode b_M_growsBy 42 = .ok (.iaload, 1) := by decide +kernel
theorem d_M_growsBy_43 : decode b_M_growsBy 43 = .ok (.invokevirtual 178, 3) := by decide +kernel
theorem d_M_growsBy_46 : decode b_M_growsBy 46 = .ok (.iload_n 2, 1) := by decide +kernel
theorem d_M_growsBy_47 : decode b_M_growsBy 47 = .ok (.aload_n 0, 1) := by decide +kernel
theorem d_M_growsBy_48 : decode b_M_growsBy 48 = .ok (.sipush 972, 3) := by decide +kernel
theorem d_M_growsBy_51 : decode b_M_growsBy 51 = .ok (.invokevirtual 157, 3) := by decide +kernel
theorem d_M_growsBy_54 : decode b_M_growsBy 54 = .ok (.iadd, 1) := by decide +kernel
theorem d_M_growsBy_55 : decode b_M_growsBy 55 = .ok (.istore_n 2, 1) := by decide +kernel
theorem d_M_growsBy_56 : decode b_M_growsBy 56 = .ok (.aload_n 0, 1) := by decide +kernel
theorem d_M_growsBy_57 : decode b_M_growsBy 57 = .ok (.sipush 972, 3) := by decide +kernel
theorem d_M_growsBy_60 : decode b_M_growsBy 60 = .ok (.invokevirtual 167, 3) := by decide +kernel
theorem d_M_growsBy_63 : decode b_M_growsBy 63 = .ok (.pop, 1) := by decide +kernel
theorem d_M_growsBy_64 : decode b_M_growsBy 64 = .ok (.iinc 3 1, 3) := by decide +kernel
theorem d_M_growsBy_67 : decode b_M_growsBy 67 = .ok (.goto (-59), 3) := by decide +kernel
theorem d_M_growsBy_70 : decode b_M_growsBy 70 = .ok (.iload_n 2, 1) := by decide +kernel
theorem d_M_growsBy_71 : decode b_M_growsBy 71 = .ok (.ireturn, 1) := by decide +kernel
theorem d_M_has_0 : decode b_M_has 0 = .ok (.iload_n 0, 1) := by decide +kernel
theorem d_M_has_1 : decode b_M_has 1 = .ok (.iload_n 1, 1) := by decide +kernel
theorem d_M_has_2 : decode b_M_has 2 = .ok (.ishr, 1) := by decide +kernel
theorem d_M_has_3 : decode b_M_has 3 = .ok (.iconst 1, 1) := by decide +kernel
theorem d_M_has_4 : decode b_M_has 4 = .ok (.iand, 1) := by decide +kernel
theorem d_M_has_5 : decode b_M_has 5 = .ok (.iconst 1, 1) := by decide +kernel
theorem d_M_has_6 : decode b_M_has 6 = .ok (.if_icmp .ne 7, 3) := by decide +kernel
theorem d_M_has_9 : decode b_M_has 9 = .ok (.iconst 1, 1) := by decide +kernel
theorem d_M_has_10 : decode b_M_has 10 = .ok (.goto 4, 3) := by decide +kernel
theorem d_M_has_13 : decode b_M_has 13 = .ok (.iconst 0, 1) := by decide +kernel
theorem d_M_has_14 : decode b_M_has 14 = .ok (.ireturn, 1) := by decide +kernel
theorem d_M_hold_0 : decode b_M_hold 0 = .ok (.aload_n 0, 1) := by decide +kernel
theorem d_M_hold_1 : decode b_M_hold 1 = .ok (.getfield 130, 3) := by decide +kernel
theorem d_M_hold_4 : decode b_M_hold 4 = .ok (.ifCond .ne 6, 3) := by decide +kernel
theorem d_M_hold_7 : decode b_M_hold 7 = .ok (.ldc 137, 2) := by decide +kernel
theorem d_M_hold_9 : decode b_M_hold 9 = .ok (.ireturn, 1) := by decide +kernel
theorem d_M_hold_10 : decode b_M_hold 10 = .ok (.iload_n 1, 1) := by decide +kernel
theorem d_M_hold_11 : decode b_M_hold 11 = .ok (.i2l, 1) := by decide +kernel
theorem d_M_hold_12 : decode b_M_hold 12 = .ok (.lconst 1, 1) := by decide +kernel
theorem d_M_hold_13 : decode b_M_hold 13 = .ok (.ldc2_w 186, 3) := by decide +kernel
theorem d_M_hold_16 : decode b_M_hold 16 = .ok (.invokestatic 45, 3) := by decide +kernel
theorem d_M_hold_19 : decode b_M_hold 19 = .ok (.ifCond .eq 13, 3) := by decide +kernel
theorem d_M_hold_22 : decode b_M_hold 22 = .ok (.iload_n 2, 1) := by decide +kernel
theorem d_M_hold_23 : decode b_M_hold 23 = .ok (.i2l, 1) := by decide +kernel
theorem d_M_hold_24 : decode b_M_hold 24 = .ok (.lconst 0, 1) := by decide +kernel
theorem d_M_hold_25 : decode b_M_hold 25 = .ok (.lconst 1, 1) := by decide +kernel
theorem d_M_hold_26 : decode b_M_hold 26 = .ok (.invokestatic 45, 3) := by decide +kernel
theorem d_M_hold_29 : decode b_M_hold 29 = .ok (.ifCond .ne 6, 3) := by decide +kernel
theorem d_M_hold_32 : decode b_M_hold 32 = .ok (.ldc 55, 2) := by decide +kernel
theorem d_M_hold_34 : decode b_M_hold 34 = .ok (.ireturn, 1) := by decide +kernel
theorem d_M_hold_35 : decode b_M_hold 35 = .ok (.aload_n 0, 1) := by decide +kernel
theorem d_M_hold_36 : decode b_M_hold 36 = .ok (.iload_n 1, 1) := by decide +kernel
theorem d_M_hold_37 : decode b_M_hold 37 = .ok (.iconst (-1), 1) := by decide +kernel
theorem d_M_hold_38 : decode b_M_hold 38 = .ok (.invokevirtual 220, 3) := by decide +kernel
theorem d_M_hold_41 : decode b_M_hold 41 = .ok (.istore_n 3, 1) := by decide +kernel
theorem d_M_hold_42 : decode b_M_hold 42 = .ok (.iload_n 2, 1) := by decide +kernel
theorem d_M_hold_43 : decode b_M_hold 43 = .ok (.ifCond .ne 10, 3) := by decide +kernel
theorem d_M_hold_46 : decode b_M_hold 46 = .ok (.iload_n 3, 1) := by decide +kernel
theorem d_M_hold_47 : decode b_M_hold 47 = .ok (.invokestatic 141, 3) := by decide +kernel
theorem d_M_hold_50 : decode b_M_hold 50 = .ok (.goto 4, 3) := by decide +kernel
theorem d_M_hold_53 : decode b_M_hold 53 = .ok (.iload_n 3, 1) := by decide +kernel
theorem d_M_hold_54 : decode b_M_hold 54 = .ok (.ireturn, 1) := by decide +kernel
theorem d_M_holds_0 : decode b_M_holds 0 = .ok (.aload_n 0, 1) := by decide +kernel
theorem d_M_holds_1 : decode b_M_holds 1 = .ok (.iload_n 1, 1) := by decide +kernel
theorem d_M_holds_2 : decode b_M_holds 2 = .ok (.invokevirtual 210, 3) := by decide +kernel
theorem d_M_holds_5 : decode b_M_holds 5 = .ok (.iconst 0, 1) := by decide +kernel
theorem d_M_holds_6 : decode b_M_holds 6 = .ok (.istore_n 3, 1) := by decide +kernel
theorem d_M_holds_7 : decode b_M_holds 7 = .ok (.iload_n 3, 1) := by decide +kernel
theorem d_M_holds_8 : decode b_M_holds 8 = .ok (.iload_n 2, 1) := by decide +kernel
theorem d_M_holds_9 : decode b_M_holds 9 = .ok (.if_icmp .ge 23, 3) := by decide +kernel
theorem d_M_holds_12 : decode b_M_holds 12 = .ok (.aload_n 0, 1) := by decide +kernel
theorem d_M_holds_13 : decode b_M_holds 13 = .ok (.sipush 972, 3) := by decide +kernel
theorem d_M_holds_16 : decode b_M_holds 16 = .ok (.invokevirtual 167, 3) := by decide +kernel
theorem d_M_holds_19 : decode b_M_holds 19 = .ok (.ldc 147, 2) := by decide +kernel
theorem d_M_holds_21 : decode b_M_holds 21 = .ok (.if_icmp .eq 5, 3) := by decide +kernel
theorem d_M_holds_24 : decode b_M_holds 24 = .ok (.iconst 0, 1) := by decide +kernel
theorem d_M_holds_25 : decode b_M_holds 25 = .ok (.ireturn, 1) := by decide +kernel
theorem d_M_holds_26 : decode b_M_holds 26 = .ok (.iinc 3 1, 3) := by decide +kernel
theorem d_M_holds_29 : decode b_M_holds 29 = .ok (.goto (-22), 3) := by decide +kernel
theorem d_M_holds_32 : decode b_M_holds 32 = .ok (.iconst 1, 1) := by decide +kernel
theorem d_M_holds_33 : decode b_M_holds 33 = .ok (.ireturn, 1) := by decide +kernel
theorem d_M_house_0 : decode b_M_house 0 = .ok (.aload_n 0, 1) := by decide +kernel
theorem d_M_house_1 : decode b_M_house 1 = .ok (.invokevirtual 119, 3) := by decide +kernel
theorem d_M_house_4 : decode b_M_house 4 = .ok (.istore_n 1, 1) := by decide +kernel
theorem d_M_house_5 : decode b_M_house 5 = .ok (.aload_n 0, 1) := by decide +kernel
theorem d_M_house_6 : decode b_M_house 6 = .ok (.iconst 0, 1) := by decide +kernel
theorem d_M_house_7 : decode b_M_house 7 = .ok (.putfield 73, 3) := by decide +kernel
theorem d_M_house_10 : decode b_M_house 10 = .ok (.iload_n 1, 1) := by decide +kernel
theorem d_M_house_11 : decode b_M_house 11 = .ok (.ifCond .ne 19, 3) := by decide +kernel
theorem d_M_house_14 : decode b_M_house 14 = .ok (.aload_n 0, 1) := by decide +kernel
theorem d_M_house_15 : decode b_M_house 15 = .ok (.aload_n 0, 1) := by decide +kernel
theorem d_M_house_16 : decode b_M_house 16 = .ok (.getfield 84, 3) := by decide +kernel
theorem d_M_house_19 : decode b_M_house 19 = .ok (.putfield 122, 3) := by decide +kernel
theorem d_M_house_22 : decode b_M_house 22 = .ok (.ldc 125, 2) := by decide +kernel
theorem d_M_house_24 : decode b_M_house 24 = .ok (.aload_n 0, 1) := by decide +kernel
theorem d_M_house_25 : decode b_M_house 25 = .ok (.getfield 77, 3) := by decide +kernel
theorem d_M_house_28 : decode b_M_house 28 = .ok (.isub, 1) := by decide +kernel
theorem d_M_house_29 : decode b_M_house 29 = .ok (.ireturn, 1) := by decide +kernel
theorem d_M_house_30 : decode b_M_house 30 = .ok (.aload_n 0, 1) := by decide +kernel
theorem d_M_house_31 : decode b_M_house 31 = .ok (.getfield 7, 3) := by decide +kernel
theorem d_M_house_34 : decode b_M_house 34 = .ok (.sipush 975, 3) := by decide +kernel
theorem d_M_house_37 : decode b_M_house 37 = .ok (.iconst 1, 1) := by decide +kernel
theorem d_M_house_38 : decode b_M_house 38 = .ok (.aload_n 0, 1) := by decide +kernel
theorem d_M_house_39 : decode b_M_house 39 = .ok (.getfield 7, 3) := by decide +kernel
theorem d_M_house_42 : decode b_M_house 42 = .ok (.sipush 972, 3) := by decide +kernel
theorem d_M_house_45 : decode b_M_house 45 = .ok (.iaload, 1) := by decide +kernel
theorem d_M_house_46 : decode b_M_house 46 = .ok (.ishl, 1) := by decide +kernel
theorem d_M_house_47 : decode b_M_house 47 = .ok (.iconst 1, 1) := by decide +kernel
theorem d_M_house_48 : decode b_M_house 48 = .ok (.isub, 1) := by decide +kernel
theorem d_M_house_49 : decode b_M_house 49 = .ok (.iastore, 1) := by decide +kernel
theorem d_M_house_50 : decode b_M_house 50 = .ok (.aload_n 0, 1) := by decide +kernel
theorem d_M_house_51 : decode b_M_house 51 = .ok (.sipush 972, 3) := by decide +kernel
theorem d_M_house_54 : decode b_M_house 54 = .ok (.iconst 0, 1) := by decide +kernel
theorem d_M_house_55 : decode b_M_house 55 = .ok (.invokevirtual 126, 3) := by decide +kernel
theorem d_M_house_58 : decode b_M_house 58 = .ok (.aload_n 0, 1) := by decide +kernel
theorem d_M_house_59 : decode b_M_house 59 = .ok (.iconst 1, 1) := by decide +kernel
theorem d_M_house_60 : decode b_M_house 60 = .ok (.putfield 130, 3) := by decide +kernel
theorem d_M_house_63 : decode b_M_house 63 = .ok (.aload_n 0, 1) := by decide +kernel
theorem d_M_house_64 : decode b_M_house 64 = .ok (.iconst 0, 1) := by decide +kernel
theorem d_M_house_65 : decode b_M_house 65 = .ok (.putfield 134, 3) := by decide +kernel
theorem d_M_house_68 : decode b_M_house 68 = .ok (.aload_n 0, 1) := by decide +kernel
theorem d_M_house_69 : decode b_M_house 69 = .ok (.getfield 7, 3) := by decide +kernel
theorem d_M_house_72 : decode b_M_house 72 = .ok (.iconst 0, 1) := by decide +kernel
theorem d_M_house_73 : decode b_M_house 73 = .ok (.iaload, 1) := by decide +kernel
theorem d_M_house_74 : decode b_M_house 74 = .ok (.ireturn, 1) := by decide +kernel
theorem d_M_image_0 : decode b_M_image 0 = .ok (.iload_n 1, 1) := by decide +kernel
theorem d_M_image_1 : decode b_M_image 1 = .ok (.i2l, 1) := by decide +kernel
theorem d_M_image_2 : decode b_M_image 2 = .ok (.lconst 0, 1) := by decide +kernel
theorem d_M_image_3 : decode b_M_image 3 = .ok (.lconst 1, 1) := by decide +kernel
theorem d_M_image_4 : decode b_M_image 4 = .ok (.invokestatic 45, 3) := by decide +kernel
theorem d_M_image_7 : decode b_M_image 7 = .ok (.ifCond .ne 6, 3) := by decide +kernel
theorem d_M_image_10 : decode b_M_image 10 = .ok (.ldc 55, 2) := by decide +kernel
theorem d_M_image_12 : decode b_M_image 12 = .ok (.ireturn, 1) := by decide +kernel
theorem d_M_image_13 : decode b_M_image 13 = .ok (.aload_n 0, 1) := by decide +kernel
theorem d_M_image_14 : decode b_M_image 14 = .ok (.getfield 130, 3) := by decide +kernel
theorem d_M_image_17 : decode b_M_image 17 = .ok (.ifCond .ne 6, 3) := by decide +kernel
theorem d_M_image_20 : decode b_M_image 20 = .ok (.ldc 137, 2) := by decide +kernel
theorem d_M_image_22 : decode b_M_image 22 = .ok (.ireturn, 1) := by decide +kernel
theorem d_M_image_23 : decode b_M_image 23 = .ok (.aload_n 0, 1) := by decide +kernel
theorem d_M_image_24 : decode b_M_image 24 = .ok (.iconst 0, 1) := by decide +kernel
theorem d_M_image_25 : decode b_M_image 25 = .ok (.sipush 900, 3) := by decide +kernel
theorem d_M_image_28 : decode b_M_image 28 = .ok (.bipush 36, 2) := by decide +kernel
theorem d_M_image_30 : decode b_M_image 30 = .ok (.iload_n 1, 1) := by decide +kernel
theorem d_M_image_31 : decode b_M_image 31 = .ok (.imul, 1) := by decide +kernel
theorem d_M_image_32 : decode b_M_image 32 = .ok (.iadd, 1) := by decide +kernel
theorem d_M_image_33 : decode b_M_image 33 = .ok (.invokevirtual 126, 3) := by decide +kernel
theorem d_M_image_36 : decode b_M_image 36 = .ok (.aload_n 0, 1) := by decide +kernel
theorem d_M_image_37 : decode b_M_image 37 = .ok (.getfield 13, 3) := by decide +kernel
theorem d_M_image_40 : decode b_M_image 40 = .ok (.iload_n 1, 1) := by decide +kernel
theorem d_M_image_41 : decode b_M_image 41 = .ok (.iconst 1, 1) := by decide +kernel
theorem d_M_image_42 : decode b_M_image 42 = .ok (.bastore, 1) := by decide +kernel
theorem d_M_image_43 : decode b_M_image 43 = .ok (.iconst 1, 1) := by decide +kernel
theorem d_M_image_44 : decode b_M_image 44 = .ok (.ireturn, 1) := by decide +kernel
theorem d_M_in_0 : decode b_M_in 0 = .ok (.lload_n 0, 1) := by decide +kernel
theorem d_M_in_1 : decode b_M_in 1 = .ok (.lload_n 2, 1) := by decide +kernel
theorem d_M_in_2 : decode b_M_in 2 = .ok (.lcmp, 1) := by decide +kernel
theorem d_M_in_3 : decode b_M_in 3 = .ok (.ifCond .lt 14, 3) := by decide +kernel
theorem d_M_in_6 : decode b_M_in 6 = .ok (.lload_n 0, 1) := by decide +kernel
theorem d_M_in_7 : decode b_M_in 7 = .ok (.lload 4, 2) := by decide +kernel
theorem d_M_in_9 : decode b_M_in 9 = .ok (.lcmp, 1) := by decide +kernel
theorem d_M_in_10 : decode b_M_in 10 = .ok (.ifCond .gt 7, 3) := by decide +kernel
theorem d_M_in_13 : decode b_M_in 13 = .ok (.iconst 1, 1) := by decide +kernel
theorem d_M_in_14 : decode b_M_in 14 = .ok (.goto 4, 3) := by decide +kernel
theorem d_M_in_17 : decode b_M_in 17 = .ok (.iconst 0, 1) := by decide +kernel
theorem d_M_in_18 : decode b_M_in 18 = .ok (.ireturn, 1) := by decide +kernel
theorem d_M_init_0 : decode b_M_init 0 = .ok (.aload_n 0, 1) := by decide +kernel
theorem d_M_init_1 : decode b_M_init 1 = .ok (.invokespecial 1, 3) := by decide +kernel
theorem d_M_init_4 : decode b_M_init 4 = .ok (.aload_n 0, 1) := by decide +kernel
theorem d_M_init_5 : decode b_M_init 5 = .ok (.sipush 1008, 3) := by decide +kernel
theorem d_M_init_8 : decode b_M_init 8 = .ok (.newarray .int, 2) := by decide +kernel
theorem d_M_init_10 : decode b_M_init 10 = .ok (.putfield 7, 3) := by decide +kernel
theorem d_M_init_13 : decode b_M_init 13 = .ok (.aload_n 0, 1) := by decide +kernel
theorem d_M_init_14 : decode b_M_init 14 = .ok (.iconst 2, 1) := by decide +kernel
theorem d_M_init_15 : decode b_M_init 15 = .ok (.newarray .boolean, 2) := by decide +kernel
theorem d_M_init_17 : decode b_M_init 17 = .ok (.putfield 13, 3) := by decide +kernel
theorem d_M_init_20 : decode b_M_init 20 = .ok (.aload_n 0, 1) := by decide +kernel
theorem d_M_init_21 : decode b_M_init 21 = .ok (.bipush 8, 2) := by decide +kernel
theorem d_M_init_23 : decode b_M_init 23 = .ok (.newarray .int, 2) := by decide +kernel
theorem d_M_init_25 : decode b_M_init 25 = .ok (.putfield 17, 3) := by decide +kernel
theorem d_M_init_28 : decode b_M_init 28 = .ok (.aload_n 0, 1) := by decide +kernel
theorem d_M_init_29 : decode b_M_init 29 = .ok (.bipush 8, 2) := by decide +kernel
theorem d_M_init_31 : decode b_M_init 31 = .ok (.newarray .int, 2) := by decide +kernel
theorem d_M_init_33 : decode b_M_init 33 = .ok (.dup, 1) := by decide +kernel
theorem d_M_init_34 : decode b_M_init 34 = .ok (.iconst 0, 1) := by decide +kernel
theorem d_M_init_35 : decode b_M_init 35 = .ok (.iconst (-1), 1) := by decide +kernel
theorem d_M_init_36 : decode b_M_init 36 = .ok (.iastore, 1) := by decide +kernel
theorem d_M_init_37 : decode b_M_init 37 = .ok (.dup, 1) := by decide +kernel
theorem d_M_init_38 : decode b_M_init 38 = .ok (.iconst 1, 1) := by decide +kernel
theorem d_M_init_39 : decode b_M_init 39 = .ok (.iconst (-1), 1) := by decide +kernel
theorem d_M_init_40 : decode b_M_init 40 = .ok (.iastore, 1) := by decide +kernel
theorem d_M_init_41 : decode b_M_init 41 = .ok (.dup, 1) := by decide +kernel
theorem d_M_init_42 : decode b_M_init 42 = .ok (.iconst 2, 1) := by decide +kernel
theorem d_M_init_43 : decode b_M_init 43 = .ok (.iconst (-1), 1) := by decide +kernel
theorem d_M_init_44 : decode b_M_init 44 = .ok (.iastore, 1) := by decide +kernel
theorem d_M_init_45 : decode b_M_init 45 = .ok (.dup, 1) := by decide +kernel
theorem d_M_init_46 : decode b_M_init 46 = .ok (.iconst 3, 1) := by decide +kernel
theorem d_M_init_47 : decode b_M_init 47 = .ok (.iconst (-1), 1) := by decide +kernel
theorem d_M_init_48 : decode b_M_init 48 = .ok (.iastore, 1) := by decide +kernel
theorem d_M_init_49 : decode b_M_init 49 = .ok (.dup, 1) := by decide +kernel
theorem d_M_init_50 : decode b_M_init 50 = .ok (.iconst 4, 1) := by decide +kernel
theorem d_M_init_51 : decode b_M_init 51 = .ok (.iconst (-1), 1) := by decide +kernel
theorem d_M_init_52 : decode b_M_init 52 = .ok (.iastore, 1) := by decide +kernel
theorem d_M_init_53 : decode b_M_init 53 = .ok (.dup, 1) := by decide +kernel
theorem d_M_init_54 : decode b_M_init 54 = .ok (.iconst 5, 1) := by decide +kernel
theorem d_M_init_55 : decode b_M_init 55 = .ok (.iconst (-1), 1) := by decide +kernel
theorem d_M_init_56 : decode b_M_init 56 = .ok (.iastore, 1) := by decide +kernel
theorem d_M_init_57 : decode b_M_init 57 = .ok (.dup, 1) := by decide +kernel
theorem d_M_init_58 : decode b_M_init 58 = .ok (.bipush 6, 2) := by decide +kernel
theorem d_M_init_60 : decode b_M_init 60 = .ok (.iconst (-1), 1) := by decide +kernel
theorem d_M_init_61 : decode b_M_init 61 = .ok (.iastore, 1) := by decide +kernel
theorem d_M_init_62 : decode b_M_init 62 = .ok (.dup, 1) := by decide +kernel
theorem d_M_init_63 : decode b_M_init 63 = .ok (.bipush 7, 2) := by decide +kernel
theorem d_M_init_65 : decode b_M_init 65 = .ok (.iconst (-1), 1) := by decide +kernel
theorem d_M_init_66 : decode b_M_init 66 = .ok (.iastore, 1) := by decide +kernel
theorem d_M_init_67 : decode b_M_init 67 = .ok (.putfield 20, 3) := by decide +kernel
theorem d_M_init_70 : decode b_M_init 70 = .ok (.aload_n 0, 1) := by decide +kernel
theorem d_M_init_71 : decode b_M_init 71 = .ok (.sipush 320, 3) := by decide +kernel
theorem d_M_init_74 : decode b_M_init 74 = .ok (.newarray .int, 2) := by decide +kernel
theorem d_M_init_76 : decode b_M_init 76 = .ok (.putfield 23, 3) := by decide +kernel
theorem d_M_init_79 : decode b_M_init 79 = .ok (.aload_n 0, 1) := by decide +kernel
theorem d_M_init_80 : decode b_M_init 80 = .ok (.bipush 100, 2) := by decide +kernel
theorem d_M_init_82 : decode b_M_init 82 = .ok (.newarray .int, 2) := by decide +kernel
theorem d_M_init_84 : decode b_M_init 84 = .ok (.putfield 26, 3) := by decide +kernel
theorem d_M_init_87 : decode b_M_init 87 = .ok (.aload_n 0, 1) := by decide +kernel
theorem d_M_init_88 : decode b_M_init 88 = .ok (.bipush 16, 2) := by decide +kernel
theorem d_M_init_90 : decode b_M_init 90 = .ok (.newarray .int, 2) := by decide +kernel
theorem d_M_init_92 : decode b_M_init 92 = .ok (.putfield 29, 3) := by decide +kernel
theorem d_M_init_95 : decode b_M_init 95 = .ok (.aload_n 0, 1) := by decide +kernel
theorem d_M_init_96 : decode b_M_init 96 = .ok (.bipush 6, 2) := by decide +kernel
theorem d_M_init_98 : decode b_M_init 98 = .ok (.newarray .int, 2) := by decide +kernel
theorem d_M_init_100 : decode b_M_init 100 = .ok (.putfield 32, 3) := by decide +kernel
theorem d_M_init_103 : decode b_M_init 103 = .ok (.aload_n 0, 1) := by decide +kernel
theorem d_M_init_104 : decode b_M_init 104 = .ok (.bipush 6, 2) := by decide +kernel
theorem d_M_init_106 : decode b_M_init 106 = .ok (.newarray .int, 2) := by decide +kernel
theorem d_M_init_108 : decode b_M_init 108 = .ok (.putfield 35, 3) := by decide +kernel
theorem d_M_init_111 : decode b_M_init 111 = .ok (.return_, 1) := by decide +kernel
theorem d_M_isFigure_0 : decode b_M_isFigure 0 = .ok (.iload_n 1, 1) := by decide +kernel
theorem d_M_isFigure_1 : decode b_M_isFigure 1 = .ok (.aload_n 0, 1) := by decide +kernel
theorem d_M_isFigure_2 : decode b_M_isFigure 2 = .ok (.getfield 73, 3) := by decide +kernel
theorem d_M_isFigure_5 : decode b_M_isFigure 5 = .ok (.if_icmp .ge 26, 3) := by decide +kernel
theorem d_M_isFigure_8 : decode b_M_isFigure 8 = .ok (.aload_n 0, 1) := by decide +kernel
theorem d_M_isFigure_9 : decode b_M_isFigure 9 = .ok (.getfield 26, 3) := by decide +kernel
theorem d_M_isFigure_12 : decode b_M_isFigure 12 = .ok (.iload_n 1, 1) := by decide +kernel
theorem d_M_isFigure_13 : decode b_M_isFigure 13 = .ok (.iaload, 1) := by decide +kernel
theorem d_M_isFigure_14 : decode b_M_isFigure 14 = .ok (.i2l, 1) := by decide +kernel
theorem d_M_isFigure_15 : decode b_M_isFigure 15 = .ok (.ldc2_w 80, 3) := by decide +kernel
theorem d_M_isFigure_18 : decode b_M_isFigure 18 = .ok (.ldc2_w 82, 3) := by decide +kernel
theorem d_M_isFigure_21 : decode b_M_isFigure 21 = .ok (.invokestatic 45, 3) := by decide +kernel
theorem d_M_isFigure_24 : decode b_M_isFigure 24 = .ok (.ifCond .eq 7, 3) := by decide +kernel
theorem d_M_isFigure_27 : decode b_M_isFigure 27 = .ok (.iconst 1, 1) := by decide +kernel
theorem d_M_isFigure_28 : decode b_M_isFigure 28 = .ok (.goto 4, 3) := by decide +kernel
theorem d_M_isFigure_31 : decode b_M_isFigure 31 = .ok (.iconst 0, 1) := by decide +kernel
theorem d_M_isFigure_32 : decode b_M_isFigure 32 = .ok (.ireturn, 1) := by decide +kernel
theorem d_M_isLetter_0 : decode b_M_isLetter 0 = .ok (.aload_n 0, 1) := by decide +kernel
theorem d_M_isLetter_1 : decode b_M_isLetter 1 = .ok (.getfield 77, 3) := by decide +kernel
theorem d_M_isLetter_4 : decode b_M_isLetter 4 = .ok (.aload_n 0, 1) := by decide +kernel
theorem d_M_isLetter_5 : decode b_M_isLetter 5 = .ok (.getfield 73, 3) := by decide +kernel
theorem d_M_isLetter_8 : decode b_M_isLetter 8 = .ok (.if_icmp .ge 20, 3) := by decide +kernel
theorem d_M_isLetter_11 : decode b_M_isLetter 11 = .ok (.aload_n 0, 1) := by decide +kernel
theorem d_M_isLetter_12 : decode b_M_isLetter 12 = .ok (.getfield 26, 3) := by decide +kernel
theorem d_M_isLetter_15 : decode b_M_isLetter 15 = .ok (.aload_n 0, 1) := by decide +kernel
theorem d_M_isLetter_16 : decode b_M_isLetter 16 = .ok (.getfield 77, 3) := by decide +kernel
theorem d_M_isLetter_19 : decode b_M_isLetter 19 = .ok (.iaload, 1) := by decide +kernel
theorem d_M_isLetter_20 : decode b_M_isLetter 20 = .ok (.iload_n 1, 1) := by decide +kernel
theorem d_M_isLetter_21 : decode b_M_isLetter 21 = .ok (.if_icmp .ne 7, 3) := by decide +kernel
theorem d_M_isLetter_24 : decode b_M_isLetter 24 = .ok (.iconst 1, 1) := by decide +kernel
theorem d_M_isLetter_25 : decode b_M_isLetter 25 = .ok (.goto 4, 3) := by decide +kernel
theorem d_M_isLetter_28 : decode b_M_isLetter 28 = .ok (.iconst 0, 1) := by decide +kernel
theorem d_M_isLetter_29 : decode b_M_isLetter 29 = .ok (.ireturn, 1) := by decide +kernel
theorem d_M_isLetterThere_0 : decode b_M_isLetterThere 0 = .ok (.iload_n 1, 1) := by decide +kernel
theorem d_M_isLetterThere_1 : decode b_M_isLetterThere 1 = .ok (.i2l, 1) := by decide +kernel
theorem d_M_isLetterThere_2 : decode b_M_isLetterThere 2 = .ok (.lconst 0, 1) := by decide +kernel
theorem d_M_isLetterThere_3 : decode b_M_isLetterThere 3 = .ok (.aload_n 0, 1) := by decide +kernel
theorem d_M_isLetterThere_4 : decode b_M_isLetterThere 4 = .ok (.getfield 7, 3) := by decide +kernel
theorem d_M_isLetterThere_7 : decode b_M_isLetterThere 7 = .ok (.iconst 0, 1) := by decide +kernel
theorem d_M_isLetterThere_8 : decode b_M_isLetterThere 8 = .ok (.iaload, 1) := by decide +kernel
theorem d_M_isLetterThere_9 : decode b_M_isLetterThere 9 = .ok (.iconst 1, 1) := by decide +kernel
theorem d_M_isLetterThere_10 : decode b_M_isLetterThere 10 = .ok (.isub, 1) := by decide +kernel
theorem d_M_isLetterThere_11 : decode b_M_isLetterThere 11 = .ok (.i2l, 1) := by decide +kernel
theorem d_M_isLetterThere_12 : decode b_M_isLetterThere 12 = .ok (.invokestatic 45, 3) := by decide +kernel
theorem d_M_isLetterThere_15 : decode b_M_isLetterThere 15 = .ok (.ireturn, 1) := by decide +kernel
theorem d_M_isOf_0 : decode b_M_isOf 0 = .ok (.aload_n 0, 1) := by decide +kernel
theorem d_M_isOf_1 : decode b_M_isOf 1 = .ok (.getfield 7, 3) := by decide +kernel
theorem d_M_isOf_4 : decode b_M_isOf 4 = .ok (.bipush 6, 2) := by decide +kernel
theorem d_M_isOf_6 : decode b_M_isOf 6 = .ok (.iload_n 1, 1) := by decide +kernel
theorem d_M_isOf_7 : decode b_M_isOf 7 = .ok (.iadd, 1) := by decide +kernel
theorem d_M_isOf_8 : decode b_M_isOf 8 = .ok (.iaload, 1) := by decide +kernel
theorem d_M_isOf_9 : decode b_M_isOf 9 = .ok (.istore_n 3, 1) := by decide +kernel
theorem d_M_isOf_10 : decode b_M_isOf 10 = .ok (.iload_n 2, 1) := by decide +kernel
theorem d_M_isOf_11 : decode b_M_isOf 11 = .ok (.ifCond .eq 33, 3) := by decide +kernel
theorem d_M_isOf_14 : decode b_M_isOf 14 = .ok (.iload_n 2, 1) := by decide +kernel
theorem d_M_isOf_15 : decode b_M_isOf 15 = .ok (.iload_n 3, 1) := by decide +kernel
theorem d_M_isOf_16 : decode b_M_isOf 16 = .ok (.if_icmp .eq 28, 3) := by decide +kernel
theorem d_M_isOf_19 : decode b_M_isOf 19 = .ok (.iload_n 2, 1) := by decide +kernel
theorem d_M_isOf_20 : decode b_M_isOf 20 = .ok (.iconst 1, 1) := by decide +kernel
theorem d_M_isOf_21 : decode b_M_isOf 21 = .ok (.if_icmp .ne 13, 3) := by decide +kernel
theorem d_M_isOf_24 : decode b_M_isOf 24 = .ok (.iload_n 3, 1) := by decide +kernel
theorem d_M_isOf_25 : decode b_M_isOf 25 = .ok (.iconst 2, 1) := by decide +kernel
theorem d_M_isOf_26 : decode b_M_isOf 26 = .ok (.if_icmp .eq 18, 3) := by decide +kernel
theorem d_M_isOf_29 : decode b_M_isOf 29 = .ok (.iload_n 3, 1) := by decide +kernel
theorem d_M_isOf_30 : decode b_M_isOf 30 = .ok (.iconst 3, 1) := by decide +kernel
theorem d_M_isOf_31 : decode b_M_isOf 31 = .ok (.if_icmp .eq 13, 3) := by decide +kernel
theorem d_M_isOf_34 : decode b_M_isOf 34 = .ok (.iload_n 2, 1) := by decide +kernel
theorem d_M_isOf_35 : decode b_M_isOf 35 = .ok (.iconst 4, 1) := by decide +kernel
theorem d_M_isOf_36 : decode b_M_isOf 36 = .ok (.if_icmp .ne 12, 3) := by decide +kernel
theorem d_M_isOf_39 : decode b_M_isOf 39 = .ok (.iload_n 3, 1) := by decide +kernel
theorem d_M_isOf_40 : decode b_M_isOf 40 = .ok (.iconst 5, 1) := by decide +kernel
theorem d_M_isOf_41 : decode b_M_isOf 41 = .ok (.if_icmp .ne 7, 3) := by decide +kernel
theorem d_M_isOf_44 : decode b_M_isOf 44 = .ok (.iconst 1, 1) := by decide +kernel
theorem d_M_isOf_45 : decode b_M_isOf 45 = .ok (.goto 4, 3) := by decide +kernel
theorem d_M_isOf_48 : decode b_M_isOf 48 = .ok (.iconst 0, 1) := by decide +kernel
theorem d_M_isOf_49 : decode b_M_isOf 49 = .ok (.ireturn, 1) := by decide +kernel
theorem d_M_isRow_0 : decode b_M_isRow 0 = .ok (.iload_n 0, 1) := by decide +kernel
theorem d_M_isRow_1 : decode b_M_isRow 1 = .ok (.i2l, 1) := by decide +kernel
theorem d_M_isRow_2 : decode b_M_isRow 2 = .ok (.lconst 0, 1) := by decide +kernel
theorem d_M_isRow_3 : decode b_M_isRow 3 = .ok (.ldc2_w 43, 3) := by decide +kernel
theorem d_M_isRow_6 : decode b_M_isRow 6 = .ok (.invokestatic 45, 3) := by decide +kernel
theorem d_M_isRow_9 : decode b_M_isRow 9 = .ok (.ireturn, 1) := by decide +kernel
theorem d_M_isSo_0 : decode b_M_isSo 0 = .ok (.iconst 0, 1) := by decide +kernel
theorem d_M_isSo_1 : decode b_M_isSo 1 = .ok (.istore 4, 2) := by decide +kernel
theorem d_M_isSo_3 : decode b_M_isSo 3 = .ok (.iload 4, 2) := by decide +kernel
theorem d_M_isSo_5 : decode b_M_isSo 5 = .ok (.iload_n 3, 1) := by decide +kernel
theorem d_M_isSo_6 : decode b_M_isSo 6 = .ok (.if_icmp .ge 43, 3) := by decide +kernel
theorem d_M_isSo_9 : decode b_M_isSo 9 = .ok (.aload_n 0, 1) := by decide +kernel
theorem d_M_isSo_10 : decode b_M_isSo 10 = .ok (.sipush 972, 3) := by decide +kernel
theorem d_M_isSo_13 : decode b_M_isSo 13 = .ok (.invokevirtual 157, 3) := by decide +kernel
theorem d_M_isSo_16 : decode b_M_isSo 16 = .ok (.aload_n 0, 1) := by decide +kernel
theorem d_M_isSo_17 : decode b_M_isSo 17 = .ok (.getfield 23, 3) := by decide +kernel
theorem d_M_isSo_20 : decode b_M_isSo 20 = .ok (.bipush 40, 2) := by decide +kernel
theorem d_M_isSo_22 : decode b_M_isSo 22 = .ok (.iload_n 1, 1) := by decide +kernel
theorem d_M_isSo_23 : decode b_M_isSo 23 = .ok (.imul, 1) := by decide +kernel
theorem d_M_isSo_24 : decode b_M_isSo 24 = .ok (.iload_n 2, 1) := by decide +kernel
theorem d_M_isSo_25 : decode b_M_isSo 25 = .ok (.iadd, 1) := by decide +kernel
theorem d_M_isSo_26 : decode b_M_isSo 26 = .ok (.iload 4, 2) := by decide +kernel
theorem d_M_isSo_28 : decode b_M_isSo 28 = .ok (.iadd, 1) := by decide +kernel
theorem d_M_isSo_29 : decode b_M_isSo 29 = .ok (.iaload, 1) := by decide +kernel
theorem d_M_isSo_30 : decode b_M_isSo 30 = .ok (.if_icmp .eq 5, 3) := by decide +kernel
theorem d_M_isSo_33 : decode b_M_isSo 33 = .ok (.iconst 0, 1) := by decide +kernel
theorem d_M_isSo_34 : decode b_M_isSo 34 = .ok (.ireturn, 1) := by decide +kernel
theorem d_M_isSo_35 : decode b_M_isSo 35 = .ok (.aload_n 0, 1) := by decide +kernel
theorem d_M_isSo_36 : decode b_M_isSo 36 = .ok (.sipush 972, 3) := by decide +kernel
theorem d_M_isSo_39 : decode b_M_isSo 39 = .ok (.invokevirtual 167, 3) := by decide +kernel
theorem d_M_isSo_42 : decode b_M_isSo 42 = .ok (.pop, 1) := by decide +kernel
theorem d_M_isSo_43 : decode b_M_isSo 43 = .ok (.iinc 4 1, 3) := by decide +kernel
theorem d_M_isSo_46 : decode b_M_isSo 46 = .ok (.goto (-43), 3) := by decide +kernel
theorem d_M_isSo_49 : decode b_M_isSo 49 = .ok (.iconst 1, 1) := by decide +kernel
theorem d_M_isSo_50 : decode b_M_isSo 50 = .ok (.ireturn, 1) := by decide +kernel
theorem d_M_isSort_0 : decode b_M_isSort 0 = .ok (.aload_n 0, 1) := by decide +kernel
theorem d_M_isSort_1 : decode b_M_isSort 1 = .ok (.getfield 77, 3) := by decide +kernel
theorem d_M_isSort_4 : decode b_M_isSort 4 = .ok (.aload_n 0, 1) := by decide +kernel
theorem d_M_isSort_5 : decode b_M_isSort 5 = .ok (.getfield 73, 3) := by decide +kernel
theorem d_M_isSort_8 : decode b_M_isSort 8 = .ok (.if_icmp .ge 22, 3) := by decide +kernel
theorem d_M_isSort_11 : decode b_M_isSort 11 = .ok (.aload_n 0, 1) := by decide +kernel
theorem d_M_isSort_12 : decode b_M_isSort 12 = .ok (.getfield 26, 3) := by decide +kernel
theorem d_M_isSort_15 : decode b_M_isSort 15 = .ok (.aload_n 0, 1) := by decide +kernel
theorem d_M_isSort_16 : decode b_M_isSort 16 = .ok (.getfield 77, 3) := by decide +kernel
theorem d_M_isSort_19 : decode b_M_isSort 19 = .ok (.iaload, 1) := by decide +kernel
theorem d_M_isSort_20 : decode b_M_isSort 20 = .ok (.invokestatic 106, 3) := by decide +kernel
theorem d_M_isSort_23 : decode b_M_isSort 23 = .ok (.ifCond .le 7, 3) := by decide +kernel
theorem d_M_isSort_26 : decode b_M_isSort 26 = .ok (.iconst 1, 1) := by decide +kernel
theorem d_M_isSort_27 : decode b_M_isSort 27 = .ok (.goto 4, 3) := by decide +kernel
theorem d_M_isSort_30 : decode b_M_isSort 30 = .ok (.iconst 0, 1) := by decide +kernel
theorem d_M_isSort_31 : decode b_M_isSort 31 = .ok (.ireturn, 1) := by decide +kernel
theorem d_M_isSpan_0 : decode b_M_isSpan 0 = .ok (.iload_n 2, 1) := by decide +kernel
theorem d_M_isSpan_1 : decode b_M_isSpan 1 = .ok (.ifCond .lt 27, 3) := by decide +kernel
theorem d_M_isSpan_4 : decode b_M_isSpan 4 = .ok (.iload_n 3, 1) := by decide +kernel
theorem d_M_isSpan_5 : decode b_M_isSpan 5 = .ok (.ifCond .lt 23, 3) := by decide +kernel
theorem d_M_isSpan_8 : decode b_M_isSpan 8 = .ok (.iload_n 2, 1) := by decide +kernel
theorem d_M_isSpan_9 : decode b_M_isSpan 9 = .ok (.i2l, 1) := by decide +kernel
theorem d_M_isSpan_10 : decode b_M_isSpan 10 = .ok (.iload_n 3, 1) := by decide +kernel
theorem d_M_isSpan_11 : decode b_M_isSpan 11 = .ok (.i2l, 1) := by decide +kernel
theorem d_M_isSpan_12 : decode b_M_isSpan 12 = .ok (.ladd, 1) := by decide +kernel
theorem d_M_isSpan_13 : decode b_M_isSpan 13 = .ok (.aload_n 0, 1) := by decide +kernel
theorem d_M_isSpan_14 : decode b_M_isSpan 14 = .ok (.getfield 20, 3) := by decide +kernel
theorem d_M_isSpan_17 : decode b_M_isSpan 17 = .ok (.iload_n 1, 1) := by decide +kernel
theorem d_M_isSpan_18 : decode b_M_isSpan 18 = .ok (.iaload, 1) := by decide +kernel
theorem d_M_isSpan_19 : decode b_M_isSpan 19 = .ok (.i2l, 1) := by decide +kernel
theorem d_M_isSpan_20 : decode b_M_isSpan 20 = .ok (.lcmp, 1) := by decide +kernel
theorem d_M_isSpan_21 : decode b_M_isSpan 21 = .ok (.ifCond .gt 7, 3) := by decide +kernel
theorem d_M_isSpan_24 : decode b_M_isSpan 24 = .ok (.iconst 1, 1) := by decide +kernel
theorem d_M_isSpan_25 : decode b_M_isSpan 25 = .ok (.goto 4, 3) := by decide +kernel
theorem d_M_isSpan_28 : decode b_M_isSpan 28 = .ok (.iconst 0, 1) := by decide +kernel
theorem d_M_isSpan_29 : decode b_M_isSpan 29 = .ok (.ireturn, 1) := by decide +kernel
theorem d_M_keepPast_0 : decode b_M_keepPast 0 = .ok (.iconst 0, 1) := by decide +kernel
theorem d_M_keepPast_1 : decode b_M_keepPast 1 = .ok (.istore_n 1, 1) := by decide +kernel
theorem d_M_keepPast_2 : decode b_M_keepPast 2 = .ok (.iload_n 1, 1) := by decide +kernel
theorem d_M_keepPast_3 : decode b_M_keepPast 3 = .ok (.sipush 828, 3) := by decide +kernel
theorem d_M_keepPast_6 : decode b_M_keepPast 6 = .ok (.if_icmp .ge 36, 3) := by decide +kernel
theorem d_M_keepPast_9 : decode b_M_keepPast 9 = .ok (.aload_n 0, 1) := by decide +kernel
theorem d_M_keepPast_10 : decode b_M_keepPast 10 = .ok (.getfield 134, 3) := by decide +kernel
theorem d_M_keepPast_13 : decode b_M_keepPast 13 = .ok (.bipush 24, 2) := by decide +kernel
theorem d_M_keepPast_15 : decode b_M_keepPast 15 = .ok (.if_icmp .ne 27, 3) := by decide +kernel
theorem d_M_keepPast_18 : decode b_M_keepPast 18 = .ok (.aload_n 0, 1) := by decide +kernel
theorem d_M_keepPast_19 : decode b_M_keepPast 19 = .ok (.getfield 7, 3) := by decide +kernel
theorem d_M_keepPast_22 : decode b_M_keepPast 22 = .ok (.bipush 36, 2) := by decide +kernel
theorem d_M_keepPast_24 : decode b_M_keepPast 24 = .ok (.iload_n 1, 1) := by decide +kernel
theorem d_M_keepPast_25 : decode b_M_keepPast 25 = .ok (.iadd, 1) := by decide +kernel
theorem d_M_keepPast_26 : decode b_M_keepPast 26 = .ok (.aload_n 0, 1) := by decide +kernel
theorem d_M_keepPast_27 : decode b_M_keepPast 27 = .ok (.getfield 7, 3) := by decide +kernel
theorem d_M_keepPast_30 : decode b_M_keepPast 30 = .ok (.bipush 72, 2) := by decide +kernel
theorem d_M_keepPast_32 : decode b_M_keepPast 32 = .ok (.iload_n 1, 1) := by decide +kernel
theorem d_M_keepPast_33 : decode b_M_keepPast 33 = .ok (.iadd, 1) := by decide +kernel
theorem d_M_keepPast_34 : decode b_M_keepPast 34 = .ok (.iaload, 1) := by decide +kernel
theorem d_M_keepPast_35 : decode b_M_keepPast 35 = .ok (.iastore, 1) := by decide +kernel
theorem d_M_keepPast_36 : decode b_M_keepPast 36 = .ok (.iinc 1 1, 3) := by decide +kernel
theorem d_M_keepPast_39 : decode b_M_keepPast 39 = .ok (.goto (-37), 3) := by decide +kernel
theorem d_M_keepPast_42 : decode b_M_keepPast 42 = .ok (.aload_n 0, 1) := by decide +kernel
theorem d_M_keepPast_43 : decode b_M_keepPast 43 = .ok (.dup, 1) := by decide +kernel
theorem d_M_keepPast_44 : decode b_M_keepPast 44 = .ok (.getfield 134, 3) := by decide +kernel
theorem d_M_keepPast_47 : decode b_M_keepPast 47 = .ok (.aload_n 0, 1) := by decide +kernel
theorem d_M_keepPast_48 : decode b_M_keepPast 48 = .ok (.getfield 134, 3) := by decide +kernel
theorem d_M_keepPast_51 : decode b_M_keepPast 51 = .ok (.bipush 24, 2) := by decide +kernel
theorem d_M_keepPast_53 : decode b_M_keepPast 53 = .ok (.if_icmp .ne 7, 3) := by decide +kernel
theorem d_M_keepPast_56 : decode b_M_keepPast 56 = .ok (.iconst 1, 1) := by decide +kernel
theorem d_M_keepPast_57 : decode b_M_keepPast 57 = .ok (.goto 4, 3) := by decide +kernel
theorem d_M_keepPast_60 : decode b_M_keepPast 60 = .ok (.iconst 0, 1) := by decide +kernel
theorem d_M_keepPast_61 : decode b_M_keepPast 61 = .ok (.isub, 1) := by decide +kernel
theorem d_M_keepPast_62 : decode b_M_keepPast 62 = .ok (.putfield 134, 3) := by decide +kernel
theorem d_M_keepPast_65 : decode b_M_keepPast 65 = .ok (.aload_n 0, 1) := by decide +kernel
theorem d_M_keepPast_66 : decode b_M_keepPast 66 = .ok (.iconst 0, 1) := by decide +kernel
theorem d_M_keepPast_67 : decode b_M_keepPast 67 = .ok (.bipush 36, 2) := by decide +kernel
theorem d_M_keepPast_69 : decode b_M_keepPast 69 = .ok (.bipush 36, 2) := by decide +kernel
theorem d_M_keepPast_71 : decode b_M_keepPast 71 = .ok (.aload_n 0, 1) := by decide +kernel
theorem d_M_keepPast_72 : decode b_M_keepPast 72 = .ok (.getfield 134, 3) := by decide +kernel
theorem d_M_keepPast_75 : decode b_M_keepPast 75 = .ok (.imul, 1) := by decide +kernel
theorem d_M_keepPast_76 : decode b_M_keepPast 76 = .ok (.iadd, 1) := by decide +kernel
theorem d_M_keepPast_77 : decode b_M_keepPast 77 = .ok (.invokevirtual 126, 3) := by decide +kernel
theorem d_M_keepPast_80 : decode b_M_keepPast 80 = .ok (.aload_n 0, 1) := by decide +kernel
theorem d_M_keepPast_81 : decode b_M_keepPast 81 = .ok (.dup, 1) := by decide +kernel
theorem d_M_keepPast_82 : decode b_M_keepPast 82 = .ok (.getfield 134, 3) := by decide +kernel
theorem d_M_keepPast_85 : decode b_M_keepPast 85 = .ok (.iconst 1, 1) := by decide +kernel
theorem d_M_keepPast_86 : decode b_M_keepPast 86 = .ok (.iadd, 1) := by decide +kernel
theorem d_M_keepPast_87 : decode b_M_keepPast 87 = .ok (.putfield 134, 3) := by decide +kernel
theorem d_M_keepPast_90 : decode b_M_keepPast 90 = .ok (.return_, 1) := by decide +kernel
theorem d_M_kind_0 : decode b_M_kind 0 = .ok (.aload_n 0, 1) := by decide +kernel
theorem d_M_kind_1 : decode b_M_kind 1 = .ok (.iload_n 1, 1) := by decide +kernel
theorem d_M_kind_2 : decode b_M_kind 2 = .ok (.invokevirtual 175, 3) := by decide +kernel
theorem d_M_kind_5 : decode b_M_kind 5 = .ok (.ifCond .eq 15, 3) := by decide +kernel
theorem d_M_kind_8 : decode b_M_kind 8 = .ok (.aload_n 0, 1) := by decide +kernel
theorem d_M_kind_9 : decode b_M_kind 9 = .ok (.getfield 7, 3) := by decide +kernel
theorem d_M_kind_12 : decode b_M_kind 12 = .ok (.bipush 6, 2) := by decide +kernel
theorem d_M_kind_14 : decode b_M_kind 14 = .ok (.iload_n 1, 1) := by decide +kernel
theorem d_M_kind_15 : decode b_M_kind 15 = .ok (.iadd, 1) := by decide +kernel
theorem d_M_kind_16 : decode b_M_kind 16 = .ok (.iaload, 1) := by decide +kernel
theorem d_M_kind_17 : decode b_M_kind 17 = .ok (.goto 5, 3) := by decide +kernel
theorem d_M_kind_20 : decode b_M_kind 20 = .ok (.ldc 55, 2) := by decide +kernel
theorem d_M_kind_22 : decode b_M_kind 22 = .ok (.ireturn, 1) := by decide +kernel
theorem d_M_kindOfLetter_0 : decode b_M_kindOfLetter 0 = .ok (.iload_n 0, 1) := by decide +kernel
theorem d_M_kindOfLetter_1 : decode b_M_kindOfLetter 1 = .ok (.bipush 98, 2) := by decide +kernel
theorem d_M_kindOfLetter_3 : decode b_M_kindOfLetter 3 = .ok (.if_icmp .ne 7, 3) := by decide +kernel
theorem d_M_kindOfLetter_6 : decode b_M_kindOfLetter 6 = .ok (.iconst 1, 1) := by decide +kernel
theorem d_M_kindOfLetter_7 : decode b_M_kindOfLetter 7 = .ok (.goto 44, 3) := by decide +kernel
theorem d_M_kindOfLetter_10 : decode b_M_kindOfLetter 10 = .ok (.iload_n 0, 1) := by decide +kernel
theorem d_M_kindOfLetter_11 : decode b_M_kindOfLetter 11 = .ok (.bipush 100, 2) := by decide +kernel
theorem d_M_kindOfLetter_13 : decode b_M_kindOfLetter 13 = .ok (.if_icmp .ne 7, 3) := by decide +kernel
theorem d_M_kindOfLetter_16 : decode b_M_kindOfLetter 16 = .ok (.iconst 2, 1) := by decide +kernel
theorem d_M_kindOfLetter_17 : decode b_M_kindOfLetter 17 = .ok (.goto 34, 3) := by decide +kernel
theorem d_M_kindOfLetter_20 : decode b_M_kindOfLetter 20 = .ok (.iload_n 0, 1) := by decide +kernel
theorem d_M_kindOfLetter_21 : decode b_M_kindOfLetter 21 = .ok (.bipush 115, 2) := by decide +kernel
theorem d_M_kindOfLetter_23 : decode b_M_kindOfLetter 23 = .ok (.if_icmp .ne 7, 3) := by decide +kernel
theorem d_M_kindOfLetter_26 : decode b_M_kindOfLetter 26 = .ok (.iconst 3, 1) := by decide +kernel
theorem d_M_kindOfLetter_27 : decode b_M_kindOfLetter 27 = .ok (.goto 24, 3) := by decide +kernel
theorem d_M_kindOfLetter_30 : decode b_M_kindOfLetter 30 = .ok (.iload_n 0, 1) := by decide +kernel
theorem d_M_kindOfLetter_31 : decode b_M_kindOfLetter 31 = .ok (.bipush 110, 2) := by decide +kernel
theorem d_M_kindOfLetter_33 : decode b_M_kindOfLetter 33 = .ok (.if_icmp .ne 7, 3) := by decide +kernel
theorem d_M_kindOfLetter_36 : decode b_M_kindOfLetter 36 = .ok (.iconst 4, 1) := by decide +kernel
theorem d_M_kindOfLetter_37 : decode b_M_kindOfLetter 37 = .ok (.goto 14, 3) := by decide +kernel
theorem d_M_kindOfLetter_40 : decode b_M_kindOfLetter 40 = .ok (.iload_n 0, 1) := by decide +kernel
theorem d_M_kindOfLetter_41 : decode b_M_kindOfLetter 41 = .ok (.bipush 101, 2) := by decide +kernel
theorem d_M_kindOfLetter_43 : decode b_M_kindOfLetter 43 = .ok (.if_icmp .ne 7, 3) := by decide +kernel
theorem d_M_kindOfLetter_46 : decode b_M_kindOfLetter 46 = .ok (.iconst 5, 1) := by decide +kernel
theorem d_M_kindOfLetter_47 : decode b_M_kindOfLetter 47 = .ok (.goto 4, 3) := by decide +kernel
theorem d_M_kindOfLetter_50 : decode b_M_kindOfLetter 50 = .ok (.iconst 0, 1) := by decide +kernel
theorem d_M_kindOfLetter_51 : decode b_M_kindOfLetter 51 = .ok (.ireturn, 1) := by decide +kernel
theorem d_M_layTried_0 : decode b_M_layTried 0 = .ok (.aload_n 0, 1) := by decide +kernel
theorem d_M_layTried_1 : decode b_M_layTried 1 = .ok (.iconst 0, 1) := by decide +kernel
theorem d_M_layTried_2 : decode b_M_layTried 2 = .ok (.sipush 972, 3) := by decide +kernel
theorem d_M_layTried_5 : decode b_M_layTried 5 = .ok (.invokevirtual 126, 3) := by decide +kernel
theorem d_M_layTried_8 : decode b_M_layTried 8 = .ok (.return_, 1) := by decide +kernel
theorem d_M_lentMark_0 : decode b_M_lentMark 0 = .ok (.aload_n 0, 1) := by decide +kernel
theorem d_M_lentMark_1 : decode b_M_lentMark 1 = .ok (.bipush 20, 2) := by decide +kernel
theorem d_M_lentMark_3 : decode b_M_lentMark 3 = .ok (.invokevirtual 250, 3) := by decide +kernel
theorem d_M_lentMark_6 : decode b_M_lentMark 6 = .ok (.iload_n 1, 1) := by decide +kernel
theorem d_M_lentMark_7 : decode b_M_lentMark 7 = .ok (.ireturn, 1) := by decide +kernel
theorem d_M_lentSize_0 : decode b_M_lentSize 0 = .ok (.aload_n 0, 1) := by decide +kernel
theorem d_M_lentSize_1 : decode b_M_lentSize 1 = .ok (.bipush 10, 2) := by decide +kernel
theorem d_M_lentSize_3 : decode b_M_lentSize 3 = .ok (.invokevirtual 250, 3) := by decide +kernel
theorem d_M_lentSize_6 : decode b_M_lentSize 6 = .ok (.aload_n 0, 1) := by decide +kernel
theorem d_M_lentSize_7 : decode b_M_lentSize 7 = .ok (.getfield 7, 3) := by decide +kernel
theorem d_M_lentSize_10 : decode b_M_lentSize 10 = .ok (.bipush 18, 2) := by decide +kernel
theorem d_M_lentSize_12 : decode b_M_lentSize 12 = .ok (.iload_n 1, 1) := by decide +kernel
theorem d_M_lentSize_13 : decode b_M_lentSize 13 = .ok (.iadd, 1) := by decide +kernel
theorem d_M_lentSize_14 : decode b_M_lentSize 14 = .ok (.iaload, 1) := by decide +kernel
theorem d_M_lentSize_15 : decode b_M_lentSize 15 = .ok (.ireturn, 1) := by decide +kernel
theorem d_M_letter_0 : decode b_M_letter 0 = .ok (.aload_n 0, 1) := by decide +kernel
theorem d_M_letter_1 : decode b_M_letter 1 = .ok (.iload_n 1, 1) := by decide +kernel
theorem d_M_letter_2 : decode b_M_letter 2 = .ok (.invokevirtual 175, 3) := by decide +kernel
theorem d_M_letter_5 : decode b_M_letter 5 = .ok (.ifCond .ne 6, 3) := by decide +kernel
theorem d_M_letter_8 : decode b_M_letter 8 = .ok (.ldc 55, 2) := by decide +kernel
theorem d_M_letter_10 : decode b_M_letter 10 = .ok (.ireturn, 1) := by decide +kernel
theorem d_M_letter_11 : decode b_M_letter 11 = .ok (.iload_n 2, 1) := by decide +kernel
theorem d_M_letter_12 : decode b_M_letter 12 = .ok (.tableswitch 98 0 5 #[40, 50, 60, 70, 81, 91], 40) := by decide +kernel
theorem d_M_letter_52 : decode b_M_letter 52 = .ok (.aload_n 0, 1) := by decide +kernel
theorem d_M_letter_53 : decode b_M_letter 53 = .ok (.getfield 7, 3) := by decide +kernel
theorem d_M_letter_56 : decode b_M_letter 56 = .ok (.bipush 12, 2) := by decide +kernel
theorem d_M_letter_58 : decode b_M_letter 58 = .ok (.iload_n 1, 1) := by decide +kernel
theorem d_M_letter_59 : decode b_M_letter 59 = .ok (.iadd, 1) := by decide +kernel
theorem d_M_letter_60 : decode b_M_letter 60 = .ok (.iaload, 1) := by decide +kernel
theorem d_M_letter_61 : decode b_M_letter 61 = .ok (.ireturn, 1) := by decide +kernel
theorem d_M_letter_62 : decode b_M_letter 62 = .ok (.aload_n 0, 1) := by decide +kernel
theorem d_M_letter_63 : decode b_M_letter 63 = .ok (.getfield 7, 3) := by decide +kernel
theorem d_M_letter_66 : decode b_M_letter 66 = .ok (.bipush 18, 2) := by decide +kernel
theorem d_M_letter_68 : decode b_M_letter 68 = .ok (.iload_n 1, 1) := by decide +kernel
theorem d_M_letter_69 : decode b_M_letter 69 = .ok (.iadd, 1) := by decide +kernel
theorem d_M_letter_70 : decode b_M_letter 70 = .ok (.iaload, 1) := by decide +kernel
theorem d_M_letter_71 : decode b_M_letter 71 = .ok (.ireturn, 1) := by decide +kernel
theorem d_M_letter_72 : decode b_M_letter 72 = .ok (.aload_n 0, 1) := by decide +kernel
theorem d_M_letter_73 : decode b_M_letter 73 = .ok (.getfield 7, 3) := by decide +kernel
theorem d_M_letter_76 : decode b_M_letter 76 = .ok (.bipush 24, 2) := by decide +kernel
theorem d_M_letter_78 : decode b_M_letter 78 = .ok (.iload_n 1, 1) := by decide +kernel
theorem d_M_letter_79 : decode b_M_letter 79 = .ok (.iadd, 1) := by decide +kernel
theorem d_M_letter_80 : decode b_M_letter 80 = .ok (.iaload, 1) := by decide +kernel
theorem d_M_letter_81 : decode b_M_letter 81 = .ok (.ireturn, 1) := by decide +kernel
theorem d_M_letter_82 : decode b_M_letter 82 = .ok (.aload_n 0, 1) := by decide +kernel
theorem d_M_letter_83 : decode b_M_letter 83 = .ok (.getfield 7, 3) := by decide +kernel
theorem d_M_letter_86 : decode b_M_letter 86 = .ok (.iconst 3, 1) := by decide +kernel
theorem d_M_letter_87 : decode b_M_letter 87 = .ok (.iaload, 1) := by decide +kernel
theorem d_M_letter_88 : decode b_M_letter 88 = .ok (.iload_n 1, 1) := by decide +kernel
theorem d_M_letter_89 : decode b_M_letter 89 = .ok (.ishr, 1) := by decide +kernel
theorem d_M_letter_90 : decode b_M_letter 90 = .ok (.iconst 1, 1) := by decide +kernel
theorem d_M_letter_91 : decode b_M_letter 91 = .ok (.iand, 1) := by decide +kernel
theorem d_M_letter_92 : decode b_M_letter 92 = .ok (.ireturn, 1) := by decide +kernel
theorem d_M_letter_93 : decode b_M_letter 93 = .ok (.aload_n 0, 1) := by decide +kernel
theorem d_M_letter_94 : decode b_M_letter 94 = .ok (.getfield 7, 3) := by decide +kernel
theorem d_M_letter_97 : decode b_M_letter 97 = .ok (.bipush 30, 2) := by decide +kernel
theorem d_M_letter_99 : decode b_M_letter 99 = .ok (.iload_n 1, 1) := by decide +kernel
theorem d_M_letter_100 : decode b_M_letter 100 = .ok (.iadd, 1) := by decide +kernel
theorem d_M_letter_101 : decode b_M_letter 101 = .ok (.iaload, 1) := by decide +kernel
theorem d_M_letter_102 : decode b_M_letter 102 = .ok (.ireturn, 1) := by decide +kernel
theorem d_M_letter_103 : decode b_M_letter 103 = .ok (.aload_n 0, 1) := by decide +kernel
theorem d_M_letter_104 : decode b_M_letter 104 = .ok (.iconst 0, 1) := by decide +kernel
theorem d_M_letter_105 : decode b_M_letter 105 = .ok (.iload_n 1, 1) := by decide +kernel
theorem d_M_letter_106 : decode b_M_letter 106 = .ok (.invokevirtual 144, 3) := by decide +kernel
theorem d_M_letter_109 : decode b_M_letter 109 = .ok (.ireturn, 1) := by decide +kernel
theorem d_M_letter_110 : decode b_M_letter 110 = .ok (.ldc 55, 2) := by decide +kernel
theorem d_M_letter_112 : decode b_M_letter 112 = .ok (.ireturn, 1) := by decide +kernel
theorem d_M_lost_0 : decode b_M_lost 0 = .ok (.aload_n 0, 1) := by decide +kernel
theorem d_M_lost_1 : decode b_M_lost 1 = .ok (.getfield 130, 3) := by decide +kernel
theorem d_M_lost_4 : decode b_M_lost 4 = .ok (.ifCond .ne 6, 3) := by decide +kernel
theorem d_M_lost_7 : decode b_M_lost 7 = .ok (.ldc 137, 2) := by decide +kernel
theorem d_M_lost_9 : decode b_M_lost 9 = .ok (.ireturn, 1) := by decide +kernel
theorem d_M_lost_10 : decode b_M_lost 10 = .ok (.iload_n 1, 1) := by decide +kernel
theorem d_M_lost_11 : decode b_M_lost 11 = .ok (.i2l, 1) := by decide +kernel
theorem d_M_lost_12 : decode b_M_lost 12 = .ok (.lconst 0, 1) := by decide +kernel
theorem d_M_lost_13 : decode b_M_lost 13 = .ok (.ldc2_w 223, 3) := by decide +kernel
theorem d_M_lost_16 : decode b_M_lost 16 = .ok (.invokestatic 45, 3) := by decide +kernel
theorem d_M_lost_19 : decode b_M_lost 19 = .ok (.ifCond .eq 25, 3) := by decide +kernel
theorem d_M_lost_22 : decode b_M_lost 22 = .ok (.iload_n 2, 1) := by decide +kernel
theorem d_M_lost_23 : decode b_M_lost 23 = .ok (.i2l, 1) := by decide +kernel
theorem d_M_lost_24 : decode b_M_lost 24 = .ok (.lconst 0, 1) := by decide +kernel
theorem d_M_lost_25 : decode b_M_lost 25 = .ok (.ldc2_w 234, 3) := by decide +kernel
theorem d_M_lost_28 : decode b_M_lost 28 = .ok (.invokestatic 45, 3) := by decide +kernel
theorem d_M_lost_31 : decode b_M_lost 31 = .ok (.ifCond .eq 13, 3) := by decide +kernel
theorem d_M_lost_34 : decode b_M_lost 34 = .ok (.iload_n 3, 1) := by decide +kernel
theorem d_M_lost_35 : decode b_M_lost 35 = .ok (.i2l, 1) := by decide +kernel
theorem d_M_lost_36 : decode b_M_lost 36 = .ok (.lconst 0, 1) := by decide +kernel
theorem d_M_lost_37 : decode b_M_lost 37 = .ok (.lconst 1, 1) := by decide +kernel
theorem d_M_lost_38 : decode b_M_lost 38 = .ok (.invokestatic 45, 3) := by decide +kernel
theorem d_M_lost_41 : decode b_M_lost 41 = .ok (.ifCond .ne 6, 3) := by decide +kernel
theorem d_M_lost_44 : decode b_M_lost 44 = .ok (.ldc 55, 2) := by decide +kernel
theorem d_M_lost_46 : decode b_M_lost 46 = .ok (.ireturn, 1) := by decide +kernel
theorem d_M_lost_47 : decode b_M_lost 47 = .ok (.iconst 0, 1) := by decide +kernel
theorem d_M_lost_48 : decode b_M_lost 48 = .ok (.istore 4, 2) := by decide +kernel
theorem d_M_lost_50 : decode b_M_lost 50 = .ok (.iconst 0, 1) := by decide +kernel
theorem d_M_lost_51 : decode b_M_lost 51 = .ok (.istore 5, 2) := by decide +kernel
theorem d_M_lost_53 : decode b_M_lost 53 = .ok (.iconst 0, 1) := by decide +kernel
theorem d_M_lost_54 : decode b_M_lost 54 = .ok (.istore 6, 2) := by decide +kernel
theorem d_M_lost_56 : decode b_M_lost 56 = .ok (.iload 6, 2) := by decide +kernel
theorem d_M_lost_58 : decode b_M_lost 58 = .ok (.bipush 64, 2) := by decide +kernel
theorem d_M_lost_60 : decode b_M_lost 60 = .ok (.if_icmp .ge 135, 3) := by decide +kernel
theorem d_M_lost_63 : decode b_M_lost 63 = .ok (.iload 6, 2) := by decide +kernel
theorem d_M_lost_65 : decode b_M_lost 65 = .ok (.aload_n 0, 1) := by decide +kernel
theorem d_M_lost_66 : decode b_M_lost 66 = .ok (.getfield 7, 3) := by decide +kernel
theorem d_M_lost_69 : decode b_M_lost 69 = .ok (.iconst 3, 1) := by decide +kernel
theorem d_M_lost_70 : decode b_M_lost 70 = .ok (.iaload, 1) := by decide +kernel
theorem d_M_lost_71 : decode b_M_lost 71 = .ok (.iconst (-1), 1) := by decide +kernel
theorem d_M_lost_72 : decode b_M_lost 72 = .ok (.ixor, 1) := by decide +kernel
theorem d_M_lost_73 : decode b_M_lost 73 = .ok (.iand, 1) := by decide +kernel
theorem d_M_lost_74 : decode b_M_lost 74 = .ok (.ifCond .ne 7, 3) := by decide +kernel
theorem d_M_lost_77 : decode b_M_lost 77 = .ok (.iconst 1, 1) := by decide +kernel
theorem d_M_lost_78 : decode b_M_lost 78 = .ok (.goto 4, 3) := by decide +kernel
theorem d_M_lost_81 : decode b_M_lost 81 = .ok (.iconst 0, 1) := by decide +kernel
theorem d_M_lost_82 : decode b_M_lost 82 = .ok (.istore 7, 2) := by decide +kernel
theorem d_M_lost_84 : decode b_M_lost 84 = .ok (.iconst 0, 1) := by decide +kernel
theorem d_M_lost_85 : decode b_M_lost 85 = .ok (.istore 8, 2) := by decide +kernel
theorem d_M_lost_87 : decode b_M_lost 87 = .ok (.iload 8, 2) := by decide +kernel
theorem d_M_lost_89 : decode b_M_lost 89 = .ok (.bipush 6, 2) := by decide +kernel
theorem d_M_lost_91 : decode b_M_lost 91 = .ok (.if_icmp .ge 50, 3) := by decide +kernel
theorem d_M_lost_94 : decode b_M_lost 94 = .ok (.iload 7, 2) := by decide +kernel
theorem d_M_lost_96 : decode b_M_lost 96 = .ok (.aload_n 0, 1) := by decide +kernel
theorem d_M_lost_97 : decode b_M_lost 97 = .ok (.getfield 7, 3) := by decide +kernel
theorem d_M_lost_100 : decode b_M_lost 100 = .ok (.iconst 3, 1) := by decide +kernel
theorem d_M_lost_101 : decode b_M_lost 101 = .ok (.iaload, 1) := by decide +kernel
theorem d_M_lost_102 : decode b_M_lost 102 = .ok (.iload 8, 2) := by decide +kernel
theorem d_M_lost_104 : decode b_M_lost 104 = .ok (.invokestatic 138, 3) := by decide +kernel
theorem d_M_lost_107 : decode b_M_lost 107 = .ok (.ifCond .eq 24, 3) := by decide +kernel
theorem d_M_lost_110 : decode b_M_lost 110 = .ok (.iload 6, 2) := by decide +kernel
theorem d_M_lost_112 : decode b_M_lost 112 = .ok (.iload 8, 2) := by decide +kernel
theorem d_M_lost_114 : decode b_M_lost 114 = .ok (.invokestatic 138, 3) := by decide +kernel
theorem d_M_lost_117 : decode b_M_lost 117 = .ok (.ifCond .eq 7, 3) := by decide +kernel
theorem d_M_lost_120 : decode b_M_lost 120 = .ok (.iload_n 2, 1) := by decide +kernel
theorem d_M_lost_121 : decode b_M_lost 121 = .ok (.goto 11, 3) := by decide +kernel
theorem d_M_lost_124 : decode b_M_lost 124 = .ok (.bipush 10, 2) := by decide +kernel
theorem d_M_lost_126 : decode b_M_lost 126 = .ok (.iload_n 2, 1) := by decide +kernel
theorem d_M_lost_127 : decode b_M_lost 127 = .ok (.isub, 1) := by decide +kernel
theorem d_M_lost_128 : decode b_M_lost 128 = .ok (.goto 4, 3) := by decide +kernel
theorem d_M_lost_131 : decode b_M_lost 131 = .ok (.iconst 1, 1) := by decide +kernel
theorem d_M_lost_132 : decode b_M_lost 132 = .ok (.imul, 1) := by decide +kernel
theorem d_M_lost_133 : decode b_M_lost 133 = .ok (.istore 7, 2) := by decide +kernel
theorem d_M_lost_135 : decode b_M_lost 135 = .ok (.iinc 8 1, 3) := by decide +kernel
theorem d_M_lost_138 : decode b_M_lost 138 = .ok (.goto (-51), 3) := by decide +kernel
theorem d_M_lost_141 : decode b_M_lost 141 = .ok (.aload_n 0, 1) := by decide +kernel
theorem d_M_lost_142 : decode b_M_lost 142 = .ok (.invokevirtual 188, 3) := by decide +kernel
theorem d_M_lost_145 : decode b_M_lost 145 = .ok (.aload_n 0, 1) := by decide +kernel
theorem d_M_lost_146 : decode b_M_lost 146 = .ok (.getfield 7, 3) := by decide +kernel
theorem d_M_lost_149 : decode b_M_lost 149 = .ok (.sipush 975, 3) := by decide +kernel
theorem d_M_lost_152 : decode b_M_lost 152 = .ok (.dup2, 1) := by decide +kernel
theorem d_M_lost_153 : decode b_M_lost 153 = .ok (.iaload, 1) := by decide +kernel
theorem d_M_lost_154 : decode b_M_lost 154 = .ok (.iload 6, 2) := by decide +kernel
theorem d_M_lost_156 : decode b_M_lost 156 = .ok (.iconst (-1), 1) := by decide +kernel
theorem d_M_lost_157 : decode b_M_lost 157 = .ok (.ixor, 1) := by decide +kernel
theorem d_M_lost_158 : decode b_M_lost 158 = .ok (.iand, 1) := by decide +kernel
theorem d_M_lost_159 : decode b_M_lost 159 = .ok (.iastore, 1) := by decide +kernel
theorem d_M_lost_160 : decode b_M_lost 160 = .ok (.iload 4, 2) := by decide +kernel
theorem d_M_lost_162 : decode b_M_lost 162 = .ok (.aload_n 0, 1) := by decide +kernel
theorem d_M_lost_163 : decode b_M_lost 163 = .ok (.sipush 972, 3) := by decide +kernel
theorem d_M_lost_166 : decode b_M_lost 166 = .ok (.invokevirtual 157, 3) := by decide +kernel
theorem d_M_lost_169 : decode b_M_lost 169 = .ok (.iload_n 1, 1) := by decide +kernel
theorem d_M_lost_170 : decode b_M_lost 170 = .ok (.if_icmp .gt 8, 3) := by decide +kernel
theorem d_M_lost_173 : decode b_M_lost 173 = .ok (.iload 7, 2) := by decide +kernel
theorem d_M_lost_175 : decode b_M_lost 175 = .ok (.goto 4, 3) := by decide +kernel
theorem d_M_lost_178 : decode b_M_lost 178 = .ok (.iconst 0, 1) := by decide +kernel
theorem d_M_lost_179 : decode b_M_lost 179 = .ok (.iadd, 1) := by decide +kernel
theorem d_M_lost_180 : decode b_M_lost 180 = .ok (.istore 4, 2) := by decide +kernel
theorem d_M_lost_182 : decode b_M_lost 182 = .ok (.iload 5, 2) := by decide +kernel
theorem d_M_lost_184 : decode b_M_lost 184 = .ok (.iload 7, 2) := by decide +kernel
theorem d_M_lost_186 : decode b_M_lost 186 = .ok (.iadd, 1) := by decide +kernel
theorem d_M_lost_187 : decode b_M_lost 187 = .ok (.istore 5, 2) := by decide +kernel
theorem d_M_lost_189 : decode b_M_lost 189 = .ok (.iinc 6 1, 3) := by decide +kernel
theorem d_M_lost_192 : decode b_M_lost 192 = .ok (.goto (-136), 3) := by decide +kernel
theorem d_M_lost_195 : decode b_M_lost 195 = .ok (.iload 4, 2) := by decide +kernel
theorem d_M_lost_197 : decode b_M_lost 197 = .ok (.istore 6, 2) := by decide +kernel
theorem d_M_lost_199 : decode b_M_lost 199 = .ok (.iload 5, 2) := by decide +kernel
theorem d_M_lost_201 : decode b_M_lost 201 = .ok (.istore 7, 2) := by decide +kernel
theorem d_M_lost_203 : decode b_M_lost 203 = .ok (.iload 7, 2) := by decide +kernel
theorem d_M_lost_205 : decode b_M_lost 205 = .ok (.ifCond .eq 21, 3) := by decide +kernel
theorem d_M_lost_208 : decode b_M_lost 208 = .ok (.iload 6, 2) := by decide +kernel
theorem d_M_lost_210 : decode b_M_lost 210 = .ok (.iload 7, 2) := by decide +kernel
theorem d_M_lost_212 : decode b_M_lost 212 = .ok (.irem, 1) := by decide +kernel
theorem d_M_lost_213 : decode b_M_lost 213 = .ok (.istore 8, 2) := by decide +kernel
theorem d_M_lost_215 : decode b_M_lost 215 = .ok (.iload 7, 2) := by decide +kernel
theorem d_M_lost_217 : decode b_M_lost 217 = .ok (.istore 6, 2) := by decide +kernel
theorem d_M_lost_219 : decode b_M_lost 219 = .ok (.iload 8, 2) := by decide +kernel
theorem d_M_lost_221 : decode b_M_lost 221 = .ok (.istore 7, 2) := by decide +kernel
theorem d_M_lost_223 : decode b_M_lost 223 = .ok (.goto (-20), 3) := by decide +kernel
theorem d_M_lost_226 : decode b_M_lost 226 = .ok (.iload_n 3, 1) := by decide +kernel
theorem d_M_lost_227 : decode b_M_lost 227 = .ok (.ifCond .ne 11, 3) := by decide +kernel
theorem d_M_lost_230 : decode b_M_lost 230 = .ok (.iload 4, 2) := by decide +kernel
theorem d_M_lost_232 : decode b_M_lost 232 = .ok (.iload 6, 2) := by decide +kernel
theorem d_M_lost_234 : decode b_M_lost 234 = .ok (.idiv, 1) := by decide +kernel
theorem d_M_lost_235 : decode b_M_lost 235 = .ok (.goto 8, 3) := by decide +kernel
theorem d_M_lost_238 : decode b_M_lost 238 = .ok (.iload 5, 2) := by decide +kernel
theorem d_M_lost_240 : decode b_M_lost 240 = .ok (.iload 6, 2) := by decide +kernel
theorem d_M_lost_242 : decode b_M_lost 242 = .ok (.idiv, 1) := by decide +kernel
theorem d_M_lost_243 : decode b_M_lost 243 = .ok (.ireturn, 1) := by decide +kernel
theorem d_M_mark_0 : decode b_M_mark 0 = .ok (.aload_n 0, 1) := by decide +kernel
theorem d_M_mark_1 : decode b_M_mark 1 = .ok (.getfield 7, 3) := by decide +kernel
theorem d_M_mark_4 : decode b_M_mark 4 = .ok (.bipush 6, 2) := by decide +kernel
theorem d_M_mark_6 : decode b_M_mark 6 = .ok (.iload_n 1, 1) := by decide +kernel
theorem d_M_mark_7 : decode b_M_mark 7 = .ok (.iadd, 1) := by decide +kernel
theorem d_M_mark_8 : decode b_M_mark 8 = .ok (.iaload, 1) := by decide +kernel
theorem d_M_mark_9 : decode b_M_mark 9 = .ok (.lookupswitch 57 #[(2, 43), (3, 27)], 27) := by decide +kernel
theorem d_M_mark_36 : decode b_M_mark 36 = .ok (.aload_n 0, 1) := by decide +kernel
theorem d_M_mark_37 : decode b_M_mark 37 = .ok (.bipush 22, 2) := by decide +kernel
theorem d_M_mark_39 : decode b_M_mark 39 = .ok (.invokevirtual 250, 3) := by decide +kernel
theorem d_M_mark_42 : decode b_M_mark 42 = .ok (.aload_n 0, 1) := by decide +kernel
theorem d_M_mark_43 : decode b_M_mark 43 = .ok (.iload_n 1, 1) := by decide +kernel
theorem d_M_mark_44 : decode b_M_mark 44 = .ok (.invokevirtual 268, 3) := by decide +kernel
theorem d_M_mark_47 : decode b_M_mark 47 = .ok (.sipush 1000, 3) := by decide +kernel
theorem d_M_mark_50 : decode b_M_mark 50 = .ok (.isub, 1) := by decide +kernel
theorem d_M_mark_51 : decode b_M_mark 51 = .ok (.ireturn, 1) := by decide +kernel
theorem d_M_mark_52 : decode b_M_mark 52 = .ok (.aload_n 0, 1) := by decide +kernel
theorem d_M_mark_53 : decode b_M_mark 53 = .ok (.bipush 24, 2) := by decide +kernel
theorem d_M_mark_55 : decode b_M_mark 55 = .ok (.invokevirtual 250, 3) := by decide +kernel
theorem d_M_mark_58 : decode b_M_mark 58 = .ok (.iconst 2, 1) := by decide +kernel
theorem d_M_mark_59 : decode b_M_mark 59 = .ok (.aload_n 0, 1) := by decide +kernel
theorem d_M_mark_60 : decode b_M_mark 60 = .ok (.iload_n 1, 1) := by decide +kernel
theorem d_M_mark_61 : decode b_M_mark 61 = .ok (.invokevirtual 268, 3) := by decide +kernel
theorem d_M_mark_64 : decode b_M_mark 64 = .ok (.imul, 1) := by decide +kernel
theorem d_M_mark_65 : decode b_M_mark 65 = .ok (.ireturn, 1) := by decide +kernel
theorem d_M_mark_66 : decode b_M_mark 66 = .ok (.aload_n 0, 1) := by decide +kernel
theorem d_M_mark_67 : decode b_M_mark 67 = .ok (.iload_n 1, 1) := by decide +kernel
theorem d_M_mark_68 : decode b_M_mark 68 = .ok (.invokevirtual 268, 3) := by decide +kernel
theorem d_M_mark_71 : decode b_M_mark 71 = .ok (.ireturn, 1) := by decide +kernel
theorem d_M_narrow_0 : decode b_M_narrow 0 = .ok (.iload_n 1, 1) := by decide +kernel
theorem d_M_narrow_1 : decode b_M_narrow 1 = .ok (.ifCond .ne 8, 3) := by decide +kernel
theorem d_M_narrow_4 : decode b_M_narrow 4 = .ok (.iload_n 0, 1) := by decide +kernel
theorem d_M_narrow_5 : decode b_M_narrow 5 = .ok (.i2b, 1) := by decide +kernel
theorem d_M_narrow_6 : decode b_M_narrow 6 = .ok (.goto 14, 3) := by decide +kernel
theorem d_M_narrow_9 : decode b_M_narrow 9 = .ok (.iload_n 1, 1) := by decide +kernel
theorem d_M_narrow_10 : decode b_M_narrow 10 = .ok (.iconst 1, 1) := by decide +kernel
theorem d_M_narrow_11 : decode b_M_narrow 11 = .ok (.if_icmp .ne 8, 3) := by decide +kernel
theorem d_M_narrow_14 : decode b_M_narrow 14 = .ok (.iload_n 0, 1) := by decide +kernel
theorem d_M_narrow_15 : decode b_M_narrow 15 = .ok (.i2s, 1) := by decide +kernel
theorem d_M_narrow_16 : decode b_M_narrow 16 = .ok (.goto 4, 3) := by decide +kernel
theorem d_M_narrow_19 : decode b_M_narrow 19 = .ok (.iload_n 0, 1) := by decide +kernel
theorem d_M_narrow_20 : decode b_M_narrow 20 = .ok (.ireturn, 1) := by decide +kernel
theorem d_M_nextLine_0 : decode b_M_nextLine 0 = .ok (.iload_n 1, 1) := by decide +kernel
theorem d_M_nextLine_1 : decode b_M_nextLine 1 = .ok (.iconst 2, 1) := by decide +kernel
theorem d_M_nextLine_2 : decode b_M_nextLine 2 = .ok (.isub, 1) := by decide +kernel
theorem d_M_nextLine_3 : decode b_M_nextLine 3 = .ok (.istore_n 2, 1) := by decide +kernel
theorem d_M_nextLine_4 : decode b_M_nextLine 4 = .ok (.iload_n 2, 1) := by decide +kernel
theorem d_M_nextLine_5 : decode b_M_nextLine 5 = .ok (.ifCond .lt 26, 3) := by decide +kernel
theorem d_M_nextLine_8 : decode b_M_nextLine 8 = .ok (.aload_n 0, 1) := by decide +kernel
theorem d_M_nextLine_9 : decode b_M_nextLine 9 = .ok (.getfield 32, 3) := by decide +kernel
theorem d_M_nextLine_12 : decode b_M_nextLine 12 = .ok (.iload_n 2, 1) := by decide +kernel
theorem d_M_nextLine_13 : decode b_M_nextLine 13 = .ok (.iaload, 1) := by decide +kernel
theorem d_M_nextLine_14 : decode b_M_nextLine 14 = .ok (.aload_n 0, 1) := by decide +kernel
theorem d_M_nextLine_15 : decode b_M_nextLine 15 = .ok (.getfield 32, 3) := by decide +kernel
theorem d_M_nextLine_18 : decode b_M_nextLine 18 = .ok (.iload_n 2, 1) := by decide +kernel
theorem d_M_nextLine_19 : decode b_M_nextLine 19 = .ok (.iconst 1, 1) := by decide +kernel
theorem d_M_nextLine_20 : decode b_M_nextLine 20 = .ok (.iadd, 1) := by decide +kernel
theorem d_M_nextLine_21 : decode b_M_nextLine 21 = .ok (.iaload, 1) := by decide +kernel
theorem d_M_nextLine_22 : decode b_M_nextLine 22 = .ok (.if_icmp .le 9, 3) := by decide +kernel
theorem d_M_nextLine_25 : decode b_M_nextLine 25 = .ok (.iinc 2 (-1), 3) := by decide +kernel
theorem d_M_nextLine_28 : decode b_M_nextLine 28 = .ok (.goto (-24), 3) := by decide +kernel
theorem d_M_nextLine_31 : decode b_M_nextLine 31 = .ok (.iload_n 2, 1) := by decide +kernel
theorem d_M_nextLine_32 : decode b_M_nextLine 32 = .ok (.ifCond .ge 5, 3) := by decide +kernel
theorem d_M_nextLine_35 : decode b_M_nextLine 35 = .ok (.iconst 0, 1) := by decide +kernel
theorem d_M_nextLine_36 : decode b_M_nextLine 36 = .ok (.ireturn, 1) := by decide +kernel
theorem d_M_nextLine_37 : decode b_M_nextLine 37 = .ok (.iload_n 1, 1) := by decide +kernel
theorem d_M_nextLine_38 : decode b_M_nextLine 38 = .ok (.iconst 1, 1) := by decide +kernel
theorem d_M_nextLine_39 : decode b_M_nextLine 39 = .ok (.isub, 1) := by decide +kernel
theorem d_M_nextLine_40 : decode b_M_nextLine 40 = .ok (.istore_n 3, 1) := by decide +kernel
theorem d_M_nextLine_41 : decode b_M_nextLine 41 = .ok (.aload_n 0, 1) := by decide +kernel
theorem d_M_nextLine_42 : decode b_M_nextLine 42 = .ok (.getfield 32, 3) := by decide +kernel
theorem d_M_nextLine_45 : decode b_M_nextLine 45 = .ok (.iload_n 3, 1) := by decide +kernel
theorem d_M_nextLine_46 : decode b_M_nextLine 46 = .ok (.iaload, 1) := by decide +kernel
theorem d_M_nextLine_47 : decode b_M_nextLine 47 = .ok (.aload_n 0, 1) := by decide +kernel
theorem d_M_nextLine_48 : decode b_M_nextLine 48 = .ok (.getfield 32, 3) := by decide +kernel
theorem d_M_nextLine_51 : decode b_M_nextLine 51 = .ok (.iload_n 2, 1) := by decide +kernel
theorem d_M_nextLine_52 : decode b_M_nextLine 52 = .ok (.iaload, 1) := by decide +kernel
theorem d_M_nextLine_53 : decode b_M_nextLine 53 = .ok (.if_icmp .ge 9, 3) := by decide +kernel
theorem d_M_nextLine_56 : decode b_M_nextLine 56 = .ok (.iinc 3 (-1), 3) := by decide +kernel
theorem d_M_nextLine_59 : decode b_M_nextLine 59 = .ok (.goto (-18), 3) := by decide +kernel
theorem d_M_nextLine_62 : decode b_M_nextLine 62 = .ok (.aload_n 0, 1) := by decide +kernel
theorem d_M_nextLine_63 : decode b_M_nextLine 63 = .ok (.iload_n 2, 1) := by decide +kernel
theorem d_M_nextLine_64 : decode b_M_nextLine 64 = .ok (.iload_n 3, 1) := by decide +kernel
theorem d_M_nextLine_65 : decode b_M_nextLine 65 = .ok (.invokevirtual 197, 3) := by decide +kernel
theorem d_M_nextLine_68 : decode b_M_nextLine 68 = .ok (.iload_n 2, 1) := by decide +kernel
theorem d_M_nextLine_69 : decode b_M_nextLine 69 = .ok (.iconst 1, 1) := by decide +kernel
theorem d_M_nextLine_70 : decode b_M_nextLine 70 = .ok (.iadd, 1) := by decide +kernel
theorem d_M_nextLine_71 : decode b_M_nextLine 71 = .ok (.istore 4, 2) := by decide +kernel
theorem d_M_nextLine_73 : decode b_M_nextLine 73 = .ok (.iload_n 1, 1) := by decide +kernel
theorem d_M_nextLine_74 : decode b_M_nextLine 74 = .ok (.iconst 1, 1) := by decide +kernel
theorem d_M_nextLine_75 : decode b_M_nextLine 75 = .ok (.isub, 1) := by decide +kernel
theorem d_M_nextLine_76 : decode b_M_nextLine 76 = .ok (.istore 5, 2) := by decide +kernel
theorem d_M_nextLine_78 : decode b_M_nextLine 78 = .ok (.iload 4, 2) := by decide +kernel
theorem d_M_nextLine_80 : decode b_M_nextLine 80 = .ok (.iload 5, 2) := by decide +kernel
theorem d_M_nextLine_82 : decode b_M_nextLine 82 = .ok (.if_icmp .ge 20, 3) := by decide +kernel
theorem d_M_nextLine_85 : decode b_M_nextLine 85 = .ok (.aload_n 0, 1) := by decide +kernel
theorem d_M_nextLine_86 : decode b_M_nextLine 86 = .ok (.iload 4, 2) := by decide +kernel
theorem d_M_nextLine_88 : decode b_M_nextLine 88 = .ok (.iload 5, 2) := by decide +kernel
theorem d_M_nextLine_90 : decode b_M_nextLine 90 = .ok (.invokevirtual 197, 3) := by decide +kernel
theorem d_M_nextLine_93 : decode b_M_nextLine 93 = .ok (.iinc 4 1, 3) := by decide +kernel
theorem d_M_nextLine_96 : decode b_M_nextLine 96 = .ok (.iinc 5 (-1), 3) := by decide +kernel
theorem d_M_nextLine_99 : decode b_M_nextLine 99 = .ok (.goto (-21), 3) := by decide +kernel
theorem d_M_nextLine_102 : decode b_M_nextLine 102 = .ok (.iconst 1, 1) := by decide +kernel
theorem d_M_nextLine_103 : decode b_M_nextLine 103 = .ok (.ireturn, 1) := by decide +kernel
theorem d_M_nextToFall_0 : decode b_M_nextToFall 0 = .ok (.ldc 147, 2) := by decide +kernel
theorem d_M_nextToFall_2 : decode b_M_nextToFall 2 = .ok (.istore_n 2, 1) := by decide +kernel
theorem d_M_nextToFall_3 : decode b_M_nextToFall 3 = .ok (.iconst 0, 1) := by decide +kernel
theorem d_M_nextToFall_4 : decode b_M_nextToFall 4 = .ok (.istore_n 3, 1) := by decide +kernel
theorem d_M_nextToFall_5 : decode b_M_nextToFall 5 = .ok (.iload_n 3, 1) := by decide +kernel
theorem d_M_nextToFall_6 : decode b_M_nextToFall 6 = .ok (.aload_n 0, 1) := by decide +kernel
theorem d_M_nextToFall_7 : decode b_M_nextToFall 7 = .ok (.getfield 7, 3) := by decide +kernel
theorem d_M_nextToFall_10 : decode b_M_nextToFall 10 = .ok (.iload_n 1, 1) := by decide +kernel
theorem d_M_nextToFall_11 : decode b_M_nextToFall 11 = .ok (.iconst 0, 1) := by decide +kernel
theorem d_M_nextToFall_12 : decode b_M_nextToFall 12 = .ok (.iadd, 1) := by decide +kernel
theorem d_M_nextToFall_13 : decode b_M_nextToFall 13 = .ok (.iaload, 1) := by decide +kernel
theorem d_M_nextToFall_14 : decode b_M_nextToFall 14 = .ok (.if_icmp .ge 46, 3) := by decide +kernel
theorem d_M_nextToFall_17 : decode b_M_nextToFall 17 = .ok (.aload_n 0, 1) := by decide +kernel
theorem d_M_nextToFall_18 : decode b_M_nextToFall 18 = .ok (.getfield 7, 3) := by decide +kernel
theorem d_M_nextToFall_21 : decode b_M_nextToFall 21 = .ok (.iload_n 1, 1) := by decide +kernel
theorem d_M_nextToFall_22 : decode b_M_nextToFall 22 = .ok (.iconst 3, 1) := by decide +kernel
theorem d_M_nextToFall_23 : decode b_M_nextToFall 23 = .ok (.iadd, 1) := by decide +kernel
theorem d_M_nextToFall_24 : decode b_M_nextToFall 24 = .ok (.iaload, 1) := by decide +kernel
theorem d_M_nextToFall_25 : decode b_M_nextToFall 25 = .ok (.iload_n 3, 1) := by decide +kernel
theorem d_M_nextToFall_26 : decode b_M_nextToFall 26 = .ok (.invokestatic 138, 3) := by decide +kernel
theorem d_M_nextToFall_29 : decode b_M_nextToFall 29 = .ok (.ifCond .eq 23, 3) := by decide +kernel
theorem d_M_nextToFall_32 : decode b_M_nextToFall 32 = .ok (.iload_n 2, 1) := by decide +kernel
theorem d_M_nextToFall_33 : decode b_M_nextToFall 33 = .ok (.ldc 147, 2) := by decide +kernel
theorem d_M_nextToFall_35 : decode b_M_nextToFall 35 = .ok (.if_icmp .eq 13, 3) := by decide +kernel
theorem d_M_nextToFall_38 : decode b_M_nextToFall 38 = .ok (.aload_n 0, 1) := by decide +kernel
theorem d_M_nextToFall_39 : decode b_M_nextToFall 39 = .ok (.iload_n 1, 1) := by decide +kernel
theorem d_M_nextToFall_40 : decode b_M_nextToFall 40 = .ok (.iload_n 3, 1) := by decide +kernel
theorem d_M_nextToFall_41 : decode b_M_nextToFall 41 = .ok (.iload_n 2, 1) := by decide +kernel
theorem d_M_nextToFall_42 : decode b_M_nextToFall 42 = .ok (.invokevirtual 148, 3) := by decide +kernel
theorem d_M_nextToFall_45 : decode b_M_nextToFall 45 = .ok (.ifCond .eq 7, 3) := by decide +kernel
theorem d_M_nextToFall_48 : decode b_M_nextToFall 48 = .ok (.iload_n 3, 1) := by decide +kernel
theorem d_M_nextToFall_49 : decode b_M_nextToFall 49 = .ok (.goto 4, 3) := by decide +kernel
theorem d_M_nextToFall_52 : decode b_M_nextToFall 52 = .ok (.iload_n 2, 1) := by decide +kernel
theorem d_M_nextToFall_53 : decode b_M_nextToFall 53 = .ok (.istore_n 2, 1) := by decide +kernel
theorem d_M_nextToFall_54 : decode b_M_nextToFall 54 = .ok (.iinc 3 1, 3) := by decide +kernel
theorem d_M_nextToFall_57 : decode b_M_nextToFall 57 = .ok (.goto (-52), 3) := by decide +kernel
theorem d_M_nextToFall_60 : decode b_M_nextToFall 60 = .ok (.aload_n 0, 1) := by decide +kernel
theorem d_M_nextToFall_61 : decode b_M_nextToFall 61 = .ok (.iload_n 1, 1) := by decide +kernel
theorem d_M_nextToFall_62 : decode b_M_nextToFall 62 = .ok (.invokevirtual 151, 3) := by decide +kernel
theorem d_M_nextToFall_65 : decode b_M_nextToFall 65 = .ok (.aload_n 0, 1) := by decide +kernel
theorem d_M_nextToFall_66 : decode b_M_nextToFall 66 = .ok (.getfield 7, 3) := by decide +kernel
theorem d_M_nextToFall_69 : decode b_M_nextToFall 69 = .ok (.iload_n 1, 1) := by decide +kernel
theorem d_M_nextToFall_70 : decode b_M_nextToFall 70 = .ok (.iconst 1, 1) := by decide +kernel
theorem d_M_nextToFall_71 : decode b_M_nextToFall 71 = .ok (.iadd, 1) := by decide +kernel
theorem d_M_nextToFall_72 : decode b_M_nextToFall 72 = .ok (.iaload, 1) := by decide +kernel
theorem d_M_nextToFall_73 : decode b_M_nextToFall 73 = .ok (.if_icmp .le 7, 3) := by decide +kernel
theorem d_M_nextToFall_76 : decode b_M_nextToFall 76 = .ok (.iload_n 2, 1) := by decide +kernel
theorem d_M_nextToFall_77 : decode b_M_nextToFall 77 = .ok (.goto 5, 3) := by decide +kernel
theorem d_M_nextToFall_80 : decode b_M_nextToFall 80 = .ok (.ldc 147, 2) := by decide +kernel
theorem d_M_nextToFall_82 : decode b_M_nextToFall 82 = .ok (.ireturn, 1) := by decide +kernel
theorem d_M_noDays_0 : decode b_M_noDays 0 = .ok (.aload_n 0, 1) := by decide +kernel
theorem d_M_noDays_1 : decode b_M_noDays 1 = .ok (.getfield 130, 3) := by decide +kernel
theorem d_M_noDays_4 : decode b_M_noDays 4 = .ok (.ifCond .ne 6, 3) := by decide +kernel
theorem d_M_noDays_7 : decode b_M_noDays 7 = .ok (.ldc 137, 2) := by decide +kernel
theorem d_M_noDays_9 : decode b_M_noDays 9 = .ok (.ireturn, 1) := by decide +kernel
theorem d_M_noDays_10 : decode b_M_noDays 10 = .ok (.iload_n 1, 1) := by decide +kernel
theorem d_M_noDays_11 : decode b_M_noDays 11 = .ok (.i2l, 1) := by decide +kernel
theorem d_M_noDays_12 : decode b_M_noDays 12 = .ok (.lconst 0, 1) := by decide +kernel
theorem d_M_noDays_13 : decode b_M_noDays 13 = .ok (.ldc2_w 186, 3) := by decide +kernel
theorem d_M_noDays_16 : decode b_M_noDays 16 = .ok (.invokestatic 45, 3) := by decide +kernel
theorem d_M_noDays_19 : decode b_M_noDays 19 = .ok (.ifCond .ne 6, 3) := by decide +kernel
theorem d_M_noDays_22 : decode b_M_noDays 22 = .ok (.ldc 55, 2) := by decide +kernel
theorem d_M_noDays_24 : decode b_M_noDays 24 = .ok (.ireturn, 1) := by decide +kernel
theorem d_M_noDays_25 : decode b_M_noDays 25 = .ok (.aload_n 0, 1) := by decide +kernel
theorem d_M_noDays_26 : decode b_M_noDays 26 = .ok (.invokevirtual 188, 3) := by decide +kernel
theorem d_M_noDays_29 : decode b_M_noDays 29 = .ok (.aload_n 0, 1) := by decide +kernel
theorem d_M_noDays_30 : decode b_M_noDays 30 = .ok (.sipush 972, 3) := by decide +kernel
theorem d_M_noDays_33 : decode b_M_noDays 33 = .ok (.iload_n 1, 1) := by decide +kernel
theorem d_M_noDays_34 : decode b_M_noDays 34 = .ok (.invokevirtual 191, 3) := by decide +kernel
theorem d_M_noDays_37 : decode b_M_noDays 37 = .ok (.iconst 0, 1) := by decide +kernel
theorem d_M_noDays_38 : decode b_M_noDays 38 = .ok (.ireturn, 1) := by decide +kernel
theorem d_M_noItems_0 : decode b_M_noItems 0 = .ok (.aload_n 0, 1) := by decide +kernel
theorem d_M_noItems_1 : decode b_M_noItems 1 = .ok (.getfield 20, 3) := by decide +kernel
theorem d_M_noItems_4 : decode b_M_noItems 4 = .ok (.iload_n 1, 1) := by decide +kernel
theorem d_M_noItems_5 : decode b_M_noItems 5 = .ok (.iaload, 1) := by decide +kernel
theorem d_M_noItems_6 : decode b_M_noItems 6 = .ok (.ifCond .ge 11, 3) := by decide +kernel
theorem d_M_noItems_9 : decode b_M_noItems 9 = .ok (.aload_n 0, 1) := by decide +kernel
theorem d_M_noItems_10 : decode b_M_noItems 10 = .ok (.iconst 1, 1) := by decide +kernel
theorem d_M_noItems_11 : decode b_M_noItems 11 = .ok (.invokevirtual 56, 3) := by decide +kernel
theorem d_M_noItems_14 : decode b_M_noItems 14 = .ok (.goto 22, 3) := by decide +kernel
theorem d_M_noItems_17 : decode b_M_noItems 17 = .ok (.aload_n 0, 1) := by decide +kernel
theorem d_M_noItems_18 : decode b_M_noItems 18 = .ok (.iload_n 1, 1) := by decide +kernel
theorem d_M_noItems_19 : decode b_M_noItems 19 = .ok (.iload_n 2, 1) := by decide +kernel
theorem d_M_noItems_20 : decode b_M_noItems 20 = .ok (.iload_n 3, 1) := by decide +kernel
theorem d_M_noItems_21 : decode b_M_noItems 21 = .ok (.invokevirtual 67, 3) := by decide +kernel
theorem d_M_noItems_24 : decode b_M_noItems 24 = .ok (.ifCond .eq 7, 3) := by decide +kernel
theorem d_M_noItems_27 : decode b_M_noItems 27 = .ok (.iconst 0, 1) := by decide +kernel
theorem d_M_noItems_28 : decode b_M_noItems 28 = .ok (.goto 8, 3) := by decide +kernel
theorem d_M_noItems_31 : decode b_M_noItems 31 = .ok (.aload_n 0, 1) := by decide +kernel
theorem d_M_noItems_32 : decode b_M_noItems 32 = .ok (.iconst 2, 1) := by decide +kernel
theorem d_M_noItems_33 : decode b_M_noItems 33 = .ok (.invokevirtual 56, 3) := by decide +kernel
theorem d_M_noItems_36 : decode b_M_noItems 36 = .ok (.ireturn, 1) := by decide +kernel
theorem d_M_noteMark_0 : decode b_M_noteMark 0 = .ok (.aload_n 0, 1) := by decide +kernel
theorem d_M_noteMark_1 : decode b_M_noteMark 1 = .ok (.bipush 23, 2) := by decide +kernel
theorem d_M_noteMark_3 : decode b_M_noteMark 3 = .ok (.invokevirtual 250, 3) := by decide +kernel
theorem d_M_noteMark_6 : decode b_M_noteMark 6 = .ok (.aload_n 0, 1) := by decide +kernel
theorem d_M_noteMark_7 : decode b_M_noteMark 7 = .ok (.iload_n 1, 1) := by decide +kernel
theorem d_M_noteMark_8 : decode b_M_noteMark 8 = .ok (.invokevirtual 265, 3) := by decide +kernel
theorem d_M_noteMark_11 : decode b_M_noteMark 11 = .ok (.istore_n 2, 1) := by decide +kernel
theorem d_M_noteMark_12 : decode b_M_noteMark 12 = .ok (.iload_n 2, 1) := by decide +kernel
theorem d_M_noteMark_13 : decode b_M_noteMark 13 = .ok (.aload_n 0, 1) := by decide +kernel
theorem d_M_noteMark_14 : decode b_M_noteMark 14 = .ok (.iload_n 1, 1) := by decide +kernel
theorem d_M_noteMark_15 : decode b_M_noteMark 15 = .ok (.invokevirtual 271, 3) := by decide +kernel
theorem d_M_noteMark_18 : decode b_M_noteMark 18 = .ok (.isub, 1) := by decide +kernel
theorem d_M_noteMark_19 : decode b_M_noteMark 19 = .ok (.ireturn, 1) := by decide +kernel
theorem d_M_noteSize_0 : decode b_M_noteSize 0 = .ok (.aload_n 0, 1) := by decide +kernel
theorem d_M_noteSize_1 : decode b_M_noteSize 1 = .ok (.bipush 13, 2) := by decide +kernel
theorem d_M_noteSize_3 : decode b_M_noteSize 3 = .ok (.invokevirtual 250, 3) := by decide +kernel
theorem d_M_noteSize_6 : decode b_M_noteSize 6 = .ok (.aload_n 0, 1) := by decide +kernel
theorem d_M_noteSize_7 : decode b_M_noteSize 7 = .ok (.iload_n 1, 1) := by decide +kernel
theorem d_M_noteSize_8 : decode b_M_noteSize 8 = .ok (.invokevirtual 253, 3) := by decide +kernel
theorem d_M_noteSize_11 : decode b_M_noteSize 11 = .ok (.bipush 100, 2) := by decide +kernel
theorem d_M_noteSize_13 : decode b_M_noteSize 13 = .ok (.isub, 1) := by decide +kernel
theorem d_M_noteSize_14 : decode b_M_noteSize 14 = .ok (.ireturn, 1) := by decide +kernel
theorem d_M_order_0 : decode b_M_order 0 = .ok (.aload_n 0, 1) := by decide +kernel
theorem d_M_order_1 : decode b_M_order 1 = .ok (.getfield 130, 3) := by decide +kernel
theorem d_M_order_4 : decode b_M_order 4 = .ok (.ifCond .ne 6, 3) := by decide +kernel
theorem d_M_order_7 : decode b_M_order 7 = .ok (.ldc 137, 2) := by decide +kernel
theorem d_M_order_9 : decode b_M_order 9 = .ok (.ireturn, 1) := by decide +kernel
theorem d_M_order_10 : decode b_M_order 10 = .ok (.iload_n 1, 1) := by decide +kernel
theorem d_M_order_11 : decode b_M_order 11 = .ok (.ifCond .lt 30, 3) := by decide +kernel
theorem d_M_order_14 : decode b_M_order 14 = .ok (.iload_n 1, 1) := by decide +kernel
theorem d_M_order_15 : decode b_M_order 15 = .ok (.aload_n 0, 1) := by decide +kernel
theorem d_M_order_16 : decode b_M_order 16 = .ok (.getfield 7, 3) := by decide +kernel
theorem d_M_order_19 : decode b_M_order 19 = .ok (.iconst 3, 1) := by decide +kernel
theorem d_M_order_20 : decode b_M_order 20 = .ok (.iaload, 1) := by decide +kernel
theorem d_M_order_21 : decode b_M_order 21 = .ok (.iconst (-1), 1) := by decide +kernel
theorem d_M_order_22 : decode b_M_order 22 = .ok (.ixor, 1) := by decide +kernel
theorem d_M_order_23 : decode b_M_order 23 = .ok (.iand, 1) := by decide +kernel
theorem d_M_order_24 : decode b_M_order 24 = .ok (.ifCond .ne 17, 3) := by decide +kernel
theorem d_M_order_27 : decode b_M_order 27 = .ok (.iload_n 2, 1) := by decide +kernel
theorem d_M_order_28 : decode b_M_order 28 = .ok (.i2l, 1) := by decide +kernel
theorem d_M_order_29 : decode b_M_order 29 = .ok (.ldc2_w 200, 3) := by decide +kernel
theorem d_M_order_32 : decode b_M_order 32 = .ok (.ldc2_w 202, 3) := by decide +kernel
theorem d_M_order_35 : decode b_M_order 35 = .ok (.invokestatic 45, 3) := by decide +kernel
theorem d_M_order_38 : decode b_M_order 38 = .ok (.ifCond .ne 6, 3) := by decide +kernel
theorem d_M_order_41 : decode b_M_order 41 = .ok (.ldc 55, 2) := by decide +kernel
theorem d_M_order_43 : decode b_M_order 43 = .ok (.ireturn, 1) := by decide +kernel
theorem d_M_order_44 : decode b_M_order 44 = .ok (.iconst 0, 1) := by decide +kernel
theorem d_M_order_45 : decode b_M_order 45 = .ok (.istore_n 3, 1) := by decide +kernel
theorem d_M_order_46 : decode b_M_order 46 = .ok (.iconst 0, 1) := by decide +kernel
theorem d_M_order_47 : decode b_M_order 47 = .ok (.istore 4, 2) := by decide +kernel
theorem d_M_order_49 : decode b_M_order 49 = .ok (.iload 4, 2) := by decide +kernel
theorem d_M_order_51 : decode b_M_order 51 = .ok (.bipush 6, 2) := by decide +kernel
theorem d_M_order_53 : decode b_M_order 53 = .ok (.if_icmp .ge 29, 3) := by decide +kernel
theorem d_M_order_56 : decode b_M_order 56 = .ok (.iload_n 1, 1) := by decide +kernel
theorem d_M_order_57 : decode b_M_order 57 = .ok (.iload 4, 2) := by decide +kernel
theorem d_M_order_59 : decode b_M_order 59 = .ok (.invokestatic 138, 3) := by decide +kernel
theorem d_M_order_62 : decode b_M_order 62 = .ok (.ifCond .eq 14, 3) := by decide +kernel
theorem d_M_order_65 : decode b_M_order 65 = .ok (.aload_n 0, 1) := by decide +kernel
theorem d_M_order_66 : decode b_M_order 66 = .ok (.getfield 32, 3) := by decide +kernel
theorem d_M_order_69 : decode b_M_order 69 = .ok (.iload_n 3, 1) := by decide +kernel
theorem d_M_order_70 : decode b_M_order 70 = .ok (.iload 4, 2) := by decide +kernel
theorem d_M_order_72 : decode b_M_order 72 = .ok (.iastore, 1) := by decide +kernel
theorem d_M_order_73 : decode b_M_order 73 = .ok (.iinc 3 1, 3) := by decide +kernel
theorem d_M_order_76 : decode b_M_order 76 = .ok (.iinc 4 1, 3) := by decide +kernel
theorem d_M_order_79 : decode b_M_order 79 = .ok (.goto (-30), 3) := by decide +kernel
theorem d_M_order_82 : decode b_M_order 82 = .ok (.ldc 147, 2) := by decide +kernel
theorem d_M_order_84 : decode b_M_order 84 = .ok (.istore 4, 2) := by decide +kernel
theorem d_M_order_86 : decode b_M_order 86 = .ok (.iconst 1, 1) := by decide +kernel
theorem d_M_order_87 : decode b_M_order 87 = .ok (.istore 5, 2) := by decide +kernel
theorem d_M_order_89 : decode b_M_order 89 = .ok (.iload 5, 2) := by decide +kernel
theorem d_M_order_91 : decode b_M_order 91 = .ok (.ifCond .eq 67, 3) := by decide +kernel
theorem d_M_order_94 : decode b_M_order 94 = .ok (.aload_n 0, 1) := by decide +kernel
theorem d_M_order_95 : decode b_M_order 95 = .ok (.iload_n 3, 1) := by decide +kernel
theorem d_M_order_96 : decode b_M_order 96 = .ok (.invokevirtual 204, 3) := by decide +kernel
theorem d_M_order_99 : decode b_M_order 99 = .ok (.istore 6, 2) := by decide +kernel
theorem d_M_order_101 : decode b_M_order 101 = .ok (.iload 4, 2) := by decide +kernel
theorem d_M_order_103 : decode b_M_order 103 = .ok (.ldc 147, 2) := by decide +kernel
theorem d_M_order_105 : decode b_M_order 105 = .ok (.if_icmp .eq 10, 3) := by decide +kernel
theorem d_M_order_108 : decode b_M_order 108 = .ok (.iload 6, 2) := by decide +kernel
theorem d_M_order_110 : decode b_M_order 110 = .ok (.iload 4, 2) := by decide +kernel
theorem d_M_order_112 : decode b_M_order 112 = .ok (.if_icmp .ge 36, 3) := by decide +kernel
theorem d_M_order_115 : decode b_M_order 115 = .ok (.iload 6, 2) := by decide +kernel
theorem d_M_order_117 : decode b_M_order 117 = .ok (.istore 4, 2) := by decide +kernel
theorem d_M_order_119 : decode b_M_order 119 = .ok (.iconst 0, 1) := by decide +kernel
theorem d_M_order_120 : decode b_M_order 120 = .ok (.istore 7, 2) := by decide +kernel
theorem d_M_order_122 : decode b_M_order 122 = .ok (.iload 7, 2) := by decide +kernel
theorem d_M_order_124 : decode b_M_order 124 = .ok (.iload_n 3, 1) := by decide +kernel
theorem d_M_order_125 : decode b_M_order 125 = .ok (.if_icmp .ge 23, 3) := by decide +kernel
theorem d_M_order_128 : decode b_M_order 128 = .ok (.aload_n 0, 1) := by decide +kernel
theorem d_M_order_129 : decode b_M_order 129 = .ok (.getfield 35, 3) := by decide +kernel
theorem d_M_order_132 : decode b_M_order 132 = .ok (.iload 7, 2) := by decide +kernel
theorem d_M_order_134 : decode b_M_order 134 = .ok (.aload_n 0, 1) := by decide +kernel
theorem d_M_order_135 : decode b_M_order 135 = .ok (.getfield 32, 3) := by decide +kernel
theorem d_M_order_138 : decode b_M_order 138 = .ok (.iload 7, 2) := by decide +kernel
theorem d_M_order_140 : decode b_M_order 140 = .ok (.iaload, 1) := by decide +kernel
theorem d_M_order_141 : decode b_M_order 141 = .ok (.iastore, 1) := by decide +kernel
theorem d_M_order_142 : decode b_M_order 142 = .ok (.iinc 7 1, 3) := by decide +kernel
theorem d_M_order_145 : decode b_M_order 145 = .ok (.goto (-23), 3) := by decide +kernel
theorem d_M_order_148 : decode b_M_order 148 = .ok (.aload_n 0, 1) := by decide +kernel
theorem d_M_order_149 : decode b_M_order 149 = .ok (.iload_n 3, 1) := by decide +kernel
theorem d_M_order_150 : decode b_M_order 150 = .ok (.invokevirtual 207, 3) := by decide +kernel
theorem d_M_order_153 : decode b_M_order 153 = .ok (.istore 5, 2) := by decide +kernel
theorem d_M_order_155 : decode b_M_order 155 = .ok (.goto (-66), 3) := by decide +kernel
theorem d_M_order_158 : decode b_M_order 158 = .ok (.iload_n 2, 1) := by decide +kernel
theorem d_M_order_159 : decode b_M_order 159 = .ok (.ifCond .ge 8, 3) := by decide +kernel
theorem d_M_order_162 : decode b_M_order 162 = .ok (.iload 4, 2) := by decide +kernel
theorem d_M_order_164 : decode b_M_order 164 = .ok (.goto 19, 3) := by decide +kernel
theorem d_M_order_167 : decode b_M_order 167 = .ok (.iload_n 2, 1) := by decide +kernel
theorem d_M_order_168 : decode b_M_order 168 = .ok (.iload_n 3, 1) := by decide +kernel
theorem d_M_order_169 : decode b_M_order 169 = .ok (.if_icmp .ge 12, 3) := by decide +kernel
theorem d_M_order_172 : decode b_M_order 172 = .ok (.aload_n 0, 1) := by decide +kernel
theorem d_M_order_173 : decode b_M_order 173 = .ok (.getfield 35, 3) := by decide +kernel
theorem d_M_order_176 : decode b_M_order 176 = .ok (.iload_n 2, 1) := by decide +kernel
theorem d_M_order_177 : decode b_M_order 177 = .ok (.iaload, 1) := by decide +kernel
theorem d_M_order_178 : decode b_M_order 178 = .ok (.goto 5, 3) := by decide +kernel
theorem d_M_order_181 : decode b_M_order 181 = .ok (.ldc 147, 2) := by decide +kernel
theorem d_M_order_183 : decode b_M_order 183 = .ok (.ireturn, 1) := by decide +kernel
theorem d_M_pass_0 : decode b_M_pass 0 = .ok (.aload_n 0, 1) := by decide +kernel
theorem d_M_pass_1 : decode b_M_pass 1 = .ok (.getfield 7, 3) := by decide +kernel
theorem d_M_pass_4 : decode b_M_pass 4 = .ok (.iload_n 1, 1) := by decide +kernel
theorem d_M_pass_5 : decode b_M_pass 5 = .ok (.iconst 4, 1) := by decide +kernel
theorem d_M_pass_6 : decode b_M_pass 6 = .ok (.iadd, 1) := by decide +kernel
theorem d_M_pass_7 : decode b_M_pass 7 = .ok (.aload_n 0, 1) := by decide +kernel
theorem d_M_pass_8 : decode b_M_pass 8 = .ok (.getfield 7, 3) := by decide +kernel
theorem d_M_pass_11 : decode b_M_pass 11 = .ok (.iload_n 1, 1) := by decide +kernel
theorem d_M_pass_12 : decode b_M_pass 12 = .ok (.iconst 4, 1) := by decide +kernel
theorem d_M_pass_13 : decode b_M_pass 13 = .ok (.iadd, 1) := by decide +kernel
theorem d_M_pass_14 : decode b_M_pass 14 = .ok (.iaload, 1) := by decide +kernel
theorem d_M_pass_15 : decode b_M_pass 15 = .ok (.aload_n 0, 1) := by decide +kernel
theorem d_M_pass_16 : decode b_M_pass 16 = .ok (.iload_n 1, 1) := by decide +kernel
theorem d_M_pass_17 : decode b_M_pass 17 = .ok (.invokevirtual 157, 3) := by decide +kernel
theorem d_M_pass_20 : decode b_M_pass 20 = .ok (.iadd, 1) := by decide +kernel
theorem d_M_pass_21 : decode b_M_pass 21 = .ok (.sipush 9999, 3) := by decide +kernel
theorem d_M_pass_24 : decode b_M_pass 24 = .ok (.invokestatic 154, 3) := by decide +kernel
theorem d_M_pass_27 : decode b_M_pass 27 = .ok (.iastore, 1) := by decide +kernel
theorem d_M_pass_28 : decode b_M_pass 28 = .ok (.iconst 0, 1) := by decide +kernel
theorem d_M_pass_29 : decode b_M_pass 29 = .ok (.istore_n 2, 1) := by decide +kernel
theorem d_M_pass_30 : decode b_M_pass 30 = .ok (.iload_n 2, 1) := by decide +kernel
theorem d_M_pass_31 : decode b_M_pass 31 = .ok (.aload_n 0, 1) := by decide +kernel
theorem d_M_pass_32 : decode b_M_pass 32 = .ok (.getfield 7, 3) := by decide +kernel
theorem d_M_pass_35 : decode b_M_pass 35 = .ok (.iload_n 1, 1) := by decide +kernel
theorem d_M_pass_36 : decode b_M_pass 36 = .ok (.iconst 0, 1) := by decide +kernel
theorem d_M_pass_37 : decode b_M_pass 37 = .ok (.iadd, 1) := by decide +kernel
theorem d_M_pass_38 : decode b_M_pass 38 = .ok (.iaload, 1) := by decide +kernel
theorem d_M_pass_39 : decode b_M_pass 39 = .ok (.if_icmp .ge 49, 3) := by decide +kernel
theorem d_M_pass_42 : decode b_M_pass 42 = .ok (.aload_n 0, 1) := by decide +kernel
theorem d_M_pass_43 : decode b_M_pass 43 = .ok (.getfield 7, 3) := by decide +kernel
theorem d_M_pass_46 : decode b_M_pass 46 = .ok (.iload_n 1, 1) := by decide +kernel
theorem d_M_pass_47 : decode b_M_pass 47 = .ok (.bipush 30, 2) := by decide +kernel
theorem d_M_pass_49 : decode b_M_pass 49 = .ok (.iadd, 1) := by decide +kernel
theorem d_M_pass_50 : decode b_M_pass 50 = .ok (.iload_n 2, 1) := by decide +kernel
theorem d_M_pass_51 : decode b_M_pass 51 = .ok (.iadd, 1) := by decide +kernel
theorem d_M_pass_52 : decode b_M_pass 52 = .ok (.aload_n 0, 1) := by decide +kernel
theorem d_M_pass_53 : decode b_M_pass 53 = .ok (.getfield 7, 3) := by decide +kernel
theorem d_M_pass_56 : decode b_M_pass 56 = .ok (.iload_n 1, 1) := by decide +kernel
theorem d_M_pass_57 : decode b_M_pass 57 = .ok (.bipush 30, 2) := by decide +kernel
theorem d_M_pass_59 : decode b_M_pass 59 = .ok (.iadd, 1) := by decide +kernel
theorem d_M_pass_60 : decode b_M_pass 60 = .ok (.iload_n 2, 1) := by decide +kernel
theorem d_M_pass_61 : decode b_M_pass 61 = .ok (.iadd, 1) := by decide +kernel
theorem d_M_pass_62 : decode b_M_pass 62 = .ok (.iaload, 1) := by decide +kernel
theorem d_M_pass_63 : decode b_M_pass 63 = .ok (.aload_n 0, 1) := by decide +kernel
theorem d_M_pass_64 : decode b_M_pass 64 = .ok (.getfield 7, 3) := by decide +kernel
theorem d_M_pass_67 : decode b_M_pass 67 = .ok (.iload_n 1, 1) := by decide +kernel
theorem d_M_pass_68 : decode b_M_pass 68 = .ok (.iconst 3, 1) := by decide +kernel
theorem d_M_pass_69 : decode b_M_pass 69 = .ok (.iadd, 1) := by decide +kernel
theorem d_M_pass_70 : decode b_M_pass 70 = .ok (.iaload, 1) := by decide +kernel
theorem d_M_pass_71 : decode b_M_pass 71 = .ok (.iload_n 2, 1) := by decide +kernel
theorem d_M_pass_72 : decode b_M_pass 72 = .ok (.ishr, 1) := by decide +kernel
theorem d_M_pass_73 : decode b_M_pass 73 = .ok (.iconst 1, 1) := by decide +kernel
theorem d_M_pass_74 : decode b_M_pass 74 = .ok (.iand, 1) := by decide +kernel
theorem d_M_pass_75 : decode b_M_pass 75 = .ok (.iadd, 1) := by decide +kernel
theorem d_M_pass_76 : decode b_M_pass 76 = .ok (.bipush 99, 2) := by decide +kernel
theorem d_M_pass_78 : decode b_M_pass 78 = .ok (.invokestatic 154, 3) := by decide +kernel
theorem d_M_pass_81 : decode b_M_pass 81 = .ok (.iastore, 1) := by decide +kernel
theorem d_M_pass_82 : decode b_M_pass 82 = .ok (.iinc 2 1, 3) := by decide +kernel
theorem d_M_pass_85 : decode b_M_pass 85 = .ok (.goto (-55), 3) := by decide +kernel
theorem d_M_pass_88 : decode b_M_pass 88 = .ok (.aload_n 0, 1) := by decide +kernel
theorem d_M_pass_89 : decode b_M_pass 89 = .ok (.getfield 7, 3) := by decide +kernel
theorem d_M_pass_92 : decode b_M_pass 92 = .ok (.iload_n 1, 1) := by decide +kernel
theorem d_M_pass_93 : decode b_M_pass 93 = .ok (.iconst 2, 1) := by decide +kernel
theorem d_M_pass_94 : decode b_M_pass 94 = .ok (.iadd, 1) := by decide +kernel
theorem d_M_pass_95 : decode b_M_pass 95 = .ok (.dup2, 1) := by decide +kernel
theorem d_M_pass_96 : decode b_M_pass 96 = .ok (.iaload, 1) := by decide +kernel
theorem d_M_pass_97 : decode b_M_pass 97 = .ok (.iconst 1, 1) := by decide +kernel
theorem d_M_pass_98 : decode b_M_pass 98 = .ok (.iadd, 1) := by decide +kernel
theorem d_M_pass_99 : decode b_M_pass 99 = .ok (.iastore, 1) := by decide +kernel
theorem d_M_pass_100 : decode b_M_pass 100 = .ok (.aload_n 0, 1) := by decide +kernel
theorem d_M_pass_101 : decode b_M_pass 101 = .ok (.iload_n 1, 1) := by decide +kernel
theorem d_M_pass_102 : decode b_M_pass 102 = .ok (.invokevirtual 160, 3) := by decide +kernel
theorem d_M_pass_105 : decode b_M_pass 105 = .ok (.istore_n 2, 1) := by decide +kernel
theorem d_M_pass_106 : decode b_M_pass 106 = .ok (.iload_n 2, 1) := by decide +kernel
theorem d_M_pass_107 : decode b_M_pass 107 = .ok (.istore_n 3, 1) := by decide +kernel
theorem d_M_pass_108 : decode b_M_pass 108 = .ok (.iload_n 3, 1) := by decide +kernel
theorem d_M_pass_109 : decode b_M_pass 109 = .ok (.ldc 147, 2) := by decide +kernel
theorem d_M_pass_111 : decode b_M_pass 111 = .ok (.if_icmp .eq 29, 3) := by decide +kernel
theorem d_M_pass_114 : decode b_M_pass 114 = .ok (.aload_n 0, 1) := by decide +kernel
theorem d_M_pass_115 : decode b_M_pass 115 = .ok (.iload_n 1, 1) := by decide +kernel
theorem d_M_pass_116 : decode b_M_pass 116 = .ok (.iload_n 3, 1) := by decide +kernel
theorem d_M_pass_117 : decode b_M_pass 117 = .ok (.aload_n 0, 1) := by decide +kernel
theorem d_M_pass_118 : decode b_M_pass 118 = .ok (.getfield 7, 3) := by decide +kernel
theorem d_M_pass_121 : decode b_M_pass 121 = .ok (.iload_n 1, 1) := by decide +kernel
theorem d_M_pass_122 : decode b_M_pass 122 = .ok (.bipush 24, 2) := by decide +kernel
theorem d_M_pass_124 : decode b_M_pass 124 = .ok (.iadd, 1) := by decide +kernel
theorem d_M_pass_125 : decode b_M_pass 125 = .ok (.iload_n 3, 1) := by decide +kernel
theorem d_M_pass_126 : decode b_M_pass 126 = .ok (.iadd, 1) := by decide +kernel
theorem d_M_pass_127 : decode b_M_pass 127 = .ok (.iaload, 1) := by decide +kernel
theorem d_M_pass_128 : decode b_M_pass 128 = .ok (.invokevirtual 163, 3) := by decide +kernel
theorem d_M_pass_131 : decode b_M_pass 131 = .ok (.aload_n 0, 1) := by decide +kernel
theorem d_M_pass_132 : decode b_M_pass 132 = .ok (.iload_n 1, 1) := by decide +kernel
theorem d_M_pass_133 : decode b_M_pass 133 = .ok (.invokevirtual 160, 3) := by decide +kernel
theorem d_M_pass_136 : decode b_M_pass 136 = .ok (.istore_n 3, 1) := by decide +kernel
theorem d_M_pass_137 : decode b_M_pass 137 = .ok (.goto (-29), 3) := by decide +kernel
theorem d_M_pass_140 : decode b_M_pass 140 = .ok (.iload_n 2, 1) := by decide +kernel
theorem d_M_pass_141 : decode b_M_pass 141 = .ok (.ireturn, 1) := by decide +kernel
theorem d_M_passes_0 : decode b_M_passes 0 = .ok (.iconst 0, 1) := by decide +kernel
theorem d_M_passes_1 : decode b_M_passes 1 = .ok (.istore_n 3, 1) := by decide +kernel
theorem d_M_passes_2 : decode b_M_passes 2 = .ok (.iload_n 3, 1) := by decide +kernel
theorem d_M_passes_3 : decode b_M_passes 3 = .ok (.iload_n 2, 1) := by decide +kernel
theorem d_M_passes_4 : decode b_M_passes 4 = .ok (.if_icmp .ge 15, 3) := by decide +kernel
theorem d_M_passes_7 : decode b_M_passes 7 = .ok (.aload_n 0, 1) := by decide +kernel
theorem d_M_passes_8 : decode b_M_passes 8 = .ok (.iload_n 1, 1) := by decide +kernel
theorem d_M_passes_9 : decode b_M_passes 9 = .ok (.invokevirtual 167, 3) := by decide +kernel
theorem d_M_passes_12 : decode b_M_passes 12 = .ok (.pop, 1) := by decide +kernel
theorem d_M_passes_13 : decode b_M_passes 13 = .ok (.iinc 3 1, 3) := by decide +kernel
theorem d_M_passes_16 : decode b_M_passes 16 = .ok (.goto (-14), 3) := by decide +kernel
theorem d_M_passes_19 : decode b_M_passes 19 = .ok (.return_, 1) := by decide +kernel
theorem d_M_post_0 : decode b_M_post 0 = .ok (.aload_n 0, 1) := by decide +kernel
theorem d_M_post_1 : decode b_M_post 1 = .ok (.iload_n 1, 1) := by decide +kernel
theorem d_M_post_2 : decode b_M_post 2 = .ok (.invokevirtual 175, 3) := by decide +kernel
theorem d_M_post_5 : decode b_M_post 5 = .ok (.ifCond .ne 6, 3) := by decide +kernel
theorem d_M_post_8 : decode b_M_post 8 = .ok (.ldc 55, 2) := by decide +kernel
theorem d_M_post_10 : decode b_M_post 10 = .ok (.ireturn, 1) := by decide +kernel
theorem d_M_post_11 : decode b_M_post 11 = .ok (.aload_n 0, 1) := by decide +kernel
theorem d_M_post_12 : decode b_M_post 12 = .ok (.getfield 7, 3) := by decide +kernel
theorem d_M_post_15 : decode b_M_post 15 = .ok (.iconst 3, 1) := by decide +kernel
theorem d_M_post_16 : decode b_M_post 16 = .ok (.iaload, 1) := by decide +kernel
theorem d_M_post_17 : decode b_M_post 17 = .ok (.iload_n 1, 1) := by decide +kernel
theorem d_M_post_18 : decode b_M_post 18 = .ok (.invokestatic 138, 3) := by decide +kernel
theorem d_M_post_21 : decode b_M_post 21 = .ok (.ifCond .eq 6, 3) := by decide +kernel
theorem d_M_post_24 : decode b_M_post 24 = .ok (.ldc 137, 2) := by decide +kernel
theorem d_M_post_26 : decode b_M_post 26 = .ok (.ireturn, 1) := by decide +kernel
theorem d_M_post_27 : decode b_M_post 27 = .ok (.aload_n 0, 1) := by decide +kernel
theorem d_M_post_28 : decode b_M_post 28 = .ok (.invokevirtual 172, 3) := by decide +kernel
theorem d_M_post_31 : decode b_M_post 31 = .ok (.aload_n 0, 1) := by decide +kernel
theorem d_M_post_32 : decode b_M_post 32 = .ok (.iconst 0, 1) := by decide +kernel
theorem d_M_post_33 : decode b_M_post 33 = .ok (.iload_n 1, 1) := by decide +kernel
theorem d_M_post_34 : decode b_M_post 34 = .ok (.invokevirtual 181, 3) := by decide +kernel
theorem d_M_post_37 : decode b_M_post 37 = .ok (.aload_n 0, 1) := by decide +kernel
theorem d_M_post_38 : decode b_M_post 38 = .ok (.iconst 0, 1) := by decide +kernel
theorem d_M_post_39 : decode b_M_post 39 = .ok (.invokevirtual 151, 3) := by decide +kernel
theorem d_M_post_42 : decode b_M_post 42 = .ok (.ireturn, 1) := by decide +kernel
theorem d_M_posts_0 : decode b_M_posts 0 = .ok (.aload_n 0, 1) := by decide +kernel
theorem d_M_posts_1 : decode b_M_posts 1 = .ok (.getfield 7, 3) := by decide +kernel
theorem d_M_posts_4 : decode b_M_posts 4 = .ok (.iload_n 1, 1) := by decide +kernel
theorem d_M_posts_5 : decode b_M_posts 5 = .ok (.iconst 3, 1) := by decide +kernel
theorem d_M_posts_6 : decode b_M_posts 6 = .ok (.iadd, 1) := by decide +kernel
theorem d_M_posts_7 : decode b_M_posts 7 = .ok (.dup2, 1) := by decide +kernel
theorem d_M_posts_8 : decode b_M_posts 8 = .ok (.iaload, 1) := by decide +kernel
theorem d_M_posts_9 : decode b_M_posts 9 = .ok (.iconst 1, 1) := by decide +kernel
theorem d_M_posts_10 : decode b_M_posts 10 = .ok (.iload_n 2, 1) := by decide +kernel
theorem d_M_posts_11 : decode b_M_posts 11 = .ok (.ishl, 1) := by decide +kernel
theorem d_M_posts_12 : decode b_M_posts 12 = .ok (.ior, 1) := by decide +kernel
theorem d_M_posts_13 : decode b_M_posts 13 = .ok (.iastore, 1) := by decide +kernel
theorem d_M_posts_14 : decode b_M_posts 14 = .ok (.aload_n 0, 1) := by decide +kernel
theorem d_M_posts_15 : decode b_M_posts 15 = .ok (.getfield 7, 3) := by decide +kernel
theorem d_M_posts_18 : decode b_M_posts 18 = .ok (.iload_n 1, 1) := by decide +kernel
theorem d_M_posts_19 : decode b_M_posts 19 = .ok (.bipush 30, 2) := by decide +kernel
theorem d_M_posts_21 : decode b_M_posts 21 = .ok (.iadd, 1) := by decide +kernel
theorem d_M_posts_22 : decode b_M_posts 22 = .ok (.iload_n 2, 1) := by decide +kernel
theorem d_M_posts_23 : decode b_M_posts 23 = .ok (.iadd, 1) := by decide +kernel
theorem d_M_posts_24 : decode b_M_posts 24 = .ok (.iconst 0, 1) := by decide +kernel
theorem d_M_posts_25 : decode b_M_posts 25 = .ok (.iastore, 1) := by decide +kernel
theorem d_M_posts_26 : decode b_M_posts 26 = .ok (.return_, 1) := by decide +kernel
theorem d_M_reads_0 : decode b_M_reads 0 = .ok (.iconst 0, 1) := by decide +kernel
theorem d_M_reads_1 : decode b_M_reads 1 = .ok (.istore_n 1, 1) := by decide +kernel
theorem d_M_reads_2 : decode b_M_reads 2 = .ok (.iload_n 1, 1) := by decide +kernel
theorem d_M_reads_3 : decode b_M_reads 3 = .ok (.bipush 36, 2) := by decide +kernel
theorem d_M_reads_5 : decode b_M_reads 5 = .ok (.if_icmp .ge 20, 3) := by decide +kernel
theorem d_M_reads_8 : decode b_M_reads 8 = .ok (.aload_n 0, 1) := by decide +kernel
theorem d_M_reads_9 : decode b_M_reads 9 = .ok (.getfield 7, 3) := by decide +kernel
theorem d_M_reads_12 : decode b_M_reads 12 = .ok (.sipush 972, 3) := by decide +kernel
theorem d_M_reads_15 : decode b_M_reads 15 = .ok (.iload_n 1, 1) := by decide +kernel
theorem d_M_reads_16 : decode b_M_reads 16 = .ok (.iadd, 1) := by decide +kernel
theorem d_M_reads_17 : decode b_M_reads 17 = .ok (.iconst 0, 1) := by decide +kernel
theorem d_M_reads_18 : decode b_M_reads 18 = .ok (.iastore, 1) := by decide +kernel
theorem d_M_reads_19 : decode b_M_reads 19 = .ok (.iinc 1 1, 3) := by decide +kernel
theorem d_M_reads_22 : decode b_M_reads 22 = .ok (.goto (-20), 3) := by decide +kernel
theorem d_M_reads_25 : decode b_M_reads 25 = .ok (.aload_n 0, 1) := by decide +kernel
theorem d_M_reads_26 : decode b_M_reads 26 = .ok (.iconst 0, 1) := by decide +kernel
theorem d_M_reads_27 : decode b_M_reads 27 = .ok (.putfield 77, 3) := by decide +kernel
theorem d_M_reads_30 : decode b_M_reads 30 = .ok (.aload_n 0, 1) := by decide +kernel
theorem d_M_reads_31 : decode b_M_reads 31 = .ok (.invokevirtual 109, 3) := by decide +kernel
theorem d_M_reads_34 : decode b_M_reads 34 = .ok (.istore_n 1, 1) := by decide +kernel
theorem d_M_reads_35 : decode b_M_reads 35 = .ok (.iload_n 1, 1) := by decide +kernel
theorem d_M_reads_36 : decode b_M_reads 36 = .ok (.ifCond .eq 18, 3) := by decide +kernel
theorem d_M_reads_39 : decode b_M_reads 39 = .ok (.aload_n 0, 1) := by decide +kernel
theorem d_M_reads_40 : decode b_M_reads 40 = .ok (.invokevirtual 113, 3) := by decide +kernel
theorem d_M_reads_43 : decode b_M_reads 43 = .ok (.ifCond .eq 11, 3) := by decide +kernel
theorem d_M_reads_46 : decode b_M_reads 46 = .ok (.aload_n 0, 1) := by decide +kernel
theorem d_M_reads_47 : decode b_M_reads 47 = .ok (.invokevirtual 116, 3) := by decide +kernel
theorem d_M_reads_50 : decode b_M_reads 50 = .ok (.istore_n 1, 1) := by decide +kernel
theorem d_M_reads_51 : decode b_M_reads 51 = .ok (.goto (-16), 3) := by decide +kernel
theorem d_M_reads_54 : decode b_M_reads 54 = .ok (.iload_n 1, 1) := by decide +kernel
theorem d_M_reads_55 : decode b_M_reads 55 = .ok (.ifCond .eq 26, 3) := by decide +kernel
theorem d_M_reads_58 : decode b_M_reads 58 = .ok (.aload_n 0, 1) := by decide +kernel
theorem d_M_reads_59 : decode b_M_reads 59 = .ok (.getfield 77, 3) := by decide +kernel
theorem d_M_reads_62 : decode b_M_reads 62 = .ok (.aload_n 0, 1) := by decide +kernel
theorem d_M_reads_63 : decode b_M_reads 63 = .ok (.getfield 73, 3) := by decide +kernel
theorem d_M_reads_66 : decode b_M_reads 66 = .ok (.if_icmp .eq 11, 3) := by decide +kernel
theorem d_M_reads_69 : decode b_M_reads 69 = .ok (.aload_n 0, 1) := by decide +kernel
theorem d_M_reads_70 : decode b_M_reads 70 = .ok (.iconst 1, 1) := by decide +kernel
theorem d_M_reads_71 : decode b_M_reads 71 = .ok (.invokevirtual 90, 3) := by decide +kernel
theorem d_M_reads_74 : decode b_M_reads 74 = .ok (.ifCond .eq 7, 3) := by decide +kernel
theorem d_M_reads_77 : decode b_M_reads 77 = .ok (.iconst 1, 1) := by decide +kernel
theorem d_M_reads_78 : decode b_M_reads 78 = .ok (.goto 4, 3) := by decide +kernel
theorem d_M_reads_81 : decode b_M_reads 81 = .ok (.iconst 0, 1) := by decide +kernel
theorem d_M_reads_82 : decode b_M_reads 82 = .ok (.ireturn, 1) := by decide +kernel
theorem d_M_readsLaw_0 : decode b_M_readsLaw 0 = .ok (.aload_n 0, 1) := by decide +kernel
theorem d_M_readsLaw_1 : decode b_M_readsLaw 1 = .ok (.bipush 99, 2) := by decide +kernel
theorem d_M_readsLaw_3 : decode b_M_readsLaw 3 = .ok (.invokevirtual 99, 3) := by decide +kernel
theorem d_M_readsLaw_6 : decode b_M_readsLaw 6 = .ok (.ifCond .eq 13, 3) := by decide +kernel
theorem d_M_readsLaw_9 : decode b_M_readsLaw 9 = .ok (.aload_n 0, 1) := by decide +kernel
theorem d_M_readsLaw_10 : decode b_M_readsLaw 10 = .ok (.iconst 1, 1) := by decide +kernel
theorem d_M_readsLaw_11 : decode b_M_readsLaw 11 = .ok (.bipush 30, 2) := by decide +kernel
theorem d_M_readsLaw_13 : decode b_M_readsLaw 13 = .ok (.invokevirtual 102, 3) := by decide +kernel
theorem d_M_readsLaw_16 : decode b_M_readsLaw 16 = .ok (.ifCond .ne 5, 3) := by decide +kernel
theorem d_M_readsLaw_19 : decode b_M_readsLaw 19 = .ok (.iconst 0, 1) := by decide +kernel
theorem d_M_readsLaw_20 : decode b_M_readsLaw 20 = .ok (.ireturn, 1) := by decide +kernel
theorem d_M_readsLaw_21 : decode b_M_readsLaw 21 = .ok (.aload_n 0, 1) := by decide +kernel
theorem d_M_readsLaw_22 : decode b_M_readsLaw 22 = .ok (.getfield 7, 3) := by decide +kernel
theorem d_M_readsLaw_25 : decode b_M_readsLaw 25 = .ok (.sipush 973, 3) := by decide +kernel
theorem d_M_readsLaw_28 : decode b_M_readsLaw 28 = .ok (.aload_n 0, 1) := by decide +kernel
theorem d_M_readsLaw_29 : decode b_M_readsLaw 29 = .ok (.getfield 96, 3) := by decide +kernel
theorem d_M_readsLaw_32 : decode b_M_readsLaw 32 = .ok (.iastore, 1) := by decide +kernel
theorem d_M_readsLaw_33 : decode b_M_readsLaw 33 = .ok (.aload_n 0, 1) := by decide +kernel
theorem d_M_readsLaw_34 : decode b_M_readsLaw 34 = .ok (.bipush 59, 2) := by decide +kernel
theorem d_M_readsLaw_36 : decode b_M_readsLaw 36 = .ok (.invokevirtual 99, 3) := by decide +kernel
theorem d_M_readsLaw_39 : decode b_M_readsLaw 39 = .ok (.ireturn, 1) := by decide +kernel
theorem d_M_readsLetter_0 : decode b_M_readsLetter 0 = .ok (.aload_n 0, 1) := by decide +kernel
theorem d_M_readsLetter_1 : decode b_M_readsLetter 1 = .ok (.getfield 7, 3) := by decide +kernel
theorem d_M_readsLetter_4 : decode b_M_readsLetter 4 = .ok (.sipush 972, 3) := by decide +kernel
theorem d_M_readsLetter_7 : decode b_M_readsLetter 7 = .ok (.iaload, 1) := by decide +kernel
theorem d_M_readsLetter_8 : decode b_M_readsLetter 8 = .ok (.istore_n 1, 1) := by decide +kernel
theorem d_M_readsLetter_9 : decode b_M_readsLetter 9 = .ok (.iload_n 1, 1) := by decide +kernel
theorem d_M_readsLetter_10 : decode b_M_readsLetter 10 = .ok (.bipush 6, 2) := by decide +kernel
theorem d_M_readsLetter_12 : decode b_M_readsLetter 12 = .ok (.if_icmp .ne 9, 3) := by decide +kernel
theorem d_M_readsLetter_15 : decode b_M_readsLetter 15 = .ok (.aload_n 0, 1) := by decide +kernel
theorem d_M_readsLetter_16 : decode b_M_readsLetter 16 = .ok (.iconst 3, 1) := by decide +kernel
theorem d_M_readsLetter_17 : decode b_M_readsLetter 17 = .ok (.invokevirtual 90, 3) := by decide +kernel
theorem d_M_readsLetter_20 : decode b_M_readsLetter 20 = .ok (.ireturn, 1) := by decide +kernel
theorem d_M_readsLetter_21 : decode b_M_readsLetter 21 = .ok (.aload_n 0, 1) := by decide +kernel
theorem d_M_readsLetter_22 : decode b_M_readsLetter 22 = .ok (.getfield 7, 3) := by decide +kernel
theorem d_M_readsLetter_25 : decode b_M_readsLetter 25 = .ok (.sipush 978, 3) := by decide +kernel
theorem d_M_readsLetter_28 : decode b_M_readsLetter 28 = .ok (.iload_n 1, 1) := by decide +kernel
theorem d_M_readsLetter_29 : decode b_M_readsLetter 29 = .ok (.iadd, 1) := by decide +kernel
theorem d_M_readsLetter_30 : decode b_M_readsLetter 30 = .ok (.aload_n 0, 1) := by decide +kernel
theorem d_M_readsLetter_31 : decode b_M_readsLetter 31 = .ok (.getfield 26, 3) := by decide +kernel
theorem d_M_readsLetter_34 : decode b_M_readsLetter 34 = .ok (.aload_n 0, 1) := by decide +kernel
theorem d_M_readsLetter_35 : decode b_M_readsLetter 35 = .ok (.getfield 77, 3) := by decide +kernel
theorem d_M_readsLetter_38 : decode b_M_readsLetter 38 = .ok (.iaload, 1) := by decide +kernel
theorem d_M_readsLetter_39 : decode b_M_readsLetter 39 = .ok (.invokestatic 106, 3) := by decide +kernel
theorem d_M_readsLetter_42 : decode b_M_readsLetter 42 = .ok (.iastore, 1) := by decide +kernel
theorem d_M_readsLetter_43 : decode b_M_readsLetter 43 = .ok (.aload_n 0, 1) := by decide +kernel
theorem d_M_readsLetter_44 : decode b_M_readsLetter 44 = .ok (.dup, 1) := by decide +kernel
theorem d_M_readsLetter_45 : decode b_M_readsLetter 45 = .ok (.getfield 77, 3) := by decide +kernel
theorem d_M_readsLetter_48 : decode b_M_readsLetter 48 = .ok (.iconst 1, 1) := by decide +kernel
theorem d_M_readsLetter_49 : decode b_M_readsLetter 49 = .ok (.iadd, 1) := by decide +kernel
theorem d_M_readsLetter_50 : decode b_M_readsLetter 50 = .ok (.putfield 77, 3) := by decide +kernel
theorem d_M_readsLetter_53 : decode b_M_readsLetter 53 = .ok (.aload_n 0, 1) := by decide +kernel
theorem d_M_readsLetter_54 : decode b_M_readsLetter 54 = .ok (.iconst 0, 1) := by decide +kernel
theorem d_M_readsLetter_55 : decode b_M_readsLetter 55 = .ok (.bipush 9, 2) := by decide +kernel
theorem d_M_readsLetter_57 : decode b_M_readsLetter 57 = .ok (.invokevirtual 102, 3) := by decide +kernel
theorem d_M_readsLetter_60 : decode b_M_readsLetter 60 = .ok (.ifCond .ne 5, 3) := by decide +kernel
theorem d_M_readsLetter_63 : decode b_M_readsLetter 63 = .ok (.iconst 0, 1) := by decide +kernel
theorem d_M_readsLetter_64 : decode b_M_readsLetter 64 = .ok (.ireturn, 1) := by decide +kernel
theorem d_M_readsLetter_65 : decode b_M_readsLetter 65 = .ok (.aload_n 0, 1) := by decide +kernel
theorem d_M_readsLetter_66 : decode b_M_readsLetter 66 = .ok (.getfield 7, 3) := by decide +kernel
theorem d_M_readsLetter_69 : decode b_M_readsLetter 69 = .ok (.sipush 984, 3) := by decide +kernel
theorem d_M_readsLetter_72 : decode b_M_readsLetter 72 = .ok (.iload_n 1, 1) := by decide +kernel
theorem d_M_readsLetter_73 : decode b_M_readsLetter 73 = .ok (.iadd, 1) := by decide +kernel
theorem d_M_readsLetter_74 : decode b_M_readsLetter 74 = .ok (.aload_n 0, 1) := by decide +kernel
theorem d_M_readsLetter_75 : decode b_M_readsLetter 75 = .ok (.getfield 96, 3) := by decide +kernel
theorem d_M_readsLetter_78 : decode b_M_readsLetter 78 = .ok (.iastore, 1) := by decide +kernel
theorem d_M_readsLetter_79 : decode b_M_readsLetter 79 = .ok (.aload_n 0, 1) := by decide +kernel
theorem d_M_readsLetter_80 : decode b_M_readsLetter 80 = .ok (.bipush 44, 2) := by decide +kernel
theorem d_M_readsLetter_82 : decode b_M_readsLetter 82 = .ok (.invokevirtual 99, 3) := by decide +kernel
theorem d_M_readsLetter_85 : decode b_M_readsLetter 85 = .ok (.ifCond .eq 13, 3) := by decide +kernel
theorem d_M_readsLetter_88 : decode b_M_readsLetter 88 = .ok (.aload_n 0, 1) := by decide +kernel
theorem d_M_readsLetter_89 : decode b_M_readsLetter 89 = .ok (.iconst 1, 1) := by decide +kernel
theorem d_M_readsLetter_90 : decode b_M_readsLetter 90 = .ok (.bipush 9, 2) := by decide +kernel
theorem d_M_readsLetter_92 : decode b_M_readsLetter 92 = .ok (.invokevirtual 102, 3) := by decide +kernel
theorem d_M_readsLetter_95 : decode b_M_readsLetter 95 = .ok (.ifCond .ne 5, 3) := by decide +kernel
theorem d_M_readsLetter_98 : decode b_M_readsLetter 98 = .ok (.iconst 0, 1) := by decide +kernel
theorem d_M_readsLetter_99 : decode b_M_readsLetter 99 = .ok (.ireturn, 1) := by decide +kernel
theorem d_M_readsLetter_100 : decode b_M_readsLetter 100 = .ok (.aload_n 0, 1) := by decide +kernel
theorem d_M_readsLetter_101 : decode b_M_readsLetter 101 = .ok (.getfield 7, 3) := by decide +kernel
theorem d_M_readsLetter_104 : decode b_M_readsLetter 104 = .ok (.sipush 990, 3) := by decide +kernel
theorem d_M_readsLetter_107 : decode b_M_readsLetter 107 = .ok (.iload_n 1, 1) := by decide +kernel
theorem d_M_readsLetter_108 : decode b_M_readsLetter 108 = .ok (.iadd, 1) := by decide +kernel
theorem d_M_readsLetter_109 : decode b_M_readsLetter 109 = .ok (.aload_n 0, 1) := by decide +kernel
theorem d_M_readsLetter_110 : decode b_M_readsLetter 110 = .ok (.getfield 96, 3) := by decide +kernel
theorem d_M_readsLetter_113 : decode b_M_readsLetter 113 = .ok (.iastore, 1) := by decide +kernel
theorem d_M_readsLetter_114 : decode b_M_readsLetter 114 = .ok (.aload_n 0, 1) := by decide +kernel
theorem d_M_readsLetter_115 : decode b_M_readsLetter 115 = .ok (.bipush 44, 2) := by decide +kernel
theorem d_M_readsLetter_117 : decode b_M_readsLetter 117 = .ok (.invokevirtual 99, 3) := by decide +kernel
theorem d_M_readsLetter_120 : decode b_M_readsLetter 120 = .ok (.ifCond .eq 13, 3) := by decide +kernel
theorem d_M_readsLetter_123 : decode b_M_readsLetter 123 = .ok (.aload_n 0, 1) := by decide +kernel
theorem d_M_readsLetter_124 : decode b_M_readsLetter 124 = .ok (.iconst 0, 1) := by decide +kernel
theorem d_M_readsLetter_125 : decode b_M_readsLetter 125 = .ok (.bipush 9, 2) := by decide +kernel
theorem d_M_readsLetter_127 : decode b_M_readsLetter 127 = .ok (.invokevirtual 102, 3) := by decide +kernel
theorem d_M_readsLetter_130 : decode b_M_readsLetter 130 = .ok (.ifCond .ne 5, 3) := by decide +kernel
theorem d_M_readsLetter_133 : decode b_M_readsLetter 133 = .ok (.iconst 0, 1) := by decide +kernel
theorem d_M_readsLetter_134 : decode b_M_readsLetter 134 = .ok (.ireturn, 1) := by decide +kernel
theorem d_M_readsLetter_135 : decode b_M_readsLetter 135 = .ok (.aload_n 0, 1) := by decide +kernel
theorem d_M_readsLetter_136 : decode b_M_readsLetter 136 = .ok (.getfield 7, 3) := by decide +kernel
theorem d_M_readsLetter_139 : decode b_M_readsLetter 139 = .ok (.sipush 996, 3) := by decide +kernel
theorem d_M_readsLetter_142 : decode b_M_readsLetter 142 = .ok (.iload_n 1, 1) := by decide +kernel
theorem d_M_readsLetter_143 : decode b_M_readsLetter 143 = .ok (.iadd, 1) := by decide +kernel
theorem d_M_readsLetter_144 : decode b_M_readsLetter 144 = .ok (.aload_n 0, 1) := by decide +kernel
theorem d_M_readsLetter_145 : decode b_M_readsLetter 145 = .ok (.getfield 96, 3) := by decide +kernel
theorem d_M_readsLetter_148 : decode b_M_readsLetter 148 = .ok (.iastore, 1) := by decide +kernel
theorem d_M_readsLetter_149 : decode b_M_readsLetter 149 = .ok (.aload_n 0, 1) := by decide +kernel
theorem d_M_readsLetter_150 : decode b_M_readsLetter 150 = .ok (.getfield 7, 3) := by decide +kernel
theorem d_M_readsLetter_153 : decode b_M_readsLetter 153 = .ok (.sipush 972, 3) := by decide +kernel
theorem d_M_readsLetter_156 : decode b_M_readsLetter 156 = .ok (.dup2, 1) := by decide +kernel
theorem d_M_readsLetter_157 : decode b_M_readsLetter 157 = .ok (.iaload, 1) := by decide +kernel
theorem d_M_readsLetter_158 : decode b_M_readsLetter 158 = .ok (.iconst 1, 1) := by decide +kernel
theorem d_M_readsLetter_159 : decode b_M_readsLetter 159 = .ok (.iadd, 1) := by decide +kernel
theorem d_M_readsLetter_160 : decode b_M_readsLetter 160 = .ok (.iastore, 1) := by decide +kernel
theorem d_M_readsLetter_161 : decode b_M_readsLetter 161 = .ok (.aload_n 0, 1) := by decide +kernel
theorem d_M_readsLetter_162 : decode b_M_readsLetter 162 = .ok (.bipush 59, 2) := by decide +kernel
theorem d_M_readsLetter_164 : decode b_M_readsLetter 164 = .ok (.invokevirtual 99, 3) := by decide +kernel
theorem d_M_readsLetter_167 : decode b_M_readsLetter 167 = .ok (.ireturn, 1) := by decide +kernel
theorem d_M_readsNumber_0 : decode b_M_readsNumber 0 = .ok (.aload_n 0, 1) := by decide +kernel
theorem d_M_readsNumber_1 : decode b_M_readsNumber 1 = .ok (.aload_n 0, 1) := by decide +kernel
theorem d_M_readsNumber_2 : decode b_M_readsNumber 2 = .ok (.getfield 77, 3) := by decide +kernel
theorem d_M_readsNumber_5 : decode b_M_readsNumber 5 = .ok (.invokevirtual 93, 3) := by decide +kernel
theorem d_M_readsNumber_8 : decode b_M_readsNumber 8 = .ok (.ifCond .eq 29, 3) := by decide +kernel
theorem d_M_readsNumber_11 : decode b_M_readsNumber 11 = .ok (.aload_n 0, 1) := by decide +kernel
theorem d_M_readsNumber_12 : decode b_M_readsNumber 12 = .ok (.aload_n 0, 1) := by decide +kernel
theorem d_M_readsNumber_13 : decode b_M_readsNumber 13 = .ok (.getfield 77, 3) := by decide +kernel
theorem d_M_readsNumber_16 : decode b_M_readsNumber 16 = .ok (.iconst 1, 1) := by decide +kernel
theorem d_M_readsNumber_17 : decode b_M_readsNumber 17 = .ok (.iadd, 1) := by decide +kernel
theorem d_M_readsNumber_18 : decode b_M_readsNumber 18 = .ok (.invokevirtual 93, 3) := by decide +kernel
theorem d_M_readsNumber_21 : decode b_M_readsNumber 21 = .ok (.ifCond .eq 22, 3) := by decide +kernel
theorem d_M_readsNumber_24 : decode b_M_readsNumber 24 = .ok (.aload_n 0, 1) := by decide +kernel
theorem d_M_readsNumber_25 : decode b_M_readsNumber 25 = .ok (.aload_n 0, 1) := by decide +kernel
theorem d_M_readsNumber_26 : decode b_M_readsNumber 26 = .ok (.getfield 77, 3) := by decide +kernel
theorem d_M_readsNumber_29 : decode b_M_readsNumber 29 = .ok (.iconst 2, 1) := by decide +kernel
theorem d_M_readsNumber_30 : decode b_M_readsNumber 30 = .ok (.iadd, 1) := by decide +kernel
theorem d_M_readsNumber_31 : decode b_M_readsNumber 31 = .ok (.invokevirtual 93, 3) := by decide +kernel
theorem d_M_readsNumber_34 : decode b_M_readsNumber 34 = .ok (.ifCond .eq 9, 3) := by decide +kernel
theorem d_M_readsNumber_37 : decode b_M_readsNumber 37 = .ok (.aload_n 0, 1) := by decide +kernel
theorem d_M_readsNumber_38 : decode b_M_readsNumber 38 = .ok (.iconst 1, 1) := by decide +kernel
theorem d_M_readsNumber_39 : decode b_M_readsNumber 39 = .ok (.invokevirtual 90, 3) := by decide +kernel
theorem d_M_readsNumber_42 : decode b_M_readsNumber 42 = .ok (.ireturn, 1) := by decide +kernel
theorem d_M_readsNumber_43 : decode b_M_readsNumber 43 = .ok (.aload_n 0, 1) := by decide +kernel
theorem d_M_readsNumber_44 : decode b_M_readsNumber 44 = .ok (.aload_n 0, 1) := by decide +kernel
theorem d_M_readsNumber_45 : decode b_M_readsNumber 45 = .ok (.getfield 26, 3) := by decide +kernel
theorem d_M_readsNumber_48 : decode b_M_readsNumber 48 = .ok (.aload_n 0, 1) := by decide +kernel
theorem d_M_readsNumber_49 : decode b_M_readsNumber 49 = .ok (.getfield 77, 3) := by decide +kernel
theorem d_M_readsNumber_52 : decode b_M_readsNumber 52 = .ok (.iaload, 1) := by decide +kernel
theorem d_M_readsNumber_53 : decode b_M_readsNumber 53 = .ok (.bipush 48, 2) := by decide +kernel
theorem d_M_readsNumber_55 : decode b_M_readsNumber 55 = .ok (.isub, 1) := by decide +kernel
theorem d_M_readsNumber_56 : decode b_M_readsNumber 56 = .ok (.putfield 96, 3) := by decide +kernel
theorem d_M_readsNumber_59 : decode b_M_readsNumber 59 = .ok (.aload_n 0, 1) := by decide +kernel
theorem d_M_readsNumber_60 : decode b_M_readsNumber 60 = .ok (.aload_n 0, 1) := by decide +kernel
theorem d_M_readsNumber_61 : decode b_M_readsNumber 61 = .ok (.getfield 77, 3) := by decide +kernel
theorem d_M_readsNumber_64 : decode b_M_readsNumber 64 = .ok (.iconst 1, 1) := by decide +kernel
theorem d_M_readsNumber_65 : decode b_M_readsNumber 65 = .ok (.iadd, 1) := by decide +kernel
theorem d_M_readsNumber_66 : decode b_M_readsNumber 66 = .ok (.invokevirtual 93, 3) := by decide +kernel
theorem d_M_readsNumber_69 : decode b_M_readsNumber 69 = .ok (.ifCond .eq 7, 3) := by decide +kernel
theorem d_M_readsNumber_72 : decode b_M_readsNumber 72 = .ok (.iconst 2, 1) := by decide +kernel
theorem d_M_readsNumber_73 : decode b_M_readsNumber 73 = .ok (.goto 4, 3) := by decide +kernel
theorem d_M_readsNumber_76 : decode b_M_readsNumber 76 = .ok (.iconst 1, 1) := by decide +kernel
theorem d_M_readsNumber_77 : decode b_M_readsNumber 77 = .ok (.istore_n 3, 1) := by decide +kernel
theorem d_M_readsNumber_78 : decode b_M_readsNumber 78 = .ok (.aload_n 0, 1) := by decide +kernel
theorem d_M_readsNumber_79 : decode b_M_readsNumber 79 = .ok (.iload_n 3, 1) := by decide +kernel
theorem d_M_readsNumber_80 : decode b_M_readsNumber 80 = .ok (.iconst 2, 1) := by decide +kernel
theorem d_M_readsNumber_81 : decode b_M_readsNumber 81 = .ok (.if_icmp .ne 28, 3) := by decide +kernel
theorem d_M_readsNumber_84 : decode b_M_readsNumber 84 = .ok (.bipush 10, 2) := by decide +kernel
theorem d_M_readsNumber_86 : decode b_M_readsNumber 86 = .ok (.aload_n 0, 1) := by decide +kernel
theorem d_M_readsNumber_87 : decode b_M_readsNumber 87 = .ok (.getfield 96, 3) := by decide +kernel
theorem d_M_readsNumber_90 : decode b_M_readsNumber 90 = .ok (.imul, 1) := by decide +kernel
theorem d_M_readsNumber_91 : decode b_M_readsNumber 91 = .ok (.aload_n 0, 1) := by decide +kernel
theorem d_M_readsNumber_92 : decode b_M_readsNumber 92 = .ok (.getfield 26, 3) := by decide +kernel
theorem d_M_readsNumber_95 : decode b_M_readsNumber 95 = .ok (.aload_n 0, 1) := by decide +kernel
theorem d_M_readsNumber_96 : decode b_M_readsNumber 96 = .ok (.getfield 77, 3) := by decide +kernel
theorem d_M_readsNumber_99 : decode b_M_readsNumber 99 = .ok (.iconst 1, 1) := by decide +kernel
theorem d_M_readsNumber_100 : decode b_M_readsNumber 100 = .ok (.iadd, 1) := by decide +kernel
theorem d_M_readsNumber_101 : decode b_M_readsNumber 101 = .ok (.iaload, 1) := by decide +kernel
theorem d_M_readsNumber_102 : decode b_M_readsNumber 102 = .ok (.iadd, 1) := by decide +kernel
theorem d_M_readsNumber_103 : decode b_M_readsNumber 103 = .ok (.bipush 48, 2) := by decide +kernel
theorem d_M_readsNumber_105 : decode b_M_readsNumber 105 = .ok (.isub, 1) := by decide +kernel
theorem d_M_readsNumber_106 : decode b_M_readsNumber 106 = .ok (.goto 7, 3) := by decide +kernel
theorem d_M_readsNumber_109 : decode b_M_readsNumber 109 = .ok (.aload_n 0, 1) := by decide +kernel
theorem d_M_readsNumber_110 : decode b_M_readsNumber 110 = .ok (.getfield 96, 3) := by decide +kernel
theorem d_M_readsNumber_113 : decode b_M_readsNumber 113 = .ok (.putfield 96, 3) := by decide +kernel
theorem d_M_readsNumber_116 : decode b_M_readsNumber 116 = .ok (.aload_n 0, 1) := by decide +kernel
theorem d_M_readsNumber_117 : decode b_M_readsNumber 117 = .ok (.getfield 96, 3) := by decide +kernel
theorem d_M_readsNumber_120 : decode b_M_readsNumber 120 = .ok (.i2l, 1) := by decide +kernel
theorem d_M_readsNumber_121 : decode b_M_readsNumber 121 = .ok (.iload_n 1, 1) := by decide +kernel
theorem d_M_readsNumber_122 : decode b_M_readsNumber 122 = .ok (.i2l, 1) := by decide +kernel
theorem d_M_readsNumber_123 : decode b_M_readsNumber 123 = .ok (.iload_n 2, 1) := by decide +kernel
theorem d_M_readsNumber_124 : decode b_M_readsNumber 124 = .ok (.i2l, 1) := by decide +kernel
theorem d_M_readsNumber_125 : decode b_M_readsNumber 125 = .ok (.invokestatic 45, 3) := by decide +kernel
theorem d_M_readsNumber_128 : decode b_M_readsNumber 128 = .ok (.ifCond .ne 9, 3) := by decide +kernel
theorem d_M_readsNumber_131 : decode b_M_readsNumber 131 = .ok (.aload_n 0, 1) := by decide +kernel
theorem d_M_readsNumber_132 : decode b_M_readsNumber 132 = .ok (.iconst 2, 1) := by decide +kernel
theorem d_M_readsNumber_133 : decode b_M_readsNumber 133 = .ok (.invokevirtual 90, 3) := by decide +kernel
theorem d_M_readsNumber_136 : decode b_M_readsNumber 136 = .ok (.ireturn, 1) := by decide +kernel
theorem d_M_readsNumber_137 : decode b_M_readsNumber 137 = .ok (.aload_n 0, 1) := by decide +kernel
theorem d_M_readsNumber_138 : decode b_M_readsNumber 138 = .ok (.dup, 1) := by decide +kernel
theorem d_M_readsNumber_139 : decode b_M_readsNumber 139 = .ok (.getfield 77, 3) := by decide +kernel
theorem d_M_readsNumber_142 : decode b_M_readsNumber 142 = .ok (.iload_n 3, 1) := by decide +kernel
theorem d_M_readsNumber_143 : decode b_M_readsNumber 143 = .ok (.iadd, 1) := by decide +kernel
theorem d_M_readsNumber_144 : decode b_M_readsNumber 144 = .ok (.putfield 77, 3) := by decide +kernel
theorem d_M_readsNumber_147 : decode b_M_readsNumber 147 = .ok (.iconst 1, 1) := by decide +kernel
theorem d_M_readsNumber_148 : decode b_M_readsNumber 148 = .ok (.ireturn, 1) := by decide +kernel
theorem d_M_refuse_0 : decode b_M_refuse 0 = .ok (.aload_n 0, 1) := by decide +kernel
theorem d_M_refuse_1 : decode b_M_refuse 1 = .ok (.iload_n 1, 1) := by decide +kernel
theorem d_M_refuse_2 : decode b_M_refuse 2 = .ok (.putfield 84, 3) := by decide +kernel
theorem d_M_refuse_5 : decode b_M_refuse 5 = .ok (.iconst 0, 1) := by decide +kernel
theorem d_M_refuse_6 : decode b_M_refuse 6 = .ok (.ireturn, 1) := by decide +kernel
theorem d_M_restore_0 : decode b_M_restore 0 = .ok (.iload_n 1, 1) := by decide +kernel
theorem d_M_restore_1 : decode b_M_restore 1 = .ok (.i2l, 1) := by decide +kernel
theorem d_M_restore_2 : decode b_M_restore 2 = .ok (.lconst 0, 1) := by decide +kernel
theorem d_M_restore_3 : decode b_M_restore 3 = .ok (.lconst 1, 1) := by decide +kernel
theorem d_M_restore_4 : decode b_M_restore 4 = .ok (.invokestatic 45, 3) := by decide +kernel
theorem d_M_restore_7 : decode b_M_restore 7 = .ok (.ifCond .ne 6, 3) := by decide +kernel
theorem d_M_restore_10 : decode b_M_restore 10 = .ok (.ldc 55, 2) := by decide +kernel
theorem d_M_restore_12 : decode b_M_restore 12 = .ok (.ireturn, 1) := by decide +kernel
theorem d_M_restore_13 : decode b_M_restore 13 = .ok (.aload_n 0, 1) := by decide +kernel
theorem d_M_restore_14 : decode b_M_restore 14 = .ok (.getfield 13, 3) := by decide +kernel
theorem d_M_restore_17 : decode b_M_restore 17 = .ok (.iload_n 1, 1) := by decide +kernel
theorem d_M_restore_18 : decode b_M_restore 18 = .ok (.baload, 1) := by decide +kernel
theorem d_M_restore_19 : decode b_M_restore 19 = .ok (.ifCond .ne 6, 3) := by decide +kernel
theorem d_M_restore_22 : decode b_M_restore 22 = .ok (.ldc 137, 2) := by decide +kernel
theorem d_M_restore_24 : decode b_M_restore 24 = .ok (.ireturn, 1) := by decide +kernel
theorem d_M_restore_25 : decode b_M_restore 25 = .ok (.aload_n 0, 1) := by decide +kernel
theorem d_M_restore_26 : decode b_M_restore 26 = .ok (.sipush 900, 3) := by decide +kernel
theorem d_M_restore_29 : decode b_M_restore 29 = .ok (.bipush 36, 2) := by decide +kernel
theorem d_M_restore_31 : decode b_M_restore 31 = .ok (.iload_n 1, 1) := by decide +kernel
theorem d_M_restore_32 : decode b_M_restore 32 = .ok (.imul, 1) := by decide +kernel
theorem d_M_restore_33 : decode b_M_restore 33 = .ok (.iadd, 1) := by decide +kernel
theorem d_M_restore_34 : decode b_M_restore 34 = .ok (.iconst 0, 1) := by decide +kernel
theorem d_M_restore_35 : decode b_M_restore 35 = .ok (.invokevirtual 126, 3) := by decide +kernel
theorem d_M_restore_38 : decode b_M_restore 38 = .ok (.aload_n 0, 1) := by decide +kernel
theorem d_M_restore_39 : decode b_M_restore 39 = .ok (.iconst 0, 1) := by decide +kernel
theorem d_M_restore_40 : decode b_M_restore 40 = .ok (.putfield 134, 3) := by decide +kernel
theorem d_M_restore_43 : decode b_M_restore 43 = .ok (.iconst 1, 1) := by decide +kernel
theorem d_M_restore_44 : decode b_M_restore 44 = .ok (.ireturn, 1) := by decide +kernel
theorem d_M_row_0 : decode b_M_row 0 = .ok (.iload_n 1, 1) := by decide +kernel
theorem d_M_row_1 : decode b_M_row 1 = .ok (.invokestatic 49, 3) := by decide +kernel
theorem d_M_row_4 : decode b_M_row 4 = .ok (.ifCond .eq 21, 3) := by decide +kernel
theorem d_M_row_7 : decode b_M_row 7 = .ok (.iload_n 2, 1) := by decide +kernel
theorem d_M_row_8 : decode b_M_row 8 = .ok (.i2l, 1) := by decide +kernel
theorem d_M_row_9 : decode b_M_row 9 = .ok (.lconst 0, 1) := by decide +kernel
theorem d_M_row_10 : decode b_M_row 10 = .ok (.ldc2_w 53, 3) := by decide +kernel
theorem d_M_row_13 : decode b_M_row 13 = .ok (.invokestatic 45, 3) := by decide +kernel
theorem d_M_row_16 : decode b_M_row 16 = .ok (.ifCond .eq 9, 3) := by decide +kernel
theorem d_M_row_19 : decode b_M_row 19 = .ok (.iload_n 3, 1) := by decide +kernel
theorem d_M_row_20 : decode b_M_row 20 = .ok (.bipush 40, 2) := by decide +kernel
theorem d_M_row_22 : decode b_M_row 22 = .ok (.if_icmp .le 6, 3) := by decide +kernel
theorem d_M_row_25 : decode b_M_row 25 = .ok (.ldc 55, 2) := by decide +kernel
theorem d_M_row_27 : decode b_M_row 27 = .ok (.ireturn, 1) := by decide +kernel
theorem d_M_row_28 : decode b_M_row 28 = .ok (.iload_n 3, 1) := by decide +kernel
theorem d_M_row_29 : decode b_M_row 29 = .ok (.ifCond .ge 9, 3) := by decide +kernel
theorem d_M_row_32 : decode b_M_row 32 = .ok (.aload_n 0, 1) := by decide +kernel
theorem d_M_row_33 : decode b_M_row 33 = .ok (.iconst 4, 1) := by decide +kernel
theorem d_M_row_34 : decode b_M_row 34 = .ok (.invokevirtual 56, 3) := by decide +kernel
theorem d_M_row_37 : decode b_M_row 37 = .ok (.ireturn, 1) := by decide +kernel
theorem d_M_row_38 : decode b_M_row 38 = .ok (.aload_n 0, 1) := by decide +kernel
theorem d_M_row_39 : decode b_M_row 39 = .ok (.getfield 17, 3) := by decide +kernel
theorem d_M_row_42 : decode b_M_row 42 = .ok (.iload_n 1, 1) := by decide +kernel
theorem d_M_row_43 : decode b_M_row 43 = .ok (.iload_n 2, 1) := by decide +kernel
theorem d_M_row_44 : decode b_M_row 44 = .ok (.iastore, 1) := by decide +kernel
theorem d_M_row_45 : decode b_M_row 45 = .ok (.aload_n 0, 1) := by decide +kernel
theorem d_M_row_46 : decode b_M_row 46 = .ok (.getfield 20, 3) := by decide +kernel
theorem d_M_row_49 : decode b_M_row 49 = .ok (.iload_n 1, 1) := by decide +kernel
theorem d_M_row_50 : decode b_M_row 50 = .ok (.iload_n 3, 1) := by decide +kernel
theorem d_M_row_51 : decode b_M_row 51 = .ok (.iastore, 1) := by decide +kernel
theorem d_M_row_52 : decode b_M_row 52 = .ok (.iconst 0, 1) := by decide +kernel
theorem d_M_row_53 : decode b_M_row 53 = .ok (.istore 4, 2) := by decide +kernel
theorem d_M_row_55 : decode b_M_row 55 = .ok (.iload 4, 2) := by decide +kernel
theorem d_M_row_57 : decode b_M_row 57 = .ok (.bipush 40, 2) := by decide +kernel
theorem d_M_row_59 : decode b_M_row 59 = .ok (.if_icmp .ge 22, 3) := by decide +kernel
theorem d_M_row_62 : decode b_M_row 62 = .ok (.aload_n 0, 1) := by decide +kernel
theorem d_M_row_63 : decode b_M_row 63 = .ok (.getfield 23, 3) := by decide +kernel
theorem d_M_row_66 : decode b_M_row 66 = .ok (.bipush 40, 2) := by decide +kernel
theorem d_M_row_68 : decode b_M_row 68 = .ok (.iload_n 1, 1) := by decide +kernel
theorem d_M_row_69 : decode b_M_row 69 = .ok (.imul, 1) := by decide +kernel
theorem d_M_row_70 : decode b_M_row 70 = .ok (.iload 4, 2) := by decide +kernel
theorem d_M_row_72 : decode b_M_row 72 = .ok (.iadd, 1) := by decide +kernel
theorem d_M_row_73 : decode b_M_row 73 = .ok (.iconst 0, 1) := by decide +kernel
theorem d_M_row_74 : decode b_M_row 74 = .ok (.iastore, 1) := by decide +kernel
theorem d_M_row_75 : decode b_M_row 75 = .ok (.iinc 4 1, 3) := by decide +kernel
theorem d_M_row_78 : decode b_M_row 78 = .ok (.goto (-23), 3) := by decide +kernel
theorem d_M_row_81 : decode b_M_row 81 = .ok (.aload_n 0, 1) := by decide +kernel
theorem d_M_row_82 : decode b_M_row 82 = .ok (.iload_n 3, 1) := by decide +kernel
theorem d_M_row_83 : decode b_M_row 83 = .ok (.invokevirtual 60, 3) := by decide +kernel
theorem d_M_row_86 : decode b_M_row 86 = .ok (.ireturn, 1) := by decide +kernel
theorem d_M_set_0 : decode b_M_set 0 = .ok (.iload_n 1, 1) := by decide +kernel
theorem d_M_set_1 : decode b_M_set 1 = .ok (.invokestatic 49, 3) := by decide +kernel
theorem d_M_set_4 : decode b_M_set 4 = .ok (.ifCond .ne 6, 3) := by decide +kernel
theorem d_M_set_7 : decode b_M_set 7 = .ok (.ldc 55, 2) := by decide +kernel
theorem d_M_set_9 : decode b_M_set 9 = .ok (.ireturn, 1) := by decide +kernel
theorem d_M_set_10 : decode b_M_set 10 = .ok (.aload_n 0, 1) := by decide +kernel
theorem d_M_set_11 : decode b_M_set 11 = .ok (.getfield 20, 3) := by decide +kernel
theorem d_M_set_14 : decode b_M_set 14 = .ok (.iload_n 1, 1) := by decide +kernel
theorem d_M_set_15 : decode b_M_set 15 = .ok (.iaload, 1) := by decide +kernel
theorem d_M_set_16 : decode b_M_set 16 = .ok (.ifCond .ge 9, 3) := by decide +kernel
theorem d_M_set_19 : decode b_M_set 19 = .ok (.aload_n 0, 1) := by decide +kernel
theorem d_M_set_20 : decode b_M_set 20 = .ok (.iconst 1, 1) := by decide +kernel
theorem d_M_set_21 : decode b_M_set 21 = .ok (.invokevirtual 56, 3) := by decide +kernel
theorem d_M_set_24 : decode b_M_set 24 = .ok (.ireturn, 1) := by decide +kernel
theorem d_M_set_25 : decode b_M_set 25 = .ok (.iload_n 2, 1) := by decide +kernel
theorem d_M_set_26 : decode b_M_set 26 = .ok (.i2l, 1) := by decide +kernel
theorem d_M_set_27 : decode b_M_set 27 = .ok (.lconst 0, 1) := by decide +kernel
theorem d_M_set_28 : decode b_M_set 28 = .ok (.aload_n 0, 1) := by decide +kernel
theorem d_M_set_29 : decode b_M_set 29 = .ok (.getfield 20, 3) := by decide +kernel
theorem d_M_set_32 : decode b_M_set 32 = .ok (.iload_n 1, 1) := by decide +kernel
theorem d_M_set_33 : decode b_M_set 33 = .ok (.iaload, 1) := by decide +kernel
theorem d_M_set_34 : decode b_M_set 34 = .ok (.iconst 1, 1) := by decide +kernel
theorem d_M_set_35 : decode b_M_set 35 = .ok (.isub, 1) := by decide +kernel
theorem d_M_set_36 : decode b_M_set 36 = .ok (.i2l, 1) := by decide +kernel
theorem d_M_set_37 : decode b_M_set 37 = .ok (.invokestatic 45, 3) := by decide +kernel
theorem d_M_set_40 : decode b_M_set 40 = .ok (.ifCond .ne 9, 3) := by decide +kernel
theorem d_M_set_43 : decode b_M_set 43 = .ok (.aload_n 0, 1) := by decide +kernel
theorem d_M_set_44 : decode b_M_set 44 = .ok (.iconst 2, 1) := by decide +kernel
theorem d_M_set_45 : decode b_M_set 45 = .ok (.invokevirtual 56, 3) := by decide +kernel
theorem d_M_set_48 : decode b_M_set 48 = .ok (.ireturn, 1) := by decide +kernel
theorem d_M_set_49 : decode b_M_set 49 = .ok (.aload_n 0, 1) := by decide +kernel
theorem d_M_set_50 : decode b_M_set 50 = .ok (.getfield 23, 3) := by decide +kernel
theorem d_M_set_53 : decode b_M_set 53 = .ok (.bipush 40, 2) := by decide +kernel
theorem d_M_set_55 : decode b_M_set 55 = .ok (.iload_n 1, 1) := by decide +kernel
theorem d_M_set_56 : decode b_M_set 56 = .ok (.imul, 1) := by decide +kernel
theorem d_M_set_57 : decode b_M_set 57 = .ok (.iload_n 2, 1) := by decide +kernel
theorem d_M_set_58 : decode b_M_set 58 = .ok (.iadd, 1) := by decide +kernel
theorem d_M_set_59 : decode b_M_set 59 = .ok (.iload_n 3, 1) := by decide +kernel
theorem d_M_set_60 : decode b_M_set 60 = .ok (.aload_n 0, 1) := by decide +kernel
theorem d_M_set_61 : decode b_M_set 61 = .ok (.getfield 17, 3) := by decide +kernel
theorem d_M_set_64 : decode b_M_set 64 = .ok (.iload_n 1, 1) := by decide +kernel
theorem d_M_set_65 : decode b_M_set 65 = .ok (.iaload, 1) := by decide +kernel
theorem d_M_set_66 : decode b_M_set 66 = .ok (.invokestatic 63, 3) := by decide +kernel
theorem d_M_set_69 : decode b_M_set 69 = .ok (.iastore, 1) := by decide +kernel
theorem d_M_set_70 : decode b_M_set 70 = .ok (.aload_n 0, 1) := by decide +kernel
theorem d_M_set_71 : decode b_M_set 71 = .ok (.aload_n 0, 1) := by decide +kernel
theorem d_M_set_72 : decode b_M_set 72 = .ok (.getfield 23, 3) := by decide +kernel
theorem d_M_set_75 : decode b_M_set 75 = .ok (.bipush 40, 2) := by decide +kernel
theorem d_M_set_77 : decode b_M_set 77 = .ok (.iload_n 1, 1) := by decide +kernel
theorem d_M_set_78 : decode b_M_set 78 = .ok (.imul, 1) := by decide +kernel
theorem d_M_set_79 : decode b_M_set 79 = .ok (.iload_n 2, 1) := by decide +kernel
theorem d_M_set_80 : decode b_M_set 80 = .ok (.iadd, 1) := by decide +kernel
theorem d_M_set_81 : decode b_M_set 81 = .ok (.iaload, 1) := by decide +kernel
theorem d_M_set_82 : decode b_M_set 82 = .ok (.invokevirtual 60, 3) := by decide +kernel
theorem d_M_set_85 : decode b_M_set 85 = .ok (.ireturn, 1) := by decide +kernel
theorem d_M_sign_0 : decode b_M_sign 0 = .ok (.aload_n 0, 1) := by decide +kernel
theorem d_M_sign_1 : decode b_M_sign 1 = .ok (.iload_n 1, 1) := by decide +kernel
theorem d_M_sign_2 : decode b_M_sign 2 = .ok (.invokevirtual 87, 3) := by decide +kernel
theorem d_M_sign_5 : decode b_M_sign 5 = .ok (.ifCond .ne 9, 3) := by decide +kernel
theorem d_M_sign_8 : decode b_M_sign 8 = .ok (.aload_n 0, 1) := by decide +kernel
theorem d_M_sign_9 : decode b_M_sign 9 = .ok (.iconst 1, 1) := by decide +kernel
theorem d_M_sign_10 : decode b_M_sign 10 = .ok (.invokevirtual 90, 3) := by decide +kernel
theorem d_M_sign_13 : decode b_M_sign 13 = .ok (.ireturn, 1) := by decide +kernel
theorem d_M_sign_14 : decode b_M_sign 14 = .ok (.aload_n 0, 1) := by decide +kernel
theorem d_M_sign_15 : decode b_M_sign 15 = .ok (.dup, 1) := by decide +kernel
theorem d_M_sign_16 : decode b_M_sign 16 = .ok (.getfield 77, 3) := by decide +kernel
theorem d_M_sign_19 : decode b_M_sign 19 = .ok (.iconst 1, 1) := by decide +kernel
theorem d_M_sign_20 : decode b_M_sign 20 = .ok (.iadd, 1) := by decide +kernel
theorem d_M_sign_21 : decode b_M_sign 21 = .ok (.putfield 77, 3) := by decide +kernel
theorem d_M_sign_24 : decode b_M_sign 24 = .ok (.iconst 1, 1) := by decide +kernel
theorem d_M_sign_25 : decode b_M_sign 25 = .ok (.ireturn, 1) := by decide +kernel
theorem d_M_sizeOf_0 : decode b_M_sizeOf 0 = .ok (.aload_n 0, 1) := by decide +kernel
theorem d_M_sizeOf_1 : decode b_M_sizeOf 1 = .ok (.getfield 7, 3) := by decide +kernel
theorem d_M_sizeOf_4 : decode b_M_sizeOf 4 = .ok (.bipush 6, 2) := by decide +kernel
theorem d_M_sizeOf_6 : decode b_M_sizeOf 6 = .ok (.iload_n 1, 1) := by decide +kernel
theorem d_M_sizeOf_7 : decode b_M_sizeOf 7 = .ok (.iadd, 1) := by decide +kernel
theorem d_M_sizeOf_8 : decode b_M_sizeOf 8 = .ok (.iaload, 1) := by decide +kernel
theorem d_M_sizeOf_9 : decode b_M_sizeOf 9 = .ok (.tableswitch 64 2 5 #[31, 64, 44, 50], 31) := by decide +kernel
theorem d_M_sizeOf_40 : decode b_M_sizeOf 40 = .ok (.aload_n 0, 1) := by decide +kernel
theorem d_M_sizeOf_41 : decode b_M_sizeOf 41 = .ok (.bipush 12, 2) := by decide +kernel
theorem d_M_sizeOf_43 : decode b_M_sizeOf 43 = .ok (.invokevirtual 250, 3) := by decide +kernel
theorem d_M_sizeOf_46 : decode b_M_sizeOf 46 = .ok (.aload_n 0, 1) := by decide +kernel
theorem d_M_sizeOf_47 : decode b_M_sizeOf 47 = .ok (.iload_n 1, 1) := by decide +kernel
theorem d_M_sizeOf_48 : decode b_M_sizeOf 48 = .ok (.invokevirtual 259, 3) := by decide +kernel
theorem d_M_sizeOf_51 : decode b_M_sizeOf 51 = .ok (.ineg, 1) := by decide +kernel
theorem d_M_sizeOf_52 : decode b_M_sizeOf 52 = .ok (.ireturn, 1) := by decide +kernel
theorem d_M_sizeOf_53 : decode b_M_sizeOf 53 = .ok (.aload_n 0, 1) := by decide +kernel
theorem d_M_sizeOf_54 : decode b_M_sizeOf 54 = .ok (.iload_n 1, 1) := by decide +kernel
theorem d_M_sizeOf_55 : decode b_M_sizeOf 55 = .ok (.invokevirtual 262, 3) := by decide +kernel
theorem d_M_sizeOf_58 : decode b_M_sizeOf 58 = .ok (.ireturn, 1) := by decide +kernel
theorem d_M_sizeOf_59 : decode b_M_sizeOf 59 = .ok (.aload_n 0, 1) := by decide +kernel
theorem d_M_sizeOf_60 : decode b_M_sizeOf 60 = .ok (.bipush 14, 2) := by decide +kernel
theorem d_M_sizeOf_62 : decode b_M_sizeOf 62 = .ok (.invokevirtual 250, 3) := by decide +kernel
theorem d_M_sizeOf_65 : decode b_M_sizeOf 65 = .ok (.iconst 2, 1) := by decide +kernel
theorem d_M_sizeOf_66 : decode b_M_sizeOf 66 = .ok (.aload_n 0, 1) := by decide +kernel
theorem d_M_sizeOf_67 : decode b_M_sizeOf 67 = .ok (.iload_n 1, 1) := by decide +kernel
theorem d_M_sizeOf_68 : decode b_M_sizeOf 68 = .ok (.invokevirtual 262, 3) := by decide +kernel
theorem d_M_sizeOf_71 : decode b_M_sizeOf 71 = .ok (.imul, 1) := by decide +kernel
theorem d_M_sizeOf_72 : decode b_M_sizeOf 72 = .ok (.ireturn, 1) := by decide +kernel
theorem d_M_sizeOf_73 : decode b_M_sizeOf 73 = .ok (.aload_n 0, 1) := by decide +kernel
theorem d_M_sizeOf_74 : decode b_M_sizeOf 74 = .ok (.iload_n 1, 1) := by decide +kernel
theorem d_M_sizeOf_75 : decode b_M_sizeOf 75 = .ok (.invokevirtual 259, 3) := by decide +kernel
theorem d_M_sizeOf_78 : decode b_M_sizeOf 78 = .ok (.ireturn, 1) := by decide +kernel
theorem d_M_status_0 : decode b_M_status 0 = .ok (.aload_n 0, 1) := by decide +kernel
theorem d_M_status_1 : decode b_M_status 1 = .ok (.getfield 38, 3) := by decide +kernel
theorem d_M_status_4 : decode b_M_status 4 = .ok (.ireturn, 1) := by decide +kernel
theorem d_M_stealth_0 : decode b_M_stealth 0 = .ok (.aload_n 0, 1) := by decide +kernel
theorem d_M_stealth_1 : decode b_M_stealth 1 = .ok (.getfield 130, 3) := by decide +kernel
theorem d_M_stealth_4 : decode b_M_stealth 4 = .ok (.ifCond .ne 6, 3) := by decide +kernel
theorem d_M_stealth_7 : decode b_M_stealth 7 = .ok (.ldc 137, 2) := by decide +kernel
theorem d_M_stealth_9 : decode b_M_stealth 9 = .ok (.ireturn, 1) := by decide +kernel
theorem d_M_stealth_10 : decode b_M_stealth 10 = .ok (.iload_n 1, 1) := by decide +kernel
theorem d_M_stealth_11 : decode b_M_stealth 11 = .ok (.invokestatic 49, 3) := by decide +kernel
theorem d_M_stealth_14 : decode b_M_stealth 14 = .ok (.ifCond .eq 15, 3) := by decide +kernel
theorem d_M_stealth_17 : decode b_M_stealth 17 = .ok (.iload_n 3, 1) := by decide +kernel
theorem d_M_stealth_18 : decode b_M_stealth 18 = .ok (.i2l, 1) := by decide +kernel
theorem d_M_stealth_19 : decode b_M_stealth 19 = .ok (.lconst 1, 1) := by decide +kernel
end
section
theorem d_M_stealth_20 : decode b_M_stealth 20 = .ok (.ldc2_w 225, 3) := by decide +kernel
theorem d_M_stealth_23 : decode b_M_stealth 23 = .ok (.invokestatic 45, 3) := by decide +kernel
theorem d_M_stealth_26 : decode b_M_stealth 26 = .ok (.ifCond .ne 6, 3) := by decide +kernel
theorem d_M_stealth_29 : decode b_M_stealth 29 = .ok (.ldc 55, 2) := by decide +kernel
theorem d_M_stealth_31 : decode b_M_stealth 31 = .ok (.ireturn, 1) := by decide +kernel
theorem d_M_stealth_32 : decode b_M_stealth 32 = .ok (.aload_n 0, 1) := by decide +kernel
theorem d_M_stealth_33 : decode b_M_stealth 33 = .ok (.iload_n 1, 1) := by decide +kernel
theorem d_M_stealth_34 : decode b_M_stealth 34 = .ok (.iload_n 2, 1) := by decide +kernel
theorem d_M_stealth_35 : decode b_M_stealth 35 = .ok (.iload_n 3, 1) := by decide +kernel
theorem d_M_stealth_36 : decode b_M_stealth 36 = .ok (.invokevirtual 227, 3) := by decide +kernel
theorem d_M_stealth_39 : decode b_M_stealth 39 = .ok (.istore 4, 2) := by decide +kernel
theorem d_M_stealth_41 : decode b_M_stealth 41 = .ok (.iload 4, 2) := by decide +kernel
theorem d_M_stealth_43 : decode b_M_stealth 43 = .ok (.ifCond .eq 6, 3) := by decide +kernel
theorem d_M_stealth_46 : decode b_M_stealth 46 = .ok (.iload 4, 2) := by decide +kernel
theorem d_M_stealth_48 : decode b_M_stealth 48 = .ok (.ireturn, 1) := by decide +kernel
theorem d_M_stealth_49 : decode b_M_stealth 49 = .ok (.iconst 0, 1) := by decide +kernel
theorem d_M_stealth_50 : decode b_M_stealth 50 = .ok (.istore 5, 2) := by decide +kernel
theorem d_M_stealth_52 : decode b_M_stealth 52 = .ok (.iconst 0, 1) := by decide +kernel
theorem d_M_stealth_53 : decode b_M_stealth 53 = .ok (.istore 6, 2) := by decide +kernel
theorem d_M_stealth_55 : decode b_M_stealth 55 = .ok (.iload 6, 2) := by decide +kernel
theorem d_M_stealth_57 : decode b_M_stealth 57 = .ok (.bipush 7, 2) := by decide +kernel
theorem d_M_stealth_59 : decode b_M_stealth 59 = .ok (.if_icmp .ge 86, 3) := by decide +kernel
theorem d_M_stealth_62 : decode b_M_stealth 62 = .ok (.aload_n 0, 1) := by decide +kernel
theorem d_M_stealth_63 : decode b_M_stealth 63 = .ok (.invokevirtual 188, 3) := by decide +kernel
theorem d_M_stealth_66 : decode b_M_stealth 66 = .ok (.aload_n 0, 1) := by decide +kernel
theorem d_M_stealth_67 : decode b_M_stealth 67 = .ok (.getfield 7, 3) := by decide +kernel
theorem d_M_stealth_70 : decode b_M_stealth 70 = .ok (.sipush 975, 3) := by decide +kernel
theorem d_M_stealth_73 : decode b_M_stealth 73 = .ok (.dup2, 1) := by decide +kernel
theorem d_M_stealth_74 : decode b_M_stealth 74 = .ok (.iaload, 1) := by decide +kernel
theorem d_M_stealth_75 : decode b_M_stealth 75 = .ok (.iconst 1, 1) := by decide +kernel
theorem d_M_stealth_76 : decode b_M_stealth 76 = .ok (.iload 6, 2) := by decide +kernel
theorem d_M_stealth_78 : decode b_M_stealth 78 = .ok (.ishl, 1) := by decide +kernel
theorem d_M_stealth_79 : decode b_M_stealth 79 = .ok (.iconst (-1), 1) := by decide +kernel
theorem d_M_stealth_80 : decode b_M_stealth 80 = .ok (.ixor, 1) := by decide +kernel
theorem d_M_stealth_81 : decode b_M_stealth 81 = .ok (.iand, 1) := by decide +kernel
theorem d_M_stealth_82 : decode b_M_stealth 82 = .ok (.iastore, 1) := by decide +kernel
theorem d_M_stealth_83 : decode b_M_stealth 83 = .ok (.iload 6, 2) := by decide +kernel
theorem d_M_stealth_85 : decode b_M_stealth 85 = .ok (.bipush 6, 2) := by decide +kernel
theorem d_M_stealth_87 : decode b_M_stealth 87 = .ok (.if_icmp .eq 17, 3) := by decide +kernel
theorem d_M_stealth_90 : decode b_M_stealth 90 = .ok (.aload_n 0, 1) := by decide +kernel
theorem d_M_stealth_91 : decode b_M_stealth 91 = .ok (.getfield 7, 3) := by decide +kernel
theorem d_M_stealth_94 : decode b_M_stealth 94 = .ok (.iconst 3, 1) := by decide +kernel
theorem d_M_stealth_95 : decode b_M_stealth 95 = .ok (.iaload, 1) := by decide +kernel
theorem d_M_stealth_96 : decode b_M_stealth 96 = .ok (.iload 6, 2) := by decide +kernel
theorem d_M_stealth_98 : decode b_M_stealth 98 = .ok (.invokestatic 138, 3) := by decide +kernel
theorem d_M_stealth_101 : decode b_M_stealth 101 = .ok (.ifCond .eq 17, 3) := by decide +kernel
theorem d_M_stealth_104 : decode b_M_stealth 104 = .ok (.aload_n 0, 1) := by decide +kernel
theorem d_M_stealth_105 : decode b_M_stealth 105 = .ok (.iload_n 1, 1) := by decide +kernel
theorem d_M_stealth_106 : decode b_M_stealth 106 = .ok (.iload_n 2, 1) := by decide +kernel
theorem d_M_stealth_107 : decode b_M_stealth 107 = .ok (.iload_n 3, 1) := by decide +kernel
theorem d_M_stealth_108 : decode b_M_stealth 108 = .ok (.invokevirtual 231, 3) := by decide +kernel
theorem d_M_stealth_111 : decode b_M_stealth 111 = .ok (.ifCond .eq 7, 3) := by decide +kernel
theorem d_M_stealth_114 : decode b_M_stealth 114 = .ok (.iconst 1, 1) := by decide +kernel
theorem d_M_stealth_115 : decode b_M_stealth 115 = .ok (.goto 4, 3) := by decide +kernel
theorem d_M_stealth_118 : decode b_M_stealth 118 = .ok (.iconst 0, 1) := by decide +kernel
theorem d_M_stealth_119 : decode b_M_stealth 119 = .ok (.istore 7, 2) := by decide +kernel
theorem d_M_stealth_121 : decode b_M_stealth 121 = .ok (.iload 5, 2) := by decide +kernel
theorem d_M_stealth_123 : decode b_M_stealth 123 = .ok (.iload 7, 2) := by decide +kernel
theorem d_M_stealth_125 : decode b_M_stealth 125 = .ok (.ifCond .eq 10, 3) := by decide +kernel
theorem d_M_stealth_128 : decode b_M_stealth 128 = .ok (.iconst 1, 1) := by decide +kernel
theorem d_M_stealth_129 : decode b_M_stealth 129 = .ok (.iload 6, 2) := by decide +kernel
theorem d_M_stealth_131 : decode b_M_stealth 131 = .ok (.ishl, 1) := by decide +kernel
theorem d_M_stealth_132 : decode b_M_stealth 132 = .ok (.goto 4, 3) := by decide +kernel
theorem d_M_stealth_135 : decode b_M_stealth 135 = .ok (.iconst 0, 1) := by decide +kernel
theorem d_M_stealth_136 : decode b_M_stealth 136 = .ok (.ior, 1) := by decide +kernel
theorem d_M_stealth_137 : decode b_M_stealth 137 = .ok (.istore 5, 2) := by decide +kernel
theorem d_M_stealth_139 : decode b_M_stealth 139 = .ok (.iinc 6 1, 3) := by decide +kernel
theorem d_M_stealth_142 : decode b_M_stealth 142 = .ok (.goto (-87), 3) := by decide +kernel
theorem d_M_stealth_145 : decode b_M_stealth 145 = .ok (.aload_n 0, 1) := by decide +kernel
theorem d_M_stealth_146 : decode b_M_stealth 146 = .ok (.iload 5, 2) := by decide +kernel
theorem d_M_stealth_148 : decode b_M_stealth 148 = .ok (.invokevirtual 60, 3) := by decide +kernel
theorem d_M_stealth_151 : decode b_M_stealth 151 = .ok (.ireturn, 1) := by decide +kernel
theorem d_M_sum_0 : decode b_M_sum 0 = .ok (.aload_n 0, 1) := by decide +kernel
theorem d_M_sum_1 : decode b_M_sum 1 = .ok (.iload_n 1, 1) := by decide +kernel
theorem d_M_sum_2 : decode b_M_sum 2 = .ok (.invokevirtual 194, 3) := by decide +kernel
theorem d_M_sum_5 : decode b_M_sum 5 = .ok (.istore_n 2, 1) := by decide +kernel
theorem d_M_sum_6 : decode b_M_sum 6 = .ok (.iload_n 2, 1) := by decide +kernel
theorem d_M_sum_7 : decode b_M_sum 7 = .ok (.ifCond .eq 7, 3) := by decide +kernel
theorem d_M_sum_10 : decode b_M_sum 10 = .ok (.iload_n 2, 1) := by decide +kernel
theorem d_M_sum_11 : decode b_M_sum 11 = .ok (.goto 11, 3) := by decide +kernel
theorem d_M_sum_14 : decode b_M_sum 14 = .ok (.aload_n 0, 1) := by decide +kernel
theorem d_M_sum_15 : decode b_M_sum 15 = .ok (.getfield 7, 3) := by decide +kernel
theorem d_M_sum_18 : decode b_M_sum 18 = .ok (.sipush 976, 3) := by decide +kernel
theorem d_M_sum_21 : decode b_M_sum 21 = .ok (.iaload, 1) := by decide +kernel
theorem d_M_sum_22 : decode b_M_sum 22 = .ok (.ireturn, 1) := by decide +kernel
theorem d_M_swapLine_0 : decode b_M_swapLine 0 = .ok (.aload_n 0, 1) := by decide +kernel
theorem d_M_swapLine_1 : decode b_M_swapLine 1 = .ok (.getfield 32, 3) := by decide +kernel
theorem d_M_swapLine_4 : decode b_M_swapLine 4 = .ok (.iload_n 1, 1) := by decide +kernel
theorem d_M_swapLine_5 : decode b_M_swapLine 5 = .ok (.iaload, 1) := by decide +kernel
theorem d_M_swapLine_6 : decode b_M_swapLine 6 = .ok (.istore_n 3, 1) := by decide +kernel
theorem d_M_swapLine_7 : decode b_M_swapLine 7 = .ok (.aload_n 0, 1) := by decide +kernel
theorem d_M_swapLine_8 : decode b_M_swapLine 8 = .ok (.getfield 32, 3) := by decide +kernel
theorem d_M_swapLine_11 : decode b_M_swapLine 11 = .ok (.iload_n 1, 1) := by decide +kernel
theorem d_M_swapLine_12 : decode b_M_swapLine 12 = .ok (.aload_n 0, 1) := by decide +kernel
theorem d_M_swapLine_13 : decode b_M_swapLine 13 = .ok (.getfield 32, 3) := by decide +kernel
theorem d_M_swapLine_16 : decode b_M_swapLine 16 = .ok (.iload_n 2, 1) := by decide +kernel
theorem d_M_swapLine_17 : decode b_M_swapLine 17 = .ok (.iaload, 1) := by decide +kernel
theorem d_M_swapLine_18 : decode b_M_swapLine 18 = .ok (.iastore, 1) := by decide +kernel
theorem d_M_swapLine_19 : decode b_M_swapLine 19 = .ok (.aload_n 0, 1) := by decide +kernel
theorem d_M_swapLine_20 : decode b_M_swapLine 20 = .ok (.getfield 32, 3) := by decide +kernel
theorem d_M_swapLine_23 : decode b_M_swapLine 23 = .ok (.iload_n 2, 1) := by decide +kernel
theorem d_M_swapLine_24 : decode b_M_swapLine 24 = .ok (.iload_n 3, 1) := by decide +kernel
theorem d_M_swapLine_25 : decode b_M_swapLine 25 = .ok (.iastore, 1) := by decide +kernel
theorem d_M_swapLine_26 : decode b_M_swapLine 26 = .ok (.return_, 1) := by decide +kernel
theorem d_M_thickness_0 : decode b_M_thickness 0 = .ok (.iconst 0, 1) := by decide +kernel
theorem d_M_thickness_1 : decode b_M_thickness 1 = .ok (.istore_n 2, 1) := by decide +kernel
theorem d_M_thickness_2 : decode b_M_thickness 2 = .ok (.iconst 0, 1) := by decide +kernel
theorem d_M_thickness_3 : decode b_M_thickness 3 = .ok (.istore_n 3, 1) := by decide +kernel
theorem d_M_thickness_4 : decode b_M_thickness 4 = .ok (.iload_n 3, 1) := by decide +kernel
theorem d_M_thickness_5 : decode b_M_thickness 5 = .ok (.aload_n 0, 1) := by decide +kernel
theorem d_M_thickness_6 : decode b_M_thickness 6 = .ok (.getfield 7, 3) := by decide +kernel
theorem d_M_thickness_9 : decode b_M_thickness 9 = .ok (.iload_n 1, 1) := by decide +kernel
theorem d_M_thickness_10 : decode b_M_thickness 10 = .ok (.iconst 0, 1) := by decide +kernel
theorem d_M_thickness_11 : decode b_M_thickness 11 = .ok (.iadd, 1) := by decide +kernel
theorem d_M_thickness_12 : decode b_M_thickness 12 = .ok (.iaload, 1) := by decide +kernel
theorem d_M_thickness_13 : decode b_M_thickness 13 = .ok (.if_icmp .ge 42, 3) := by decide +kernel
theorem d_M_thickness_16 : decode b_M_thickness 16 = .ok (.iload_n 2, 1) := by decide +kernel
theorem d_M_thickness_17 : decode b_M_thickness 17 = .ok (.aload_n 0, 1) := by decide +kernel
theorem d_M_thickness_18 : decode b_M_thickness 18 = .ok (.getfield 7, 3) := by decide +kernel
theorem d_M_thickness_21 : decode b_M_thickness 21 = .ok (.iload_n 1, 1) := by decide +kernel
theorem d_M_thickness_22 : decode b_M_thickness 22 = .ok (.iconst 3, 1) := by decide +kernel
theorem d_M_thickness_23 : decode b_M_thickness 23 = .ok (.iadd, 1) := by decide +kernel
theorem d_M_thickness_24 : decode b_M_thickness 24 = .ok (.iaload, 1) := by decide +kernel
theorem d_M_thickness_25 : decode b_M_thickness 25 = .ok (.iload_n 3, 1) := by decide +kernel
theorem d_M_thickness_26 : decode b_M_thickness 26 = .ok (.invokestatic 138, 3) := by decide +kernel
theorem d_M_thickness_29 : decode b_M_thickness 29 = .ok (.ifCond .eq 17, 3) := by decide +kernel
theorem d_M_thickness_32 : decode b_M_thickness 32 = .ok (.aload_n 0, 1) := by decide +kernel
theorem d_M_thickness_33 : decode b_M_thickness 33 = .ok (.getfield 7, 3) := by decide +kernel
theorem d_M_thickness_36 : decode b_M_thickness 36 = .ok (.iload_n 1, 1) := by decide +kernel
theorem d_M_thickness_37 : decode b_M_thickness 37 = .ok (.bipush 18, 2) := by decide +kernel
theorem d_M_thickness_39 : decode b_M_thickness 39 = .ok (.iadd, 1) := by decide +kernel
theorem d_M_thickness_40 : decode b_M_thickness 40 = .ok (.iload_n 3, 1) := by decide +kernel
theorem d_M_thickness_41 : decode b_M_thickness 41 = .ok (.iadd, 1) := by decide +kernel
theorem d_M_thickness_42 : decode b_M_thickness 42 = .ok (.iaload, 1) := by decide +kernel
theorem d_M_thickness_43 : decode b_M_thickness 43 = .ok (.goto 4, 3) := by decide +kernel
theorem d_M_thickness_46 : decode b_M_thickness 46 = .ok (.iconst 0, 1) := by decide +kernel
theorem d_M_thickness_47 : decode b_M_thickness 47 = .ok (.iadd, 1) := by decide +kernel
theorem d_M_thickness_48 : decode b_M_thickness 48 = .ok (.istore_n 2, 1) := by decide +kernel
theorem d_M_thickness_49 : decode b_M_thickness 49 = .ok (.iinc 3 1, 3) := by decide +kernel
theorem d_M_thickness_52 : decode b_M_thickness 52 = .ok (.goto (-48), 3) := by decide +kernel
theorem d_M_thickness_55 : decode b_M_thickness 55 = .ok (.iload_n 2, 1) := by decide +kernel
theorem d_M_thickness_56 : decode b_M_thickness 56 = .ok (.ireturn, 1) := by decide +kernel
theorem d_M_trace_0 : decode b_M_trace 0 = .ok (.iload_n 1, 1) := by decide +kernel
theorem d_M_trace_1 : decode b_M_trace 1 = .ok (.i2l, 1) := by decide +kernel
theorem d_M_trace_2 : decode b_M_trace 2 = .ok (.lconst 0, 1) := by decide +kernel
theorem d_M_trace_3 : decode b_M_trace 3 = .ok (.aload_n 0, 1) := by decide +kernel
theorem d_M_trace_4 : decode b_M_trace 4 = .ok (.getfield 247, 3) := by decide +kernel
theorem d_M_trace_7 : decode b_M_trace 7 = .ok (.iconst 1, 1) := by decide +kernel
theorem d_M_trace_8 : decode b_M_trace 8 = .ok (.isub, 1) := by decide +kernel
theorem d_M_trace_9 : decode b_M_trace 9 = .ok (.i2l, 1) := by decide +kernel
theorem d_M_trace_10 : decode b_M_trace 10 = .ok (.invokestatic 45, 3) := by decide +kernel
theorem d_M_trace_13 : decode b_M_trace 13 = .ok (.ifCond .eq 12, 3) := by decide +kernel
theorem d_M_trace_16 : decode b_M_trace 16 = .ok (.aload_n 0, 1) := by decide +kernel
theorem d_M_trace_17 : decode b_M_trace 17 = .ok (.getfield 29, 3) := by decide +kernel
theorem d_M_trace_20 : decode b_M_trace 20 = .ok (.iload_n 1, 1) := by decide +kernel
theorem d_M_trace_21 : decode b_M_trace 21 = .ok (.iaload, 1) := by decide +kernel
theorem d_M_trace_22 : decode b_M_trace 22 = .ok (.goto 5, 3) := by decide +kernel
theorem d_M_trace_25 : decode b_M_trace 25 = .ok (.ldc 147, 2) := by decide +kernel
theorem d_M_trace_27 : decode b_M_trace 27 = .ok (.ireturn, 1) := by decide +kernel
theorem d_M_undo_0 : decode b_M_undo 0 = .ok (.aload_n 0, 1) := by decide +kernel
theorem d_M_undo_1 : decode b_M_undo 1 = .ok (.getfield 134, 3) := by decide +kernel
theorem d_M_undo_4 : decode b_M_undo 4 = .ok (.ifCond .ne 6, 3) := by decide +kernel
theorem d_M_undo_7 : decode b_M_undo 7 = .ok (.ldc 137, 2) := by decide +kernel
theorem d_M_undo_9 : decode b_M_undo 9 = .ok (.ireturn, 1) := by decide +kernel
theorem d_M_undo_10 : decode b_M_undo 10 = .ok (.aload_n 0, 1) := by decide +kernel
theorem d_M_undo_11 : decode b_M_undo 11 = .ok (.dup, 1) := by decide +kernel
theorem d_M_undo_12 : decode b_M_undo 12 = .ok (.getfield 134, 3) := by decide +kernel
theorem d_M_undo_15 : decode b_M_undo 15 = .ok (.iconst 1, 1) := by decide +kernel
theorem d_M_undo_16 : decode b_M_undo 16 = .ok (.isub, 1) := by decide +kernel
theorem d_M_undo_17 : decode b_M_undo 17 = .ok (.putfield 134, 3) := by decide +kernel
theorem d_M_undo_20 : decode b_M_undo 20 = .ok (.aload_n 0, 1) := by decide +kernel
theorem d_M_undo_21 : decode b_M_undo 21 = .ok (.bipush 36, 2) := by decide +kernel
theorem d_M_undo_23 : decode b_M_undo 23 = .ok (.bipush 36, 2) := by decide +kernel
theorem d_M_undo_25 : decode b_M_undo 25 = .ok (.aload_n 0, 1) := by decide +kernel
theorem d_M_undo_26 : decode b_M_undo 26 = .ok (.getfield 134, 3) := by decide +kernel
theorem d_M_undo_29 : decode b_M_undo 29 = .ok (.imul, 1) := by decide +kernel
theorem d_M_undo_30 : decode b_M_undo 30 = .ok (.iadd, 1) := by decide +kernel
theorem d_M_undo_31 : decode b_M_undo 31 = .ok (.iconst 0, 1) := by decide +kernel
theorem d_M_undo_32 : decode b_M_undo 32 = .ok (.invokevirtual 126, 3) := by decide +kernel
theorem d_M_undo_35 : decode b_M_undo 35 = .ok (.aload_n 0, 1) := by decide +kernel
theorem d_M_undo_36 : decode b_M_undo 36 = .ok (.getfield 134, 3) := by decide +kernel
theorem d_M_undo_39 : decode b_M_undo 39 = .ok (.ireturn, 1) := by decide +kernel
theorem d_M_weighs_0 : decode b_M_weighs 0 = .ok (.aload_n 0, 1) := by decide +kernel
theorem d_M_weighs_1 : decode b_M_weighs 1 = .ok (.getfield 7, 3) := by decide +kernel
theorem d_M_weighs_4 : decode b_M_weighs 4 = .ok (.iload_n 1, 1) := by decide +kernel
theorem d_M_weighs_5 : decode b_M_weighs 5 = .ok (.iconst 3, 1) := by decide +kernel
theorem d_M_weighs_6 : decode b_M_weighs 6 = .ok (.iadd, 1) := by decide +kernel
theorem d_M_weighs_7 : decode b_M_weighs 7 = .ok (.iaload, 1) := by decide +kernel
theorem d_M_weighs_8 : decode b_M_weighs 8 = .ok (.iload_n 2, 1) := by decide +kernel
theorem d_M_weighs_9 : decode b_M_weighs 9 = .ok (.invokestatic 138, 3) := by decide +kernel
theorem d_M_weighs_12 : decode b_M_weighs 12 = .ok (.ifCond .ne 5, 3) := by decide +kernel
theorem d_M_weighs_15 : decode b_M_weighs 15 = .ok (.iconst 0, 1) := by decide +kernel
theorem d_M_weighs_16 : decode b_M_weighs 16 = .ok (.ireturn, 1) := by decide +kernel
theorem d_M_weighs_17 : decode b_M_weighs 17 = .ok (.aload_n 0, 1) := by decide +kernel
theorem d_M_weighs_18 : decode b_M_weighs 18 = .ok (.getfield 7, 3) := by decide +kernel
theorem d_M_weighs_21 : decode b_M_weighs 21 = .ok (.iload_n 1, 1) := by decide +kernel
theorem d_M_weighs_22 : decode b_M_weighs 22 = .ok (.bipush 12, 2) := by decide +kernel
theorem d_M_weighs_24 : decode b_M_weighs 24 = .ok (.iadd, 1) := by decide +kernel
theorem d_M_weighs_25 : decode b_M_weighs 25 = .ok (.iload_n 2, 1) := by decide +kernel
theorem d_M_weighs_26 : decode b_M_weighs 26 = .ok (.iadd, 1) := by decide +kernel
theorem d_M_weighs_27 : decode b_M_weighs 27 = .ok (.iaload, 1) := by decide +kernel
theorem d_M_weighs_28 : decode b_M_weighs 28 = .ok (.aload_n 0, 1) := by decide +kernel
theorem d_M_weighs_29 : decode b_M_weighs 29 = .ok (.getfield 7, 3) := by decide +kernel
theorem d_M_weighs_32 : decode b_M_weighs 32 = .ok (.iload_n 1, 1) := by decide +kernel
theorem d_M_weighs_33 : decode b_M_weighs 33 = .ok (.bipush 30, 2) := by decide +kernel
theorem d_M_weighs_35 : decode b_M_weighs 35 = .ok (.iadd, 1) := by decide +kernel
theorem d_M_weighs_36 : decode b_M_weighs 36 = .ok (.iload_n 2, 1) := by decide +kernel
theorem d_M_weighs_37 : decode b_M_weighs 37 = .ok (.iadd, 1) := by decide +kernel
theorem d_M_weighs_38 : decode b_M_weighs 38 = .ok (.iaload, 1) := by decide +kernel
theorem d_M_weighs_39 : decode b_M_weighs 39 = .ok (.iadd, 1) := by decide +kernel
theorem d_M_weighs_40 : decode b_M_weighs 40 = .ok (.istore_n 3, 1) := by decide +kernel
theorem d_M_weighs_41 : decode b_M_weighs 41 = .ok (.aload_n 0, 1) := by decide +kernel
theorem d_M_weighs_42 : decode b_M_weighs 42 = .ok (.getfield 7, 3) := by decide +kernel
theorem d_M_weighs_45 : decode b_M_weighs 45 = .ok (.iload_n 1, 1) := by decide +kernel
theorem d_M_weighs_46 : decode b_M_weighs 46 = .ok (.bipush 6, 2) := by decide +kernel
theorem d_M_weighs_48 : decode b_M_weighs 48 = .ok (.iadd, 1) := by decide +kernel
theorem d_M_weighs_49 : decode b_M_weighs 49 = .ok (.iload_n 2, 1) := by decide +kernel
theorem d_M_weighs_50 : decode b_M_weighs 50 = .ok (.iadd, 1) := by decide +kernel
theorem d_M_weighs_51 : decode b_M_weighs 51 = .ok (.iaload, 1) := by decide +kernel
theorem d_M_weighs_52 : decode b_M_weighs 52 = .ok (.tableswitch 96 2 5 #[32, 36, 58, 70], 32) := by decide +kernel
theorem d_M_weighs_84 : decode b_M_weighs 84 = .ok (.iconst 2, 1) := by decide +kernel
theorem d_M_weighs_85 : decode b_M_weighs 85 = .ok (.iload_n 3, 1) := by decide +kernel
theorem d_M_weighs_86 : decode b_M_weighs 86 = .ok (.imul, 1) := by decide +kernel
theorem d_M_weighs_87 : decode b_M_weighs 87 = .ok (.ireturn, 1) := by decide +kernel
theorem d_M_weighs_88 : decode b_M_weighs 88 = .ok (.aload_n 0, 1) := by decide +kernel
theorem d_M_weighs_89 : decode b_M_weighs 89 = .ok (.getfield 7, 3) := by decide +kernel
theorem d_M_weighs_92 : decode b_M_weighs 92 = .ok (.iload_n 1, 1) := by decide +kernel
theorem d_M_weighs_93 : decode b_M_weighs 93 = .ok (.bipush 30, 2) := by decide +kernel
theorem d_M_weighs_95 : decode b_M_weighs 95 = .ok (.iadd, 1) := by decide +kernel
theorem d_M_weighs_96 : decode b_M_weighs 96 = .ok (.iload_n 2, 1) := by decide +kernel
theorem d_M_weighs_97 : decode b_M_weighs 97 = .ok (.iadd, 1) := by decide +kernel
theorem d_M_weighs_98 : decode b_M_weighs 98 = .ok (.iaload, 1) := by decide +kernel
theorem d_M_weighs_99 : decode b_M_weighs 99 = .ok (.bipush 8, 2) := by decide +kernel
theorem d_M_weighs_101 : decode b_M_weighs 101 = .ok (.if_icmp .le 7, 3) := by decide +kernel
theorem d_M_weighs_104 : decode b_M_weighs 104 = .ok (.iconst 0, 1) := by decide +kernel
theorem d_M_weighs_105 : decode b_M_weighs 105 = .ok (.goto 4, 3) := by decide +kernel
theorem d_M_weighs_108 : decode b_M_weighs 108 = .ok (.iload_n 3, 1) := by decide +kernel
theorem d_M_weighs_109 : decode b_M_weighs 109 = .ok (.ireturn, 1) := by decide +kernel
theorem d_M_weighs_110 : decode b_M_weighs 110 = .ok (.aload_n 0, 1) := by decide +kernel
theorem d_M_weighs_111 : decode b_M_weighs 111 = .ok (.getfield 7, 3) := by decide +kernel
theorem d_M_weighs_114 : decode b_M_weighs 114 = .ok (.iload_n 1, 1) := by decide +kernel
theorem d_M_weighs_115 : decode b_M_weighs 115 = .ok (.bipush 12, 2) := by decide +kernel
theorem d_M_weighs_117 : decode b_M_weighs 117 = .ok (.iadd, 1) := by decide +kernel
theorem d_M_weighs_118 : decode b_M_weighs 118 = .ok (.iload_n 2, 1) := by decide +kernel
theorem d_M_weighs_119 : decode b_M_weighs 119 = .ok (.iadd, 1) := by decide +kernel
theorem d_M_weighs_120 : decode b_M_weighs 120 = .ok (.iaload, 1) := by decide +kernel
theorem d_M_weighs_121 : decode b_M_weighs 121 = .ok (.ireturn, 1) := by decide +kernel
theorem d_M_weighs_122 : decode b_M_weighs 122 = .ok (.aload_n 0, 1) := by decide +kernel
theorem d_M_weighs_123 : decode b_M_weighs 123 = .ok (.getfield 7, 3) := by decide +kernel
theorem d_M_weighs_126 : decode b_M_weighs 126 = .ok (.iload_n 1, 1) := by decide +kernel
theorem d_M_weighs_127 : decode b_M_weighs 127 = .ok (.bipush 12, 2) := by decide +kernel
theorem d_M_weighs_129 : decode b_M_weighs 129 = .ok (.iadd, 1) := by decide +kernel
theorem d_M_weighs_130 : decode b_M_weighs 130 = .ok (.iload_n 2, 1) := by decide +kernel
theorem d_M_weighs_131 : decode b_M_weighs 131 = .ok (.iadd, 1) := by decide +kernel
theorem d_M_weighs_132 : decode b_M_weighs 132 = .ok (.iaload, 1) := by decide +kernel
theorem d_M_weighs_133 : decode b_M_weighs 133 = .ok (.aload_n 0, 1) := by decide +kernel
theorem d_M_weighs_134 : decode b_M_weighs 134 = .ok (.getfield 7, 3) := by decide +kernel
theorem d_M_weighs_137 : decode b_M_weighs 137 = .ok (.iload_n 1, 1) := by decide +kernel
theorem d_M_weighs_138 : decode b_M_weighs 138 = .ok (.iconst 3, 1) := by decide +kernel
theorem d_M_weighs_139 : decode b_M_weighs 139 = .ok (.iadd, 1) := by decide +kernel
theorem d_M_weighs_140 : decode b_M_weighs 140 = .ok (.iaload, 1) := by decide +kernel
theorem d_M_weighs_141 : decode b_M_weighs 141 = .ok (.invokestatic 141, 3) := by decide +kernel
theorem d_M_weighs_144 : decode b_M_weighs 144 = .ok (.iadd, 1) := by decide +kernel
theorem d_M_weighs_145 : decode b_M_weighs 145 = .ok (.iconst 1, 1) := by decide +kernel
theorem d_M_weighs_146 : decode b_M_weighs 146 = .ok (.isub, 1) := by decide +kernel
theorem d_M_weighs_147 : decode b_M_weighs 147 = .ok (.ireturn, 1) := by decide +kernel
theorem d_M_weighs_148 : decode b_M_weighs 148 = .ok (.iload_n 3, 1) := by decide +kernel
theorem d_M_weighs_149 : decode b_M_weighs 149 = .ok (.ireturn, 1) := by decide +kernel
theorem d_M_well_0 : decode b_M_well 0 = .ok (.aload_n 0, 1) := by decide +kernel
theorem d_M_well_1 : decode b_M_well 1 = .ok (.iconst 0, 1) := by decide +kernel
theorem d_M_well_2 : decode b_M_well 2 = .ok (.putfield 38, 3) := by decide +kernel
theorem d_M_well_5 : decode b_M_well 5 = .ok (.iload_n 1, 1) := by decide +kernel
theorem d_M_well_6 : decode b_M_well 6 = .ok (.ireturn, 1) := by decide +kernel
theorem d_O_extend_0 : decode b_O_extend 0 = .ok (.iload_n 2, 1) := by decide +kernel
theorem d_O_extend_1 : decode b_O_extend 1 = .ok (.aload_n 0, 1) := by decide +kernel
theorem d_O_extend_2 : decode b_O_extend 2 = .ok (.getfield 32, 3) := by decide +kernel
theorem d_O_extend_5 : decode b_O_extend 5 = .ok (.if_icmp .lt 4, 3) := by decide +kernel
theorem d_O_extend_8 : decode b_O_extend 8 = .ok (.return_, 1) := by decide +kernel
theorem d_O_extend_9 : decode b_O_extend 9 = .ok (.iload_n 1, 1) := by decide +kernel
theorem d_O_extend_10 : decode b_O_extend 10 = .ok (.ifCond .eq 9, 3) := by decide +kernel
theorem d_O_extend_13 : decode b_O_extend 13 = .ok (.iload_n 3, 1) := by decide +kernel
theorem d_O_extend_14 : decode b_O_extend 14 = .ok (.bipush 6, 2) := by decide +kernel
theorem d_O_extend_16 : decode b_O_extend 16 = .ok (.if_icmp .lt 24, 3) := by decide +kernel
theorem d_O_extend_19 : decode b_O_extend 19 = .ok (.aload_n 0, 1) := by decide +kernel
theorem d_O_extend_20 : decode b_O_extend 20 = .ok (.iload_n 2, 1) := by decide +kernel
theorem d_O_extend_21 : decode b_O_extend 21 = .ok (.putfield 32, 3) := by decide +kernel
theorem d_O_extend_24 : decode b_O_extend 24 = .ok (.aload_n 0, 1) := by decide +kernel
theorem d_O_extend_25 : decode b_O_extend 25 = .ok (.getfield 17, 3) := by decide +kernel
theorem d_O_extend_28 : decode b_O_extend 28 = .ok (.iconst 0, 1) := by decide +kernel
theorem d_O_extend_29 : decode b_O_extend 29 = .ok (.aload_n 0, 1) := by decide +kernel
theorem d_O_extend_30 : decode b_O_extend 30 = .ok (.getfield 21, 3) := by decide +kernel
theorem d_O_extend_33 : decode b_O_extend 33 = .ok (.iconst 0, 1) := by decide +kernel
theorem d_O_extend_34 : decode b_O_extend 34 = .ok (.bipush 6, 2) := by decide +kernel
theorem d_O_extend_36 : decode b_O_extend 36 = .ok (.invokestatic 40, 3) := by decide +kernel
theorem d_O_extend_39 : decode b_O_extend 39 = .ok (.return_, 1) := by decide +kernel
theorem d_O_extend_40 : decode b_O_extend 40 = .ok (.aload_n 0, 1) := by decide +kernel
theorem d_O_extend_41 : decode b_O_extend 41 = .ok (.getfield 11, 3) := by decide +kernel
theorem d_O_extend_44 : decode b_O_extend 44 = .ok (.iload_n 3, 1) := by decide +kernel
theorem d_O_extend_45 : decode b_O_extend 45 = .ok (.iconst 1, 1) := by decide +kernel
theorem d_O_extend_46 : decode b_O_extend 46 = .ok (.iadd, 1) := by decide +kernel
theorem d_O_extend_47 : decode b_O_extend 47 = .ok (.aaload, 1) := by decide +kernel
theorem d_O_extend_48 : decode b_O_extend 48 = .ok (.astore 4, 2) := by decide +kernel
theorem d_O_extend_50 : decode b_O_extend 50 = .ok (.iconst 0, 1) := by decide +kernel
theorem d_O_extend_51 : decode b_O_extend 51 = .ok (.istore 5, 2) := by decide +kernel
theorem d_O_extend_53 : decode b_O_extend 53 = .ok (.iload 5, 2) := by decide +kernel
theorem d_O_extend_55 : decode b_O_extend 55 = .ok (.bipush 6, 2) := by decide +kernel
theorem d_O_extend_57 : decode b_O_extend 57 = .ok (.if_icmp .ge 77, 3) := by decide +kernel
theorem d_O_extend_60 : decode b_O_extend 60 = .ok (.iload_n 1, 1) := by decide +kernel
theorem d_O_extend_61 : decode b_O_extend 61 = .ok (.iload 5, 2) := by decide +kernel
theorem d_O_extend_63 : decode b_O_extend 63 = .ok (.ishr, 1) := by decide +kernel
theorem d_O_extend_64 : decode b_O_extend 64 = .ok (.iconst 1, 1) := by decide +kernel
theorem d_O_extend_65 : decode b_O_extend 65 = .ok (.iand, 1) := by decide +kernel
theorem d_O_extend_66 : decode b_O_extend 66 = .ok (.iconst 1, 1) := by decide +kernel
theorem d_O_extend_67 : decode b_O_extend 67 = .ok (.if_icmp .ne 61, 3) := by decide +kernel
theorem d_O_extend_70 : decode b_O_extend 70 = .ok (.aload 4, 2) := by decide +kernel
theorem d_O_extend_72 : decode b_O_extend 72 = .ok (.aload_n 0, 1) := by decide +kernel
theorem d_O_extend_73 : decode b_O_extend 73 = .ok (.getfield 11, 3) := by decide +kernel
theorem d_O_extend_76 : decode b_O_extend 76 = .ok (.iload_n 3, 1) := by decide +kernel
theorem d_O_extend_77 : decode b_O_extend 77 = .ok (.aaload, 1) := by decide +kernel
theorem d_O_extend_78 : decode b_O_extend 78 = .ok (.invokevirtual 25, 3) := by decide +kernel
theorem d_O_extend_81 : decode b_O_extend 81 = .ok (.aload 4, 2) := by decide +kernel
theorem d_O_extend_83 : decode b_O_extend 83 = .ok (.iload 5, 2) := by decide +kernel
theorem d_O_extend_85 : decode b_O_extend 85 = .ok (.invokevirtual 46, 3) := by decide +kernel
theorem d_O_extend_88 : decode b_O_extend 88 = .ok (.aload_n 0, 1) := by decide +kernel
theorem d_O_extend_89 : decode b_O_extend 89 = .ok (.getfield 17, 3) := by decide +kernel
theorem d_O_extend_92 : decode b_O_extend 92 = .ok (.iload_n 3, 1) := by decide +kernel
theorem d_O_extend_93 : decode b_O_extend 93 = .ok (.iload 5, 2) := by decide +kernel
theorem d_O_extend_95 : decode b_O_extend 95 = .ok (.iastore, 1) := by decide +kernel
theorem d_O_extend_96 : decode b_O_extend 96 = .ok (.aload 4, 2) := by decide +kernel
theorem d_O_extend_98 : decode b_O_extend 98 = .ok (.invokevirtual 50, 3) := by decide +kernel
theorem d_O_extend_101 : decode b_O_extend 101 = .ok (.istore 6, 2) := by decide +kernel
theorem d_O_extend_103 : decode b_O_extend 103 = .ok (.aload 4, 2) := by decide +kernel
theorem d_O_extend_105 : decode b_O_extend 105 = .ok (.invokevirtual 54, 3) := by decide +kernel
theorem d_O_extend_108 : decode b_O_extend 108 = .ok (.pop, 1) := by decide +kernel
theorem d_O_extend_109 : decode b_O_extend 109 = .ok (.aload_n 0, 1) := by decide +kernel
theorem d_O_extend_110 : decode b_O_extend 110 = .ok (.iload_n 1, 1) := by decide +kernel
theorem d_O_extend_111 : decode b_O_extend 111 = .ok (.iconst 1, 1) := by decide +kernel
theorem d_O_extend_112 : decode b_O_extend 112 = .ok (.iload 5, 2) := by decide +kernel
theorem d_O_extend_114 : decode b_O_extend 114 = .ok (.ishl, 1) := by decide +kernel
theorem d_O_extend_115 : decode b_O_extend 115 = .ok (.iconst (-1), 1) := by decide +kernel
theorem d_O_extend_116 : decode b_O_extend 116 = .ok (.ixor, 1) := by decide +kernel
theorem d_O_extend_117 : decode b_O_extend 117 = .ok (.iand, 1) := by decide +kernel
theorem d_O_extend_118 : decode b_O_extend 118 = .ok (.iload_n 2, 1) := by decide +kernel
theorem d_O_extend_119 : decode b_O_extend 119 = .ok (.iload 6, 2) := by decide +kernel
theorem d_O_extend_121 : decode b_O_extend 121 = .ok (.iadd, 1) := by decide +kernel
theorem d_O_extend_122 : decode b_O_extend 122 = .ok (.iload_n 3, 1) := by decide +kernel
theorem d_O_extend_123 : decode b_O_extend 123 = .ok (.iconst 1, 1) := by decide +kernel
theorem d_O_extend_124 : decode b_O_extend 124 = .ok (.iadd, 1) := by decide +kernel
theorem d_O_extend_125 : decode b_O_extend 125 = .ok (.invokestatic 36, 3) := by decide +kernel
theorem d_O_extend_128 : decode b_O_extend 128 = .ok (.iinc 5 1, 3) := by decide +kernel
theorem d_O_extend_131 : decode b_O_extend 131 = .ok (.goto (-78), 3) := by decide +kernel
theorem d_O_extend_134 : decode b_O_extend 134 = .ok (.return_, 1) := by decide +kernel
theorem d_O_init_0 : decode b_O_init 0 = .ok (.aload_n 0, 1) := by decide +kernel
theorem d_O_init_1 : decode b_O_init 1 = .ok (.invokespecial 3, 3) := by decide +kernel
theorem d_O_init_4 : decode b_O_init 4 = .ok (.aload_n 0, 1) := by decide +kernel
theorem d_O_init_5 : decode b_O_init 5 = .ok (.bipush 7, 2) := by decide +kernel
theorem d_O_init_7 : decode b_O_init 7 = .ok (.anewarray 9, 3) := by decide +kernel
theorem d_O_init_10 : decode b_O_init 10 = .ok (.putfield 11, 3) := by decide +kernel
theorem d_O_init_13 : decode b_O_init 13 = .ok (.aload_n 0, 1) := by decide +kernel
theorem d_O_init_14 : decode b_O_init 14 = .ok (.bipush 6, 2) := by decide +kernel
theorem d_O_init_16 : decode b_O_init 16 = .ok (.newarray .int, 2) := by decide +kernel
theorem d_O_init_18 : decode b_O_init 18 = .ok (.putfield 17, 3) := by decide +kernel
theorem d_O_init_21 : decode b_O_init 21 = .ok (.aload_n 0, 1) := by decide +kernel
theorem d_O_init_22 : decode b_O_init 22 = .ok (.bipush 6, 2) := by decide +kernel
theorem d_O_init_24 : decode b_O_init 24 = .ok (.newarray .int, 2) := by decide +kernel
theorem d_O_init_26 : decode b_O_init 26 = .ok (.putfield 21, 3) := by decide +kernel
theorem d_O_init_29 : decode b_O_init 29 = .ok (.iconst 0, 1) := by decide +kernel
theorem d_O_init_30 : decode b_O_init 30 = .ok (.istore_n 1, 1) := by decide +kernel
theorem d_O_init_31 : decode b_O_init 31 = .ok (.iload_n 1, 1) := by decide +kernel
theorem d_O_init_32 : decode b_O_init 32 = .ok (.aload_n 0, 1) := by decide +kernel
theorem d_O_init_33 : decode b_O_init 33 = .ok (.getfield 11, 3) := by decide +kernel
theorem d_O_init_36 : decode b_O_init 36 = .ok (.arraylength, 1) := by decide +kernel
theorem d_O_init_37 : decode b_O_init 37 = .ok (.if_icmp .ge 22, 3) := by decide +kernel
theorem d_O_init_40 : decode b_O_init 40 = .ok (.aload_n 0, 1) := by decide +kernel
theorem d_O_init_41 : decode b_O_init 41 = .ok (.getfield 11, 3) := by decide +kernel
theorem d_O_init_44 : decode b_O_init 44 = .ok (.iload_n 1, 1) := by decide +kernel
theorem d_O_init_45 : decode b_O_init 45 = .ok (.new 9, 3) := by decide +kernel
theorem d_O_init_48 : decode b_O_init 48 = .ok (.dup, 1) := by decide +kernel
theorem d_O_init_49 : decode b_O_init 49 = .ok (.invokespecial 24, 3) := by decide +kernel
theorem d_O_init_52 : decode b_O_init 52 = .ok (.aastore, 1) := by decide +kernel
theorem d_O_init_53 : decode b_O_init 53 = .ok (.iinc 1 1, 3) := by decide +kernel
theorem d_O_init_56 : decode b_O_init 56 = .ok (.goto (-25), 3) := by decide +kernel
theorem d_O_init_59 : decode b_O_init 59 = .ok (.return_, 1) := by decide +kernel
theorem d_O_search_0 : decode b_O_search 0 = .ok (.aload_n 0, 1) := by decide +kernel
theorem d_O_search_1 : decode b_O_search 1 = .ok (.getfield 11, 3) := by decide +kernel
theorem d_O_search_4 : decode b_O_search 4 = .ok (.iconst 0, 1) := by decide +kernel
theorem d_O_search_5 : decode b_O_search 5 = .ok (.aaload, 1) := by decide +kernel
theorem d_O_search_6 : decode b_O_search 6 = .ok (.aload_n 1, 1) := by decide +kernel
theorem d_O_search_7 : decode b_O_search 7 = .ok (.invokevirtual 25, 3) := by decide +kernel
theorem d_O_search_10 : decode b_O_search 10 = .ok (.aload_n 0, 1) := by decide +kernel
theorem d_O_search_11 : decode b_O_search 11 = .ok (.ldc 31, 2) := by decide +kernel
theorem d_O_search_13 : decode b_O_search 13 = .ok (.putfield 32, 3) := by decide +kernel
theorem d_O_search_16 : decode b_O_search 16 = .ok (.aload_n 0, 1) := by decide +kernel
theorem d_O_search_17 : decode b_O_search 17 = .ok (.iload_n 2, 1) := by decide +kernel
theorem d_O_search_18 : decode b_O_search 18 = .ok (.iconst 0, 1) := by decide +kernel
theorem d_O_search_19 : decode b_O_search 19 = .ok (.iconst 0, 1) := by decide +kernel
theorem d_O_search_20 : decode b_O_search 20 = .ok (.invokestatic 36, 3) := by decide +kernel
theorem d_O_search_23 : decode b_O_search 23 = .ok (.return_, 1) := by decide +kernel
theorem d_P_add_0 : decode b_P_add 0 = .ok (.aload_n 0, 1) := by decide +kernel
theorem d_P_add_1 : decode b_P_add 1 = .ok (.getfield 15, 3) := by decide +kernel
theorem d_P_add_4 : decode b_P_add 4 = .ok (.aload_n 0, 1) := by decide +kernel
theorem d_P_add_5 : decode b_P_add 5 = .ok (.getfield 9, 3) := by decide +kernel
theorem d_P_add_8 : decode b_P_add 8 = .ok (.arraylength, 1) := by decide +kernel
theorem d_P_add_9 : decode b_P_add 9 = .ok (.if_icmp .lt 5, 3) := by decide +kernel
theorem d_P_add_12 : decode b_P_add 12 = .ok (.iconst 0, 1) := by decide +kernel
theorem d_P_add_13 : decode b_P_add 13 = .ok (.ireturn, 1) := by decide +kernel
theorem d_P_add_14 : decode b_P_add 14 = .ok (.aload_n 0, 1) := by decide +kernel
theorem d_P_add_15 : decode b_P_add 15 = .ok (.getfield 9, 3) := by decide +kernel
theorem d_P_add_18 : decode b_P_add 18 = .ok (.aload_n 0, 1) := by decide +kernel
theorem d_P_add_19 : decode b_P_add 19 = .ok (.getfield 15, 3) := by decide +kernel
theorem d_P_add_22 : decode b_P_add 22 = .ok (.iload_n 1, 1) := by decide +kernel
theorem d_P_add_23 : decode b_P_add 23 = .ok (.iastore, 1) := by decide +kernel
theorem d_P_add_24 : decode b_P_add 24 = .ok (.aload_n 0, 1) := by decide +kernel
theorem d_P_add_25 : decode b_P_add 25 = .ok (.dup, 1) := by decide +kernel
theorem d_P_add_26 : decode b_P_add 26 = .ok (.getfield 15, 3) := by decide +kernel
theorem d_P_add_29 : decode b_P_add 29 = .ok (.iconst 1, 1) := by decide +kernel
theorem d_P_add_30 : decode b_P_add 30 = .ok (.iadd, 1) := by decide +kernel
theorem d_P_add_31 : decode b_P_add 31 = .ok (.putfield 15, 3) := by decide +kernel
theorem d_P_add_34 : decode b_P_add 34 = .ok (.iconst 1, 1) := by decide +kernel
theorem d_P_add_35 : decode b_P_add 35 = .ok (.ireturn, 1) := by decide +kernel
theorem d_P_byteAt_0 : decode b_P_byteAt 0 = .ok (.iload_n 1, 1) := by decide +kernel
theorem d_P_byteAt_1 : decode b_P_byteAt 1 = .ok (.ifCond .lt 29, 3) := by decide +kernel
theorem d_P_byteAt_4 : decode b_P_byteAt 4 = .ok (.iload_n 1, 1) := by decide +kernel
theorem d_P_byteAt_5 : decode b_P_byteAt 5 = .ok (.aload_n 0, 1) := by decide +kernel
theorem d_P_byteAt_6 : decode b_P_byteAt 6 = .ok (.getfield 15, 3) := by decide +kernel
theorem d_P_byteAt_9 : decode b_P_byteAt 9 = .ok (.if_icmp .ge 21, 3) := by decide +kernel
theorem d_P_byteAt_12 : decode b_P_byteAt 12 = .ok (.iload_n 1, 1) := by decide +kernel
theorem d_P_byteAt_13 : decode b_P_byteAt 13 = .ok (.aload_n 0, 1) := by decide +kernel
theorem d_P_byteAt_14 : decode b_P_byteAt 14 = .ok (.getfield 9, 3) := by decide +kernel
theorem d_P_byteAt_17 : decode b_P_byteAt 17 = .ok (.arraylength, 1) := by decide +kernel
theorem d_P_byteAt_18 : decode b_P_byteAt 18 = .ok (.if_icmp .ge 12, 3) := by decide +kernel
theorem d_P_byteAt_21 : decode b_P_byteAt 21 = .ok (.aload_n 0, 1) := by decide +kernel
theorem d_P_byteAt_22 : decode b_P_byteAt 22 = .ok (.getfield 9, 3) := by decide +kernel
theorem d_P_byteAt_25 : decode b_P_byteAt 25 = .ok (.iload_n 1, 1) := by decide +kernel
theorem d_P_byteAt_26 : decode b_P_byteAt 26 = .ok (.iaload, 1) := by decide +kernel
theorem d_P_byteAt_27 : decode b_P_byteAt 27 = .ok (.goto 4, 3) := by decide +kernel
theorem d_P_byteAt_30 : decode b_P_byteAt 30 = .ok (.iconst (-1), 1) := by decide +kernel
theorem d_P_byteAt_31 : decode b_P_byteAt 31 = .ok (.ireturn, 1) := by decide +kernel
theorem d_P_fail_0 : decode b_P_fail 0 = .ok (.aload_n 0, 1) := by decide +kernel
theorem d_P_fail_1 : decode b_P_fail 1 = .ok (.iload_n 1, 1) := by decide +kernel
theorem d_P_fail_2 : decode b_P_fail 2 = .ok (.putfield 104, 3) := by decide +kernel
theorem d_P_fail_5 : decode b_P_fail 5 = .ok (.iconst 0, 1) := by decide +kernel
theorem d_P_fail_6 : decode b_P_fail 6 = .ok (.ireturn, 1) := by decide +kernel
theorem d_P_init_0 : decode b_P_init 0 = .ok (.aload_n 0, 1) := by decide +kernel
theorem d_P_init_1 : decode b_P_init 1 = .ok (.invokespecial 3, 3) := by decide +kernel
theorem d_P_init_4 : decode b_P_init 4 = .ok (.aload_n 0, 1) := by decide +kernel
theorem d_P_init_5 : decode b_P_init 5 = .ok (.bipush 100, 2) := by decide +kernel
theorem d_P_init_7 : decode b_P_init 7 = .ok (.newarray .int, 2) := by decide +kernel
theorem d_P_init_9 : decode b_P_init 9 = .ok (.putfield 9, 3) := by decide +kernel
theorem d_P_init_12 : decode b_P_init 12 = .ok (.return_, 1) := by decide +kernel
theorem d_P_isFigure_0 : decode b_P_isFigure 0 = .ok (.iload_n 0, 1) := by decide +kernel
theorem d_P_isFigure_1 : decode b_P_isFigure 1 = .ok (.bipush 48, 2) := by decide +kernel
theorem d_P_isFigure_3 : decode b_P_isFigure 3 = .ok (.if_icmp .lt 13, 3) := by decide +kernel
theorem d_P_isFigure_6 : decode b_P_isFigure 6 = .ok (.iload_n 0, 1) := by decide +kernel
theorem d_P_isFigure_7 : decode b_P_isFigure 7 = .ok (.bipush 57, 2) := by decide +kernel
theorem d_P_isFigure_9 : decode b_P_isFigure 9 = .ok (.if_icmp .gt 7, 3) := by decide +kernel
theorem d_P_isFigure_12 : decode b_P_isFigure 12 = .ok (.iconst 1, 1) := by decide +kernel
theorem d_P_isFigure_13 : decode b_P_isFigure 13 = .ok (.goto 4, 3) := by decide +kernel
theorem d_P_isFigure_16 : decode b_P_isFigure 16 = .ok (.iconst 0, 1) := by decide +kernel
theorem d_P_isFigure_17 : decode b_P_isFigure 17 = .ok (.ireturn, 1) := by decide +kernel
theorem d_P_kindToldBy_0 : decode b_P_kindToldBy 0 = .ok (.iload_n 0, 1) := by decide +kernel
theorem d_P_kindToldBy_1 : decode b_P_kindToldBy 1 = .ok (.lookupswitch 61 #[(98, 51), (100, 53), (101, 59), (110, 57), (115, 55)], 51) := by decide +kernel
theorem d_P_kindToldBy_52 : decode b_P_kindToldBy 52 = .ok (.iconst 1, 1) := by decide +kernel
theorem d_P_kindToldBy_53 : decode b_P_kindToldBy 53 = .ok (.ireturn, 1) := by decide +kernel
theorem d_P_kindToldBy_54 : decode b_P_kindToldBy 54 = .ok (.iconst 2, 1) := by decide +kernel
theorem d_P_kindToldBy_55 : decode b_P_kindToldBy 55 = .ok (.ireturn, 1) := by decide +kernel
theorem d_P_kindToldBy_56 : decode b_P_kindToldBy 56 = .ok (.iconst 3, 1) := by decide +kernel
theorem d_P_kindToldBy_57 : decode b_P_kindToldBy 57 = .ok (.ireturn, 1) := by decide +kernel
theorem d_P_kindToldBy_58 : decode b_P_kindToldBy 58 = .ok (.iconst 4, 1) := by decide +kernel
theorem d_P_kindToldBy_59 : decode b_P_kindToldBy 59 = .ok (.ireturn, 1) := by decide +kernel
theorem d_P_kindToldBy_60 : decode b_P_kindToldBy 60 = .ok (.iconst 5, 1) := by decide +kernel
theorem d_P_kindToldBy_61 : decode b_P_kindToldBy 61 = .ok (.ireturn, 1) := by decide +kernel
theorem d_P_kindToldBy_62 : decode b_P_kindToldBy 62 = .ok (.iconst 0, 1) := by decide +kernel
theorem d_P_kindToldBy_63 : decode b_P_kindToldBy 63 = .ok (.ireturn, 1) := by decide +kernel
theorem d_P_readFigures_0 : decode b_P_readFigures 0 = .ok (.aload_n 0, 1) := by decide +kernel
theorem d_P_readFigures_1 : decode b_P_readFigures 1 = .ok (.iconst 0, 1) := by decide +kernel
theorem d_P_readFigures_2 : decode b_P_readFigures 2 = .ok (.bipush 9, 2) := by decide +kernel
theorem d_P_readFigures_4 : decode b_P_readFigures 4 = .ok (.invokevirtual 42, 3) := by decide +kernel
theorem d_P_readFigures_7 : decode b_P_readFigures 7 = .ok (.ifCond .ne 5, 3) := by decide +kernel
theorem d_P_readFigures_10 : decode b_P_readFigures 10 = .ok (.iconst 0, 1) := by decide +kernel
theorem d_P_readFigures_11 : decode b_P_readFigures 11 = .ok (.ireturn, 1) := by decide +kernel
theorem d_P_readFigures_12 : decode b_P_readFigures 12 = .ok (.aload_n 1, 1) := by decide +kernel
theorem d_P_readFigures_13 : decode b_P_readFigures 13 = .ok (.aload_n 0, 1) := by decide +kernel
theorem d_P_readFigures_14 : decode b_P_readFigures 14 = .ok (.getfield 46, 3) := by decide +kernel
theorem d_P_readFigures_17 : decode b_P_readFigures 17 = .ok (.putfield 88, 3) := by decide +kernel
theorem d_P_readFigures_20 : decode b_P_readFigures 20 = .ok (.aload_n 0, 1) := by decide +kernel
theorem d_P_readFigures_21 : decode b_P_readFigures 21 = .ok (.bipush 44, 2) := by decide +kernel
theorem d_P_readFigures_23 : decode b_P_readFigures 23 = .ok (.invokevirtual 38, 3) := by decide +kernel
theorem d_P_readFigures_26 : decode b_P_readFigures 26 = .ok (.ifCond .eq 13, 3) := by decide +kernel
theorem d_P_readFigures_29 : decode b_P_readFigures 29 = .ok (.aload_n 0, 1) := by decide +kernel
theorem d_P_readFigures_30 : decode b_P_readFigures 30 = .ok (.iconst 1, 1) := by decide +kernel
theorem d_P_readFigures_31 : decode b_P_readFigures 31 = .ok (.bipush 9, 2) := by decide +kernel
theorem d_P_readFigures_33 : decode b_P_readFigures 33 = .ok (.invokevirtual 42, 3) := by decide +kernel
theorem d_P_readFigures_36 : decode b_P_readFigures 36 = .ok (.ifCond .ne 5, 3) := by decide +kernel
theorem d_P_readFigures_39 : decode b_P_readFigures 39 = .ok (.iconst 0, 1) := by decide +kernel
theorem d_P_readFigures_40 : decode b_P_readFigures 40 = .ok (.ireturn, 1) := by decide +kernel
theorem d_P_readFigures_41 : decode b_P_readFigures 41 = .ok (.aload_n 1, 1) := by decide +kernel
theorem d_P_readFigures_42 : decode b_P_readFigures 42 = .ok (.aload_n 0, 1) := by decide +kernel
theorem d_P_readFigures_43 : decode b_P_readFigures 43 = .ok (.getfield 46, 3) := by decide +kernel
theorem d_P_readFigures_46 : decode b_P_readFigures 46 = .ok (.putfield 91, 3) := by decide +kernel
theorem d_P_readFigures_49 : decode b_P_readFigures 49 = .ok (.aload_n 0, 1) := by decide +kernel
theorem d_P_readFigures_50 : decode b_P_readFigures 50 = .ok (.bipush 44, 2) := by decide +kernel
theorem d_P_readFigures_52 : decode b_P_readFigures 52 = .ok (.invokevirtual 38, 3) := by decide +kernel
theorem d_P_readFigures_55 : decode b_P_readFigures 55 = .ok (.ifCond .eq 13, 3) := by decide +kernel
theorem d_P_readFigures_58 : decode b_P_readFigures 58 = .ok (.aload_n 0, 1) := by decide +kernel
theorem d_P_readFigures_59 : decode b_P_readFigures 59 = .ok (.iconst 0, 1) := by decide +kernel
theorem d_P_readFigures_60 : decode b_P_readFigures 60 = .ok (.bipush 9, 2) := by decide +kernel
theorem d_P_readFigures_62 : decode b_P_readFigures 62 = .ok (.invokevirtual 42, 3) := by decide +kernel
theorem d_P_readFigures_65 : decode b_P_readFigures 65 = .ok (.ifCond .ne 5, 3) := by decide +kernel
theorem d_P_readFigures_68 : decode b_P_readFigures 68 = .ok (.iconst 0, 1) := by decide +kernel
theorem d_P_readFigures_69 : decode b_P_readFigures 69 = .ok (.ireturn, 1) := by decide +kernel
theorem d_P_readFigures_70 : decode b_P_readFigures 70 = .ok (.aload_n 1, 1) := by decide +kernel
theorem d_P_readFigures_71 : decode b_P_readFigures 71 = .ok (.aload_n 0, 1) := by decide +kernel
theorem d_P_readFigures_72 : decode b_P_readFigures 72 = .ok (.getfield 46, 3) := by decide +kernel
theorem d_P_readFigures_75 : decode b_P_readFigures 75 = .ok (.putfield 94, 3) := by decide +kernel
theorem d_P_readFigures_78 : decode b_P_readFigures 78 = .ok (.aload_n 0, 1) := by decide +kernel
theorem d_P_readFigures_79 : decode b_P_readFigures 79 = .ok (.bipush 59, 2) := by decide +kernel
theorem d_P_readFigures_81 : decode b_P_readFigures 81 = .ok (.invokevirtual 38, 3) := by decide +kernel
theorem d_P_readFigures_84 : decode b_P_readFigures 84 = .ok (.ireturn, 1) := by decide +kernel
theorem d_P_readInto_0 : decode b_P_readInto 0 = .ok (.aload_n 0, 1) := by decide +kernel
theorem d_P_readInto_1 : decode b_P_readInto 1 = .ok (.iconst 0, 1) := by decide +kernel
theorem d_P_readInto_2 : decode b_P_readInto 2 = .ok (.putfield 19, 3) := by decide +kernel
theorem d_P_readInto_5 : decode b_P_readInto 5 = .ok (.aload_n 1, 1) := by decide +kernel
theorem d_P_readInto_6 : decode b_P_readInto 6 = .ok (.invokevirtual 22, 3) := by decide +kernel
theorem d_P_readInto_9 : decode b_P_readInto 9 = .ok (.aload_n 1, 1) := by decide +kernel
theorem d_P_readInto_10 : decode b_P_readInto 10 = .ok (.aload_n 0, 1) := by decide +kernel
theorem d_P_readInto_11 : decode b_P_readInto 11 = .ok (.aload_n 1, 1) := by decide +kernel
theorem d_P_readInto_12 : decode b_P_readInto 12 = .ok (.invokevirtual 27, 3) := by decide +kernel
theorem d_P_readInto_15 : decode b_P_readInto 15 = .ok (.ifCond .eq 15, 3) := by decide +kernel
theorem d_P_readInto_18 : decode b_P_readInto 18 = .ok (.aload_n 0, 1) := by decide +kernel
theorem d_P_readInto_19 : decode b_P_readInto 19 = .ok (.aload_n 1, 1) := by decide +kernel
theorem d_P_readInto_20 : decode b_P_readInto 20 = .ok (.invokevirtual 31, 3) := by decide +kernel
theorem d_P_readInto_23 : decode b_P_readInto 23 = .ok (.ifCond .eq 7, 3) := by decide +kernel
theorem d_P_readInto_26 : decode b_P_readInto 26 = .ok (.iconst 1, 1) := by decide +kernel
theorem d_P_readInto_27 : decode b_P_readInto 27 = .ok (.goto 4, 3) := by decide +kernel
theorem d_P_readInto_30 : decode b_P_readInto 30 = .ok (.iconst 0, 1) := by decide +kernel
theorem d_P_readInto_31 : decode b_P_readInto 31 = .ok (.putfield 34, 3) := by decide +kernel
theorem d_P_readInto_34 : decode b_P_readInto 34 = .ok (.aload_n 1, 1) := by decide +kernel
theorem d_P_readInto_35 : decode b_P_readInto 35 = .ok (.getfield 34, 3) := by decide +kernel
theorem d_P_readInto_38 : decode b_P_readInto 38 = .ok (.ireturn, 1) := by decide +kernel
theorem d_P_readLaw_0 : decode b_P_readLaw 0 = .ok (.aload_n 0, 1) := by decide +kernel
theorem d_P_readLaw_1 : decode b_P_readLaw 1 = .ok (.bipush 99, 2) := by decide +kernel
theorem d_P_readLaw_3 : decode b_P_readLaw 3 = .ok (.invokevirtual 38, 3) := by decide +kernel
theorem d_P_readLaw_6 : decode b_P_readLaw 6 = .ok (.ifCond .eq 13, 3) := by decide +kernel
theorem d_P_readLaw_9 : decode b_P_readLaw 9 = .ok (.aload_n 0, 1) := by decide +kernel
theorem d_P_readLaw_10 : decode b_P_readLaw 10 = .ok (.iconst 1, 1) := by decide +kernel
theorem d_P_readLaw_11 : decode b_P_readLaw 11 = .ok (.bipush 30, 2) := by decide +kernel
theorem d_P_readLaw_13 : decode b_P_readLaw 13 = .ok (.invokevirtual 42, 3) := by decide +kernel
theorem d_P_readLaw_16 : decode b_P_readLaw 16 = .ok (.ifCond .ne 5, 3) := by decide +kernel
theorem d_P_readLaw_19 : decode b_P_readLaw 19 = .ok (.iconst 0, 1) := by decide +kernel
theorem d_P_readLaw_20 : decode b_P_readLaw 20 = .ok (.ireturn, 1) := by decide +kernel
theorem d_P_readLaw_21 : decode b_P_readLaw 21 = .ok (.aload_n 1, 1) := by decide +kernel
theorem d_P_readLaw_22 : decode b_P_readLaw 22 = .ok (.aload_n 0, 1) := by decide +kernel
theorem d_P_readLaw_23 : decode b_P_readLaw 23 = .ok (.getfield 46, 3) := by decide +kernel
theorem d_P_readLaw_26 : decode b_P_readLaw 26 = .ok (.putfield 49, 3) := by decide +kernel
theorem d_P_readLaw_29 : decode b_P_readLaw 29 = .ok (.aload_n 0, 1) := by decide +kernel
theorem d_P_readLaw_30 : decode b_P_readLaw 30 = .ok (.bipush 59, 2) := by decide +kernel
theorem d_P_readLaw_32 : decode b_P_readLaw 32 = .ok (.invokevirtual 38, 3) := by decide +kernel
theorem d_P_readLaw_35 : decode b_P_readLaw 35 = .ok (.ireturn, 1) := by decide +kernel
theorem d_P_readLetter_0 : decode b_P_readLetter 0 = .ok (.aload_n 0, 1) := by decide +kernel
theorem d_P_readLetter_1 : decode b_P_readLetter 1 = .ok (.aload_n 0, 1) := by decide +kernel
theorem d_P_readLetter_2 : decode b_P_readLetter 2 = .ok (.getfield 19, 3) := by decide +kernel
theorem d_P_readLetter_5 : decode b_P_readLetter 5 = .ok (.invokevirtual 55, 3) := by decide +kernel
theorem d_P_readLetter_8 : decode b_P_readLetter 8 = .ok (.invokestatic 59, 3) := by decide +kernel
theorem d_P_readLetter_11 : decode b_P_readLetter 11 = .ok (.istore_n 2, 1) := by decide +kernel
theorem d_P_readLetter_12 : decode b_P_readLetter 12 = .ok (.iload_n 2, 1) := by decide +kernel
theorem d_P_readLetter_13 : decode b_P_readLetter 13 = .ok (.ifCond .ne 9, 3) := by decide +kernel
theorem d_P_readLetter_16 : decode b_P_readLetter 16 = .ok (.aload_n 0, 1) := by decide +kernel
theorem d_P_readLetter_17 : decode b_P_readLetter 17 = .ok (.iconst 1, 1) := by decide +kernel
theorem d_P_readLetter_18 : decode b_P_readLetter 18 = .ok (.invokevirtual 62, 3) := by decide +kernel
theorem d_P_readLetter_21 : decode b_P_readLetter 21 = .ok (.ireturn, 1) := by decide +kernel
theorem d_P_readLetter_22 : decode b_P_readLetter 22 = .ok (.aload_n 1, 1) := by decide +kernel
theorem d_P_readLetter_23 : decode b_P_readLetter 23 = .ok (.getfield 66, 3) := by decide +kernel
theorem d_P_readLetter_26 : decode b_P_readLetter 26 = .ok (.bipush 6, 2) := by decide +kernel
theorem d_P_readLetter_28 : decode b_P_readLetter 28 = .ok (.if_icmp .lt 9, 3) := by decide +kernel
theorem d_P_readLetter_31 : decode b_P_readLetter 31 = .ok (.aload_n 0, 1) := by decide +kernel
theorem d_P_readLetter_32 : decode b_P_readLetter 32 = .ok (.iconst 3, 1) := by decide +kernel
theorem d_P_readLetter_33 : decode b_P_readLetter 33 = .ok (.invokevirtual 62, 3) := by decide +kernel
theorem d_P_readLetter_36 : decode b_P_readLetter 36 = .ok (.ireturn, 1) := by decide +kernel
theorem d_P_readLetter_37 : decode b_P_readLetter 37 = .ok (.aload_n 0, 1) := by decide +kernel
theorem d_P_readLetter_38 : decode b_P_readLetter 38 = .ok (.dup, 1) := by decide +kernel
theorem d_P_readLetter_39 : decode b_P_readLetter 39 = .ok (.getfield 19, 3) := by decide +kernel
theorem d_P_readLetter_42 : decode b_P_readLetter 42 = .ok (.iconst 1, 1) := by decide +kernel
theorem d_P_readLetter_43 : decode b_P_readLetter 43 = .ok (.iadd, 1) := by decide +kernel
theorem d_P_readLetter_44 : decode b_P_readLetter 44 = .ok (.putfield 19, 3) := by decide +kernel
theorem d_P_readLetter_47 : decode b_P_readLetter 47 = .ok (.aload_n 1, 1) := by decide +kernel
theorem d_P_readLetter_48 : decode b_P_readLetter 48 = .ok (.getfield 69, 3) := by decide +kernel
theorem d_P_readLetter_51 : decode b_P_readLetter 51 = .ok (.aload_n 1, 1) := by decide +kernel
theorem d_P_readLetter_52 : decode b_P_readLetter 52 = .ok (.getfield 66, 3) := by decide +kernel
theorem d_P_readLetter_55 : decode b_P_readLetter 55 = .ok (.aaload, 1) := by decide +kernel
theorem d_P_readLetter_56 : decode b_P_readLetter 56 = .ok (.astore_n 3, 1) := by decide +kernel
theorem d_P_readLetter_57 : decode b_P_readLetter 57 = .ok (.aload_n 3, 1) := by decide +kernel
theorem d_P_readLetter_58 : decode b_P_readLetter 58 = .ok (.iload_n 2, 1) := by decide +kernel
theorem d_P_readLetter_59 : decode b_P_readLetter 59 = .ok (.putfield 73, 3) := by decide +kernel
theorem d_P_readLetter_62 : decode b_P_readLetter 62 = .ok (.aload_n 3, 1) := by decide +kernel
theorem d_P_readLetter_63 : decode b_P_readLetter 63 = .ok (.iconst 0, 1) := by decide +kernel
theorem d_P_readLetter_64 : decode b_P_readLetter 64 = .ok (.putfield 78, 3) := by decide +kernel
theorem d_P_readLetter_67 : decode b_P_readLetter 67 = .ok (.aload_n 0, 1) := by decide +kernel
theorem d_P_readLetter_68 : decode b_P_readLetter 68 = .ok (.aload_n 3, 1) := by decide +kernel
theorem d_P_readLetter_69 : decode b_P_readLetter 69 = .ok (.invokevirtual 81, 3) := by decide +kernel
theorem d_P_readLetter_72 : decode b_P_readLetter 72 = .ok (.ifCond .ne 5, 3) := by decide +kernel
theorem d_P_readLetter_75 : decode b_P_readLetter 75 = .ok (.iconst 0, 1) := by decide +kernel
theorem d_P_readLetter_76 : decode b_P_readLetter 76 = .ok (.ireturn, 1) := by decide +kernel
theorem d_P_readLetter_77 : decode b_P_readLetter 77 = .ok (.aload_n 1, 1) := by decide +kernel
theorem d_P_readLetter_78 : decode b_P_readLetter 78 = .ok (.dup, 1) := by decide +kernel
theorem d_P_readLetter_79 : decode b_P_readLetter 79 = .ok (.getfield 85, 3) := by decide +kernel
theorem d_P_readLetter_82 : decode b_P_readLetter 82 = .ok (.iconst 1, 1) := by decide +kernel
theorem d_P_readLetter_83 : decode b_P_readLetter 83 = .ok (.aload_n 1, 1) := by decide +kernel
theorem d_P_readLetter_84 : decode b_P_readLetter 84 = .ok (.getfield 66, 3) := by decide +kernel
theorem d_P_readLetter_87 : decode b_P_readLetter 87 = .ok (.ishl, 1) := by decide +kernel
theorem d_P_readLetter_88 : decode b_P_readLetter 88 = .ok (.ior, 1) := by decide +kernel
theorem d_P_readLetter_89 : decode b_P_readLetter 89 = .ok (.putfield 85, 3) := by decide +kernel
theorem d_P_readLetter_92 : decode b_P_readLetter 92 = .ok (.aload_n 1, 1) := by decide +kernel
theorem d_P_readLetter_93 : decode b_P_readLetter 93 = .ok (.dup, 1) := by decide +kernel
theorem d_P_readLetter_94 : decode b_P_readLetter 94 = .ok (.getfield 66, 3) := by decide +kernel
theorem d_P_readLetter_97 : decode b_P_readLetter 97 = .ok (.iconst 1, 1) := by decide +kernel
theorem d_P_readLetter_98 : decode b_P_readLetter 98 = .ok (.iadd, 1) := by decide +kernel
theorem d_P_readLetter_99 : decode b_P_readLetter 99 = .ok (.putfield 66, 3) := by decide +kernel
theorem d_P_readLetter_102 : decode b_P_readLetter 102 = .ok (.iconst 1, 1) := by decide +kernel
theorem d_P_readLetter_103 : decode b_P_readLetter 103 = .ok (.ireturn, 1) := by decide +kernel
theorem d_P_readLetters_0 : decode b_P_readLetters 0 = .ok (.iconst 0, 1) := by decide +kernel
theorem d_P_readLetters_1 : decode b_P_readLetters 1 = .ok (.istore_n 2, 1) := by decide +kernel
theorem d_P_readLetters_2 : decode b_P_readLetters 2 = .ok (.iload_n 2, 1) := by decide +kernel
theorem d_P_readLetters_3 : decode b_P_readLetters 3 = .ok (.bipush 6, 2) := by decide +kernel
theorem d_P_readLetters_5 : decode b_P_readLetters 5 = .ok (.if_icmp .gt 30, 3) := by decide +kernel
theorem d_P_readLetters_8 : decode b_P_readLetters 8 = .ok (.aload_n 0, 1) := by decide +kernel
theorem d_P_readLetters_9 : decode b_P_readLetters 9 = .ok (.getfield 19, 3) := by decide +kernel
theorem d_P_readLetters_12 : decode b_P_readLetters 12 = .ok (.aload_n 0, 1) := by decide +kernel
theorem d_P_readLetters_13 : decode b_P_readLetters 13 = .ok (.getfield 15, 3) := by decide +kernel
theorem d_P_readLetters_16 : decode b_P_readLetters 16 = .ok (.if_icmp .ge 19, 3) := by decide +kernel
theorem d_P_readLetters_19 : decode b_P_readLetters 19 = .ok (.aload_n 0, 1) := by decide +kernel
theorem d_P_readLetters_20 : decode b_P_readLetters 20 = .ok (.aload_n 1, 1) := by decide +kernel
theorem d_P_readLetters_21 : decode b_P_readLetters 21 = .ok (.invokevirtual 52, 3) := by decide +kernel
theorem d_P_readLetters_24 : decode b_P_readLetters 24 = .ok (.ifCond .ne 5, 3) := by decide +kernel
theorem d_P_readLetters_27 : decode b_P_readLetters 27 = .ok (.iconst 0, 1) := by decide +kernel
theorem d_P_readLetters_28 : decode b_P_readLetters 28 = .ok (.ireturn, 1) := by decide +kernel
theorem d_P_readLetters_29 : decode b_P_readLetters 29 = .ok (.iinc 2 1, 3) := by decide +kernel
theorem d_P_readLetters_32 : decode b_P_readLetters 32 = .ok (.goto (-30), 3) := by decide +kernel
theorem d_P_readLetters_35 : decode b_P_readLetters 35 = .ok (.iconst 1, 1) := by decide +kernel
theorem d_P_readLetters_36 : decode b_P_readLetters 36 = .ok (.ireturn, 1) := by decide +kernel
theorem d_P_readNumber_0 : decode b_P_readNumber 0 = .ok (.iconst 0, 1) := by decide +kernel
theorem d_P_readNumber_1 : decode b_P_readNumber 1 = .ok (.istore_n 3, 1) := by decide +kernel
theorem d_P_readNumber_2 : decode b_P_readNumber 2 = .ok (.iconst 0, 1) := by decide +kernel
theorem d_P_readNumber_3 : decode b_P_readNumber 3 = .ok (.istore 4, 2) := by decide +kernel
theorem d_P_readNumber_5 : decode b_P_readNumber 5 = .ok (.iconst 0, 1) := by decide +kernel
theorem d_P_readNumber_6 : decode b_P_readNumber 6 = .ok (.istore 5, 2) := by decide +kernel
theorem d_P_readNumber_8 : decode b_P_readNumber 8 = .ok (.iload 5, 2) := by decide +kernel
theorem d_P_readNumber_10 : decode b_P_readNumber 10 = .ok (.iconst 3, 1) := by decide +kernel
theorem d_P_readNumber_11 : decode b_P_readNumber 11 = .ok (.if_icmp .ge 51, 3) := by decide +kernel
theorem d_P_readNumber_14 : decode b_P_readNumber 14 = .ok (.aload_n 0, 1) := by decide +kernel
theorem d_P_readNumber_15 : decode b_P_readNumber 15 = .ok (.aload_n 0, 1) := by decide +kernel
theorem d_P_readNumber_16 : decode b_P_readNumber 16 = .ok (.getfield 19, 3) := by decide +kernel
theorem d_P_readNumber_19 : decode b_P_readNumber 19 = .ok (.iload 5, 2) := by decide +kernel
theorem d_P_readNumber_21 : decode b_P_readNumber 21 = .ok (.iadd, 1) := by decide +kernel
theorem d_P_readNumber_22 : decode b_P_readNumber 22 = .ok (.invokevirtual 55, 3) := by decide +kernel
theorem d_P_readNumber_25 : decode b_P_readNumber 25 = .ok (.invokestatic 97, 3) := by decide +kernel
theorem d_P_readNumber_28 : decode b_P_readNumber 28 = .ok (.ifCond .eq 34, 3) := by decide +kernel
theorem d_P_readNumber_31 : decode b_P_readNumber 31 = .ok (.iload 4, 2) := by decide +kernel
theorem d_P_readNumber_33 : decode b_P_readNumber 33 = .ok (.bipush 10, 2) := by decide +kernel
theorem d_P_readNumber_35 : decode b_P_readNumber 35 = .ok (.imul, 1) := by decide +kernel
theorem d_P_readNumber_36 : decode b_P_readNumber 36 = .ok (.aload_n 0, 1) := by decide +kernel
theorem d_P_readNumber_37 : decode b_P_readNumber 37 = .ok (.aload_n 0, 1) := by decide +kernel
theorem d_P_readNumber_38 : decode b_P_readNumber 38 = .ok (.getfield 19, 3) := by decide +kernel
theorem d_P_readNumber_41 : decode b_P_readNumber 41 = .ok (.iload 5, 2) := by decide +kernel
theorem d_P_readNumber_43 : decode b_P_readNumber 43 = .ok (.iadd, 1) := by decide +kernel
theorem d_P_readNumber_44 : decode b_P_readNumber 44 = .ok (.invokevirtual 55, 3) := by decide +kernel
theorem d_P_readNumber_47 : decode b_P_readNumber 47 = .ok (.iadd, 1) := by decide +kernel
theorem d_P_readNumber_48 : decode b_P_readNumber 48 = .ok (.bipush 48, 2) := by decide +kernel
theorem d_P_readNumber_50 : decode b_P_readNumber 50 = .ok (.isub, 1) := by decide +kernel
theorem d_P_readNumber_51 : decode b_P_readNumber 51 = .ok (.istore 4, 2) := by decide +kernel
theorem d_P_readNumber_53 : decode b_P_readNumber 53 = .ok (.iinc 3 1, 3) := by decide +kernel
theorem d_P_readNumber_56 : decode b_P_readNumber 56 = .ok (.iinc 5 1, 3) := by decide +kernel
theorem d_P_readNumber_59 : decode b_P_readNumber 59 = .ok (.goto (-51), 3) := by decide +kernel
theorem d_P_readNumber_62 : decode b_P_readNumber 62 = .ok (.iload_n 3, 1) := by decide +kernel
theorem d_P_readNumber_63 : decode b_P_readNumber 63 = .ok (.iconst 1, 1) := by decide +kernel
theorem d_P_readNumber_64 : decode b_P_readNumber 64 = .ok (.if_icmp .lt 8, 3) := by decide +kernel
theorem d_P_readNumber_67 : decode b_P_readNumber 67 = .ok (.iload_n 3, 1) := by decide +kernel
theorem d_P_readNumber_68 : decode b_P_readNumber 68 = .ok (.iconst 2, 1) := by decide +kernel
theorem d_P_readNumber_69 : decode b_P_readNumber 69 = .ok (.if_icmp .le 9, 3) := by decide +kernel
theorem d_P_readNumber_72 : decode b_P_readNumber 72 = .ok (.aload_n 0, 1) := by decide +kernel
theorem d_P_readNumber_73 : decode b_P_readNumber 73 = .ok (.iconst 1, 1) := by decide +kernel
theorem d_P_readNumber_74 : decode b_P_readNumber 74 = .ok (.invokevirtual 62, 3) := by decide +kernel
theorem d_P_readNumber_77 : decode b_P_readNumber 77 = .ok (.ireturn, 1) := by decide +kernel
theorem d_P_readNumber_78 : decode b_P_readNumber 78 = .ok (.iload 4, 2) := by decide +kernel
theorem d_P_readNumber_80 : decode b_P_readNumber 80 = .ok (.iload_n 1, 1) := by decide +kernel
theorem d_P_readNumber_81 : decode b_P_readNumber 81 = .ok (.iload_n 2, 1) := by decide +kernel
theorem d_P_readNumber_82 : decode b_P_readNumber 82 = .ok (.invokestatic 100, 3) := by decide +kernel
theorem d_P_readNumber_85 : decode b_P_readNumber 85 = .ok (.ifCond .ne 9, 3) := by decide +kernel
theorem d_P_readNumber_88 : decode b_P_readNumber 88 = .ok (.aload_n 0, 1) := by decide +kernel
theorem d_P_readNumber_89 : decode b_P_readNumber 89 = .ok (.iconst 2, 1) := by decide +kernel
theorem d_P_readNumber_90 : decode b_P_readNumber 90 = .ok (.invokevirtual 62, 3) := by decide +kernel
theorem d_P_readNumber_93 : decode b_P_readNumber 93 = .ok (.ireturn, 1) := by decide +kernel
theorem d_P_readNumber_94 : decode b_P_readNumber 94 = .ok (.aload_n 0, 1) := by decide +kernel
theorem d_P_readNumber_95 : decode b_P_readNumber 95 = .ok (.dup, 1) := by decide +kernel
theorem d_P_readNumber_96 : decode b_P_readNumber 96 = .ok (.getfield 19, 3) := by decide +kernel
theorem d_P_readNumber_99 : decode b_P_readNumber 99 = .ok (.iload_n 3, 1) := by decide +kernel
theorem d_P_readNumber_100 : decode b_P_readNumber 100 = .ok (.iadd, 1) := by decide +kernel
theorem d_P_readNumber_101 : decode b_P_readNumber 101 = .ok (.putfield 19, 3) := by decide +kernel
theorem d_P_readNumber_104 : decode b_P_readNumber 104 = .ok (.aload_n 0, 1) := by decide +kernel
theorem d_P_readNumber_105 : decode b_P_readNumber 105 = .ok (.iload 4, 2) := by decide +kernel
theorem d_P_readNumber_107 : decode b_P_readNumber 107 = .ok (.putfield 46, 3) := by decide +kernel
theorem d_P_readNumber_110 : decode b_P_readNumber 110 = .ok (.iconst 1, 1) := by decide +kernel
theorem d_P_readNumber_111 : decode b_P_readNumber 111 = .ok (.ireturn, 1) := by decide +kernel
theorem d_P_readSign_0 : decode b_P_readSign 0 = .ok (.aload_n 0, 1) := by decide +kernel
theorem d_P_readSign_1 : decode b_P_readSign 1 = .ok (.aload_n 0, 1) := by decide +kernel
theorem d_P_readSign_2 : decode b_P_readSign 2 = .ok (.getfield 19, 3) := by decide +kernel
theorem d_P_readSign_5 : decode b_P_readSign 5 = .ok (.invokevirtual 55, 3) := by decide +kernel
theorem d_P_readSign_8 : decode b_P_readSign 8 = .ok (.iload_n 1, 1) := by decide +kernel
theorem d_P_readSign_9 : decode b_P_readSign 9 = .ok (.if_icmp .eq 9, 3) := by decide +kernel
theorem d_P_readSign_12 : decode b_P_readSign 12 = .ok (.aload_n 0, 1) := by decide +kernel
theorem d_P_readSign_13 : decode b_P_readSign 13 = .ok (.iconst 1, 1) := by decide +kernel
theorem d_P_readSign_14 : decode b_P_readSign 14 = .ok (.invokevirtual 62, 3) := by decide +kernel
theorem d_P_readSign_17 : decode b_P_readSign 17 = .ok (.ireturn, 1) := by decide +kernel
theorem d_P_readSign_18 : decode b_P_readSign 18 = .ok (.aload_n 0, 1) := by decide +kernel
theorem d_P_readSign_19 : decode b_P_readSign 19 = .ok (.dup, 1) := by decide +kernel
theorem d_P_readSign_20 : decode b_P_readSign 20 = .ok (.getfield 19, 3) := by decide +kernel
theorem d_P_readSign_23 : decode b_P_readSign 23 = .ok (.iconst 1, 1) := by decide +kernel
theorem d_P_readSign_24 : decode b_P_readSign 24 = .ok (.iadd, 1) := by decide +kernel
theorem d_P_readSign_25 : decode b_P_readSign 25 = .ok (.putfield 19, 3) := by decide +kernel
theorem d_P_readSign_28 : decode b_P_readSign 28 = .ok (.iconst 1, 1) := by decide +kernel
theorem d_P_readSign_29 : decode b_P_readSign 29 = .ok (.ireturn, 1) := by decide +kernel
theorem d_R_hasPlaces_0 : decode b_R_hasPlaces 0 = .ok (.iload_n 1, 1) := by decide +kernel
theorem d_R_hasPlaces_1 : decode b_R_hasPlaces 1 = .ok (.ifCond .lt 21, 3) := by decide +kernel
theorem d_R_hasPlaces_4 : decode b_R_hasPlaces 4 = .ok (.iload_n 2, 1) := by decide +kernel
theorem d_R_hasPlaces_5 : decode b_R_hasPlaces 5 = .ok (.ifCond .lt 17, 3) := by decide +kernel
theorem d_R_hasPlaces_8 : decode b_R_hasPlaces 8 = .ok (.iload_n 2, 1) := by decide +kernel
theorem d_R_hasPlaces_9 : decode b_R_hasPlaces 9 = .ok (.aload_n 0, 1) := by decide +kernel
theorem d_R_hasPlaces_10 : decode b_R_hasPlaces 10 = .ok (.getfield 29, 3) := by decide +kernel
theorem d_R_hasPlaces_13 : decode b_R_hasPlaces 13 = .ok (.iload_n 1, 1) := by decide +kernel
theorem d_R_hasPlaces_14 : decode b_R_hasPlaces 14 = .ok (.isub, 1) := by decide +kernel
theorem d_R_hasPlaces_15 : decode b_R_hasPlaces 15 = .ok (.if_icmp .gt 7, 3) := by decide +kernel
theorem d_R_hasPlaces_18 : decode b_R_hasPlaces 18 = .ok (.iconst 1, 1) := by decide +kernel
theorem d_R_hasPlaces_19 : decode b_R_hasPlaces 19 = .ok (.goto 4, 3) := by decide +kernel
theorem d_R_hasPlaces_22 : decode b_R_hasPlaces 22 = .ok (.iconst 0, 1) := by decide +kernel
theorem d_R_hasPlaces_23 : decode b_R_hasPlaces 23 = .ok (.ireturn, 1) := by decide +kernel
theorem d_R_init_0 : decode b_R_init 0 = .ok (.aload_n 0, 1) := by decide +kernel
theorem d_R_init_1 : decode b_R_init 1 = .ok (.invokespecial 3, 3) := by decide +kernel
theorem d_R_init_4 : decode b_R_init 4 = .ok (.aload_n 0, 1) := by decide +kernel
theorem d_R_init_5 : decode b_R_init 5 = .ok (.bipush 40, 2) := by decide +kernel
theorem d_R_init_7 : decode b_R_init 7 = .ok (.newarray .int, 2) := by decide +kernel
theorem d_R_init_9 : decode b_R_init 9 = .ok (.putfield 9, 3) := by decide +kernel
theorem d_R_init_12 : decode b_R_init 12 = .ok (.aload_n 0, 1) := by decide +kernel
theorem d_R_init_13 : decode b_R_init 13 = .ok (.iconst 1, 1) := by decide +kernel
theorem d_R_init_14 : decode b_R_init 14 = .ok (.putfield 15, 3) := by decide +kernel
theorem d_R_init_17 : decode b_R_init 17 = .ok (.return_, 1) := by decide +kernel
theorem d_R_itemAt_0 : decode b_R_itemAt 0 = .ok (.aload_n 0, 1) := by decide +kernel
theorem d_R_itemAt_1 : decode b_R_itemAt 1 = .ok (.iload_n 1, 1) := by decide +kernel
theorem d_R_itemAt_2 : decode b_R_itemAt 2 = .ok (.iconst 1, 1) := by decide +kernel
theorem d_R_itemAt_3 : decode b_R_itemAt 3 = .ok (.invokevirtual 32, 3) := by decide +kernel
theorem d_R_itemAt_6 : decode b_R_itemAt 6 = .ok (.ifCond .eq 12, 3) := by decide +kernel
theorem d_R_itemAt_9 : decode b_R_itemAt 9 = .ok (.aload_n 0, 1) := by decide +kernel
theorem d_R_itemAt_10 : decode b_R_itemAt 10 = .ok (.getfield 9, 3) := by decide +kernel
theorem d_R_itemAt_13 : decode b_R_itemAt 13 = .ok (.iload_n 1, 1) := by decide +kernel
theorem d_R_itemAt_14 : decode b_R_itemAt 14 = .ok (.iaload, 1) := by decide +kernel
theorem d_R_itemAt_15 : decode b_R_itemAt 15 = .ok (.goto 4, 3) := by decide +kernel
theorem d_R_itemAt_18 : decode b_R_itemAt 18 = .ok (.iconst 0, 1) := by decide +kernel
theorem d_R_itemAt_19 : decode b_R_itemAt 19 = .ok (.ireturn, 1) := by decide +kernel
theorem d_R_lay_0 : decode b_R_lay 0 = .ok (.aload_n 0, 1) := by decide +kernel
theorem d_R_lay_1 : decode b_R_lay 1 = .ok (.getfield 9, 3) := by decide +kernel
theorem d_R_lay_4 : decode b_R_lay 4 = .ok (.iconst 0, 1) := by decide +kernel
theorem d_R_lay_5 : decode b_R_lay 5 = .ok (.invokestatic 19, 3) := by decide +kernel
theorem d_R_lay_8 : decode b_R_lay 8 = .ok (.aload_n 0, 1) := by decide +kernel
theorem d_R_lay_9 : decode b_R_lay 9 = .ok (.iconst 0, 1) := by decide +kernel
theorem d_R_lay_10 : decode b_R_lay 10 = .ok (.putfield 15, 3) := by decide +kernel
theorem d_R_lay_13 : decode b_R_lay 13 = .ok (.aload_n 0, 1) := by decide +kernel
theorem d_R_lay_14 : decode b_R_lay 14 = .ok (.iload_n 1, 1) := by decide +kernel
theorem d_R_lay_15 : decode b_R_lay 15 = .ok (.putfield 25, 3) := by decide +kernel
theorem d_R_lay_18 : decode b_R_lay 18 = .ok (.aload_n 0, 1) := by decide +kernel
theorem d_R_lay_19 : decode b_R_lay 19 = .ok (.iload_n 2, 1) := by decide +kernel
theorem d_R_lay_20 : decode b_R_lay 20 = .ok (.putfield 29, 3) := by decide +kernel
theorem d_R_lay_23 : decode b_R_lay 23 = .ok (.return_, 1) := by decide +kernel
theorem d_R_put_0 : decode b_R_put 0 = .ok (.aload_n 0, 1) := by decide +kernel
theorem d_R_put_1 : decode b_R_put 1 = .ok (.getfield 25, 3) := by decide +kernel
theorem d_R_put_4 : decode b_R_put 4 = .ok (.ifCond .ne 8, 3) := by decide +kernel
theorem d_R_put_7 : decode b_R_put 7 = .ok (.iload_n 2, 1) := by decide +kernel
theorem d_R_put_8 : decode b_R_put 8 = .ok (.i2b, 1) := by decide +kernel
theorem d_R_put_9 : decode b_R_put 9 = .ok (.goto 17, 3) := by decide +kernel
theorem d_R_put_12 : decode b_R_put 12 = .ok (.aload_n 0, 1) := by decide +kernel
theorem d_R_put_13 : decode b_R_put 13 = .ok (.getfield 25, 3) := by decide +kernel
theorem d_R_put_16 : decode b_R_put 16 = .ok (.iconst 1, 1) := by decide +kernel
theorem d_R_put_17 : decode b_R_put 17 = .ok (.if_icmp .ne 8, 3) := by decide +kernel
theorem d_R_put_20 : decode b_R_put 20 = .ok (.iload_n 2, 1) := by decide +kernel
theorem d_R_put_21 : decode b_R_put 21 = .ok (.i2s, 1) := by decide +kernel
theorem d_R_put_22 : decode b_R_put 22 = .ok (.goto 4, 3) := by decide +kernel
theorem d_R_put_25 : decode b_R_put 25 = .ok (.iload_n 2, 1) := by decide +kernel
theorem d_R_put_26 : decode b_R_put 26 = .ok (.istore_n 3, 1) := by decide +kernel
theorem d_R_put_27 : decode b_R_put 27 = .ok (.aload_n 0, 1) := by decide +kernel
theorem d_R_put_28 : decode b_R_put 28 = .ok (.iload_n 1, 1) := by decide +kernel
theorem d_R_put_29 : decode b_R_put 29 = .ok (.iconst 1, 1) := by decide +kernel
theorem d_R_put_30 : decode b_R_put 30 = .ok (.invokevirtual 32, 3) := by decide +kernel
theorem d_R_put_33 : decode b_R_put 33 = .ok (.ifCond .eq 10, 3) := by decide +kernel
theorem d_R_put_36 : decode b_R_put 36 = .ok (.aload_n 0, 1) := by decide +kernel
theorem d_R_put_37 : decode b_R_put 37 = .ok (.getfield 9, 3) := by decide +kernel
theorem d_R_put_40 : decode b_R_put 40 = .ok (.iload_n 1, 1) := by decide +kernel
theorem d_R_put_41 : decode b_R_put 41 = .ok (.iload_n 3, 1) := by decide +kernel
theorem d_R_put_42 : decode b_R_put 42 = .ok (.iastore, 1) := by decide +kernel
theorem d_R_put_43 : decode b_R_put 43 = .ok (.iload_n 3, 1) := by decide +kernel
theorem d_R_put_44 : decode b_R_put 44 = .ok (.ireturn, 1) := by decide +kernel
theorem d_T_init_0 : decode b_T_init 0 = .ok (.aload_n 0, 1) := by decide +kernel
theorem d_T_init_1 : decode b_T_init 1 = .ok (.invokespecial 3, 3) := by decide +kernel
theorem d_T_init_4 : decode b_T_init 4 = .ok (.aload_n 0, 1) := by decide +kernel
theorem d_T_init_5 : decode b_T_init 5 = .ok (.bipush 16, 2) := by decide +kernel
theorem d_T_init_7 : decode b_T_init 7 = .ok (.newarray .int, 2) := by decide +kernel
theorem d_T_init_9 : decode b_T_init 9 = .ok (.putfield 9, 3) := by decide +kernel
theorem d_T_init_12 : decode b_T_init 12 = .ok (.return_, 1) := by decide +kernel
theorem d_T_leave_0 : decode b_T_leave 0 = .ok (.aload_n 0, 1) := by decide +kernel
theorem d_T_leave_1 : decode b_T_leave 1 = .ok (.getfield 15, 3) := by decide +kernel
theorem d_T_leave_4 : decode b_T_leave 4 = .ok (.aload_n 0, 1) := by decide +kernel
theorem d_T_leave_5 : decode b_T_leave 5 = .ok (.getfield 9, 3) := by decide +kernel
theorem d_T_leave_8 : decode b_T_leave 8 = .ok (.arraylength, 1) := by decide +kernel
theorem d_T_leave_9 : decode b_T_leave 9 = .ok (.if_icmp .ge 23, 3) := by decide +kernel
theorem d_T_leave_12 : decode b_T_leave 12 = .ok (.aload_n 0, 1) := by decide +kernel
theorem d_T_leave_13 : decode b_T_leave 13 = .ok (.getfield 9, 3) := by decide +kernel
theorem d_T_leave_16 : decode b_T_leave 16 = .ok (.aload_n 0, 1) := by decide +kernel
theorem d_T_leave_17 : decode b_T_leave 17 = .ok (.getfield 15, 3) := by decide +kernel
theorem d_T_leave_20 : decode b_T_leave 20 = .ok (.iload_n 1, 1) := by decide +kernel
theorem d_T_leave_21 : decode b_T_leave 21 = .ok (.iastore, 1) := by decide +kernel
theorem d_T_leave_22 : decode b_T_leave 22 = .ok (.aload_n 0, 1) := by decide +kernel
theorem d_T_leave_23 : decode b_T_leave 23 = .ok (.dup, 1) := by decide +kernel
theorem d_T_leave_24 : decode b_T_leave 24 = .ok (.getfield 15, 3) := by decide +kernel
theorem d_T_leave_27 : decode b_T_leave 27 = .ok (.iconst 1, 1) := by decide +kernel
theorem d_T_leave_28 : decode b_T_leave 28 = .ok (.iadd, 1) := by decide +kernel
theorem d_T_leave_29 : decode b_T_leave 29 = .ok (.putfield 15, 3) := by decide +kernel
theorem d_T_leave_32 : decode b_T_leave 32 = .ok (.return_, 1) := by decide +kernel
theorem d_W_law_0 : decode code 0 = .ok (.new 7, 3) := by decide +kernel
theorem d_W_law_3 : decode code 3 = .ok (.dup, 1) := by decide +kernel
theorem d_W_law_4 : decode code 4 = .ok (.invokespecial 9, 3) := by decide +kernel
theorem d_W_law_7 : decode code 7 = .ok (.astore_n 1, 1) := by decide +kernel
theorem d_W_law_8 : decode code 8 = .ok (.new 10, 3) := by decide +kernel
theorem d_W_law_11 : decode code 11 = .ok (.dup, 1) := by decide +kernel
theorem d_W_law_12 : decode code 12 = .ok (.invokespecial 12, 3) := by decide +kernel
theorem d_W_law_15 : decode code 15 = .ok (.astore_n 2, 1) := by decide +kernel
theorem d_W_law_16 : decode code 16 = .ok (.iconst 0, 1) := by decide +kernel
theorem d_W_law_17 : decode code 17 = .ok (.istore_n 3, 1) := by decide +kernel
theorem d_W_law_18 : decode code 18 = .ok (.iload_n 3, 1) := by decide +kernel
theorem d_W_law_19 : decode code 19 = .ok (.aload_n 0, 1) := by decide +kernel
theorem d_W_law_20 : decode code 20 = .ok (.arraylength, 1) := by decide +kernel
theorem d_W_law_21 : decode code 21 = .ok (.bipush 6, 2) := by decide +kernel
theorem d_W_law_23 : decode code 23 = .ok (.isub, 1) := by decide +kernel
theorem d_W_law_24 : decode code 24 = .ok (.if_icmp .gt 1114, 3) := by decide +kernel
theorem d_W_law_27 : decode code 27 = .ok (.aload_n 0, 1) := by decide +kernel
theorem d_W_law_28 : decode code 28 = .ok (.iload_n 3, 1) := by decide +kernel
theorem d_W_law_29 : decode code 29 = .ok (.iaload, 1) := by decide +kernel
theorem d_W_law_30 : decode code 30 = .ok (.bipush 31, 2) := by decide +kernel
theorem d_W_law_32 : decode code 32 = .ok (.iand, 1) := by decide +kernel
theorem d_W_law_33 : decode code 33 = .ok (.tableswitch 1099 0 31 #[143, 186, 229, 292, 315, 338, 351, 364, 387, 410, 433, 466, 479, 512, 535, 558, 581, 604, 637, 670, 713, 776, 819, 862, 905, 928, 951, 974, 1007, 1040, 1063, 1086], 143) := by decide +kernel
theorem d_W_law_176 : decode code 176 = .ok (.aload_n 1, 1) := by decide +kernel
theorem d_W_law_177 : decode code 177 = .ok (.aload_n 0, 1) := by decide +kernel
theorem d_W_law_178 : decode code 178 = .ok (.iload_n 3, 1) := by decide +kernel
theorem d_W_law_179 : decode code 179 = .ok (.iconst 1, 1) := by decide +kernel
theorem d_W_law_180 : decode code 180 = .ok (.iadd, 1) := by decide +kernel
theorem d_W_law_181 : decode code 181 = .ok (.iaload, 1) := by decide +kernel
theorem d_W_law_182 : decode code 182 = .ok (.aload_n 0, 1) := by decide +kernel
theorem d_W_law_183 : decode code 183 = .ok (.iload_n 3, 1) := by decide +kernel
theorem d_W_law_184 : decode code 184 = .ok (.iconst 2, 1) := by decide +kernel
theorem d_W_law_185 : decode code 185 = .ok (.iadd, 1) := by decide +kernel
theorem d_W_law_186 : decode code 186 = .ok (.iaload, 1) := by decide +kernel
theorem d_W_law_187 : decode code 187 = .ok (.aload_n 0, 1) := by decide +kernel
theorem d_W_law_188 : decode code 188 = .ok (.iload_n 3, 1) := by decide +kernel
theorem d_W_law_189 : decode code 189 = .ok (.iconst 3, 1) := by decide +kernel
theorem d_W_law_190 : decode code 190 = .ok (.iadd, 1) := by decide +kernel
theorem d_W_law_191 : decode code 191 = .ok (.iaload, 1) := by decide +kernel
theorem d_W_law_192 : decode code 192 = .ok (.invokevirtual 13, 3) := by decide +kernel
theorem d_W_law_195 : decode code 195 = .ok (.aload_n 2, 1) := by decide +kernel
theorem d_W_law_196 : decode code 196 = .ok (.aload_n 0, 1) := by decide +kernel
theorem d_W_law_197 : decode code 197 = .ok (.iload_n 3, 1) := by decide +kernel
theorem d_W_law_198 : decode code 198 = .ok (.iconst 1, 1) := by decide +kernel
theorem d_W_law_199 : decode code 199 = .ok (.iadd, 1) := by decide +kernel
theorem d_W_law_200 : decode code 200 = .ok (.iaload, 1) := by decide +kernel
theorem d_W_law_201 : decode code 201 = .ok (.aload_n 0, 1) := by decide +kernel
theorem d_W_law_202 : decode code 202 = .ok (.iload_n 3, 1) := by decide +kernel
theorem d_W_law_203 : decode code 203 = .ok (.iconst 2, 1) := by decide +kernel
theorem d_W_law_204 : decode code 204 = .ok (.iadd, 1) := by decide +kernel
theorem d_W_law_205 : decode code 205 = .ok (.iaload, 1) := by decide +kernel
theorem d_W_law_206 : decode code 206 = .ok (.aload_n 0, 1) := by decide +kernel
theorem d_W_law_207 : decode code 207 = .ok (.iload_n 3, 1) := by decide +kernel
theorem d_W_law_208 : decode code 208 = .ok (.iconst 3, 1) := by decide +kernel
theorem d_W_law_209 : decode code 209 = .ok (.iadd, 1) := by decide +kernel
theorem d_W_law_210 : decode code 210 = .ok (.iaload, 1) := by decide +kernel
theorem d_W_law_211 : decode code 211 = .ok (.invokevirtual 17, 3) := by decide +kernel
theorem d_W_law_214 : decode code 214 = .ok (.if_icmp .eq 918, 3) := by decide +kernel
theorem d_W_law_217 : decode code 217 = .ok (.iconst 0, 1) := by decide +kernel
theorem d_W_law_218 : decode code 218 = .ok (.ireturn, 1) := by decide +kernel
theorem d_W_law_219 : decode code 219 = .ok (.aload_n 1, 1) := by decide +kernel
theorem d_W_law_220 : decode code 220 = .ok (.aload_n 0, 1) := by decide +kernel
theorem d_W_law_221 : decode code 221 = .ok (.iload_n 3, 1) := by decide +kernel
theorem d_W_law_222 : decode code 222 = .ok (.iconst 1, 1) := by decide +kernel
theorem d_W_law_223 : decode code 223 = .ok (.iadd, 1) := by decide +kernel
theorem d_W_law_224 : decode code 224 = .ok (.iaload, 1) := by decide +kernel
theorem d_W_law_225 : decode code 225 = .ok (.aload_n 0, 1) := by decide +kernel
theorem d_W_law_226 : decode code 226 = .ok (.iload_n 3, 1) := by decide +kernel
theorem d_W_law_227 : decode code 227 = .ok (.iconst 2, 1) := by decide +kernel
theorem d_W_law_228 : decode code 228 = .ok (.iadd, 1) := by decide +kernel
theorem d_W_law_229 : decode code 229 = .ok (.iaload, 1) := by decide +kernel
theorem d_W_law_230 : decode code 230 = .ok (.aload_n 0, 1) := by decide +kernel
theorem d_W_law_231 : decode code 231 = .ok (.iload_n 3, 1) := by decide +kernel
theorem d_W_law_232 : decode code 232 = .ok (.iconst 3, 1) := by decide +kernel
theorem d_W_law_233 : decode code 233 = .ok (.iadd, 1) := by decide +kernel
theorem d_W_law_234 : decode code 234 = .ok (.iaload, 1) := by decide +kernel
theorem d_W_law_235 : decode code 235 = .ok (.invokevirtual 18, 3) := by decide +kernel
theorem d_W_law_238 : decode code 238 = .ok (.aload_n 2, 1) := by decide +kernel
theorem d_W_law_239 : decode code 239 = .ok (.aload_n 0, 1) := by decide +kernel
theorem d_W_law_240 : decode code 240 = .ok (.iload_n 3, 1) := by decide +kernel
theorem d_W_law_241 : decode code 241 = .ok (.iconst 1, 1) := by decide +kernel
theorem d_W_law_242 : decode code 242 = .ok (.iadd, 1) := by decide +kernel
theorem d_W_law_243 : decode code 243 = .ok (.iaload, 1) := by decide +kernel
theorem d_W_law_244 : decode code 244 = .ok (.aload_n 0, 1) := by decide +kernel
theorem d_W_law_245 : decode code 245 = .ok (.iload_n 3, 1) := by decide +kernel
theorem d_W_law_246 : decode code 246 = .ok (.iconst 2, 1) := by decide +kernel
theorem d_W_law_247 : decode code 247 = .ok (.iadd, 1) := by decide +kernel
theorem d_W_law_248 : decode code 248 = .ok (.iaload, 1) := by decide +kernel
theorem d_W_law_249 : decode code 249 = .ok (.aload_n 0, 1) := by decide +kernel
theorem d_W_law_250 : decode code 250 = .ok (.iload_n 3, 1) := by decide +kernel
theorem d_W_law_251 : decode code 251 = .ok (.iconst 3, 1) := by decide +kernel
theorem d_W_law_252 : decode code 252 = .ok (.iadd, 1) := by decide +kernel
theorem d_W_law_253 : decode code 253 = .ok (.iaload, 1) := by decide +kernel
theorem d_W_law_254 : decode code 254 = .ok (.invokevirtual 21, 3) := by decide +kernel
theorem d_W_law_257 : decode code 257 = .ok (.if_icmp .eq 875, 3) := by decide +kernel
theorem d_W_law_260 : decode code 260 = .ok (.iconst 0, 1) := by decide +kernel
theorem d_W_law_261 : decode code 261 = .ok (.ireturn, 1) := by decide +kernel
theorem d_W_law_262 : decode code 262 = .ok (.aload_n 1, 1) := by decide +kernel
theorem d_W_law_263 : decode code 263 = .ok (.aload_n 0, 1) := by decide +kernel
theorem d_W_law_264 : decode code 264 = .ok (.iload_n 3, 1) := by decide +kernel
theorem d_W_law_265 : decode code 265 = .ok (.iconst 1, 1) := by decide +kernel
theorem d_W_law_266 : decode code 266 = .ok (.iadd, 1) := by decide +kernel
theorem d_W_law_267 : decode code 267 = .ok (.iaload, 1) := by decide +kernel
theorem d_W_law_268 : decode code 268 = .ok (.aload_n 0, 1) := by decide +kernel
theorem d_W_law_269 : decode code 269 = .ok (.iload_n 3, 1) := by decide +kernel
theorem d_W_law_270 : decode code 270 = .ok (.iconst 2, 1) := by decide +kernel
theorem d_W_law_271 : decode code 271 = .ok (.iadd, 1) := by decide +kernel
theorem d_W_law_272 : decode code 272 = .ok (.iaload, 1) := by decide +kernel
theorem d_W_law_273 : decode code 273 = .ok (.aload_n 0, 1) := by decide +kernel
theorem d_W_law_274 : decode code 274 = .ok (.iload_n 3, 1) := by decide +kernel
theorem d_W_law_275 : decode code 275 = .ok (.iconst 3, 1) := by decide +kernel
theorem d_W_law_276 : decode code 276 = .ok (.iadd, 1) := by decide +kernel
theorem d_W_law_277 : decode code 277 = .ok (.iaload, 1) := by decide +kernel
theorem d_W_law_278 : decode code 278 = .ok (.aload_n 0, 1) := by decide +kernel
theorem d_W_law_279 : decode code 279 = .ok (.iload_n 3, 1) := by decide +kernel
theorem d_W_law_280 : decode code 280 = .ok (.iconst 4, 1) := by decide +kernel
theorem d_W_law_281 : decode code 281 = .ok (.iadd, 1) := by decide +kernel
theorem d_W_law_282 : decode code 282 = .ok (.iaload, 1) := by decide +kernel
theorem d_W_law_283 : decode code 283 = .ok (.aload_n 0, 1) := by decide +kernel
theorem d_W_law_284 : decode code 284 = .ok (.iload_n 3, 1) := by decide +kernel
theorem d_W_law_285 : decode code 285 = .ok (.iconst 5, 1) := by decide +kernel
theorem d_W_law_286 : decode code 286 = .ok (.iadd, 1) := by decide +kernel
theorem d_W_law_287 : decode code 287 = .ok (.iaload, 1) := by decide +kernel
theorem d_W_law_288 : decode code 288 = .ok (.invokevirtual 22, 3) := by decide +kernel
theorem d_W_law_291 : decode code 291 = .ok (.aload_n 2, 1) := by decide +kernel
theorem d_W_law_292 : decode code 292 = .ok (.aload_n 0, 1) := by decide +kernel
theorem d_W_law_293 : decode code 293 = .ok (.iload_n 3, 1) := by decide +kernel
theorem d_W_law_294 : decode code 294 = .ok (.iconst 1, 1) := by decide +kernel
theorem d_W_law_295 : decode code 295 = .ok (.iadd, 1) := by decide +kernel
theorem d_W_law_296 : decode code 296 = .ok (.iaload, 1) := by decide +kernel
theorem d_W_law_297 : decode code 297 = .ok (.aload_n 0, 1) := by decide +kernel
theorem d_W_law_298 : decode code 298 = .ok (.iload_n 3, 1) := by decide +kernel
theorem d_W_law_299 : decode code 299 = .ok (.iconst 2, 1) := by decide +kernel
theorem d_W_law_300 : decode code 300 = .ok (.iadd, 1) := by decide +kernel
theorem d_W_law_301 : decode code 301 = .ok (.iaload, 1) := by decide +kernel
theorem d_W_law_302 : decode code 302 = .ok (.aload_n 0, 1) := by decide +kernel
theorem d_W_law_303 : decode code 303 = .ok (.iload_n 3, 1) := by decide +kernel
theorem d_W_law_304 : decode code 304 = .ok (.iconst 3, 1) := by decide +kernel
theorem d_W_law_305 : decode code 305 = .ok (.iadd, 1) := by decide +kernel
theorem d_W_law_306 : decode code 306 = .ok (.iaload, 1) := by decide +kernel
theorem d_W_law_307 : decode code 307 = .ok (.aload_n 0, 1) := by decide +kernel
theorem d_W_law_308 : decode code 308 = .ok (.iload_n 3, 1) := by decide +kernel
theorem d_W_law_309 : decode code 309 = .ok (.iconst 4, 1) := by decide +kernel
theorem d_W_law_310 : decode code 310 = .ok (.iadd, 1) := by decide +kernel
theorem d_W_law_311 : decode code 311 = .ok (.iaload, 1) := by decide +kernel
theorem d_W_law_312 : decode code 312 = .ok (.aload_n 0, 1) := by decide +kernel
theorem d_W_law_313 : decode code 313 = .ok (.iload_n 3, 1) := by decide +kernel
theorem d_W_law_314 : decode code 314 = .ok (.iconst 5, 1) := by decide +kernel
theorem d_W_law_315 : decode code 315 = .ok (.iadd, 1) := by decide +kernel
theorem d_W_law_316 : decode code 316 = .ok (.iaload, 1) := by decide +kernel
theorem d_W_law_317 : decode code 317 = .ok (.invokevirtual 26, 3) := by decide +kernel
theorem d_W_law_320 : decode code 320 = .ok (.if_icmp .eq 812, 3) := by decide +kernel
theorem d_W_law_323 : decode code 323 = .ok (.iconst 0, 1) := by decide +kernel
theorem d_W_law_324 : decode code 324 = .ok (.ireturn, 1) := by decide +kernel
theorem d_W_law_325 : decode code 325 = .ok (.aload_n 1, 1) := by decide +kernel
theorem d_W_law_326 : decode code 326 = .ok (.aload_n 0, 1) := by decide +kernel
theorem d_W_law_327 : decode code 327 = .ok (.iload_n 3, 1) := by decide +kernel
theorem d_W_law_328 : decode code 328 = .ok (.iconst 1, 1) := by decide +kernel
theorem d_W_law_329 : decode code 329 = .ok (.iadd, 1) := by decide +kernel
theorem d_W_law_330 : decode code 330 = .ok (.iaload, 1) := by decide +kernel
theorem d_W_law_331 : decode code 331 = .ok (.invokevirtual 27, 3) := by decide +kernel
theorem d_W_law_334 : decode code 334 = .ok (.aload_n 2, 1) := by decide +kernel
theorem d_W_law_335 : decode code 335 = .ok (.aload_n 0, 1) := by decide +kernel
theorem d_W_law_336 : decode code 336 = .ok (.iload_n 3, 1) := by decide +kernel
theorem d_W_law_337 : decode code 337 = .ok (.iconst 1, 1) := by decide +kernel
theorem d_W_law_338 : decode code 338 = .ok (.iadd, 1) := by decide +kernel
theorem d_W_law_339 : decode code 339 = .ok (.iaload, 1) := by decide +kernel
theorem d_W_law_340 : decode code 340 = .ok (.invokevirtual 31, 3) := by decide +kernel
theorem d_W_law_343 : decode code 343 = .ok (.if_icmp .eq 789, 3) := by decide +kernel
theorem d_W_law_346 : decode code 346 = .ok (.iconst 0, 1) := by decide +kernel
theorem d_W_law_347 : decode code 347 = .ok (.ireturn, 1) := by decide +kernel
theorem d_W_law_348 : decode code 348 = .ok (.aload_n 1, 1) := by decide +kernel
theorem d_W_law_349 : decode code 349 = .ok (.aload_n 0, 1) := by decide +kernel
theorem d_W_law_350 : decode code 350 = .ok (.iload_n 3, 1) := by decide +kernel
theorem d_W_law_351 : decode code 351 = .ok (.iconst 1, 1) := by decide +kernel
theorem d_W_law_352 : decode code 352 = .ok (.iadd, 1) := by decide +kernel
theorem d_W_law_353 : decode code 353 = .ok (.iaload, 1) := by decide +kernel
theorem d_W_law_354 : decode code 354 = .ok (.invokevirtual 32, 3) := by decide +kernel
theorem d_W_law_357 : decode code 357 = .ok (.aload_n 2, 1) := by decide +kernel
theorem d_W_law_358 : decode code 358 = .ok (.aload_n 0, 1) := by decide +kernel
theorem d_W_law_359 : decode code 359 = .ok (.iload_n 3, 1) := by decide +kernel
theorem d_W_law_360 : decode code 360 = .ok (.iconst 1, 1) := by decide +kernel
theorem d_W_law_361 : decode code 361 = .ok (.iadd, 1) := by decide +kernel
theorem d_W_law_362 : decode code 362 = .ok (.iaload, 1) := by decide +kernel
theorem d_W_law_363 : decode code 363 = .ok (.invokevirtual 35, 3) := by decide +kernel
theorem d_W_law_366 : decode code 366 = .ok (.if_icmp .eq 766, 3) := by decide +kernel
theorem d_W_law_369 : decode code 369 = .ok (.iconst 0, 1) := by decide +kernel
theorem d_W_law_370 : decode code 370 = .ok (.ireturn, 1) := by decide +kernel
theorem d_W_law_371 : decode code 371 = .ok (.aload_n 1, 1) := by decide +kernel
theorem d_W_law_372 : decode code 372 = .ok (.invokevirtual 36, 3) := by decide +kernel
theorem d_W_law_375 : decode code 375 = .ok (.aload_n 2, 1) := by decide +kernel
theorem d_W_law_376 : decode code 376 = .ok (.invokevirtual 40, 3) := by decide +kernel
theorem d_W_law_379 : decode code 379 = .ok (.if_icmp .eq 753, 3) := by decide +kernel
theorem d_W_law_382 : decode code 382 = .ok (.iconst 0, 1) := by decide +kernel
theorem d_W_law_383 : decode code 383 = .ok (.ireturn, 1) := by decide +kernel
theorem d_W_law_384 : decode code 384 = .ok (.aload_n 1, 1) := by decide +kernel
theorem d_W_law_385 : decode code 385 = .ok (.invokevirtual 41, 3) := by decide +kernel
theorem d_W_law_388 : decode code 388 = .ok (.aload_n 2, 1) := by decide +kernel
theorem d_W_law_389 : decode code 389 = .ok (.invokevirtual 44, 3) := by decide +kernel
theorem d_W_law_392 : decode code 392 = .ok (.if_icmp .eq 740, 3) := by decide +kernel
theorem d_W_law_395 : decode code 395 = .ok (.iconst 0, 1) := by decide +kernel
theorem d_W_law_396 : decode code 396 = .ok (.ireturn, 1) := by decide +kernel
theorem d_W_law_397 : decode code 397 = .ok (.aload_n 1, 1) := by decide +kernel
theorem d_W_law_398 : decode code 398 = .ok (.aload_n 0, 1) := by decide +kernel
theorem d_W_law_399 : decode code 399 = .ok (.iload_n 3, 1) := by decide +kernel
theorem d_W_law_400 : decode code 400 = .ok (.iconst 1, 1) := by decide +kernel
theorem d_W_law_401 : decode code 401 = .ok (.iadd, 1) := by decide +kernel
theorem d_W_law_402 : decode code 402 = .ok (.iaload, 1) := by decide +kernel
theorem d_W_law_403 : decode code 403 = .ok (.invokevirtual 45, 3) := by decide +kernel
theorem d_W_law_406 : decode code 406 = .ok (.aload_n 2, 1) := by decide +kernel
theorem d_W_law_407 : decode code 407 = .ok (.aload_n 0, 1) := by decide +kernel
theorem d_W_law_408 : decode code 408 = .ok (.iload_n 3, 1) := by decide +kernel
theorem d_W_law_409 : decode code 409 = .ok (.iconst 1, 1) := by decide +kernel
theorem d_W_law_410 : decode code 410 = .ok (.iadd, 1) := by decide +kernel
theorem d_W_law_411 : decode code 411 = .ok (.iaload, 1) := by decide +kernel
theorem d_W_law_412 : decode code 412 = .ok (.invokevirtual 48, 3) := by decide +kernel
theorem d_W_law_415 : decode code 415 = .ok (.if_icmp .eq 717, 3) := by decide +kernel
theorem d_W_law_418 : decode code 418 = .ok (.iconst 0, 1) := by decide +kernel
theorem d_W_law_419 : decode code 419 = .ok (.ireturn, 1) := by decide +kernel
theorem d_W_law_420 : decode code 420 = .ok (.aload_n 1, 1) := by decide +kernel
theorem d_W_law_421 : decode code 421 = .ok (.aload_n 0, 1) := by decide +kernel
theorem d_W_law_422 : decode code 422 = .ok (.iload_n 3, 1) := by decide +kernel
theorem d_W_law_423 : decode code 423 = .ok (.iconst 1, 1) := by decide +kernel
theorem d_W_law_424 : decode code 424 = .ok (.iadd, 1) := by decide +kernel
theorem d_W_law_425 : decode code 425 = .ok (.iaload, 1) := by decide +kernel
theorem d_W_law_426 : decode code 426 = .ok (.invokevirtual 49, 3) := by decide +kernel
theorem d_W_law_429 : decode code 429 = .ok (.aload_n 2, 1) := by decide +kernel
theorem d_W_law_430 : decode code 430 = .ok (.aload_n 0, 1) := by decide +kernel
theorem d_W_law_431 : decode code 431 = .ok (.iload_n 3, 1) := by decide +kernel
theorem d_W_law_432 : decode code 432 = .ok (.iconst 1, 1) := by decide +kernel
theorem d_W_law_433 : decode code 433 = .ok (.iadd, 1) := by decide +kernel
theorem d_W_law_434 : decode code 434 = .ok (.iaload, 1) := by decide +kernel
theorem d_W_law_435 : decode code 435 = .ok (.invokevirtual 52, 3) := by decide +kernel
theorem d_W_law_438 : decode code 438 = .ok (.if_icmp .eq 694, 3) := by decide +kernel
theorem d_W_law_441 : decode code 441 = .ok (.iconst 0, 1) := by decide +kernel
theorem d_W_law_442 : decode code 442 = .ok (.ireturn, 1) := by decide +kernel
theorem d_W_law_443 : decode code 443 = .ok (.aload_n 1, 1) := by decide +kernel
theorem d_W_law_444 : decode code 444 = .ok (.aload_n 0, 1) := by decide +kernel
theorem d_W_law_445 : decode code 445 = .ok (.iload_n 3, 1) := by decide +kernel
theorem d_W_law_446 : decode code 446 = .ok (.iconst 1, 1) := by decide +kernel
theorem d_W_law_447 : decode code 447 = .ok (.iadd, 1) := by decide +kernel
theorem d_W_law_448 : decode code 448 = .ok (.iaload, 1) := by decide +kernel
theorem d_W_law_449 : decode code 449 = .ok (.invokevirtual 53, 3) := by decide +kernel
theorem d_W_law_452 : decode code 452 = .ok (.aload_n 2, 1) := by decide +kernel
theorem d_W_law_453 : decode code 453 = .ok (.aload_n 0, 1) := by decide +kernel
theorem d_W_law_454 : decode code 454 = .ok (.iload_n 3, 1) := by decide +kernel
theorem d_W_law_455 : decode code 455 = .ok (.iconst 1, 1) := by decide +kernel
theorem d_W_law_456 : decode code 456 = .ok (.iadd, 1) := by decide +kernel
theorem d_W_law_457 : decode code 457 = .ok (.iaload, 1) := by decide +kernel
theorem d_W_law_458 : decode code 458 = .ok (.invokevirtual 56, 3) := by decide +kernel
theorem d_W_law_461 : decode code 461 = .ok (.if_icmp .eq 671, 3) := by decide +kernel
theorem d_W_law_464 : decode code 464 = .ok (.iconst 0, 1) := by decide +kernel
theorem d_W_law_465 : decode code 465 = .ok (.ireturn, 1) := by decide +kernel
theorem d_W_law_466 : decode code 466 = .ok (.aload_n 1, 1) := by decide +kernel
theorem d_W_law_467 : decode code 467 = .ok (.aload_n 0, 1) := by decide +kernel
theorem d_W_law_468 : decode code 468 = .ok (.iload_n 3, 1) := by decide +kernel
theorem d_W_law_469 : decode code 469 = .ok (.iconst 1, 1) := by decide +kernel
theorem d_W_law_470 : decode code 470 = .ok (.iadd, 1) := by decide +kernel
theorem d_W_law_471 : decode code 471 = .ok (.iaload, 1) := by decide +kernel
theorem d_W_law_472 : decode code 472 = .ok (.aload_n 0, 1) := by decide +kernel
theorem d_W_law_473 : decode code 473 = .ok (.iload_n 3, 1) := by decide +kernel
theorem d_W_law_474 : decode code 474 = .ok (.iconst 2, 1) := by decide +kernel
theorem d_W_law_475 : decode code 475 = .ok (.iadd, 1) := by decide +kernel
theorem d_W_law_476 : decode code 476 = .ok (.iaload, 1) := by decide +kernel
theorem d_W_law_477 : decode code 477 = .ok (.invokevirtual 57, 3) := by decide +kernel
theorem d_W_law_480 : decode code 480 = .ok (.aload_n 2, 1) := by decide +kernel
theorem d_W_law_481 : decode code 481 = .ok (.aload_n 0, 1) := by decide +kernel
theorem d_W_law_482 : decode code 482 = .ok (.iload_n 3, 1) := by decide +kernel
theorem d_W_law_483 : decode code 483 = .ok (.iconst 1, 1) := by decide +kernel
theorem d_W_law_484 : decode code 484 = .ok (.iadd, 1) := by decide +kernel
theorem d_W_law_485 : decode code 485 = .ok (.iaload, 1) := by decide +kernel
theorem d_W_law_486 : decode code 486 = .ok (.aload_n 0, 1) := by decide +kernel
theorem d_W_law_487 : decode code 487 = .ok (.iload_n 3, 1) := by decide +kernel
theorem d_W_law_488 : decode code 488 = .ok (.iconst 2, 1) := by decide +kernel
theorem d_W_law_489 : decode code 489 = .ok (.iadd, 1) := by decide +kernel
theorem d_W_law_490 : decode code 490 = .ok (.iaload, 1) := by decide +kernel
theorem d_W_law_491 : decode code 491 = .ok (.invokevirtual 61, 3) := by decide +kernel
theorem d_W_law_494 : decode code 494 = .ok (.if_icmp .eq 638, 3) := by decide +kernel
theorem d_W_law_497 : decode code 497 = .ok (.iconst 0, 1) := by decide +kernel
theorem d_W_law_498 : decode code 498 = .ok (.ireturn, 1) := by decide +kernel
theorem d_W_law_499 : decode code 499 = .ok (.aload_n 1, 1) := by decide +kernel
theorem d_W_law_500 : decode code 500 = .ok (.invokevirtual 62, 3) := by decide +kernel
theorem d_W_law_503 : decode code 503 = .ok (.aload_n 2, 1) := by decide +kernel
theorem d_W_law_504 : decode code 504 = .ok (.invokevirtual 65, 3) := by decide +kernel
theorem d_W_law_507 : decode code 507 = .ok (.if_icmp .eq 625, 3) := by decide +kernel
theorem d_W_law_510 : decode code 510 = .ok (.iconst 0, 1) := by decide +kernel
theorem d_W_law_511 : decode code 511 = .ok (.ireturn, 1) := by decide +kernel
theorem d_W_law_512 : decode code 512 = .ok (.aload_n 1, 1) := by decide +kernel
theorem d_W_law_513 : decode code 513 = .ok (.aload_n 0, 1) := by decide +kernel
theorem d_W_law_514 : decode code 514 = .ok (.iload_n 3, 1) := by decide +kernel
theorem d_W_law_515 : decode code 515 = .ok (.iconst 1, 1) := by decide +kernel
theorem d_W_law_516 : decode code 516 = .ok (.iadd, 1) := by decide +kernel
theorem d_W_law_517 : decode code 517 = .ok (.iaload, 1) := by decide +kernel
theorem d_W_law_518 : decode code 518 = .ok (.aload_n 0, 1) := by decide +kernel
theorem d_W_law_519 : decode code 519 = .ok (.iload_n 3, 1) := by decide +kernel
theorem d_W_law_520 : decode code 520 = .ok (.iconst 2, 1) := by decide +kernel
theorem d_W_law_521 : decode code 521 = .ok (.iadd, 1) := by decide +kernel
theorem d_W_law_522 : decode code 522 = .ok (.iaload, 1) := by decide +kernel
theorem d_W_law_523 : decode code 523 = .ok (.invokevirtual 66, 3) := by decide +kernel
theorem d_W_law_526 : decode code 526 = .ok (.aload_n 2, 1) := by decide +kernel
theorem d_W_law_527 : decode code 527 = .ok (.aload_n 0, 1) := by decide +kernel
theorem d_W_law_528 : decode code 528 = .ok (.iload_n 3, 1) := by decide +kernel
theorem d_W_law_529 : decode code 529 = .ok (.iconst 1, 1) := by decide +kernel
theorem d_W_law_530 : decode code 530 = .ok (.iadd, 1) := by decide +kernel
theorem d_W_law_531 : decode code 531 = .ok (.iaload, 1) := by decide +kernel
theorem d_W_law_532 : decode code 532 = .ok (.aload_n 0, 1) := by decide +kernel
theorem d_W_law_533 : decode code 533 = .ok (.iload_n 3, 1) := by decide +kernel
theorem d_W_law_534 : decode code 534 = .ok (.iconst 2, 1) := by decide +kernel
theorem d_W_law_535 : decode code 535 = .ok (.iadd, 1) := by decide +kernel
theorem d_W_law_536 : decode code 536 = .ok (.iaload, 1) := by decide +kernel
theorem d_W_law_537 : decode code 537 = .ok (.invokevirtual 69, 3) := by decide +kernel
theorem d_W_law_540 : decode code 540 = .ok (.if_icmp .eq 592, 3) := by decide +kernel
theorem d_W_law_543 : decode code 543 = .ok (.iconst 0, 1) := by decide +kernel
theorem d_W_law_544 : decode code 544 = .ok (.ireturn, 1) := by decide +kernel
theorem d_W_law_545 : decode code 545 = .ok (.aload_n 1, 1) := by decide +kernel
theorem d_W_law_546 : decode code 546 = .ok (.aload_n 0, 1) := by decide +kernel
theorem d_W_law_547 : decode code 547 = .ok (.iload_n 3, 1) := by decide +kernel
theorem d_W_law_548 : decode code 548 = .ok (.iconst 1, 1) := by decide +kernel
theorem d_W_law_549 : decode code 549 = .ok (.iadd, 1) := by decide +kernel
theorem d_W_law_550 : decode code 550 = .ok (.iaload, 1) := by decide +kernel
theorem d_W_law_551 : decode code 551 = .ok (.invokevirtual 70, 3) := by decide +kernel
theorem d_W_law_554 : decode code 554 = .ok (.aload_n 2, 1) := by decide +kernel
theorem d_W_law_555 : decode code 555 = .ok (.aload_n 0, 1) := by decide +kernel
theorem d_W_law_556 : decode code 556 = .ok (.iload_n 3, 1) := by decide +kernel
theorem d_W_law_557 : decode code 557 = .ok (.iconst 1, 1) := by decide +kernel
theorem d_W_law_558 : decode code 558 = .ok (.iadd, 1) := by decide +kernel
theorem d_W_law_559 : decode code 559 = .ok (.iaload, 1) := by decide +kernel
theorem d_W_law_560 : decode code 560 = .ok (.invokevirtual 73, 3) := by decide +kernel
theorem d_W_law_563 : decode code 563 = .ok (.if_icmp .eq 569, 3) := by decide +kernel
theorem d_W_law_566 : decode code 566 = .ok (.iconst 0, 1) := by decide +kernel
theorem d_W_law_567 : decode code 567 = .ok (.ireturn, 1) := by decide +kernel
theorem d_W_law_568 : decode code 568 = .ok (.aload_n 1, 1) := by decide +kernel
theorem d_W_law_569 : decode code 569 = .ok (.aload_n 0, 1) := by decide +kernel
theorem d_W_law_570 : decode code 570 = .ok (.iload_n 3, 1) := by decide +kernel
theorem d_W_law_571 : decode code 571 = .ok (.iconst 1, 1) := by decide +kernel
theorem d_W_law_572 : decode code 572 = .ok (.iadd, 1) := by decide +kernel
theorem d_W_law_573 : decode code 573 = .ok (.iaload, 1) := by decide +kernel
theorem d_W_law_574 : decode code 574 = .ok (.invokevirtual 74, 3) := by decide +kernel
theorem d_W_law_577 : decode code 577 = .ok (.aload_n 2, 1) := by decide +kernel
theorem d_W_law_578 : decode code 578 = .ok (.aload_n 0, 1) := by decide +kernel
theorem d_W_law_579 : decode code 579 = .ok (.iload_n 3, 1) := by decide +kernel
theorem d_W_law_580 : decode code 580 = .ok (.iconst 1, 1) := by decide +kernel
theorem d_W_law_581 : decode code 581 = .ok (.iadd, 1) := by decide +kernel
theorem d_W_law_582 : decode code 582 = .ok (.iaload, 1) := by decide +kernel
theorem d_W_law_583 : decode code 583 = .ok (.invokevirtual 77, 3) := by decide +kernel
theorem d_W_law_586 : decode code 586 = .ok (.if_icmp .eq 546, 3) := by decide +kernel
theorem d_W_law_589 : decode code 589 = .ok (.iconst 0, 1) := by decide +kernel
theorem d_W_law_590 : decode code 590 = .ok (.ireturn, 1) := by decide +kernel
theorem d_W_law_591 : decode code 591 = .ok (.aload_n 1, 1) := by decide +kernel
theorem d_W_law_592 : decode code 592 = .ok (.aload_n 0, 1) := by decide +kernel
theorem d_W_law_593 : decode code 593 = .ok (.iload_n 3, 1) := by decide +kernel
theorem d_W_law_594 : decode code 594 = .ok (.iconst 1, 1) := by decide +kernel
theorem d_W_law_595 : decode code 595 = .ok (.iadd, 1) := by decide +kernel
theorem d_W_law_596 : decode code 596 = .ok (.iaload, 1) := by decide +kernel
theorem d_W_law_597 : decode code 597 = .ok (.invokevirtual 78, 3) := by decide +kernel
theorem d_W_law_600 : decode code 600 = .ok (.aload_n 2, 1) := by decide +kernel
theorem d_W_law_601 : decode code 601 = .ok (.aload_n 0, 1) := by decide +kernel
theorem d_W_law_602 : decode code 602 = .ok (.iload_n 3, 1) := by decide +kernel
theorem d_W_law_603 : decode code 603 = .ok (.iconst 1, 1) := by decide +kernel
theorem d_W_law_604 : decode code 604 = .ok (.iadd, 1) := by decide +kernel
theorem d_W_law_605 : decode code 605 = .ok (.iaload, 1) := by decide +kernel
theorem d_W_law_606 : decode code 606 = .ok (.invokevirtual 81, 3) := by decide +kernel
theorem d_W_law_609 : decode code 609 = .ok (.if_icmp .eq 523, 3) := by decide +kernel
theorem d_W_law_612 : decode code 612 = .ok (.iconst 0, 1) := by decide +kernel
theorem d_W_law_613 : decode code 613 = .ok (.ireturn, 1) := by decide +kernel
theorem d_W_law_614 : decode code 614 = .ok (.aload_n 1, 1) := by decide +kernel
theorem d_W_law_615 : decode code 615 = .ok (.aload_n 0, 1) := by decide +kernel
theorem d_W_law_616 : decode code 616 = .ok (.iload_n 3, 1) := by decide +kernel
theorem d_W_law_617 : decode code 617 = .ok (.iconst 1, 1) := by decide +kernel
theorem d_W_law_618 : decode code 618 = .ok (.iadd, 1) := by decide +kernel
theorem d_W_law_619 : decode code 619 = .ok (.iaload, 1) := by decide +kernel
theorem d_W_law_620 : decode code 620 = .ok (.invokevirtual 82, 3) := by decide +kernel
theorem d_W_law_623 : decode code 623 = .ok (.aload_n 2, 1) := by decide +kernel
theorem d_W_law_624 : decode code 624 = .ok (.aload_n 0, 1) := by decide +kernel
theorem d_W_law_625 : decode code 625 = .ok (.iload_n 3, 1) := by decide +kernel
theorem d_W_law_626 : decode code 626 = .ok (.iconst 1, 1) := by decide +kernel
theorem d_W_law_627 : decode code 627 = .ok (.iadd, 1) := by decide +kernel
theorem d_W_law_628 : decode code 628 = .ok (.iaload, 1) := by decide +kernel
theorem d_W_law_629 : decode code 629 = .ok (.invokevirtual 85, 3) := by decide +kernel
theorem d_W_law_632 : decode code 632 = .ok (.if_icmp .eq 500, 3) := by decide +kernel
theorem d_W_law_635 : decode code 635 = .ok (.iconst 0, 1) := by decide +kernel
theorem d_W_law_636 : decode code 636 = .ok (.ireturn, 1) := by decide +kernel
theorem d_W_law_637 : decode code 637 = .ok (.aload_n 1, 1) := by decide +kernel
theorem d_W_law_638 : decode code 638 = .ok (.aload_n 0, 1) := by decide +kernel
theorem d_W_law_639 : decode code 639 = .ok (.iload_n 3, 1) := by decide +kernel
theorem d_W_law_640 : decode code 640 = .ok (.iconst 1, 1) := by decide +kernel
theorem d_W_law_641 : decode code 641 = .ok (.iadd, 1) := by decide +kernel
theorem d_W_law_642 : decode code 642 = .ok (.iaload, 1) := by decide +kernel
theorem d_W_law_643 : decode code 643 = .ok (.aload_n 0, 1) := by decide +kernel
theorem d_W_law_644 : decode code 644 = .ok (.iload_n 3, 1) := by decide +kernel
theorem d_W_law_645 : decode code 645 = .ok (.iconst 2, 1) := by decide +kernel
theorem d_W_law_646 : decode code 646 = .ok (.iadd, 1) := by decide +kernel
theorem d_W_law_647 : decode code 647 = .ok (.iaload, 1) := by decide +kernel
theorem d_W_law_648 : decode code 648 = .ok (.invokevirtual 86, 3) := by decide +kernel
theorem d_W_law_651 : decode code 651 = .ok (.aload_n 2, 1) := by decide +kernel
theorem d_W_law_652 : decode code 652 = .ok (.aload_n 0, 1) := by decide +kernel
theorem d_W_law_653 : decode code 653 = .ok (.iload_n 3, 1) := by decide +kernel
theorem d_W_law_654 : decode code 654 = .ok (.iconst 1, 1) := by decide +kernel
theorem d_W_law_655 : decode code 655 = .ok (.iadd, 1) := by decide +kernel
theorem d_W_law_656 : decode code 656 = .ok (.iaload, 1) := by decide +kernel
theorem d_W_law_657 : decode code 657 = .ok (.aload_n 0, 1) := by decide +kernel
theorem d_W_law_658 : decode code 658 = .ok (.iload_n 3, 1) := by decide +kernel
theorem d_W_law_659 : decode code 659 = .ok (.iconst 2, 1) := by decide +kernel
theorem d_W_law_660 : decode code 660 = .ok (.iadd, 1) := by decide +kernel
theorem d_W_law_661 : decode code 661 = .ok (.iaload, 1) := by decide +kernel
theorem d_W_law_662 : decode code 662 = .ok (.invokevirtual 89, 3) := by decide +kernel
theorem d_W_law_665 : decode code 665 = .ok (.if_icmp .eq 467, 3) := by decide +kernel
theorem d_W_law_668 : decode code 668 = .ok (.iconst 0, 1) := by decide +kernel
theorem d_W_law_669 : decode code 669 = .ok (.ireturn, 1) := by decide +kernel
theorem d_W_law_670 : decode code 670 = .ok (.aload_n 1, 1) := by decide +kernel
theorem d_W_law_671 : decode code 671 = .ok (.aload_n 0, 1) := by decide +kernel
theorem d_W_law_672 : decode code 672 = .ok (.iload_n 3, 1) := by decide +kernel
theorem d_W_law_673 : decode code 673 = .ok (.iconst 1, 1) := by decide +kernel
theorem d_W_law_674 : decode code 674 = .ok (.iadd, 1) := by decide +kernel
theorem d_W_law_675 : decode code 675 = .ok (.iaload, 1) := by decide +kernel
theorem d_W_law_676 : decode code 676 = .ok (.aload_n 0, 1) := by decide +kernel
theorem d_W_law_677 : decode code 677 = .ok (.iload_n 3, 1) := by decide +kernel
theorem d_W_law_678 : decode code 678 = .ok (.iconst 2, 1) := by decide +kernel
theorem d_W_law_679 : decode code 679 = .ok (.iadd, 1) := by decide +kernel
theorem d_W_law_680 : decode code 680 = .ok (.iaload, 1) := by decide +kernel
theorem d_W_law_681 : decode code 681 = .ok (.invokevirtual 90, 3) := by decide +kernel
theorem d_W_law_684 : decode code 684 = .ok (.aload_n 2, 1) := by decide +kernel
theorem d_W_law_685 : decode code 685 = .ok (.aload_n 0, 1) := by decide +kernel
theorem d_W_law_686 : decode code 686 = .ok (.iload_n 3, 1) := by decide +kernel
theorem d_W_law_687 : decode code 687 = .ok (.iconst 1, 1) := by decide +kernel
theorem d_W_law_688 : decode code 688 = .ok (.iadd, 1) := by decide +kernel
theorem d_W_law_689 : decode code 689 = .ok (.iaload, 1) := by decide +kernel
theorem d_W_law_690 : decode code 690 = .ok (.aload_n 0, 1) := by decide +kernel
theorem d_W_law_691 : decode code 691 = .ok (.iload_n 3, 1) := by decide +kernel
theorem d_W_law_692 : decode code 692 = .ok (.iconst 2, 1) := by decide +kernel
theorem d_W_law_693 : decode code 693 = .ok (.iadd, 1) := by decide +kernel
theorem d_W_law_694 : decode code 694 = .ok (.iaload, 1) := by decide +kernel
theorem d_W_law_695 : decode code 695 = .ok (.invokevirtual 93, 3) := by decide +kernel
theorem d_W_law_698 : decode code 698 = .ok (.if_icmp .eq 434, 3) := by decide +kernel
theorem d_W_law_701 : decode code 701 = .ok (.iconst 0, 1) := by decide +kernel
theorem d_W_law_702 : decode code 702 = .ok (.ireturn, 1) := by decide +kernel
theorem d_W_law_703 : decode code 703 = .ok (.aload_n 1, 1) := by decide +kernel
theorem d_W_law_704 : decode code 704 = .ok (.aload_n 0, 1) := by decide +kernel
theorem d_W_law_705 : decode code 705 = .ok (.iload_n 3, 1) := by decide +kernel
theorem d_W_law_706 : decode code 706 = .ok (.iconst 1, 1) := by decide +kernel
theorem d_W_law_707 : decode code 707 = .ok (.iadd, 1) := by decide +kernel
theorem d_W_law_708 : decode code 708 = .ok (.iaload, 1) := by decide +kernel
theorem d_W_law_709 : decode code 709 = .ok (.aload_n 0, 1) := by decide +kernel
theorem d_W_law_710 : decode code 710 = .ok (.iload_n 3, 1) := by decide +kernel
theorem d_W_law_711 : decode code 711 = .ok (.iconst 2, 1) := by decide +kernel
theorem d_W_law_712 : decode code 712 = .ok (.iadd, 1) := by decide +kernel
theorem d_W_law_713 : decode code 713 = .ok (.iaload, 1) := by decide +kernel
theorem d_W_law_714 : decode code 714 = .ok (.aload_n 0, 1) := by decide +kernel
theorem d_W_law_715 : decode code 715 = .ok (.iload_n 3, 1) := by decide +kernel
theorem d_W_law_716 : decode code 716 = .ok (.iconst 3, 1) := by decide +kernel
theorem d_W_law_717 : decode code 717 = .ok (.iadd, 1) := by decide +kernel
theorem d_W_law_718 : decode code 718 = .ok (.iaload, 1) := by decide +kernel
theorem d_W_law_719 : decode code 719 = .ok (.invokevirtual 94, 3) := by decide +kernel
theorem d_W_law_722 : decode code 722 = .ok (.aload_n 2, 1) := by decide +kernel
theorem d_W_law_723 : decode code 723 = .ok (.aload_n 0, 1) := by decide +kernel
theorem d_W_law_724 : decode code 724 = .ok (.iload_n 3, 1) := by decide +kernel
theorem d_W_law_725 : decode code 725 = .ok (.iconst 1, 1) := by decide +kernel
theorem d_W_law_726 : decode code 726 = .ok (.iadd, 1) := by decide +kernel
theorem d_W_law_727 : decode code 727 = .ok (.iaload, 1) := by decide +kernel
theorem d_W_law_728 : decode code 728 = .ok (.aload_n 0, 1) := by decide +kernel
theorem d_W_law_729 : decode code 729 = .ok (.iload_n 3, 1) := by decide +kernel
theorem d_W_law_730 : decode code 730 = .ok (.iconst 2, 1) := by decide +kernel
theorem d_W_law_731 : decode code 731 = .ok (.iadd, 1) := by decide +kernel
theorem d_W_law_732 : decode code 732 = .ok (.iaload, 1) := by decide +kernel
theorem d_W_law_733 : decode code 733 = .ok (.aload_n 0, 1) := by decide +kernel
theorem d_W_law_734 : decode code 734 = .ok (.iload_n 3, 1) := by decide +kernel
theorem d_W_law_735 : decode code 735 = .ok (.iconst 3, 1) := by decide +kernel
theorem d_W_law_736 : decode code 736 = .ok (.iadd, 1) := by decide +kernel
theorem d_W_law_737 : decode code 737 = .ok (.iaload, 1) := by decide +kernel
theorem d_W_law_738 : decode code 738 = .ok (.invokevirtual 97, 3) := by decide +kernel
theorem d_W_law_741 : decode code 741 = .ok (.if_icmp .eq 391, 3) := by decide +kernel
theorem d_W_law_744 : decode code 744 = .ok (.iconst 0, 1) := by decide +kernel
theorem d_W_law_745 : decode code 745 = .ok (.ireturn, 1) := by decide +kernel
theorem d_W_law_746 : decode code 746 = .ok (.aload_n 1, 1) := by decide +kernel
theorem d_W_law_747 : decode code 747 = .ok (.aload_n 0, 1) := by decide +kernel
theorem d_W_law_748 : decode code 748 = .ok (.iload_n 3, 1) := by decide +kernel
theorem d_W_law_749 : decode code 749 = .ok (.iconst 1, 1) := by decide +kernel
theorem d_W_law_750 : decode code 750 = .ok (.iadd, 1) := by decide +kernel
theorem d_W_law_751 : decode code 751 = .ok (.iaload, 1) := by decide +kernel
theorem d_W_law_752 : decode code 752 = .ok (.aload_n 0, 1) := by decide +kernel
theorem d_W_law_753 : decode code 753 = .ok (.iload_n 3, 1) := by decide +kernel
theorem d_W_law_754 : decode code 754 = .ok (.iconst 2, 1) := by decide +kernel
theorem d_W_law_755 : decode code 755 = .ok (.iadd, 1) := by decide +kernel
theorem d_W_law_756 : decode code 756 = .ok (.iaload, 1) := by decide +kernel
theorem d_W_law_757 : decode code 757 = .ok (.aload_n 0, 1) := by decide +kernel
theorem d_W_law_758 : decode code 758 = .ok (.iload_n 3, 1) := by decide +kernel
theorem d_W_law_759 : decode code 759 = .ok (.iconst 3, 1) := by decide +kernel
theorem d_W_law_760 : decode code 760 = .ok (.iadd, 1) := by decide +kernel
theorem d_W_law_761 : decode code 761 = .ok (.iaload, 1) := by decide +kernel
theorem d_W_law_762 : decode code 762 = .ok (.aload_n 0, 1) := by decide +kernel
theorem d_W_law_763 : decode code 763 = .ok (.iload_n 3, 1) := by decide +kernel
theorem d_W_law_764 : decode code 764 = .ok (.iconst 4, 1) := by decide +kernel
theorem d_W_law_765 : decode code 765 = .ok (.iadd, 1) := by decide +kernel
theorem d_W_law_766 : decode code 766 = .ok (.iaload, 1) := by decide +kernel
theorem d_W_law_767 : decode code 767 = .ok (.aload_n 0, 1) := by decide +kernel
theorem d_W_law_768 : decode code 768 = .ok (.iload_n 3, 1) := by decide +kernel
theorem d_W_law_769 : decode code 769 = .ok (.iconst 5, 1) := by decide +kernel
theorem d_W_law_770 : decode code 770 = .ok (.iadd, 1) := by decide +kernel
theorem d_W_law_771 : decode code 771 = .ok (.iaload, 1) := by decide +kernel
theorem d_W_law_772 : decode code 772 = .ok (.invokevirtual 98, 3) := by decide +kernel
theorem d_W_law_775 : decode code 775 = .ok (.aload_n 2, 1) := by decide +kernel
theorem d_W_law_776 : decode code 776 = .ok (.aload_n 0, 1) := by decide +kernel
theorem d_W_law_777 : decode code 777 = .ok (.iload_n 3, 1) := by decide +kernel
theorem d_W_law_778 : decode code 778 = .ok (.iconst 1, 1) := by decide +kernel
theorem d_W_law_779 : decode code 779 = .ok (.iadd, 1) := by decide +kernel
theorem d_W_law_780 : decode code 780 = .ok (.iaload, 1) := by decide +kernel
theorem d_W_law_781 : decode code 781 = .ok (.aload_n 0, 1) := by decide +kernel
theorem d_W_law_782 : decode code 782 = .ok (.iload_n 3, 1) := by decide +kernel
theorem d_W_law_783 : decode code 783 = .ok (.iconst 2, 1) := by decide +kernel
theorem d_W_law_784 : decode code 784 = .ok (.iadd, 1) := by decide +kernel
theorem d_W_law_785 : decode code 785 = .ok (.iaload, 1) := by decide +kernel
theorem d_W_law_786 : decode code 786 = .ok (.aload_n 0, 1) := by decide +kernel
theorem d_W_law_787 : decode code 787 = .ok (.iload_n 3, 1) := by decide +kernel
theorem d_W_law_788 : decode code 788 = .ok (.iconst 3, 1) := by decide +kernel
theorem d_W_law_789 : decode code 789 = .ok (.iadd, 1) := by decide +kernel
theorem d_W_law_790 : decode code 790 = .ok (.iaload, 1) := by decide +kernel
theorem d_W_law_791 : decode code 791 = .ok (.aload_n 0, 1) := by decide +kernel
theorem d_W_law_792 : decode code 792 = .ok (.iload_n 3, 1) := by decide +kernel
theorem d_W_law_793 : decode code 793 = .ok (.iconst 4, 1) := by decide +kernel
theorem d_W_law_794 : decode code 794 = .ok (.iadd, 1) := by decide +kernel
theorem d_W_law_795 : decode code 795 = .ok (.iaload, 1) := by decide +kernel
theorem d_W_law_796 : decode code 796 = .ok (.aload_n 0, 1) := by decide +kernel
theorem d_W_law_797 : decode code 797 = .ok (.iload_n 3, 1) := by decide +kernel
theorem d_W_law_798 : decode code 798 = .ok (.iconst 5, 1) := by decide +kernel
theorem d_W_law_799 : decode code 799 = .ok (.iadd, 1) := by decide +kernel
theorem d_W_law_800 : decode code 800 = .ok (.iaload, 1) := by decide +kernel
theorem d_W_law_801 : decode code 801 = .ok (.invokevirtual 101, 3) := by decide +kernel
theorem d_W_law_804 : decode code 804 = .ok (.if_icmp .eq 328, 3) := by decide +kernel
theorem d_W_law_807 : decode code 807 = .ok (.iconst 0, 1) := by decide +kernel
theorem d_W_law_808 : decode code 808 = .ok (.ireturn, 1) := by decide +kernel
theorem d_W_law_809 : decode code 809 = .ok (.aload_n 1, 1) := by decide +kernel
theorem d_W_law_810 : decode code 810 = .ok (.aload_n 0, 1) := by decide +kernel
theorem d_W_law_811 : decode code 811 = .ok (.iload_n 3, 1) := by decide +kernel
theorem d_W_law_812 : decode code 812 = .ok (.iconst 1, 1) := by decide +kernel
theorem d_W_law_813 : decode code 813 = .ok (.iadd, 1) := by decide +kernel
theorem d_W_law_814 : decode code 814 = .ok (.iaload, 1) := by decide +kernel
theorem d_W_law_815 : decode code 815 = .ok (.aload_n 0, 1) := by decide +kernel
theorem d_W_law_816 : decode code 816 = .ok (.iload_n 3, 1) := by decide +kernel
theorem d_W_law_817 : decode code 817 = .ok (.iconst 2, 1) := by decide +kernel
theorem d_W_law_818 : decode code 818 = .ok (.iadd, 1) := by decide +kernel
theorem d_W_law_819 : decode code 819 = .ok (.iaload, 1) := by decide +kernel
theorem d_W_law_820 : decode code 820 = .ok (.aload_n 0, 1) := by decide +kernel
theorem d_W_law_821 : decode code 821 = .ok (.iload_n 3, 1) := by decide +kernel
theorem d_W_law_822 : decode code 822 = .ok (.iconst 3, 1) := by decide +kernel
theorem d_W_law_823 : decode code 823 = .ok (.iadd, 1) := by decide +kernel
theorem d_W_law_824 : decode code 824 = .ok (.iaload, 1) := by decide +kernel
theorem d_W_law_825 : decode code 825 = .ok (.invokevirtual 102, 3) := by decide +kernel
theorem d_W_law_828 : decode code 828 = .ok (.aload_n 2, 1) := by decide +kernel
theorem d_W_law_829 : decode code 829 = .ok (.aload_n 0, 1) := by decide +kernel
theorem d_W_law_830 : decode code 830 = .ok (.iload_n 3, 1) := by decide +kernel
theorem d_W_law_831 : decode code 831 = .ok (.iconst 1, 1) := by decide +kernel
theorem d_W_law_832 : decode code 832 = .ok (.iadd, 1) := by decide +kernel
theorem d_W_law_833 : decode code 833 = .ok (.iaload, 1) := by decide +kernel
theorem d_W_law_834 : decode code 834 = .ok (.aload_n 0, 1) := by decide +kernel
theorem d_W_law_835 : decode code 835 = .ok (.iload_n 3, 1) := by decide +kernel
theorem d_W_law_836 : decode code 836 = .ok (.iconst 2, 1) := by decide +kernel
theorem d_W_law_837 : decode code 837 = .ok (.iadd, 1) := by decide +kernel
theorem d_W_law_838 : decode code 838 = .ok (.iaload, 1) := by decide +kernel
theorem d_W_law_839 : decode code 839 = .ok (.aload_n 0, 1) := by decide +kernel
theorem d_W_law_840 : decode code 840 = .ok (.iload_n 3, 1) := by decide +kernel
theorem d_W_law_841 : decode code 841 = .ok (.iconst 3, 1) := by decide +kernel
theorem d_W_law_842 : decode code 842 = .ok (.iadd, 1) := by decide +kernel
theorem d_W_law_843 : decode code 843 = .ok (.iaload, 1) := by decide +kernel
theorem d_W_law_844 : decode code 844 = .ok (.invokevirtual 105, 3) := by decide +kernel
theorem d_W_law_847 : decode code 847 = .ok (.if_icmp .eq 285, 3) := by decide +kernel
theorem d_W_law_850 : decode code 850 = .ok (.iconst 0, 1) := by decide +kernel
theorem d_W_law_851 : decode code 851 = .ok (.ireturn, 1) := by decide +kernel
theorem d_W_law_852 : decode code 852 = .ok (.aload_n 1, 1) := by decide +kernel
theorem d_W_law_853 : decode code 853 = .ok (.aload_n 0, 1) := by decide +kernel
theorem d_W_law_854 : decode code 854 = .ok (.iload_n 3, 1) := by decide +kernel
theorem d_W_law_855 : decode code 855 = .ok (.iconst 1, 1) := by decide +kernel
theorem d_W_law_856 : decode code 856 = .ok (.iadd, 1) := by decide +kernel
theorem d_W_law_857 : decode code 857 = .ok (.iaload, 1) := by decide +kernel
theorem d_W_law_858 : decode code 858 = .ok (.aload_n 0, 1) := by decide +kernel
theorem d_W_law_859 : decode code 859 = .ok (.iload_n 3, 1) := by decide +kernel
theorem d_W_law_860 : decode code 860 = .ok (.iconst 2, 1) := by decide +kernel
theorem d_W_law_861 : decode code 861 = .ok (.iadd, 1) := by decide +kernel
theorem d_W_law_862 : decode code 862 = .ok (.iaload, 1) := by decide +kernel
theorem d_W_law_863 : decode code 863 = .ok (.aload_n 0, 1) := by decide +kernel
theorem d_W_law_864 : decode code 864 = .ok (.iload_n 3, 1) := by decide +kernel
theorem d_W_law_865 : decode code 865 = .ok (.iconst 3, 1) := by decide +kernel
theorem d_W_law_866 : decode code 866 = .ok (.iadd, 1) := by decide +kernel
theorem d_W_law_867 : decode code 867 = .ok (.iaload, 1) := by decide +kernel
theorem d_W_law_868 : decode code 868 = .ok (.invokevirtual 106, 3) := by decide +kernel
theorem d_W_law_871 : decode code 871 = .ok (.aload_n 2, 1) := by decide +kernel
theorem d_W_law_872 : decode code 872 = .ok (.aload_n 0, 1) := by decide +kernel
theorem d_W_law_873 : decode code 873 = .ok (.iload_n 3, 1) := by decide +kernel
theorem d_W_law_874 : decode code 874 = .ok (.iconst 1, 1) := by decide +kernel
theorem d_W_law_875 : decode code 875 = .ok (.iadd, 1) := by decide +kernel
theorem d_W_law_876 : decode code 876 = .ok (.iaload, 1) := by decide +kernel
theorem d_W_law_877 : decode code 877 = .ok (.aload_n 0, 1) := by decide +kernel
theorem d_W_law_878 : decode code 878 = .ok (.iload_n 3, 1) := by decide +kernel
theorem d_W_law_879 : decode code 879 = .ok (.iconst 2, 1) := by decide +kernel
theorem d_W_law_880 : decode code 880 = .ok (.iadd, 1) := by decide +kernel
theorem d_W_law_881 : decode code 881 = .ok (.iaload, 1) := by decide +kernel
theorem d_W_law_882 : decode code 882 = .ok (.aload_n 0, 1) := by decide +kernel
theorem d_W_law_883 : decode code 883 = .ok (.iload_n 3, 1) := by decide +kernel
theorem d_W_law_884 : decode code 884 = .ok (.iconst 3, 1) := by decide +kernel
theorem d_W_law_885 : decode code 885 = .ok (.iadd, 1) := by decide +kernel
theorem d_W_law_886 : decode code 886 = .ok (.iaload, 1) := by decide +kernel
theorem d_W_law_887 : decode code 887 = .ok (.invokevirtual 109, 3) := by decide +kernel
theorem d_W_law_890 : decode code 890 = .ok (.if_icmp .eq 242, 3) := by decide +kernel
theorem d_W_law_893 : decode code 893 = .ok (.iconst 0, 1) := by decide +kernel
theorem d_W_law_894 : decode code 894 = .ok (.ireturn, 1) := by decide +kernel
theorem d_W_law_895 : decode code 895 = .ok (.aload_n 1, 1) := by decide +kernel
theorem d_W_law_896 : decode code 896 = .ok (.aload_n 0, 1) := by decide +kernel
theorem d_W_law_897 : decode code 897 = .ok (.iload_n 3, 1) := by decide +kernel
theorem d_W_law_898 : decode code 898 = .ok (.iconst 1, 1) := by decide +kernel
theorem d_W_law_899 : decode code 899 = .ok (.iadd, 1) := by decide +kernel
theorem d_W_law_900 : decode code 900 = .ok (.iaload, 1) := by decide +kernel
theorem d_W_law_901 : decode code 901 = .ok (.aload_n 0, 1) := by decide +kernel
theorem d_W_law_902 : decode code 902 = .ok (.iload_n 3, 1) := by decide +kernel
theorem d_W_law_903 : decode code 903 = .ok (.iconst 2, 1) := by decide +kernel
theorem d_W_law_904 : decode code 904 = .ok (.iadd, 1) := by decide +kernel
theorem d_W_law_905 : decode code 905 = .ok (.iaload, 1) := by decide +kernel
theorem d_W_law_906 : decode code 906 = .ok (.aload_n 0, 1) := by decide +kernel
theorem d_W_law_907 : decode code 907 = .ok (.iload_n 3, 1) := by decide +kernel
theorem d_W_law_908 : decode code 908 = .ok (.iconst 3, 1) := by decide +kernel
theorem d_W_law_909 : decode code 909 = .ok (.iadd, 1) := by decide +kernel
theorem d_W_law_910 : decode code 910 = .ok (.iaload, 1) := by decide +kernel
theorem d_W_law_911 : decode code 911 = .ok (.invokevirtual 110, 3) := by decide +kernel
theorem d_W_law_914 : decode code 914 = .ok (.aload_n 2, 1) := by decide +kernel
theorem d_W_law_915 : decode code 915 = .ok (.aload_n 0, 1) := by decide +kernel
theorem d_W_law_916 : decode code 916 = .ok (.iload_n 3, 1) := by decide +kernel
theorem d_W_law_917 : decode code 917 = .ok (.iconst 1, 1) := by decide +kernel
theorem d_W_law_918 : decode code 918 = .ok (.iadd, 1) := by decide +kernel
theorem d_W_law_919 : decode code 919 = .ok (.iaload, 1) := by decide +kernel
theorem d_W_law_920 : decode code 920 = .ok (.aload_n 0, 1) := by decide +kernel
theorem d_W_law_921 : decode code 921 = .ok (.iload_n 3, 1) := by decide +kernel
theorem d_W_law_922 : decode code 922 = .ok (.iconst 2, 1) := by decide +kernel
theorem d_W_law_923 : decode code 923 = .ok (.iadd, 1) := by decide +kernel
theorem d_W_law_924 : decode code 924 = .ok (.iaload, 1) := by decide +kernel
theorem d_W_law_925 : decode code 925 = .ok (.aload_n 0, 1) := by decide +kernel
theorem d_W_law_926 : decode code 926 = .ok (.iload_n 3, 1) := by decide +kernel
theorem d_W_law_927 : decode code 927 = .ok (.iconst 3, 1) := by decide +kernel
theorem d_W_law_928 : decode code 928 = .ok (.iadd, 1) := by decide +kernel
theorem d_W_law_929 : decode code 929 = .ok (.iaload, 1) := by decide +kernel
theorem d_W_law_930 : decode code 930 = .ok (.invokevirtual 113, 3) := by decide +kernel
theorem d_W_law_933 : decode code 933 = .ok (.if_icmp .eq 199, 3) := by decide +kernel
theorem d_W_law_936 : decode code 936 = .ok (.iconst 0, 1) := by decide +kernel
theorem d_W_law_937 : decode code 937 = .ok (.ireturn, 1) := by decide +kernel
theorem d_W_law_938 : decode code 938 = .ok (.aload_n 1, 1) := by decide +kernel
theorem d_W_law_939 : decode code 939 = .ok (.aload_n 0, 1) := by decide +kernel
theorem d_W_law_940 : decode code 940 = .ok (.iload_n 3, 1) := by decide +kernel
theorem d_W_law_941 : decode code 941 = .ok (.iconst 1, 1) := by decide +kernel
theorem d_W_law_942 : decode code 942 = .ok (.iadd, 1) := by decide +kernel
theorem d_W_law_943 : decode code 943 = .ok (.iaload, 1) := by decide +kernel
theorem d_W_law_944 : decode code 944 = .ok (.invokevirtual 114, 3) := by decide +kernel
theorem d_W_law_947 : decode code 947 = .ok (.aload_n 2, 1) := by decide +kernel
theorem d_W_law_948 : decode code 948 = .ok (.aload_n 0, 1) := by decide +kernel
theorem d_W_law_949 : decode code 949 = .ok (.iload_n 3, 1) := by decide +kernel
theorem d_W_law_950 : decode code 950 = .ok (.iconst 1, 1) := by decide +kernel
theorem d_W_law_951 : decode code 951 = .ok (.iadd, 1) := by decide +kernel
theorem d_W_law_952 : decode code 952 = .ok (.iaload, 1) := by decide +kernel
theorem d_W_law_953 : decode code 953 = .ok (.invokevirtual 117, 3) := by decide +kernel
theorem d_W_law_956 : decode code 956 = .ok (.if_icmp .eq 176, 3) := by decide +kernel
theorem d_W_law_959 : decode code 959 = .ok (.iconst 0, 1) := by decide +kernel
theorem d_W_law_960 : decode code 960 = .ok (.ireturn, 1) := by decide +kernel
theorem d_W_law_961 : decode code 961 = .ok (.aload_n 1, 1) := by decide +kernel
theorem d_W_law_962 : decode code 962 = .ok (.aload_n 0, 1) := by decide +kernel
theorem d_W_law_963 : decode code 963 = .ok (.iload_n 3, 1) := by decide +kernel
theorem d_W_law_964 : decode code 964 = .ok (.iconst 1, 1) := by decide +kernel
theorem d_W_law_965 : decode code 965 = .ok (.iadd, 1) := by decide +kernel
theorem d_W_law_966 : decode code 966 = .ok (.iaload, 1) := by decide +kernel
theorem d_W_law_967 : decode code 967 = .ok (.invokevirtual 118, 3) := by decide +kernel
theorem d_W_law_970 : decode code 970 = .ok (.aload_n 2, 1) := by decide +kernel
theorem d_W_law_971 : decode code 971 = .ok (.aload_n 0, 1) := by decide +kernel
theorem d_W_law_972 : decode code 972 = .ok (.iload_n 3, 1) := by decide +kernel
theorem d_W_law_973 : decode code 973 = .ok (.iconst 1, 1) := by decide +kernel
theorem d_W_law_974 : decode code 974 = .ok (.iadd, 1) := by decide +kernel
theorem d_W_law_975 : decode code 975 = .ok (.iaload, 1) := by decide +kernel
theorem d_W_law_976 : decode code 976 = .ok (.invokevirtual 121, 3) := by decide +kernel
theorem d_W_law_979 : decode code 979 = .ok (.if_icmp .eq 153, 3) := by decide +kernel
theorem d_W_law_982 : decode code 982 = .ok (.iconst 0, 1) := by decide +kernel
theorem d_W_law_983 : decode code 983 = .ok (.ireturn, 1) := by decide +kernel
theorem d_W_law_984 : decode code 984 = .ok (.aload_n 1, 1) := by decide +kernel
theorem d_W_law_985 : decode code 985 = .ok (.aload_n 0, 1) := by decide +kernel
theorem d_W_law_986 : decode code 986 = .ok (.iload_n 3, 1) := by decide +kernel
theorem d_W_law_987 : decode code 987 = .ok (.iconst 1, 1) := by decide +kernel
theorem d_W_law_988 : decode code 988 = .ok (.iadd, 1) := by decide +kernel
theorem d_W_law_989 : decode code 989 = .ok (.iaload, 1) := by decide +kernel
theorem d_W_law_990 : decode code 990 = .ok (.invokevirtual 122, 3) := by decide +kernel
theorem d_W_law_993 : decode code 993 = .ok (.aload_n 2, 1) := by decide +kernel
theorem d_W_law_994 : decode code 994 = .ok (.aload_n 0, 1) := by decide +kernel
theorem d_W_law_995 : decode code 995 = .ok (.iload_n 3, 1) := by decide +kernel
theorem d_W_law_996 : decode code 996 = .ok (.iconst 1, 1) := by decide +kernel
theorem d_W_law_997 : decode code 997 = .ok (.iadd, 1) := by decide +kernel
theorem d_W_law_998 : decode code 998 = .ok (.iaload, 1) := by decide +kernel
theorem d_W_law_999 : decode code 999 = .ok (.invokevirtual 125, 3) := by decide +kernel
theorem d_W_law_1002 : decode code 1002 = .ok (.if_icmp .eq 130, 3) := by decide +kernel
theorem d_W_law_1005 : decode code 1005 = .ok (.iconst 0, 1) := by decide +kernel
theorem d_W_law_1006 : decode code 1006 = .ok (.ireturn, 1) := by decide +kernel
theorem d_W_law_1007 : decode code 1007 = .ok (.aload_n 1, 1) := by decide +kernel
theorem d_W_law_1008 : decode code 1008 = .ok (.aload_n 0, 1) := by decide +kernel
theorem d_W_law_1009 : decode code 1009 = .ok (.iload_n 3, 1) := by decide +kernel
theorem d_W_law_1010 : decode code 1010 = .ok (.iconst 1, 1) := by decide +kernel
theorem d_W_law_1011 : decode code 1011 = .ok (.iadd, 1) := by decide +kernel
theorem d_W_law_1012 : decode code 1012 = .ok (.iaload, 1) := by decide +kernel
theorem d_W_law_1013 : decode code 1013 = .ok (.aload_n 0, 1) := by decide +kernel
theorem d_W_law_1014 : decode code 1014 = .ok (.iload_n 3, 1) := by decide +kernel
theorem d_W_law_1015 : decode code 1015 = .ok (.iconst 2, 1) := by decide +kernel
theorem d_W_law_1016 : decode code 1016 = .ok (.iadd, 1) := by decide +kernel
theorem d_W_law_1017 : decode code 1017 = .ok (.iaload, 1) := by decide +kernel
theorem d_W_law_1018 : decode code 1018 = .ok (.invokevirtual 126, 3) := by decide +kernel
theorem d_W_law_1021 : decode code 1021 = .ok (.aload_n 2, 1) := by decide +kernel
theorem d_W_law_1022 : decode code 1022 = .ok (.aload_n 0, 1) := by decide +kernel
theorem d_W_law_1023 : decode code 1023 = .ok (.iload_n 3, 1) := by decide +kernel
theorem d_W_law_1024 : decode code 1024 = .ok (.iconst 1, 1) := by decide +kernel
theorem d_W_law_1025 : decode code 1025 = .ok (.iadd, 1) := by decide +kernel
theorem d_W_law_1026 : decode code 1026 = .ok (.iaload, 1) := by decide +kernel
theorem d_W_law_1027 : decode code 1027 = .ok (.aload_n 0, 1) := by decide +kernel
theorem d_W_law_1028 : decode code 1028 = .ok (.iload_n 3, 1) := by decide +kernel
theorem d_W_law_1029 : decode code 1029 = .ok (.iconst 2, 1) := by decide +kernel
theorem d_W_law_1030 : decode code 1030 = .ok (.iadd, 1) := by decide +kernel
theorem d_W_law_1031 : decode code 1031 = .ok (.iaload, 1) := by decide +kernel
theorem d_W_law_1032 : decode code 1032 = .ok (.invokevirtual 129, 3) := by decide +kernel
theorem d_W_law_1035 : decode code 1035 = .ok (.if_icmp .eq 97, 3) := by decide +kernel
theorem d_W_law_1038 : decode code 1038 = .ok (.iconst 0, 1) := by decide +kernel
theorem d_W_law_1039 : decode code 1039 = .ok (.ireturn, 1) := by decide +kernel
theorem d_W_law_1040 : decode code 1040 = .ok (.aload_n 1, 1) := by decide +kernel
theorem d_W_law_1041 : decode code 1041 = .ok (.aload_n 0, 1) := by decide +kernel
theorem d_W_law_1042 : decode code 1042 = .ok (.iload_n 3, 1) := by decide +kernel
theorem d_W_law_1043 : decode code 1043 = .ok (.iconst 1, 1) := by decide +kernel
theorem d_W_law_1044 : decode code 1044 = .ok (.iadd, 1) := by decide +kernel
theorem d_W_law_1045 : decode code 1045 = .ok (.iaload, 1) := by decide +kernel
theorem d_W_law_1046 : decode code 1046 = .ok (.aload_n 0, 1) := by decide +kernel
theorem d_W_law_1047 : decode code 1047 = .ok (.iload_n 3, 1) := by decide +kernel
theorem d_W_law_1048 : decode code 1048 = .ok (.iconst 2, 1) := by decide +kernel
theorem d_W_law_1049 : decode code 1049 = .ok (.iadd, 1) := by decide +kernel
theorem d_W_law_1050 : decode code 1050 = .ok (.iaload, 1) := by decide +kernel
theorem d_W_law_1051 : decode code 1051 = .ok (.invokevirtual 130, 3) := by decide +kernel
theorem d_W_law_1054 : decode code 1054 = .ok (.aload_n 2, 1) := by decide +kernel
theorem d_W_law_1055 : decode code 1055 = .ok (.aload_n 0, 1) := by decide +kernel
theorem d_W_law_1056 : decode code 1056 = .ok (.iload_n 3, 1) := by decide +kernel
theorem d_W_law_1057 : decode code 1057 = .ok (.iconst 1, 1) := by decide +kernel
theorem d_W_law_1058 : decode code 1058 = .ok (.iadd, 1) := by decide +kernel
theorem d_W_law_1059 : decode code 1059 = .ok (.iaload, 1) := by decide +kernel
theorem d_W_law_1060 : decode code 1060 = .ok (.aload_n 0, 1) := by decide +kernel
theorem d_W_law_1061 : decode code 1061 = .ok (.iload_n 3, 1) := by decide +kernel
theorem d_W_law_1062 : decode code 1062 = .ok (.iconst 2, 1) := by decide +kernel
theorem d_W_law_1063 : decode code 1063 = .ok (.iadd, 1) := by decide +kernel
theorem d_W_law_1064 : decode code 1064 = .ok (.iaload, 1) := by decide +kernel
theorem d_W_law_1065 : decode code 1065 = .ok (.invokevirtual 133, 3) := by decide +kernel
theorem d_W_law_1068 : decode code 1068 = .ok (.if_icmp .eq 64, 3) := by decide +kernel
theorem d_W_law_1071 : decode code 1071 = .ok (.iconst 0, 1) := by decide +kernel
theorem d_W_law_1072 : decode code 1072 = .ok (.ireturn, 1) := by decide +kernel
theorem d_W_law_1073 : decode code 1073 = .ok (.aload_n 1, 1) := by decide +kernel
theorem d_W_law_1074 : decode code 1074 = .ok (.aload_n 0, 1) := by decide +kernel
theorem d_W_law_1075 : decode code 1075 = .ok (.iload_n 3, 1) := by decide +kernel
theorem d_W_law_1076 : decode code 1076 = .ok (.iconst 1, 1) := by decide +kernel
theorem d_W_law_1077 : decode code 1077 = .ok (.iadd, 1) := by decide +kernel
theorem d_W_law_1078 : decode code 1078 = .ok (.iaload, 1) := by decide +kernel
theorem d_W_law_1079 : decode code 1079 = .ok (.invokevirtual 134, 3) := by decide +kernel
theorem d_W_law_1082 : decode code 1082 = .ok (.aload_n 2, 1) := by decide +kernel
theorem d_W_law_1083 : decode code 1083 = .ok (.aload_n 0, 1) := by decide +kernel
theorem d_W_law_1084 : decode code 1084 = .ok (.iload_n 3, 1) := by decide +kernel
theorem d_W_law_1085 : decode code 1085 = .ok (.iconst 1, 1) := by decide +kernel
theorem d_W_law_1086 : decode code 1086 = .ok (.iadd, 1) := by decide +kernel
theorem d_W_law_1087 : decode code 1087 = .ok (.iaload, 1) := by decide +kernel
theorem d_W_law_1088 : decode code 1088 = .ok (.invokevirtual 137, 3) := by decide +kernel
theorem d_W_law_1091 : decode code 1091 = .ok (.if_icmp .eq 41, 3) := by decide +kernel
theorem d_W_law_1094 : decode code 1094 = .ok (.iconst 0, 1) := by decide +kernel
theorem d_W_law_1095 : decode code 1095 = .ok (.ireturn, 1) := by decide +kernel
theorem d_W_law_1096 : decode code 1096 = .ok (.aload_n 1, 1) := by decide +kernel
theorem d_W_law_1097 : decode code 1097 = .ok (.aload_n 0, 1) := by decide +kernel
theorem d_W_law_1098 : decode code 1098 = .ok (.iload_n 3, 1) := by decide +kernel
theorem d_W_law_1099 : decode code 1099 = .ok (.iconst 1, 1) := by decide +kernel
theorem d_W_law_1100 : decode code 1100 = .ok (.iadd, 1) := by decide +kernel
theorem d_W_law_1101 : decode code 1101 = .ok (.iaload, 1) := by decide +kernel
theorem d_W_law_1102 : decode code 1102 = .ok (.invokevirtual 138, 3) := by decide +kernel
theorem d_W_law_1105 : decode code 1105 = .ok (.aload_n 2, 1) := by decide +kernel
theorem d_W_law_1106 : decode code 1106 = .ok (.aload_n 0, 1) := by decide +kernel
theorem d_W_law_1107 : decode code 1107 = .ok (.iload_n 3, 1) := by decide +kernel
theorem d_W_law_1108 : decode code 1108 = .ok (.iconst 1, 1) := by decide +kernel
theorem d_W_law_1109 : decode code 1109 = .ok (.iadd, 1) := by decide +kernel
theorem d_W_law_1110 : decode code 1110 = .ok (.iaload, 1) := by decide +kernel
theorem d_W_law_1111 : decode code 1111 = .ok (.invokevirtual 141, 3) := by decide +kernel
theorem d_W_law_1114 : decode code 1114 = .ok (.if_icmp .eq 18, 3) := by decide +kernel
theorem d_W_law_1117 : decode code 1117 = .ok (.iconst 0, 1) := by decide +kernel
theorem d_W_law_1118 : decode code 1118 = .ok (.ireturn, 1) := by decide +kernel
theorem d_W_law_1119 : decode code 1119 = .ok (.aload_n 1, 1) := by decide +kernel
theorem d_W_law_1120 : decode code 1120 = .ok (.invokevirtual 142, 3) := by decide +kernel
theorem d_W_law_1123 : decode code 1123 = .ok (.aload_n 2, 1) := by decide +kernel
theorem d_W_law_1124 : decode code 1124 = .ok (.invokevirtual 145, 3) := by decide +kernel
theorem d_W_law_1127 : decode code 1127 = .ok (.if_icmp .eq 5, 3) := by decide +kernel
theorem d_W_law_1130 : decode code 1130 = .ok (.iconst 0, 1) := by decide +kernel
theorem d_W_law_1131 : decode code 1131 = .ok (.ireturn, 1) := by decide +kernel
theorem d_W_law_1132 : decode code 1132 = .ok (.iinc 3 6, 3) := by decide +kernel
theorem d_W_law_1135 : decode code 1135 = .ok (.goto (-1117), 3) := by decide +kernel
theorem d_W_law_1138 : decode code 1138 = .ok (.iconst 1, 1) := by decide +kernel
theorem d_W_law_1139 : decode code 1139 = .ok (.ireturn, 1) := by decide +kernel
theorem d_X_answer_0 : decode b_X_answer 0 = .ok (.aload_n 0, 1) := by decide +kernel
theorem d_X_answer_1 : decode b_X_answer 1 = .ok (.getfield 25, 3) := by decide +kernel
theorem d_X_answer_4 : decode b_X_answer 4 = .ok (.iload_n 1, 1) := by decide +kernel
theorem d_X_answer_5 : decode b_X_answer 5 = .ok (.invokevirtual 152, 3) := by decide +kernel
theorem d_X_answer_8 : decode b_X_answer 8 = .ok (.ifCond .ne 6, 3) := by decide +kernel
theorem d_X_answer_11 : decode b_X_answer 11 = .ok (.ldc 66, 2) := by decide +kernel
theorem d_X_answer_13 : decode b_X_answer 13 = .ok (.ireturn, 1) := by decide +kernel
theorem d_X_answer_14 : decode b_X_answer 14 = .ok (.aload_n 0, 1) := by decide +kernel
theorem d_X_answer_15 : decode b_X_answer 15 = .ok (.getfield 25, 3) := by decide +kernel
theorem d_X_answer_18 : decode b_X_answer 18 = .ok (.iload_n 1, 1) := by decide +kernel
theorem d_X_answer_19 : decode b_X_answer 19 = .ok (.invokevirtual 155, 3) := by decide +kernel
theorem d_X_answer_22 : decode b_X_answer 22 = .ok (.ifCond .ne 6, 3) := by decide +kernel
theorem d_X_answer_25 : decode b_X_answer 25 = .ok (.ldc 138, 2) := by decide +kernel
theorem d_X_answer_27 : decode b_X_answer 27 = .ok (.ireturn, 1) := by decide +kernel
theorem d_X_answer_28 : decode b_X_answer 28 = .ok (.aload_n 0, 1) := by decide +kernel
theorem d_X_answer_29 : decode b_X_answer 29 = .ok (.getfield 39, 3) := by decide +kernel
theorem d_X_answer_32 : decode b_X_answer 32 = .ok (.aload_n 0, 1) := by decide +kernel
theorem d_X_answer_33 : decode b_X_answer 33 = .ok (.getfield 25, 3) := by decide +kernel
theorem d_X_answer_36 : decode b_X_answer 36 = .ok (.invokevirtual 142, 3) := by decide +kernel
theorem d_X_answer_39 : decode b_X_answer 39 = .ok (.aload_n 0, 1) := by decide +kernel
theorem d_X_answer_40 : decode b_X_answer 40 = .ok (.getfield 25, 3) := by decide +kernel
theorem d_X_answer_43 : decode b_X_answer 43 = .ok (.iload_n 1, 1) := by decide +kernel
theorem d_X_answer_44 : decode b_X_answer 44 = .ok (.invokevirtual 158, 3) := by decide +kernel
theorem d_X_answer_47 : decode b_X_answer 47 = .ok (.aload_n 0, 1) := by decide +kernel
theorem d_X_answer_48 : decode b_X_answer 48 = .ok (.getfield 25, 3) := by decide +kernel
theorem d_X_answer_51 : decode b_X_answer 51 = .ok (.getfield 162, 3) := by decide +kernel
theorem d_X_answer_54 : decode b_X_answer 54 = .ok (.ireturn, 1) := by decide +kernel
theorem d_X_as_0 : decode b_X_as 0 = .ok (.aload_n 0, 1) := by decide +kernel
theorem d_X_as_1 : decode b_X_as 1 = .ok (.getfield 25, 3) := by decide +kernel
theorem d_X_as_4 : decode b_X_as 4 = .ok (.iload_n 1, 1) := by decide +kernel
theorem d_X_as_5 : decode b_X_as 5 = .ok (.invokevirtual 152, 3) := by decide +kernel
theorem d_X_as_8 : decode b_X_as 8 = .ok (.ifCond .eq 12, 3) := by decide +kernel
theorem d_X_as_11 : decode b_X_as 11 = .ok (.iload_n 2, 1) := by decide +kernel
theorem d_X_as_12 : decode b_X_as 12 = .ok (.iconst 0, 1) := by decide +kernel
theorem d_X_as_13 : decode b_X_as 13 = .ok (.iconst 5, 1) := by decide +kernel
theorem d_X_as_14 : decode b_X_as 14 = .ok (.invokestatic 62, 3) := by decide +kernel
theorem d_X_as_17 : decode b_X_as 17 = .ok (.ifCond .ne 6, 3) := by decide +kernel
theorem d_X_as_20 : decode b_X_as 20 = .ok (.ldc 66, 2) := by decide +kernel
theorem d_X_as_22 : decode b_X_as 22 = .ok (.ireturn, 1) := by decide +kernel
theorem d_X_as_23 : decode b_X_as 23 = .ok (.aload_n 0, 1) := by decide +kernel
theorem d_X_as_24 : decode b_X_as 24 = .ok (.getfield 25, 3) := by decide +kernel
theorem d_X_as_27 : decode b_X_as 27 = .ok (.getfield 171, 3) := by decide +kernel
theorem d_X_as_30 : decode b_X_as 30 = .ok (.iload_n 1, 1) := by decide +kernel
theorem d_X_as_31 : decode b_X_as 31 = .ok (.aaload, 1) := by decide +kernel
theorem d_X_as_32 : decode b_X_as 32 = .ok (.getfield 277, 3) := by decide +kernel
theorem d_X_as_35 : decode b_X_as 35 = .ok (.iload_n 2, 1) := by decide +kernel
theorem d_X_as_36 : decode b_X_as 36 = .ok (.invokestatic 280, 3) := by decide +kernel
theorem d_X_as_39 : decode b_X_as 39 = .ok (.ifCond .eq 11, 3) := by decide +kernel
theorem d_X_as_42 : decode b_X_as 42 = .ok (.aload_n 0, 1) := by decide +kernel
theorem d_X_as_43 : decode b_X_as 43 = .ok (.iload_n 1, 1) := by decide +kernel
theorem d_X_as_44 : decode b_X_as 44 = .ok (.invokevirtual 75, 3) := by decide +kernel
theorem d_X_as_47 : decode b_X_as 47 = .ok (.goto 8, 3) := by decide +kernel
theorem d_X_as_50 : decode b_X_as 50 = .ok (.aload_n 0, 1) := by decide +kernel
theorem d_X_as_51 : decode b_X_as 51 = .ok (.iconst 3, 1) := by decide +kernel
theorem d_X_as_52 : decode b_X_as 52 = .ok (.invokevirtual 67, 3) := by decide +kernel
theorem d_X_as_55 : decode b_X_as 55 = .ok (.ireturn, 1) := by decide +kernel
theorem d_X_ask_0 : decode b_X_ask 0 = .ok (.aload_n 0, 1) := by decide +kernel
theorem d_X_ask_1 : decode b_X_ask 1 = .ok (.getfield 25, 3) := by decide +kernel
theorem d_X_ask_4 : decode b_X_ask 4 = .ok (.iload_n 1, 1) := by decide +kernel
theorem d_X_ask_5 : decode b_X_ask 5 = .ok (.invokevirtual 152, 3) := by decide +kernel
theorem d_X_ask_8 : decode b_X_ask 8 = .ok (.ifCond .eq 12, 3) := by decide +kernel
theorem d_X_ask_11 : decode b_X_ask 11 = .ok (.iload_n 2, 1) := by decide +kernel
theorem d_X_ask_12 : decode b_X_ask 12 = .ok (.iconst 0, 1) := by decide +kernel
theorem d_X_ask_13 : decode b_X_ask 13 = .ok (.iconst 1, 1) := by decide +kernel
theorem d_X_ask_14 : decode b_X_ask 14 = .ok (.invokestatic 62, 3) := by decide +kernel
theorem d_X_ask_17 : decode b_X_ask 17 = .ok (.ifCond .ne 6, 3) := by decide +kernel
theorem d_X_ask_20 : decode b_X_ask 20 = .ok (.ldc 66, 2) := by decide +kernel
theorem d_X_ask_22 : decode b_X_ask 22 = .ok (.ireturn, 1) := by decide +kernel
theorem d_X_ask_23 : decode b_X_ask 23 = .ok (.aload_n 0, 1) := by decide +kernel
theorem d_X_ask_24 : decode b_X_ask 24 = .ok (.getfield 53, 3) := by decide +kernel
theorem d_X_ask_27 : decode b_X_ask 27 = .ok (.iconst 0, 1) := by decide +kernel
theorem d_X_ask_28 : decode b_X_ask 28 = .ok (.putfield 283, 3) := by decide +kernel
theorem d_X_ask_31 : decode b_X_ask 31 = .ok (.aload_n 0, 1) := by decide +kernel
theorem d_X_ask_32 : decode b_X_ask 32 = .ok (.getfield 25, 3) := by decide +kernel
theorem d_X_ask_35 : decode b_X_ask 35 = .ok (.getfield 171, 3) := by decide +kernel
theorem d_X_ask_38 : decode b_X_ask 38 = .ok (.iload_n 1, 1) := by decide +kernel
theorem d_X_ask_39 : decode b_X_ask 39 = .ok (.aaload, 1) := by decide +kernel
theorem d_X_ask_40 : decode b_X_ask 40 = .ok (.astore_n 3, 1) := by decide +kernel
theorem d_X_ask_41 : decode b_X_ask 41 = .ok (.aload_n 0, 1) := by decide +kernel
theorem d_X_ask_42 : decode b_X_ask 42 = .ok (.getfield 53, 3) := by decide +kernel
theorem d_X_ask_45 : decode b_X_ask 45 = .ok (.iload_n 2, 1) := by decide +kernel
theorem d_X_ask_46 : decode b_X_ask 46 = .ok (.aload_n 3, 1) := by decide +kernel
theorem d_X_ask_47 : decode b_X_ask 47 = .ok (.getfield 277, 3) := by decide +kernel
theorem d_X_ask_50 : decode b_X_ask 50 = .ok (.invokestatic 284, 3) := by decide +kernel
theorem d_X_ask_53 : decode b_X_ask 53 = .ok (.aload_n 3, 1) := by decide +kernel
theorem d_X_ask_54 : decode b_X_ask 54 = .ok (.iload_n 1, 1) := by decide +kernel
theorem d_X_ask_55 : decode b_X_ask 55 = .ok (.iconst 0, 1) := by decide +kernel
theorem d_X_ask_56 : decode b_X_ask 56 = .ok (.invokestatic 287, 3) := by decide +kernel
theorem d_X_ask_59 : decode b_X_ask 59 = .ok (.ireturn, 1) := by decide +kernel
theorem d_X_begin_0 : decode b_X_begin 0 = .ok (.iload 4, 2) := by decide +kernel
theorem d_X_begin_2 : decode b_X_begin 2 = .ok (.bipush 16, 2) := by decide +kernel
theorem d_X_begin_4 : decode b_X_begin 4 = .ok (.if_icmp .le 5, 3) := by decide +kernel
theorem d_X_begin_7 : decode b_X_begin 7 = .ok (.iconst 0, 1) := by decide +kernel
theorem d_X_begin_8 : decode b_X_begin 8 = .ok (.ireturn, 1) := by decide +kernel
theorem d_X_begin_9 : decode b_X_begin 9 = .ok (.aload_n 0, 1) := by decide +kernel
theorem d_X_begin_10 : decode b_X_begin 10 = .ok (.iload_n 1, 1) := by decide +kernel
theorem d_X_begin_11 : decode b_X_begin 11 = .ok (.invokevirtual 319, 3) := by decide +kernel
theorem d_X_begin_14 : decode b_X_begin 14 = .ok (.iload 4, 2) := by decide +kernel
theorem d_X_begin_16 : decode b_X_begin 16 = .ok (.iconst 1, 1) := by decide +kernel
theorem d_X_begin_17 : decode b_X_begin 17 = .ok (.iadd, 1) := by decide +kernel
theorem d_X_begin_18 : decode b_X_begin 18 = .ok (.istore 5, 2) := by decide +kernel
theorem d_X_begin_20 : decode b_X_begin 20 = .ok (.iload_n 1, 1) := by decide +kernel
theorem d_X_begin_21 : decode b_X_begin 21 = .ok (.tableswitch 221 10 24 #[75, 80, 108, 120, 134, 221, 221, 221, 221, 221, 147, 149, 165, 180, 208], 75) := by decide +kernel
theorem d_X_begin_96 : decode b_X_begin 96 = .ok (.aload_n 2, 1) := by decide +kernel
theorem d_X_begin_97 : decode b_X_begin 97 = .ok (.getfield 186, 3) := by decide +kernel
theorem d_X_begin_100 : decode b_X_begin 100 = .ok (.ireturn, 1) := by decide +kernel
theorem d_X_begin_101 : decode b_X_begin 101 = .ok (.aload_n 0, 1) := by decide +kernel
theorem d_X_begin_102 : decode b_X_begin 102 = .ok (.bipush 10, 2) := by decide +kernel
theorem d_X_begin_104 : decode b_X_begin 104 = .ok (.aload_n 2, 1) := by decide +kernel
theorem d_X_begin_105 : decode b_X_begin 105 = .ok (.iload_n 3, 1) := by decide +kernel
theorem d_X_begin_106 : decode b_X_begin 106 = .ok (.iload 5, 2) := by decide +kernel
theorem d_X_begin_108 : decode b_X_begin 108 = .ok (.invokestatic 287, 3) := by decide +kernel
theorem d_X_begin_111 : decode b_X_begin 111 = .ok (.aload_n 0, 1) := by decide +kernel
theorem d_X_begin_112 : decode b_X_begin 112 = .ok (.iconst 1, 1) := by decide +kernel
theorem d_X_begin_113 : decode b_X_begin 113 = .ok (.aload_n 2, 1) := by decide +kernel
theorem d_X_begin_114 : decode b_X_begin 114 = .ok (.getfield 277, 3) := by decide +kernel
theorem d_X_begin_117 : decode b_X_begin 117 = .ok (.invokestatic 284, 3) := by decide +kernel
theorem d_X_begin_120 : decode b_X_begin 120 = .ok (.aload_n 2, 1) := by decide +kernel
theorem d_X_begin_121 : decode b_X_begin 121 = .ok (.iload_n 3, 1) := by decide +kernel
theorem d_X_begin_122 : decode b_X_begin 122 = .ok (.iload 5, 2) := by decide +kernel
theorem d_X_begin_124 : decode b_X_begin 124 = .ok (.invokestatic 287, 3) := by decide +kernel
theorem d_X_begin_127 : decode b_X_begin 127 = .ok (.iadd, 1) := by decide +kernel
theorem d_X_begin_128 : decode b_X_begin 128 = .ok (.ireturn, 1) := by decide +kernel
theorem d_X_begin_129 : decode b_X_begin 129 = .ok (.aload_n 0, 1) := by decide +kernel
theorem d_X_begin_130 : decode b_X_begin 130 = .ok (.bipush 11, 2) := by decide +kernel
theorem d_X_begin_132 : decode b_X_begin 132 = .ok (.aload_n 2, 1) := by decide +kernel
theorem d_X_begin_133 : decode b_X_begin 133 = .ok (.iload_n 3, 1) := by decide +kernel
theorem d_X_begin_134 : decode b_X_begin 134 = .ok (.iload 5, 2) := by decide +kernel
theorem d_X_begin_136 : decode b_X_begin 136 = .ok (.invokestatic 287, 3) := by decide +kernel
theorem d_X_begin_139 : decode b_X_begin 139 = .ok (.ineg, 1) := by decide +kernel
theorem d_X_begin_140 : decode b_X_begin 140 = .ok (.ireturn, 1) := by decide +kernel
theorem d_X_begin_141 : decode b_X_begin 141 = .ok (.aload_n 0, 1) := by decide +kernel
theorem d_X_begin_142 : decode b_X_begin 142 = .ok (.bipush 10, 2) := by decide +kernel
theorem d_X_begin_144 : decode b_X_begin 144 = .ok (.aload_n 2, 1) := by decide +kernel
theorem d_X_begin_145 : decode b_X_begin 145 = .ok (.iload_n 3, 1) := by decide +kernel
theorem d_X_begin_146 : decode b_X_begin 146 = .ok (.iload 5, 2) := by decide +kernel
theorem d_X_begin_148 : decode b_X_begin 148 = .ok (.invokestatic 287, 3) := by decide +kernel
theorem d_X_begin_151 : decode b_X_begin 151 = .ok (.bipush 100, 2) := by decide +kernel
theorem d_X_begin_153 : decode b_X_begin 153 = .ok (.isub, 1) := by decide +kernel
theorem d_X_begin_154 : decode b_X_begin 154 = .ok (.ireturn, 1) := by decide +kernel
theorem d_X_begin_155 : decode b_X_begin 155 = .ok (.iconst 2, 1) := by decide +kernel
theorem d_X_begin_156 : decode b_X_begin 156 = .ok (.aload_n 0, 1) := by decide +kernel
theorem d_X_begin_157 : decode b_X_begin 157 = .ok (.bipush 13, 2) := by decide +kernel
theorem d_X_begin_159 : decode b_X_begin 159 = .ok (.aload_n 2, 1) := by decide +kernel
theorem d_X_begin_160 : decode b_X_begin 160 = .ok (.iload_n 3, 1) := by decide +kernel
theorem d_X_begin_161 : decode b_X_begin 161 = .ok (.iload 5, 2) := by decide +kernel
theorem d_X_begin_163 : decode b_X_begin 163 = .ok (.invokestatic 287, 3) := by decide +kernel
theorem d_X_begin_166 : decode b_X_begin 166 = .ok (.imul, 1) := by decide +kernel
theorem d_X_begin_167 : decode b_X_begin 167 = .ok (.ireturn, 1) := by decide +kernel
theorem d_X_begin_168 : decode b_X_begin 168 = .ok (.iload_n 3, 1) := by decide +kernel
theorem d_X_begin_169 : decode b_X_begin 169 = .ok (.ireturn, 1) := by decide +kernel
theorem d_X_begin_170 : decode b_X_begin 170 = .ok (.aload_n 0, 1) := by decide +kernel
theorem d_X_begin_171 : decode b_X_begin 171 = .ok (.bipush 20, 2) := by decide +kernel
theorem d_X_begin_173 : decode b_X_begin 173 = .ok (.aload_n 2, 1) := by decide +kernel
theorem d_X_begin_174 : decode b_X_begin 174 = .ok (.iload_n 3, 1) := by decide +kernel
theorem d_X_begin_175 : decode b_X_begin 175 = .ok (.iload 5, 2) := by decide +kernel
theorem d_X_begin_177 : decode b_X_begin 177 = .ok (.invokestatic 287, 3) := by decide +kernel
theorem d_X_begin_180 : decode b_X_begin 180 = .ok (.aload_n 2, 1) := by decide +kernel
theorem d_X_begin_181 : decode b_X_begin 181 = .ok (.getfield 192, 3) := by decide +kernel
theorem d_X_begin_184 : decode b_X_begin 184 = .ok (.iadd, 1) := by decide +kernel
theorem d_X_begin_185 : decode b_X_begin 185 = .ok (.ireturn, 1) := by decide +kernel
theorem d_X_begin_186 : decode b_X_begin 186 = .ok (.aload_n 0, 1) := by decide +kernel
theorem d_X_begin_187 : decode b_X_begin 187 = .ok (.bipush 21, 2) := by decide +kernel
theorem d_X_begin_189 : decode b_X_begin 189 = .ok (.aload_n 2, 1) := by decide +kernel
theorem d_X_begin_190 : decode b_X_begin 190 = .ok (.iload_n 3, 1) := by decide +kernel
theorem d_X_begin_191 : decode b_X_begin 191 = .ok (.iload 5, 2) := by decide +kernel
theorem d_X_begin_193 : decode b_X_begin 193 = .ok (.invokestatic 287, 3) := by decide +kernel
theorem d_X_begin_196 : decode b_X_begin 196 = .ok (.sipush 1000, 3) := by decide +kernel
theorem d_X_begin_199 : decode b_X_begin 199 = .ok (.isub, 1) := by decide +kernel
theorem d_X_begin_200 : decode b_X_begin 200 = .ok (.ireturn, 1) := by decide +kernel
theorem d_X_begin_201 : decode b_X_begin 201 = .ok (.aload_n 0, 1) := by decide +kernel
theorem d_X_begin_202 : decode b_X_begin 202 = .ok (.bipush 20, 2) := by decide +kernel
theorem d_X_begin_204 : decode b_X_begin 204 = .ok (.aload_n 2, 1) := by decide +kernel
theorem d_X_begin_205 : decode b_X_begin 205 = .ok (.iload_n 3, 1) := by decide +kernel
theorem d_X_begin_206 : decode b_X_begin 206 = .ok (.iload 5, 2) := by decide +kernel
theorem d_X_begin_208 : decode b_X_begin 208 = .ok (.invokestatic 287, 3) := by decide +kernel
theorem d_X_begin_211 : decode b_X_begin 211 = .ok (.aload_n 0, 1) := by decide +kernel
theorem d_X_begin_212 : decode b_X_begin 212 = .ok (.iconst 0, 1) := by decide +kernel
theorem d_X_begin_213 : decode b_X_begin 213 = .ok (.aload_n 2, 1) := by decide +kernel
theorem d_X_begin_214 : decode b_X_begin 214 = .ok (.getfield 277, 3) := by decide +kernel
theorem d_X_begin_217 : decode b_X_begin 217 = .ok (.invokestatic 284, 3) := by decide +kernel
theorem d_X_begin_220 : decode b_X_begin 220 = .ok (.aload_n 2, 1) := by decide +kernel
theorem d_X_begin_221 : decode b_X_begin 221 = .ok (.iload_n 3, 1) := by decide +kernel
theorem d_X_begin_222 : decode b_X_begin 222 = .ok (.iload 5, 2) := by decide +kernel
theorem d_X_begin_224 : decode b_X_begin 224 = .ok (.invokestatic 287, 3) := by decide +kernel
theorem d_X_begin_227 : decode b_X_begin 227 = .ok (.isub, 1) := by decide +kernel
theorem d_X_begin_228 : decode b_X_begin 228 = .ok (.ireturn, 1) := by decide +kernel
theorem d_X_begin_229 : decode b_X_begin 229 = .ok (.iconst 2, 1) := by decide +kernel
theorem d_X_begin_230 : decode b_X_begin 230 = .ok (.aload_n 0, 1) := by decide +kernel
theorem d_X_begin_231 : decode b_X_begin 231 = .ok (.bipush 21, 2) := by decide +kernel
theorem d_X_begin_233 : decode b_X_begin 233 = .ok (.aload_n 2, 1) := by decide +kernel
theorem d_X_begin_234 : decode b_X_begin 234 = .ok (.iload_n 3, 1) := by decide +kernel
theorem d_X_begin_235 : decode b_X_begin 235 = .ok (.iload 5, 2) := by decide +kernel
theorem d_X_begin_237 : decode b_X_begin 237 = .ok (.invokestatic 287, 3) := by decide +kernel
theorem d_X_begin_240 : decode b_X_begin 240 = .ok (.imul, 1) := by decide +kernel
theorem d_X_begin_241 : decode b_X_begin 241 = .ok (.ireturn, 1) := by decide +kernel
theorem d_X_begin_242 : decode b_X_begin 242 = .ok (.iconst 0, 1) := by decide +kernel
theorem d_X_begin_243 : decode b_X_begin 243 = .ok (.ireturn, 1) := by decide +kernel
theorem d_X_behind_0 : decode b_X_behind 0 = .ok (.aload_n 0, 1) := by decide +kernel
theorem d_X_behind_1 : decode b_X_behind 1 = .ok (.iload_n 1, 1) := by decide +kernel
theorem d_X_behind_2 : decode b_X_behind 2 = .ok (.iconst 0, 1) := by decide +kernel
theorem d_X_behind_3 : decode b_X_behind 3 = .ok (.bipush 60, 2) := by decide +kernel
theorem d_X_behind_5 : decode b_X_behind 5 = .ok (.invokestatic 62, 3) := by decide +kernel
theorem d_X_behind_8 : decode b_X_behind 8 = .ok (.invokevirtual 198, 3) := by decide +kernel
theorem d_X_behind_11 : decode b_X_behind 11 = .ok (.istore_n 2, 1) := by decide +kernel
theorem d_X_behind_12 : decode b_X_behind 12 = .ok (.iload_n 2, 1) := by decide +kernel
theorem d_X_behind_13 : decode b_X_behind 13 = .ok (.ifCond .eq 7, 3) := by decide +kernel
theorem d_X_behind_16 : decode b_X_behind 16 = .ok (.iload_n 2, 1) := by decide +kernel
theorem d_X_behind_17 : decode b_X_behind 17 = .ok (.goto 11, 3) := by decide +kernel
theorem d_X_behind_20 : decode b_X_behind 20 = .ok (.aload_n 0, 1) := by decide +kernel
theorem d_X_behind_21 : decode b_X_behind 21 = .ok (.iload_n 1, 1) := by decide +kernel
theorem d_X_behind_22 : decode b_X_behind 22 = .ok (.invokevirtual 202, 3) := by decide +kernel
theorem d_X_behind_25 : decode b_X_behind 25 = .ok (.getfield 149, 3) := by decide +kernel
theorem d_X_behind_28 : decode b_X_behind 28 = .ok (.ireturn, 1) := by decide +kernel
theorem d_X_bodyOf_0 : decode b_X_bodyOf 0 = .ok (.iload_n 1, 1) := by decide +kernel
theorem d_X_bodyOf_1 : decode b_X_bodyOf 1 = .ok (.iconst 0, 1) := by decide +kernel
theorem d_X_bodyOf_2 : decode b_X_bodyOf 2 = .ok (.iconst 5, 1) := by decide +kernel
theorem d_X_bodyOf_3 : decode b_X_bodyOf 3 = .ok (.invokestatic 62, 3) := by decide +kernel
theorem d_X_bodyOf_6 : decode b_X_bodyOf 6 = .ok (.ifCond .eq 7, 3) := by decide +kernel
theorem d_X_bodyOf_9 : decode b_X_bodyOf 9 = .ok (.iload_n 1, 1) := by decide +kernel
theorem d_X_bodyOf_10 : decode b_X_bodyOf 10 = .ok (.goto 4, 3) := by decide +kernel
theorem d_X_bodyOf_13 : decode b_X_bodyOf 13 = .ok (.iconst 0, 1) := by decide +kernel
theorem d_X_bodyOf_14 : decode b_X_bodyOf 14 = .ok (.istore_n 2, 1) := by decide +kernel
theorem d_X_bodyOf_15 : decode b_X_bodyOf 15 = .ok (.iload_n 0, 1) := by decide +kernel
theorem d_X_bodyOf_16 : decode b_X_bodyOf 16 = .ok (.ifCond .ne 11, 3) := by decide +kernel
theorem d_X_bodyOf_19 : decode b_X_bodyOf 19 = .ok (.getstatic 313, 3) := by decide +kernel
theorem d_X_bodyOf_22 : decode b_X_bodyOf 22 = .ok (.iload_n 2, 1) := by decide +kernel
theorem d_X_bodyOf_23 : decode b_X_bodyOf 23 = .ok (.iaload, 1) := by decide +kernel
theorem d_X_bodyOf_24 : decode b_X_bodyOf 24 = .ok (.goto 8, 3) := by decide +kernel
theorem d_X_bodyOf_27 : decode b_X_bodyOf 27 = .ok (.getstatic 316, 3) := by decide +kernel
theorem d_X_bodyOf_30 : decode b_X_bodyOf 30 = .ok (.iload_n 2, 1) := by decide +kernel
theorem d_X_bodyOf_31 : decode b_X_bodyOf 31 = .ok (.iaload, 1) := by decide +kernel
theorem d_X_bodyOf_32 : decode b_X_bodyOf 32 = .ok (.ireturn, 1) := by decide +kernel
theorem d_X_burden_0 : decode b_X_burden 0 = .ok (.aload_n 0, 1) := by decide +kernel
theorem d_X_burden_1 : decode b_X_burden 1 = .ok (.iload_n 1, 1) := by decide +kernel
theorem d_X_burden_2 : decode b_X_burden 2 = .ok (.iconst 0, 1) := by decide +kernel
theorem d_X_burden_3 : decode b_X_burden 3 = .ok (.bipush 60, 2) := by decide +kernel
theorem d_X_burden_5 : decode b_X_burden 5 = .ok (.invokestatic 62, 3) := by decide +kernel
theorem d_X_burden_8 : decode b_X_burden 8 = .ok (.invokevirtual 198, 3) := by decide +kernel
theorem d_X_burden_11 : decode b_X_burden 11 = .ok (.istore_n 2, 1) := by decide +kernel
theorem d_X_burden_12 : decode b_X_burden 12 = .ok (.iload_n 2, 1) := by decide +kernel
theorem d_X_burden_13 : decode b_X_burden 13 = .ok (.ifCond .eq 7, 3) := by decide +kernel
theorem d_X_burden_16 : decode b_X_burden 16 = .ok (.iload_n 2, 1) := by decide +kernel
theorem d_X_burden_17 : decode b_X_burden 17 = .ok (.goto 11, 3) := by decide +kernel
theorem d_X_burden_20 : decode b_X_burden 20 = .ok (.aload_n 0, 1) := by decide +kernel
theorem d_X_burden_21 : decode b_X_burden 21 = .ok (.iload_n 1, 1) := by decide +kernel
theorem d_X_burden_22 : decode b_X_burden 22 = .ok (.invokevirtual 202, 3) := by decide +kernel
theorem d_X_burden_25 : decode b_X_burden 25 = .ok (.invokevirtual 206, 3) := by decide +kernel
theorem d_X_burden_28 : decode b_X_burden 28 = .ok (.ireturn, 1) := by decide +kernel
theorem d_X_copy_0 : decode b_X_copy 0 = .ok (.iload_n 1, 1) := by decide +kernel
theorem d_X_copy_1 : decode b_X_copy 1 = .ok (.invokestatic 58, 3) := by decide +kernel
theorem d_X_copy_4 : decode b_X_copy 4 = .ok (.ifCond .eq 10, 3) := by decide +kernel
theorem d_X_copy_7 : decode b_X_copy 7 = .ok (.iload_n 3, 1) := by decide +kernel
theorem d_X_copy_8 : decode b_X_copy 8 = .ok (.invokestatic 58, 3) := by decide +kernel
theorem d_X_copy_11 : decode b_X_copy 11 = .ok (.ifCond .ne 6, 3) := by decide +kernel
theorem d_X_copy_14 : decode b_X_copy 14 = .ok (.ldc 66, 2) := by decide +kernel
theorem d_X_copy_16 : decode b_X_copy 16 = .ok (.ireturn, 1) := by decide +kernel
theorem d_X_copy_17 : decode b_X_copy 17 = .ok (.aload_n 0, 1) := by decide +kernel
theorem d_X_copy_18 : decode b_X_copy 18 = .ok (.getfield 11, 3) := by decide +kernel
theorem d_X_copy_21 : decode b_X_copy 21 = .ok (.iload_n 1, 1) := by decide +kernel
theorem d_X_copy_22 : decode b_X_copy 22 = .ok (.aaload, 1) := by decide +kernel
theorem d_X_copy_23 : decode b_X_copy 23 = .ok (.astore 6, 2) := by decide +kernel
theorem d_X_copy_25 : decode b_X_copy 25 = .ok (.aload_n 0, 1) := by decide +kernel
theorem d_X_copy_26 : decode b_X_copy 26 = .ok (.getfield 11, 3) := by decide +kernel
theorem d_X_copy_29 : decode b_X_copy 29 = .ok (.iload_n 3, 1) := by decide +kernel
theorem d_X_copy_30 : decode b_X_copy 30 = .ok (.aaload, 1) := by decide +kernel
theorem d_X_copy_31 : decode b_X_copy 31 = .ok (.astore 7, 2) := by decide +kernel
theorem d_X_copy_33 : decode b_X_copy 33 = .ok (.aload 6, 2) := by decide +kernel
theorem d_X_copy_35 : decode b_X_copy 35 = .ok (.getfield 78, 3) := by decide +kernel
theorem d_X_copy_38 : decode b_X_copy 38 = .ok (.ifCond .ne 11, 3) := by decide +kernel
theorem d_X_copy_41 : decode b_X_copy 41 = .ok (.aload 7, 2) := by decide +kernel
theorem d_X_copy_43 : decode b_X_copy 43 = .ok (.getfield 78, 3) := by decide +kernel
theorem d_X_copy_46 : decode b_X_copy 46 = .ok (.ifCond .eq 9, 3) := by decide +kernel
theorem d_X_copy_49 : decode b_X_copy 49 = .ok (.aload_n 0, 1) := by decide +kernel
theorem d_X_copy_50 : decode b_X_copy 50 = .ok (.iconst 1, 1) := by decide +kernel
theorem d_X_copy_51 : decode b_X_copy 51 = .ok (.invokevirtual 67, 3) := by decide +kernel
theorem d_X_copy_54 : decode b_X_copy 54 = .ok (.ireturn, 1) := by decide +kernel
theorem d_X_copy_55 : decode b_X_copy 55 = .ok (.aload 6, 2) := by decide +kernel
theorem d_X_copy_57 : decode b_X_copy 57 = .ok (.getfield 90, 3) := by decide +kernel
theorem d_X_copy_60 : decode b_X_copy 60 = .ok (.aload 7, 2) := by decide +kernel
theorem d_X_copy_62 : decode b_X_copy 62 = .ok (.getfield 90, 3) := by decide +kernel
theorem d_X_copy_65 : decode b_X_copy 65 = .ok (.if_icmp .eq 9, 3) := by decide +kernel
theorem d_X_copy_68 : decode b_X_copy 68 = .ok (.aload_n 0, 1) := by decide +kernel
theorem d_X_copy_69 : decode b_X_copy 69 = .ok (.iconst 5, 1) := by decide +kernel
theorem d_X_copy_70 : decode b_X_copy 70 = .ok (.invokevirtual 67, 3) := by decide +kernel
theorem d_X_copy_73 : decode b_X_copy 73 = .ok (.ireturn, 1) := by decide +kernel
theorem d_X_copy_74 : decode b_X_copy 74 = .ok (.aload 6, 2) := by decide +kernel
theorem d_X_copy_76 : decode b_X_copy 76 = .ok (.iload_n 2, 1) := by decide +kernel
theorem d_X_copy_77 : decode b_X_copy 77 = .ok (.iload 5, 2) := by decide +kernel
theorem d_X_copy_79 : decode b_X_copy 79 = .ok (.invokevirtual 82, 3) := by decide +kernel
theorem d_X_copy_82 : decode b_X_copy 82 = .ok (.ifCond .eq 15, 3) := by decide +kernel
theorem d_X_copy_85 : decode b_X_copy 85 = .ok (.aload 7, 2) := by decide +kernel
theorem d_X_copy_87 : decode b_X_copy 87 = .ok (.iload 4, 2) := by decide +kernel
theorem d_X_copy_89 : decode b_X_copy 89 = .ok (.iload 5, 2) := by decide +kernel
theorem d_X_copy_91 : decode b_X_copy 91 = .ok (.invokevirtual 82, 3) := by decide +kernel
theorem d_X_copy_94 : decode b_X_copy 94 = .ok (.ifCond .ne 9, 3) := by decide +kernel
theorem d_X_copy_97 : decode b_X_copy 97 = .ok (.aload_n 0, 1) := by decide +kernel
theorem d_X_copy_98 : decode b_X_copy 98 = .ok (.iconst 2, 1) := by decide +kernel
theorem d_X_copy_99 : decode b_X_copy 99 = .ok (.invokevirtual 67, 3) := by decide +kernel
theorem d_X_copy_102 : decode b_X_copy 102 = .ok (.ireturn, 1) := by decide +kernel
theorem d_X_copy_103 : decode b_X_copy 103 = .ok (.aload 6, 2) := by decide +kernel
theorem d_X_copy_105 : decode b_X_copy 105 = .ok (.getfield 94, 3) := by decide +kernel
theorem d_X_copy_108 : decode b_X_copy 108 = .ok (.iload_n 2, 1) := by decide +kernel
theorem d_X_copy_109 : decode b_X_copy 109 = .ok (.aload 7, 2) := by decide +kernel
theorem d_X_copy_111 : decode b_X_copy 111 = .ok (.getfield 94, 3) := by decide +kernel
theorem d_X_copy_114 : decode b_X_copy 114 = .ok (.iload 4, 2) := by decide +kernel
theorem d_X_copy_116 : decode b_X_copy 116 = .ok (.iload 5, 2) := by decide +kernel
theorem d_X_copy_118 : decode b_X_copy 118 = .ok (.invokestatic 98, 3) := by decide +kernel
theorem d_X_copy_121 : decode b_X_copy 121 = .ok (.aload_n 0, 1) := by decide +kernel
theorem d_X_copy_122 : decode b_X_copy 122 = .ok (.iload 5, 2) := by decide +kernel
theorem d_X_copy_124 : decode b_X_copy 124 = .ok (.invokevirtual 75, 3) := by decide +kernel
theorem d_X_copy_127 : decode b_X_copy 127 = .ok (.ireturn, 1) := by decide +kernel
theorem d_X_count_0 : decode b_X_count 0 = .ok (.iload_n 1, 1) := by decide +kernel
theorem d_X_count_1 : decode b_X_count 1 = .ok (.tableswitch 132 0 9 #[55, 60, 68, 76, 84, 92, 100, 108, 116, 124], 55) := by decide +kernel
theorem d_X_count_56 : decode b_X_count 56 = .ok (.aload_n 0, 1) := by decide +kernel
theorem d_X_count_57 : decode b_X_count 57 = .ok (.invokevirtual 294, 3) := by decide +kernel
theorem d_X_count_60 : decode b_X_count 60 = .ok (.ireturn, 1) := by decide +kernel
theorem d_X_count_61 : decode b_X_count 61 = .ok (.aload_n 0, 1) := by decide +kernel
theorem d_X_count_62 : decode b_X_count 62 = .ok (.getfield 25, 3) := by decide +kernel
theorem d_X_count_65 : decode b_X_count 65 = .ok (.getfield 129, 3) := by decide +kernel
theorem d_X_count_68 : decode b_X_count 68 = .ok (.ireturn, 1) := by decide +kernel
theorem d_X_count_69 : decode b_X_count 69 = .ok (.aload_n 0, 1) := by decide +kernel
theorem d_X_count_70 : decode b_X_count 70 = .ok (.getfield 25, 3) := by decide +kernel
theorem d_X_count_73 : decode b_X_count 73 = .ok (.getfield 139, 3) := by decide +kernel
theorem d_X_count_76 : decode b_X_count 76 = .ok (.ireturn, 1) := by decide +kernel
theorem d_X_count_77 : decode b_X_count 77 = .ok (.aload_n 0, 1) := by decide +kernel
theorem d_X_count_78 : decode b_X_count 78 = .ok (.getfield 25, 3) := by decide +kernel
theorem d_X_count_81 : decode b_X_count 81 = .ok (.getfield 149, 3) := by decide +kernel
theorem d_X_count_84 : decode b_X_count 84 = .ok (.ireturn, 1) := by decide +kernel
theorem d_X_count_85 : decode b_X_count 85 = .ok (.aload_n 0, 1) := by decide +kernel
theorem d_X_count_86 : decode b_X_count 86 = .ok (.getfield 25, 3) := by decide +kernel
theorem d_X_count_89 : decode b_X_count 89 = .ok (.invokevirtual 168, 3) := by decide +kernel
theorem d_X_count_92 : decode b_X_count 92 = .ok (.ireturn, 1) := by decide +kernel
theorem d_X_count_93 : decode b_X_count 93 = .ok (.aload_n 0, 1) := by decide +kernel
theorem d_X_count_94 : decode b_X_count 94 = .ok (.getfield 25, 3) := by decide +kernel
theorem d_X_count_97 : decode b_X_count 97 = .ok (.getfield 209, 3) := by decide +kernel
theorem d_X_count_100 : decode b_X_count 100 = .ok (.ireturn, 1) := by decide +kernel
theorem d_X_count_101 : decode b_X_count 101 = .ok (.aload_n 0, 1) := by decide +kernel
theorem d_X_count_102 : decode b_X_count 102 = .ok (.getfield 39, 3) := by decide +kernel
theorem d_X_count_105 : decode b_X_count 105 = .ok (.getfield 183, 3) := by decide +kernel
theorem d_X_count_108 : decode b_X_count 108 = .ok (.ireturn, 1) := by decide +kernel
theorem d_X_count_109 : decode b_X_count 109 = .ok (.aload_n 0, 1) := by decide +kernel
theorem d_X_count_110 : decode b_X_count 110 = .ok (.getfield 18, 3) := by decide +kernel
theorem d_X_count_113 : decode b_X_count 113 = .ok (.getfield 110, 3) := by decide +kernel
theorem d_X_count_116 : decode b_X_count 116 = .ok (.ireturn, 1) := by decide +kernel
theorem d_X_count_117 : decode b_X_count 117 = .ok (.aload_n 0, 1) := by decide +kernel
theorem d_X_count_118 : decode b_X_count 118 = .ok (.getfield 25, 3) := by decide +kernel
theorem d_X_count_121 : decode b_X_count 121 = .ok (.getfield 162, 3) := by decide +kernel
theorem d_X_count_124 : decode b_X_count 124 = .ok (.ireturn, 1) := by decide +kernel
theorem d_X_count_125 : decode b_X_count 125 = .ok (.aload_n 0, 1) := by decide +kernel
theorem d_X_count_126 : decode b_X_count 126 = .ok (.getfield 25, 3) := by decide +kernel
theorem d_X_count_129 : decode b_X_count 129 = .ok (.getfield 297, 3) := by decide +kernel
theorem d_X_count_132 : decode b_X_count 132 = .ok (.ireturn, 1) := by decide +kernel
theorem d_X_count_133 : decode b_X_count 133 = .ok (.ldc 66, 2) := by decide +kernel
theorem d_X_count_135 : decode b_X_count 135 = .ok (.ireturn, 1) := by decide +kernel
theorem d_X_days_0 : decode b_X_days 0 = .ok (.aload_n 0, 1) := by decide +kernel
theorem d_X_days_1 : decode b_X_days 1 = .ok (.getfield 25, 3) := by decide +kernel
theorem d_X_days_4 : decode b_X_days 4 = .ok (.getfield 135, 3) := by decide +kernel
theorem d_X_days_7 : decode b_X_days 7 = .ok (.ifCond .ne 6, 3) := by decide +kernel
theorem d_X_days_10 : decode b_X_days 10 = .ok (.ldc 138, 2) := by decide +kernel
theorem d_X_days_12 : decode b_X_days 12 = .ok (.ireturn, 1) := by decide +kernel
theorem d_X_days_13 : decode b_X_days 13 = .ok (.iload_n 1, 1) := by decide +kernel
theorem d_X_days_14 : decode b_X_days 14 = .ok (.iconst 1, 1) := by decide +kernel
theorem d_X_days_15 : decode b_X_days 15 = .ok (.bipush 24, 2) := by decide +kernel
theorem d_X_days_17 : decode b_X_days 17 = .ok (.invokestatic 62, 3) := by decide +kernel
theorem d_X_days_20 : decode b_X_days 20 = .ok (.ifCond .ne 6, 3) := by decide +kernel
theorem d_X_days_23 : decode b_X_days 23 = .ok (.ldc 66, 2) := by decide +kernel
theorem d_X_days_25 : decode b_X_days 25 = .ok (.ireturn, 1) := by decide +kernel
theorem d_X_days_26 : decode b_X_days 26 = .ok (.aload_n 0, 1) := by decide +kernel
theorem d_X_days_27 : decode b_X_days 27 = .ok (.getfield 25, 3) := by decide +kernel
theorem d_X_days_30 : decode b_X_days 30 = .ok (.getfield 139, 3) := by decide +kernel
theorem d_X_days_33 : decode b_X_days 33 = .ok (.iload_n 1, 1) := by decide +kernel
theorem d_X_days_34 : decode b_X_days 34 = .ok (.iadd, 1) := by decide +kernel
theorem d_X_days_35 : decode b_X_days 35 = .ok (.sipush 999, 3) := by decide +kernel
theorem d_X_days_38 : decode b_X_days 38 = .ok (.if_icmp .le 6, 3) := by decide +kernel
theorem d_X_days_41 : decode b_X_days 41 = .ok (.ldc 113, 2) := by decide +kernel
theorem d_X_days_43 : decode b_X_days 43 = .ok (.ireturn, 1) := by decide +kernel
theorem d_X_days_44 : decode b_X_days 44 = .ok (.iconst 0, 1) := by decide +kernel
theorem d_X_days_45 : decode b_X_days 45 = .ok (.istore_n 2, 1) := by decide +kernel
theorem d_X_days_46 : decode b_X_days 46 = .ok (.iload_n 2, 1) := by decide +kernel
theorem d_X_days_47 : decode b_X_days 47 = .ok (.iload_n 1, 1) := by decide +kernel
theorem d_X_days_48 : decode b_X_days 48 = .ok (.if_icmp .ge 28, 3) := by decide +kernel
theorem d_X_days_51 : decode b_X_days 51 = .ok (.aload_n 0, 1) := by decide +kernel
theorem d_X_days_52 : decode b_X_days 52 = .ok (.getfield 39, 3) := by decide +kernel
theorem d_X_days_55 : decode b_X_days 55 = .ok (.aload_n 0, 1) := by decide +kernel
theorem d_X_days_56 : decode b_X_days 56 = .ok (.getfield 25, 3) := by decide +kernel
theorem d_X_days_59 : decode b_X_days 59 = .ok (.invokevirtual 142, 3) := by decide +kernel
theorem d_X_days_62 : decode b_X_days 62 = .ok (.aload_n 0, 1) := by decide +kernel
theorem d_X_days_63 : decode b_X_days 63 = .ok (.getfield 25, 3) := by decide +kernel
theorem d_X_days_66 : decode b_X_days 66 = .ok (.invokevirtual 145, 3) := by decide +kernel
theorem d_X_days_69 : decode b_X_days 69 = .ok (.pop, 1) := by decide +kernel
theorem d_X_days_70 : decode b_X_days 70 = .ok (.iinc 2 1, 3) := by decide +kernel
theorem d_X_days_73 : decode b_X_days 73 = .ok (.goto (-27), 3) := by decide +kernel
theorem d_X_days_76 : decode b_X_days 76 = .ok (.aload_n 0, 1) := by decide +kernel
theorem d_X_days_77 : decode b_X_days 77 = .ok (.getfield 25, 3) := by decide +kernel
theorem d_X_days_80 : decode b_X_days 80 = .ok (.getfield 149, 3) := by decide +kernel
theorem d_X_days_83 : decode b_X_days 83 = .ok (.ireturn, 1) := by decide +kernel
theorem d_X_drawn_0 : decode b_X_drawn 0 = .ok (.aload_n 0, 1) := by decide +kernel
theorem d_X_drawn_1 : decode b_X_drawn 1 = .ok (.iload_n 1, 1) := by decide +kernel
theorem d_X_drawn_2 : decode b_X_drawn 2 = .ok (.iconst 0, 1) := by decide +kernel
theorem d_X_drawn_3 : decode b_X_drawn 3 = .ok (.bipush 60, 2) := by decide +kernel
theorem d_X_drawn_5 : decode b_X_drawn 5 = .ok (.invokestatic 62, 3) := by decide +kernel
theorem d_X_drawn_8 : decode b_X_drawn 8 = .ok (.ifCond .eq 27, 3) := by decide +kernel
theorem d_X_drawn_11 : decode b_X_drawn 11 = .ok (.iload_n 2, 1) := by decide +kernel
theorem d_X_drawn_12 : decode b_X_drawn 12 = .ok (.iconst 1, 1) := by decide +kernel
theorem d_X_drawn_13 : decode b_X_drawn 13 = .ok (.ldc_w 268, 3) := by decide +kernel
theorem d_X_drawn_16 : decode b_X_drawn 16 = .ok (.invokestatic 62, 3) := by decide +kernel
theorem d_X_drawn_19 : decode b_X_drawn 19 = .ok (.ifCond .eq 16, 3) := by decide +kernel
theorem d_X_drawn_22 : decode b_X_drawn 22 = .ok (.iload_n 3, 1) := by decide +kernel
theorem d_X_drawn_23 : decode b_X_drawn 23 = .ok (.iconst 0, 1) := by decide +kernel
theorem d_X_drawn_24 : decode b_X_drawn 24 = .ok (.iconst 1, 1) := by decide +kernel
theorem d_X_drawn_25 : decode b_X_drawn 25 = .ok (.invokestatic 62, 3) := by decide +kernel
theorem d_X_drawn_28 : decode b_X_drawn 28 = .ok (.ifCond .eq 7, 3) := by decide +kernel
theorem d_X_drawn_31 : decode b_X_drawn 31 = .ok (.iconst 1, 1) := by decide +kernel
theorem d_X_drawn_32 : decode b_X_drawn 32 = .ok (.goto 4, 3) := by decide +kernel
theorem d_X_drawn_35 : decode b_X_drawn 35 = .ok (.iconst 0, 1) := by decide +kernel
theorem d_X_drawn_36 : decode b_X_drawn 36 = .ok (.invokevirtual 198, 3) := by decide +kernel
theorem d_X_drawn_39 : decode b_X_drawn 39 = .ok (.istore 4, 2) := by decide +kernel
theorem d_X_drawn_41 : decode b_X_drawn 41 = .ok (.iload 4, 2) := by decide +kernel
theorem d_X_drawn_43 : decode b_X_drawn 43 = .ok (.ifCond .eq 6, 3) := by decide +kernel
theorem d_X_drawn_46 : decode b_X_drawn 46 = .ok (.iload 4, 2) := by decide +kernel
theorem d_X_drawn_48 : decode b_X_drawn 48 = .ok (.ireturn, 1) := by decide +kernel
theorem d_X_drawn_49 : decode b_X_drawn 49 = .ok (.aload_n 0, 1) := by decide +kernel
theorem d_X_drawn_50 : decode b_X_drawn 50 = .ok (.getfield 29, 3) := by decide +kernel
theorem d_X_drawn_53 : decode b_X_drawn 53 = .ok (.aload_n 0, 1) := by decide +kernel
theorem d_X_drawn_54 : decode b_X_drawn 54 = .ok (.getfield 25, 3) := by decide +kernel
theorem d_X_drawn_57 : decode b_X_drawn 57 = .ok (.invokevirtual 122, 3) := by decide +kernel
theorem d_X_drawn_60 : decode b_X_drawn 60 = .ok (.iload_n 2, 1) := by decide +kernel
theorem d_X_drawn_61 : decode b_X_drawn 61 = .ok (.i2l, 1) := by decide +kernel
theorem d_X_drawn_62 : decode b_X_drawn 62 = .ok (.lstore 5, 2) := by decide +kernel
theorem d_X_drawn_64 : decode b_X_drawn 64 = .ok (.iconst 0, 1) := by decide +kernel
theorem d_X_drawn_65 : decode b_X_drawn 65 = .ok (.istore 7, 2) := by decide +kernel
theorem d_X_drawn_67 : decode b_X_drawn 67 = .ok (.iload 7, 2) := by decide +kernel
theorem d_X_drawn_69 : decode b_X_drawn 69 = .ok (.iload_n 1, 1) := by decide +kernel
theorem d_X_drawn_70 : decode b_X_drawn 70 = .ok (.if_icmp .ge 38, 3) := by decide +kernel
theorem d_X_drawn_73 : decode b_X_drawn 73 = .ok (.lload 5, 2) := by decide +kernel
theorem d_X_drawn_75 : decode b_X_drawn 75 = .ok (.ldc2_w 269, 3) := by decide +kernel
theorem d_X_drawn_78 : decode b_X_drawn 78 = .ok (.lmul, 1) := by decide +kernel
theorem d_X_drawn_79 : decode b_X_drawn 79 = .ok (.ldc2_w 271, 3) := by decide +kernel
theorem d_X_drawn_82 : decode b_X_drawn 82 = .ok (.lrem, 1) := by decide +kernel
theorem d_X_drawn_83 : decode b_X_drawn 83 = .ok (.lstore 5, 2) := by decide +kernel
theorem d_X_drawn_85 : decode b_X_drawn 85 = .ok (.aload_n 0, 1) := by decide +kernel
theorem d_X_drawn_86 : decode b_X_drawn 86 = .ok (.getfield 29, 3) := by decide +kernel
theorem d_X_drawn_89 : decode b_X_drawn 89 = .ok (.lload 5, 2) := by decide +kernel
theorem d_X_drawn_91 : decode b_X_drawn 91 = .ok (.invokevirtual 273, 3) := by decide +kernel
theorem d_X_drawn_94 : decode b_X_drawn 94 = .ok (.aload_n 0, 1) := by decide +kernel
theorem d_X_drawn_95 : decode b_X_drawn 95 = .ok (.getfield 29, 3) := by decide +kernel
theorem d_X_drawn_98 : decode b_X_drawn 98 = .ok (.invokevirtual 145, 3) := by decide +kernel
theorem d_X_drawn_101 : decode b_X_drawn 101 = .ok (.pop, 1) := by decide +kernel
theorem d_X_drawn_102 : decode b_X_drawn 102 = .ok (.iinc 7 1, 3) := by decide +kernel
theorem d_X_drawn_105 : decode b_X_drawn 105 = .ok (.goto (-38), 3) := by decide +kernel
theorem d_X_drawn_108 : decode b_X_drawn 108 = .ok (.iload_n 3, 1) := by decide +kernel
theorem d_X_drawn_109 : decode b_X_drawn 109 = .ok (.ifCond .ne 13, 3) := by decide +kernel
theorem d_X_drawn_112 : decode b_X_drawn 112 = .ok (.aload_n 0, 1) := by decide +kernel
theorem d_X_drawn_113 : decode b_X_drawn 113 = .ok (.getfield 29, 3) := by decide +kernel
theorem d_X_drawn_116 : decode b_X_drawn 116 = .ok (.getfield 209, 3) := by decide +kernel
theorem d_X_drawn_119 : decode b_X_drawn 119 = .ok (.goto 10, 3) := by decide +kernel
theorem d_X_drawn_122 : decode b_X_drawn 122 = .ok (.aload_n 0, 1) := by decide +kernel
theorem d_X_drawn_123 : decode b_X_drawn 123 = .ok (.getfield 29, 3) := by decide +kernel
theorem d_X_drawn_126 : decode b_X_drawn 126 = .ok (.getfield 162, 3) := by decide +kernel
theorem d_X_drawn_129 : decode b_X_drawn 129 = .ok (.ireturn, 1) := by decide +kernel
theorem d_X_dread_0 : decode b_X_dread 0 = .ok (.aload_n 0, 1) := by decide +kernel
theorem d_X_dread_1 : decode b_X_dread 1 = .ok (.getfield 25, 3) := by decide +kernel
theorem d_X_dread_4 : decode b_X_dread 4 = .ok (.iload_n 1, 1) := by decide +kernel
theorem d_X_dread_5 : decode b_X_dread 5 = .ok (.invokevirtual 152, 3) := by decide +kernel
theorem d_X_dread_8 : decode b_X_dread 8 = .ok (.ifCond .eq 13, 3) := by decide +kernel
theorem d_X_dread_11 : decode b_X_dread 11 = .ok (.iload_n 2, 1) := by decide +kernel
theorem d_X_dread_12 : decode b_X_dread 12 = .ok (.iconst 0, 1) := by decide +kernel
theorem d_X_dread_13 : decode b_X_dread 13 = .ok (.bipush 9, 2) := by decide +kernel
theorem d_X_dread_15 : decode b_X_dread 15 = .ok (.invokestatic 62, 3) := by decide +kernel
theorem d_X_dread_18 : decode b_X_dread 18 = .ok (.ifCond .ne 6, 3) := by decide +kernel
theorem d_X_dread_21 : decode b_X_dread 21 = .ok (.ldc 66, 2) := by decide +kernel
theorem d_X_dread_23 : decode b_X_dread 23 = .ok (.ireturn, 1) := by decide +kernel
theorem d_X_dread_24 : decode b_X_dread 24 = .ok (.aload_n 0, 1) := by decide +kernel
theorem d_X_dread_25 : decode b_X_dread 25 = .ok (.getfield 39, 3) := by decide +kernel
theorem d_X_dread_28 : decode b_X_dread 28 = .ok (.aload_n 0, 1) := by decide +kernel
theorem d_X_dread_29 : decode b_X_dread 29 = .ok (.getfield 25, 3) := by decide +kernel
theorem d_X_dread_32 : decode b_X_dread 32 = .ok (.invokevirtual 142, 3) := by decide +kernel
theorem d_X_dread_35 : decode b_X_dread 35 = .ok (.aload_n 0, 1) := by decide +kernel
theorem d_X_dread_36 : decode b_X_dread 36 = .ok (.getfield 25, 3) := by decide +kernel
theorem d_X_dread_39 : decode b_X_dread 39 = .ok (.getfield 171, 3) := by decide +kernel
theorem d_X_dread_42 : decode b_X_dread 42 = .ok (.iload_n 1, 1) := by decide +kernel
theorem d_X_dread_43 : decode b_X_dread 43 = .ok (.aaload, 1) := by decide +kernel
theorem d_X_dread_44 : decode b_X_dread 44 = .ok (.getfield 175, 3) := by decide +kernel
theorem d_X_dread_47 : decode b_X_dread 47 = .ok (.istore_n 3, 1) := by decide +kernel
theorem d_X_dread_48 : decode b_X_dread 48 = .ok (.aload_n 0, 1) := by decide +kernel
theorem d_X_dread_49 : decode b_X_dread 49 = .ok (.getfield 25, 3) := by decide +kernel
theorem d_X_dread_52 : decode b_X_dread 52 = .ok (.getfield 171, 3) := by decide +kernel
theorem d_X_dread_55 : decode b_X_dread 55 = .ok (.iload_n 1, 1) := by decide +kernel
theorem d_X_dread_56 : decode b_X_dread 56 = .ok (.aaload, 1) := by decide +kernel
theorem d_X_dread_57 : decode b_X_dread 57 = .ok (.iload_n 2, 1) := by decide +kernel
theorem d_X_dread_58 : decode b_X_dread 58 = .ok (.putfield 175, 3) := by decide +kernel
theorem d_X_dread_61 : decode b_X_dread 61 = .ok (.iload_n 3, 1) := by decide +kernel
theorem d_X_dread_62 : decode b_X_dread 62 = .ok (.ireturn, 1) := by decide +kernel
theorem d_X_drop_0 : decode b_X_drop 0 = .ok (.iload_n 1, 1) := by decide +kernel
theorem d_X_drop_1 : decode b_X_drop 1 = .ok (.invokestatic 58, 3) := by decide +kernel
theorem d_X_drop_4 : decode b_X_drop 4 = .ok (.ifCond .ne 6, 3) := by decide +kernel
theorem d_X_drop_7 : decode b_X_drop 7 = .ok (.ldc 66, 2) := by decide +kernel
theorem d_X_drop_9 : decode b_X_drop 9 = .ok (.ireturn, 1) := by decide +kernel
theorem d_X_drop_10 : decode b_X_drop 10 = .ok (.aload_n 0, 1) := by decide +kernel
theorem d_X_drop_11 : decode b_X_drop 11 = .ok (.getfield 11, 3) := by decide +kernel
theorem d_X_drop_14 : decode b_X_drop 14 = .ok (.iload_n 1, 1) := by decide +kernel
theorem d_X_drop_15 : decode b_X_drop 15 = .ok (.aaload, 1) := by decide +kernel
theorem d_X_drop_16 : decode b_X_drop 16 = .ok (.getfield 78, 3) := by decide +kernel
theorem d_X_drop_19 : decode b_X_drop 19 = .ok (.ifCond .eq 9, 3) := by decide +kernel
theorem d_X_drop_22 : decode b_X_drop 22 = .ok (.aload_n 0, 1) := by decide +kernel
theorem d_X_drop_23 : decode b_X_drop 23 = .ok (.iconst 1, 1) := by decide +kernel
theorem d_X_drop_24 : decode b_X_drop 24 = .ok (.invokevirtual 67, 3) := by decide +kernel
theorem d_X_drop_27 : decode b_X_drop 27 = .ok (.ireturn, 1) := by decide +kernel
theorem d_X_drop_28 : decode b_X_drop 28 = .ok (.aload_n 0, 1) := by decide +kernel
theorem d_X_drop_29 : decode b_X_drop 29 = .ok (.getfield 11, 3) := by decide +kernel
theorem d_X_drop_32 : decode b_X_drop 32 = .ok (.iload_n 1, 1) := by decide +kernel
theorem d_X_drop_33 : decode b_X_drop 33 = .ok (.aaload, 1) := by decide +kernel
theorem d_X_drop_34 : decode b_X_drop 34 = .ok (.iconst 1, 1) := by decide +kernel
theorem d_X_drop_35 : decode b_X_drop 35 = .ok (.putfield 78, 3) := by decide +kernel
theorem d_X_drop_38 : decode b_X_drop 38 = .ok (.aload_n 0, 1) := by decide +kernel
theorem d_X_drop_39 : decode b_X_drop 39 = .ok (.aload_n 0, 1) := by decide +kernel
theorem d_X_drop_40 : decode b_X_drop 40 = .ok (.getfield 11, 3) := by decide +kernel
theorem d_X_drop_43 : decode b_X_drop 43 = .ok (.iload_n 1, 1) := by decide +kernel
theorem d_X_drop_44 : decode b_X_drop 44 = .ok (.aaload, 1) := by decide +kernel
theorem d_X_drop_45 : decode b_X_drop 45 = .ok (.getfield 104, 3) := by decide +kernel
theorem d_X_drop_48 : decode b_X_drop 48 = .ok (.invokevirtual 75, 3) := by decide +kernel
theorem d_X_drop_51 : decode b_X_drop 51 = .ok (.ireturn, 1) := by decide +kernel
theorem d_X_ease_0 : decode b_X_ease 0 = .ok (.aload_n 0, 1) := by decide +kernel
theorem d_X_ease_1 : decode b_X_ease 1 = .ok (.iload_n 1, 1) := by decide +kernel
theorem d_X_ease_2 : decode b_X_ease 2 = .ok (.iconst 1, 1) := by decide +kernel
theorem d_X_ease_3 : decode b_X_ease 3 = .ok (.bipush 60, 2) := by decide +kernel
theorem d_X_ease_5 : decode b_X_ease 5 = .ok (.invokestatic 62, 3) := by decide +kernel
theorem d_X_ease_8 : decode b_X_ease 8 = .ok (.ifCond .eq 27, 3) := by decide +kernel
theorem d_X_ease_11 : decode b_X_ease 11 = .ok (.iload_n 2, 1) := by decide +kernel
theorem d_X_ease_12 : decode b_X_ease 12 = .ok (.iconst 0, 1) := by decide +kernel
theorem d_X_ease_13 : decode b_X_ease 13 = .ok (.sipush 300, 3) := by decide +kernel
theorem d_X_ease_16 : decode b_X_ease 16 = .ok (.invokestatic 62, 3) := by decide +kernel
theorem d_X_ease_19 : decode b_X_ease 19 = .ok (.ifCond .eq 16, 3) := by decide +kernel
theorem d_X_ease_22 : decode b_X_ease 22 = .ok (.iload_n 3, 1) := by decide +kernel
theorem d_X_ease_23 : decode b_X_ease 23 = .ok (.iconst 0, 1) := by decide +kernel
theorem d_X_ease_24 : decode b_X_ease 24 = .ok (.iconst 1, 1) := by decide +kernel
theorem d_X_ease_25 : decode b_X_ease 25 = .ok (.invokestatic 62, 3) := by decide +kernel
theorem d_X_ease_28 : decode b_X_ease 28 = .ok (.ifCond .eq 7, 3) := by decide +kernel
theorem d_X_ease_31 : decode b_X_ease 31 = .ok (.iconst 1, 1) := by decide +kernel
theorem d_X_ease_32 : decode b_X_ease 32 = .ok (.goto 4, 3) := by decide +kernel
theorem d_X_ease_35 : decode b_X_ease 35 = .ok (.iconst 0, 1) := by decide +kernel
theorem d_X_ease_36 : decode b_X_ease 36 = .ok (.invokevirtual 198, 3) := by decide +kernel
theorem d_X_ease_39 : decode b_X_ease 39 = .ok (.istore 4, 2) := by decide +kernel
theorem d_X_ease_41 : decode b_X_ease 41 = .ok (.iload 4, 2) := by decide +kernel
theorem d_X_ease_43 : decode b_X_ease 43 = .ok (.ifCond .eq 6, 3) := by decide +kernel
theorem d_X_ease_46 : decode b_X_ease 46 = .ok (.iload 4, 2) := by decide +kernel
theorem d_X_ease_48 : decode b_X_ease 48 = .ok (.ireturn, 1) := by decide +kernel
theorem d_X_ease_49 : decode b_X_ease 49 = .ok (.aload_n 0, 1) := by decide +kernel
theorem d_X_ease_50 : decode b_X_ease 50 = .ok (.getfield 25, 3) := by decide +kernel
theorem d_X_ease_53 : decode b_X_ease 53 = .ok (.getfield 149, 3) := by decide +kernel
theorem d_X_ease_56 : decode b_X_ease 56 = .ok (.istore 5, 2) := by decide +kernel
theorem d_X_ease_58 : decode b_X_ease 58 = .ok (.iconst 0, 1) := by decide +kernel
theorem d_X_ease_59 : decode b_X_ease 59 = .ok (.istore 6, 2) := by decide +kernel
theorem d_X_ease_61 : decode b_X_ease 61 = .ok (.iload 6, 2) := by decide +kernel
theorem d_X_ease_63 : decode b_X_ease 63 = .ok (.bipush 64, 2) := by decide +kernel
theorem d_X_ease_65 : decode b_X_ease 65 = .ok (.if_icmp .ge 35, 3) := by decide +kernel
theorem d_X_ease_68 : decode b_X_ease 68 = .ok (.aload_n 0, 1) := by decide +kernel
theorem d_X_ease_69 : decode b_X_ease 69 = .ok (.iload 6, 2) := by decide +kernel
theorem d_X_ease_71 : decode b_X_ease 71 = .ok (.iload 5, 2) := by decide +kernel
theorem d_X_ease_73 : decode b_X_ease 73 = .ok (.invokevirtual 228, 3) := by decide +kernel
theorem d_X_ease_76 : decode b_X_ease 76 = .ok (.ifCond .eq 18, 3) := by decide +kernel
theorem d_X_ease_79 : decode b_X_ease 79 = .ok (.aload_n 0, 1) := by decide +kernel
theorem d_X_ease_80 : decode b_X_ease 80 = .ok (.iload 6, 2) := by decide +kernel
theorem d_X_ease_82 : decode b_X_ease 82 = .ok (.iload_n 1, 1) := by decide +kernel
theorem d_X_ease_83 : decode b_X_ease 83 = .ok (.iload_n 2, 1) := by decide +kernel
theorem d_X_ease_84 : decode b_X_ease 84 = .ok (.invokevirtual 234, 3) := by decide +kernel
theorem d_X_ease_87 : decode b_X_ease 87 = .ok (.ifCond .eq 7, 3) := by decide +kernel
theorem d_X_ease_90 : decode b_X_ease 90 = .ok (.iload 6, 2) := by decide +kernel
theorem d_X_ease_92 : decode b_X_ease 92 = .ok (.istore 5, 2) := by decide +kernel
theorem d_X_ease_94 : decode b_X_ease 94 = .ok (.iinc 6 1, 3) := by decide +kernel
theorem d_X_ease_97 : decode b_X_ease 97 = .ok (.goto (-36), 3) := by decide +kernel
theorem d_X_ease_100 : decode b_X_ease 100 = .ok (.iload_n 3, 1) := by decide +kernel
theorem d_X_ease_101 : decode b_X_ease 101 = .ok (.ifCond .ne 11, 3) := by decide +kernel
theorem d_X_ease_104 : decode b_X_ease 104 = .ok (.iload 5, 2) := by decide +kernel
theorem d_X_ease_106 : decode b_X_ease 106 = .ok (.invokestatic 213, 3) := by decide +kernel
theorem d_X_ease_109 : decode b_X_ease 109 = .ok (.goto 5, 3) := by decide +kernel
theorem d_X_ease_112 : decode b_X_ease 112 = .ok (.iload 5, 2) := by decide +kernel
theorem d_X_ease_114 : decode b_X_ease 114 = .ok (.ireturn, 1) := by decide +kernel
theorem d_X_falls_0 : decode b_X_falls 0 = .ok (.aload_n 0, 1) := by decide +kernel
theorem d_X_falls_1 : decode b_X_falls 1 = .ok (.iload_n 1, 1) := by decide +kernel
theorem d_X_falls_2 : decode b_X_falls 2 = .ok (.iconst 0, 1) := by decide +kernel
theorem d_X_falls_3 : decode b_X_falls 3 = .ok (.iconst 1, 1) := by decide +kernel
theorem d_X_falls_4 : decode b_X_falls 4 = .ok (.invokestatic 62, 3) := by decide +kernel
theorem d_X_falls_7 : decode b_X_falls 7 = .ok (.invokevirtual 198, 3) := by decide +kernel
theorem d_X_falls_10 : decode b_X_falls 10 = .ok (.istore_n 2, 1) := by decide +kernel
theorem d_X_falls_11 : decode b_X_falls 11 = .ok (.iload_n 2, 1) := by decide +kernel
theorem d_X_falls_12 : decode b_X_falls 12 = .ok (.ifCond .eq 5, 3) := by decide +kernel
theorem d_X_falls_15 : decode b_X_falls 15 = .ok (.iload_n 2, 1) := by decide +kernel
theorem d_X_falls_16 : decode b_X_falls 16 = .ok (.ireturn, 1) := by decide +kernel
theorem d_X_falls_17 : decode b_X_falls 17 = .ok (.aload_n 0, 1) := by decide +kernel
theorem d_X_falls_18 : decode b_X_falls 18 = .ok (.getfield 29, 3) := by decide +kernel
theorem d_X_falls_21 : decode b_X_falls 21 = .ok (.aload_n 0, 1) := by decide +kernel
theorem d_X_falls_22 : decode b_X_falls 22 = .ok (.getfield 25, 3) := by decide +kernel
theorem d_X_falls_25 : decode b_X_falls 25 = .ok (.invokevirtual 122, 3) := by decide +kernel
theorem d_X_falls_28 : decode b_X_falls 28 = .ok (.iconst 1, 1) := by decide +kernel
theorem d_X_falls_29 : decode b_X_falls 29 = .ok (.istore_n 3, 1) := by decide +kernel
theorem d_X_falls_30 : decode b_X_falls 30 = .ok (.iload_n 3, 1) := by decide +kernel
theorem d_X_falls_31 : decode b_X_falls 31 = .ok (.bipush 60, 2) := by decide +kernel
theorem d_X_falls_33 : decode b_X_falls 33 = .ok (.if_icmp .gt 36, 3) := by decide +kernel
theorem d_X_falls_36 : decode b_X_falls 36 = .ok (.aload_n 0, 1) := by decide +kernel
theorem d_X_falls_37 : decode b_X_falls 37 = .ok (.getfield 29, 3) := by decide +kernel
theorem d_X_falls_40 : decode b_X_falls 40 = .ok (.invokevirtual 145, 3) := by decide +kernel
theorem d_X_falls_43 : decode b_X_falls 43 = .ok (.istore 4, 2) := by decide +kernel
theorem d_X_falls_45 : decode b_X_falls 45 = .ok (.iload 4, 2) := by decide +kernel
theorem d_X_falls_47 : decode b_X_falls 47 = .ok (.ldc 212, 2) := by decide +kernel
theorem d_X_falls_49 : decode b_X_falls 49 = .ok (.if_icmp .eq 14, 3) := by decide +kernel
theorem d_X_falls_52 : decode b_X_falls 52 = .ok (.iload_n 1, 1) := by decide +kernel
theorem d_X_falls_53 : decode b_X_falls 53 = .ok (.ifCond .ne 7, 3) := by decide +kernel
theorem d_X_falls_56 : decode b_X_falls 56 = .ok (.iload_n 3, 1) := by decide +kernel
theorem d_X_falls_57 : decode b_X_falls 57 = .ok (.goto 5, 3) := by decide +kernel
theorem d_X_falls_60 : decode b_X_falls 60 = .ok (.iload 4, 2) := by decide +kernel
theorem d_X_falls_62 : decode b_X_falls 62 = .ok (.ireturn, 1) := by decide +kernel
theorem d_X_falls_63 : decode b_X_falls 63 = .ok (.iinc 3 1, 3) := by decide +kernel
theorem d_X_falls_66 : decode b_X_falls 66 = .ok (.goto (-36), 3) := by decide +kernel
theorem d_X_falls_69 : decode b_X_falls 69 = .ok (.ldc 212, 2) := by decide +kernel
theorem d_X_falls_71 : decode b_X_falls 71 = .ok (.ireturn, 1) := by decide +kernel
theorem d_X_fault_0 : decode b_X_fault 0 = .ok (.aload_n 0, 1) := by decide +kernel
theorem d_X_fault_1 : decode b_X_fault 1 = .ok (.getfield 18, 3) := by decide +kernel
theorem d_X_fault_4 : decode b_X_fault 4 = .ok (.getfield 132, 3) := by decide +kernel
theorem d_X_fault_7 : decode b_X_fault 7 = .ok (.ireturn, 1) := by decide +kernel
theorem d_X_feed_0 : decode b_X_feed 0 = .ok (.iload_n 1, 1) := by decide +kernel
theorem d_X_feed_1 : decode b_X_feed 1 = .ok (.iconst 0, 1) := by decide +kernel
theorem d_X_feed_2 : decode b_X_feed 2 = .ok (.sipush 255, 3) := by decide +kernel
theorem d_X_feed_5 : decode b_X_feed 5 = .ok (.invokestatic 62, 3) := by decide +kernel
theorem d_X_feed_8 : decode b_X_feed 8 = .ok (.ifCond .ne 6, 3) := by decide +kernel
theorem d_X_feed_11 : decode b_X_feed 11 = .ok (.ldc 66, 2) := by decide +kernel
theorem d_X_feed_13 : decode b_X_feed 13 = .ok (.ireturn, 1) := by decide +kernel
theorem d_X_feed_14 : decode b_X_feed 14 = .ok (.aload_n 0, 1) := by decide +kernel
theorem d_X_feed_15 : decode b_X_feed 15 = .ok (.getfield 18, 3) := by decide +kernel
theorem d_X_feed_18 : decode b_X_feed 18 = .ok (.iload_n 1, 1) := by decide +kernel
theorem d_X_feed_19 : decode b_X_feed 19 = .ok (.invokevirtual 107, 3) := by decide +kernel
theorem d_X_feed_22 : decode b_X_feed 22 = .ok (.ifCond .eq 13, 3) := by decide +kernel
theorem d_X_feed_25 : decode b_X_feed 25 = .ok (.aload_n 0, 1) := by decide +kernel
theorem d_X_feed_26 : decode b_X_feed 26 = .ok (.getfield 18, 3) := by decide +kernel
theorem d_X_feed_29 : decode b_X_feed 29 = .ok (.getfield 110, 3) := by decide +kernel
theorem d_X_feed_32 : decode b_X_feed 32 = .ok (.goto 5, 3) := by decide +kernel
theorem d_X_feed_35 : decode b_X_feed 35 = .ok (.ldc 113, 2) := by decide +kernel
theorem d_X_feed_37 : decode b_X_feed 37 = .ok (.ireturn, 1) := by decide +kernel
theorem d_X_fits_0 : decode b_X_fits 0 = .ok (.aload_n 0, 1) := by decide +kernel
theorem d_X_fits_1 : decode b_X_fits 1 = .ok (.getfield 25, 3) := by decide +kernel
theorem d_X_fits_4 : decode b_X_fits 4 = .ok (.iload_n 1, 1) := by decide +kernel
theorem d_X_fits_5 : decode b_X_fits 5 = .ok (.invokevirtual 152, 3) := by decide +kernel
theorem d_X_fits_8 : decode b_X_fits 8 = .ok (.ifCond .eq 31, 3) := by decide +kernel
theorem d_X_fits_11 : decode b_X_fits 11 = .ok (.iload_n 2, 1) := by decide +kernel
theorem d_X_fits_12 : decode b_X_fits 12 = .ok (.invokestatic 58, 3) := by decide +kernel
theorem d_X_fits_15 : decode b_X_fits 15 = .ok (.ifCond .eq 24, 3) := by decide +kernel
theorem d_X_fits_18 : decode b_X_fits 18 = .ok (.iload 4, 2) := by decide +kernel
theorem d_X_fits_20 : decode b_X_fits 20 = .ok (.iconst 1, 1) := by decide +kernel
theorem d_X_fits_21 : decode b_X_fits 21 = .ok (.bipush 16, 2) := by decide +kernel
theorem d_X_fits_23 : decode b_X_fits 23 = .ok (.invokestatic 62, 3) := by decide +kernel
theorem d_X_fits_26 : decode b_X_fits 26 = .ok (.ifCond .eq 13, 3) := by decide +kernel
theorem d_X_fits_29 : decode b_X_fits 29 = .ok (.iload 5, 2) := by decide +kernel
theorem d_X_fits_31 : decode b_X_fits 31 = .ok (.iconst 0, 1) := by decide +kernel
theorem d_X_fits_32 : decode b_X_fits 32 = .ok (.iconst 2, 1) := by decide +kernel
theorem d_X_fits_33 : decode b_X_fits 33 = .ok (.invokestatic 62, 3) := by decide +kernel
theorem d_X_fits_36 : decode b_X_fits 36 = .ok (.ifCond .ne 6, 3) := by decide +kernel
theorem d_X_fits_39 : decode b_X_fits 39 = .ok (.ldc 66, 2) := by decide +kernel
theorem d_X_fits_41 : decode b_X_fits 41 = .ok (.ireturn, 1) := by decide +kernel
theorem d_X_fits_42 : decode b_X_fits 42 = .ok (.aload_n 0, 1) := by decide +kernel
theorem d_X_fits_43 : decode b_X_fits 43 = .ok (.getfield 11, 3) := by decide +kernel
theorem d_X_fits_46 : decode b_X_fits 46 = .ok (.iload_n 2, 1) := by decide +kernel
theorem d_X_fits_47 : decode b_X_fits 47 = .ok (.aaload, 1) := by decide +kernel
theorem d_X_fits_48 : decode b_X_fits 48 = .ok (.iload_n 3, 1) := by decide +kernel
theorem d_X_fits_49 : decode b_X_fits 49 = .ok (.iload 4, 2) := by decide +kernel
theorem d_X_fits_51 : decode b_X_fits 51 = .ok (.invokestatic 237, 3) := by decide +kernel
theorem d_X_fits_54 : decode b_X_fits 54 = .ok (.istore 6, 2) := by decide +kernel
theorem d_X_fits_56 : decode b_X_fits 56 = .ok (.iload 6, 2) := by decide +kernel
theorem d_X_fits_58 : decode b_X_fits 58 = .ok (.ifCond .eq 10, 3) := by decide +kernel
theorem d_X_fits_61 : decode b_X_fits 61 = .ok (.aload_n 0, 1) := by decide +kernel
theorem d_X_fits_62 : decode b_X_fits 62 = .ok (.iload 6, 2) := by decide +kernel
theorem d_X_fits_64 : decode b_X_fits 64 = .ok (.invokevirtual 67, 3) := by decide +kernel
theorem d_X_fits_67 : decode b_X_fits 67 = .ok (.ireturn, 1) := by decide +kernel
theorem d_X_fits_68 : decode b_X_fits 68 = .ok (.iconst 0, 1) := by decide +kernel
theorem d_X_fits_69 : decode b_X_fits 69 = .ok (.istore 7, 2) := by decide +kernel
theorem d_X_fits_71 : decode b_X_fits 71 = .ok (.iload 5, 2) := by decide +kernel
theorem d_X_fits_73 : decode b_X_fits 73 = .ok (.invokestatic 241, 3) := by decide +kernel
theorem d_X_fits_76 : decode b_X_fits 76 = .ok (.istore 8, 2) := by decide +kernel
theorem d_X_fits_78 : decode b_X_fits 78 = .ok (.iload 8, 2) := by decide +kernel
theorem d_X_fits_80 : decode b_X_fits 80 = .ok (.iload 5, 2) := by decide +kernel
theorem d_X_fits_82 : decode b_X_fits 82 = .ok (.invokestatic 244, 3) := by decide +kernel
theorem d_X_fits_85 : decode b_X_fits 85 = .ok (.if_icmp .gt 61, 3) := by decide +kernel
theorem d_X_fits_88 : decode b_X_fits 88 = .ok (.aload_n 0, 1) := by decide +kernel
theorem d_X_fits_89 : decode b_X_fits 89 = .ok (.getfield 29, 3) := by decide +kernel
theorem d_X_fits_92 : decode b_X_fits 92 = .ok (.aload_n 0, 1) := by decide +kernel
theorem d_X_fits_93 : decode b_X_fits 93 = .ok (.getfield 25, 3) := by decide +kernel
theorem d_X_fits_96 : decode b_X_fits 96 = .ok (.invokevirtual 122, 3) := by decide +kernel
theorem d_X_fits_99 : decode b_X_fits 99 = .ok (.aload_n 0, 1) := by decide +kernel
theorem d_X_fits_100 : decode b_X_fits 100 = .ok (.getfield 29, 3) := by decide +kernel
theorem d_X_fits_103 : decode b_X_fits 103 = .ok (.getfield 171, 3) := by decide +kernel
theorem d_X_fits_106 : decode b_X_fits 106 = .ok (.iload_n 1, 1) := by decide +kernel
theorem d_X_fits_107 : decode b_X_fits 107 = .ok (.aaload, 1) := by decide +kernel
theorem d_X_fits_108 : decode b_X_fits 108 = .ok (.iload 5, 2) := by decide +kernel
theorem d_X_fits_110 : decode b_X_fits 110 = .ok (.iload 8, 2) := by decide +kernel
theorem d_X_fits_112 : decode b_X_fits 112 = .ok (.invokevirtual 247, 3) := by decide +kernel
theorem d_X_fits_115 : decode b_X_fits 115 = .ok (.aload_n 0, 1) := by decide +kernel
theorem d_X_fits_116 : decode b_X_fits 116 = .ok (.aload_n 0, 1) := by decide +kernel
theorem d_X_fits_117 : decode b_X_fits 117 = .ok (.getfield 11, 3) := by decide +kernel
theorem d_X_fits_120 : decode b_X_fits 120 = .ok (.iload_n 2, 1) := by decide +kernel
theorem d_X_fits_121 : decode b_X_fits 121 = .ok (.aaload, 1) := by decide +kernel
theorem d_X_fits_122 : decode b_X_fits 122 = .ok (.iload_n 3, 1) := by decide +kernel
theorem d_X_fits_123 : decode b_X_fits 123 = .ok (.iload 4, 2) := by decide +kernel
theorem d_X_fits_125 : decode b_X_fits 125 = .ok (.invokevirtual 250, 3) := by decide +kernel
theorem d_X_fits_128 : decode b_X_fits 128 = .ok (.ifCond .eq 12, 3) := by decide +kernel
theorem d_X_fits_131 : decode b_X_fits 131 = .ok (.iload 7, 2) := by decide +kernel
theorem d_X_fits_133 : decode b_X_fits 133 = .ok (.iconst 1, 1) := by decide +kernel
theorem d_X_fits_134 : decode b_X_fits 134 = .ok (.iload 8, 2) := by decide +kernel
theorem d_X_fits_136 : decode b_X_fits 136 = .ok (.ishl, 1) := by decide +kernel
theorem d_X_fits_137 : decode b_X_fits 137 = .ok (.ior, 1) := by decide +kernel
theorem d_X_fits_138 : decode b_X_fits 138 = .ok (.istore 7, 2) := by decide +kernel
theorem d_X_fits_140 : decode b_X_fits 140 = .ok (.iinc 8 1, 3) := by decide +kernel
theorem d_X_fits_143 : decode b_X_fits 143 = .ok (.goto (-65), 3) := by decide +kernel
theorem d_X_fits_146 : decode b_X_fits 146 = .ok (.aload_n 0, 1) := by decide +kernel
theorem d_X_fits_147 : decode b_X_fits 147 = .ok (.iload 7, 2) := by decide +kernel
theorem d_X_fits_149 : decode b_X_fits 149 = .ok (.invokevirtual 75, 3) := by decide +kernel
theorem d_X_fits_152 : decode b_X_fits 152 = .ok (.ireturn, 1) := by decide +kernel
theorem d_X_flawOf_0 : decode b_X_flawOf 0 = .ok (.aload_n 0, 1) := by decide +kernel
theorem d_X_flawOf_1 : decode b_X_flawOf 1 = .ok (.getfield 78, 3) := by decide +kernel
theorem d_X_flawOf_4 : decode b_X_flawOf 4 = .ok (.ifCond .eq 5, 3) := by decide +kernel
theorem d_X_flawOf_7 : decode b_X_flawOf 7 = .ok (.iconst 1, 1) := by decide +kernel
theorem d_X_flawOf_8 : decode b_X_flawOf 8 = .ok (.ireturn, 1) := by decide +kernel
theorem d_X_flawOf_9 : decode b_X_flawOf 9 = .ok (.aload_n 0, 1) := by decide +kernel
theorem d_X_flawOf_10 : decode b_X_flawOf 10 = .ok (.iload_n 1, 1) := by decide +kernel
theorem d_X_flawOf_11 : decode b_X_flawOf 11 = .ok (.iload_n 2, 1) := by decide +kernel
theorem d_X_flawOf_12 : decode b_X_flawOf 12 = .ok (.invokevirtual 82, 3) := by decide +kernel
theorem d_X_flawOf_15 : decode b_X_flawOf 15 = .ok (.ifCond .eq 7, 3) := by decide +kernel
theorem d_X_flawOf_18 : decode b_X_flawOf 18 = .ok (.iconst 0, 1) := by decide +kernel
theorem d_X_flawOf_19 : decode b_X_flawOf 19 = .ok (.goto 4, 3) := by decide +kernel
theorem d_X_flawOf_22 : decode b_X_flawOf 22 = .ok (.iconst 2, 1) := by decide +kernel
theorem d_X_flawOf_23 : decode b_X_flawOf 23 = .ok (.ireturn, 1) := by decide +kernel
theorem d_X_foretell_0 : decode b_X_foretell 0 = .ok (.aload_n 0, 1) := by decide +kernel
theorem d_X_foretell_1 : decode b_X_foretell 1 = .ok (.getfield 29, 3) := by decide +kernel
theorem d_X_foretell_4 : decode b_X_foretell 4 = .ok (.aload_n 0, 1) := by decide +kernel
theorem d_X_foretell_5 : decode b_X_foretell 5 = .ok (.getfield 25, 3) := by decide +kernel
theorem d_X_foretell_8 : decode b_X_foretell 8 = .ok (.invokevirtual 122, 3) := by decide +kernel
theorem d_X_foretell_11 : decode b_X_foretell 11 = .ok (.iconst 0, 1) := by decide +kernel
theorem d_X_foretell_12 : decode b_X_foretell 12 = .ok (.istore_n 2, 1) := by decide +kernel
theorem d_X_foretell_13 : decode b_X_foretell 13 = .ok (.iload_n 2, 1) := by decide +kernel
theorem d_X_foretell_14 : decode b_X_foretell 14 = .ok (.iload_n 1, 1) := by decide +kernel
theorem d_X_foretell_15 : decode b_X_foretell 15 = .ok (.if_icmp .ge 17, 3) := by decide +kernel
theorem d_X_foretell_18 : decode b_X_foretell 18 = .ok (.aload_n 0, 1) := by decide +kernel
theorem d_X_foretell_19 : decode b_X_foretell 19 = .ok (.getfield 29, 3) := by decide +kernel
theorem d_X_foretell_22 : decode b_X_foretell 22 = .ok (.invokevirtual 145, 3) := by decide +kernel
theorem d_X_foretell_25 : decode b_X_foretell 25 = .ok (.pop, 1) := by decide +kernel
theorem d_X_foretell_26 : decode b_X_foretell 26 = .ok (.iinc 2 1, 3) := by decide +kernel
theorem d_X_foretell_29 : decode b_X_foretell 29 = .ok (.goto (-16), 3) := by decide +kernel
theorem d_X_foretell_32 : decode b_X_foretell 32 = .ok (.aload_n 0, 1) := by decide +kernel
theorem d_X_foretell_33 : decode b_X_foretell 33 = .ok (.getfield 29, 3) := by decide +kernel
theorem d_X_foretell_36 : decode b_X_foretell 36 = .ok (.areturn, 1) := by decide +kernel
theorem d_X_foretellWithout_0 : decode b_X_foretellWithout 0 = .ok (.aload_n 0, 1) := by decide +kernel
theorem d_X_foretellWithout_1 : decode b_X_foretellWithout 1 = .ok (.getfield 29, 3) := by decide +kernel
theorem d_X_foretellWithout_4 : decode b_X_foretellWithout 4 = .ok (.aload_n 0, 1) := by decide +kernel
theorem d_X_foretellWithout_5 : decode b_X_foretellWithout 5 = .ok (.getfield 25, 3) := by decide +kernel
theorem d_X_foretellWithout_8 : decode b_X_foretellWithout 8 = .ok (.invokevirtual 122, 3) := by decide +kernel
theorem d_X_foretellWithout_11 : decode b_X_foretellWithout 11 = .ok (.aload_n 0, 1) := by decide +kernel
theorem d_X_foretellWithout_12 : decode b_X_foretellWithout 12 = .ok (.getfield 29, 3) := by decide +kernel
theorem d_X_foretellWithout_15 : decode b_X_foretellWithout 15 = .ok (.aload_n 0, 1) := by decide +kernel
theorem d_X_foretellWithout_16 : decode b_X_foretellWithout 16 = .ok (.getfield 25, 3) := by decide +kernel
theorem d_X_foretellWithout_19 : decode b_X_foretellWithout 19 = .ok (.getfield 149, 3) := by decide +kernel
theorem d_X_foretellWithout_22 : decode b_X_foretellWithout 22 = .ok (.iload_n 1, 1) := by decide +kernel
theorem d_X_foretellWithout_23 : decode b_X_foretellWithout 23 = .ok (.iconst (-1), 1) := by decide +kernel
theorem d_X_foretellWithout_24 : decode b_X_foretellWithout 24 = .ok (.ixor, 1) := by decide +kernel
theorem d_X_foretellWithout_25 : decode b_X_foretellWithout 25 = .ok (.iand, 1) := by decide +kernel
theorem d_X_foretellWithout_26 : decode b_X_foretellWithout 26 = .ok (.putfield 149, 3) := by decide +kernel
theorem d_X_foretellWithout_29 : decode b_X_foretellWithout 29 = .ok (.return_, 1) := by decide +kernel
theorem d_X_found_0 : decode b_X_found 0 = .ok (.aload_n 0, 1) := by decide +kernel
theorem d_X_found_1 : decode b_X_found 1 = .ok (.iload_n 1, 1) := by decide +kernel
theorem d_X_found_2 : decode b_X_found 2 = .ok (.putfield 300, 3) := by decide +kernel
theorem d_X_found_5 : decode b_X_found 5 = .ok (.ldc_w 303, 3) := by decide +kernel
theorem d_X_found_8 : decode b_X_found 8 = .ok (.iload_n 1, 1) := by decide +kernel
theorem d_X_found_9 : decode b_X_found 9 = .ok (.isub, 1) := by decide +kernel
theorem d_X_found_10 : decode b_X_found 10 = .ok (.ireturn, 1) := by decide +kernel
theorem d_X_foundNothing_0 : decode b_X_foundNothing 0 = .ok (.aload_n 0, 1) := by decide +kernel
theorem d_X_foundNothing_1 : decode b_X_foundNothing 1 = .ok (.iconst 0, 1) := by decide +kernel
theorem d_X_foundNothing_2 : decode b_X_foundNothing 2 = .ok (.putfield 300, 3) := by decide +kernel
theorem d_X_foundNothing_5 : decode b_X_foundNothing 5 = .ok (.iload_n 1, 1) := by decide +kernel
theorem d_X_foundNothing_6 : decode b_X_foundNothing 6 = .ok (.ireturn, 1) := by decide +kernel
theorem d_X_greatestShared_0 : decode b_X_greatestShared 0 = .ok (.iload_n 0, 1) := by decide +kernel
theorem d_X_greatestShared_1 : decode b_X_greatestShared 1 = .ok (.istore_n 2, 1) := by decide +kernel
theorem d_X_greatestShared_2 : decode b_X_greatestShared 2 = .ok (.iload_n 1, 1) := by decide +kernel
theorem d_X_greatestShared_3 : decode b_X_greatestShared 3 = .ok (.istore_n 3, 1) := by decide +kernel
theorem d_X_greatestShared_4 : decode b_X_greatestShared 4 = .ok (.iconst 0, 1) := by decide +kernel
theorem d_X_greatestShared_5 : decode b_X_greatestShared 5 = .ok (.istore 4, 2) := by decide +kernel
theorem d_X_greatestShared_7 : decode b_X_greatestShared 7 = .ok (.iload 4, 2) := by decide +kernel
theorem d_X_greatestShared_9 : decode b_X_greatestShared 9 = .ok (.bipush 32, 2) := by decide +kernel
theorem d_X_greatestShared_11 : decode b_X_greatestShared 11 = .ok (.if_icmp .ge 23, 3) := by decide +kernel
theorem d_X_greatestShared_14 : decode b_X_greatestShared 14 = .ok (.iload_n 3, 1) := by decide +kernel
theorem d_X_greatestShared_15 : decode b_X_greatestShared 15 = .ok (.ifCond .eq 19, 3) := by decide +kernel
theorem d_X_greatestShared_18 : decode b_X_greatestShared 18 = .ok (.iload_n 2, 1) := by decide +kernel
theorem d_X_greatestShared_19 : decode b_X_greatestShared 19 = .ok (.iload_n 3, 1) := by decide +kernel
theorem d_X_greatestShared_20 : decode b_X_greatestShared 20 = .ok (.irem, 1) := by decide +kernel
theorem d_X_greatestShared_21 : decode b_X_greatestShared 21 = .ok (.istore 5, 2) := by decide +kernel
theorem d_X_greatestShared_23 : decode b_X_greatestShared 23 = .ok (.iload_n 3, 1) := by decide +kernel
theorem d_X_greatestShared_24 : decode b_X_greatestShared 24 = .ok (.istore_n 2, 1) := by decide +kernel
theorem d_X_greatestShared_25 : decode b_X_greatestShared 25 = .ok (.iload 5, 2) := by decide +kernel
theorem d_X_greatestShared_27 : decode b_X_greatestShared 27 = .ok (.istore_n 3, 1) := by decide +kernel
theorem d_X_greatestShared_28 : decode b_X_greatestShared 28 = .ok (.iinc 4 1, 3) := by decide +kernel
theorem d_X_greatestShared_31 : decode b_X_greatestShared 31 = .ok (.goto (-24), 3) := by decide +kernel
theorem d_X_greatestShared_34 : decode b_X_greatestShared 34 = .ok (.iload_n 2, 1) := by decide +kernel
theorem d_X_greatestShared_35 : decode b_X_greatestShared 35 = .ok (.ireturn, 1) := by decide +kernel
theorem d_X_hold_0 : decode b_X_hold 0 = .ok (.aload_n 0, 1) := by decide +kernel
theorem d_X_hold_1 : decode b_X_hold 1 = .ok (.iload_n 1, 1) := by decide +kernel
theorem d_X_hold_2 : decode b_X_hold 2 = .ok (.iconst 1, 1) := by decide +kernel
theorem d_X_hold_3 : decode b_X_hold 3 = .ok (.bipush 60, 2) := by decide +kernel
theorem d_X_hold_5 : decode b_X_hold 5 = .ok (.invokestatic 62, 3) := by decide +kernel
theorem d_X_hold_8 : decode b_X_hold 8 = .ok (.ifCond .eq 16, 3) := by decide +kernel
theorem d_X_hold_11 : decode b_X_hold 11 = .ok (.iload_n 2, 1) := by decide +kernel
theorem d_X_hold_12 : decode b_X_hold 12 = .ok (.iconst 0, 1) := by decide +kernel
theorem d_X_hold_13 : decode b_X_hold 13 = .ok (.iconst 1, 1) := by decide +kernel
theorem d_X_hold_14 : decode b_X_hold 14 = .ok (.invokestatic 62, 3) := by decide +kernel
theorem d_X_hold_17 : decode b_X_hold 17 = .ok (.ifCond .eq 7, 3) := by decide +kernel
theorem d_X_hold_20 : decode b_X_hold 20 = .ok (.iconst 1, 1) := by decide +kernel
theorem d_X_hold_21 : decode b_X_hold 21 = .ok (.goto 4, 3) := by decide +kernel
theorem d_X_hold_24 : decode b_X_hold 24 = .ok (.iconst 0, 1) := by decide +kernel
theorem d_X_hold_25 : decode b_X_hold 25 = .ok (.invokevirtual 198, 3) := by decide +kernel
theorem d_X_hold_28 : decode b_X_hold 28 = .ok (.istore_n 3, 1) := by decide +kernel
theorem d_X_hold_29 : decode b_X_hold 29 = .ok (.iload_n 3, 1) := by decide +kernel
theorem d_X_hold_30 : decode b_X_hold 30 = .ok (.ifCond .eq 5, 3) := by decide +kernel
theorem d_X_hold_33 : decode b_X_hold 33 = .ok (.iload_n 3, 1) := by decide +kernel
theorem d_X_hold_34 : decode b_X_hold 34 = .ok (.ireturn, 1) := by decide +kernel
theorem d_X_hold_35 : decode b_X_hold 35 = .ok (.aload_n 0, 1) := by decide +kernel
theorem d_X_hold_36 : decode b_X_hold 36 = .ok (.getfield 25, 3) := by decide +kernel
theorem d_X_hold_39 : decode b_X_hold 39 = .ok (.getfield 149, 3) := by decide +kernel
theorem d_X_hold_42 : decode b_X_hold 42 = .ok (.istore 4, 2) := by decide +kernel
theorem d_X_hold_44 : decode b_X_hold 44 = .ok (.iconst 0, 1) := by decide +kernel
theorem d_X_hold_45 : decode b_X_hold 45 = .ok (.istore 5, 2) := by decide +kernel
theorem d_X_hold_47 : decode b_X_hold 47 = .ok (.iload 5, 2) := by decide +kernel
theorem d_X_hold_49 : decode b_X_hold 49 = .ok (.bipush 64, 2) := by decide +kernel
theorem d_X_hold_51 : decode b_X_hold 51 = .ok (.if_icmp .ge 34, 3) := by decide +kernel
theorem d_X_hold_54 : decode b_X_hold 54 = .ok (.aload_n 0, 1) := by decide +kernel
theorem d_X_hold_55 : decode b_X_hold 55 = .ok (.iload 5, 2) := by decide +kernel
theorem d_X_hold_57 : decode b_X_hold 57 = .ok (.iload 4, 2) := by decide +kernel
theorem d_X_hold_59 : decode b_X_hold 59 = .ok (.invokevirtual 228, 3) := by decide +kernel
theorem d_X_hold_62 : decode b_X_hold 62 = .ok (.ifCond .eq 17, 3) := by decide +kernel
theorem d_X_hold_65 : decode b_X_hold 65 = .ok (.aload_n 0, 1) := by decide +kernel
theorem d_X_hold_66 : decode b_X_hold 66 = .ok (.iload 5, 2) := by decide +kernel
theorem d_X_hold_68 : decode b_X_hold 68 = .ok (.iload_n 1, 1) := by decide +kernel
theorem d_X_hold_69 : decode b_X_hold 69 = .ok (.invokevirtual 231, 3) := by decide +kernel
theorem d_X_hold_72 : decode b_X_hold 72 = .ok (.ifCond .eq 7, 3) := by decide +kernel
theorem d_X_hold_75 : decode b_X_hold 75 = .ok (.iload 5, 2) := by decide +kernel
theorem d_X_hold_77 : decode b_X_hold 77 = .ok (.istore 4, 2) := by decide +kernel
theorem d_X_hold_79 : decode b_X_hold 79 = .ok (.iinc 5 1, 3) := by decide +kernel
theorem d_X_hold_82 : decode b_X_hold 82 = .ok (.goto (-35), 3) := by decide +kernel
theorem d_X_hold_85 : decode b_X_hold 85 = .ok (.iload_n 2, 1) := by decide +kernel
theorem d_X_hold_86 : decode b_X_hold 86 = .ok (.ifCond .ne 11, 3) := by decide +kernel
theorem d_X_hold_89 : decode b_X_hold 89 = .ok (.iload 4, 2) := by decide +kernel
theorem d_X_hold_91 : decode b_X_hold 91 = .ok (.invokestatic 213, 3) := by decide +kernel
theorem d_X_hold_94 : decode b_X_hold 94 = .ok (.goto 5, 3) := by decide +kernel
theorem d_X_hold_97 : decode b_X_hold 97 = .ok (.iload 4, 2) := by decide +kernel
theorem d_X_hold_99 : decode b_X_hold 99 = .ok (.ireturn, 1) := by decide +kernel
theorem d_X_house_0 : decode b_X_house 0 = .ok (.aload_n 0, 1) := by decide +kernel
theorem d_X_house_1 : decode b_X_house 1 = .ok (.getfield 18, 3) := by decide +kernel
theorem d_X_house_4 : decode b_X_house 4 = .ok (.aload_n 0, 1) := by decide +kernel
theorem d_X_house_5 : decode b_X_house 5 = .ok (.getfield 29, 3) := by decide +kernel
theorem d_X_house_8 : decode b_X_house 8 = .ok (.invokevirtual 114, 3) := by decide +kernel
theorem d_X_house_11 : decode b_X_house 11 = .ok (.istore_n 1, 1) := by decide +kernel
theorem d_X_house_12 : decode b_X_house 12 = .ok (.aload_n 0, 1) := by decide +kernel
theorem d_X_house_13 : decode b_X_house 13 = .ok (.getfield 18, 3) := by decide +kernel
theorem d_X_house_16 : decode b_X_house 16 = .ok (.iconst 0, 1) := by decide +kernel
theorem d_X_house_17 : decode b_X_house 17 = .ok (.putfield 110, 3) := by decide +kernel
theorem d_X_house_20 : decode b_X_house 20 = .ok (.iload_n 1, 1) := by decide +kernel
theorem d_X_house_21 : decode b_X_house 21 = .ok (.ifCond .ne 14, 3) := by decide +kernel
theorem d_X_house_24 : decode b_X_house 24 = .ok (.ldc 118, 2) := by decide +kernel
theorem d_X_house_26 : decode b_X_house 26 = .ok (.aload_n 0, 1) := by decide +kernel
theorem d_X_house_27 : decode b_X_house 27 = .ok (.getfield 18, 3) := by decide +kernel
theorem d_X_house_30 : decode b_X_house 30 = .ok (.getfield 119, 3) := by decide +kernel
theorem d_X_house_33 : decode b_X_house 33 = .ok (.isub, 1) := by decide +kernel
theorem d_X_house_34 : decode b_X_house 34 = .ok (.ireturn, 1) := by decide +kernel
theorem d_X_house_35 : decode b_X_house 35 = .ok (.aload_n 0, 1) := by decide +kernel
theorem d_X_house_36 : decode b_X_house 36 = .ok (.getfield 25, 3) := by decide +kernel
theorem d_X_house_39 : decode b_X_house 39 = .ok (.aload_n 0, 1) := by decide +kernel
theorem d_X_house_40 : decode b_X_house 40 = .ok (.getfield 29, 3) := by decide +kernel
theorem d_X_house_43 : decode b_X_house 43 = .ok (.invokevirtual 122, 3) := by decide +kernel
theorem d_X_house_46 : decode b_X_house 46 = .ok (.aload_n 0, 1) := by decide +kernel
theorem d_X_house_47 : decode b_X_house 47 = .ok (.getfield 39, 3) := by decide +kernel
theorem d_X_house_50 : decode b_X_house 50 = .ok (.invokevirtual 126, 3) := by decide +kernel
theorem d_X_house_53 : decode b_X_house 53 = .ok (.aload_n 0, 1) := by decide +kernel
theorem d_X_house_54 : decode b_X_house 54 = .ok (.getfield 25, 3) := by decide +kernel
theorem d_X_house_57 : decode b_X_house 57 = .ok (.getfield 129, 3) := by decide +kernel
theorem d_X_house_60 : decode b_X_house 60 = .ok (.ireturn, 1) := by decide +kernel
theorem d_X_image_0 : decode b_X_image 0 = .ok (.iload_n 1, 1) := by decide +kernel
theorem d_X_image_1 : decode b_X_image 1 = .ok (.iconst 0, 1) := by decide +kernel
theorem d_X_image_2 : decode b_X_image 2 = .ok (.iconst 1, 1) := by decide +kernel
theorem d_X_image_3 : decode b_X_image 3 = .ok (.invokestatic 62, 3) := by decide +kernel
theorem d_X_image_6 : decode b_X_image 6 = .ok (.ifCond .ne 6, 3) := by decide +kernel
theorem d_X_image_9 : decode b_X_image 9 = .ok (.ldc 66, 2) := by decide +kernel
theorem d_X_image_11 : decode b_X_image 11 = .ok (.ireturn, 1) := by decide +kernel
theorem d_X_image_12 : decode b_X_image 12 = .ok (.aload_n 0, 1) := by decide +kernel
theorem d_X_image_13 : decode b_X_image 13 = .ok (.getfield 25, 3) := by decide +kernel
theorem d_X_image_16 : decode b_X_image 16 = .ok (.getfield 135, 3) := by decide +kernel
theorem d_X_image_19 : decode b_X_image 19 = .ok (.ifCond .ne 6, 3) := by decide +kernel
theorem d_X_image_22 : decode b_X_image 22 = .ok (.ldc 138, 2) := by decide +kernel
theorem d_X_image_24 : decode b_X_image 24 = .ok (.ireturn, 1) := by decide +kernel
theorem d_X_image_25 : decode b_X_image 25 = .ok (.aload_n 0, 1) := by decide +kernel
theorem d_X_image_26 : decode b_X_image 26 = .ok (.getfield 32, 3) := by decide +kernel
theorem d_X_image_29 : decode b_X_image 29 = .ok (.iload_n 1, 1) := by decide +kernel
theorem d_X_image_30 : decode b_X_image 30 = .ok (.aaload, 1) := by decide +kernel
theorem d_X_image_31 : decode b_X_image 31 = .ok (.aload_n 0, 1) := by decide +kernel
theorem d_X_image_32 : decode b_X_image 32 = .ok (.getfield 25, 3) := by decide +kernel
theorem d_X_image_35 : decode b_X_image 35 = .ok (.invokevirtual 122, 3) := by decide +kernel
theorem d_X_image_38 : decode b_X_image 38 = .ok (.iconst 1, 1) := by decide +kernel
theorem d_X_image_39 : decode b_X_image 39 = .ok (.ireturn, 1) := by decide +kernel
theorem d_X_init_0 : decode b_X_init 0 = .ok (.aload_n 0, 1) := by decide +kernel
theorem d_X_init_1 : decode b_X_init 1 = .ok (.invokespecial 3, 3) := by decide +kernel
theorem d_X_init_4 : decode b_X_init 4 = .ok (.aload_n 0, 1) := by decide +kernel
theorem d_X_init_5 : decode b_X_init 5 = .ok (.bipush 8, 2) := by decide +kernel
theorem d_X_init_7 : decode b_X_init 7 = .ok (.anewarray 9, 3) := by decide +kernel
theorem d_X_init_10 : decode b_X_init 10 = .ok (.putfield 11, 3) := by decide +kernel
theorem d_X_init_13 : decode b_X_init 13 = .ok (.aload_n 0, 1) := by decide +kernel
theorem d_X_init_14 : decode b_X_init 14 = .ok (.new 15, 3) := by decide +kernel
theorem d_X_init_17 : decode b_X_init 17 = .ok (.dup, 1) := by decide +kernel
theorem d_X_init_18 : decode b_X_init 18 = .ok (.invokespecial 17, 3) := by decide +kernel
theorem d_X_init_21 : decode b_X_init 21 = .ok (.putfield 18, 3) := by decide +kernel
theorem d_X_init_24 : decode b_X_init 24 = .ok (.aload_n 0, 1) := by decide +kernel
theorem d_X_init_25 : decode b_X_init 25 = .ok (.new 22, 3) := by decide +kernel
theorem d_X_init_28 : decode b_X_init 28 = .ok (.dup, 1) := by decide +kernel
theorem d_X_init_29 : decode b_X_init 29 = .ok (.invokespecial 24, 3) := by decide +kernel
theorem d_X_init_32 : decode b_X_init 32 = .ok (.putfield 25, 3) := by decide +kernel
theorem d_X_init_35 : decode b_X_init 35 = .ok (.aload_n 0, 1) := by decide +kernel
theorem d_X_init_36 : decode b_X_init 36 = .ok (.new 22, 3) := by decide +kernel
theorem d_X_init_39 : decode b_X_init 39 = .ok (.dup, 1) := by decide +kernel
theorem d_X_init_40 : decode b_X_init 40 = .ok (.invokespecial 24, 3) := by decide +kernel
theorem d_X_init_43 : decode b_X_init 43 = .ok (.putfield 29, 3) := by decide +kernel
theorem d_X_init_46 : decode b_X_init 46 = .ok (.aload_n 0, 1) := by decide +kernel
theorem d_X_init_47 : decode b_X_init 47 = .ok (.iconst 2, 1) := by decide +kernel
theorem d_X_init_48 : decode b_X_init 48 = .ok (.anewarray 22, 3) := by decide +kernel
theorem d_X_init_51 : decode b_X_init 51 = .ok (.putfield 32, 3) := by decide +kernel
theorem d_X_init_54 : decode b_X_init 54 = .ok (.aload_n 0, 1) := by decide +kernel
theorem d_X_init_55 : decode b_X_init 55 = .ok (.new 36, 3) := by decide +kernel
theorem d_X_init_58 : decode b_X_init 58 = .ok (.dup, 1) := by decide +kernel
theorem d_X_init_59 : decode b_X_init 59 = .ok (.invokespecial 38, 3) := by decide +kernel
theorem d_X_init_62 : decode b_X_init 62 = .ok (.putfield 39, 3) := by decide +kernel
theorem d_X_init_65 : decode b_X_init 65 = .ok (.aload_n 0, 1) := by decide +kernel
theorem d_X_init_66 : decode b_X_init 66 = .ok (.new 43, 3) := by decide +kernel
theorem d_X_init_69 : decode b_X_init 69 = .ok (.dup, 1) := by decide +kernel
theorem d_X_init_70 : decode b_X_init 70 = .ok (.invokespecial 45, 3) := by decide +kernel
theorem d_X_init_73 : decode b_X_init 73 = .ok (.putfield 46, 3) := by decide +kernel
theorem d_X_init_76 : decode b_X_init 76 = .ok (.aload_n 0, 1) := by decide +kernel
theorem d_X_init_77 : decode b_X_init 77 = .ok (.new 50, 3) := by decide +kernel
theorem d_X_init_80 : decode b_X_init 80 = .ok (.dup, 1) := by decide +kernel
theorem d_X_init_81 : decode b_X_init 81 = .ok (.invokespecial 52, 3) := by decide +kernel
theorem d_X_init_84 : decode b_X_init 84 = .ok (.putfield 53, 3) := by decide +kernel
theorem d_X_init_87 : decode b_X_init 87 = .ok (.iconst 0, 1) := by decide +kernel
theorem d_X_init_88 : decode b_X_init 88 = .ok (.istore_n 1, 1) := by decide +kernel
theorem d_X_init_89 : decode b_X_init 89 = .ok (.iload_n 1, 1) := by decide +kernel
theorem d_X_init_90 : decode b_X_init 90 = .ok (.aload_n 0, 1) := by decide +kernel
theorem d_X_init_91 : decode b_X_init 91 = .ok (.getfield 11, 3) := by decide +kernel
theorem d_X_init_94 : decode b_X_init 94 = .ok (.arraylength, 1) := by decide +kernel
theorem d_X_init_95 : decode b_X_init 95 = .ok (.if_icmp .ge 22, 3) := by decide +kernel
theorem d_X_init_98 : decode b_X_init 98 = .ok (.aload_n 0, 1) := by decide +kernel
theorem d_X_init_99 : decode b_X_init 99 = .ok (.getfield 11, 3) := by decide +kernel
theorem d_X_init_102 : decode b_X_init 102 = .ok (.iload_n 1, 1) := by decide +kernel
theorem d_X_init_103 : decode b_X_init 103 = .ok (.new 9, 3) := by decide +kernel
theorem d_X_init_106 : decode b_X_init 106 = .ok (.dup, 1) := by decide +kernel
theorem d_X_init_107 : decode b_X_init 107 = .ok (.invokespecial 57, 3) := by decide +kernel
theorem d_X_init_110 : decode b_X_init 110 = .ok (.aastore, 1) := by decide +kernel
theorem d_X_init_111 : decode b_X_init 111 = .ok (.iinc 1 1, 3) := by decide +kernel
theorem d_X_init_114 : decode b_X_init 114 = .ok (.goto (-25), 3) := by decide +kernel
theorem d_X_init_117 : decode b_X_init 117 = .ok (.iconst 0, 1) := by decide +kernel
theorem d_X_init_118 : decode b_X_init 118 = .ok (.istore_n 1, 1) := by decide +kernel
theorem d_X_init_119 : decode b_X_init 119 = .ok (.iload_n 1, 1) := by decide +kernel
theorem d_X_init_120 : decode b_X_init 120 = .ok (.aload_n 0, 1) := by decide +kernel
theorem d_X_init_121 : decode b_X_init 121 = .ok (.getfield 32, 3) := by decide +kernel
theorem d_X_init_124 : decode b_X_init 124 = .ok (.arraylength, 1) := by decide +kernel
theorem d_X_init_125 : decode b_X_init 125 = .ok (.if_icmp .ge 22, 3) := by decide +kernel
theorem d_X_init_128 : decode b_X_init 128 = .ok (.aload_n 0, 1) := by decide +kernel
theorem d_X_init_129 : decode b_X_init 129 = .ok (.getfield 32, 3) := by decide +kernel
theorem d_X_init_132 : decode b_X_init 132 = .ok (.iload_n 1, 1) := by decide +kernel
theorem d_X_init_133 : decode b_X_init 133 = .ok (.new 22, 3) := by decide +kernel
theorem d_X_init_136 : decode b_X_init 136 = .ok (.dup, 1) := by decide +kernel
theorem d_X_init_137 : decode b_X_init 137 = .ok (.invokespecial 24, 3) := by decide +kernel
theorem d_X_init_140 : decode b_X_init 140 = .ok (.aastore, 1) := by decide +kernel
theorem d_X_init_141 : decode b_X_init 141 = .ok (.iinc 1 1, 3) := by decide +kernel
theorem d_X_init_144 : decode b_X_init 144 = .ok (.goto (-25), 3) := by decide +kernel
theorem d_X_init_147 : decode b_X_init 147 = .ok (.return_, 1) := by decide +kernel
theorem d_X_isOfKind_0 : decode b_X_isOfKind 0 = .ok (.iload_n 0, 1) := by decide +kernel
theorem d_X_isOfKind_1 : decode b_X_isOfKind 1 = .ok (.iload_n 1, 1) := by decide +kernel
theorem d_X_isOfKind_2 : decode b_X_isOfKind 2 = .ok (.if_icmp .eq 15, 3) := by decide +kernel
theorem d_X_isOfKind_5 : decode b_X_isOfKind 5 = .ok (.iload_n 1, 1) := by decide +kernel
theorem d_X_isOfKind_6 : decode b_X_isOfKind 6 = .ok (.ifCond .eq 11, 3) := by decide +kernel
theorem d_X_isOfKind_9 : decode b_X_isOfKind 9 = .ok (.iload_n 0, 1) := by decide +kernel
theorem d_X_isOfKind_10 : decode b_X_isOfKind 10 = .ok (.invokestatic 307, 3) := by decide +kernel
theorem d_X_isOfKind_13 : decode b_X_isOfKind 13 = .ok (.iload_n 1, 1) := by decide +kernel
theorem d_X_isOfKind_14 : decode b_X_isOfKind 14 = .ok (.if_icmp .ne 7, 3) := by decide +kernel
theorem d_X_isOfKind_17 : decode b_X_isOfKind 17 = .ok (.iconst 1, 1) := by decide +kernel
theorem d_X_isOfKind_18 : decode b_X_isOfKind 18 = .ok (.goto 4, 3) := by decide +kernel
theorem d_X_isOfKind_21 : decode b_X_isOfKind 21 = .ok (.iconst 0, 1) := by decide +kernel
theorem d_X_isOfKind_22 : decode b_X_isOfKind 22 = .ok (.ireturn, 1) := by decide +kernel
theorem d_X_isRow_0 : decode b_X_isRow 0 = .ok (.iload_n 0, 1) := by decide +kernel
theorem d_X_isRow_1 : decode b_X_isRow 1 = .ok (.iconst 0, 1) := by decide +kernel
theorem d_X_isRow_2 : decode b_X_isRow 2 = .ok (.bipush 7, 2) := by decide +kernel
theorem d_X_isRow_4 : decode b_X_isRow 4 = .ok (.invokestatic 62, 3) := by decide +kernel
theorem d_X_isRow_7 : decode b_X_isRow 7 = .ok (.ireturn, 1) := by decide +kernel
theorem d_X_isSmallerPart_0 : decode b_X_isSmallerPart 0 = .ok (.iload_n 1, 1) := by decide +kernel
theorem d_X_isSmallerPart_1 : decode b_X_isSmallerPart 1 = .ok (.aload_n 0, 1) := by decide +kernel
theorem d_X_isSmallerPart_2 : decode b_X_isSmallerPart 2 = .ok (.getfield 25, 3) := by decide +kernel
theorem d_X_isSmallerPart_5 : decode b_X_isSmallerPart 5 = .ok (.getfield 149, 3) := by decide +kernel
theorem d_X_isSmallerPart_8 : decode b_X_isSmallerPart 8 = .ok (.iconst (-1), 1) := by decide +kernel
theorem d_X_isSmallerPart_9 : decode b_X_isSmallerPart 9 = .ok (.ixor, 1) := by decide +kernel
theorem d_X_isSmallerPart_10 : decode b_X_isSmallerPart 10 = .ok (.iand, 1) := by decide +kernel
theorem d_X_isSmallerPart_11 : decode b_X_isSmallerPart 11 = .ok (.ifCond .ne 18, 3) := by decide +kernel
theorem d_X_isSmallerPart_14 : decode b_X_isSmallerPart 14 = .ok (.iload_n 1, 1) := by decide +kernel
theorem d_X_isSmallerPart_15 : decode b_X_isSmallerPart 15 = .ok (.invokestatic 213, 3) := by decide +kernel
theorem d_X_isSmallerPart_18 : decode b_X_isSmallerPart 18 = .ok (.iload_n 2, 1) := by decide +kernel
theorem d_X_isSmallerPart_19 : decode b_X_isSmallerPart 19 = .ok (.invokestatic 213, 3) := by decide +kernel
theorem d_X_isSmallerPart_22 : decode b_X_isSmallerPart 22 = .ok (.if_icmp .ge 7, 3) := by decide +kernel
theorem d_X_isSmallerPart_25 : decode b_X_isSmallerPart 25 = .ok (.iconst 1, 1) := by decide +kernel
theorem d_X_isSmallerPart_26 : decode b_X_isSmallerPart 26 = .ok (.goto 4, 3) := by decide +kernel
theorem d_X_isSmallerPart_29 : decode b_X_isSmallerPart 29 = .ok (.iconst 0, 1) := by decide +kernel
theorem d_X_isSmallerPart_30 : decode b_X_isSmallerPart 30 = .ok (.ireturn, 1) := by decide +kernel
theorem d_X_isToldBy_0 : decode b_X_isToldBy 0 = .ok (.iconst 0, 1) := by decide +kernel
theorem d_X_isToldBy_1 : decode b_X_isToldBy 1 = .ok (.istore 4, 2) := by decide +kernel
theorem d_X_isToldBy_3 : decode b_X_isToldBy 3 = .ok (.iload 4, 2) := by decide +kernel
theorem d_X_isToldBy_5 : decode b_X_isToldBy 5 = .ok (.iload_n 3, 1) := by decide +kernel
theorem d_X_isToldBy_6 : decode b_X_isToldBy 6 = .ok (.if_icmp .ge 37, 3) := by decide +kernel
theorem d_X_isToldBy_9 : decode b_X_isToldBy 9 = .ok (.aload_n 0, 1) := by decide +kernel
theorem d_X_isToldBy_10 : decode b_X_isToldBy 10 = .ok (.getfield 29, 3) := by decide +kernel
theorem d_X_isToldBy_13 : decode b_X_isToldBy 13 = .ok (.invokevirtual 206, 3) := by decide +kernel
theorem d_X_isToldBy_16 : decode b_X_isToldBy 16 = .ok (.aload_n 1, 1) := by decide +kernel
theorem d_X_isToldBy_17 : decode b_X_isToldBy 17 = .ok (.iload_n 2, 1) := by decide +kernel
theorem d_X_isToldBy_18 : decode b_X_isToldBy 18 = .ok (.iload 4, 2) := by decide +kernel
theorem d_X_isToldBy_20 : decode b_X_isToldBy 20 = .ok (.iadd, 1) := by decide +kernel
theorem d_X_isToldBy_21 : decode b_X_isToldBy 21 = .ok (.invokevirtual 304, 3) := by decide +kernel
theorem d_X_isToldBy_24 : decode b_X_isToldBy 24 = .ok (.if_icmp .eq 5, 3) := by decide +kernel
theorem d_X_isToldBy_27 : decode b_X_isToldBy 27 = .ok (.iconst 0, 1) := by decide +kernel
theorem d_X_isToldBy_28 : decode b_X_isToldBy 28 = .ok (.ireturn, 1) := by decide +kernel
theorem d_X_isToldBy_29 : decode b_X_isToldBy 29 = .ok (.aload_n 0, 1) := by decide +kernel
theorem d_X_isToldBy_30 : decode b_X_isToldBy 30 = .ok (.getfield 29, 3) := by decide +kernel
theorem d_X_isToldBy_33 : decode b_X_isToldBy 33 = .ok (.invokevirtual 145, 3) := by decide +kernel
theorem d_X_isToldBy_36 : decode b_X_isToldBy 36 = .ok (.pop, 1) := by decide +kernel
theorem d_X_isToldBy_37 : decode b_X_isToldBy 37 = .ok (.iinc 4 1, 3) := by decide +kernel
theorem d_X_isToldBy_40 : decode b_X_isToldBy 40 = .ok (.goto (-37), 3) := by decide +kernel
theorem d_X_isToldBy_43 : decode b_X_isToldBy 43 = .ok (.iconst 1, 1) := by decide +kernel
theorem d_X_isToldBy_44 : decode b_X_isToldBy 44 = .ok (.ireturn, 1) := by decide +kernel
theorem d_X_isWithin_0 : decode b_X_isWithin 0 = .ok (.iload_n 0, 1) := by decide +kernel
theorem d_X_isWithin_1 : decode b_X_isWithin 1 = .ok (.iload_n 1, 1) := by decide +kernel
theorem d_X_isWithin_2 : decode b_X_isWithin 2 = .ok (.if_icmp .lt 12, 3) := by decide +kernel
theorem d_X_isWithin_5 : decode b_X_isWithin 5 = .ok (.iload_n 0, 1) := by decide +kernel
theorem d_X_isWithin_6 : decode b_X_isWithin 6 = .ok (.iload_n 2, 1) := by decide +kernel
theorem d_X_isWithin_7 : decode b_X_isWithin 7 = .ok (.if_icmp .gt 7, 3) := by decide +kernel
theorem d_X_isWithin_10 : decode b_X_isWithin 10 = .ok (.iconst 1, 1) := by decide +kernel
theorem d_X_isWithin_11 : decode b_X_isWithin 11 = .ok (.goto 4, 3) := by decide +kernel
theorem d_X_isWithin_14 : decode b_X_isWithin 14 = .ok (.iconst 0, 1) := by decide +kernel
theorem d_X_isWithin_15 : decode b_X_isWithin 15 = .ok (.ireturn, 1) := by decide +kernel
theorem d_X_kind_0 : decode b_X_kind 0 = .ok (.aload_n 0, 1) := by decide +kernel
theorem d_X_kind_1 : decode b_X_kind 1 = .ok (.getfield 25, 3) := by decide +kernel
theorem d_X_kind_4 : decode b_X_kind 4 = .ok (.iload_n 1, 1) := by decide +kernel
theorem d_X_kind_5 : decode b_X_kind 5 = .ok (.invokevirtual 152, 3) := by decide +kernel
theorem d_X_kind_8 : decode b_X_kind 8 = .ok (.ifCond .eq 18, 3) := by decide +kernel
theorem d_X_kind_11 : decode b_X_kind 11 = .ok (.aload_n 0, 1) := by decide +kernel
theorem d_X_kind_12 : decode b_X_kind 12 = .ok (.getfield 25, 3) := by decide +kernel
theorem d_X_kind_15 : decode b_X_kind 15 = .ok (.getfield 171, 3) := by decide +kernel
theorem d_X_kind_18 : decode b_X_kind 18 = .ok (.iload_n 1, 1) := by decide +kernel
theorem d_X_kind_19 : decode b_X_kind 19 = .ok (.aaload, 1) := by decide +kernel
theorem d_X_kind_20 : decode b_X_kind 20 = .ok (.getfield 277, 3) := by decide +kernel
theorem d_X_kind_23 : decode b_X_kind 23 = .ok (.goto 5, 3) := by decide +kernel
theorem d_X_kind_26 : decode b_X_kind 26 = .ok (.ldc 66, 2) := by decide +kernel
theorem d_X_kind_28 : decode b_X_kind 28 = .ok (.ireturn, 1) := by decide +kernel
theorem d_X_leastTried_0 : decode b_X_leastTried 0 = .ok (.iload_n 0, 1) := by decide +kernel
theorem d_X_leastTried_1 : decode b_X_leastTried 1 = .ok (.iconst 2, 1) := by decide +kernel
theorem d_X_leastTried_2 : decode b_X_leastTried 2 = .ok (.if_icmp .ne 7, 3) := by decide +kernel
theorem d_X_leastTried_5 : decode b_X_leastTried 5 = .ok (.iconst 1, 1) := by decide +kernel
theorem d_X_leastTried_6 : decode b_X_leastTried 6 = .ok (.goto 4, 3) := by decide +kernel
theorem d_X_leastTried_9 : decode b_X_leastTried 9 = .ok (.iconst 0, 1) := by decide +kernel
theorem d_X_leastTried_10 : decode b_X_leastTried 10 = .ok (.ireturn, 1) := by decide +kernel
theorem d_X_letter_0 : decode b_X_letter 0 = .ok (.aload_n 0, 1) := by decide +kernel
theorem d_X_letter_1 : decode b_X_letter 1 = .ok (.getfield 25, 3) := by decide +kernel
theorem d_X_letter_4 : decode b_X_letter 4 = .ok (.iload_n 1, 1) := by decide +kernel
theorem d_X_letter_5 : decode b_X_letter 5 = .ok (.invokevirtual 152, 3) := by decide +kernel
theorem d_X_letter_8 : decode b_X_letter 8 = .ok (.ifCond .ne 6, 3) := by decide +kernel
theorem d_X_letter_11 : decode b_X_letter 11 = .ok (.ldc 66, 2) := by decide +kernel
theorem d_X_letter_13 : decode b_X_letter 13 = .ok (.ireturn, 1) := by decide +kernel
theorem d_X_letter_14 : decode b_X_letter 14 = .ok (.aload_n 0, 1) := by decide +kernel
theorem d_X_letter_15 : decode b_X_letter 15 = .ok (.getfield 25, 3) := by decide +kernel
theorem d_X_letter_18 : decode b_X_letter 18 = .ok (.getfield 171, 3) := by decide +kernel
theorem d_X_letter_21 : decode b_X_letter 21 = .ok (.iload_n 1, 1) := by decide +kernel
theorem d_X_letter_22 : decode b_X_letter 22 = .ok (.aaload, 1) := by decide +kernel
theorem d_X_letter_23 : decode b_X_letter 23 = .ok (.astore_n 3, 1) := by decide +kernel
theorem d_X_letter_24 : decode b_X_letter 24 = .ok (.iload_n 2, 1) := by decide +kernel
theorem d_X_letter_25 : decode b_X_letter 25 = .ok (.tableswitch 85 0 5 #[39, 44, 49, 54, 71, 76], 39) := by decide +kernel
theorem d_X_letter_64 : decode b_X_letter 64 = .ok (.aload_n 3, 1) := by decide +kernel
theorem d_X_letter_65 : decode b_X_letter 65 = .ok (.getfield 175, 3) := by decide +kernel
theorem d_X_letter_68 : decode b_X_letter 68 = .ok (.ireturn, 1) := by decide +kernel
theorem d_X_letter_69 : decode b_X_letter 69 = .ok (.aload_n 3, 1) := by decide +kernel
theorem d_X_letter_70 : decode b_X_letter 70 = .ok (.getfield 186, 3) := by decide +kernel
theorem d_X_letter_73 : decode b_X_letter 73 = .ok (.ireturn, 1) := by decide +kernel
theorem d_X_letter_74 : decode b_X_letter 74 = .ok (.aload_n 3, 1) := by decide +kernel
theorem d_X_letter_75 : decode b_X_letter 75 = .ok (.getfield 189, 3) := by decide +kernel
theorem d_X_letter_78 : decode b_X_letter 78 = .ok (.ireturn, 1) := by decide +kernel
theorem d_X_letter_79 : decode b_X_letter 79 = .ok (.aload_n 0, 1) := by decide +kernel
theorem d_X_letter_80 : decode b_X_letter 80 = .ok (.getfield 25, 3) := by decide +kernel
theorem d_X_letter_83 : decode b_X_letter 83 = .ok (.iload_n 1, 1) := by decide +kernel
theorem d_X_letter_84 : decode b_X_letter 84 = .ok (.invokevirtual 155, 3) := by decide +kernel
theorem d_X_letter_87 : decode b_X_letter 87 = .ok (.ifCond .eq 7, 3) := by decide +kernel
theorem d_X_letter_90 : decode b_X_letter 90 = .ok (.iconst 1, 1) := by decide +kernel
theorem d_X_letter_91 : decode b_X_letter 91 = .ok (.goto 4, 3) := by decide +kernel
theorem d_X_letter_94 : decode b_X_letter 94 = .ok (.iconst 0, 1) := by decide +kernel
theorem d_X_letter_95 : decode b_X_letter 95 = .ok (.ireturn, 1) := by decide +kernel
theorem d_X_letter_96 : decode b_X_letter 96 = .ok (.aload_n 3, 1) := by decide +kernel
theorem d_X_letter_97 : decode b_X_letter 97 = .ok (.getfield 192, 3) := by decide +kernel
theorem d_X_letter_100 : decode b_X_letter 100 = .ok (.ireturn, 1) := by decide +kernel
theorem d_X_letter_101 : decode b_X_letter 101 = .ok (.aload_n 0, 1) := by decide +kernel
theorem d_X_letter_102 : decode b_X_letter 102 = .ok (.getfield 25, 3) := by decide +kernel
theorem d_X_letter_105 : decode b_X_letter 105 = .ok (.iload_n 1, 1) := by decide +kernel
theorem d_X_letter_106 : decode b_X_letter 106 = .ok (.invokevirtual 195, 3) := by decide +kernel
theorem d_X_letter_109 : decode b_X_letter 109 = .ok (.ireturn, 1) := by decide +kernel
theorem d_X_letter_110 : decode b_X_letter 110 = .ok (.ldc 66, 2) := by decide +kernel
theorem d_X_letter_112 : decode b_X_letter 112 = .ok (.ireturn, 1) := by decide +kernel
theorem d_X_lost_0 : decode b_X_lost 0 = .ok (.aload_n 0, 1) := by decide +kernel
theorem d_X_lost_1 : decode b_X_lost 1 = .ok (.iload_n 1, 1) := by decide +kernel
theorem d_X_lost_2 : decode b_X_lost 2 = .ok (.iconst 0, 1) := by decide +kernel
theorem d_X_lost_3 : decode b_X_lost 3 = .ok (.sipush 300, 3) := by decide +kernel
theorem d_X_lost_6 : decode b_X_lost 6 = .ok (.invokestatic 62, 3) := by decide +kernel
theorem d_X_lost_9 : decode b_X_lost 9 = .ok (.ifCond .eq 26, 3) := by decide +kernel
theorem d_X_lost_12 : decode b_X_lost 12 = .ok (.iload_n 2, 1) := by decide +kernel
theorem d_X_lost_13 : decode b_X_lost 13 = .ok (.iconst 0, 1) := by decide +kernel
theorem d_X_lost_14 : decode b_X_lost 14 = .ok (.bipush 10, 2) := by decide +kernel
theorem d_X_lost_16 : decode b_X_lost 16 = .ok (.invokestatic 62, 3) := by decide +kernel
theorem d_X_lost_19 : decode b_X_lost 19 = .ok (.ifCond .eq 16, 3) := by decide +kernel
theorem d_X_lost_22 : decode b_X_lost 22 = .ok (.iload_n 3, 1) := by decide +kernel
theorem d_X_lost_23 : decode b_X_lost 23 = .ok (.iconst 0, 1) := by decide +kernel
theorem d_X_lost_24 : decode b_X_lost 24 = .ok (.iconst 1, 1) := by decide +kernel
theorem d_X_lost_25 : decode b_X_lost 25 = .ok (.invokestatic 62, 3) := by decide +kernel
theorem d_X_lost_28 : decode b_X_lost 28 = .ok (.ifCond .eq 7, 3) := by decide +kernel
theorem d_X_lost_31 : decode b_X_lost 31 = .ok (.iconst 1, 1) := by decide +kernel
theorem d_X_lost_32 : decode b_X_lost 32 = .ok (.goto 4, 3) := by decide +kernel
theorem d_X_lost_35 : decode b_X_lost 35 = .ok (.iconst 0, 1) := by decide +kernel
theorem d_X_lost_36 : decode b_X_lost 36 = .ok (.invokevirtual 198, 3) := by decide +kernel
theorem d_X_lost_39 : decode b_X_lost 39 = .ok (.istore 4, 2) := by decide +kernel
theorem d_X_lost_41 : decode b_X_lost 41 = .ok (.iload 4, 2) := by decide +kernel
theorem d_X_lost_43 : decode b_X_lost 43 = .ok (.ifCond .eq 6, 3) := by decide +kernel
theorem d_X_lost_46 : decode b_X_lost 46 = .ok (.iload 4, 2) := by decide +kernel
theorem d_X_lost_48 : decode b_X_lost 48 = .ok (.ireturn, 1) := by decide +kernel
theorem d_X_lost_49 : decode b_X_lost 49 = .ok (.iconst 0, 1) := by decide +kernel
theorem d_X_lost_50 : decode b_X_lost 50 = .ok (.istore 5, 2) := by decide +kernel
theorem d_X_lost_52 : decode b_X_lost 52 = .ok (.iconst 0, 1) := by decide +kernel
theorem d_X_lost_53 : decode b_X_lost 53 = .ok (.istore 6, 2) := by decide +kernel
theorem d_X_lost_55 : decode b_X_lost 55 = .ok (.iload 6, 2) := by decide +kernel
theorem d_X_lost_57 : decode b_X_lost 57 = .ok (.bipush 64, 2) := by decide +kernel
theorem d_X_lost_59 : decode b_X_lost 59 = .ok (.if_icmp .ge 93, 3) := by decide +kernel
theorem d_X_lost_62 : decode b_X_lost 62 = .ok (.iload 6, 2) := by decide +kernel
theorem d_X_lost_64 : decode b_X_lost 64 = .ok (.aload_n 0, 1) := by decide +kernel
theorem d_X_lost_65 : decode b_X_lost 65 = .ok (.getfield 25, 3) := by decide +kernel
theorem d_X_lost_68 : decode b_X_lost 68 = .ok (.getfield 149, 3) := by decide +kernel
theorem d_X_lost_71 : decode b_X_lost 71 = .ok (.iconst (-1), 1) := by decide +kernel
theorem d_X_lost_72 : decode b_X_lost 72 = .ok (.ixor, 1) := by decide +kernel
theorem d_X_lost_73 : decode b_X_lost 73 = .ok (.iand, 1) := by decide +kernel
theorem d_X_lost_74 : decode b_X_lost 74 = .ok (.ifCond .ne 72, 3) := by decide +kernel
theorem d_X_lost_77 : decode b_X_lost 77 = .ok (.aload_n 0, 1) := by decide +kernel
theorem d_X_lost_78 : decode b_X_lost 78 = .ok (.iload 6, 2) := by decide +kernel
theorem d_X_lost_80 : decode b_X_lost 80 = .ok (.invokevirtual 254, 3) := by decide +kernel
theorem d_X_lost_83 : decode b_X_lost 83 = .ok (.aload_n 0, 1) := by decide +kernel
theorem d_X_lost_84 : decode b_X_lost 84 = .ok (.getfield 29, 3) := by decide +kernel
theorem d_X_lost_87 : decode b_X_lost 87 = .ok (.getfield 149, 3) := by decide +kernel
theorem d_X_lost_90 : decode b_X_lost 90 = .ok (.invokestatic 213, 3) := by decide +kernel
theorem d_X_lost_93 : decode b_X_lost 93 = .ok (.istore 7, 2) := by decide +kernel
theorem d_X_lost_95 : decode b_X_lost 95 = .ok (.aload_n 0, 1) := by decide +kernel
theorem d_X_lost_96 : decode b_X_lost 96 = .ok (.getfield 29, 3) := by decide +kernel
theorem d_X_lost_99 : decode b_X_lost 99 = .ok (.invokevirtual 206, 3) := by decide +kernel
theorem d_X_lost_102 : decode b_X_lost 102 = .ok (.iload_n 1, 1) := by decide +kernel
theorem d_X_lost_103 : decode b_X_lost 103 = .ok (.if_icmp .gt 7, 3) := by decide +kernel
theorem d_X_lost_106 : decode b_X_lost 106 = .ok (.iconst 1, 1) := by decide +kernel
theorem d_X_lost_107 : decode b_X_lost 107 = .ok (.goto 4, 3) := by decide +kernel
theorem d_X_lost_110 : decode b_X_lost 110 = .ok (.iconst 0, 1) := by decide +kernel
theorem d_X_lost_111 : decode b_X_lost 111 = .ok (.istore 8, 2) := by decide +kernel
theorem d_X_lost_113 : decode b_X_lost 113 = .ok (.iload 5, 2) := by decide +kernel
theorem d_X_lost_115 : decode b_X_lost 115 = .ok (.iload 8, 2) := by decide +kernel
theorem d_X_lost_117 : decode b_X_lost 117 = .ok (.ifCond .eq 25, 3) := by decide +kernel
theorem d_X_lost_120 : decode b_X_lost 120 = .ok (.iload_n 2, 1) := by decide +kernel
theorem d_X_lost_121 : decode b_X_lost 121 = .ok (.iload 6, 2) := by decide +kernel
theorem d_X_lost_123 : decode b_X_lost 123 = .ok (.invokestatic 213, 3) := by decide +kernel
theorem d_X_lost_126 : decode b_X_lost 126 = .ok (.invokestatic 257, 3) := by decide +kernel
theorem d_X_lost_129 : decode b_X_lost 129 = .ok (.bipush 10, 2) := by decide +kernel
theorem d_X_lost_131 : decode b_X_lost 131 = .ok (.iload_n 2, 1) := by decide +kernel
theorem d_X_lost_132 : decode b_X_lost 132 = .ok (.isub, 1) := by decide +kernel
theorem d_X_lost_133 : decode b_X_lost 133 = .ok (.iload 7, 2) := by decide +kernel
theorem d_X_lost_135 : decode b_X_lost 135 = .ok (.invokestatic 257, 3) := by decide +kernel
theorem d_X_lost_138 : decode b_X_lost 138 = .ok (.imul, 1) := by decide +kernel
theorem d_X_lost_139 : decode b_X_lost 139 = .ok (.goto 4, 3) := by decide +kernel
theorem d_X_lost_142 : decode b_X_lost 142 = .ok (.iconst 0, 1) := by decide +kernel
theorem d_X_lost_143 : decode b_X_lost 143 = .ok (.iadd, 1) := by decide +kernel
theorem d_X_lost_144 : decode b_X_lost 144 = .ok (.istore 5, 2) := by decide +kernel
theorem d_X_lost_146 : decode b_X_lost 146 = .ok (.iinc 6 1, 3) := by decide +kernel
theorem d_X_lost_149 : decode b_X_lost 149 = .ok (.goto (-94), 3) := by decide +kernel
theorem d_X_lost_152 : decode b_X_lost 152 = .ok (.bipush 10, 2) := by decide +kernel
theorem d_X_lost_154 : decode b_X_lost 154 = .ok (.aload_n 0, 1) := by decide +kernel
theorem d_X_lost_155 : decode b_X_lost 155 = .ok (.getfield 25, 3) := by decide +kernel
theorem d_X_lost_158 : decode b_X_lost 158 = .ok (.getfield 149, 3) := by decide +kernel
theorem d_X_lost_161 : decode b_X_lost 161 = .ok (.invokestatic 213, 3) := by decide +kernel
theorem d_X_lost_164 : decode b_X_lost 164 = .ok (.invokestatic 257, 3) := by decide +kernel
theorem d_X_lost_167 : decode b_X_lost 167 = .ok (.istore 6, 2) := by decide +kernel
theorem d_X_lost_169 : decode b_X_lost 169 = .ok (.iconst 1, 1) := by decide +kernel
theorem d_X_lost_170 : decode b_X_lost 170 = .ok (.iload 5, 2) := by decide +kernel
theorem d_X_lost_172 : decode b_X_lost 172 = .ok (.iload 6, 2) := by decide +kernel
theorem d_X_lost_174 : decode b_X_lost 174 = .ok (.invokestatic 260, 3) := by decide +kernel
theorem d_X_lost_177 : decode b_X_lost 177 = .ok (.invokestatic 263, 3) := by decide +kernel
theorem d_X_lost_180 : decode b_X_lost 180 = .ok (.istore 7, 2) := by decide +kernel
theorem d_X_lost_182 : decode b_X_lost 182 = .ok (.iload_n 3, 1) := by decide +kernel
theorem d_X_lost_183 : decode b_X_lost 183 = .ok (.ifCond .ne 11, 3) := by decide +kernel
theorem d_X_lost_186 : decode b_X_lost 186 = .ok (.iload 5, 2) := by decide +kernel
theorem d_X_lost_188 : decode b_X_lost 188 = .ok (.iload 7, 2) := by decide +kernel
theorem d_X_lost_190 : decode b_X_lost 190 = .ok (.idiv, 1) := by decide +kernel
theorem d_X_lost_191 : decode b_X_lost 191 = .ok (.goto 8, 3) := by decide +kernel
theorem d_X_lost_194 : decode b_X_lost 194 = .ok (.iload 6, 2) := by decide +kernel
theorem d_X_lost_196 : decode b_X_lost 196 = .ok (.iload 7, 2) := by decide +kernel
theorem d_X_lost_198 : decode b_X_lost 198 = .ok (.idiv, 1) := by decide +kernel
theorem d_X_lost_199 : decode b_X_lost 199 = .ok (.ireturn, 1) := by decide +kernel
theorem d_X_mostTried_0 : decode b_X_mostTried 0 = .ok (.iload_n 0, 1) := by decide +kernel
theorem d_X_mostTried_1 : decode b_X_mostTried 1 = .ok (.lookupswitch 33 #[(0, 27), (1, 30)], 27) := by decide +kernel
theorem d_X_mostTried_28 : decode b_X_mostTried 28 = .ok (.bipush 9, 2) := by decide +kernel
theorem d_X_mostTried_30 : decode b_X_mostTried 30 = .ok (.ireturn, 1) := by decide +kernel
theorem d_X_mostTried_31 : decode b_X_mostTried 31 = .ok (.bipush 20, 2) := by decide +kernel
theorem d_X_mostTried_33 : decode b_X_mostTried 33 = .ok (.ireturn, 1) := by decide +kernel
theorem d_X_mostTried_34 : decode b_X_mostTried 34 = .ok (.iconst 5, 1) := by decide +kernel
theorem d_X_mostTried_35 : decode b_X_mostTried 35 = .ok (.ireturn, 1) := by decide +kernel
theorem d_X_nearestKind_0 : decode b_X_nearestKind 0 = .ok (.iload_n 0, 1) := by decide +kernel
theorem d_X_nearestKind_1 : decode b_X_nearestKind 1 = .ok (.iconst 0, 1) := by decide +kernel
theorem d_X_nearestKind_2 : decode b_X_nearestKind 2 = .ok (.iconst 5, 1) := by decide +kernel
theorem d_X_nearestKind_3 : decode b_X_nearestKind 3 = .ok (.invokestatic 62, 3) := by decide +kernel
theorem d_X_nearestKind_6 : decode b_X_nearestKind 6 = .ok (.ifCond .eq 11, 3) := by decide +kernel
theorem d_X_nearestKind_9 : decode b_X_nearestKind 9 = .ok (.getstatic 310, 3) := by decide +kernel
theorem d_X_nearestKind_12 : decode b_X_nearestKind 12 = .ok (.iload_n 0, 1) := by decide +kernel
theorem d_X_nearestKind_13 : decode b_X_nearestKind 13 = .ok (.iaload, 1) := by decide +kernel
theorem d_X_nearestKind_14 : decode b_X_nearestKind 14 = .ok (.goto 4, 3) := by decide +kernel
theorem d_X_nearestKind_17 : decode b_X_nearestKind 17 = .ok (.iconst 0, 1) := by decide +kernel
theorem d_X_nearestKind_18 : decode b_X_nearestKind 18 = .ok (.ireturn, 1) := by decide +kernel
theorem d_X_nothingFallsWithout_0 : decode b_X_nothingFallsWithout 0 = .ok (.aload_n 0, 1) := by decide +kernel
theorem d_X_nothingFallsWithout_1 : decode b_X_nothingFallsWithout 1 = .ok (.iload_n 1, 1) := by decide +kernel
theorem d_X_nothingFallsWithout_2 : decode b_X_nothingFallsWithout 2 = .ok (.invokevirtual 254, 3) := by decide +kernel
theorem d_X_nothingFallsWithout_5 : decode b_X_nothingFallsWithout 5 = .ok (.iconst 0, 1) := by decide +kernel
theorem d_X_nothingFallsWithout_6 : decode b_X_nothingFallsWithout 6 = .ok (.istore_n 3, 1) := by decide +kernel
theorem d_X_nothingFallsWithout_7 : decode b_X_nothingFallsWithout 7 = .ok (.iload_n 3, 1) := by decide +kernel
theorem d_X_nothingFallsWithout_8 : decode b_X_nothingFallsWithout 8 = .ok (.iload_n 2, 1) := by decide +kernel
theorem d_X_nothingFallsWithout_9 : decode b_X_nothingFallsWithout 9 = .ok (.if_icmp .ge 23, 3) := by decide +kernel
theorem d_X_nothingFallsWithout_12 : decode b_X_nothingFallsWithout 12 = .ok (.aload_n 0, 1) := by decide +kernel
theorem d_X_nothingFallsWithout_13 : decode b_X_nothingFallsWithout 13 = .ok (.getfield 29, 3) := by decide +kernel
theorem d_X_nothingFallsWithout_16 : decode b_X_nothingFallsWithout 16 = .ok (.invokevirtual 145, 3) := by decide +kernel
theorem d_X_nothingFallsWithout_19 : decode b_X_nothingFallsWithout 19 = .ok (.ldc 212, 2) := by decide +kernel
theorem d_X_nothingFallsWithout_21 : decode b_X_nothingFallsWithout 21 = .ok (.if_icmp .eq 5, 3) := by decide +kernel
theorem d_X_nothingFallsWithout_24 : decode b_X_nothingFallsWithout 24 = .ok (.iconst 0, 1) := by decide +kernel
theorem d_X_nothingFallsWithout_25 : decode b_X_nothingFallsWithout 25 = .ok (.ireturn, 1) := by decide +kernel
theorem d_X_nothingFallsWithout_26 : decode b_X_nothingFallsWithout 26 = .ok (.iinc 3 1, 3) := by decide +kernel
theorem d_X_nothingFallsWithout_29 : decode b_X_nothingFallsWithout 29 = .ok (.goto (-22), 3) := by decide +kernel
theorem d_X_nothingFallsWithout_32 : decode b_X_nothingFallsWithout 32 = .ok (.iconst 1, 1) := by decide +kernel
theorem d_X_nothingFallsWithout_33 : decode b_X_nothingFallsWithout 33 = .ok (.ireturn, 1) := by decide +kernel
theorem d_X_order_0 : decode b_X_order 0 = .ok (.iload_n 1, 1) := by decide +kernel
theorem d_X_order_1 : decode b_X_order 1 = .ok (.aload_n 0, 1) := by decide +kernel
theorem d_X_order_2 : decode b_X_order 2 = .ok (.getfield 25, 3) := by decide +kernel
theorem d_X_order_5 : decode b_X_order 5 = .ok (.getfield 149, 3) := by decide +kernel
theorem d_X_order_8 : decode b_X_order 8 = .ok (.iconst (-1), 1) := by decide +kernel
theorem d_X_order_9 : decode b_X_order 9 = .ok (.ixor, 1) := by decide +kernel
theorem d_X_order_10 : decode b_X_order 10 = .ok (.iand, 1) := by decide +kernel
theorem d_X_order_11 : decode b_X_order 11 = .ok (.ifCond .ne 7, 3) := by decide +kernel
theorem d_X_order_14 : decode b_X_order 14 = .ok (.iconst 1, 1) := by decide +kernel
theorem d_X_order_15 : decode b_X_order 15 = .ok (.goto 4, 3) := by decide +kernel
theorem d_X_order_18 : decode b_X_order 18 = .ok (.iconst 0, 1) := by decide +kernel
theorem d_X_order_19 : decode b_X_order 19 = .ok (.istore_n 3, 1) := by decide +kernel
theorem d_X_order_20 : decode b_X_order 20 = .ok (.aload_n 0, 1) := by decide +kernel
theorem d_X_order_21 : decode b_X_order 21 = .ok (.iload_n 3, 1) := by decide +kernel
theorem d_X_order_22 : decode b_X_order 22 = .ok (.ifCond .eq 16, 3) := by decide +kernel
theorem d_X_order_25 : decode b_X_order 25 = .ok (.iload_n 2, 1) := by decide +kernel
theorem d_X_order_26 : decode b_X_order 26 = .ok (.iconst (-1), 1) := by decide +kernel
theorem d_X_order_27 : decode b_X_order 27 = .ok (.iconst 5, 1) := by decide +kernel
theorem d_X_order_28 : decode b_X_order 28 = .ok (.invokestatic 62, 3) := by decide +kernel
theorem d_X_order_31 : decode b_X_order 31 = .ok (.ifCond .eq 7, 3) := by decide +kernel
theorem d_X_order_34 : decode b_X_order 34 = .ok (.iconst 1, 1) := by decide +kernel
theorem d_X_order_35 : decode b_X_order 35 = .ok (.goto 4, 3) := by decide +kernel
theorem d_X_order_38 : decode b_X_order 38 = .ok (.iconst 0, 1) := by decide +kernel
theorem d_X_order_39 : decode b_X_order 39 = .ok (.invokevirtual 198, 3) := by decide +kernel
theorem d_X_order_42 : decode b_X_order 42 = .ok (.istore 4, 2) := by decide +kernel
theorem d_X_order_44 : decode b_X_order 44 = .ok (.iload 4, 2) := by decide +kernel
theorem d_X_order_46 : decode b_X_order 46 = .ok (.ifCond .eq 6, 3) := by decide +kernel
theorem d_X_order_49 : decode b_X_order 49 = .ok (.iload 4, 2) := by decide +kernel
theorem d_X_order_51 : decode b_X_order 51 = .ok (.ireturn, 1) := by decide +kernel
theorem d_X_order_52 : decode b_X_order 52 = .ok (.iload_n 2, 1) := by decide +kernel
theorem d_X_order_53 : decode b_X_order 53 = .ok (.iload_n 1, 1) := by decide +kernel
theorem d_X_order_54 : decode b_X_order 54 = .ok (.invokestatic 213, 3) := by decide +kernel
theorem d_X_order_57 : decode b_X_order 57 = .ok (.if_icmp .lt 6, 3) := by decide +kernel
theorem d_X_order_60 : decode b_X_order 60 = .ok (.ldc 212, 2) := by decide +kernel
theorem d_X_order_62 : decode b_X_order 62 = .ok (.ireturn, 1) := by decide +kernel
theorem d_X_order_63 : decode b_X_order 63 = .ok (.aload_n 0, 1) := by decide +kernel
theorem d_X_order_64 : decode b_X_order 64 = .ok (.getfield 46, 3) := by decide +kernel
theorem d_X_order_67 : decode b_X_order 67 = .ok (.aload_n 0, 1) := by decide +kernel
theorem d_X_order_68 : decode b_X_order 68 = .ok (.getfield 25, 3) := by decide +kernel
theorem d_X_order_71 : decode b_X_order 71 = .ok (.iload_n 1, 1) := by decide +kernel
theorem d_X_order_72 : decode b_X_order 72 = .ok (.invokevirtual 218, 3) := by decide +kernel
theorem d_X_order_75 : decode b_X_order 75 = .ok (.iload_n 2, 1) := by decide +kernel
theorem d_X_order_76 : decode b_X_order 76 = .ok (.ifCond .ge 13, 3) := by decide +kernel
theorem d_X_order_79 : decode b_X_order 79 = .ok (.aload_n 0, 1) := by decide +kernel
theorem d_X_order_80 : decode b_X_order 80 = .ok (.getfield 46, 3) := by decide +kernel
theorem d_X_order_83 : decode b_X_order 83 = .ok (.getfield 222, 3) := by decide +kernel
theorem d_X_order_86 : decode b_X_order 86 = .ok (.goto 12, 3) := by decide +kernel
theorem d_X_order_89 : decode b_X_order 89 = .ok (.aload_n 0, 1) := by decide +kernel
theorem d_X_order_90 : decode b_X_order 90 = .ok (.getfield 46, 3) := by decide +kernel
theorem d_X_order_93 : decode b_X_order 93 = .ok (.getfield 225, 3) := by decide +kernel
theorem d_X_order_96 : decode b_X_order 96 = .ok (.iload_n 2, 1) := by decide +kernel
theorem d_X_order_97 : decode b_X_order 97 = .ok (.iaload, 1) := by decide +kernel
theorem d_X_order_98 : decode b_X_order 98 = .ok (.ireturn, 1) := by decide +kernel
theorem d_X_post_0 : decode b_X_post 0 = .ok (.aload_n 0, 1) := by decide +kernel
theorem d_X_post_1 : decode b_X_post 1 = .ok (.getfield 25, 3) := by decide +kernel
theorem d_X_post_4 : decode b_X_post 4 = .ok (.iload_n 1, 1) := by decide +kernel
theorem d_X_post_5 : decode b_X_post 5 = .ok (.invokevirtual 152, 3) := by decide +kernel
theorem d_X_post_8 : decode b_X_post 8 = .ok (.ifCond .ne 6, 3) := by decide +kernel
theorem d_X_post_11 : decode b_X_post 11 = .ok (.ldc 66, 2) := by decide +kernel
theorem d_X_post_13 : decode b_X_post 13 = .ok (.ireturn, 1) := by decide +kernel
theorem d_X_post_14 : decode b_X_post 14 = .ok (.aload_n 0, 1) := by decide +kernel
theorem d_X_post_15 : decode b_X_post 15 = .ok (.getfield 25, 3) := by decide +kernel
theorem d_X_post_18 : decode b_X_post 18 = .ok (.iload_n 1, 1) := by decide +kernel
theorem d_X_post_19 : decode b_X_post 19 = .ok (.invokevirtual 155, 3) := by decide +kernel
theorem d_X_post_22 : decode b_X_post 22 = .ok (.ifCond .eq 6, 3) := by decide +kernel
theorem d_X_post_25 : decode b_X_post 25 = .ok (.ldc 138, 2) := by decide +kernel
theorem d_X_post_27 : decode b_X_post 27 = .ok (.ireturn, 1) := by decide +kernel
theorem d_X_post_28 : decode b_X_post 28 = .ok (.aload_n 0, 1) := by decide +kernel
theorem d_X_post_29 : decode b_X_post 29 = .ok (.getfield 39, 3) := by decide +kernel
theorem d_X_post_32 : decode b_X_post 32 = .ok (.aload_n 0, 1) := by decide +kernel
theorem d_X_post_33 : decode b_X_post 33 = .ok (.getfield 25, 3) := by decide +kernel
theorem d_X_post_36 : decode b_X_post 36 = .ok (.invokevirtual 142, 3) := by decide +kernel
theorem d_X_post_39 : decode b_X_post 39 = .ok (.aload_n 0, 1) := by decide +kernel
theorem d_X_post_40 : decode b_X_post 40 = .ok (.getfield 25, 3) := by decide +kernel
theorem d_X_post_43 : decode b_X_post 43 = .ok (.iload_n 1, 1) := by decide +kernel
theorem d_X_post_44 : decode b_X_post 44 = .ok (.invokevirtual 165, 3) := by decide +kernel
theorem d_X_post_47 : decode b_X_post 47 = .ok (.aload_n 0, 1) := by decide +kernel
theorem d_X_post_48 : decode b_X_post 48 = .ok (.getfield 25, 3) := by decide +kernel
theorem d_X_post_51 : decode b_X_post 51 = .ok (.invokevirtual 168, 3) := by decide +kernel
theorem d_X_post_54 : decode b_X_post 54 = .ok (.ireturn, 1) := by decide +kernel
theorem d_X_power_0 : decode b_X_power 0 = .ok (.iconst 1, 1) := by decide +kernel
theorem d_X_power_1 : decode b_X_power 1 = .ok (.istore_n 2, 1) := by decide +kernel
theorem d_X_power_2 : decode b_X_power 2 = .ok (.iconst 0, 1) := by decide +kernel
theorem d_X_power_3 : decode b_X_power 3 = .ok (.istore_n 3, 1) := by decide +kernel
theorem d_X_power_4 : decode b_X_power 4 = .ok (.iload_n 3, 1) := by decide +kernel
theorem d_X_power_5 : decode b_X_power 5 = .ok (.iload_n 1, 1) := by decide +kernel
theorem d_X_power_6 : decode b_X_power 6 = .ok (.if_icmp .ge 13, 3) := by decide +kernel
theorem d_X_power_9 : decode b_X_power 9 = .ok (.iload_n 2, 1) := by decide +kernel
theorem d_X_power_10 : decode b_X_power 10 = .ok (.iload_n 0, 1) := by decide +kernel
theorem d_X_power_11 : decode b_X_power 11 = .ok (.imul, 1) := by decide +kernel
theorem d_X_power_12 : decode b_X_power 12 = .ok (.istore_n 2, 1) := by decide +kernel
theorem d_X_power_13 : decode b_X_power 13 = .ok (.iinc 3 1, 3) := by decide +kernel
theorem d_X_power_16 : decode b_X_power 16 = .ok (.goto (-12), 3) := by decide +kernel
theorem d_X_power_19 : decode b_X_power 19 = .ok (.iload_n 2, 1) := by decide +kernel
theorem d_X_power_20 : decode b_X_power 20 = .ok (.ireturn, 1) := by decide +kernel
theorem d_X_refusalOf_0 : decode b_X_refusalOf 0 = .ok (.aload_n 0, 1) := by decide +kernel
theorem d_X_refusalOf_1 : decode b_X_refusalOf 1 = .ok (.getfield 25, 3) := by decide +kernel
theorem d_X_refusalOf_4 : decode b_X_refusalOf 4 = .ok (.getfield 135, 3) := by decide +kernel
theorem d_X_refusalOf_7 : decode b_X_refusalOf 7 = .ok (.ifCond .ne 6, 3) := by decide +kernel
theorem d_X_refusalOf_10 : decode b_X_refusalOf 10 = .ok (.ldc 138, 2) := by decide +kernel
theorem d_X_refusalOf_12 : decode b_X_refusalOf 12 = .ok (.ireturn, 1) := by decide +kernel
theorem d_X_refusalOf_13 : decode b_X_refusalOf 13 = .ok (.iload_n 1, 1) := by decide +kernel
theorem d_X_refusalOf_14 : decode b_X_refusalOf 14 = .ok (.ifCond .eq 7, 3) := by decide +kernel
theorem d_X_refusalOf_17 : decode b_X_refusalOf 17 = .ok (.iconst 0, 1) := by decide +kernel
theorem d_X_refusalOf_18 : decode b_X_refusalOf 18 = .ok (.goto 5, 3) := by decide +kernel
theorem d_X_refusalOf_21 : decode b_X_refusalOf 21 = .ok (.ldc 66, 2) := by decide +kernel
theorem d_X_refusalOf_23 : decode b_X_refusalOf 23 = .ok (.ireturn, 1) := by decide +kernel
theorem d_X_restore_0 : decode b_X_restore 0 = .ok (.iload_n 1, 1) := by decide +kernel
theorem d_X_restore_1 : decode b_X_restore 1 = .ok (.iconst 0, 1) := by decide +kernel
theorem d_X_restore_2 : decode b_X_restore 2 = .ok (.iconst 1, 1) := by decide +kernel
theorem d_X_restore_3 : decode b_X_restore 3 = .ok (.invokestatic 62, 3) := by decide +kernel
theorem d_X_restore_6 : decode b_X_restore 6 = .ok (.ifCond .ne 6, 3) := by decide +kernel
theorem d_X_restore_9 : decode b_X_restore 9 = .ok (.ldc 66, 2) := by decide +kernel
theorem d_X_restore_11 : decode b_X_restore 11 = .ok (.ireturn, 1) := by decide +kernel
theorem d_X_restore_12 : decode b_X_restore 12 = .ok (.aload_n 0, 1) := by decide +kernel
theorem d_X_restore_13 : decode b_X_restore 13 = .ok (.getfield 32, 3) := by decide +kernel
theorem d_X_restore_16 : decode b_X_restore 16 = .ok (.iload_n 1, 1) := by decide +kernel
theorem d_X_restore_17 : decode b_X_restore 17 = .ok (.aaload, 1) := by decide +kernel
theorem d_X_restore_18 : decode b_X_restore 18 = .ok (.getfield 135, 3) := by decide +kernel
theorem d_X_restore_21 : decode b_X_restore 21 = .ok (.ifCond .ne 6, 3) := by decide +kernel
theorem d_X_restore_24 : decode b_X_restore 24 = .ok (.ldc 138, 2) := by decide +kernel
theorem d_X_restore_26 : decode b_X_restore 26 = .ok (.ireturn, 1) := by decide +kernel
theorem d_X_restore_27 : decode b_X_restore 27 = .ok (.aload_n 0, 1) := by decide +kernel
theorem d_X_restore_28 : decode b_X_restore 28 = .ok (.getfield 25, 3) := by decide +kernel
theorem d_X_restore_31 : decode b_X_restore 31 = .ok (.aload_n 0, 1) := by decide +kernel
theorem d_X_restore_32 : decode b_X_restore 32 = .ok (.getfield 32, 3) := by decide +kernel
theorem d_X_restore_35 : decode b_X_restore 35 = .ok (.iload_n 1, 1) := by decide +kernel
theorem d_X_restore_36 : decode b_X_restore 36 = .ok (.aaload, 1) := by decide +kernel
theorem d_X_restore_37 : decode b_X_restore 37 = .ok (.invokevirtual 122, 3) := by decide +kernel
theorem d_X_restore_40 : decode b_X_restore 40 = .ok (.aload_n 0, 1) := by decide +kernel
theorem d_X_restore_41 : decode b_X_restore 41 = .ok (.getfield 39, 3) := by decide +kernel
theorem d_X_restore_44 : decode b_X_restore 44 = .ok (.invokevirtual 126, 3) := by decide +kernel
theorem d_X_restore_47 : decode b_X_restore 47 = .ok (.iconst 1, 1) := by decide +kernel
theorem d_X_restore_48 : decode b_X_restore 48 = .ok (.ireturn, 1) := by decide +kernel
theorem d_X_row_0 : decode b_X_row 0 = .ok (.iload_n 1, 1) := by decide +kernel
theorem d_X_row_1 : decode b_X_row 1 = .ok (.invokestatic 58, 3) := by decide +kernel
theorem d_X_row_4 : decode b_X_row 4 = .ok (.ifCond .eq 18, 3) := by decide +kernel
theorem d_X_row_7 : decode b_X_row 7 = .ok (.iload_n 2, 1) := by decide +kernel
theorem d_X_row_8 : decode b_X_row 8 = .ok (.iconst 0, 1) := by decide +kernel
theorem d_X_row_9 : decode b_X_row 9 = .ok (.iconst 2, 1) := by decide +kernel
theorem d_X_row_10 : decode b_X_row 10 = .ok (.invokestatic 62, 3) := by decide +kernel
theorem d_X_row_13 : decode b_X_row 13 = .ok (.ifCond .eq 9, 3) := by decide +kernel
theorem d_X_row_16 : decode b_X_row 16 = .ok (.iload_n 3, 1) := by decide +kernel
theorem d_X_row_17 : decode b_X_row 17 = .ok (.bipush 40, 2) := by decide +kernel
theorem d_X_row_19 : decode b_X_row 19 = .ok (.if_icmp .le 6, 3) := by decide +kernel
theorem d_X_row_22 : decode b_X_row 22 = .ok (.ldc 66, 2) := by decide +kernel
theorem d_X_row_24 : decode b_X_row 24 = .ok (.ireturn, 1) := by decide +kernel
theorem d_X_row_25 : decode b_X_row 25 = .ok (.iload_n 3, 1) := by decide +kernel
theorem d_X_row_26 : decode b_X_row 26 = .ok (.ifCond .ge 9, 3) := by decide +kernel
theorem d_X_row_29 : decode b_X_row 29 = .ok (.aload_n 0, 1) := by decide +kernel
theorem d_X_row_30 : decode b_X_row 30 = .ok (.iconst 4, 1) := by decide +kernel
theorem d_X_row_31 : decode b_X_row 31 = .ok (.invokevirtual 67, 3) := by decide +kernel
theorem d_X_row_34 : decode b_X_row 34 = .ok (.ireturn, 1) := by decide +kernel
theorem d_X_row_35 : decode b_X_row 35 = .ok (.aload_n 0, 1) := by decide +kernel
theorem d_X_row_36 : decode b_X_row 36 = .ok (.getfield 11, 3) := by decide +kernel
theorem d_X_row_39 : decode b_X_row 39 = .ok (.iload_n 1, 1) := by decide +kernel
theorem d_X_row_40 : decode b_X_row 40 = .ok (.aaload, 1) := by decide +kernel
theorem d_X_row_41 : decode b_X_row 41 = .ok (.iload_n 2, 1) := by decide +kernel
theorem d_X_row_42 : decode b_X_row 42 = .ok (.iload_n 3, 1) := by decide +kernel
theorem d_X_row_43 : decode b_X_row 43 = .ok (.invokevirtual 71, 3) := by decide +kernel
theorem d_X_row_46 : decode b_X_row 46 = .ok (.aload_n 0, 1) := by decide +kernel
theorem d_X_row_47 : decode b_X_row 47 = .ok (.iload_n 3, 1) := by decide +kernel
theorem d_X_row_48 : decode b_X_row 48 = .ok (.invokevirtual 75, 3) := by decide +kernel
theorem d_X_row_51 : decode b_X_row 51 = .ok (.ireturn, 1) := by decide +kernel
theorem d_X_rowsThere_0 : decode b_X_rowsThere 0 = .ok (.iconst 0, 1) := by decide +kernel
theorem d_X_rowsThere_1 : decode b_X_rowsThere 1 = .ok (.istore_n 1, 1) := by decide +kernel
theorem d_X_rowsThere_2 : decode b_X_rowsThere 2 = .ok (.iconst 0, 1) := by decide +kernel
theorem d_X_rowsThere_3 : decode b_X_rowsThere 3 = .ok (.istore_n 2, 1) := by decide +kernel
theorem d_X_rowsThere_4 : decode b_X_rowsThere 4 = .ok (.iload_n 2, 1) := by decide +kernel
theorem d_X_rowsThere_5 : decode b_X_rowsThere 5 = .ok (.aload_n 0, 1) := by decide +kernel
theorem d_X_rowsThere_6 : decode b_X_rowsThere 6 = .ok (.getfield 11, 3) := by decide +kernel
theorem d_X_rowsThere_9 : decode b_X_rowsThere 9 = .ok (.arraylength, 1) := by decide +kernel
theorem d_X_rowsThere_10 : decode b_X_rowsThere 10 = .ok (.if_icmp .ge 29, 3) := by decide +kernel
theorem d_X_rowsThere_13 : decode b_X_rowsThere 13 = .ok (.iload_n 1, 1) := by decide +kernel
theorem d_X_rowsThere_14 : decode b_X_rowsThere 14 = .ok (.aload_n 0, 1) := by decide +kernel
theorem d_X_rowsThere_15 : decode b_X_rowsThere 15 = .ok (.getfield 11, 3) := by decide +kernel
theorem d_X_rowsThere_18 : decode b_X_rowsThere 18 = .ok (.iload_n 2, 1) := by decide +kernel
theorem d_X_rowsThere_19 : decode b_X_rowsThere 19 = .ok (.aaload, 1) := by decide +kernel
theorem d_X_rowsThere_20 : decode b_X_rowsThere 20 = .ok (.getfield 78, 3) := by decide +kernel
theorem d_X_rowsThere_23 : decode b_X_rowsThere 23 = .ok (.ifCond .eq 7, 3) := by decide +kernel
theorem d_X_rowsThere_26 : decode b_X_rowsThere 26 = .ok (.iconst 0, 1) := by decide +kernel
theorem d_X_rowsThere_27 : decode b_X_rowsThere 27 = .ok (.goto 4, 3) := by decide +kernel
theorem d_X_rowsThere_30 : decode b_X_rowsThere 30 = .ok (.iconst 1, 1) := by decide +kernel
theorem d_X_rowsThere_31 : decode b_X_rowsThere 31 = .ok (.iadd, 1) := by decide +kernel
theorem d_X_rowsThere_32 : decode b_X_rowsThere 32 = .ok (.istore_n 1, 1) := by decide +kernel
theorem d_X_rowsThere_33 : decode b_X_rowsThere 33 = .ok (.iinc 2 1, 3) := by decide +kernel
theorem d_X_rowsThere_36 : decode b_X_rowsThere 36 = .ok (.goto (-32), 3) := by decide +kernel
theorem d_X_rowsThere_39 : decode b_X_rowsThere 39 = .ok (.iload_n 1, 1) := by decide +kernel
theorem d_X_rowsThere_40 : decode b_X_rowsThere 40 = .ok (.ireturn, 1) := by decide +kernel
theorem d_X_set_0 : decode b_X_set 0 = .ok (.iload_n 1, 1) := by decide +kernel
theorem d_X_set_1 : decode b_X_set 1 = .ok (.invokestatic 58, 3) := by decide +kernel
theorem d_X_set_4 : decode b_X_set 4 = .ok (.ifCond .ne 6, 3) := by decide +kernel
theorem d_X_set_7 : decode b_X_set 7 = .ok (.ldc 66, 2) := by decide +kernel
theorem d_X_set_9 : decode b_X_set 9 = .ok (.ireturn, 1) := by decide +kernel
theorem d_X_set_10 : decode b_X_set 10 = .ok (.aload_n 0, 1) := by decide +kernel
theorem d_X_set_11 : decode b_X_set 11 = .ok (.getfield 11, 3) := by decide +kernel
theorem d_X_set_14 : decode b_X_set 14 = .ok (.iload_n 1, 1) := by decide +kernel
theorem d_X_set_15 : decode b_X_set 15 = .ok (.aaload, 1) := by decide +kernel
theorem d_X_set_16 : decode b_X_set 16 = .ok (.getfield 78, 3) := by decide +kernel
theorem d_X_set_19 : decode b_X_set 19 = .ok (.ifCond .eq 9, 3) := by decide +kernel
theorem d_X_set_22 : decode b_X_set 22 = .ok (.aload_n 0, 1) := by decide +kernel
theorem d_X_set_23 : decode b_X_set 23 = .ok (.iconst 1, 1) := by decide +kernel
theorem d_X_set_24 : decode b_X_set 24 = .ok (.invokevirtual 67, 3) := by decide +kernel
theorem d_X_set_27 : decode b_X_set 27 = .ok (.ireturn, 1) := by decide +kernel
theorem d_X_set_28 : decode b_X_set 28 = .ok (.aload_n 0, 1) := by decide +kernel
theorem d_X_set_29 : decode b_X_set 29 = .ok (.getfield 11, 3) := by decide +kernel
theorem d_X_set_32 : decode b_X_set 32 = .ok (.iload_n 1, 1) := by decide +kernel
theorem d_X_set_33 : decode b_X_set 33 = .ok (.aaload, 1) := by decide +kernel
theorem d_X_set_34 : decode b_X_set 34 = .ok (.iload_n 2, 1) := by decide +kernel
theorem d_X_set_35 : decode b_X_set 35 = .ok (.iconst 1, 1) := by decide +kernel
theorem d_X_set_36 : decode b_X_set 36 = .ok (.invokevirtual 82, 3) := by decide +kernel
theorem d_X_set_39 : decode b_X_set 39 = .ok (.ifCond .ne 9, 3) := by decide +kernel
theorem d_X_set_42 : decode b_X_set 42 = .ok (.aload_n 0, 1) := by decide +kernel
theorem d_X_set_43 : decode b_X_set 43 = .ok (.iconst 2, 1) := by decide +kernel
theorem d_X_set_44 : decode b_X_set 44 = .ok (.invokevirtual 67, 3) := by decide +kernel
theorem d_X_set_47 : decode b_X_set 47 = .ok (.ireturn, 1) := by decide +kernel
theorem d_X_set_48 : decode b_X_set 48 = .ok (.aload_n 0, 1) := by decide +kernel
theorem d_X_set_49 : decode b_X_set 49 = .ok (.aload_n 0, 1) := by decide +kernel
theorem d_X_set_50 : decode b_X_set 50 = .ok (.getfield 11, 3) := by decide +kernel
theorem d_X_set_53 : decode b_X_set 53 = .ok (.iload_n 1, 1) := by decide +kernel
theorem d_X_set_54 : decode b_X_set 54 = .ok (.aaload, 1) := by decide +kernel
theorem d_X_set_55 : decode b_X_set 55 = .ok (.iload_n 2, 1) := by decide +kernel
theorem d_X_set_56 : decode b_X_set 56 = .ok (.iload_n 3, 1) := by decide +kernel
theorem d_X_set_57 : decode b_X_set 57 = .ok (.invokevirtual 86, 3) := by decide +kernel
theorem d_X_set_60 : decode b_X_set 60 = .ok (.invokevirtual 75, 3) := by decide +kernel
theorem d_X_set_63 : decode b_X_set 63 = .ok (.ireturn, 1) := by decide +kernel
theorem d_X_status_0 : decode b_X_status 0 = .ok (.aload_n 0, 1) := by decide +kernel
theorem d_X_status_1 : decode b_X_status 1 = .ok (.getfield 300, 3) := by decide +kernel
theorem d_X_status_4 : decode b_X_status 4 = .ok (.ireturn, 1) := by decide +kernel
theorem d_X_staysEasyWithout_0 : decode b_X_staysEasyWithout 0 = .ok (.aload_n 0, 1) := by decide +kernel
theorem d_X_staysEasyWithout_1 : decode b_X_staysEasyWithout 1 = .ok (.iload_n 1, 1) := by decide +kernel
theorem d_X_staysEasyWithout_2 : decode b_X_staysEasyWithout 2 = .ok (.invokevirtual 254, 3) := by decide +kernel
theorem d_X_staysEasyWithout_5 : decode b_X_staysEasyWithout 5 = .ok (.iconst 0, 1) := by decide +kernel
theorem d_X_staysEasyWithout_6 : decode b_X_staysEasyWithout 6 = .ok (.istore 4, 2) := by decide +kernel
theorem d_X_staysEasyWithout_8 : decode b_X_staysEasyWithout 8 = .ok (.iload 4, 2) := by decide +kernel
theorem d_X_staysEasyWithout_10 : decode b_X_staysEasyWithout 10 = .ok (.iload_n 2, 1) := by decide +kernel
theorem d_X_staysEasyWithout_11 : decode b_X_staysEasyWithout 11 = .ok (.if_icmp .ge 30, 3) := by decide +kernel
theorem d_X_staysEasyWithout_14 : decode b_X_staysEasyWithout 14 = .ok (.aload_n 0, 1) := by decide +kernel
theorem d_X_staysEasyWithout_15 : decode b_X_staysEasyWithout 15 = .ok (.getfield 29, 3) := by decide +kernel
theorem d_X_staysEasyWithout_18 : decode b_X_staysEasyWithout 18 = .ok (.invokevirtual 206, 3) := by decide +kernel
theorem d_X_staysEasyWithout_21 : decode b_X_staysEasyWithout 21 = .ok (.iload_n 3, 1) := by decide +kernel
theorem d_X_staysEasyWithout_22 : decode b_X_staysEasyWithout 22 = .ok (.if_icmp .le 5, 3) := by decide +kernel
theorem d_X_staysEasyWithout_25 : decode b_X_staysEasyWithout 25 = .ok (.iconst 0, 1) := by decide +kernel
theorem d_X_staysEasyWithout_26 : decode b_X_staysEasyWithout 26 = .ok (.ireturn, 1) := by decide +kernel
theorem d_X_staysEasyWithout_27 : decode b_X_staysEasyWithout 27 = .ok (.aload_n 0, 1) := by decide +kernel
theorem d_X_staysEasyWithout_28 : decode b_X_staysEasyWithout 28 = .ok (.getfield 29, 3) := by decide +kernel
theorem d_X_staysEasyWithout_31 : decode b_X_staysEasyWithout 31 = .ok (.invokevirtual 145, 3) := by decide +kernel
theorem d_X_staysEasyWithout_34 : decode b_X_staysEasyWithout 34 = .ok (.pop, 1) := by decide +kernel
theorem d_X_staysEasyWithout_35 : decode b_X_staysEasyWithout 35 = .ok (.iinc 4 1, 3) := by decide +kernel
theorem d_X_staysEasyWithout_38 : decode b_X_staysEasyWithout 38 = .ok (.goto (-30), 3) := by decide +kernel
theorem d_X_staysEasyWithout_41 : decode b_X_staysEasyWithout 41 = .ok (.iconst 1, 1) := by decide +kernel
theorem d_X_staysEasyWithout_42 : decode b_X_staysEasyWithout 42 = .ok (.ireturn, 1) := by decide +kernel
theorem d_X_stealth_0 : decode b_X_stealth 0 = .ok (.aload_n 0, 1) := by decide +kernel
theorem d_X_stealth_1 : decode b_X_stealth 1 = .ok (.iload_n 1, 1) := by decide +kernel
theorem d_X_stealth_2 : decode b_X_stealth 2 = .ok (.invokestatic 58, 3) := by decide +kernel
theorem d_X_stealth_5 : decode b_X_stealth 5 = .ok (.ifCond .eq 17, 3) := by decide +kernel
theorem d_X_stealth_8 : decode b_X_stealth 8 = .ok (.iload_n 3, 1) := by decide +kernel
theorem d_X_stealth_9 : decode b_X_stealth 9 = .ok (.iconst 1, 1) := by decide +kernel
theorem d_X_stealth_10 : decode b_X_stealth 10 = .ok (.bipush 16, 2) := by decide +kernel
theorem d_X_stealth_12 : decode b_X_stealth 12 = .ok (.invokestatic 62, 3) := by decide +kernel
theorem d_X_stealth_15 : decode b_X_stealth 15 = .ok (.ifCond .eq 7, 3) := by decide +kernel
theorem d_X_stealth_18 : decode b_X_stealth 18 = .ok (.iconst 1, 1) := by decide +kernel
theorem d_X_stealth_19 : decode b_X_stealth 19 = .ok (.goto 4, 3) := by decide +kernel
theorem d_X_stealth_22 : decode b_X_stealth 22 = .ok (.iconst 0, 1) := by decide +kernel
theorem d_X_stealth_23 : decode b_X_stealth 23 = .ok (.invokevirtual 198, 3) := by decide +kernel
theorem d_X_stealth_26 : decode b_X_stealth 26 = .ok (.istore 4, 2) := by decide +kernel
theorem d_X_stealth_28 : decode b_X_stealth 28 = .ok (.iload 4, 2) := by decide +kernel
theorem d_X_stealth_30 : decode b_X_stealth 30 = .ok (.ifCond .eq 6, 3) := by decide +kernel
theorem d_X_stealth_33 : decode b_X_stealth 33 = .ok (.iload 4, 2) := by decide +kernel
theorem d_X_stealth_35 : decode b_X_stealth 35 = .ok (.ireturn, 1) := by decide +kernel
theorem d_X_stealth_36 : decode b_X_stealth 36 = .ok (.aload_n 0, 1) := by decide +kernel
theorem d_X_stealth_37 : decode b_X_stealth 37 = .ok (.getfield 11, 3) := by decide +kernel
theorem d_X_stealth_40 : decode b_X_stealth 40 = .ok (.iload_n 1, 1) := by decide +kernel
theorem d_X_stealth_41 : decode b_X_stealth 41 = .ok (.aaload, 1) := by decide +kernel
theorem d_X_stealth_42 : decode b_X_stealth 42 = .ok (.iload_n 2, 1) := by decide +kernel
theorem d_X_stealth_43 : decode b_X_stealth 43 = .ok (.iload_n 3, 1) := by decide +kernel
theorem d_X_stealth_44 : decode b_X_stealth 44 = .ok (.invokestatic 237, 3) := by decide +kernel
theorem d_X_stealth_47 : decode b_X_stealth 47 = .ok (.istore 5, 2) := by decide +kernel
theorem d_X_stealth_49 : decode b_X_stealth 49 = .ok (.iload 5, 2) := by decide +kernel
theorem d_X_stealth_51 : decode b_X_stealth 51 = .ok (.ifCond .eq 10, 3) := by decide +kernel
theorem d_X_stealth_54 : decode b_X_stealth 54 = .ok (.aload_n 0, 1) := by decide +kernel
theorem d_X_stealth_55 : decode b_X_stealth 55 = .ok (.iload 5, 2) := by decide +kernel
theorem d_X_stealth_57 : decode b_X_stealth 57 = .ok (.invokevirtual 67, 3) := by decide +kernel
theorem d_X_stealth_60 : decode b_X_stealth 60 = .ok (.ireturn, 1) := by decide +kernel
theorem d_X_stealth_61 : decode b_X_stealth 61 = .ok (.aload_n 0, 1) := by decide +kernel
theorem d_X_stealth_62 : decode b_X_stealth 62 = .ok (.getfield 29, 3) := by decide +kernel
theorem d_X_stealth_65 : decode b_X_stealth 65 = .ok (.aload_n 0, 1) := by decide +kernel
theorem d_X_stealth_66 : decode b_X_stealth 66 = .ok (.getfield 25, 3) := by decide +kernel
theorem d_X_stealth_69 : decode b_X_stealth 69 = .ok (.invokevirtual 122, 3) := by decide +kernel
theorem d_X_stealth_72 : decode b_X_stealth 72 = .ok (.aload_n 0, 1) := by decide +kernel
theorem d_X_stealth_73 : decode b_X_stealth 73 = .ok (.aload_n 0, 1) := by decide +kernel
theorem d_X_stealth_74 : decode b_X_stealth 74 = .ok (.getfield 11, 3) := by decide +kernel
theorem d_X_stealth_77 : decode b_X_stealth 77 = .ok (.iload_n 1, 1) := by decide +kernel
theorem d_X_stealth_78 : decode b_X_stealth 78 = .ok (.aaload, 1) := by decide +kernel
theorem d_X_stealth_79 : decode b_X_stealth 79 = .ok (.iload_n 2, 1) := by decide +kernel
theorem d_X_stealth_80 : decode b_X_stealth 80 = .ok (.iload_n 3, 1) := by decide +kernel
theorem d_X_stealth_81 : decode b_X_stealth 81 = .ok (.invokevirtual 250, 3) := by decide +kernel
theorem d_X_stealth_84 : decode b_X_stealth 84 = .ok (.ifCond .eq 8, 3) := by decide +kernel
theorem d_X_stealth_87 : decode b_X_stealth 87 = .ok (.bipush 64, 2) := by decide +kernel
theorem d_X_stealth_89 : decode b_X_stealth 89 = .ok (.goto 4, 3) := by decide +kernel
theorem d_X_stealth_92 : decode b_X_stealth 92 = .ok (.iconst 0, 1) := by decide +kernel
theorem d_X_stealth_93 : decode b_X_stealth 93 = .ok (.istore 6, 2) := by decide +kernel
theorem d_X_stealth_95 : decode b_X_stealth 95 = .ok (.iconst 0, 1) := by decide +kernel
theorem d_X_stealth_96 : decode b_X_stealth 96 = .ok (.istore 7, 2) := by decide +kernel
theorem d_X_stealth_98 : decode b_X_stealth 98 = .ok (.iload 7, 2) := by decide +kernel
theorem d_X_stealth_100 : decode b_X_stealth 100 = .ok (.aload_n 0, 1) := by decide +kernel
theorem d_X_stealth_101 : decode b_X_stealth 101 = .ok (.getfield 25, 3) := by decide +kernel
theorem d_X_stealth_104 : decode b_X_stealth 104 = .ok (.getfield 129, 3) := by decide +kernel
theorem d_X_stealth_107 : decode b_X_stealth 107 = .ok (.if_icmp .ge 57, 3) := by decide +kernel
theorem d_X_stealth_110 : decode b_X_stealth 110 = .ok (.aload_n 0, 1) := by decide +kernel
theorem d_X_stealth_111 : decode b_X_stealth 111 = .ok (.getfield 25, 3) := by decide +kernel
theorem d_X_stealth_114 : decode b_X_stealth 114 = .ok (.iload 7, 2) := by decide +kernel
theorem d_X_stealth_116 : decode b_X_stealth 116 = .ok (.invokevirtual 155, 3) := by decide +kernel
theorem d_X_stealth_119 : decode b_X_stealth 119 = .ok (.ifCond .eq 39, 3) := by decide +kernel
theorem d_X_stealth_122 : decode b_X_stealth 122 = .ok (.aload_n 0, 1) := by decide +kernel
theorem d_X_stealth_123 : decode b_X_stealth 123 = .ok (.iconst 1, 1) := by decide +kernel
theorem d_X_stealth_124 : decode b_X_stealth 124 = .ok (.iload 7, 2) := by decide +kernel
theorem d_X_stealth_126 : decode b_X_stealth 126 = .ok (.ishl, 1) := by decide +kernel
theorem d_X_stealth_127 : decode b_X_stealth 127 = .ok (.invokevirtual 254, 3) := by decide +kernel
theorem d_X_stealth_130 : decode b_X_stealth 130 = .ok (.iload 6, 2) := by decide +kernel
theorem d_X_stealth_132 : decode b_X_stealth 132 = .ok (.aload_n 0, 1) := by decide +kernel
theorem d_X_stealth_133 : decode b_X_stealth 133 = .ok (.aload_n 0, 1) := by decide +kernel
theorem d_X_stealth_134 : decode b_X_stealth 134 = .ok (.getfield 11, 3) := by decide +kernel
theorem d_X_stealth_137 : decode b_X_stealth 137 = .ok (.iload_n 1, 1) := by decide +kernel
theorem d_X_stealth_138 : decode b_X_stealth 138 = .ok (.aaload, 1) := by decide +kernel
theorem d_X_stealth_139 : decode b_X_stealth 139 = .ok (.iload_n 2, 1) := by decide +kernel
theorem d_X_stealth_140 : decode b_X_stealth 140 = .ok (.iload_n 3, 1) := by decide +kernel
theorem d_X_stealth_141 : decode b_X_stealth 141 = .ok (.invokevirtual 250, 3) := by decide +kernel
theorem d_X_stealth_144 : decode b_X_stealth 144 = .ok (.ifCond .eq 10, 3) := by decide +kernel
theorem d_X_stealth_147 : decode b_X_stealth 147 = .ok (.iconst 1, 1) := by decide +kernel
theorem d_X_stealth_148 : decode b_X_stealth 148 = .ok (.iload 7, 2) := by decide +kernel
theorem d_X_stealth_150 : decode b_X_stealth 150 = .ok (.ishl, 1) := by decide +kernel
theorem d_X_stealth_151 : decode b_X_stealth 151 = .ok (.goto 4, 3) := by decide +kernel
theorem d_X_stealth_154 : decode b_X_stealth 154 = .ok (.iconst 0, 1) := by decide +kernel
theorem d_X_stealth_155 : decode b_X_stealth 155 = .ok (.ior, 1) := by decide +kernel
theorem d_X_stealth_156 : decode b_X_stealth 156 = .ok (.istore 6, 2) := by decide +kernel
theorem d_X_stealth_158 : decode b_X_stealth 158 = .ok (.iinc 7 1, 3) := by decide +kernel
theorem d_X_stealth_161 : decode b_X_stealth 161 = .ok (.goto (-63), 3) := by decide +kernel
theorem d_X_stealth_164 : decode b_X_stealth 164 = .ok (.aload_n 0, 1) := by decide +kernel
theorem d_X_stealth_165 : decode b_X_stealth 165 = .ok (.iload 6, 2) := by decide +kernel
theorem d_X_stealth_167 : decode b_X_stealth 167 = .ok (.invokevirtual 75, 3) := by decide +kernel
theorem d_X_stealth_170 : decode b_X_stealth 170 = .ok (.ireturn, 1) := by decide +kernel
theorem d_X_sum_0 : decode b_X_sum 0 = .ok (.aload_n 0, 1) := by decide +kernel
theorem d_X_sum_1 : decode b_X_sum 1 = .ok (.iload_n 1, 1) := by decide +kernel
theorem d_X_sum_2 : decode b_X_sum 2 = .ok (.iconst 0, 1) := by decide +kernel
theorem d_X_sum_3 : decode b_X_sum 3 = .ok (.bipush 60, 2) := by decide +kernel
theorem d_X_sum_5 : decode b_X_sum 5 = .ok (.invokestatic 62, 3) := by decide +kernel
theorem d_X_sum_8 : decode b_X_sum 8 = .ok (.invokevirtual 198, 3) := by decide +kernel
theorem d_X_sum_11 : decode b_X_sum 11 = .ok (.istore_n 2, 1) := by decide +kernel
theorem d_X_sum_12 : decode b_X_sum 12 = .ok (.iload_n 2, 1) := by decide +kernel
theorem d_X_sum_13 : decode b_X_sum 13 = .ok (.ifCond .eq 7, 3) := by decide +kernel
theorem d_X_sum_16 : decode b_X_sum 16 = .ok (.iload_n 2, 1) := by decide +kernel
theorem d_X_sum_17 : decode b_X_sum 17 = .ok (.goto 11, 3) := by decide +kernel
theorem d_X_sum_20 : decode b_X_sum 20 = .ok (.aload_n 0, 1) := by decide +kernel
theorem d_X_sum_21 : decode b_X_sum 21 = .ok (.iload_n 1, 1) := by decide +kernel
theorem d_X_sum_22 : decode b_X_sum 22 = .ok (.invokevirtual 202, 3) := by decide +kernel
theorem d_X_sum_25 : decode b_X_sum 25 = .ok (.getfield 209, 3) := by decide +kernel
theorem d_X_sum_28 : decode b_X_sum 28 = .ok (.ireturn, 1) := by decide +kernel
theorem d_X_trace_0 : decode b_X_trace 0 = .ok (.iload_n 1, 1) := by decide +kernel
theorem d_X_trace_1 : decode b_X_trace 1 = .ok (.iconst 0, 1) := by decide +kernel
theorem d_X_trace_2 : decode b_X_trace 2 = .ok (.aload_n 0, 1) := by decide +kernel
theorem d_X_trace_3 : decode b_X_trace 3 = .ok (.getfield 53, 3) := by decide +kernel
theorem d_X_trace_6 : decode b_X_trace 6 = .ok (.getfield 283, 3) := by decide +kernel
theorem d_X_trace_9 : decode b_X_trace 9 = .ok (.iconst 1, 1) := by decide +kernel
theorem d_X_trace_10 : decode b_X_trace 10 = .ok (.isub, 1) := by decide +kernel
theorem d_X_trace_11 : decode b_X_trace 11 = .ok (.invokestatic 62, 3) := by decide +kernel
theorem d_X_trace_14 : decode b_X_trace 14 = .ok (.ifCond .eq 15, 3) := by decide +kernel
theorem d_X_trace_17 : decode b_X_trace 17 = .ok (.aload_n 0, 1) := by decide +kernel
theorem d_X_trace_18 : decode b_X_trace 18 = .ok (.getfield 53, 3) := by decide +kernel
theorem d_X_trace_21 : decode b_X_trace 21 = .ok (.getfield 291, 3) := by decide +kernel
theorem d_X_trace_24 : decode b_X_trace 24 = .ok (.iload_n 1, 1) := by decide +kernel
theorem d_X_trace_25 : decode b_X_trace 25 = .ok (.iaload, 1) := by decide +kernel
theorem d_X_trace_26 : decode b_X_trace 26 = .ok (.goto 5, 3) := by decide +kernel
theorem d_X_trace_29 : decode b_X_trace 29 = .ok (.ldc 212, 2) := by decide +kernel
theorem d_X_trace_31 : decode b_X_trace 31 = .ok (.ireturn, 1) := by decide +kernel
theorem d_X_undo_0 : decode b_X_undo 0 = .ok (.aload_n 0, 1) := by decide +kernel
theorem d_X_undo_1 : decode b_X_undo 1 = .ok (.getfield 39, 3) := by decide +kernel
theorem d_X_undo_4 : decode b_X_undo 4 = .ok (.aload_n 0, 1) := by decide +kernel
theorem d_X_undo_5 : decode b_X_undo 5 = .ok (.getfield 25, 3) := by decide +kernel
theorem d_X_undo_8 : decode b_X_undo 8 = .ok (.invokevirtual 180, 3) := by decide +kernel
theorem d_X_undo_11 : decode b_X_undo 11 = .ok (.ifCond .eq 13, 3) := by decide +kernel
theorem d_X_undo_14 : decode b_X_undo 14 = .ok (.aload_n 0, 1) := by decide +kernel
theorem d_X_undo_15 : decode b_X_undo 15 = .ok (.getfield 39, 3) := by decide +kernel
theorem d_X_undo_18 : decode b_X_undo 18 = .ok (.getfield 183, 3) := by decide +kernel
theorem d_X_undo_21 : decode b_X_undo 21 = .ok (.goto 5, 3) := by decide +kernel
theorem d_X_undo_24 : decode b_X_undo 24 = .ok (.ldc 138, 2) := by decide +kernel
theorem d_X_undo_26 : decode b_X_undo 26 = .ok (.ireturn, 1) := by decide +kernel
end
section
-- the heap as a map of addresses; one machine law a row, over it
abbrev gE : Type := (Nat × vp_A) ⊕ (Nat × List Value)
abbrev gG : Type := Nat → Option gE
abbrev gX : Type := Launch × va_G × (Nat → ClassId) × (Nat → Nat)
def gconv (cA : Nat → ClassId) : gE → va_E
  | .inl a => .inl (cA a.1, a.2)
  | .inr o => .inr o
def gtys (cA : Nat → ClassId) : List (ClassId × FieldType) := [(cA 0, .int), (cA 1, .boolean), (cA 2, .object "ClockPost$Row"), (cA 3, .object "ClockPost$House"), (cA 4, .object "ClockPost$Letter")]
def gP (E : gX) (sz : Nat) (G : gG) (H : Heap) : Prop := H.size = sz ∧ ∀ (a : Nat) (e : gE), G a = some e → va_at E.2.1 clz (a, gconv E.2.2.1 e) H
def gA (G : gG) (sz : Nat) : Nat → Prop := fun q => G q ≠ none ∨ sz ≤ q
def tbNK : Nat → Int32 := fun j => match j with
  | 0 => 0
  | 1 => 0
  | 2 => 1
  | 3 => 1
  | 4 => 0
  | _ => 4
def tbSB : Nat → Int32 := fun j => match j with
  | 0 => 10
  | 1 => 11
  | 2 => 12
  | 3 => 11
  | 4 => 13
  | _ => 14
def tbMB : Nat → Int32 := fun j => match j with
  | 0 => 20
  | 1 => 21
  | 2 => 24
  | 3 => 22
  | 4 => 23
  | _ => 23
def gZ1 (n : String) (t : Nat) (f : Nat → Int32) (A : Nat → Prop) (U : State) (H : Heap) : Prop := va_Z "ClockPost" n "[I" (.ref t) A U H ∧ va_T .int t 6 (fun j => .int (f j)) A U H
def gZ (E : gX) (A : Nat → Prop) (U : State) (H : Heap) : Prop := gZ1 "NEAREST_KIND" (E.2.2.2 0) tbNK A U H ∧ gZ1 "SIZE_BODIES" (E.2.2.2 1) tbSB A U H ∧ gZ1 "MARK_BODIES" (E.2.2.2 2) tbMB A U H
theorem gZ1.use {n : String} {t : Nat} {f : Nat → Int32} {A B : Nat → Prop} {s U : State} {H0 H : Heap} (h : gZ1 n t f A s H0) (hq : ∀ a : Nat, a < H0.size → ¬ A a → H[a]? = H0[a]?) (hAB : ∀ q, B q → A q) (hvm : s.vm.Alike U.vm) : gZ1 n t f B U H :=
  ⟨va_Z.moved hvm ((h.1.kept hq).narrow hAB), va_T.moved hvm ((h.2.kept hq).narrow hAB)⟩
theorem gZ.use {E : gX} {A B : Nat → Prop} {s U : State} {H0 H : Heap} (h : gZ E A s H0) (hq : ∀ a : Nat, a < H0.size → ¬ A a → H[a]? = H0[a]?) (hAB : ∀ q, B q → A q) (hvm : s.vm.Alike U.vm) : gZ E B U H :=
  ⟨h.1.use hq hAB hvm, h.2.1.use hq hAB hvm, h.2.2.use hq hAB hvm⟩
def gup (G : gG) (a : Nat) (e : gE) : gG := fun q => if q = a then some e else G q
theorem gup_s {G : gG} {a : Nat} {e : gE} : gup G a e a = some e := by simp [gup]
theorem gup_n {G : gG} {a q : Nat} {e : gE} (h : q ≠ a) : gup G a e q = G q := by simp [gup, h]
def gRm (k mc : Nat) : Room := { frames := k, cells := mc, slots := 1100 * mc, locals := 64 * k }
def gN (U : State) : Prop := (∀ q ∈ nestL, va_Nw (.methodLinkNest q.1 q.2.1 q.2.2.1 q.2.2.2) U) ∧ ∀ C ∈ overL, va_AO C U
theorem gN.warm {s U : State} (hW : s.WarmedH U.vm) (h : gN s) : gN U := ⟨fun q hq => va_Nw.warmM hW (h.1 q hq), fun C hC => (h.2 C hC).moved hW.alike⟩
def gB (E : gX) (sz : Nat) (G : gG) : State → Prop := fun U => gP E sz G U.heap ∧ va_K E.2.1 clz (gtys E.2.2.1) U ∧ gZ E (gA G sz) U U.heap ∧ gN U
def gQ (E : gX) (mc sz : Nat) (G : gG) (Q : Option Value → gG → Prop) : Array Value → State → Outcome → State → Prop := fun _ st oc t =>
  (∃ (r : Option Value) (G' : gG), oc = .returned r ∧ Q r G' ∧ gP E (sz + mc) G' t.heap ∧ ∀ q, gA G' (sz + mc) q → gA G sz q) ∧ va_F (gA G sz) st t
def Runs (E : gX) (y : MethodName) (k mc sz : Nat) (args : List Value) (G : gG) (Q : Option Value → gG → Prop) : Prop :=
  ∃ (bytes : ByteArray) (maxL : Nat) (ret : Option FieldType), Cond.code y bytes maxL ret ∈ tbl ∧ maxL ≤ 40 ∧ Met E.1 y (Cond.code y bytes maxL ret :: tbl) (gRm k mc) (va_Pc args (gB E sz G)) (gQ E mc sz G Q) mc (1100 * mc) (gA G sz)
def lvL (ls : Array Slot) (Ls : List (Option Value)) : Prop := ls.size = Ls.length ∧ lv_wf ls ∧ ∀ (i : Nat) (v : Value), Ls[i]? = some (some v) → ls[i]? = some (.val v)
def gK (E : gX) (p : Program) (e : Env) (R : Room) (s : State) (m : MethodId) (args : Array Value) (below : List Frame) (meth : Method) (c : Code) (nL : Nat) (G0 : gG) (Qm : State → Prop) (pc : Nat) (Ls : List (Option Value)) (st : List Value) (sz : Nat) (G : gG) : Prop :=
  ∀ (H : Heap) (locs : List Loc) (ls : Array Slot), gP E sz G H → s.heap.size ≤ sz → (∀ q, gA G sz q → gA G0 s.heap.size q) → va_S (gA G0 s.heap.size) s.heap H locs → lvL ls Ls → ls.size = nL → W p E.1 e R s m args below meth c H locs (sz - s.heap.size) (1100 * (sz - s.heap.size)) Qm (F0 m pc ls st)
def gC (E : gX) (own : String) (cc : ByteArray) (ret : Option FieldType) (nL sz0 : Nat) (ini : Bool) (G0 : gG) (p : Program) (s : State) (m : MethodId) (args : Array Value) (meth : Method) (c : Code) : Prop :=
  p.tables.exec = Jvm.exec ∧ c.code = cc ∧ meth.sig.returnType = ret ∧ c.maxLocals = nL ∧ s.vm.findClass own = some m.cls ∧ (∀ w ∈ tbl, w.before args s = true) ∧ meth.locks = false ∧ (ini = true → meth.name = "<init>") ∧ va_K E.2.1 clz (gtys E.2.2.1) s ∧ gZ E (gA G0 s.heap.size) s s.heap ∧ s.heap.size = sz0 ∧ gN s
def Cl (E : gX) (own : String) (cc : ByteArray) (ret : Option FieldType) (nL k mc sz0 : Nat) (ini : Bool) (G0 : gG) (Q : Option Value → gG → Prop) (K : Nat → List (Option Value) → List Value → Nat → gG → Prop) : Prop :=
  ∃ (p : Program) (e : Env) (s : State) (m : MethodId) (args : Array Value) (below : List Frame) (meth : Method) (c : Code), gC E own cc ret nL sz0 ini G0 p s m args meth c ∧ K = gK E p e (gRm k mc) s m args below meth c nL G0 (MQ below (gQ E mc sz0 G0 Q) args s mc (1100 * mc) (gA G0 sz0))
-- a method's entry
def gL0 : List Value → List (Option Value)
  | [] => []
  | v :: vs => if v.category = 2 then some v :: none :: gL0 vs else some v :: gL0 vs
def gL (vs : List Value) (n : Nat) : List (Option Value) := gL0 vs ++ List.replicate (n - (gL0 vs).length) none
theorem gL0_len (vs : List Value) : (gL0 vs).length = (lg_sl vs).length := by
  induction vs with
  | nil => rfl
  | cons v vs ih =>
    by_cases h : v.category = 2
    · simp only [gL0, if_pos h, lg_sl, List.flatMap_cons, List.length_cons, List.length_append, ih]
      simp [lg_sl]
      omega
    · simp only [gL0, if_neg h, lg_sl, List.flatMap_cons, List.length_cons, List.length_append, ih]
      simp [lg_sl]
      omega
theorem gL0_at (vs : List Value) : ∀ (b i : Nat) (v : Value), (gL0 vs)[i]? = some (some v) → (b + i, v) ∈ lv_args b vs := by
  induction vs with
  | nil => intro b i v h; simp [gL0] at h
  | cons w vs ih =>
    intro b i v h
    by_cases hc : w.category = 2
    · simp only [gL0, if_pos hc] at h
      simp only [lv_args, if_pos hc]
      match i with
      | 0 => simp at h; subst h; simp
      | 1 => simp at h
      | i + 2 =>
        simp only [List.getElem?_cons_succ] at h
        have := ih (b + 2) i v h
        refine List.mem_cons_of_mem _ ?_
        rw [show b + (i + 2) = b + 2 + i by omega]
        exact this
    · simp only [gL0, if_neg hc] at h
      simp only [lv_args, if_neg hc]
      match i with
      | 0 => simp at h; subst h; simp
      | i + 1 =>
        simp only [List.getElem?_cons_succ] at h
        have := ih (b + 1) i v h
        refine List.mem_cons_of_mem _ ?_
        rw [show b + (i + 1) = b + 1 + i by omega]
        exact this
theorem Runs.of {E : gX} {y : MethodName} {k mc sz : Nat} {args : List Value} {G : gG} {Q : Option Value → gG → Prop} {bytes : ByteArray} {maxL : Nat} {ret : Option FieldType} (own : String) (Ls : List (Option Value)) (hc : Cond.code y bytes maxL ret ∈ tbl) (hm : maxL ≤ 40) (hy : plainName y.cls = true) (ho : y.cls = own) (hL : (gL0 args).length ≤ maxL) (hLs : gL args maxL = Ls)
    (h : ∀ K, Cl E own bytes ret maxL k mc sz (y.name == "<init>") G Q K → K 0 Ls [] sz G) : Runs E y k mc sz args G Q := by
  refine ⟨bytes, maxL, ret, hc, hm, ?_⟩
  refine Met.ofW (cc := bytes) (maxL := maxL) (ret := ret) hy rfl ?_
  intro p e s m as below meth c s₁ B hml hv
  obtain ⟨rfl, hP, hK, hZ, hN⟩ := hv
  have hts0 := atoms_spec (ws := Cond.code y bytes maxL ret :: tbl) B.pre
  have hown : s.vm.findClass own = some m.cls := by rw [← ho]; exact findClass_of_methodNamed B.named
  have hsz : s.heap.size = sz := hP.1
  subst hsz
  have hin : (y.name == "<init>") = true → meth.name = "<init>" := fun hn => by
    rw [(name_of_methodNamed B.named B.method).1]
    exact eq_of_beq hn
  have key := h _ ⟨p, e, s, m, args.toArray, below, meth, c, ⟨B.exec, B.bytes, B.returns, hml, hown, fun w hw => hts0 w (List.mem_cons_of_mem _ hw), B.notSynchronized, hin, hK, hZ, rfl, hN⟩, rfl⟩
  have hlen : (lg_sl args).length ≤ maxL := by rw [← gL0_len]; exact hL
  have hl := lv_entry args (n := maxL) hlen
  rw [lg_entry_eq]
  generalize (lg_sl args ++ List.replicate (maxL - (lg_sl args).length) Slot.unset).toArray = ls at hl ⊢
  have hLlen : Ls.length = maxL := by rw [← hLs]; simp [gL]; omega
  have h5 : lvL ls Ls := ⟨hl.1.trans hLlen.symm, hl.2.1, fun i v hi => by
    rw [← hLs] at hi
    have hi2 : (gL0 args)[i]? = some (some v) := by
      unfold gL at hi
      by_cases q : i < (gL0 args).length
      · rwa [List.getElem?_append_left q] at hi
      · rw [List.getElem?_append_right (by omega), List.getElem?_replicate] at hi
        split at hi <;> simp at hi
    have := gL0_at args 0 i v hi2
    rw [Nat.zero_add] at this
    exact hl.2.2 (i, v) this⟩
  have := key s.heap [] ls hP (Nat.le_refl _) (fun q hq => hq) va_S.rf h5 hl.1
  rw [Nat.sub_self] at this
  exact this
theorem gP1 {E : gX} {sz : Nat} {G : gG} {H : Heap} {a : Nat} {e : gE} (h : gP E sz G H) (ha : G a = some e) : va_P E.2.1 clz [(a, gconv E.2.2.1 e)] H := by
  intro k q hk
  match k with
  | 0 => cases hk; exact h.2 a e ha
  | k + 1 => simp at hk
section GR
variable {E : gX} {own : String} {cc : ByteArray} {ret : Option FieldType} {nL k mc sz0 : Nat} {ini : Bool} {G0 : gG} {Q : Option Value → gG → Prop} {K : Nat → List (Option Value) → List Value → Nat → gG → Prop}
variable {pc sz : Nat} {Ls : List (Option Value)} {st : List Value} {G : gG}
theorem r_iconst (hK : Cl E own cc ret nL k mc sz0 ini G0 Q K) {n : Int} {v : Int32} (hd : decode cc pc = .ok (.iconst n, 1)) (hv : Int32.ofInt n = v) (kk : K (pc + 1) Ls (.int v :: st) sz G) : K pc Ls st sz G := by
  obtain ⟨p, e, s, m, args, below, meth, c, C, rfl⟩ := hK
  intro H locs ls h1 h2 h3 h4 h5 h6
  exact lv_iconst C.1 C.2.1 hd hv (kk H locs ls h1 h2 h3 h4 h5 h6)
theorem r_bipush (hK : Cl E own cc ret nL k mc sz0 ini G0 Q K) {n : Int} {v : Int32} (hd : decode cc pc = .ok (.bipush n, 2)) (hv : (Int8.ofInt n).toInt32 = v) (kk : K (pc + 2) Ls (.int v :: st) sz G) : K pc Ls st sz G := by
  obtain ⟨p, e, s, m, args, below, meth, c, C, rfl⟩ := hK
  intro H locs ls h1 h2 h3 h4 h5 h6
  exact lv_bipush C.1 C.2.1 hd hv (kk H locs ls h1 h2 h3 h4 h5 h6)
theorem r_sipush (hK : Cl E own cc ret nL k mc sz0 ini G0 Q K) {n : Int} {v : Int32} (hd : decode cc pc = .ok (.sipush n, 3)) (hv : (Int16.ofInt n).toInt32 = v) (kk : K (pc + 3) Ls (.int v :: st) sz G) : K pc Ls st sz G := by
  obtain ⟨p, e, s, m, args, below, meth, c, C, rfl⟩ := hK
  intro H locs ls h1 h2 h3 h4 h5 h6
  exact lv_sipush C.1 C.2.1 hd hv (kk H locs ls h1 h2 h3 h4 h5 h6)
theorem r_lconst (hK : Cl E own cc ret nL k mc sz0 ini G0 Q K) {n : Fin 2} {v : Int64} (hd : decode cc pc = .ok (.lconst n, 1)) (hv : Int64.ofNat (n : Nat) = v) (kk : K (pc + 1) Ls (.long v :: st) sz G) : K pc Ls st sz G := by
  obtain ⟨p, e, s, m, args, below, meth, c, C, rfl⟩ := hK
  intro H locs ls h1 h2 h3 h4 h5 h6
  exact lv_lconst C.1 C.2.1 hd hv (kk H locs ls h1 h2 h3 h4 h5 h6)
theorem r_iload_n (hK : Cl E own cc ret nL k mc sz0 ini G0 Q K) {j : Fin 4} {x : Int32} (hd : decode cc pc = .ok (.iload_n j, 1)) (hv : Ls[(j : Nat)]? = some (some (.int x))) (kk : K (pc + 1) Ls (.int x :: st) sz G) : K pc Ls st sz G := by
  obtain ⟨p, e, s, m, args, below, meth, c, C, rfl⟩ := hK
  intro H locs ls h1 h2 h3 h4 h5 h6
  exact lv_iload_n C.1 C.2.1 hd rfl (h5.2.2 _ _ hv) (kk H locs ls h1 h2 h3 h4 h5 h6)
theorem r_iload (hK : Cl E own cc ret nL k mc sz0 ini G0 Q K) {i : Nat} {x : Int32} (hd : decode cc pc = .ok (.iload i, 2)) (hv : Ls[i]? = some (some (.int x))) (kk : K (pc + 2) Ls (.int x :: st) sz G) : K pc Ls st sz G := by
  obtain ⟨p, e, s, m, args, below, meth, c, C, rfl⟩ := hK
  intro H locs ls h1 h2 h3 h4 h5 h6
  exact lv_iload C.1 C.2.1 hd (h5.2.2 _ _ hv) (kk H locs ls h1 h2 h3 h4 h5 h6)
theorem r_lload_n (hK : Cl E own cc ret nL k mc sz0 ini G0 Q K) {j : Fin 4} {x : Int64} (hd : decode cc pc = .ok (.lload_n j, 1)) (hv : Ls[(j : Nat)]? = some (some (.long x))) (kk : K (pc + 1) Ls (.long x :: st) sz G) : K pc Ls st sz G := by
  obtain ⟨p, e, s, m, args, below, meth, c, C, rfl⟩ := hK
  intro H locs ls h1 h2 h3 h4 h5 h6
  exact lv_lload_n C.1 C.2.1 hd rfl (h5.2.2 _ _ hv) (kk H locs ls h1 h2 h3 h4 h5 h6)
theorem r_lload (hK : Cl E own cc ret nL k mc sz0 ini G0 Q K) {i : Nat} {x : Int64} (hd : decode cc pc = .ok (.lload i, 2)) (hv : Ls[i]? = some (some (.long x))) (kk : K (pc + 2) Ls (.long x :: st) sz G) : K pc Ls st sz G := by
  obtain ⟨p, e, s, m, args, below, meth, c, C, rfl⟩ := hK
  intro H locs ls h1 h2 h3 h4 h5 h6
  exact lv_lload C.1 C.2.1 hd (h5.2.2 _ _ hv) (kk H locs ls h1 h2 h3 h4 h5 h6)
theorem r_aload_n (hK : Cl E own cc ret nL k mc sz0 ini G0 Q K) {j : Fin 4} {x : Nat} (hd : decode cc pc = .ok (.aload_n j, 1)) (hv : Ls[(j : Nat)]? = some (some (.ref x))) (kk : K (pc + 1) Ls (.ref x :: st) sz G) : K pc Ls st sz G := by
  obtain ⟨p, e, s, m, args, below, meth, c, C, rfl⟩ := hK
  intro H locs ls h1 h2 h3 h4 h5 h6
  exact lv_aload_n C.1 C.2.1 hd rfl (h5.2.2 _ _ hv) (kk H locs ls h1 h2 h3 h4 h5 h6)
theorem r_aload (hK : Cl E own cc ret nL k mc sz0 ini G0 Q K) {i : Nat} {x : Nat} (hd : decode cc pc = .ok (.aload i, 2)) (hv : Ls[i]? = some (some (.ref x))) (kk : K (pc + 2) Ls (.ref x :: st) sz G) : K pc Ls st sz G := by
  obtain ⟨p, e, s, m, args, below, meth, c, C, rfl⟩ := hK
  intro H locs ls h1 h2 h3 h4 h5 h6
  exact lv_aload C.1 C.2.1 hd (h5.2.2 _ _ hv) (kk H locs ls h1 h2 h3 h4 h5 h6)
theorem r_iadd (hK : Cl E own cc ret nL k mc sz0 ini G0 Q K) {x y : Int32} (hd : decode cc pc = .ok (.iadd, 1))  (kk : K (pc + 1) Ls (.int (x + y) :: st) sz G) : K pc Ls (.int y :: .int x :: st) sz G := by
  obtain ⟨p, e, s, m, args, below, meth, c, C, rfl⟩ := hK
  intro H locs ls h1 h2 h3 h4 h5 h6
  exact lv_iadd C.1 C.2.1 hd (kk H locs ls h1 h2 h3 h4 h5 h6)
theorem r_isub (hK : Cl E own cc ret nL k mc sz0 ini G0 Q K) {x y : Int32} (hd : decode cc pc = .ok (.isub, 1))  (kk : K (pc + 1) Ls (.int (x - y) :: st) sz G) : K pc Ls (.int y :: .int x :: st) sz G := by
  obtain ⟨p, e, s, m, args, below, meth, c, C, rfl⟩ := hK
  intro H locs ls h1 h2 h3 h4 h5 h6
  exact lv_isub C.1 C.2.1 hd (kk H locs ls h1 h2 h3 h4 h5 h6)
theorem r_imul (hK : Cl E own cc ret nL k mc sz0 ini G0 Q K) {x y : Int32} (hd : decode cc pc = .ok (.imul, 1))  (kk : K (pc + 1) Ls (.int (x * y) :: st) sz G) : K pc Ls (.int y :: .int x :: st) sz G := by
  obtain ⟨p, e, s, m, args, below, meth, c, C, rfl⟩ := hK
  intro H locs ls h1 h2 h3 h4 h5 h6
  exact lv_imul C.1 C.2.1 hd (kk H locs ls h1 h2 h3 h4 h5 h6)
theorem r_iand (hK : Cl E own cc ret nL k mc sz0 ini G0 Q K) {x y : Int32} (hd : decode cc pc = .ok (.iand, 1))  (kk : K (pc + 1) Ls (.int (x &&& y) :: st) sz G) : K pc Ls (.int y :: .int x :: st) sz G := by
  obtain ⟨p, e, s, m, args, below, meth, c, C, rfl⟩ := hK
  intro H locs ls h1 h2 h3 h4 h5 h6
  exact lv_iand C.1 C.2.1 hd (kk H locs ls h1 h2 h3 h4 h5 h6)
theorem r_ior (hK : Cl E own cc ret nL k mc sz0 ini G0 Q K) {x y : Int32} (hd : decode cc pc = .ok (.ior, 1))  (kk : K (pc + 1) Ls (.int (x ||| y) :: st) sz G) : K pc Ls (.int y :: .int x :: st) sz G := by
  obtain ⟨p, e, s, m, args, below, meth, c, C, rfl⟩ := hK
  intro H locs ls h1 h2 h3 h4 h5 h6
  exact lv_ior C.1 C.2.1 hd (kk H locs ls h1 h2 h3 h4 h5 h6)
theorem r_ixor (hK : Cl E own cc ret nL k mc sz0 ini G0 Q K) {x y : Int32} (hd : decode cc pc = .ok (.ixor, 1))  (kk : K (pc + 1) Ls (.int (x ^^^ y) :: st) sz G) : K pc Ls (.int y :: .int x :: st) sz G := by
  obtain ⟨p, e, s, m, args, below, meth, c, C, rfl⟩ := hK
  intro H locs ls h1 h2 h3 h4 h5 h6
  exact lv_ixor C.1 C.2.1 hd (kk H locs ls h1 h2 h3 h4 h5 h6)
theorem r_ishl (hK : Cl E own cc ret nL k mc sz0 ini G0 Q K) {x y : Int32} (hd : decode cc pc = .ok (.ishl, 1))  (kk : K (pc + 1) Ls (.int (x <<< (y &&& 31)) :: st) sz G) : K pc Ls (.int y :: .int x :: st) sz G := by
  obtain ⟨p, e, s, m, args, below, meth, c, C, rfl⟩ := hK
  intro H locs ls h1 h2 h3 h4 h5 h6
  exact lv_ishl C.1 C.2.1 hd (kk H locs ls h1 h2 h3 h4 h5 h6)
theorem r_ishr (hK : Cl E own cc ret nL k mc sz0 ini G0 Q K) {x y : Int32} (hd : decode cc pc = .ok (.ishr, 1))  (kk : K (pc + 1) Ls (.int (x >>> (y &&& 31)) :: st) sz G) : K pc Ls (.int y :: .int x :: st) sz G := by
  obtain ⟨p, e, s, m, args, below, meth, c, C, rfl⟩ := hK
  intro H locs ls h1 h2 h3 h4 h5 h6
  exact lv_ishr C.1 C.2.1 hd (kk H locs ls h1 h2 h3 h4 h5 h6)
theorem r_idiv (hK : Cl E own cc ret nL k mc sz0 ini G0 Q K) {x y : Int32} (hd : decode cc pc = .ok (.idiv, 1)) (hne : ¬ y = 0) (kk : K (pc + 1) Ls (.int (x / y) :: st) sz G) : K pc Ls (.int y :: .int x :: st) sz G := by
  obtain ⟨p, e, s, m, args, below, meth, c, C, rfl⟩ := hK
  intro H locs ls h1 h2 h3 h4 h5 h6
  exact lv_idiv C.1 C.2.1 hd hne (kk H locs ls h1 h2 h3 h4 h5 h6)
theorem r_irem (hK : Cl E own cc ret nL k mc sz0 ini G0 Q K) {x y : Int32} (hd : decode cc pc = .ok (.irem, 1)) (hne : ¬ y = 0) (kk : K (pc + 1) Ls (.int (x - x / y * y) :: st) sz G) : K pc Ls (.int y :: .int x :: st) sz G := by
  obtain ⟨p, e, s, m, args, below, meth, c, C, rfl⟩ := hK
  intro H locs ls h1 h2 h3 h4 h5 h6
  exact lv_irem C.1 C.2.1 hd hne (kk H locs ls h1 h2 h3 h4 h5 h6)
theorem r_ineg (hK : Cl E own cc ret nL k mc sz0 ini G0 Q K) {x : Int32} (hd : decode cc pc = .ok (.ineg, 1))  (kk : K (pc + 1) Ls (.int (-x) :: st) sz G) : K pc Ls (.int x :: st) sz G := by
  obtain ⟨p, e, s, m, args, below, meth, c, C, rfl⟩ := hK
  intro H locs ls h1 h2 h3 h4 h5 h6
  exact lv_ineg C.1 C.2.1 hd (kk H locs ls h1 h2 h3 h4 h5 h6)
theorem r_iushr (hK : Cl E own cc ret nL k mc sz0 ini G0 Q K) {x y : Int32} (hd : decode cc pc = .ok (.iushr, 1))  (kk : K (pc + 1) Ls (.int ((x.toUInt32 >>> (y.toUInt32 &&& Int32.toUInt32 31)).toInt32) :: st) sz G) : K pc Ls (.int y :: .int x :: st) sz G := by
  obtain ⟨p, e, s, m, args, below, meth, c, C, rfl⟩ := hK
  intro H locs ls h1 h2 h3 h4 h5 h6
  exact lv_iushr C.1 C.2.1 hd rfl (kk H locs ls h1 h2 h3 h4 h5 h6)
theorem r_ladd (hK : Cl E own cc ret nL k mc sz0 ini G0 Q K) {x y : Int64} (hd : decode cc pc = .ok (.ladd, 1))  (kk : K (pc + 1) Ls (.long (x + y) :: st) sz G) : K pc Ls (.long y :: .long x :: st) sz G := by
  obtain ⟨p, e, s, m, args, below, meth, c, C, rfl⟩ := hK
  intro H locs ls h1 h2 h3 h4 h5 h6
  exact lv_ladd C.1 C.2.1 hd (kk H locs ls h1 h2 h3 h4 h5 h6)
theorem r_lmul (hK : Cl E own cc ret nL k mc sz0 ini G0 Q K) {x y : Int64} (hd : decode cc pc = .ok (.lmul, 1))  (kk : K (pc + 1) Ls (.long (x * y) :: st) sz G) : K pc Ls (.long y :: .long x :: st) sz G := by
  obtain ⟨p, e, s, m, args, below, meth, c, C, rfl⟩ := hK
  intro H locs ls h1 h2 h3 h4 h5 h6
  exact lv_lmul C.1 C.2.1 hd (kk H locs ls h1 h2 h3 h4 h5 h6)
theorem r_lrem (hK : Cl E own cc ret nL k mc sz0 ini G0 Q K) {x y : Int64} (hd : decode cc pc = .ok (.lrem, 1)) (hne : ¬ y = 0) (kk : K (pc + 1) Ls (.long (x - x / y * y) :: st) sz G) : K pc Ls (.long y :: .long x :: st) sz G := by
  obtain ⟨p, e, s, m, args, below, meth, c, C, rfl⟩ := hK
  intro H locs ls h1 h2 h3 h4 h5 h6
  exact lv_lrem C.1 C.2.1 hd hne (kk H locs ls h1 h2 h3 h4 h5 h6)
theorem r_i2l (hK : Cl E own cc ret nL k mc sz0 ini G0 Q K) {x : Int32} (hd : decode cc pc = .ok (.i2l, 1))  (kk : K (pc + 1) Ls (.long x.toInt64 :: st) sz G) : K pc Ls (.int x :: st) sz G := by
  obtain ⟨p, e, s, m, args, below, meth, c, C, rfl⟩ := hK
  intro H locs ls h1 h2 h3 h4 h5 h6
  exact lv_i2l C.1 C.2.1 hd rfl (kk H locs ls h1 h2 h3 h4 h5 h6)
theorem r_l2i (hK : Cl E own cc ret nL k mc sz0 ini G0 Q K) {x : Int64} (hd : decode cc pc = .ok (.l2i, 1))  (kk : K (pc + 1) Ls (.int x.toInt32 :: st) sz G) : K pc Ls (.long x :: st) sz G := by
  obtain ⟨p, e, s, m, args, below, meth, c, C, rfl⟩ := hK
  intro H locs ls h1 h2 h3 h4 h5 h6
  exact lv_l2i C.1 C.2.1 hd rfl (kk H locs ls h1 h2 h3 h4 h5 h6)
theorem r_i2b (hK : Cl E own cc ret nL k mc sz0 ini G0 Q K) {x : Int32} (hd : decode cc pc = .ok (.i2b, 1))  (kk : K (pc + 1) Ls (.int x.toInt8.toInt32 :: st) sz G) : K pc Ls (.int x :: st) sz G := by
  obtain ⟨p, e, s, m, args, below, meth, c, C, rfl⟩ := hK
  intro H locs ls h1 h2 h3 h4 h5 h6
  exact lv_i2b C.1 C.2.1 hd rfl (kk H locs ls h1 h2 h3 h4 h5 h6)
theorem r_i2s (hK : Cl E own cc ret nL k mc sz0 ini G0 Q K) {x : Int32} (hd : decode cc pc = .ok (.i2s, 1))  (kk : K (pc + 1) Ls (.int x.toInt16.toInt32 :: st) sz G) : K pc Ls (.int x :: st) sz G := by
  obtain ⟨p, e, s, m, args, below, meth, c, C, rfl⟩ := hK
  intro H locs ls h1 h2 h3 h4 h5 h6
  exact lv_i2s C.1 C.2.1 hd rfl (kk H locs ls h1 h2 h3 h4 h5 h6)
theorem r_dup (hK : Cl E own cc ret nL k mc sz0 ini G0 Q K) {va : Value} (hd : decode cc pc = .ok (.dup, 1)) (hva : va.category = 1) (kk : K (pc + 1) Ls (va :: va :: st) sz G) : K pc Ls (va :: st) sz G := by
  obtain ⟨p, e, s, m, args, below, meth, c, C, rfl⟩ := hK
  intro H locs ls h1 h2 h3 h4 h5 h6
  exact lv_dup C.1 C.2.1 hd hva (kk H locs ls h1 h2 h3 h4 h5 h6)
theorem r_pop (hK : Cl E own cc ret nL k mc sz0 ini G0 Q K) {va : Value} (hd : decode cc pc = .ok (.pop, 1)) (hva : va.category = 1) (kk : K (pc + 1) Ls st sz G) : K pc Ls (va :: st) sz G := by
  obtain ⟨p, e, s, m, args, below, meth, c, C, rfl⟩ := hK
  intro H locs ls h1 h2 h3 h4 h5 h6
  exact lv_pop C.1 C.2.1 hd hva (kk H locs ls h1 h2 h3 h4 h5 h6)
theorem r_dup2 (hK : Cl E own cc ret nL k mc sz0 ini G0 Q K) {va vb : Value} (hd : decode cc pc = .ok (.dup2, 1)) (hva : va.category = 1) (hvb : vb.category = 1) (kk : K (pc + 1) Ls (va :: vb :: va :: vb :: st) sz G) : K pc Ls (va :: vb :: st) sz G := by
  obtain ⟨p, e, s, m, args, below, meth, c, C, rfl⟩ := hK
  intro H locs ls h1 h2 h3 h4 h5 h6
  exact lv_dup2_11 C.1 C.2.1 hd hva hvb (kk H locs ls h1 h2 h3 h4 h5 h6)
theorem r_lcmp (hK : Cl E own cc ret nL k mc sz0 ini G0 Q K) {x y : Int64} (hd : decode cc pc = .ok (.lcmp, 1))  (kk : K (pc + 1) Ls (.int (lg_cmp x y) :: st) sz G) : K pc Ls (.long y :: .long x :: st) sz G := by
  obtain ⟨p, e, s, m, args, below, meth, c, C, rfl⟩ := hK
  intro H locs ls h1 h2 h3 h4 h5 h6
  exact W.lcmp C.1 C.2.1 hd (kk H locs ls h1 h2 h3 h4 h5 h6)
theorem r_ldc (hK : Cl E own cc ret nL k mc sz0 ini G0 Q K) {idx : Nat} {v : Int32} (hd : decode cc pc = .ok (.ldc idx, 2)) (hc : Cond.constant own idx v ∈ tbl) (kk : K (pc + 2) Ls (.int v :: st) sz G) : K pc Ls st sz G := by
  obtain ⟨p, e, s, m, args, below, meth, c, C, rfl⟩ := hK
  intro H locs ls h1 h2 h3 h4 h5 h6
  exact lv_ldc C.1 C.2.1 C.2.2.2.2.1 (C.2.2.2.2.2.1 _ hc) hd (kk H locs ls h1 h2 h3 h4 h5 h6)
theorem r_ldcw (hK : Cl E own cc ret nL k mc sz0 ini G0 Q K) {idx : Nat} {v : Int32} (hd : decode cc pc = .ok (.ldc_w idx, 3)) (hc : Cond.constant own idx v ∈ tbl) (kk : K (pc + 3) Ls (.int v :: st) sz G) : K pc Ls st sz G := by
  obtain ⟨p, e, s, m, args, below, meth, c, C, rfl⟩ := hK
  intro H locs ls h1 h2 h3 h4 h5 h6
  exact lv_ldcw C.1 C.2.1 C.2.2.2.2.1 (C.2.2.2.2.2.1 _ hc) hd (kk H locs ls h1 h2 h3 h4 h5 h6)
theorem r_ldc2 (hK : Cl E own cc ret nL k mc sz0 ini G0 Q K) {idx : Nat} {v : Int64} (hd : decode cc pc = .ok (.ldc2_w idx, 3)) (hc : Cond.constantLong own idx v ∈ tbl) (kk : K (pc + 3) Ls (.long v :: st) sz G) : K pc Ls st sz G := by
  obtain ⟨p, e, s, m, args, below, meth, c, C, rfl⟩ := hK
  intro H locs ls h1 h2 h3 h4 h5 h6
  exact lv_ldc2 C.1 C.2.1 C.2.2.2.2.1 (C.2.2.2.2.2.1 _ hc) hd (kk H locs ls h1 h2 h3 h4 h5 h6)
theorem r_goto (hK : Cl E own cc ret nL k mc sz0 ini G0 Q K) {off : Int} {tgt : Nat} (hd : decode cc pc = .ok (.goto off, 3)) (ht : (pc : Int) + off = (tgt : Int)) (kk : K tgt Ls st sz G) : K pc Ls st sz G := by
  obtain ⟨p, e, s, m, args, below, meth, c, C, rfl⟩ := hK
  intro H locs ls h1 h2 h3 h4 h5 h6
  exact lv_goto C.1 C.2.1 hd ht (kk H locs ls h1 h2 h3 h4 h5 h6)
theorem r_if_eq (hK : Cl E own cc ret nL k mc sz0 ini G0 Q K) {x : Int32} {off : Int} {tgt : Nat} (hd : decode cc pc = .ok (.ifCond .eq off, 3)) (ht : (pc : Int) + off = (tgt : Int)) (kt : x = 0 → K tgt Ls st sz G) (kf : ¬ x = 0 → K (pc + 3) Ls st sz G) : K pc Ls (.int x :: st) sz G := by
  obtain ⟨p, e, s, m, args, below, meth, c, C, rfl⟩ := hK
  intro H locs ls h1 h2 h3 h4 h5 h6
  exact lv_if_eq C.1 C.2.1 hd ht (fun q => kt q H locs ls h1 h2 h3 h4 h5 h6) (fun q => kf q H locs ls h1 h2 h3 h4 h5 h6)
theorem r_icmp_eq (hK : Cl E own cc ret nL k mc sz0 ini G0 Q K) {x y : Int32} {off : Int} {tgt : Nat} (hd : decode cc pc = .ok (.if_icmp .eq off, 3)) (ht : (pc : Int) + off = (tgt : Int)) (kt : x = y → K tgt Ls st sz G) (kf : ¬ x = y → K (pc + 3) Ls st sz G) : K pc Ls (.int y :: .int x :: st) sz G := by
  obtain ⟨p, e, s, m, args, below, meth, c, C, rfl⟩ := hK
  intro H locs ls h1 h2 h3 h4 h5 h6
  exact lv_icmp_eq C.1 C.2.1 hd ht (fun q => kt q H locs ls h1 h2 h3 h4 h5 h6) (fun q => kf q H locs ls h1 h2 h3 h4 h5 h6)
theorem r_if_ne (hK : Cl E own cc ret nL k mc sz0 ini G0 Q K) {x : Int32} {off : Int} {tgt : Nat} (hd : decode cc pc = .ok (.ifCond .ne off, 3)) (ht : (pc : Int) + off = (tgt : Int)) (kt : ¬ x = 0 → K tgt Ls st sz G) (kf : x = 0 → K (pc + 3) Ls st sz G) : K pc Ls (.int x :: st) sz G := by
  obtain ⟨p, e, s, m, args, below, meth, c, C, rfl⟩ := hK
  intro H locs ls h1 h2 h3 h4 h5 h6
  exact lv_if_ne C.1 C.2.1 hd ht (fun q => kt q H locs ls h1 h2 h3 h4 h5 h6) (fun q => kf q H locs ls h1 h2 h3 h4 h5 h6)
theorem r_icmp_ne (hK : Cl E own cc ret nL k mc sz0 ini G0 Q K) {x y : Int32} {off : Int} {tgt : Nat} (hd : decode cc pc = .ok (.if_icmp .ne off, 3)) (ht : (pc : Int) + off = (tgt : Int)) (kt : ¬ x = y → K tgt Ls st sz G) (kf : x = y → K (pc + 3) Ls st sz G) : K pc Ls (.int y :: .int x :: st) sz G := by
  obtain ⟨p, e, s, m, args, below, meth, c, C, rfl⟩ := hK
  intro H locs ls h1 h2 h3 h4 h5 h6
  exact lv_icmp_ne C.1 C.2.1 hd ht (fun q => kt q H locs ls h1 h2 h3 h4 h5 h6) (fun q => kf q H locs ls h1 h2 h3 h4 h5 h6)
theorem r_if_lt (hK : Cl E own cc ret nL k mc sz0 ini G0 Q K) {x : Int32} {off : Int} {tgt : Nat} (hd : decode cc pc = .ok (.ifCond .lt off, 3)) (ht : (pc : Int) + off = (tgt : Int)) (kt : x < 0 → K tgt Ls st sz G) (kf : ¬ x < 0 → K (pc + 3) Ls st sz G) : K pc Ls (.int x :: st) sz G := by
  obtain ⟨p, e, s, m, args, below, meth, c, C, rfl⟩ := hK
  intro H locs ls h1 h2 h3 h4 h5 h6
  exact lv_if_lt C.1 C.2.1 hd ht (fun q => kt q H locs ls h1 h2 h3 h4 h5 h6) (fun q => kf q H locs ls h1 h2 h3 h4 h5 h6)
theorem r_icmp_lt (hK : Cl E own cc ret nL k mc sz0 ini G0 Q K) {x y : Int32} {off : Int} {tgt : Nat} (hd : decode cc pc = .ok (.if_icmp .lt off, 3)) (ht : (pc : Int) + off = (tgt : Int)) (kt : x < y → K tgt Ls st sz G) (kf : ¬ x < y → K (pc + 3) Ls st sz G) : K pc Ls (.int y :: .int x :: st) sz G := by
  obtain ⟨p, e, s, m, args, below, meth, c, C, rfl⟩ := hK
  intro H locs ls h1 h2 h3 h4 h5 h6
  exact lv_icmp_lt C.1 C.2.1 hd ht (fun q => kt q H locs ls h1 h2 h3 h4 h5 h6) (fun q => kf q H locs ls h1 h2 h3 h4 h5 h6)
theorem r_if_ge (hK : Cl E own cc ret nL k mc sz0 ini G0 Q K) {x : Int32} {off : Int} {tgt : Nat} (hd : decode cc pc = .ok (.ifCond .ge off, 3)) (ht : (pc : Int) + off = (tgt : Int)) (kt : 0 ≤ x → K tgt Ls st sz G) (kf : ¬ 0 ≤ x → K (pc + 3) Ls st sz G) : K pc Ls (.int x :: st) sz G := by
  obtain ⟨p, e, s, m, args, below, meth, c, C, rfl⟩ := hK
  intro H locs ls h1 h2 h3 h4 h5 h6
  exact lv_if_ge C.1 C.2.1 hd ht (fun q => kt q H locs ls h1 h2 h3 h4 h5 h6) (fun q => kf q H locs ls h1 h2 h3 h4 h5 h6)
theorem r_icmp_ge (hK : Cl E own cc ret nL k mc sz0 ini G0 Q K) {x y : Int32} {off : Int} {tgt : Nat} (hd : decode cc pc = .ok (.if_icmp .ge off, 3)) (ht : (pc : Int) + off = (tgt : Int)) (kt : y ≤ x → K tgt Ls st sz G) (kf : ¬ y ≤ x → K (pc + 3) Ls st sz G) : K pc Ls (.int y :: .int x :: st) sz G := by
  obtain ⟨p, e, s, m, args, below, meth, c, C, rfl⟩ := hK
  intro H locs ls h1 h2 h3 h4 h5 h6
  exact lv_icmp_ge C.1 C.2.1 hd ht (fun q => kt q H locs ls h1 h2 h3 h4 h5 h6) (fun q => kf q H locs ls h1 h2 h3 h4 h5 h6)
theorem r_if_gt (hK : Cl E own cc ret nL k mc sz0 ini G0 Q K) {x : Int32} {off : Int} {tgt : Nat} (hd : decode cc pc = .ok (.ifCond .gt off, 3)) (ht : (pc : Int) + off = (tgt : Int)) (kt : 0 < x → K tgt Ls st sz G) (kf : ¬ 0 < x → K (pc + 3) Ls st sz G) : K pc Ls (.int x :: st) sz G := by
  obtain ⟨p, e, s, m, args, below, meth, c, C, rfl⟩ := hK
  intro H locs ls h1 h2 h3 h4 h5 h6
  exact lv_if_gt C.1 C.2.1 hd ht (fun q => kt q H locs ls h1 h2 h3 h4 h5 h6) (fun q => kf q H locs ls h1 h2 h3 h4 h5 h6)
theorem r_icmp_gt (hK : Cl E own cc ret nL k mc sz0 ini G0 Q K) {x y : Int32} {off : Int} {tgt : Nat} (hd : decode cc pc = .ok (.if_icmp .gt off, 3)) (ht : (pc : Int) + off = (tgt : Int)) (kt : y < x → K tgt Ls st sz G) (kf : ¬ y < x → K (pc + 3) Ls st sz G) : K pc Ls (.int y :: .int x :: st) sz G := by
  obtain ⟨p, e, s, m, args, below, meth, c, C, rfl⟩ := hK
  intro H locs ls h1 h2 h3 h4 h5 h6
  exact lv_icmp_gt C.1 C.2.1 hd ht (fun q => kt q H locs ls h1 h2 h3 h4 h5 h6) (fun q => kf q H locs ls h1 h2 h3 h4 h5 h6)
theorem r_if_le (hK : Cl E own cc ret nL k mc sz0 ini G0 Q K) {x : Int32} {off : Int} {tgt : Nat} (hd : decode cc pc = .ok (.ifCond .le off, 3)) (ht : (pc : Int) + off = (tgt : Int)) (kt : x ≤ 0 → K tgt Ls st sz G) (kf : ¬ x ≤ 0 → K (pc + 3) Ls st sz G) : K pc Ls (.int x :: st) sz G := by
  obtain ⟨p, e, s, m, args, below, meth, c, C, rfl⟩ := hK
  intro H locs ls h1 h2 h3 h4 h5 h6
  exact lv_if_le C.1 C.2.1 hd ht (fun q => kt q H locs ls h1 h2 h3 h4 h5 h6) (fun q => kf q H locs ls h1 h2 h3 h4 h5 h6)
theorem r_icmp_le (hK : Cl E own cc ret nL k mc sz0 ini G0 Q K) {x y : Int32} {off : Int} {tgt : Nat} (hd : decode cc pc = .ok (.if_icmp .le off, 3)) (ht : (pc : Int) + off = (tgt : Int)) (kt : x ≤ y → K tgt Ls st sz G) (kf : ¬ x ≤ y → K (pc + 3) Ls st sz G) : K pc Ls (.int y :: .int x :: st) sz G := by
  obtain ⟨p, e, s, m, args, below, meth, c, C, rfl⟩ := hK
  intro H locs ls h1 h2 h3 h4 h5 h6
  exact lv_icmp_le C.1 C.2.1 hd ht (fun q => kt q H locs ls h1 h2 h3 h4 h5 h6) (fun q => kf q H locs ls h1 h2 h3 h4 h5 h6)
def lvP (Ls : List (Option Value)) : List (Nat × Value) := (List.range Ls.length).filterMap fun i => match Ls[i]? with
  | some (some v) => some (i, v)
  | _ => none
theorem lvP_in {Ls : List (Option Value)} {i : Nat} {v : Value} (h : Ls[i]? = some (some v)) : (i, v) ∈ lvP Ls :=
  List.mem_filterMap.mpr ⟨i, List.mem_range.mpr (List.getElem?_eq_some_iff.mp h).1, by rw [h]⟩
theorem lvP_of {Ls : List (Option Value)} {q : Nat × Value} (h : q ∈ lvP Ls) : Ls[q.1]? = some (some q.2) := by
  obtain ⟨i, -, hi⟩ := List.mem_filterMap.mp h
  cases hv : Ls[i]? with
  | none => rw [hv] at hi; cases hi
  | some o =>
    cases o with
    | none => rw [hv] at hi; cases hi
    | some v => rw [hv] at hi; cases hi; exact hv
theorem lvL_has {ls : Array Slot} {nL : Nat} {Ls : List (Option Value)} (h : lvL ls Ls) (h6 : ls.size = nL) : lv_has ls nL (lvP Ls) := ⟨h6, h.2.1, fun _ hq => h.2.2 _ _ (lvP_of hq)⟩
def okc : Option Value → Prop
  | some (.long _) => False
  | some (.double _) => False
  | _ => True
def pOk (Ls : List (Option Value)) : Nat → Prop
  | 0 => True
  | j + 1 => okc (Ls[j]?.getD none)
theorem okc_cat {v : Value} (h : okc (some v)) : v.category = 1 := by cases v <;> first | rfl | exact h.elim
theorem lvL_st1 {ls' : Array Slot} {nL : Nat} {Ls : List (Option Value)} {i : Nat} {v : Value} (hn : Ls.length = nL) (hp : pOk Ls i) (h : lv_has ls' nL ((i, v) :: (lvP Ls).filter (fun q => !(q.1 == i) && !(q.1 + 1 == i && q.2.category == 2)))) : lvL ls' (Ls.set i (some v)) := by
  refine ⟨by rw [h.1, List.length_set, hn], h.2.1, fun j w hj => ?_⟩
  by_cases hji : j = i
  · subst hji
    have hl : j < Ls.length := by
      have := (List.getElem?_eq_some_iff.mp hj).1
      simpa using this
    rw [List.getElem?_set_self hl] at hj
    cases hj
    exact h.2.2 (j, _) List.mem_cons_self
  · rw [List.getElem?_set_ne (Ne.symm hji)] at hj
    refine h.2.2 (j, w) (List.mem_cons_of_mem _ (List.mem_filter.mpr ⟨lvP_in hj, ?_⟩))
    have hc : j + 1 = i → w.category = 1 := by
      intro e
      subst e
      have hp : okc (Ls[j]?.getD none) := hp
      rw [hj] at hp
      exact okc_cat hp
    by_cases e : j + 1 = i
    · simp [hji, hc e]
    · simp [hji, e]
theorem lvL_st2 {ls' : Array Slot} {nL : Nat} {Ls : List (Option Value)} {i : Nat} {v : Value} (hn : Ls.length = nL) (hp : pOk Ls i) (h : lv_has ls' nL ((i, v) :: (lvP Ls).filter (fun q => !(q.1 == i) && (!(q.1 == i + 1) && !(q.1 + 1 == i && q.2.category == 2))))) : lvL ls' ((Ls.set i (some v)).set (i + 1) none) := by
  refine ⟨by rw [h.1, List.length_set, List.length_set, hn], h.2.1, fun j w hj => ?_⟩
  by_cases hji1 : j = i + 1
  · subst hji1
    exfalso
    have hl := (List.getElem?_eq_some_iff.mp hj).1
    rw [List.length_set] at hl
    rw [List.getElem?_set_self hl] at hj
    cases hj
  · rw [List.getElem?_set_ne (Ne.symm hji1)] at hj
    by_cases hji : j = i
    · subst hji
      have hl : j < Ls.length := by
        have := (List.getElem?_eq_some_iff.mp hj).1
        simpa using this
      rw [List.getElem?_set_self hl] at hj
      cases hj
      exact h.2.2 (j, _) List.mem_cons_self
    · rw [List.getElem?_set_ne (Ne.symm hji)] at hj
      refine h.2.2 (j, w) (List.mem_cons_of_mem _ (List.mem_filter.mpr ⟨lvP_in hj, ?_⟩))
      have hc : j + 1 = i → w.category = 1 := by
        intro e
        subst e
        have hp : okc (Ls[j]?.getD none) := hp
        rw [hj] at hp
        exact okc_cat hp
      by_cases e : j + 1 = i
      · simp [hji, hji1, hc e]
      · simp [hji, hji1, e]
theorem r_istore_n (hK : Cl E own cc ret nL k mc sz0 ini G0 Q K) {j : Fin 4} {x : Int32} (hd : decode cc pc = .ok (.istore_n j, 1)) (hj : (j : Nat) < Ls.length) (hp : pOk Ls (j : Nat)) (kk : K (pc + 1) (Ls.set (j : Nat) (some (.int x))) st sz G) : K pc Ls (.int x :: st) sz G := by
  obtain ⟨p, e, s, m, args, below, meth, c, C, rfl⟩ := hK
  intro H locs ls h1 h2 h3 h4 h5 h6
  have hLl : Ls.length = nL := h5.1.symm.trans h6
  refine lv_istore_n C.1 C.2.1 hd rfl (lvL_has h5 h6) (by rw [← hLl]; exact hj) rfl (fun ls' hl' => ?_)
  exact kk H locs ls' h1 h2 h3 h4 (lvL_st1 hLl hp hl') hl'.1
theorem r_istore (hK : Cl E own cc ret nL k mc sz0 ini G0 Q K) {j : Nat} {x : Int32} (hd : decode cc pc = .ok (.istore j, 2)) (hj : j < Ls.length) (hp : pOk Ls j) (kk : K (pc + 2) (Ls.set j (some (.int x))) st sz G) : K pc Ls (.int x :: st) sz G := by
  obtain ⟨p, e, s, m, args, below, meth, c, C, rfl⟩ := hK
  intro H locs ls h1 h2 h3 h4 h5 h6
  have hLl : Ls.length = nL := h5.1.symm.trans h6
  refine lv_istore C.1 C.2.1 hd (lvL_has h5 h6) (by rw [← hLl]; exact hj) rfl (fun ls' hl' => ?_)
  exact kk H locs ls' h1 h2 h3 h4 (lvL_st1 hLl hp hl') hl'.1
theorem r_astore_n (hK : Cl E own cc ret nL k mc sz0 ini G0 Q K) {j : Fin 4} {x : Nat} (hd : decode cc pc = .ok (.astore_n j, 1)) (hj : (j : Nat) < Ls.length) (hp : pOk Ls (j : Nat)) (kk : K (pc + 1) (Ls.set (j : Nat) (some (.ref x))) st sz G) : K pc Ls (.ref x :: st) sz G := by
  obtain ⟨p, e, s, m, args, below, meth, c, C, rfl⟩ := hK
  intro H locs ls h1 h2 h3 h4 h5 h6
  have hLl : Ls.length = nL := h5.1.symm.trans h6
  refine lv_astore_n C.1 C.2.1 hd rfl (lvL_has h5 h6) (by rw [← hLl]; exact hj) rfl (fun ls' hl' => ?_)
  exact kk H locs ls' h1 h2 h3 h4 (lvL_st1 hLl hp hl') hl'.1
theorem r_astore (hK : Cl E own cc ret nL k mc sz0 ini G0 Q K) {j : Nat} {x : Nat} (hd : decode cc pc = .ok (.astore j, 2)) (hj : j < Ls.length) (hp : pOk Ls j) (kk : K (pc + 2) (Ls.set j (some (.ref x))) st sz G) : K pc Ls (.ref x :: st) sz G := by
  obtain ⟨p, e, s, m, args, below, meth, c, C, rfl⟩ := hK
  intro H locs ls h1 h2 h3 h4 h5 h6
  have hLl : Ls.length = nL := h5.1.symm.trans h6
  refine lv_astore C.1 C.2.1 hd (lvL_has h5 h6) (by rw [← hLl]; exact hj) rfl (fun ls' hl' => ?_)
  exact kk H locs ls' h1 h2 h3 h4 (lvL_st1 hLl hp hl') hl'.1
theorem r_lstore_n (hK : Cl E own cc ret nL k mc sz0 ini G0 Q K) {j : Fin 4} {x : Int64} (hd : decode cc pc = .ok (.lstore_n j, 1)) (hj : (j : Nat) + 1 < Ls.length) (hp : pOk Ls (j : Nat)) (kk : K (pc + 1) ((Ls.set (j : Nat) (some (.long x))).set ((j : Nat) + 1) none) st sz G) : K pc Ls (.long x :: st) sz G := by
  obtain ⟨p, e, s, m, args, below, meth, c, C, rfl⟩ := hK
  intro H locs ls h1 h2 h3 h4 h5 h6
  have hLl : Ls.length = nL := h5.1.symm.trans h6
  refine lv_lstore_n C.1 C.2.1 hd rfl (lvL_has h5 h6) (by rw [← hLl]; exact hj) rfl (fun ls' hl' => ?_)
  exact kk H locs ls' h1 h2 h3 h4 (lvL_st2 hLl hp hl') hl'.1
theorem r_lstore (hK : Cl E own cc ret nL k mc sz0 ini G0 Q K) {j : Nat} {x : Int64} (hd : decode cc pc = .ok (.lstore j, 2)) (hj : j + 1 < Ls.length) (hp : pOk Ls j) (kk : K (pc + 2) ((Ls.set j (some (.long x))).set (j + 1) none) st sz G) : K pc Ls (.long x :: st) sz G := by
  obtain ⟨p, e, s, m, args, below, meth, c, C, rfl⟩ := hK
  intro H locs ls h1 h2 h3 h4 h5 h6
  have hLl : Ls.length = nL := h5.1.symm.trans h6
  refine lv_lstore C.1 C.2.1 hd (lvL_has h5 h6) (by rw [← hLl]; exact hj) rfl (fun ls' hl' => ?_)
  exact kk H locs ls' h1 h2 h3 h4 (lvL_st2 hLl hp hl') hl'.1
theorem r_iinc (hK : Cl E own cc ret nL k mc sz0 ini G0 Q K) {i : Nat} {n : Int} {x v : Int32} (hd : decode cc pc = .ok (.iinc i n, 3)) (hx : Ls[i]? = some (some (.int x))) (hv : x + Int32.ofInt n = v) (hp : pOk Ls i) (kk : K (pc + 3) (Ls.set i (some (.int v))) st sz G) : K pc Ls st sz G := by
  obtain ⟨p, e, s, m, args, below, meth, c, C, rfl⟩ := hK
  intro H locs ls h1 h2 h3 h4 h5 h6
  have hl := lvL_has h5 h6
  obtain ⟨j, hj⟩ := List.getElem?_of_mem (lvP_in hx)
  have hLl : Ls.length = nL := h5.1.symm.trans h6
  refine lv_iinc C.1 C.2.1 hd hl hj hv (by rw [← hLl]; exact (List.getElem?_eq_some_iff.mp hx).1) rfl (fun ls' hl' => ?_)
  exact kk H locs ls' h1 h2 h3 h4 (lvL_st1 hLl hp hl') hl'.1
-- switches
def swT (K' : Nat → Prop) (pc : Nat) (x : Int) : Int → List Int → Prop
  | _, [] => True
  | a, off :: r => (x = a → K' ((pc : Int) + off).toNat) ∧ swT K' pc x (a + 1) r
theorem swT_at {K' : Nat → Prop} {pc : Nat} {x : Int} : ∀ (l : List Int) (a : Int) (j : Nat) (off : Int), swT K' pc x a l → l[j]? = some off → x = a + j → K' ((pc : Int) + off).toNat
  | [], _, _, _, _, h, _ => by simp at h
  | o :: r, a, 0, off, h, hj, hx => by
    simp at hj
    subst hj
    exact h.1 (by omega)
  | o :: r, a, j + 1, off, h, hj, hx => by
    simp only [List.getElem?_cons_succ] at hj
    exact swT_at r (a + 1) j off h.2 hj (by omega)
theorem r_table (hK : Cl E own cc ret nL k mc sz0 ini G0 Q K) {dflt lo hi : Int} {offs : Array Int} {len td : Nat} {x : Int32} (hd : decode cc pc = .ok (.tableswitch dflt lo hi offs, len)) (ho : (offs.size : Int) = hi - lo + 1 ∧ offs.toList.all (fun o => decide (0 ≤ (pc : Int) + o)) = true) (ht : (pc : Int) + dflt = (td : Int)) (kd : x.toInt < lo ∨ hi < x.toInt → K td Ls st sz G) (ki : swT (fun q => K q Ls st sz G) pc x.toInt lo offs.toList) : K pc Ls (.int x :: st) sz G := by
  obtain ⟨p, e, s, m, args, below, meth, c, C, rfl⟩ := hK
  intro H locs ls h1 h2 h3 h4 h5 h6
  by_cases q1 : x.toInt < lo
  · exact lv_tableOut C.1 C.2.1 hd (Or.inl q1) ht (kd (Or.inl q1) H locs ls h1 h2 h3 h4 h5 h6)
  by_cases q2 : hi < x.toInt
  · exact lv_tableOut C.1 C.2.1 hd (Or.inr q2) ht (kd (Or.inr q2) H locs ls h1 h2 h3 h4 h5 h6)
  have hj : (x.toInt - lo).toNat < offs.size := by omega
  have hget : offs[(x.toInt - lo).toNat]? = some offs[(x.toInt - lo).toNat] := Array.getElem?_eq_getElem hj
  generalize offs[(x.toInt - lo).toNat] = off at hget
  have hl : offs.toList[(x.toInt - lo).toNat]? = some off := by rw [Array.getElem?_toList]; exact hget
  have hpos : 0 ≤ (pc : Int) + off := by
    have := List.all_eq_true.mp ho.2 off (List.mem_of_getElem? hl)
    simpa using this
  have := swT_at offs.toList lo (x.toInt - lo).toNat off ki hl (by omega)
  exact lv_tableIn C.1 C.2.1 hd q1 q2 hget (tgt := ((pc : Int) + off).toNat) (by omega) (this H locs ls h1 h2 h3 h4 h5 h6)
def swL (K' : Nat → Prop) (pc : Nat) (x dflt : Int) : List (Int × Int) → Prop
  | [] => K' ((pc : Int) + dflt).toNat
  | q :: r => (x = q.1 → K' ((pc : Int) + q.2).toNat) ∧ (¬ x = q.1 → swL K' pc x dflt r)
theorem swL_at {K' : Nat → Prop} {pc : Nat} {x dflt : Int} : ∀ (l : List (Int × Int)), swL K' pc x dflt l → K' ((pc : Int) + Op.lookupswitch.offset l dflt x).toNat
  | [], h => h
  | q :: r, h => by
    by_cases e : x = q.1
    · rw [show Op.lookupswitch.offset (q :: r) dflt x = q.2 by simp [Op.lookupswitch.offset, e]]
      exact h.1 e
    · rw [show Op.lookupswitch.offset (q :: r) dflt x = Op.lookupswitch.offset r dflt x by simp [Op.lookupswitch.offset, Ne.symm e]]
      exact swL_at r (h.2 e)
theorem swL_pos {pc : Nat} {x dflt : Int} : ∀ (l : List (Int × Int)), 0 ≤ (pc : Int) + dflt → l.all (fun o => decide (0 ≤ (pc : Int) + o.2)) = true → 0 ≤ (pc : Int) + Op.lookupswitch.offset l dflt x
  | [], h, _ => h
  | q :: r, h, ha => by
    simp only [List.all_cons, Bool.and_eq_true, decide_eq_true_eq] at ha
    by_cases e : x = q.1
    · rw [show Op.lookupswitch.offset (q :: r) dflt x = q.2 by simp [Op.lookupswitch.offset, e]]
      exact ha.1
    · rw [show Op.lookupswitch.offset (q :: r) dflt x = Op.lookupswitch.offset r dflt x by simp [Op.lookupswitch.offset, Ne.symm e]]
      exact swL_pos r h ha.2
theorem r_lookup (hK : Cl E own cc ret nL k mc sz0 ini G0 Q K) {dflt : Int} {ps : Array (Int × Int)} {len : Nat} {x : Int32} (hd : decode cc pc = .ok (.lookupswitch dflt ps, len)) (hp : (ps.toList.zip (ps.toList.drop 1)).all (fun (a, next) => a.1 < next.1) = true) (ho : 0 ≤ (pc : Int) + dflt ∧ ps.toList.all (fun o => decide (0 ≤ (pc : Int) + o.2)) = true) (ki : swL (fun q => K q Ls st sz G) pc x.toInt dflt ps.toList) : K pc Ls (.int x :: st) sz G := by
  obtain ⟨p, e, s, m, args, below, meth, c, C, rfl⟩ := hK
  intro H locs ls h1 h2 h3 h4 h5 h6
  have := swL_at ps.toList ki
  have hpos := swL_pos (x := x.toInt) ps.toList ho.1 ho.2
  exact lv_lookup C.1 C.2.1 hd hp rfl (tgt := ((pc : Int) + Op.lookupswitch.offset ps.toList dflt x.toInt).toNat) (by omega) (this H locs ls h1 h2 h3 h4 h5 h6)
-- fields
theorem r_get (hK : Cl E own cc ret nL k mc sz0 ini G0 Q K) {idx ci kf a : Nat} {ty : FieldType} {fin : Bool} {fs : List Value} {v : Value} (hl : LkF own idx ci kf ty fin) (hd : decode cc pc = .ok (.getfield idx, 3)) (hG : G a = some (.inr (ci, fs))) (hv : fs[kf]? = some v) (kk : K (pc + 3) Ls (v :: st) sz G) : K pc Ls (.ref a :: st) sz G := by
  obtain ⟨p, e, s, m, args, below, meth, c, C, rfl⟩ := hK
  intro H locs ls h1 h2 h3 h4 h5 h6
  obtain ⟨CC, T, N, ty0, ⟨c1, c2, c3, c4⟩, hk, hlink, hdc, hfin, hty⟩ := hl
  refine va_get (ref := CC) C.1 C.2.1 C.2.2.2.2.2.1 c2 C.2.2.2.2.1 C.2.2.2.2.2.2.2.2.1 (gP1 h1 hG) 0 rfl c1 kf hk (C.2.2.2.2.2.1 _ hlink) (fun x h => by rw [hdc] at h; exact h) hv hd ?_
  exact kk H locs ls h1 h2 h3 h4 h5 h6
theorem gP_up {sz : Nat} {G : gG} {H H' : Heap} {a : Nat} {e' : gE} (h : gP E sz G H) (z : H'.size = H.size) (oq : ∀ q : Nat, q ≠ a → H'[q]? = H[q]?) (ha : va_at E.2.1 clz (a, gconv E.2.2.1 e') H') : gP E sz (gup G a e') H' := by
  refine ⟨z.trans h.1, fun b e hb => ?_⟩
  by_cases q : b = a
  · subst q
    rw [gup_s] at hb
    cases hb
    exact ha
  · rw [gup_n q] at hb
    exact (h.2 b e hb).kept (oq b q)
theorem gA_up {sz : Nat} {G : gG} {a : Nat} {e e' : gE} (h : G a = some e) : ∀ q, gA (gup G a e') sz q → gA G sz q := by
  intro q hq
  rcases hq with hq | hq
  · by_cases z : q = a
    · subst z; exact Or.inl (by rw [h]; simp)
    · rw [gup_n z] at hq; exact Or.inl hq
  · exact Or.inr hq
theorem g_after {p : Program} {e : Env} {R : Room} {s : State} {m : MethodId} {args : Array Value} {below : List Frame} {meth : Method} {c : Code} {Qm : State → Prop} {H H' : Heap} {locs : List Loc} {ls : Array Slot} {a j : Nat} {e0 e' : gE} (kk : gK E p e R s m args below meth c nL G0 Qm pc Ls st sz (gup G a e')) (h1 : gP E sz G H) (h2 : s.heap.size ≤ sz) (h3 : ∀ q, gA G sz q → gA G0 s.heap.size q) (h4 : va_S (gA G0 s.heap.size) s.heap H locs) (h5 : lvL ls Ls) (h6 : ls.size = nL) (hG : G a = some e0) (z : H'.size = H.size) (oq : ∀ q : Nat, q ≠ a → H'[q]? = H[q]?) (ha : va_at E.2.1 clz (a, gconv E.2.2.1 e') H') :
    W p E.1 e R s m args below meth c H' (locs ++ [⟨a, j⟩]) (sz - s.heap.size) (1100 * (sz - s.heap.size)) Qm (F0 m pc ls st) :=
  kk H' (locs ++ [⟨a, j⟩]) ls (gP_up h1 z oq ha) h2 (fun q hq => h3 q (gA_up hG q hq)) (h4.put z oq (h3 a (Or.inl (by rw [hG]; simp)))) h5 h6
theorem r_put (hK : Cl E own cc ret nL k mc sz0 ini G0 Q K) {idx ci kf a : Nat} {ty : FieldType} {fs : List Value} {v : Value} (hl : LkF own idx ci kf ty false) (hd : decode cc pc = .ok (.putfield idx, 3)) (hG : G a = some (.inr (ci, fs))) (hn : narrow ty v = v) (hfit : fits ty v = true) (hlen : kf < fs.length) (kk : K (pc + 3) Ls st sz (gup G a (.inr (ci, fs.set kf v)))) : K pc Ls (v :: .ref a :: st) sz G := by
  obtain ⟨p, e, s, m, args, below, meth, c, C, rfl⟩ := hK
  intro H locs ls h1 h2 h3 h4 h5 h6
  obtain ⟨CC, T, N, ty0, ⟨c1, c2, c3, c4⟩, hk, hlink, hdc, hfin, hty⟩ := hl
  have hts := C.2.2.2.2.2.1
  have hKa := C.2.2.2.2.2.2.2.2.1
  have hap := va_apart (own := own) hts c2 ty0 c3 c4 hKa c1
  obtain ⟨r, q0, cell, q1, q2, q3, q4⟩ := h1.2 a _ hG
  have hr : r = (CC, T, N) := Option.some.inj (q0.symm.trans c1)
  subst hr
  obtain ⟨hS, hfc, kC, hkC, hkind⟩ := hKa.1 ci _ c1
  obtain ⟨cf, kk2, fi, f, hi, hsl⟩ := hS kf hk
  have hlay := hts _ (c2 _ (u_in_lay hk))
  unfold u_lay at hlay
  rw [if_neg (by rw [hfin]; decide)] at hlay
  have hst := (u_facts hfc hkC (u_lays hts c2 hk) hi).1
  have h6' := u_store hfc hkC hkind hlay hi (c3 kf hk) (by rw [hty]; exact hn) (by rw [hty]; exact hfit)
  have hi2 : s.fieldFound? CC (T kf).2.1 (T kf).2.2.1 = some (cf, kk2, fi, f) := by rw [← hdc]; exact hi
  refine W.putK C.1 C.2.1 (f := f) ⟨C.2.2.2.2.1, hts _ hlink, ⟨_, _, _, hi2⟩, hst⟩ (by rw [q2]; exact h6') q1 q3 (by rw [hsl]; exact k2_hasslot (q4 kf hk)) rfl rfl hd fun H' e1 e2 e3 => ?_
  rw [hsl] at e1 ⊢
  exact g_after kk h1 h2 h3 h4 h5 h6 hG e2 e3 ⟨_, c1, t_OB.to (V := updV (vp_V fs) kf v) ⟨_, e1, q2, q3, t_set q4 hap hk v⟩ (fun j _ => vp_updV_set hlen v j)⟩
theorem r_putF (hK : Cl E own cc ret nL k mc sz0 ini G0 Q K) {idx ci kf a : Nat} {ty : FieldType} {fs : List Value} {v : Value} (hl : LkF own idx ci kf ty true) (hini : ini = true) (hq : ∃ q : vw_C, clz[ci]? = some q ∧ q.1 = own) (hd : decode cc pc = .ok (.putfield idx, 3)) (hG : G a = some (.inr (ci, fs))) (hn : narrow ty v = v) (hfit : fits ty v = true) (hlen : kf < fs.length) (kk : K (pc + 3) Ls st sz (gup G a (.inr (ci, fs.set kf v)))) : K pc Ls (v :: .ref a :: st) sz G := by
  obtain ⟨p, e, s, m, args, below, meth, c, C, rfl⟩ := hK
  intro H locs ls h1 h2 h3 h4 h5 h6
  obtain ⟨CC, T, N, ty0, ⟨c1, c2, c3, c4⟩, hk, hlink, hdc, hfin, hty⟩ := hl
  obtain ⟨qq, hq1, hq2⟩ := hq
  have hown2 : CC = own := by rw [← hq2, Option.some.inj (hq1.symm.trans c1)]
  have hts := C.2.2.2.2.2.1
  have hKa := C.2.2.2.2.2.2.2.2.1
  have hap := va_apart (own := own) hts c2 ty0 c3 c4 hKa c1
  obtain ⟨r, q0, cell, q1, q2, q3, q4⟩ := h1.2 a _ hG
  have hr : r = (CC, T, N) := Option.some.inj (q0.symm.trans c1)
  subst hr
  obtain ⟨hS, hfc, kC, hkC, hkind⟩ := hKa.1 ci _ c1
  obtain ⟨cf, kk2, fi, f, hi, hsl⟩ := hS kf hk
  have hlay := hts _ (c2 _ (u_in_lay hk))
  unfold u_lay at hlay
  rw [if_pos hfin] at hlay
  have hst := (u_facts hfc hkC (u_lays hts c2 hk) hi).1
  have hcf : m.cls = cf := by
    obtain ⟨_, _, c', _, _, _, -, -, hf', -, -, -, hown3, -⟩ := Cond.laysFinal_spec hlay
    have e1 : c' = cf := by have := hi.symm.trans hf'; simp at this; exact this.1.symm
    rw [hdc, hown2] at hown3
    rw [← e1]; exact Option.some.inj (C.2.2.2.2.1.symm.trans hown3)
  have h6' := u_fits hfc hkC hkind (Or.inr hlay) hi (c3 kf hk) (by rw [hty]; exact hn) (by rw [hty]; exact hfit)
  have hi2 : s.fieldFound? CC (T kf).2.1 (T kf).2.2.1 = some (cf, kk2, fi, f) := by rw [← hdc]; exact hi
  refine W.putFinK C.1 C.2.1 C.2.2.2.2.1 (hts _ hlink) hi2 hst hcf (C.2.2.2.2.2.2.2.1 hini) (by rw [q2]; exact h6') q1 q3 (by rw [hsl]; exact k2_hasslot (q4 kf hk)) rfl rfl hd fun H' e1 e2 e3 => ?_
  rw [hsl] at e1 ⊢
  exact g_after kk h1 h2 h3 h4 h5 h6 hG e2 e3 ⟨_, c1, t_OB.to (V := updV (vp_V fs) kf v) ⟨_, e1, q2, q3, t_set q4 hap hk v⟩ (fun j _ => vp_updV_set hlen v j)⟩
-- arrays
theorem r_iald (hK : Cl E own cc ret nL k mc sz0 ini G0 Q K) {a n : Nat} {f : Nat → Int32} {i : Int32} (hd : decode cc pc = .ok (.iaload, 1)) (hG : G a = some (.inl (0, n, .inl f))) (hin : vp_in i n) (kk : K (pc + 1) Ls (.int (f i.toNatClampNeg) :: st) sz G) : K pc Ls (.int i :: .ref a :: st) sz G := by
  obtain ⟨p, e, s, m, args, below, meth, c, C, rfl⟩ := hK
  intro H locs ls h1 h2 h3 h4 h5 h6
  exact va_iald C.1 C.2.1 C.2.2.2.2.2.2.2.2.1 (gP1 h1 hG) 0 0 rfl rfl hin hd (kk H locs ls h1 h2 h3 h4 h5 h6)
theorem r_zald (hK : Cl E own cc ret nL k mc sz0 ini G0 Q K) {a n : Nat} {f : Nat → Int32} {i : Int32} (hd : decode cc pc = .ok (.baload, 1)) (hG : G a = some (.inl (1, n, .inl f))) (hin : vp_in i n) (kk : K (pc + 1) Ls (.int (f i.toNatClampNeg) :: st) sz G) : K pc Ls (.int i :: .ref a :: st) sz G := by
  obtain ⟨p, e, s, m, args, below, meth, c, C, rfl⟩ := hK
  intro H locs ls h1 h2 h3 h4 h5 h6
  exact va_zald C.1 C.2.1 C.2.2.2.2.2.2.2.2.1 (gP1 h1 hG) 0 1 rfl rfl hin hd (kk H locs ls h1 h2 h3 h4 h5 h6)
theorem r_aald (hK : Cl E own cc ret nL k mc sz0 ini G0 Q K) {t a n : Nat} {f : Nat → Option Nat} {i : Int32} (hd : decode cc pc = .ok (.aaload, 1)) (hG : G a = some (.inl (t, n, .inr (.inr (.inr (.inr f)))))) (hin : vp_in i n) (ht : t = 2 ∨ t = 3 ∨ t = 4) (kk : K (pc + 1) Ls (va_rf (f i.toNatClampNeg) :: st) sz G) : K pc Ls (.int i :: .ref a :: st) sz G := by
  obtain ⟨p, e, s, m, args, below, meth, c, C, rfl⟩ := hK
  intro H locs ls h1 h2 h3 h4 h5 h6
  rcases ht with rfl | rfl | rfl
  · exact va_aldq C.1 C.2.1 C.2.2.2.2.2.2.2.2.1 (gP1 h1 hG) 0 2 rfl rfl hin hd (kk H locs ls h1 h2 h3 h4 h5 h6)
  · exact va_aldq C.1 C.2.1 C.2.2.2.2.2.2.2.2.1 (gP1 h1 hG) 0 3 rfl rfl hin hd (kk H locs ls h1 h2 h3 h4 h5 h6)
  · exact va_aldq C.1 C.2.1 C.2.2.2.2.2.2.2.2.1 (gP1 h1 hG) 0 4 rfl rfl hin hd (kk H locs ls h1 h2 h3 h4 h5 h6)
theorem r_alen (hK : Cl E own cc ret nL k mc sz0 ini G0 Q K) {t a : Nat} {x : vp_A} {v : Int32} (hd : decode cc pc = .ok (.arraylength, 1)) (hG : G a = some (.inl (t, x))) (ht : t < 5) (hv : Int32.ofNat x.1 = v) (kk : K (pc + 1) Ls (.int v :: st) sz G) : K pc Ls (.ref a :: st) sz G := by
  obtain ⟨p, e, s, m, args, below, meth, c, C, rfl⟩ := hK
  intro H locs ls h1 h2 h3 h4 h5 h6
  match t, ht with
  | 0, _ => exact va_alen C.1 C.2.1 C.2.2.2.2.2.2.2.2.1 (gP1 h1 hG) 0 0 rfl rfl hv hd (kk H locs ls h1 h2 h3 h4 h5 h6)
  | 1, _ => exact va_alen C.1 C.2.1 C.2.2.2.2.2.2.2.2.1 (gP1 h1 hG) 0 1 rfl rfl hv hd (kk H locs ls h1 h2 h3 h4 h5 h6)
  | 2, _ => exact va_alen C.1 C.2.1 C.2.2.2.2.2.2.2.2.1 (gP1 h1 hG) 0 2 rfl rfl hv hd (kk H locs ls h1 h2 h3 h4 h5 h6)
  | 3, _ => exact va_alen C.1 C.2.1 C.2.2.2.2.2.2.2.2.1 (gP1 h1 hG) 0 3 rfl rfl hv hd (kk H locs ls h1 h2 h3 h4 h5 h6)
  | 4, _ => exact va_alen C.1 C.2.1 C.2.2.2.2.2.2.2.2.1 (gP1 h1 hG) 0 4 rfl rfl hv hd (kk H locs ls h1 h2 h3 h4 h5 h6)
  | t + 5, h => exact absurd h (by omega)
theorem r_iast (hK : Cl E own cc ret nL k mc sz0 ini G0 Q K) {a n : Nat} {f : Nat → Int32} {i x : Int32} (hd : decode cc pc = .ok (.iastore, 1)) (hG : G a = some (.inl (0, n, .inl f))) (hin : vp_in i n) (kk : K (pc + 1) Ls st sz (gup G a (.inl (0, n, .inl (upd f i.toNatClampNeg x))))) : K pc Ls (.int x :: .int i :: .ref a :: st) sz G := by
  obtain ⟨p, e, s, m, args, below, meth, c, C, rfl⟩ := hK
  intro H locs ls h1 h2 h3 h4 h5 h6
  refine W.iast C.1 C.2.1 (h1.2 a _ hG) ((C.2.2.2.2.2.2.2.2.1.2 0 _ rfl).1 n (fun j => .int (f j))) (fun q => by cases q) (by show ¬ (i < 0 ∨ (arrV _ _ _).slots.size ≤ _); rw [arrV_size]; exact hin) rfl rfl hd fun H1 e1 z oq => ?_
  refine g_after kk h1 h2 h3 h4 h5 h6 hG z oq ?_
  show H1[a]? = some (vp_cell _ _)
  rw [e1]
  rw [vp_cell_i, vp_cell_i, arrV_store]
  congr 2
  funext q
  by_cases hq : q = i.toNatClampNeg
  · subst hq
    simp [updV, upd]
  · simp [updV, upd, hq]
theorem r_zast (hK : Cl E own cc ret nL k mc sz0 ini G0 Q K) {a n : Nat} {f : Nat → Int32} {i x : Int32} (hd : decode cc pc = .ok (.bastore, 1)) (hG : G a = some (.inl (1, n, .inl f))) (hin : vp_in i n) (kk : K (pc + 1) Ls st sz (gup G a (.inl (1, n, .inl (upd f i.toNatClampNeg (vp_nar .boolean x)))))) : K pc Ls (.int x :: .int i :: .ref a :: st) sz G := by
  obtain ⟨p, e, s, m, args, below, meth, c, C, rfl⟩ := hK
  intro H locs ls h1 h2 h3 h4 h5 h6
  refine W.zast C.1 C.2.1 (h1.2 a _ hG) ((C.2.2.2.2.2.2.2.2.1.2 1 _ rfl).1 n (fun j => .int (f j))) (fun q => by cases q) (by show ¬ (i < 0 ∨ (arrV _ _ _).slots.size ≤ _); rw [arrV_size]; exact hin) rfl rfl hd fun H1 e1 z oq => ?_
  refine g_after kk h1 h2 h3 h4 h5 h6 hG z oq ?_
  show H1[a]? = some (vp_cell _ _)
  rw [e1]
  rw [vp_cell_i, vp_cell_i, arrV_store]
  congr 2
  funext q
  by_cases hq : q = i.toNatClampNeg
  · subst hq
    simp [updV, upd, vp_nar, narrow]
  · simp [updV, upd, hq]
def aCls : Nat → Nat
  | 2 => 1
  | 3 => 3
  | _ => 0
theorem r_aast (hK : Cl E own cc ret nL k mc sz0 ini G0 Q K) {t a n v : Nat} {vs : List Value} {f : Nat → Option Nat} {i : Int32} (hd : decode cc pc = .ok (.aastore, 1)) (hG : G a = some (.inl (t, n, .inr (.inr (.inr (.inr f)))))) (hv : G v = some (.inr (aCls t, vs))) (hin : vp_in i n) (ht : t = 2 ∨ t = 3 ∨ t = 4) (kk : K (pc + 1) Ls st sz (gup G a (.inl (t, n, .inr (.inr (.inr (.inr (va_up f i.toNatClampNeg (some v)))))))) ) : K pc Ls (.ref v :: .int i :: .ref a :: st) sz G := by
  obtain ⟨p, e, s, m, args, below, meth, c, C, rfl⟩ := hK
  intro H locs ls h1 h2 h3 h4 h5 h6
  have hlt : i.toNatClampNeg < n := Nat.not_le.mp fun q => hin (Or.inr q)
  have hn0 : ¬ i < 0 := fun q => hin (Or.inl q)
  have hKa := C.2.2.2.2.2.2.2.2.1
  obtain ⟨r', hr', cellV, g1, g2, g3, -⟩ := h1.2 v _ hv
  have key : ∃ (cA : ClassId) (r : vw_C), E.2.2.1 t = cA ∧ clz[aCls t]? = some r ∧ va_RA s cA (.object r.1) := by
    rcases ht with rfl | rfl | rfl
    · exact ⟨_, _, rfl, rfl, (hKa.2 2 _ rfl).2⟩
    · exact ⟨_, _, rfl, rfl, (hKa.2 3 _ rfl).2⟩
    · exact ⟨_, _, rfl, rfl, (hKa.2 4 _ rfl).2⟩
  obtain ⟨cA, r, hcA, hc, kA, comp, k1, k2, k3, -⟩ := key
  have hcls := (hKa.1 _ r hc).2
  have hcomp : comp = E.2.1.1 (aCls t) := Option.some.inj (k3.symm.trans hcls.1)
  subst hcomp
  obtain ⟨kC, hkC, -⟩ := hcls.2
  have hcell : H[a]? = some (vp_cell (E.2.2.1 t) (n, .inr (.inr (.inr (.inr f))))) := h1.2 a _ hG
  rw [hcA] at hcell
  refine W.aast C.1 C.2.1 hcell (fun q h => by cases h) (fun h => by cases h) k1 k2 rfl hkC ⟨hn0, by show _ < (arrV _ _ _).slots.size; rw [arrV_size]; exact hlt⟩ g1 (fun q h => by rw [g3] at h; cases h) (by rw [g2]; exact hkC) (by rw [g2]; exact va_assign hcls) rfl rfl hd fun H1 e1 z oq => ?_
  refine g_after kk h1 h2 h3 h4 h5 h6 hG z oq ?_
  show H1[a]? = some (vp_cell (E.2.2.1 t) _)
  rw [e1, hcA]
  rw [vp_cell_q, vp_cell_q, arrV_store]
  congr 2
  funext q
  by_cases hq : q = i.toNatClampNeg
  · subst hq
    simp [updV, va_up, va_rf]
  · simp [updV, va_up, hq]
-- statics
theorem r_gets0 (hK : Cl E own cc ret nL k mc sz0 ini G0 Q K) {idx : Nat} (hl : Cond.fieldLink own idx "ClockPost" "NEAREST_KIND" "[I" ∈ tbl) (hd : decode cc pc = .ok (.getstatic idx, 3)) (kk : K (pc + 3) Ls (.ref (E.2.2.2 0) :: st) sz G) : K pc Ls st sz G := by
  obtain ⟨p, e, s, m, args, below, meth, c, C, rfl⟩ := hK
  intro H locs ls h1 h2 h3 h4 h5 h6
  exact va_gets C.1 C.2.1 C.2.2.2.2.2.2.2.2.2.1.1.1 h4 C.2.2.2.2.1 (C.2.2.2.2.2.1 _ hl) (fun _ h => h) hd (kk H locs ls h1 h2 h3 h4 h5 h6)
theorem r_gets1 (hK : Cl E own cc ret nL k mc sz0 ini G0 Q K) {idx : Nat} (hl : Cond.fieldLink own idx "ClockPost" "SIZE_BODIES" "[I" ∈ tbl) (hd : decode cc pc = .ok (.getstatic idx, 3)) (kk : K (pc + 3) Ls (.ref (E.2.2.2 1) :: st) sz G) : K pc Ls st sz G := by
  obtain ⟨p, e, s, m, args, below, meth, c, C, rfl⟩ := hK
  intro H locs ls h1 h2 h3 h4 h5 h6
  exact va_gets C.1 C.2.1 C.2.2.2.2.2.2.2.2.2.1.2.1.1 h4 C.2.2.2.2.1 (C.2.2.2.2.2.1 _ hl) (fun _ h => h) hd (kk H locs ls h1 h2 h3 h4 h5 h6)
theorem r_gets2 (hK : Cl E own cc ret nL k mc sz0 ini G0 Q K) {idx : Nat} (hl : Cond.fieldLink own idx "ClockPost" "MARK_BODIES" "[I" ∈ tbl) (hd : decode cc pc = .ok (.getstatic idx, 3)) (kk : K (pc + 3) Ls (.ref (E.2.2.2 2) :: st) sz G) : K pc Ls st sz G := by
  obtain ⟨p, e, s, m, args, below, meth, c, C, rfl⟩ := hK
  intro H locs ls h1 h2 h3 h4 h5 h6
  exact va_gets C.1 C.2.1 C.2.2.2.2.2.2.2.2.2.1.2.2.1 h4 C.2.2.2.2.1 (C.2.2.2.2.2.1 _ hl) (fun _ h => h) hd (kk H locs ls h1 h2 h3 h4 h5 h6)
theorem r_tald0 (hK : Cl E own cc ret nL k mc sz0 ini G0 Q K) {i : Int32} (hd : decode cc pc = .ok (.iaload, 1)) (hin : vp_in i 6) (kk : K (pc + 1) Ls (.int (tbNK i.toNatClampNeg) :: st) sz G) : K pc Ls (.int i :: .ref (E.2.2.2 0) :: st) sz G := by
  obtain ⟨p, e, s, m, args, below, meth, c, C, rfl⟩ := hK
  intro H locs ls h1 h2 h3 h4 h5 h6
  exact va_ti C.1 C.2.1 C.2.2.2.2.2.2.2.2.2.1.1.2 h4 hin rfl hd (kk H locs ls h1 h2 h3 h4 h5 h6)
theorem r_tald1 (hK : Cl E own cc ret nL k mc sz0 ini G0 Q K) {i : Int32} (hd : decode cc pc = .ok (.iaload, 1)) (hin : vp_in i 6) (kk : K (pc + 1) Ls (.int (tbSB i.toNatClampNeg) :: st) sz G) : K pc Ls (.int i :: .ref (E.2.2.2 1) :: st) sz G := by
  obtain ⟨p, e, s, m, args, below, meth, c, C, rfl⟩ := hK
  intro H locs ls h1 h2 h3 h4 h5 h6
  exact va_ti C.1 C.2.1 C.2.2.2.2.2.2.2.2.2.1.2.1.2 h4 hin rfl hd (kk H locs ls h1 h2 h3 h4 h5 h6)
theorem r_tald2 (hK : Cl E own cc ret nL k mc sz0 ini G0 Q K) {i : Int32} (hd : decode cc pc = .ok (.iaload, 1)) (hin : vp_in i 6) (kk : K (pc + 1) Ls (.int (tbMB i.toNatClampNeg) :: st) sz G) : K pc Ls (.int i :: .ref (E.2.2.2 2) :: st) sz G := by
  obtain ⟨p, e, s, m, args, below, meth, c, C, rfl⟩ := hK
  intro H locs ls h1 h2 h3 h4 h5 h6
  exact va_ti C.1 C.2.1 C.2.2.2.2.2.2.2.2.2.1.2.2.2 h4 hin rfl hd (kk H locs ls h1 h2 h3 h4 h5 h6)
-- makings
theorem g_alloc {p : Program} {e : Env} {R : Room} {s : State} {m : MethodId} {args : Array Value} {below : List Frame} {meth : Method} {c : Code} {Qm : State → Prop} {H H' : Heap} {locs : List Loc} {ls : Array Slot} {e' : gE} {n : Nat} (kk : gK E p e R s m args below meth c nL G0 Qm pc Ls st (sz + 1) (gup G sz e')) (h1 : gP E sz G H) (h2 : s.heap.size ≤ sz) (h3 : ∀ q, gA G sz q → gA G0 s.heap.size q) (h4 : va_S (gA G0 s.heap.size) s.heap H locs) (h5 : lvL ls Ls) (h6 : ls.size = nL) (hn : n ≤ 1100) (z : H'.size = sz + 1) (oq : ∀ q : Nat, q < sz → H'[q]? = H[q]?) (ha : va_at E.2.1 clz (sz, gconv E.2.2.1 e') H') :
    W p E.1 e R s m args below meth c H' locs (sz - s.heap.size + 1) (1100 * (sz - s.heap.size) + n) Qm (F0 m pc ls st) := by
  refine W.widen (k := sz + 1 - s.heap.size) (n := 1100 * (sz + 1 - s.heap.size)) (by omega) (by omega) ?_
  refine kk H' locs ls ⟨z, fun b e hb => ?_⟩ (by omega) (fun q hq => ?_) ⟨by rw [z]; omega, fun q hq hq2 => ?_, h4.2.2⟩ h5 h6
  · by_cases q : b = sz
    · subst q
      rw [gup_s] at hb
      cases hb
      exact ha
    · rw [gup_n q] at hb
      have hat := h1.2 b e hb
      have hlt := hat.lt
      rw [h1.1] at hlt
      exact hat.kept (oq b hlt)
  · rcases hq with hq | hq
    · by_cases z : q = sz
      · subst z; exact h3 _ (Or.inr (Nat.le_refl _))
      · rw [gup_n z] at hq; exact h3 _ (Or.inl hq)
    · exact h3 _ (Or.inr (by omega))
  · rw [oq q (by omega)]
    exact h4.2.1 q hq hq2
theorem r_new (hK : Cl E own cc ret nL k mc sz0 ini G0 Q K) {idx ci N : Nat} {CC : String} {T : u_T} {ty0 : Nat → FieldType} {fs : List Value} (hc : ClOk ci CC T N ty0) (hcl : Cond.classLink own idx CC ∈ tbl) (hins : Cond.instantiable CC N ∈ tbl) (hini : Cond.initialized CC ∈ tbl) (hfs : ∀ j, j < N → defaultValue (ty0 j) = vp_V fs j) (hN : N ≤ 1100) (hm : sz + 1 ≤ sz0 + mc) (hd : decode cc pc = .ok (.new idx, 3)) (kk : K (pc + 3) Ls (.ref sz :: st) (sz + 1) (gup G sz (.inr (ci, fs)))) : K pc Ls st sz G := by
  obtain ⟨p, e, s, m, args, below, meth, c, C, rfl⟩ := hK
  intro H locs ls h1 h2 h3 h4 h5 h6
  have hts := C.2.2.2.2.2.1
  have hKa := C.2.2.2.2.2.2.2.2.1
  have hKn := hKa.1 ci _ hc.1
  have hs0 : s.heap.size = sz0 := C.2.2.2.2.2.2.2.2.2.2.1
  refine W.newcK C.1 C.2.1 C.2.2.2.2.1 (hts _ hcl) (hts _ hins) (hts _ hini) rfl hd (by show sz - s.heap.size + 1 ≤ mc; omega) (by show 1100 * (sz - s.heap.size) + N ≤ 1100 * mc; omega) hKn.2.1 h1.1 fun H1 kC hkC e1 z1 o1 => ?_
  exact g_alloc kk h1 h2 h3 h4 h5 h6 hN z1 o1 ⟨_, hc.1, (u_born ty0 hts hc.2.1 hKn hkC e1 hc.2.2.1).to hfs⟩
theorem r_newi (hK : Cl E own cc ret nL k mc sz0 ini G0 Q K) {n : Int32} {N : Nat} (hn : ¬ n < 0) (hN : n.toNatClampNeg = N) (hN2 : N ≤ 1100) (hm : sz + 1 ≤ sz0 + mc) (hd : decode cc pc = .ok (.newarray .int, 2)) (kk : K (pc + 2) Ls (.ref sz :: st) (sz + 1) (gup G sz (.inl (0, N, .inl (fun _ => 0))))) : K pc Ls (.int n :: st) sz G := by
  obtain ⟨p, e, s, m, args, below, meth, c, C, rfl⟩ := hK
  intro H locs ls h1 h2 h3 h4 h5 h6
  have hts := C.2.2.2.2.2.1
  have hs0 : s.heap.size = sz0 := C.2.2.2.2.2.2.2.2.2.2.1
  refine va_newaK (atype := .int) C.1 C.2.1 (hts _ wa_int) rfl hd rfl hn hN (by show N * 4 ≤ _; omega) (by show sz - s.heap.size + 1 ≤ mc; omega) (by show 1100 * (sz - s.heap.size) + N ≤ 1100 * mc; omega) h1.1 fun H1 cA e1 z1 o1 hAr hNm => ?_
  refine g_alloc kk h1 h2 h3 h4 h5 h6 hN2 z1 o1 ?_
  have hcA : E.2.2.1 0 = cA := Option.some.inj ((C.2.2.2.2.2.2.2.2.1.2 0 _ rfl).2.symm.trans hNm)
  show H1[sz]? = some (vp_cell (E.2.2.1 0) _)
  rw [hcA]
  exact e1
theorem r_newz (hK : Cl E own cc ret nL k mc sz0 ini G0 Q K) {n : Int32} {N : Nat} (hn : ¬ n < 0) (hN : n.toNatClampNeg = N) (hN2 : N ≤ 1100) (hm : sz + 1 ≤ sz0 + mc) (hd : decode cc pc = .ok (.newarray .boolean, 2)) (kk : K (pc + 2) Ls (.ref sz :: st) (sz + 1) (gup G sz (.inl (1, N, .inl (fun _ => 0))))) : K pc Ls (.int n :: st) sz G := by
  obtain ⟨p, e, s, m, args, below, meth, c, C, rfl⟩ := hK
  intro H locs ls h1 h2 h3 h4 h5 h6
  have hts := C.2.2.2.2.2.1
  have hs0 : s.heap.size = sz0 := C.2.2.2.2.2.2.2.2.2.2.1
  refine va_newaK (atype := .boolean) C.1 C.2.1 (hts _ wa_boolean) rfl hd rfl hn hN (by show N * 1 ≤ _; omega) (by show sz - s.heap.size + 1 ≤ mc; omega) (by show 1100 * (sz - s.heap.size) + N ≤ 1100 * mc; omega) h1.1 fun H1 cA e1 z1 o1 hAr hNm => ?_
  refine g_alloc kk h1 h2 h3 h4 h5 h6 hN2 z1 o1 ?_
  have hcA : E.2.2.1 1 = cA := Option.some.inj ((C.2.2.2.2.2.2.2.2.1.2 1 _ rfl).2.symm.trans hNm)
  show H1[sz]? = some (vp_cell (E.2.2.1 1) _)
  rw [hcA]
  exact e1
def aNam : Nat → String
  | 2 => "ClockPost$Row"
  | 3 => "ClockPost$House"
  | _ => "ClockPost$Letter"
theorem r_newq (hK : Cl E own cc ret nL k mc sz0 ini G0 Q K) {idx t : Nat} {n : Int32} {N : Nat} (ht : t = 2 ∨ t = 3 ∨ t = 4) (hcl : Cond.classLink own idx (aNam t) ∈ tbl) (hn : ¬ n < 0) (hN : n.toNatClampNeg = N) (hN2 : N ≤ 1100) (hm : sz + 1 ≤ sz0 + mc) (hd : decode cc pc = .ok (.anewarray idx, 3)) (kk : K (pc + 3) Ls (.ref sz :: st) (sz + 1) (gup G sz (.inl (t, N, .inr (.inr (.inr (.inr (fun _ => none)))))))) : K pc Ls (.int n :: st) sz G := by
  obtain ⟨p, e, s, m, args, below, meth, c, C, rfl⟩ := hK
  intro H locs ls h1 h2 h3 h4 h5 h6
  have hts := C.2.2.2.2.2.1
  have hs0 : s.heap.size = sz0 := C.2.2.2.2.2.2.2.2.2.2.1
  have hKa := C.2.2.2.2.2.2.2.2.1
  have hov : va_AO (aNam t) s := C.2.2.2.2.2.2.2.2.2.2.2.2 _ (by rcases ht with rfl | rfl | rfl <;> simp [overL, aNam])
  have hra : va_RA s (E.2.2.1 t) (.object (aNam t)) := by
    rcases ht with rfl | rfl | rfl
    · exact (hKa.2 2 _ rfl).2
    · exact (hKa.2 3 _ rfl).2
    · exact (hKa.2 4 _ rfl).2
  obtain ⟨-, -, -, -, -, hra⟩ := hra
  subst hN
  refine W.anew C.1 C.2.1 C.2.2.2.2.1 (hts _ hcl) (va_AO.use hov) rfl hd rfl hn (by omega) (by show sz - s.heap.size + 1 ≤ mc; omega) (by show 1100 * (sz - s.heap.size) + n.toNatClampNeg ≤ 1100 * mc; omega) fun cA kA comp f1 f2 f3 f4 => ?_
  have hcA : E.2.2.1 t = cA := Option.some.inj (hra.symm.trans f1)
  have hz := h1.1
  subst hz
  refine g_alloc kk h1 h2 h3 h4 h5 h6 hN2 (by simp) (fun q hq => by rw [Array.getElem?_push, if_neg (Nat.ne_of_lt hq)]) ?_
  show (H.push _)[H.size]? = some (vp_cell (E.2.2.1 t) _)
  rw [hcA, Array.getElem?_push_size, arrV_new]
  rfl
-- arraycopy of ints, the JDK's own
theorem nf_copy : nativeFrameWords "java/lang/System" "arraycopy" 5 ≤ 40 := by decide +kernel
theorem r_copy (hK : Cl E own cc ret nL k mc sz0 ini G0 Q K) {idx a0 a n0 n1 : Nat} {f g : Nat → Int32} {sp dp n : Int32} (hlink : Cond.methodLink own idx arraycopyName ∈ tbl) (ha0 : G a0 = some (.inl (0, n0, .inl f))) (ha1 : G a = some (.inl (0, n1, .inl g))) (q1 : ¬ sp < 0) (q2 : ¬ dp < 0) (q3 : ¬ n < 0) (q4 : sp.toNatClampNeg + n.toNatClampNeg ≤ n0) (q5 : dp.toNatClampNeg + n.toNatClampNeg ≤ n1) (hk : 1 ≤ k) (hrest : (st.map fun v => v.category).sum ≤ 8) (hd : decode cc pc = .ok (.invokestatic idx, 3))
    (kk : K (pc + 3) Ls st sz (gup G a (.inl (0, n1, .inl (va_cpy f g sp.toNatClampNeg dp.toNatClampNeg n.toNatClampNeg))))) : K pc Ls (.int n :: .int dp :: .ref a :: .int sp :: .ref a0 :: st) sz G := by
  obtain ⟨p, e, s, m, args, below, meth, c, C, rfl⟩ := hK
  intro H locs ls h1 h2 h3 h4 h5 h6
  have nn : ∀ z : Int32, ¬ z < 0 → z.toInt = (z.toNatClampNeg : Int) := by
    intro z hz
    have hz0 : (0 : Int) ≤ z.toInt := by
      have := Int32.not_lt.mp hz
      simpa using Int32.le_iff_toInt_le.mp this
    show z.toInt = ((z.toInt.toNat : Nat) : Int)
    omega
  have hts := C.2.2.2.2.2.1
  have hKa := C.2.2.2.2.2.2.2.2.1
  intro T hT X
  have hc0 : H[a0]? = some (vp_cell (E.2.2.1 0) (n0, .inl f)) := h1.2 a0 _ ha0
  have hc1 : H[a]? = some (vp_cell (E.2.2.1 0) (n1, .inl g)) := h1.2 a _ ha1
  obtain ⟨-, k0, hk0, cm0, hkk0⟩ := (hKa.2 0 _ rfl).1 n0 (fun j => .int (f j))
  obtain ⟨-, k1, hk1, cm1, hkk1⟩ := (hKa.2 0 _ rfl).1 n1 (fun j => .int (g j))
  obtain ⟨vm', X', step⟩ := X.arraycopy C.1 C.2.2.2.2.1 (hts _ hlink) (hts _ wn_copy) (hts _ ws_copy) (hts _ wz_JS) (src := a0) (dst := a) (cs := vp_cell (E.2.2.1 0) (n0, .inl f)) (cd := vp_cell (E.2.2.1 0) (n1, .inl g)) (srcPos := sp) (destPos := dp) (n := n) (by rw [hT]; exact hc0) (by rw [hT]; exact hc1)
    (fun _ h => by cases h) (fun _ h => by cases h) (fun h => by cases h) (fun h => by cases h) hk0 hk1 hkk0 hkk1 (by simp [refKind]) q1 q2 q3
    (by rw [nn sp q1, nn n q3]; show ¬ _ > ((arrV _ n0 (fun j => .int (f j))).slots.size : Int); rw [arrV_size]; omega)
    (by rw [nn dp q2, nn n q3]; show ¬ _ > ((arrV _ n1 (fun j => .int (g j))).slots.size : Int); rw [arrV_size]; omega)
    (fun vm₁ _ i hi => by
      have e : (vp_cell (E.2.2.1 0) (n0, .inl f)).slots.getD (sp.toNatClampNeg + i) .null = .int (f (sp.toNatClampNeg + i)) := by
        show (arrV _ n0 (fun j => .int (f j))).slots.getD _ _ = _
        rw [Array.getD_eq_getD_getElem?, arrV_read _ _ (by omega)]
        rfl
      refine ⟨?_, ?_⟩
      · rw [e]
        rfl
      · rw [e]
        exact trivial)
    (g := F0 m pc ls (.int n :: .int dp :: .ref a :: .int sp :: .ref a0 :: st)) rfl (by show ls.size = _; rw [C.2.2.2.1]; exact h6) (rest := st) rfl (by rw [C.2.1]; exact hd) (by show 1 ≤ k; exact hk) (by show 2 * 0 + _ + (nativeFrameWords "java/lang/System" "arraycopy" 5 + 11) ≤ 64 * k; have e9 := nf_copy; omega)
  have e1 : copied (vp_cell (E.2.2.1 0) (n0, .inl f)) (vp_cell (E.2.2.1 0) (n1, .inl g)) sp dp n = vp_cell (E.2.2.1 0) (n1, .inl (va_cpy f g sp.toNatClampNeg dp.toNatClampNeg n.toNatClampNeg)) := va_copied (fun z => .int z) _ _ f g q4
  rw [e1] at X' step
  have hl : a < H.size := (Array.getElem?_eq_some_iff.mp hc1).1
  have hheap : ((T.setVm vm').setCell a (vp_cell (E.2.2.1 0) (n1, .inl (va_cpy f g sp.toNatClampNeg dp.toNatClampNeg n.toNatClampNeg)))).heap = H.setIfInBounds a (vp_cell (E.2.2.1 0) (n1, .inl (va_cpy f g sp.toNatClampNeg dp.toNatClampNeg n.toNatClampNeg))) := by rw [← hT]; rfl
  have oq : ∀ q : Nat, q ≠ a → (H.setIfInBounds a (vp_cell (E.2.2.1 0) (n1, .inl (va_cpy f g sp.toNatClampNeg dp.toNatClampNeg n.toNatClampNeg))))[q]? = H[q]? := fun q hq => by simp [Array.getElem?_setIfInBounds, Ne.symm hq]
  have hsz : (H.setIfInBounds a (vp_cell (E.2.2.1 0) (n1, .inl (va_cpy f g sp.toNatClampNeg dp.toNatClampNeg n.toNatClampNeg)))).size = H.size := by simp
  have hA : gA G0 s.heap.size a := h3 a (Or.inl (by rw [ha1]; simp))
  obtain ⟨t, a1, b1⟩ := kk _ _ ls (gP_up h1 hsz oq (show (H.setIfInBounds a _)[a]? = some _ by simp [Array.getElem?_setIfInBounds, hl])) h2 (fun q hq => h3 q (gA_up ha1 q hq)) ⟨by rw [hsz]; exact h4.1, fun q g1 g2 => by
      rw [oq q (fun e => g2 (by rw [e]; exact hA))]
      exact h4.2.1 q g1 g2, fun q hq => by
      rcases List.mem_append.mp hq with h | h
      · exact h4.2.2 q h
      · obtain ⟨z, -, hz⟩ := List.mem_map.mp h
        rw [← hz]
        exact hA⟩ h5 h6 _ hheap X'
  exact ⟨t, step t a1, b1⟩
theorem r_mmin (hK : Cl E own cc ret nL k mc sz0 ini G0 Q K) {idx : Nat} {x y : Int32} (hlink : Cond.methodLink own idx Lib.Math.min.name ∈ tbl) (hk : 1 ≤ k) (hrest : (st.map fun v => v.category).sum ≤ 8) (hm : sz ≤ sz0 + mc) (hd : decode cc pc = .ok (.invokestatic idx, 3)) (kk : K (pc + 3) Ls (.int (if y < x then y else x) :: st) sz G) : K pc Ls (.int y :: .int x :: st) sz G := by
  obtain ⟨p, e, s, m, args, below, meth, c, C, rfl⟩ := hK
  intro H locs ls h1 h2 h3 h4 h5 h6
  have hts := C.2.2.2.2.2.1
  have hs0 : s.heap.size = sz0 := C.2.2.2.2.2.2.2.2.2.2.1
  exact va_mmin C.1 C.2.1 (by rw [C.2.2.2.1]; exact h6.symm) C.2.2.2.2.1 (hts _ hlink) (hts _ ws_min) (hts _ wz_JM) (hts _ wc_min) (by show 1 ≤ k; exact hk) (by show _ + 13 ≤ 64 * k; omega) (by show sz - s.heap.size ≤ mc; omega) (by show 1100 * (sz - s.heap.size) ≤ 1100 * mc; omega) hd (kk H locs ls h1 h2 h3 h4 h5 h6)
theorem r_mmax (hK : Cl E own cc ret nL k mc sz0 ini G0 Q K) {idx : Nat} {x y : Int32} (hlink : Cond.methodLink own idx Lib.Math.max.name ∈ tbl) (hk : 1 ≤ k) (hrest : (st.map fun v => v.category).sum ≤ 8) (hm : sz ≤ sz0 + mc) (hd : decode cc pc = .ok (.invokestatic idx, 3)) (kk : K (pc + 3) Ls (.int (if x < y then y else x) :: st) sz G) : K pc Ls (.int y :: .int x :: st) sz G := by
  obtain ⟨p, e, s, m, args, below, meth, c, C, rfl⟩ := hK
  intro H locs ls h1 h2 h3 h4 h5 h6
  have hts := C.2.2.2.2.2.1
  have hs0 : s.heap.size = sz0 := C.2.2.2.2.2.2.2.2.2.2.1
  exact va_mmax C.1 C.2.1 (by rw [C.2.2.2.1]; exact h6.symm) C.2.2.2.2.1 (hts _ hlink) (hts _ ws_max) (hts _ wz_JM) (hts _ wc_max) (by show 1 ≤ k; exact hk) (by show _ + 13 ≤ 64 * k; omega) (by show sz - s.heap.size ≤ mc; omega) (by show 1100 * (sz - s.heap.size) ≤ 1100 * mc; omega) hd (kk H locs ls h1 h2 h3 h4 h5 h6)
theorem r_obj (hK : Cl E own cc ret nL k mc sz0 ini G0 Q K) {idx a : Nat} (hlink : Cond.methodLink own idx Lib.objectInit ∈ tbl) (hk : 1 ≤ k) (hrest : (st.map fun v => v.category).sum ≤ 8) (hd : decode cc pc = .ok (.invokespecial idx, 3)) (kk : K (pc + 3) Ls st sz G) : K pc Ls (.ref a :: st) sz G := by
  obtain ⟨p, e, s, m, args, below, meth, c, C, rfl⟩ := hK
  intro H locs ls h1 h2 h3 h4 h5 h6
  have hts := C.2.2.2.2.2.1
  exact W.objInit C.1 C.2.1 C.2.2.2.2.1 (hts _ hlink) (hts _ wi_obj) (hts _ wc_obj) rfl (by show ls.size = _; rw [C.2.2.2.1]; exact h6) rfl hd (by show 1 ≤ k; exact hk) (by show 2 * 0 + _ + 12 ≤ 64 * k; omega) (kk H locs ls h1 h2 h3 h4 h5 h6)
-- calls
theorem g_call {p : Program} {e : Env} {R : Room} {s : State} {m : MethodId} {args : Array Value} {below : List Frame} {meth : Method} {c : Code} {Qm : State → Prop} {H : Heap} {locs : List Loc} {ls : Array Slot} {a : Array Value} {mc' : Nat} {rest st0 : List Value} {Q' : Option Value → gG → Prop}
    (hr : va_Run p E.1 e R s m args below meth c H locs (sz - s.heap.size) (1100 * (sz - s.heap.size)) mc' (1100 * mc') (F0 m pc ls st0) rest (gQ E mc' sz G Q' a) (gA G sz))
    (h1 : gP E sz G H) (h2 : s.heap.size ≤ sz) (h3 : ∀ q, gA G sz q → gA G0 s.heap.size q) (h4 : va_S (gA G0 s.heap.size) s.heap H locs) (h5 : lvL ls Ls) (h6 : ls.size = nL)
    (kk : ∀ (r : Option Value) (G' : gG), Q' r G' → gK E p e R s m args below meth c nL G0 Qm (pc + 3) Ls (r.toList ++ rest) (sz + mc') G') :
    W p E.1 e R s m args below meth c H locs (sz - s.heap.size) (1100 * (sz - s.heap.size)) Qm (F0 m pc ls st0) := by
  intro T hT X
  obtain ⟨v, st₀, t, T', L, h0, X', hL, e1, e2, ⟨⟨r, G', hv, hq, hp, hsub⟩, hz, hkp⟩, st⟩ := hr T hT X
  cases hv
  rw [h0] at hz hkp
  have hHs := h1.1
  have c1 : sz - s.heap.size + mc' = sz + mc' - s.heap.size := by omega
  have c2 : 1100 * (sz - s.heap.size) + 1100 * mc' = 1100 * (sz + mc' - s.heap.size) := by omega
  rw [c1, c2] at X'
  obtain ⟨t2, a1, b1⟩ := kk v G' hq T'.heap (locs ++ L) ls (by rw [e1]; exact hp) (by omega) (fun q hq => h3 q (hsub q hq)) ⟨Nat.le_trans h4.1 (by rw [e1]; exact hz), fun q g1 g2 => by
      rw [e1, hkp q (by omega) (fun z => g2 (h3 q z))]
      exact h4.2.1 q g1 g2, fun q hq => by
      rcases List.mem_append.mp hq with h | h
      · exact h4.2.2 q h
      · exact h3 _ (hL q h)⟩ h5 h6 T' rfl X'
  exact ⟨t2, st t2 a1, b1⟩
theorem g_blind {av : List Value} {sz : Nat} {G : gG} : FrameBlind (va_Pc av (gB E sz G)) := fun a U g mk q => by
  obtain ⟨q0, qP, qK, qZ, qN⟩ := q
  exact ⟨q0, qP, va_K.moved (u := U) (U := U.calling g mk a) (Vm.Alike.refl U.vm) qK, qZ.use (U := U.calling g mk a) (fun _ _ _ => rfl) (fun _ h => h) (Vm.Alike.refl U.vm), fun q hq => va_Nw.same rfl (u := U) (U := U.calling g mk a) rfl (qN.1 q hq), fun CC hC => (qN.2 CC hC).moved (u := U) (U := U.calling g mk a) (Vm.Alike.refl U.vm)⟩
theorem g_pre {p : Program} {s : State} {m : MethodId} {args : Array Value} {meth : Method} {c : Code} {H : Heap} {locs : List Loc} {av : List Value} (C : gC E own cc ret nL sz0 ini G0 p s m args meth c) (h1 : gP E sz G H) (h3 : ∀ q, gA G sz q → gA G0 s.heap.size q) (h4 : va_S (gA G0 s.heap.size) s.heap H locs) : PreS s H (va_Pc av (gB E sz G)) av :=
  ⟨g_blind, fun U hU hW => ⟨rfl, by rw [hU]; exact h1, va_K.moved hW.alike C.2.2.2.2.2.2.2.2.1, C.2.2.2.2.2.2.2.2.2.1.use (fun a g1 g2 => by rw [hU]; exact h4.2.1 a g1 g2) h3 hW.alike, C.2.2.2.2.2.2.2.2.2.2.2.warm hW⟩⟩
theorem g_good {y : MethodName} {bytes : ByteArray} {maxL : Nat} {rt : Option FieldType} (h : Cond.code y bytes maxL rt ∈ tbl) : GoodIn tbl (Cond.code y bytes maxL rt :: tbl) := fun w hw => by
  rcases List.mem_cons.mp hw with rfl | hw
  · exact tbl_goodIn _ h
  · exact tbl_goodIn _ hw
theorem r_inv (hK : Cl E own cc ret nL k mc sz0 ini G0 Q K) {idx n ci b k' mc' : Nat} {y : MethodName} {As rest : List Value} {fs : List Value} (hl : LkV own idx y n ci) (hn : As.length = n) (hG : G b = some (.inr (ci, fs))) (hk : k' + 1 ≤ k) (hm : sz + mc' ≤ sz0 + mc) (hrest : (rest.map fun v => v.category).sum ≤ 8) (hd : decode cc pc = .ok (.invokevirtual idx, 3))
    (hrun : Runs E y k' mc' sz (.ref b :: As) G (fun r G' => K (pc + 3) Ls (r.toList ++ rest) (sz + mc') G')) : K pc Ls (As.reverse ++ .ref b :: rest) sz G := by
  obtain ⟨p, e, s, m, args, below, meth, c, C, rfl⟩ := hK
  intro H locs ls h1 h2 h3 h4 h5 h6
  obtain ⟨bytes, maxL, rt, hc, hmL, hM⟩ := hrun
  obtain ⟨⟨⟨d1, d2, d3⟩, d4⟩, l1, l2, l3, qq, l4, l5⟩ := hl
  have hts := C.2.2.2.2.2.1
  have hs0 : s.heap.size = sz0 := C.2.2.2.2.2.2.2.2.2.2.1
  have hKa := C.2.2.2.2.2.2.2.2.1
  have hPS := g_pre (av := .ref b :: As) C h1 h3 h4
  have hrecv := va_recv hKa (gP1 h1 hG) l4 (q0 := 0) rfl
  rw [l5] at hrecv
  exact g_call (va_runV (C := y.cls) ⟨C.1, C.2.1, C.2.2.2.1, C.2.2.2.2.1, hts⟩ hM ⟨callB_of n hts (g_good hc) rfl rfl rfl (hts _ d4) (hts _ l1) ⟨d1, d2, d3⟩ ⟨by show k' + 1 ≤ k; exact hk, by show 8 + (maxL + 11) + 64 * k' ≤ 64 * k; omega⟩, hts _ l2, hts _ l3⟩ ⟨hPS.1, hrecv, hPS.2⟩ rfl hn h6 rfl (lv_room hrest) hd ⟨by show sz - s.heap.size + mc' ≤ mc; omega, by show 1100 * (sz - s.heap.size) + 1100 * mc' ≤ 1100 * mc; omega⟩) h1 h2 h3 h4 h5 h6 (fun r G' hq => hq)
theorem r_ist (hK : Cl E own cc ret nL k mc sz0 ini G0 Q K) {idx n k' mc' : Nat} {y : MethodName} {As rest : List Value} (hl : LkS own idx y n) (hn : As.length = n) (hk : k' + 1 ≤ k) (hm : sz + mc' ≤ sz0 + mc) (hrest : (rest.map fun v => v.category).sum ≤ 8) (hd : decode cc pc = .ok (.invokestatic idx, 3))
    (hrun : Runs E y k' mc' sz As G (fun r G' => K (pc + 3) Ls (r.toList ++ rest) (sz + mc') G')) : K pc Ls (As.reverse ++ rest) sz G := by
  obtain ⟨p, e, s, m, args, below, meth, c, C, rfl⟩ := hK
  intro H locs ls h1 h2 h3 h4 h5 h6
  obtain ⟨bytes, maxL, rt, hc, hmL, hM⟩ := hrun
  obtain ⟨⟨⟨d1, d2, d3⟩, d4⟩, l1, l2⟩ := hl
  have hts := C.2.2.2.2.2.1
  have hs0 : s.heap.size = sz0 := C.2.2.2.2.2.2.2.2.2.2.1
  have hPS := g_pre (av := As) C h1 h3 h4
  rcases l1 with l1 | ⟨host, l1⟩
  · exact g_call (va_runS ⟨C.1, C.2.1, C.2.2.2.1, C.2.2.2.2.1, hts⟩ hM ⟨callB_of n hts (g_good hc) rfl rfl rfl (hts _ d4) (hts _ l1) ⟨d1, d2, d3⟩ ⟨by show k' + 1 ≤ k; exact hk, by show 8 + (maxL + 11) + 64 * k' ≤ 64 * k; omega⟩, hts _ l2⟩ hPS rfl hn h6 rfl (lv_room hrest) hd ⟨by show sz - s.heap.size + mc' ≤ mc; omega, by show 1100 * (sz - s.heap.size) + 1100 * mc' ≤ 1100 * mc; omega⟩) h1 h2 h3 h4 h5 h6 (fun r G' hq => hq)
  · exact g_call (va_runSN ⟨C.1, C.2.1, C.2.2.2.1, C.2.2.2.2.1, hts⟩ hM ⟨va_cnB n hts (g_good hc) rfl rfl rfl (C.2.2.2.2.2.2.2.2.2.2.2.1 _ l1) (hts _ d4) ⟨d1, d2, d3⟩ ⟨by show k' + 1 ≤ k; exact hk, by show 8 + (maxL + 11) + 64 * k' ≤ 64 * k; omega⟩, hts _ l2, trivial⟩ hPS rfl hn h6 rfl (lv_room hrest) hd ⟨by show sz - s.heap.size + mc' ≤ mc; omega, by show 1100 * (sz - s.heap.size) + 1100 * mc' ≤ 1100 * mc; omega⟩) h1 h2 h3 h4 h5 h6 (fun r G' hq => hq)
theorem r_isp (hK : Cl E own cc ret nL k mc sz0 ini G0 Q K) {idx n b k' mc' : Nat} {y : MethodName} {As rest : List Value} (hl : LkI own idx y n) (hn : As.length = n) (hk : k' + 1 ≤ k) (hm : sz + mc' ≤ sz0 + mc) (hrest : (rest.map fun v => v.category).sum ≤ 8) (hd : decode cc pc = .ok (.invokespecial idx, 3)) {bytes : ByteArray} {maxL : Nat} (hcw : Cond.code y bytes maxL none ∈ tbl) (hmL : maxL ≤ 40)
    (hrun : Met E.1 y (Cond.code y bytes maxL none :: tbl) (gRm k' mc') (va_Pc (.ref b :: As) (gB E sz G)) (gQ E mc' sz G (fun r G' => K (pc + 3) Ls (r.toList ++ rest) (sz + mc') G')) mc' (1100 * mc') (gA G sz)) : K pc Ls (As.reverse ++ .ref b :: rest) sz G := by
  obtain ⟨p, e, s, m, args, below, meth, c, C, rfl⟩ := hK
  intro H locs ls h1 h2 h3 h4 h5 h6
  obtain ⟨⟨⟨d1, d2, d3⟩, d4⟩, l1, l2, l3⟩ := hl
  have hts := C.2.2.2.2.2.1
  have hs0 : s.heap.size = sz0 := C.2.2.2.2.2.2.2.2.2.2.1
  have hPS := g_pre (av := .ref b :: As) C h1 h3 h4
  rcases l1 with l1 | ⟨host, l1⟩
  · exact g_call (va_runI ⟨C.1, C.2.1, C.2.2.2.1, C.2.2.2.2.1, hts⟩ hrun ⟨callB_of n hts (g_good hcw) rfl rfl rfl (hts _ d4) (hts _ l1) ⟨d1, d2, d3⟩ ⟨by show k' + 1 ≤ k; exact hk, by show 8 + (maxL + 11) + 64 * k' ≤ 64 * k; omega⟩, l2, hts _ l3⟩ hPS rfl hn h6 rfl (lv_room hrest) hd ⟨by show sz - s.heap.size + mc' ≤ mc; omega, by show 1100 * (sz - s.heap.size) + 1100 * mc' ≤ 1100 * mc; omega⟩) h1 h2 h3 h4 h5 h6 (fun r G' hq => hq)
  · exact g_call (va_runIN ⟨C.1, C.2.1, C.2.2.2.1, C.2.2.2.2.1, hts⟩ hrun ⟨va_cnB n hts (g_good hcw) rfl rfl rfl (C.2.2.2.2.2.2.2.2.2.2.2.1 _ l1) (hts _ d4) ⟨d1, d2, d3⟩ ⟨by show k' + 1 ≤ k; exact hk, by show 8 + (maxL + 11) + 64 * k' ≤ 64 * k; omega⟩, l2, hts _ l3⟩ hPS rfl hn h6 rfl (lv_room hrest) hd ⟨by show sz - s.heap.size + mc' ≤ mc; omega, by show 1100 * (sz - s.heap.size) + 1100 * mc' ≤ 1100 * mc; omega⟩) h1 h2 h3 h4 h5 h6 (fun r G' hq => hq)
-- ends
theorem g_end {p : Program} {s : State} {m : MethodId} {args : Array Value} {meth : Method} {c : Code} {H : Heap} {locs : List Loc} {r : Option Value} {t : State} (C : gC E own cc ret nL sz0 ini G0 p s m args meth c) (hsz : sz = sz0 + mc) (h1 : gP E sz G H) (h3 : ∀ q, gA G sz q → gA G0 s.heap.size q) (h4 : va_S (gA G0 s.heap.size) s.heap H locs) (hq : Q r G) (ht : t.heap = H) : gQ E mc sz0 G0 Q args s (.returned r) t := by
  have hs0 : s.heap.size = sz0 := C.2.2.2.2.2.2.2.2.2.2.1
  subst hsz
  rw [hs0] at h3 h4
  exact ⟨⟨r, G, rfl, hq, by rw [ht]; exact h1, h3⟩, h4.F ht⟩
theorem r_vret (hK : Cl E own cc ret nL k mc sz0 ini G0 Q K) (hr : ret = none) (hsz : sz = sz0 + mc) (hd : decode cc pc = .ok (.return_, 1)) (hq : Q none G) : K pc Ls [] sz G := by
  obtain ⟨p, e, s, m, args, below, meth, c, C, rfl⟩ := hK
  intro H locs ls h1 h2 h3 h4 h5 h6
  have hs0 : s.heap.size = sz0 := C.2.2.2.2.2.2.2.2.2.2.1
  have hcz : sz - s.heap.size = mc := by omega
  rw [hcz]
  exact W.vret C.1 C.2.1 (C.2.2.1.trans hr) (fun t ht _ => g_end C hsz h1 h3 h4 hq ht) (fun q hq => by rw [← hs0]; exact h4.2.2 q hq) hd C.2.2.2.2.2.2.1
theorem r_iret (hK : Cl E own cc ret nL k mc sz0 ini G0 Q K) {v : Int32} (hr : ret = some .int) (hsz : sz = sz0 + mc) (hd : decode cc pc = .ok (.ireturn, 1)) (hq : Q (some (.int v)) G) : K pc Ls [.int v] sz G := by
  obtain ⟨p, e, s, m, args, below, meth, c, C, rfl⟩ := hK
  intro H locs ls h1 h2 h3 h4 h5 h6
  have hs0 : s.heap.size = sz0 := C.2.2.2.2.2.2.2.2.2.2.1
  have hcz : sz - s.heap.size = mc := by omega
  rw [hcz]
  exact W.iret C.1 C.2.1 (C.2.2.1.trans hr) (fun t ht _ => g_end C hsz h1 h3 h4 hq ht) (fun q hq => by rw [← hs0]; exact h4.2.2 q hq) hd C.2.2.2.2.2.2.1
theorem r_zret (hK : Cl E own cc ret nL k mc sz0 ini G0 Q K) {v : Int32} (hr : ret = some .boolean) (hn : narrow .boolean (.int v) = .int v) (hsz : sz = sz0 + mc) (hd : decode cc pc = .ok (.ireturn, 1)) (hq : Q (some (.int v)) G) : K pc Ls [.int v] sz G := by
  obtain ⟨p, e, s, m, args, below, meth, c, C, rfl⟩ := hK
  intro H locs ls h1 h2 h3 h4 h5 h6
  have hs0 : s.heap.size = sz0 := C.2.2.2.2.2.2.2.2.2.2.1
  have hcz : sz - s.heap.size = mc := by omega
  rw [hcz]
  exact W.zret C.1 C.2.1 (C.2.2.1.trans hr) hn (fun t ht _ => g_end C hsz h1 h3 h4 hq ht) (fun q hq => by rw [← hs0]; exact h4.2.2 q hq) hd C.2.2.2.2.2.2.1
theorem r_aret (hK : Cl E own cc ret nL k mc sz0 ini G0 Q K) {a : Nat} {nm : String} (hr : ret = some (.object nm)) (hsz : sz = sz0 + mc) (hd : decode cc pc = .ok (.areturn, 1)) (hq : Q (some (.ref a)) G) : K pc Ls [.ref a] sz G := by
  obtain ⟨p, e, s, m, args, below, meth, c, C, rfl⟩ := hK
  intro H locs ls h1 h2 h3 h4 h5 h6
  have hs0 : s.heap.size = sz0 := C.2.2.2.2.2.2.2.2.2.2.1
  have hcz : sz - s.heap.size = mc := by omega
  rw [hcz]
  exact W.aret C.1 C.2.1 (C.2.2.1.trans hr) (Or.inl ⟨_, rfl⟩) (Or.inr ⟨_, rfl⟩) (fun t ht _ => g_end C hsz h1 h3 h4 hq ht) (fun q hq => by rw [← hs0]; exact h4.2.2 q hq) hd C.2.2.2.2.2.2.1
end GR
end
section
theorem kc_m1 : Int32.ofInt (-1) = (-1) := by decide
theorem kc_0 : Int32.ofInt (0) = (0) := by decide
theorem kc_1 : Int32.ofInt (1) = (1) := by decide
theorem kc_2 : Int32.ofInt (2) = (2) := by decide
theorem kc_3 : Int32.ofInt (3) = (3) := by decide
theorem kc_4 : Int32.ofInt (4) = (4) := by decide
theorem kc_5 : Int32.ofInt (5) = (5) := by decide
theorem kb_6 : (Int8.ofInt (6)).toInt32 = (6) := by decide
theorem kb_7 : (Int8.ofInt (7)).toInt32 = (7) := by decide
theorem kb_8 : (Int8.ofInt (8)).toInt32 = (8) := by decide
theorem kb_9 : (Int8.ofInt (9)).toInt32 = (9) := by decide
theorem kb_10 : (Int8.ofInt (10)).toInt32 = (10) := by decide
theorem kb_11 : (Int8.ofInt (11)).toInt32 = (11) := by decide
theorem kb_12 : (Int8.ofInt (12)).toInt32 = (12) := by decide
theorem kb_13 : (Int8.ofInt (13)).toInt32 = (13) := by decide
theorem kb_14 : (Int8.ofInt (14)).toInt32 = (14) := by decide
theorem kb_16 : (Int8.ofInt (16)).toInt32 = (16) := by decide
theorem kb_18 : (Int8.ofInt (18)).toInt32 = (18) := by decide
theorem kb_20 : (Int8.ofInt (20)).toInt32 = (20) := by decide
theorem kb_21 : (Int8.ofInt (21)).toInt32 = (21) := by decide
theorem kb_22 : (Int8.ofInt (22)).toInt32 = (22) := by decide
theorem kb_23 : (Int8.ofInt (23)).toInt32 = (23) := by decide
theorem kb_24 : (Int8.ofInt (24)).toInt32 = (24) := by decide
theorem kb_30 : (Int8.ofInt (30)).toInt32 = (30) := by decide
theorem kb_31 : (Int8.ofInt (31)).toInt32 = (31) := by decide
theorem kb_32 : (Int8.ofInt (32)).toInt32 = (32) := by decide
theorem kb_36 : (Int8.ofInt (36)).toInt32 = (36) := by decide
theorem kb_40 : (Int8.ofInt (40)).toInt32 = (40) := by decide
theorem kb_44 : (Int8.ofInt (44)).toInt32 = (44) := by decide
theorem kb_48 : (Int8.ofInt (48)).toInt32 = (48) := by decide
theorem kb_57 : (Int8.ofInt (57)).toInt32 = (57) := by decide
theorem kb_59 : (Int8.ofInt (59)).toInt32 = (59) := by decide
theorem kb_60 : (Int8.ofInt (60)).toInt32 = (60) := by decide
theorem kb_61 : (Int8.ofInt (61)).toInt32 = (61) := by decide
theorem kb_63 : (Int8.ofInt (63)).toInt32 = (63) := by decide
theorem kb_64 : (Int8.ofInt (64)).toInt32 = (64) := by decide
theorem kb_72 : (Int8.ofInt (72)).toInt32 = (72) := by decide
theorem kb_98 : (Int8.ofInt (98)).toInt32 = (98) := by decide
theorem kb_99 : (Int8.ofInt (99)).toInt32 = (99) := by decide
theorem kb_100 : (Int8.ofInt (100)).toInt32 = (100) := by decide
theorem kb_101 : (Int8.ofInt (101)).toInt32 = (101) := by decide
theorem kb_110 : (Int8.ofInt (110)).toInt32 = (110) := by decide
theorem kb_115 : (Int8.ofInt (115)).toInt32 = (115) := by decide
theorem ks_255 : (Int16.ofInt (255)).toInt32 = (255) := by decide
theorem ks_300 : (Int16.ofInt (300)).toInt32 = (300) := by decide
theorem ks_320 : (Int16.ofInt (320)).toInt32 = (320) := by decide
theorem ks_828 : (Int16.ofInt (828)).toInt32 = (828) := by decide
theorem ks_900 : (Int16.ofInt (900)).toInt32 = (900) := by decide
theorem ks_972 : (Int16.ofInt (972)).toInt32 = (972) := by decide
theorem ks_973 : (Int16.ofInt (973)).toInt32 = (973) := by decide
theorem ks_975 : (Int16.ofInt (975)).toInt32 = (975) := by decide
theorem ks_976 : (Int16.ofInt (976)).toInt32 = (976) := by decide
theorem ks_978 : (Int16.ofInt (978)).toInt32 = (978) := by decide
theorem ks_984 : (Int16.ofInt (984)).toInt32 = (984) := by decide
theorem ks_990 : (Int16.ofInt (990)).toInt32 = (990) := by decide
theorem ks_996 : (Int16.ofInt (996)).toInt32 = (996) := by decide
theorem ks_999 : (Int16.ofInt (999)).toInt32 = (999) := by decide
theorem ks_1000 : (Int16.ofInt (1000)).toInt32 = (1000) := by decide
theorem ks_1008 : (Int16.ofInt (1008)).toInt32 = (1008) := by decide
theorem ks_9999 : (Int16.ofInt (9999)).toInt32 = (9999) := by decide
section GH
variable {E : gX} {own : String} {cc : ByteArray} {ret : Option FieldType} {nL k mc sz0 : Nat} {ini : Bool} {G0 : gG} {Q : Option Value → gG → Prop} {K : Nat → List (Option Value) → List Value → Nat → gG → Prop}
variable {pc sz : Nat} {st : List Value} {G : gG}
theorem st_a_4_7 (hK : Cl E own cc ret nL k mc sz0 ini G0 Q K) {a0 a1 a2 a3 a4 a5 a6 : Option Value} {x : Nat} (hd : decode cc pc = .ok (.astore 4, 2)) (h1 : okc a3) (kk : K (pc + 2) [a0, a1, a2, a3, some (.ref x), a5, a6] st sz G) : K pc [a0, a1, a2, a3, a4, a5, a6] (.ref x :: st) sz G := r_astore hK hd (Nat.le_of_ble_eq_true rfl) h1 kk
theorem st_a_6_8 (hK : Cl E own cc ret nL k mc sz0 ini G0 Q K) {a0 a1 a2 a3 a4 a5 a6 a7 : Option Value} {x : Nat} (hd : decode cc pc = .ok (.astore 6, 2)) (h1 : okc a5) (kk : K (pc + 2) [a0, a1, a2, a3, a4, a5, some (.ref x), a7] st sz G) : K pc [a0, a1, a2, a3, a4, a5, a6, a7] (.ref x :: st) sz G := r_astore hK hd (Nat.le_of_ble_eq_true rfl) h1 kk
theorem st_a_7_8 (hK : Cl E own cc ret nL k mc sz0 ini G0 Q K) {a0 a1 a2 a3 a4 a5 a6 a7 : Option Value} {x : Nat} (hd : decode cc pc = .ok (.astore 7, 2)) (h1 : okc a6) (kk : K (pc + 2) [a0, a1, a2, a3, a4, a5, a6, some (.ref x)] st sz G) : K pc [a0, a1, a2, a3, a4, a5, a6, a7] (.ref x :: st) sz G := r_astore hK hd (Nat.le_of_ble_eq_true rfl) h1 kk
theorem st_an_1_4 (hK : Cl E own cc ret nL k mc sz0 ini G0 Q K) {a0 a1 a2 a3 : Option Value} {x : Nat} (hd : decode cc pc = .ok (.astore_n 1, 1)) (h1 : okc a0) (kk : K (pc + 1) [a0, some (.ref x), a2, a3] st sz G) : K pc [a0, a1, a2, a3] (.ref x :: st) sz G := r_astore_n hK hd (Nat.le_of_ble_eq_true rfl) h1 kk
theorem st_an_2_4 (hK : Cl E own cc ret nL k mc sz0 ini G0 Q K) {a0 a1 a2 a3 : Option Value} {x : Nat} (hd : decode cc pc = .ok (.astore_n 2, 1)) (h1 : okc a1) (kk : K (pc + 1) [a0, a1, some (.ref x), a3] st sz G) : K pc [a0, a1, a2, a3] (.ref x :: st) sz G := r_astore_n hK hd (Nat.le_of_ble_eq_true rfl) h1 kk
theorem st_an_3_4 (hK : Cl E own cc ret nL k mc sz0 ini G0 Q K) {a0 a1 a2 a3 : Option Value} {x : Nat} (hd : decode cc pc = .ok (.astore_n 3, 1)) (h1 : okc a2) (kk : K (pc + 1) [a0, a1, a2, some (.ref x)] st sz G) : K pc [a0, a1, a2, a3] (.ref x :: st) sz G := r_astore_n hK hd (Nat.le_of_ble_eq_true rfl) h1 kk
theorem st_i_4_5 (hK : Cl E own cc ret nL k mc sz0 ini G0 Q K) {a0 a1 a2 a3 a4 : Option Value} {x : Int32} (hd : decode cc pc = .ok (.istore 4, 2)) (h1 : okc a3) (kk : K (pc + 2) [a0, a1, a2, a3, some (.int x)] st sz G) : K pc [a0, a1, a2, a3, a4] (.int x :: st) sz G := r_istore hK hd (Nat.le_of_ble_eq_true rfl) h1 kk
theorem st_i_4_6 (hK : Cl E own cc ret nL k mc sz0 ini G0 Q K) {a0 a1 a2 a3 a4 a5 : Option Value} {x : Int32} (hd : decode cc pc = .ok (.istore 4, 2)) (h1 : okc a3) (kk : K (pc + 2) [a0, a1, a2, a3, some (.int x), a5] st sz G) : K pc [a0, a1, a2, a3, a4, a5] (.int x :: st) sz G := r_istore hK hd (Nat.le_of_ble_eq_true rfl) h1 kk
theorem st_i_4_7 (hK : Cl E own cc ret nL k mc sz0 ini G0 Q K) {a0 a1 a2 a3 a4 a5 a6 : Option Value} {x : Int32} (hd : decode cc pc = .ok (.istore 4, 2)) (h1 : okc a3) (kk : K (pc + 2) [a0, a1, a2, a3, some (.int x), a5, a6] st sz G) : K pc [a0, a1, a2, a3, a4, a5, a6] (.int x :: st) sz G := r_istore hK hd (Nat.le_of_ble_eq_true rfl) h1 kk
theorem st_i_4_8 (hK : Cl E own cc ret nL k mc sz0 ini G0 Q K) {a0 a1 a2 a3 a4 a5 a6 a7 : Option Value} {x : Int32} (hd : decode cc pc = .ok (.istore 4, 2)) (h1 : okc a3) (kk : K (pc + 2) [a0, a1, a2, a3, some (.int x), a5, a6, a7] st sz G) : K pc [a0, a1, a2, a3, a4, a5, a6, a7] (.int x :: st) sz G := r_istore hK hd (Nat.le_of_ble_eq_true rfl) h1 kk
theorem st_i_4_9 (hK : Cl E own cc ret nL k mc sz0 ini G0 Q K) {a0 a1 a2 a3 a4 a5 a6 a7 a8 : Option Value} {x : Int32} (hd : decode cc pc = .ok (.istore 4, 2)) (h1 : okc a3) (kk : K (pc + 2) [a0, a1, a2, a3, some (.int x), a5, a6, a7, a8] st sz G) : K pc [a0, a1, a2, a3, a4, a5, a6, a7, a8] (.int x :: st) sz G := r_istore hK hd (Nat.le_of_ble_eq_true rfl) h1 kk
theorem st_i_5_6 (hK : Cl E own cc ret nL k mc sz0 ini G0 Q K) {a0 a1 a2 a3 a4 a5 : Option Value} {x : Int32} (hd : decode cc pc = .ok (.istore 5, 2)) (h1 : okc a4) (kk : K (pc + 2) [a0, a1, a2, a3, a4, some (.int x)] st sz G) : K pc [a0, a1, a2, a3, a4, a5] (.int x :: st) sz G := r_istore hK hd (Nat.le_of_ble_eq_true rfl) h1 kk
theorem st_i_5_7 (hK : Cl E own cc ret nL k mc sz0 ini G0 Q K) {a0 a1 a2 a3 a4 a5 a6 : Option Value} {x : Int32} (hd : decode cc pc = .ok (.istore 5, 2)) (h1 : okc a4) (kk : K (pc + 2) [a0, a1, a2, a3, a4, some (.int x), a6] st sz G) : K pc [a0, a1, a2, a3, a4, a5, a6] (.int x :: st) sz G := r_istore hK hd (Nat.le_of_ble_eq_true rfl) h1 kk
theorem st_i_5_8 (hK : Cl E own cc ret nL k mc sz0 ini G0 Q K) {a0 a1 a2 a3 a4 a5 a6 a7 : Option Value} {x : Int32} (hd : decode cc pc = .ok (.istore 5, 2)) (h1 : okc a4) (kk : K (pc + 2) [a0, a1, a2, a3, a4, some (.int x), a6, a7] st sz G) : K pc [a0, a1, a2, a3, a4, a5, a6, a7] (.int x :: st) sz G := r_istore hK hd (Nat.le_of_ble_eq_true rfl) h1 kk
theorem st_i_5_9 (hK : Cl E own cc ret nL k mc sz0 ini G0 Q K) {a0 a1 a2 a3 a4 a5 a6 a7 a8 : Option Value} {x : Int32} (hd : decode cc pc = .ok (.istore 5, 2)) (h1 : okc a4) (kk : K (pc + 2) [a0, a1, a2, a3, a4, some (.int x), a6, a7, a8] st sz G) : K pc [a0, a1, a2, a3, a4, a5, a6, a7, a8] (.int x :: st) sz G := r_istore hK hd (Nat.le_of_ble_eq_true rfl) h1 kk
theorem st_i_6_7 (hK : Cl E own cc ret nL k mc sz0 ini G0 Q K) {a0 a1 a2 a3 a4 a5 a6 : Option Value} {x : Int32} (hd : decode cc pc = .ok (.istore 6, 2)) (h1 : okc a5) (kk : K (pc + 2) [a0, a1, a2, a3, a4, a5, some (.int x)] st sz G) : K pc [a0, a1, a2, a3, a4, a5, a6] (.int x :: st) sz G := r_istore hK hd (Nat.le_of_ble_eq_true rfl) h1 kk
theorem st_i_6_8 (hK : Cl E own cc ret nL k mc sz0 ini G0 Q K) {a0 a1 a2 a3 a4 a5 a6 a7 : Option Value} {x : Int32} (hd : decode cc pc = .ok (.istore 6, 2)) (h1 : okc a5) (kk : K (pc + 2) [a0, a1, a2, a3, a4, a5, some (.int x), a7] st sz G) : K pc [a0, a1, a2, a3, a4, a5, a6, a7] (.int x :: st) sz G := r_istore hK hd (Nat.le_of_ble_eq_true rfl) h1 kk
theorem st_i_6_9 (hK : Cl E own cc ret nL k mc sz0 ini G0 Q K) {a0 a1 a2 a3 a4 a5 a6 a7 a8 : Option Value} {x : Int32} (hd : decode cc pc = .ok (.istore 6, 2)) (h1 : okc a5) (kk : K (pc + 2) [a0, a1, a2, a3, a4, a5, some (.int x), a7, a8] st sz G) : K pc [a0, a1, a2, a3, a4, a5, a6, a7, a8] (.int x :: st) sz G := r_istore hK hd (Nat.le_of_ble_eq_true rfl) h1 kk
theorem st_i_6_11 (hK : Cl E own cc ret nL k mc sz0 ini G0 Q K) {a0 a1 a2 a3 a4 a5 a6 a7 a8 a9 a10 : Option Value} {x : Int32} (hd : decode cc pc = .ok (.istore 6, 2)) (h1 : okc a5) (kk : K (pc + 2) [a0, a1, a2, a3, a4, a5, some (.int x), a7, a8, a9, a10] st sz G) : K pc [a0, a1, a2, a3, a4, a5, a6, a7, a8, a9, a10] (.int x :: st) sz G := r_istore hK hd (Nat.le_of_ble_eq_true rfl) h1 kk
theorem st_i_7_8 (hK : Cl E own cc ret nL k mc sz0 ini G0 Q K) {a0 a1 a2 a3 a4 a5 a6 a7 : Option Value} {x : Int32} (hd : decode cc pc = .ok (.istore 7, 2)) (h1 : okc a6) (kk : K (pc + 2) [a0, a1, a2, a3, a4, a5, a6, some (.int x)] st sz G) : K pc [a0, a1, a2, a3, a4, a5, a6, a7] (.int x :: st) sz G := r_istore hK hd (Nat.le_of_ble_eq_true rfl) h1 kk
theorem st_i_7_9 (hK : Cl E own cc ret nL k mc sz0 ini G0 Q K) {a0 a1 a2 a3 a4 a5 a6 a7 a8 : Option Value} {x : Int32} (hd : decode cc pc = .ok (.istore 7, 2)) (h1 : okc a6) (kk : K (pc + 2) [a0, a1, a2, a3, a4, a5, a6, some (.int x), a8] st sz G) : K pc [a0, a1, a2, a3, a4, a5, a6, a7, a8] (.int x :: st) sz G := r_istore hK hd (Nat.le_of_ble_eq_true rfl) h1 kk
theorem st_i_7_11 (hK : Cl E own cc ret nL k mc sz0 ini G0 Q K) {a0 a1 a2 a3 a4 a5 a6 a7 a8 a9 a10 : Option Value} {x : Int32} (hd : decode cc pc = .ok (.istore 7, 2)) (h1 : okc a6) (kk : K (pc + 2) [a0, a1, a2, a3, a4, a5, a6, some (.int x), a8, a9, a10] st sz G) : K pc [a0, a1, a2, a3, a4, a5, a6, a7, a8, a9, a10] (.int x :: st) sz G := r_istore hK hd (Nat.le_of_ble_eq_true rfl) h1 kk
theorem st_i_8_9 (hK : Cl E own cc ret nL k mc sz0 ini G0 Q K) {a0 a1 a2 a3 a4 a5 a6 a7 a8 : Option Value} {x : Int32} (hd : decode cc pc = .ok (.istore 8, 2)) (h1 : okc a7) (kk : K (pc + 2) [a0, a1, a2, a3, a4, a5, a6, a7, some (.int x)] st sz G) : K pc [a0, a1, a2, a3, a4, a5, a6, a7, a8] (.int x :: st) sz G := r_istore hK hd (Nat.le_of_ble_eq_true rfl) h1 kk
theorem st_i_8_11 (hK : Cl E own cc ret nL k mc sz0 ini G0 Q K) {a0 a1 a2 a3 a4 a5 a6 a7 a8 a9 a10 : Option Value} {x : Int32} (hd : decode cc pc = .ok (.istore 8, 2)) (h1 : okc a7) (kk : K (pc + 2) [a0, a1, a2, a3, a4, a5, a6, a7, some (.int x), a9, a10] st sz G) : K pc [a0, a1, a2, a3, a4, a5, a6, a7, a8, a9, a10] (.int x :: st) sz G := r_istore hK hd (Nat.le_of_ble_eq_true rfl) h1 kk
theorem st_i_9_11 (hK : Cl E own cc ret nL k mc sz0 ini G0 Q K) {a0 a1 a2 a3 a4 a5 a6 a7 a8 a9 a10 : Option Value} {x : Int32} (hd : decode cc pc = .ok (.istore 9, 2)) (h1 : okc a8) (kk : K (pc + 2) [a0, a1, a2, a3, a4, a5, a6, a7, a8, some (.int x), a10] st sz G) : K pc [a0, a1, a2, a3, a4, a5, a6, a7, a8, a9, a10] (.int x :: st) sz G := r_istore hK hd (Nat.le_of_ble_eq_true rfl) h1 kk
theorem st_i_10_11 (hK : Cl E own cc ret nL k mc sz0 ini G0 Q K) {a0 a1 a2 a3 a4 a5 a6 a7 a8 a9 a10 : Option Value} {x : Int32} (hd : decode cc pc = .ok (.istore 10, 2)) (h1 : okc a9) (kk : K (pc + 2) [a0, a1, a2, a3, a4, a5, a6, a7, a8, a9, some (.int x)] st sz G) : K pc [a0, a1, a2, a3, a4, a5, a6, a7, a8, a9, a10] (.int x :: st) sz G := r_istore hK hd (Nat.le_of_ble_eq_true rfl) h1 kk
theorem st_in_0_1 (hK : Cl E own cc ret nL k mc sz0 ini G0 Q K) {a0 : Option Value} {x : Int32} (hd : decode cc pc = .ok (.istore_n 0, 1))  (kk : K (pc + 1) [some (.int x)] st sz G) : K pc [a0] (.int x :: st) sz G := r_istore_n hK hd (Nat.le_of_ble_eq_true rfl) trivial kk
theorem st_in_1_2 (hK : Cl E own cc ret nL k mc sz0 ini G0 Q K) {a0 a1 : Option Value} {x : Int32} (hd : decode cc pc = .ok (.istore_n 1, 1)) (h1 : okc a0) (kk : K (pc + 1) [a0, some (.int x)] st sz G) : K pc [a0, a1] (.int x :: st) sz G := r_istore_n hK hd (Nat.le_of_ble_eq_true rfl) h1 kk
theorem st_in_1_3 (hK : Cl E own cc ret nL k mc sz0 ini G0 Q K) {a0 a1 a2 : Option Value} {x : Int32} (hd : decode cc pc = .ok (.istore_n 1, 1)) (h1 : okc a0) (kk : K (pc + 1) [a0, some (.int x), a2] st sz G) : K pc [a0, a1, a2] (.int x :: st) sz G := r_istore_n hK hd (Nat.le_of_ble_eq_true rfl) h1 kk
theorem st_in_1_4 (hK : Cl E own cc ret nL k mc sz0 ini G0 Q K) {a0 a1 a2 a3 : Option Value} {x : Int32} (hd : decode cc pc = .ok (.istore_n 1, 1)) (h1 : okc a0) (kk : K (pc + 1) [a0, some (.int x), a2, a3] st sz G) : K pc [a0, a1, a2, a3] (.int x :: st) sz G := r_istore_n hK hd (Nat.le_of_ble_eq_true rfl) h1 kk
theorem st_in_2_3 (hK : Cl E own cc ret nL k mc sz0 ini G0 Q K) {a0 a1 a2 : Option Value} {x : Int32} (hd : decode cc pc = .ok (.istore_n 2, 1)) (h1 : okc a1) (kk : K (pc + 1) [a0, a1, some (.int x)] st sz G) : K pc [a0, a1, a2] (.int x :: st) sz G := r_istore_n hK hd (Nat.le_of_ble_eq_true rfl) h1 kk
theorem st_in_2_4 (hK : Cl E own cc ret nL k mc sz0 ini G0 Q K) {a0 a1 a2 a3 : Option Value} {x : Int32} (hd : decode cc pc = .ok (.istore_n 2, 1)) (h1 : okc a1) (kk : K (pc + 1) [a0, a1, some (.int x), a3] st sz G) : K pc [a0, a1, a2, a3] (.int x :: st) sz G := r_istore_n hK hd (Nat.le_of_ble_eq_true rfl) h1 kk
theorem st_in_2_5 (hK : Cl E own cc ret nL k mc sz0 ini G0 Q K) {a0 a1 a2 a3 a4 : Option Value} {x : Int32} (hd : decode cc pc = .ok (.istore_n 2, 1)) (h1 : okc a1) (kk : K (pc + 1) [a0, a1, some (.int x), a3, a4] st sz G) : K pc [a0, a1, a2, a3, a4] (.int x :: st) sz G := r_istore_n hK hd (Nat.le_of_ble_eq_true rfl) h1 kk
theorem st_in_2_6 (hK : Cl E own cc ret nL k mc sz0 ini G0 Q K) {a0 a1 a2 a3 a4 a5 : Option Value} {x : Int32} (hd : decode cc pc = .ok (.istore_n 2, 1)) (h1 : okc a1) (kk : K (pc + 1) [a0, a1, some (.int x), a3, a4, a5] st sz G) : K pc [a0, a1, a2, a3, a4, a5] (.int x :: st) sz G := r_istore_n hK hd (Nat.le_of_ble_eq_true rfl) h1 kk
theorem st_in_3_4 (hK : Cl E own cc ret nL k mc sz0 ini G0 Q K) {a0 a1 a2 a3 : Option Value} {x : Int32} (hd : decode cc pc = .ok (.istore_n 3, 1)) (h1 : okc a2) (kk : K (pc + 1) [a0, a1, a2, some (.int x)] st sz G) : K pc [a0, a1, a2, a3] (.int x :: st) sz G := r_istore_n hK hd (Nat.le_of_ble_eq_true rfl) h1 kk
theorem st_in_3_5 (hK : Cl E own cc ret nL k mc sz0 ini G0 Q K) {a0 a1 a2 a3 a4 : Option Value} {x : Int32} (hd : decode cc pc = .ok (.istore_n 3, 1)) (h1 : okc a2) (kk : K (pc + 1) [a0, a1, a2, some (.int x), a4] st sz G) : K pc [a0, a1, a2, a3, a4] (.int x :: st) sz G := r_istore_n hK hd (Nat.le_of_ble_eq_true rfl) h1 kk
theorem st_in_3_6 (hK : Cl E own cc ret nL k mc sz0 ini G0 Q K) {a0 a1 a2 a3 a4 a5 : Option Value} {x : Int32} (hd : decode cc pc = .ok (.istore_n 3, 1)) (h1 : okc a2) (kk : K (pc + 1) [a0, a1, a2, some (.int x), a4, a5] st sz G) : K pc [a0, a1, a2, a3, a4, a5] (.int x :: st) sz G := r_istore_n hK hd (Nat.le_of_ble_eq_true rfl) h1 kk
theorem st_in_3_8 (hK : Cl E own cc ret nL k mc sz0 ini G0 Q K) {a0 a1 a2 a3 a4 a5 a6 a7 : Option Value} {x : Int32} (hd : decode cc pc = .ok (.istore_n 3, 1)) (h1 : okc a2) (kk : K (pc + 1) [a0, a1, a2, some (.int x), a4, a5, a6, a7] st sz G) : K pc [a0, a1, a2, a3, a4, a5, a6, a7] (.int x :: st) sz G := r_istore_n hK hd (Nat.le_of_ble_eq_true rfl) h1 kk
theorem st_l_4_9 (hK : Cl E own cc ret nL k mc sz0 ini G0 Q K) {a0 a1 a2 a3 a4 a5 a6 a7 a8 : Option Value} {x : Int64} (hd : decode cc pc = .ok (.lstore 4, 2)) (h1 : okc a3) (kk : K (pc + 2) [a0, a1, a2, a3, some (.long x), none, a6, a7, a8] st sz G) : K pc [a0, a1, a2, a3, a4, a5, a6, a7, a8] (.long x :: st) sz G := r_lstore hK hd (Nat.le_of_ble_eq_true rfl) h1 kk
theorem st_l_5_8 (hK : Cl E own cc ret nL k mc sz0 ini G0 Q K) {a0 a1 a2 a3 a4 a5 a6 a7 : Option Value} {x : Int64} (hd : decode cc pc = .ok (.lstore 5, 2)) (h1 : okc a4) (kk : K (pc + 2) [a0, a1, a2, a3, a4, some (.long x), none, a7] st sz G) : K pc [a0, a1, a2, a3, a4, a5, a6, a7] (.long x :: st) sz G := r_lstore hK hd (Nat.le_of_ble_eq_true rfl) h1 kk
theorem ii_1_1_2 (hK : Cl E own cc ret nL k mc sz0 ini G0 Q K) {a0 : Option Value} {x : Int32} (hd : decode cc pc = .ok (.iinc 1 (1), 3)) (h1 : okc a0) (kk : K (pc + 3) [a0, some (.int (x + (1)))] st sz G) : K pc [a0, some (.int x)] st sz G := r_iinc hK hd rfl rfl h1 kk
theorem iN_1_2 (hK : Cl E own cc ret nL k mc sz0 ini G0 Q K) {a0 : Option Value} {j : Nat} (hd : decode cc pc = .ok (.iinc 1 (1), 3)) (h1 : okc a0) (kk : K (pc + 3) [a0, some (.int (nI (j + 1)))] st sz G) : K pc [a0, some (.int (nI j))] st sz G := r_iinc hK hd rfl (nI_1 j) h1 kk
theorem ii_1_1_4 (hK : Cl E own cc ret nL k mc sz0 ini G0 Q K) {a0 a2 a3 : Option Value} {x : Int32} (hd : decode cc pc = .ok (.iinc 1 (1), 3)) (h1 : okc a0) (kk : K (pc + 3) [a0, some (.int (x + (1))), a2, a3] st sz G) : K pc [a0, some (.int x), a2, a3] st sz G := r_iinc hK hd rfl rfl h1 kk
theorem iN_1_4 (hK : Cl E own cc ret nL k mc sz0 ini G0 Q K) {a0 a2 a3 : Option Value} {j : Nat} (hd : decode cc pc = .ok (.iinc 1 (1), 3)) (h1 : okc a0) (kk : K (pc + 3) [a0, some (.int (nI (j + 1))), a2, a3] st sz G) : K pc [a0, some (.int (nI j)), a2, a3] st sz G := r_iinc hK hd rfl (nI_1 j) h1 kk
theorem ii_2_m1_6 (hK : Cl E own cc ret nL k mc sz0 ini G0 Q K) {a0 a1 a3 a4 a5 : Option Value} {x : Int32} (hd : decode cc pc = .ok (.iinc 2 (-1), 3)) (h1 : okc a1) (kk : K (pc + 3) [a0, a1, some (.int (x + (-1))), a3, a4, a5] st sz G) : K pc [a0, a1, some (.int x), a3, a4, a5] st sz G := r_iinc hK hd rfl rfl h1 kk
theorem ii_2_1_3 (hK : Cl E own cc ret nL k mc sz0 ini G0 Q K) {a0 a1 : Option Value} {x : Int32} (hd : decode cc pc = .ok (.iinc 2 (1), 3)) (h1 : okc a1) (kk : K (pc + 3) [a0, a1, some (.int (x + (1)))] st sz G) : K pc [a0, a1, some (.int x)] st sz G := r_iinc hK hd rfl rfl h1 kk
theorem iN_2_3 (hK : Cl E own cc ret nL k mc sz0 ini G0 Q K) {a0 a1 : Option Value} {j : Nat} (hd : decode cc pc = .ok (.iinc 2 (1), 3)) (h1 : okc a1) (kk : K (pc + 3) [a0, a1, some (.int (nI (j + 1)))] st sz G) : K pc [a0, a1, some (.int (nI j))] st sz G := r_iinc hK hd rfl (nI_1 j) h1 kk
theorem ii_2_1_4 (hK : Cl E own cc ret nL k mc sz0 ini G0 Q K) {a0 a1 a3 : Option Value} {x : Int32} (hd : decode cc pc = .ok (.iinc 2 (1), 3)) (h1 : okc a1) (kk : K (pc + 3) [a0, a1, some (.int (x + (1))), a3] st sz G) : K pc [a0, a1, some (.int x), a3] st sz G := r_iinc hK hd rfl rfl h1 kk
theorem iN_2_4 (hK : Cl E own cc ret nL k mc sz0 ini G0 Q K) {a0 a1 a3 : Option Value} {j : Nat} (hd : decode cc pc = .ok (.iinc 2 (1), 3)) (h1 : okc a1) (kk : K (pc + 3) [a0, a1, some (.int (nI (j + 1))), a3] st sz G) : K pc [a0, a1, some (.int (nI j)), a3] st sz G := r_iinc hK hd rfl (nI_1 j) h1 kk
theorem ii_3_m1_6 (hK : Cl E own cc ret nL k mc sz0 ini G0 Q K) {a0 a1 a2 a4 a5 : Option Value} {x : Int32} (hd : decode cc pc = .ok (.iinc 3 (-1), 3)) (h1 : okc a2) (kk : K (pc + 3) [a0, a1, a2, some (.int (x + (-1))), a4, a5] st sz G) : K pc [a0, a1, a2, some (.int x), a4, a5] st sz G := r_iinc hK hd rfl rfl h1 kk
theorem ii_3_1_4 (hK : Cl E own cc ret nL k mc sz0 ini G0 Q K) {a0 a1 a2 : Option Value} {x : Int32} (hd : decode cc pc = .ok (.iinc 3 (1), 3)) (h1 : okc a2) (kk : K (pc + 3) [a0, a1, a2, some (.int (x + (1)))] st sz G) : K pc [a0, a1, a2, some (.int x)] st sz G := r_iinc hK hd rfl rfl h1 kk
theorem iN_3_4 (hK : Cl E own cc ret nL k mc sz0 ini G0 Q K) {a0 a1 a2 : Option Value} {j : Nat} (hd : decode cc pc = .ok (.iinc 3 (1), 3)) (h1 : okc a2) (kk : K (pc + 3) [a0, a1, a2, some (.int (nI (j + 1)))] st sz G) : K pc [a0, a1, a2, some (.int (nI j))] st sz G := r_iinc hK hd rfl (nI_1 j) h1 kk
theorem ii_3_1_5 (hK : Cl E own cc ret nL k mc sz0 ini G0 Q K) {a0 a1 a2 a4 : Option Value} {x : Int32} (hd : decode cc pc = .ok (.iinc 3 (1), 3)) (h1 : okc a2) (kk : K (pc + 3) [a0, a1, a2, some (.int (x + (1))), a4] st sz G) : K pc [a0, a1, a2, some (.int x), a4] st sz G := r_iinc hK hd rfl rfl h1 kk
theorem iN_3_5 (hK : Cl E own cc ret nL k mc sz0 ini G0 Q K) {a0 a1 a2 a4 : Option Value} {j : Nat} (hd : decode cc pc = .ok (.iinc 3 (1), 3)) (h1 : okc a2) (kk : K (pc + 3) [a0, a1, a2, some (.int (nI (j + 1))), a4] st sz G) : K pc [a0, a1, a2, some (.int (nI j)), a4] st sz G := r_iinc hK hd rfl (nI_1 j) h1 kk
theorem ii_3_1_6 (hK : Cl E own cc ret nL k mc sz0 ini G0 Q K) {a0 a1 a2 a4 a5 : Option Value} {x : Int32} (hd : decode cc pc = .ok (.iinc 3 (1), 3)) (h1 : okc a2) (kk : K (pc + 3) [a0, a1, a2, some (.int (x + (1))), a4, a5] st sz G) : K pc [a0, a1, a2, some (.int x), a4, a5] st sz G := r_iinc hK hd rfl rfl h1 kk
theorem iN_3_6 (hK : Cl E own cc ret nL k mc sz0 ini G0 Q K) {a0 a1 a2 a4 a5 : Option Value} {j : Nat} (hd : decode cc pc = .ok (.iinc 3 (1), 3)) (h1 : okc a2) (kk : K (pc + 3) [a0, a1, a2, some (.int (nI (j + 1))), a4, a5] st sz G) : K pc [a0, a1, a2, some (.int (nI j)), a4, a5] st sz G := r_iinc hK hd rfl (nI_1 j) h1 kk
theorem ii_3_1_8 (hK : Cl E own cc ret nL k mc sz0 ini G0 Q K) {a0 a1 a2 a4 a5 a6 a7 : Option Value} {x : Int32} (hd : decode cc pc = .ok (.iinc 3 (1), 3)) (h1 : okc a2) (kk : K (pc + 3) [a0, a1, a2, some (.int (x + (1))), a4, a5, a6, a7] st sz G) : K pc [a0, a1, a2, some (.int x), a4, a5, a6, a7] st sz G := r_iinc hK hd rfl rfl h1 kk
theorem iN_3_8 (hK : Cl E own cc ret nL k mc sz0 ini G0 Q K) {a0 a1 a2 a4 a5 a6 a7 : Option Value} {j : Nat} (hd : decode cc pc = .ok (.iinc 3 (1), 3)) (h1 : okc a2) (kk : K (pc + 3) [a0, a1, a2, some (.int (nI (j + 1))), a4, a5, a6, a7] st sz G) : K pc [a0, a1, a2, some (.int (nI j)), a4, a5, a6, a7] st sz G := r_iinc hK hd rfl (nI_1 j) h1 kk
theorem ii_3_6_4 (hK : Cl E own cc ret nL k mc sz0 ini G0 Q K) {a0 a1 a2 : Option Value} {x : Int32} (hd : decode cc pc = .ok (.iinc 3 (6), 3)) (h1 : okc a2) (kk : K (pc + 3) [a0, a1, a2, some (.int (x + (6)))] st sz G) : K pc [a0, a1, a2, some (.int x)] st sz G := r_iinc hK hd rfl rfl h1 kk
theorem ii_4_m1_6 (hK : Cl E own cc ret nL k mc sz0 ini G0 Q K) {a0 a1 a2 a3 a5 : Option Value} {x : Int32} (hd : decode cc pc = .ok (.iinc 4 (-1), 3)) (h1 : okc a3) (kk : K (pc + 3) [a0, a1, a2, a3, some (.int (x + (-1))), a5] st sz G) : K pc [a0, a1, a2, a3, some (.int x), a5] st sz G := r_iinc hK hd rfl rfl h1 kk
theorem ii_4_1_5 (hK : Cl E own cc ret nL k mc sz0 ini G0 Q K) {a0 a1 a2 a3 : Option Value} {x : Int32} (hd : decode cc pc = .ok (.iinc 4 (1), 3)) (h1 : okc a3) (kk : K (pc + 3) [a0, a1, a2, a3, some (.int (x + (1)))] st sz G) : K pc [a0, a1, a2, a3, some (.int x)] st sz G := r_iinc hK hd rfl rfl h1 kk
theorem iN_4_5 (hK : Cl E own cc ret nL k mc sz0 ini G0 Q K) {a0 a1 a2 a3 : Option Value} {j : Nat} (hd : decode cc pc = .ok (.iinc 4 (1), 3)) (h1 : okc a3) (kk : K (pc + 3) [a0, a1, a2, a3, some (.int (nI (j + 1)))] st sz G) : K pc [a0, a1, a2, a3, some (.int (nI j))] st sz G := r_iinc hK hd rfl (nI_1 j) h1 kk
theorem ii_4_1_6 (hK : Cl E own cc ret nL k mc sz0 ini G0 Q K) {a0 a1 a2 a3 a5 : Option Value} {x : Int32} (hd : decode cc pc = .ok (.iinc 4 (1), 3)) (h1 : okc a3) (kk : K (pc + 3) [a0, a1, a2, a3, some (.int (x + (1))), a5] st sz G) : K pc [a0, a1, a2, a3, some (.int x), a5] st sz G := r_iinc hK hd rfl rfl h1 kk
theorem iN_4_6 (hK : Cl E own cc ret nL k mc sz0 ini G0 Q K) {a0 a1 a2 a3 a5 : Option Value} {j : Nat} (hd : decode cc pc = .ok (.iinc 4 (1), 3)) (h1 : okc a3) (kk : K (pc + 3) [a0, a1, a2, a3, some (.int (nI (j + 1))), a5] st sz G) : K pc [a0, a1, a2, a3, some (.int (nI j)), a5] st sz G := r_iinc hK hd rfl (nI_1 j) h1 kk
theorem ii_4_1_8 (hK : Cl E own cc ret nL k mc sz0 ini G0 Q K) {a0 a1 a2 a3 a5 a6 a7 : Option Value} {x : Int32} (hd : decode cc pc = .ok (.iinc 4 (1), 3)) (h1 : okc a3) (kk : K (pc + 3) [a0, a1, a2, a3, some (.int (x + (1))), a5, a6, a7] st sz G) : K pc [a0, a1, a2, a3, some (.int x), a5, a6, a7] st sz G := r_iinc hK hd rfl rfl h1 kk
theorem iN_4_8 (hK : Cl E own cc ret nL k mc sz0 ini G0 Q K) {a0 a1 a2 a3 a5 a6 a7 : Option Value} {j : Nat} (hd : decode cc pc = .ok (.iinc 4 (1), 3)) (h1 : okc a3) (kk : K (pc + 3) [a0, a1, a2, a3, some (.int (nI (j + 1))), a5, a6, a7] st sz G) : K pc [a0, a1, a2, a3, some (.int (nI j)), a5, a6, a7] st sz G := r_iinc hK hd rfl (nI_1 j) h1 kk
theorem ii_5_m1_6 (hK : Cl E own cc ret nL k mc sz0 ini G0 Q K) {a0 a1 a2 a3 a4 : Option Value} {x : Int32} (hd : decode cc pc = .ok (.iinc 5 (-1), 3)) (h1 : okc a4) (kk : K (pc + 3) [a0, a1, a2, a3, a4, some (.int (x + (-1)))] st sz G) : K pc [a0, a1, a2, a3, a4, some (.int x)] st sz G := r_iinc hK hd rfl rfl h1 kk
theorem ii_5_1_6 (hK : Cl E own cc ret nL k mc sz0 ini G0 Q K) {a0 a1 a2 a3 a4 : Option Value} {x : Int32} (hd : decode cc pc = .ok (.iinc 5 (1), 3)) (h1 : okc a4) (kk : K (pc + 3) [a0, a1, a2, a3, a4, some (.int (x + (1)))] st sz G) : K pc [a0, a1, a2, a3, a4, some (.int x)] st sz G := r_iinc hK hd rfl rfl h1 kk
theorem iN_5_6 (hK : Cl E own cc ret nL k mc sz0 ini G0 Q K) {a0 a1 a2 a3 a4 : Option Value} {j : Nat} (hd : decode cc pc = .ok (.iinc 5 (1), 3)) (h1 : okc a4) (kk : K (pc + 3) [a0, a1, a2, a3, a4, some (.int (nI (j + 1)))] st sz G) : K pc [a0, a1, a2, a3, a4, some (.int (nI j))] st sz G := r_iinc hK hd rfl (nI_1 j) h1 kk
theorem ii_5_1_7 (hK : Cl E own cc ret nL k mc sz0 ini G0 Q K) {a0 a1 a2 a3 a4 a6 : Option Value} {x : Int32} (hd : decode cc pc = .ok (.iinc 5 (1), 3)) (h1 : okc a4) (kk : K (pc + 3) [a0, a1, a2, a3, a4, some (.int (x + (1))), a6] st sz G) : K pc [a0, a1, a2, a3, a4, some (.int x), a6] st sz G := r_iinc hK hd rfl rfl h1 kk
theorem iN_5_7 (hK : Cl E own cc ret nL k mc sz0 ini G0 Q K) {a0 a1 a2 a3 a4 a6 : Option Value} {j : Nat} (hd : decode cc pc = .ok (.iinc 5 (1), 3)) (h1 : okc a4) (kk : K (pc + 3) [a0, a1, a2, a3, a4, some (.int (nI (j + 1))), a6] st sz G) : K pc [a0, a1, a2, a3, a4, some (.int (nI j)), a6] st sz G := r_iinc hK hd rfl (nI_1 j) h1 kk
theorem ii_6_1_7 (hK : Cl E own cc ret nL k mc sz0 ini G0 Q K) {a0 a1 a2 a3 a4 a5 : Option Value} {x : Int32} (hd : decode cc pc = .ok (.iinc 6 (1), 3)) (h1 : okc a5) (kk : K (pc + 3) [a0, a1, a2, a3, a4, a5, some (.int (x + (1)))] st sz G) : K pc [a0, a1, a2, a3, a4, a5, some (.int x)] st sz G := r_iinc hK hd rfl rfl h1 kk
theorem iN_6_7 (hK : Cl E own cc ret nL k mc sz0 ini G0 Q K) {a0 a1 a2 a3 a4 a5 : Option Value} {j : Nat} (hd : decode cc pc = .ok (.iinc 6 (1), 3)) (h1 : okc a5) (kk : K (pc + 3) [a0, a1, a2, a3, a4, a5, some (.int (nI (j + 1)))] st sz G) : K pc [a0, a1, a2, a3, a4, a5, some (.int (nI j))] st sz G := r_iinc hK hd rfl (nI_1 j) h1 kk
theorem ii_6_1_8 (hK : Cl E own cc ret nL k mc sz0 ini G0 Q K) {a0 a1 a2 a3 a4 a5 a7 : Option Value} {x : Int32} (hd : decode cc pc = .ok (.iinc 6 (1), 3)) (h1 : okc a5) (kk : K (pc + 3) [a0, a1, a2, a3, a4, a5, some (.int (x + (1))), a7] st sz G) : K pc [a0, a1, a2, a3, a4, a5, some (.int x), a7] st sz G := r_iinc hK hd rfl rfl h1 kk
theorem iN_6_8 (hK : Cl E own cc ret nL k mc sz0 ini G0 Q K) {a0 a1 a2 a3 a4 a5 a7 : Option Value} {j : Nat} (hd : decode cc pc = .ok (.iinc 6 (1), 3)) (h1 : okc a5) (kk : K (pc + 3) [a0, a1, a2, a3, a4, a5, some (.int (nI (j + 1))), a7] st sz G) : K pc [a0, a1, a2, a3, a4, a5, some (.int (nI j)), a7] st sz G := r_iinc hK hd rfl (nI_1 j) h1 kk
theorem ii_6_1_9 (hK : Cl E own cc ret nL k mc sz0 ini G0 Q K) {a0 a1 a2 a3 a4 a5 a7 a8 : Option Value} {x : Int32} (hd : decode cc pc = .ok (.iinc 6 (1), 3)) (h1 : okc a5) (kk : K (pc + 3) [a0, a1, a2, a3, a4, a5, some (.int (x + (1))), a7, a8] st sz G) : K pc [a0, a1, a2, a3, a4, a5, some (.int x), a7, a8] st sz G := r_iinc hK hd rfl rfl h1 kk
theorem iN_6_9 (hK : Cl E own cc ret nL k mc sz0 ini G0 Q K) {a0 a1 a2 a3 a4 a5 a7 a8 : Option Value} {j : Nat} (hd : decode cc pc = .ok (.iinc 6 (1), 3)) (h1 : okc a5) (kk : K (pc + 3) [a0, a1, a2, a3, a4, a5, some (.int (nI (j + 1))), a7, a8] st sz G) : K pc [a0, a1, a2, a3, a4, a5, some (.int (nI j)), a7, a8] st sz G := r_iinc hK hd rfl (nI_1 j) h1 kk
theorem ii_7_1_8 (hK : Cl E own cc ret nL k mc sz0 ini G0 Q K) {a0 a1 a2 a3 a4 a5 a6 : Option Value} {x : Int32} (hd : decode cc pc = .ok (.iinc 7 (1), 3)) (h1 : okc a6) (kk : K (pc + 3) [a0, a1, a2, a3, a4, a5, a6, some (.int (x + (1)))] st sz G) : K pc [a0, a1, a2, a3, a4, a5, a6, some (.int x)] st sz G := r_iinc hK hd rfl rfl h1 kk
theorem iN_7_8 (hK : Cl E own cc ret nL k mc sz0 ini G0 Q K) {a0 a1 a2 a3 a4 a5 a6 : Option Value} {j : Nat} (hd : decode cc pc = .ok (.iinc 7 (1), 3)) (h1 : okc a6) (kk : K (pc + 3) [a0, a1, a2, a3, a4, a5, a6, some (.int (nI (j + 1)))] st sz G) : K pc [a0, a1, a2, a3, a4, a5, a6, some (.int (nI j))] st sz G := r_iinc hK hd rfl (nI_1 j) h1 kk
theorem ii_7_1_9 (hK : Cl E own cc ret nL k mc sz0 ini G0 Q K) {a0 a1 a2 a3 a4 a5 a6 a8 : Option Value} {x : Int32} (hd : decode cc pc = .ok (.iinc 7 (1), 3)) (h1 : okc a6) (kk : K (pc + 3) [a0, a1, a2, a3, a4, a5, a6, some (.int (x + (1))), a8] st sz G) : K pc [a0, a1, a2, a3, a4, a5, a6, some (.int x), a8] st sz G := r_iinc hK hd rfl rfl h1 kk
theorem iN_7_9 (hK : Cl E own cc ret nL k mc sz0 ini G0 Q K) {a0 a1 a2 a3 a4 a5 a6 a8 : Option Value} {j : Nat} (hd : decode cc pc = .ok (.iinc 7 (1), 3)) (h1 : okc a6) (kk : K (pc + 3) [a0, a1, a2, a3, a4, a5, a6, some (.int (nI (j + 1))), a8] st sz G) : K pc [a0, a1, a2, a3, a4, a5, a6, some (.int (nI j)), a8] st sz G := r_iinc hK hd rfl (nI_1 j) h1 kk
theorem ii_8_1_9 (hK : Cl E own cc ret nL k mc sz0 ini G0 Q K) {a0 a1 a2 a3 a4 a5 a6 a7 : Option Value} {x : Int32} (hd : decode cc pc = .ok (.iinc 8 (1), 3)) (h1 : okc a7) (kk : K (pc + 3) [a0, a1, a2, a3, a4, a5, a6, a7, some (.int (x + (1)))] st sz G) : K pc [a0, a1, a2, a3, a4, a5, a6, a7, some (.int x)] st sz G := r_iinc hK hd rfl rfl h1 kk
theorem iN_8_9 (hK : Cl E own cc ret nL k mc sz0 ini G0 Q K) {a0 a1 a2 a3 a4 a5 a6 a7 : Option Value} {j : Nat} (hd : decode cc pc = .ok (.iinc 8 (1), 3)) (h1 : okc a7) (kk : K (pc + 3) [a0, a1, a2, a3, a4, a5, a6, a7, some (.int (nI (j + 1)))] st sz G) : K pc [a0, a1, a2, a3, a4, a5, a6, a7, some (.int (nI j))] st sz G := r_iinc hK hd rfl (nI_1 j) h1 kk
theorem ii_10_1_11 (hK : Cl E own cc ret nL k mc sz0 ini G0 Q K) {a0 a1 a2 a3 a4 a5 a6 a7 a8 a9 : Option Value} {x : Int32} (hd : decode cc pc = .ok (.iinc 10 (1), 3)) (h1 : okc a9) (kk : K (pc + 3) [a0, a1, a2, a3, a4, a5, a6, a7, a8, a9, some (.int (x + (1)))] st sz G) : K pc [a0, a1, a2, a3, a4, a5, a6, a7, a8, a9, some (.int x)] st sz G := r_iinc hK hd rfl rfl h1 kk
theorem iN_10_11 (hK : Cl E own cc ret nL k mc sz0 ini G0 Q K) {a0 a1 a2 a3 a4 a5 a6 a7 a8 a9 : Option Value} {j : Nat} (hd : decode cc pc = .ok (.iinc 10 (1), 3)) (h1 : okc a9) (kk : K (pc + 3) [a0, a1, a2, a3, a4, a5, a6, a7, a8, a9, some (.int (nI (j + 1)))] st sz G) : K pc [a0, a1, a2, a3, a4, a5, a6, a7, a8, a9, some (.int (nI j))] st sz G := r_iinc hK hd rfl (nI_1 j) h1 kk
variable {Ls : List (Option Value)}
def isO (G : gG) (b ci : Nat) : Prop := ∃ fs : List Value, G b = some (.inr (ci, fs))
def kc (K : Nat → List (Option Value) → List Value → Nat → gG → Prop) (pc : Nat) (Ls : List (Option Value)) (st : List Value) (sz : Nat) : Option Value → gG → Prop
  | some v, G => K pc Ls (v :: st) sz G
  | none, G => K pc Ls st sz G
theorem kc_s {v : Value} (h : K pc Ls (v :: st) sz G) : kc K pc Ls st sz (some v) G := h
theorem kc_n (h : K pc Ls st sz G) : kc K pc Ls st sz none G := h
theorem kc_eq : kc K pc Ls st sz = fun r G' => K pc Ls (r.toList ++ st) sz G' := by funext r G'; cases r <;> rfl
theorem r_v0 (hK : Cl E own cc ret nL k 0 sz0 ini G0 Q K) {idx ci b k' : Nat} {y : MethodName}  (hl : LkV own idx y 0 ci) (hd : decode cc pc = .ok (.invokevirtual idx, 3)) (hG : isO G b ci) (hk : k' + 1 ≤ k) (hrest : (st.map fun v => v.category).sum ≤ 8) (hrun : Runs E y k' 0 sz0 [.ref b] G (kc K (pc + 3) Ls st sz0)) : K pc Ls (.ref b :: st) sz0 G := by
  rw [kc_eq] at hrun
  exact hG.elim fun _ hG => r_inv (As := []) hK hl rfl hG hk (Nat.le_refl _) hrest hd hrun
theorem r_v1 (hK : Cl E own cc ret nL k 0 sz0 ini G0 Q K) {idx ci b k' : Nat} {y : MethodName} {a1 : Value} (hl : LkV own idx y 1 ci) (hd : decode cc pc = .ok (.invokevirtual idx, 3)) (hG : isO G b ci) (hk : k' + 1 ≤ k) (hrest : (st.map fun v => v.category).sum ≤ 8) (hrun : Runs E y k' 0 sz0 [.ref b, a1] G (kc K (pc + 3) Ls st sz0)) : K pc Ls (a1 :: .ref b :: st) sz0 G := by
  rw [kc_eq] at hrun
  exact hG.elim fun _ hG => r_inv (As := [a1]) hK hl rfl hG hk (Nat.le_refl _) hrest hd hrun
theorem r_v2 (hK : Cl E own cc ret nL k 0 sz0 ini G0 Q K) {idx ci b k' : Nat} {y : MethodName} {a1 a2 : Value} (hl : LkV own idx y 2 ci) (hd : decode cc pc = .ok (.invokevirtual idx, 3)) (hG : isO G b ci) (hk : k' + 1 ≤ k) (hrest : (st.map fun v => v.category).sum ≤ 8) (hrun : Runs E y k' 0 sz0 [.ref b, a1, a2] G (kc K (pc + 3) Ls st sz0)) : K pc Ls (a2 :: a1 :: .ref b :: st) sz0 G := by
  rw [kc_eq] at hrun
  exact hG.elim fun _ hG => r_inv (As := [a1, a2]) hK hl rfl hG hk (Nat.le_refl _) hrest hd hrun
theorem r_v3 (hK : Cl E own cc ret nL k 0 sz0 ini G0 Q K) {idx ci b k' : Nat} {y : MethodName} {a1 a2 a3 : Value} (hl : LkV own idx y 3 ci) (hd : decode cc pc = .ok (.invokevirtual idx, 3)) (hG : isO G b ci) (hk : k' + 1 ≤ k) (hrest : (st.map fun v => v.category).sum ≤ 8) (hrun : Runs E y k' 0 sz0 [.ref b, a1, a2, a3] G (kc K (pc + 3) Ls st sz0)) : K pc Ls (a3 :: a2 :: a1 :: .ref b :: st) sz0 G := by
  rw [kc_eq] at hrun
  exact hG.elim fun _ hG => r_inv (As := [a1, a2, a3]) hK hl rfl hG hk (Nat.le_refl _) hrest hd hrun
theorem r_v4 (hK : Cl E own cc ret nL k 0 sz0 ini G0 Q K) {idx ci b k' : Nat} {y : MethodName} {a1 a2 a3 a4 : Value} (hl : LkV own idx y 4 ci) (hd : decode cc pc = .ok (.invokevirtual idx, 3)) (hG : isO G b ci) (hk : k' + 1 ≤ k) (hrest : (st.map fun v => v.category).sum ≤ 8) (hrun : Runs E y k' 0 sz0 [.ref b, a1, a2, a3, a4] G (kc K (pc + 3) Ls st sz0)) : K pc Ls (a4 :: a3 :: a2 :: a1 :: .ref b :: st) sz0 G := by
  rw [kc_eq] at hrun
  exact hG.elim fun _ hG => r_inv (As := [a1, a2, a3, a4]) hK hl rfl hG hk (Nat.le_refl _) hrest hd hrun
theorem r_v5 (hK : Cl E own cc ret nL k 0 sz0 ini G0 Q K) {idx ci b k' : Nat} {y : MethodName} {a1 a2 a3 a4 a5 : Value} (hl : LkV own idx y 5 ci) (hd : decode cc pc = .ok (.invokevirtual idx, 3)) (hG : isO G b ci) (hk : k' + 1 ≤ k) (hrest : (st.map fun v => v.category).sum ≤ 8) (hrun : Runs E y k' 0 sz0 [.ref b, a1, a2, a3, a4, a5] G (kc K (pc + 3) Ls st sz0)) : K pc Ls (a5 :: a4 :: a3 :: a2 :: a1 :: .ref b :: st) sz0 G := by
  rw [kc_eq] at hrun
  exact hG.elim fun _ hG => r_inv (As := [a1, a2, a3, a4, a5]) hK hl rfl hG hk (Nat.le_refl _) hrest hd hrun
theorem r_v6 (hK : Cl E own cc ret nL k 0 sz0 ini G0 Q K) {idx ci b k' : Nat} {y : MethodName} {a1 a2 a3 a4 a5 a6 : Value} (hl : LkV own idx y 6 ci) (hd : decode cc pc = .ok (.invokevirtual idx, 3)) (hG : isO G b ci) (hk : k' + 1 ≤ k) (hrest : (st.map fun v => v.category).sum ≤ 8) (hrun : Runs E y k' 0 sz0 [.ref b, a1, a2, a3, a4, a5, a6] G (kc K (pc + 3) Ls st sz0)) : K pc Ls (a6 :: a5 :: a4 :: a3 :: a2 :: a1 :: .ref b :: st) sz0 G := by
  rw [kc_eq] at hrun
  exact hG.elim fun _ hG => r_inv (As := [a1, a2, a3, a4, a5, a6]) hK hl rfl hG hk (Nat.le_refl _) hrest hd hrun
theorem r_s0 (hK : Cl E own cc ret nL k 0 sz0 ini G0 Q K) {idx k' : Nat} {y : MethodName}  (hl : LkS own idx y 0) (hd : decode cc pc = .ok (.invokestatic idx, 3)) (hk : k' + 1 ≤ k) (hrest : (st.map fun v => v.category).sum ≤ 8) (hrun : Runs E y k' 0 sz0 [] G (kc K (pc + 3) Ls st sz0)) : K pc Ls (st) sz0 G := by
  rw [kc_eq] at hrun
  exact r_ist (As := []) hK hl rfl hk (Nat.le_refl _) hrest hd hrun
theorem r_s1 (hK : Cl E own cc ret nL k 0 sz0 ini G0 Q K) {idx k' : Nat} {y : MethodName} {a1 : Value} (hl : LkS own idx y 1) (hd : decode cc pc = .ok (.invokestatic idx, 3)) (hk : k' + 1 ≤ k) (hrest : (st.map fun v => v.category).sum ≤ 8) (hrun : Runs E y k' 0 sz0 [a1] G (kc K (pc + 3) Ls st sz0)) : K pc Ls (a1 :: st) sz0 G := by
  rw [kc_eq] at hrun
  exact r_ist (As := [a1]) hK hl rfl hk (Nat.le_refl _) hrest hd hrun
theorem r_s2 (hK : Cl E own cc ret nL k 0 sz0 ini G0 Q K) {idx k' : Nat} {y : MethodName} {a1 a2 : Value} (hl : LkS own idx y 2) (hd : decode cc pc = .ok (.invokestatic idx, 3)) (hk : k' + 1 ≤ k) (hrest : (st.map fun v => v.category).sum ≤ 8) (hrun : Runs E y k' 0 sz0 [a1, a2] G (kc K (pc + 3) Ls st sz0)) : K pc Ls (a2 :: a1 :: st) sz0 G := by
  rw [kc_eq] at hrun
  exact r_ist (As := [a1, a2]) hK hl rfl hk (Nat.le_refl _) hrest hd hrun
theorem r_s3 (hK : Cl E own cc ret nL k 0 sz0 ini G0 Q K) {idx k' : Nat} {y : MethodName} {a1 a2 a3 : Value} (hl : LkS own idx y 3) (hd : decode cc pc = .ok (.invokestatic idx, 3)) (hk : k' + 1 ≤ k) (hrest : (st.map fun v => v.category).sum ≤ 8) (hrun : Runs E y k' 0 sz0 [a1, a2, a3] G (kc K (pc + 3) Ls st sz0)) : K pc Ls (a3 :: a2 :: a1 :: st) sz0 G := by
  rw [kc_eq] at hrun
  exact r_ist (As := [a1, a2, a3]) hK hl rfl hk (Nat.le_refl _) hrest hd hrun
theorem r_s4 (hK : Cl E own cc ret nL k 0 sz0 ini G0 Q K) {idx k' : Nat} {y : MethodName} {a1 a2 a3 a4 : Value} (hl : LkS own idx y 4) (hd : decode cc pc = .ok (.invokestatic idx, 3)) (hk : k' + 1 ≤ k) (hrest : (st.map fun v => v.category).sum ≤ 8) (hrun : Runs E y k' 0 sz0 [a1, a2, a3, a4] G (kc K (pc + 3) Ls st sz0)) : K pc Ls (a4 :: a3 :: a2 :: a1 :: st) sz0 G := by
  rw [kc_eq] at hrun
  exact r_ist (As := [a1, a2, a3, a4]) hK hl rfl hk (Nat.le_refl _) hrest hd hrun
theorem r_s5 (hK : Cl E own cc ret nL k 0 sz0 ini G0 Q K) {idx k' : Nat} {y : MethodName} {a1 a2 a3 a4 a5 : Value} (hl : LkS own idx y 5) (hd : decode cc pc = .ok (.invokestatic idx, 3)) (hk : k' + 1 ≤ k) (hrest : (st.map fun v => v.category).sum ≤ 8) (hrun : Runs E y k' 0 sz0 [a1, a2, a3, a4, a5] G (kc K (pc + 3) Ls st sz0)) : K pc Ls (a5 :: a4 :: a3 :: a2 :: a1 :: st) sz0 G := by
  rw [kc_eq] at hrun
  exact r_ist (As := [a1, a2, a3, a4, a5]) hK hl rfl hk (Nat.le_refl _) hrest hd hrun
theorem r_s6 (hK : Cl E own cc ret nL k 0 sz0 ini G0 Q K) {idx k' : Nat} {y : MethodName} {a1 a2 a3 a4 a5 a6 : Value} (hl : LkS own idx y 6) (hd : decode cc pc = .ok (.invokestatic idx, 3)) (hk : k' + 1 ≤ k) (hrest : (st.map fun v => v.category).sum ≤ 8) (hrun : Runs E y k' 0 sz0 [a1, a2, a3, a4, a5, a6] G (kc K (pc + 3) Ls st sz0)) : K pc Ls (a6 :: a5 :: a4 :: a3 :: a2 :: a1 :: st) sz0 G := by
  rw [kc_eq] at hrun
  exact r_ist (As := [a1, a2, a3, a4, a5, a6]) hK hl rfl hk (Nat.le_refl _) hrest hd hrun
end GH
def bI : Bool → Int32
  | true => 1
  | false => 0
theorem bI_0 {b : Bool} : bI b = 0 ↔ b = false := by cases b <;> decide
theorem bI_n0 {b : Bool} : ¬ bI b = 0 ↔ b = true := by cases b <;> decide
theorem bI_1 {b : Bool} : bI b = 1 ↔ b = true := by cases b <;> decide
theorem bI_nar (b : Bool) : narrow .boolean (.int (bI b)) = .int (bI b) := by cases b <;> rfl
theorem bI_fit (b : Bool) : fits .boolean (.int (bI b)) = true := by cases b <;> rfl
theorem rc {Q : Option Value → gG → Prop} {G : gG} {x y : Int32} (h : Q (some (.int x)) G) (e : x = y) : Q (some (.int y)) G := e ▸ h
theorem lpN {P : Nat → Prop} (N : Nat) (h : ∀ j, j ≤ N → (j < N → P (j + 1)) → P j) : ∀ j, j ≤ N → P j := by
  intro j hj
  obtain ⟨d, hd⟩ : ∃ d, d + j = N := ⟨N - j, by omega⟩
  induction d generalizing j with
  | zero => exact h j hj (fun q => absurd q (by omega))
  | succ d ih => exact h j hj (fun q => ih (j + 1) q (by omega))
def Frm (G G' : gG) (a n : Nat) : Prop := ∀ q, (q < a ∨ a + n ≤ q) → G' q = G q
theorem Frm.rf {G : gG} {a n : Nat} : Frm G G a n := fun _ _ => rfl
theorem Frm.tr {G G1 G2 : gG} {a n : Nat} (h : Frm G G1 a n) (h2 : Frm G1 G2 a n) : Frm G G2 a n := fun q hq => (h2 q hq).trans (h q hq)
theorem Frm.mono {G G' : gG} {a n b m : Nat} (h : Frm G G' a n) (h1 : b ≤ a) (h2 : a + n ≤ b + m) : Frm G G' b m := fun q hq => h q (by omega)
theorem Frm.up {G : gG} {a q n : Nat} {e : gE} (h1 : a ≤ q) (h2 : q < a + n) : Frm G (gup G q e) a n := fun z hz => gup_n (by omega)
def nN (x : Int32) : Nat := x.toNatClampNeg
theorem lt_nN {j : Nat} {n : Int32} (hj : j < 2 ^ 31) : nI j < n ↔ j < nN n := by
  rw [Int32.lt_iff_toInt_lt, nI_toInt hj]
  show _ ↔ j < n.toInt.toNat
  omega
theorem nN_lt (n : Int32) : nN n < 2 ^ 31 := by
  show n.toInt.toNat < 2 ^ 31
  have := n.toInt_lt
  omega
theorem ge_nN {j : Nat} {n : Int32} (hj : j < 2 ^ 31) : n ≤ nI j ↔ nN n ≤ j := by
  rw [Int32.le_iff_toInt_le, nI_toInt hj]
  show _ ↔ n.toInt.toNat ≤ j
  omega
theorem nN_nI {j : Nat} (hj : j < 2 ^ 31) : nN (nI j) = j := nI_clamp hj
end
section
-- views of the class's small objects
def letL (v : Nat → Int32) (i : Nat) : List Value := [.int (v (6 + i)), .int (v (12 + i)), .int (v (18 + i)), .int (v (24 + i)), .int (v (30 + i))]
def LX (G : gG) (a : Nat) (l : List Value) : Prop := G a = some (.inr (0, l))
def RX (G : gG) (r : Nat) (ms lane size : Int32) (f : Nat → Int32) : Prop := G r = some (.inr (1, [.ref (r + 1), .int ms, .int lane, .int size])) ∧ G (r + 1) = some (.inl (0, 40, .inl f))
def TX (G : gG) (a : Nat) (f : Nat → Int32) (n : Int32) : Prop := G a = some (.inr (2, [.ref (a + 1), .int n])) ∧ G (a + 1) = some (.inl (0, 16, .inl f))
def HX (G : gG) (h : Nat) (s : Int32) (v : Nat → Int32) : Prop := G h = some (.inr (3, [.ref (h + 1), .int s, .int (v 0), .int (v 1), .int (v 3), .int (v 2), .int (v 4), .int (v 5)])) ∧ G (h + 1) = some (.inl (4, 6, .inr (.inr (.inr (.inr (fun i => some (h + 2 + i))))))) ∧ ∀ i, i < 6 → LX G (h + 2 + i) (letL v i)
def PX (G : gG) (a : Nat) (f : Nat → Int32) (n lf pl nb : Int32) : Prop := G a = some (.inr (6, [.ref (a + 1), .int n, .int lf, .int pl, .int nb])) ∧ G (a + 1) = some (.inl (0, 100, .inl f))
theorem RX.frm {G G' : gG} {r a n : Nat} {ms lane size : Int32} {f : Nat → Int32} (h : RX G r ms lane size f) (hF : Frm G G' a n) (hd : r + 2 ≤ a ∨ a + n ≤ r) : RX G' r ms lane size f := ⟨(hF _ (by omega)).trans h.1, (hF _ (by omega)).trans h.2⟩
theorem TX.frm {G G' : gG} {r a n : Nat} {m : Int32} {f : Nat → Int32} (h : TX G r f m) (hF : Frm G G' a n) (hd : r + 2 ≤ a ∨ a + n ≤ r) : TX G' r f m := ⟨(hF _ (by omega)).trans h.1, (hF _ (by omega)).trans h.2⟩
theorem PX.frm {G G' : gG} {r a n : Nat} {m lf pl nb : Int32} {f : Nat → Int32} (h : PX G r f m lf pl nb) (hF : Frm G G' a n) (hd : r + 2 ≤ a ∨ a + n ≤ r) : PX G' r f m lf pl nb := ⟨(hF _ (by omega)).trans h.1, (hF _ (by omega)).trans h.2⟩
theorem LX.frm {G G' : gG} {r a n : Nat} {l : List Value} (h : LX G r l) (hF : Frm G G' a n) (hd : r < a ∨ a + n ≤ r) : LX G' r l := (hF _ (by omega)).trans h
theorem HX.frm {G G' : gG} {h a n : Nat} {s : Int32} {v : Nat → Int32} (hH : HX G h s v) (hF : Frm G G' a n) (hd : h + 8 ≤ a ∨ a + n ≤ h) : HX G' h s v := ⟨(hF _ (by omega)).trans hH.1, (hF _ (by omega)).trans hH.2.1, fun i hi => (hH.2.2 i hi).frm hF (by omega)⟩
theorem HX.cast {G : gG} {h : Nat} {s : Int32} {v w : Nat → Int32} (hH : HX G h s v) (e : ∀ k, k < 36 → v k = w k) : HX G h s w := by
  refine ⟨?_, hH.2.1, fun i hi => ?_⟩
  · rw [← e 0 (by omega), ← e 1 (by omega), ← e 2 (by omega), ← e 3 (by omega), ← e 4 (by omega), ← e 5 (by omega)]
    exact hH.1
  · have := hH.2.2 i hi
    unfold letL at this ⊢
    rw [← e (6 + i) (by omega), ← e (12 + i) (by omega), ← e (18 + i) (by omega), ← e (24 + i) (by omega), ← e (30 + i) (by omega)]
    exact this
theorem upd_s {f : Nat → Int32} {k : Nat} {x : Int32} : upd f k x k = x := by simp [upd]
theorem upd_n {f : Nat → Int32} {k j : Nat} {x : Int32} (h : j ≠ k) : upd f k x j = f j := by simp [upd, h]
theorem HX.setL {G : gG} {h j : Nat} {s : Int32} {v w : Nat → Int32} (hH : HX G h s v) (hj : j < 6) (hw : ∀ k, k < 36 → (k ≠ 6 + j ∧ k ≠ 12 + j ∧ k ≠ 18 + j ∧ k ≠ 24 + j ∧ k ≠ 30 + j) → w k = v k) : HX (gup G (h + 2 + j) (.inr (0, letL w j))) h s w := by
  refine ⟨?_, (gup_n (by omega)).trans hH.2.1, fun i hi => ?_⟩
  · rw [gup_n (by omega), hw 0 (by omega) (by omega), hw 1 (by omega) (by omega), hw 2 (by omega) (by omega), hw 3 (by omega) (by omega), hw 4 (by omega) (by omega), hw 5 (by omega) (by omega)]
    exact hH.1
  · unfold LX
    by_cases e : i = j
    · subst e; exact gup_s
    · rw [gup_n (by omega)]
      have := hH.2.2 i hi
      unfold letL at this ⊢
      rw [hw (6 + i) (by omega) (by omega), hw (12 + i) (by omega) (by omega), hw (18 + i) (by omega) (by omega), hw (24 + i) (by omega) (by omega), hw (30 + i) (by omega) (by omega)]
      exact this
section PU
variable {E : gX} {own : String} {cc : ByteArray} {ret : Option FieldType} {nL k mc sz0 : Nat} {ini : Bool} {G0 : gG} {Q : Option Value → gG → Prop} {K : Nat → List (Option Value) → List Value → Nat → gG → Prop}
variable {pc sz idx : Nat} {st : List Value} {G : gG} {Ls : List (Option Value)}
theorem p_R_missing (hK : Cl E own cc ret nL k mc sz0 ini G0 Q K) {r : Nat} {ms lane size : Int32} {f : Nat → Int32} {x : Int32} (hl : LkF own idx 1 1 (.boolean) false) (hd : decode cc pc = .ok (.putfield idx, 3)) (hV : RX G r ms lane size f) (hn : narrow .boolean (.int x) = .int x) (hf : fits .boolean (.int x) = true) (kk : ∀ G' : gG, RX G' r x lane size f → Frm G G' r 2 → K (pc + 3) Ls st sz G') : K pc Ls (.int x :: .ref r :: st) sz G :=
  r_put hK hl hd hV.1 hn hf (Nat.le_of_ble_eq_true rfl) (kk _ ⟨gup_s, (gup_n (by omega)).trans hV.2⟩ (Frm.up (by omega) (by omega)))
theorem p_R_lane (hK : Cl E own cc ret nL k mc sz0 ini G0 Q K) {r : Nat} {ms lane size : Int32} {f : Nat → Int32} {x : Int32} (hl : LkF own idx 1 2 (.int) false) (hd : decode cc pc = .ok (.putfield idx, 3)) (hV : RX G r ms lane size f) (kk : ∀ G' : gG, RX G' r ms x size f → Frm G G' r 2 → K (pc + 3) Ls st sz G') : K pc Ls (.int x :: .ref r :: st) sz G :=
  r_put hK hl hd hV.1 rfl rfl (Nat.le_of_ble_eq_true rfl) (kk _ ⟨gup_s, (gup_n (by omega)).trans hV.2⟩ (Frm.up (by omega) (by omega)))
theorem p_R_size (hK : Cl E own cc ret nL k mc sz0 ini G0 Q K) {r : Nat} {ms lane size : Int32} {f : Nat → Int32} {x : Int32} (hl : LkF own idx 1 3 (.int) false) (hd : decode cc pc = .ok (.putfield idx, 3)) (hV : RX G r ms lane size f) (kk : ∀ G' : gG, RX G' r ms lane x f → Frm G G' r 2 → K (pc + 3) Ls st sz G') : K pc Ls (.int x :: .ref r :: st) sz G :=
  r_put hK hl hd hV.1 rfl rfl (Nat.le_of_ble_eq_true rfl) (kk _ ⟨gup_s, (gup_n (by omega)).trans hV.2⟩ (Frm.up (by omega) (by omega)))
theorem p_T_length (hK : Cl E own cc ret nL k mc sz0 ini G0 Q K) {r : Nat} {m : Int32} {f : Nat → Int32} {x : Int32} (hl : LkF own idx 2 1 (.int) false) (hd : decode cc pc = .ok (.putfield idx, 3)) (hV : TX G r f m) (kk : ∀ G' : gG, TX G' r f x → Frm G G' r 2 → K (pc + 3) Ls st sz G') : K pc Ls (.int x :: .ref r :: st) sz G :=
  r_put hK hl hd hV.1 rfl rfl (Nat.le_of_ble_eq_true rfl) (kk _ ⟨gup_s, (gup_n (by omega)).trans hV.2⟩ (Frm.up (by omega) (by omega)))
theorem p_P_length (hK : Cl E own cc ret nL k mc sz0 ini G0 Q K) {r : Nat} {n lf pl nb : Int32} {f : Nat → Int32} {x : Int32} (hl : LkF own idx 6 1 (.int) false) (hd : decode cc pc = .ok (.putfield idx, 3)) (hV : PX G r f n lf pl nb) (kk : ∀ G' : gG, PX G' r f x lf pl nb → Frm G G' r 2 → K (pc + 3) Ls st sz G') : K pc Ls (.int x :: .ref r :: st) sz G :=
  r_put hK hl hd hV.1 rfl rfl (Nat.le_of_ble_eq_true rfl) (kk _ ⟨gup_s, (gup_n (by omega)).trans hV.2⟩ (Frm.up (by omega) (by omega)))
theorem p_P_latestFault (hK : Cl E own cc ret nL k mc sz0 ini G0 Q K) {r : Nat} {n lf pl nb : Int32} {f : Nat → Int32} {x : Int32} (hl : LkF own idx 6 2 (.int) false) (hd : decode cc pc = .ok (.putfield idx, 3)) (hV : PX G r f n lf pl nb) (kk : ∀ G' : gG, PX G' r f n x pl nb → Frm G G' r 2 → K (pc + 3) Ls st sz G') : K pc Ls (.int x :: .ref r :: st) sz G :=
  r_put hK hl hd hV.1 rfl rfl (Nat.le_of_ble_eq_true rfl) (kk _ ⟨gup_s, (gup_n (by omega)).trans hV.2⟩ (Frm.up (by omega) (by omega)))
theorem p_P_place (hK : Cl E own cc ret nL k mc sz0 ini G0 Q K) {r : Nat} {n lf pl nb : Int32} {f : Nat → Int32} {x : Int32} (hl : LkF own idx 6 3 (.int) false) (hd : decode cc pc = .ok (.putfield idx, 3)) (hV : PX G r f n lf pl nb) (kk : ∀ G' : gG, PX G' r f n lf x nb → Frm G G' r 2 → K (pc + 3) Ls st sz G') : K pc Ls (.int x :: .ref r :: st) sz G :=
  r_put hK hl hd hV.1 rfl rfl (Nat.le_of_ble_eq_true rfl) (kk _ ⟨gup_s, (gup_n (by omega)).trans hV.2⟩ (Frm.up (by omega) (by omega)))
theorem p_P_number (hK : Cl E own cc ret nL k mc sz0 ini G0 Q K) {r : Nat} {n lf pl nb : Int32} {f : Nat → Int32} {x : Int32} (hl : LkF own idx 6 4 (.int) false) (hd : decode cc pc = .ok (.putfield idx, 3)) (hV : PX G r f n lf pl nb) (kk : ∀ G' : gG, PX G' r f n lf pl x → Frm G G' r 2 → K (pc + 3) Ls st sz G') : K pc Ls (.int x :: .ref r :: st) sz G :=
  r_put hK hl hd hV.1 rfl rfl (Nat.le_of_ble_eq_true rfl) (kk _ ⟨gup_s, (gup_n (by omega)).trans hV.2⟩ (Frm.up (by omega) (by omega)))
theorem p_H_stands (hK : Cl E own cc ret nL k mc sz0 ini G0 Q K) {h : Nat} {s : Int32} {v : Nat → Int32} {x : Int32} (hl : LkF own idx 3 1 (.boolean) false) (hd : decode cc pc = .ok (.putfield idx, 3)) (hV : HX G h s v) (hn : narrow .boolean (.int x) = .int x) (hf : fits .boolean (.int x) = true) (kk : ∀ G' : gG, HX G' h x v → Frm G G' h 8 → K (pc + 3) Ls st sz G') : K pc Ls (.int x :: .ref h :: st) sz G :=
  r_put hK hl hd hV.1 hn hf (Nat.le_of_ble_eq_true rfl) (kk _ ⟨gup_s, (gup_n (by omega)).trans hV.2.1, fun i hi => (gup_n (by omega)).trans (hV.2.2 i hi)⟩ (Frm.up (by omega) (by omega)))
theorem p_H_letterCount (hK : Cl E own cc ret nL k mc sz0 ini G0 Q K) {h : Nat} {s : Int32} {v : Nat → Int32} {x : Int32} (hl : LkF own idx 3 2 (.int) false) (hd : decode cc pc = .ok (.putfield idx, 3)) (hV : HX G h s v) (kk : ∀ G' : gG, HX G' h s (upd v 0 x) → Frm G G' h 8 → K (pc + 3) Ls st sz G') : K pc Ls (.int x :: .ref h :: st) sz G :=
  r_put hK hl hd hV.1 rfl rfl (Nat.le_of_ble_eq_true rfl) (kk _ ⟨gup_s, (gup_n (by omega)).trans hV.2.1, fun i hi => (gup_n (by omega)).trans ((hV.2.2 i hi).trans (by unfold letL; rw [upd_n (by omega), upd_n (by omega), upd_n (by omega), upd_n (by omega), upd_n (by omega)]))⟩ (Frm.up (by omega) (by omega)))
theorem p_H_gap (hK : Cl E own cc ret nL k mc sz0 ini G0 Q K) {h : Nat} {s : Int32} {v : Nat → Int32} {x : Int32} (hl : LkF own idx 3 3 (.int) false) (hd : decode cc pc = .ok (.putfield idx, 3)) (hV : HX G h s v) (kk : ∀ G' : gG, HX G' h s (upd v 1 x) → Frm G G' h 8 → K (pc + 3) Ls st sz G') : K pc Ls (.int x :: .ref h :: st) sz G :=
  r_put hK hl hd hV.1 rfl rfl (Nat.le_of_ble_eq_true rfl) (kk _ ⟨gup_s, (gup_n (by omega)).trans hV.2.1, fun i hi => (gup_n (by omega)).trans ((hV.2.2 i hi).trans (by unfold letL; rw [upd_n (by omega), upd_n (by omega), upd_n (by omega), upd_n (by omega), upd_n (by omega)]))⟩ (Frm.up (by omega) (by omega)))
theorem p_H_behindBits (hK : Cl E own cc ret nL k mc sz0 ini G0 Q K) {h : Nat} {s : Int32} {v : Nat → Int32} {x : Int32} (hl : LkF own idx 3 4 (.int) false) (hd : decode cc pc = .ok (.putfield idx, 3)) (hV : HX G h s v) (kk : ∀ G' : gG, HX G' h s (upd v 3 x) → Frm G G' h 8 → K (pc + 3) Ls st sz G') : K pc Ls (.int x :: .ref h :: st) sz G :=
  r_put hK hl hd hV.1 rfl rfl (Nat.le_of_ble_eq_true rfl) (kk _ ⟨gup_s, (gup_n (by omega)).trans hV.2.1, fun i hi => (gup_n (by omega)).trans ((hV.2.2 i hi).trans (by unfold letL; rw [upd_n (by omega), upd_n (by omega), upd_n (by omega), upd_n (by omega), upd_n (by omega)]))⟩ (Frm.up (by omega) (by omega)))
theorem p_H_day (hK : Cl E own cc ret nL k mc sz0 ini G0 Q K) {h : Nat} {s : Int32} {v : Nat → Int32} {x : Int32} (hl : LkF own idx 3 5 (.int) false) (hd : decode cc pc = .ok (.putfield idx, 3)) (hV : HX G h s v) (kk : ∀ G' : gG, HX G' h s (upd v 2 x) → Frm G G' h 8 → K (pc + 3) Ls st sz G') : K pc Ls (.int x :: .ref h :: st) sz G :=
  r_put hK hl hd hV.1 rfl rfl (Nat.le_of_ble_eq_true rfl) (kk _ ⟨gup_s, (gup_n (by omega)).trans hV.2.1, fun i hi => (gup_n (by omega)).trans ((hV.2.2 i hi).trans (by unfold letL; rw [upd_n (by omega), upd_n (by omega), upd_n (by omega), upd_n (by omega), upd_n (by omega)]))⟩ (Frm.up (by omega) (by omega)))
theorem p_H_sum (hK : Cl E own cc ret nL k mc sz0 ini G0 Q K) {h : Nat} {s : Int32} {v : Nat → Int32} {x : Int32} (hl : LkF own idx 3 6 (.int) false) (hd : decode cc pc = .ok (.putfield idx, 3)) (hV : HX G h s v) (kk : ∀ G' : gG, HX G' h s (upd v 4 x) → Frm G G' h 8 → K (pc + 3) Ls st sz G') : K pc Ls (.int x :: .ref h :: st) sz G :=
  r_put hK hl hd hV.1 rfl rfl (Nat.le_of_ble_eq_true rfl) (kk _ ⟨gup_s, (gup_n (by omega)).trans hV.2.1, fun i hi => (gup_n (by omega)).trans ((hV.2.2 i hi).trans (by unfold letL; rw [upd_n (by omega), upd_n (by omega), upd_n (by omega), upd_n (by omega), upd_n (by omega)]))⟩ (Frm.up (by omega) (by omega)))
theorem p_H_sorrow (hK : Cl E own cc ret nL k mc sz0 ini G0 Q K) {h : Nat} {s : Int32} {v : Nat → Int32} {x : Int32} (hl : LkF own idx 3 7 (.int) false) (hd : decode cc pc = .ok (.putfield idx, 3)) (hV : HX G h s v) (kk : ∀ G' : gG, HX G' h s (upd v 5 x) → Frm G G' h 8 → K (pc + 3) Ls st sz G') : K pc Ls (.int x :: .ref h :: st) sz G :=
  r_put hK hl hd hV.1 rfl rfl (Nat.le_of_ble_eq_true rfl) (kk _ ⟨gup_s, (gup_n (by omega)).trans hV.2.1, fun i hi => (gup_n (by omega)).trans ((hV.2.2 i hi).trans (by unfold letL; rw [upd_n (by omega), upd_n (by omega), upd_n (by omega), upd_n (by omega), upd_n (by omega)]))⟩ (Frm.up (by omega) (by omega)))
theorem ph_L_kind (hK : Cl E own cc ret nL k mc sz0 ini G0 Q K) {h j : Nat} {s : Int32} {v : Nat → Int32} {x : Int32} (hl : LkF own idx 0 0 .int false) (hd : decode cc pc = .ok (.putfield idx, 3)) (hV : HX G h s v) (hj : j < 6) (kk : ∀ G' : gG, HX G' h s (upd v (6 + j) x) → Frm G G' h 8 → K (pc + 3) Ls st sz G') : K pc Ls (.int x :: .ref (h + 2 + j) :: st) sz G := by
  refine r_put hK hl hd (hV.2.2 j hj) rfl rfl (by simp [letL]) ?_
  have e : (letL v j).set 0 (.int x) = letL (upd v (6 + j) x) j := by
    unfold letL
    rw [upd_s, upd_n (by omega), upd_n (by omega), upd_n (by omega), upd_n (by omega)]
    rfl
  rw [e]
  exact kk _ (hV.setL hj (fun k _ h => upd_n (by omega))) (Frm.up (by omega) (by omega))
theorem p_L_kind (hK : Cl E own cc ret nL k mc sz0 ini G0 Q K) {a : Nat} {a0 a1 a2 a3 a4 : Value} {x : Int32} (hl : LkF own idx 0 0 .int false) (hd : decode cc pc = .ok (.putfield idx, 3)) (hV : LX G a [a0, a1, a2, a3, a4]) (kk : ∀ G' : gG, LX G' a [.int x, a1, a2, a3, a4] → Frm G G' a 1 → K (pc + 3) Ls st sz G') : K pc Ls (.int x :: .ref a :: st) sz G :=
  r_put hK hl hd hV rfl rfl (Nat.le_of_ble_eq_true rfl) (kk _ gup_s (Frm.up (by omega) (by omega)))
theorem ph_L_fear (hK : Cl E own cc ret nL k mc sz0 ini G0 Q K) {h j : Nat} {s : Int32} {v : Nat → Int32} {x : Int32} (hl : LkF own idx 0 1 .int false) (hd : decode cc pc = .ok (.putfield idx, 3)) (hV : HX G h s v) (hj : j < 6) (kk : ∀ G' : gG, HX G' h s (upd v (12 + j) x) → Frm G G' h 8 → K (pc + 3) Ls st sz G') : K pc Ls (.int x :: .ref (h + 2 + j) :: st) sz G := by
  refine r_put hK hl hd (hV.2.2 j hj) rfl rfl (by simp [letL]) ?_
  have e : (letL v j).set 1 (.int x) = letL (upd v (12 + j) x) j := by
    unfold letL
    rw [upd_n (by omega), upd_s, upd_n (by omega), upd_n (by omega), upd_n (by omega)]
    rfl
  rw [e]
  exact kk _ (hV.setL hj (fun k _ h => upd_n (by omega))) (Frm.up (by omega) (by omega))
theorem p_L_fear (hK : Cl E own cc ret nL k mc sz0 ini G0 Q K) {a : Nat} {a0 a1 a2 a3 a4 : Value} {x : Int32} (hl : LkF own idx 0 1 .int false) (hd : decode cc pc = .ok (.putfield idx, 3)) (hV : LX G a [a0, a1, a2, a3, a4]) (kk : ∀ G' : gG, LX G' a [a0, .int x, a2, a3, a4] → Frm G G' a 1 → K (pc + 3) Ls st sz G') : K pc Ls (.int x :: .ref a :: st) sz G :=
  r_put hK hl hd hV rfl rfl (Nat.le_of_ble_eq_true rfl) (kk _ gup_s (Frm.up (by omega) (by omega)))
theorem ph_L_thick (hK : Cl E own cc ret nL k mc sz0 ini G0 Q K) {h j : Nat} {s : Int32} {v : Nat → Int32} {x : Int32} (hl : LkF own idx 0 2 .int false) (hd : decode cc pc = .ok (.putfield idx, 3)) (hV : HX G h s v) (hj : j < 6) (kk : ∀ G' : gG, HX G' h s (upd v (18 + j) x) → Frm G G' h 8 → K (pc + 3) Ls st sz G') : K pc Ls (.int x :: .ref (h + 2 + j) :: st) sz G := by
  refine r_put hK hl hd (hV.2.2 j hj) rfl rfl (by simp [letL]) ?_
  have e : (letL v j).set 2 (.int x) = letL (upd v (18 + j) x) j := by
    unfold letL
    rw [upd_n (by omega), upd_n (by omega), upd_s, upd_n (by omega), upd_n (by omega)]
    rfl
  rw [e]
  exact kk _ (hV.setL hj (fun k _ h => upd_n (by omega))) (Frm.up (by omega) (by omega))
theorem p_L_thick (hK : Cl E own cc ret nL k mc sz0 ini G0 Q K) {a : Nat} {a0 a1 a2 a3 a4 : Value} {x : Int32} (hl : LkF own idx 0 2 .int false) (hd : decode cc pc = .ok (.putfield idx, 3)) (hV : LX G a [a0, a1, a2, a3, a4]) (kk : ∀ G' : gG, LX G' a [a0, a1, .int x, a3, a4] → Frm G G' a 1 → K (pc + 3) Ls st sz G') : K pc Ls (.int x :: .ref a :: st) sz G :=
  r_put hK hl hd hV rfl rfl (Nat.le_of_ble_eq_true rfl) (kk _ gup_s (Frm.up (by omega) (by omega)))
theorem ph_L_holds (hK : Cl E own cc ret nL k mc sz0 ini G0 Q K) {h j : Nat} {s : Int32} {v : Nat → Int32} {x : Int32} (hl : LkF own idx 0 3 .int false) (hd : decode cc pc = .ok (.putfield idx, 3)) (hV : HX G h s v) (hj : j < 6) (kk : ∀ G' : gG, HX G' h s (upd v (24 + j) x) → Frm G G' h 8 → K (pc + 3) Ls st sz G') : K pc Ls (.int x :: .ref (h + 2 + j) :: st) sz G := by
  refine r_put hK hl hd (hV.2.2 j hj) rfl rfl (by simp [letL]) ?_
  have e : (letL v j).set 3 (.int x) = letL (upd v (24 + j) x) j := by
    unfold letL
    rw [upd_n (by omega), upd_n (by omega), upd_n (by omega), upd_s, upd_n (by omega)]
    rfl
  rw [e]
  exact kk _ (hV.setL hj (fun k _ h => upd_n (by omega))) (Frm.up (by omega) (by omega))
theorem p_L_holds (hK : Cl E own cc ret nL k mc sz0 ini G0 Q K) {a : Nat} {a0 a1 a2 a3 a4 : Value} {x : Int32} (hl : LkF own idx 0 3 .int false) (hd : decode cc pc = .ok (.putfield idx, 3)) (hV : LX G a [a0, a1, a2, a3, a4]) (kk : ∀ G' : gG, LX G' a [a0, a1, a2, .int x, a4] → Frm G G' a 1 → K (pc + 3) Ls st sz G') : K pc Ls (.int x :: .ref a :: st) sz G :=
  r_put hK hl hd hV rfl rfl (Nat.le_of_ble_eq_true rfl) (kk _ gup_s (Frm.up (by omega) (by omega)))
theorem ph_L_age (hK : Cl E own cc ret nL k mc sz0 ini G0 Q K) {h j : Nat} {s : Int32} {v : Nat → Int32} {x : Int32} (hl : LkF own idx 0 4 .int false) (hd : decode cc pc = .ok (.putfield idx, 3)) (hV : HX G h s v) (hj : j < 6) (kk : ∀ G' : gG, HX G' h s (upd v (30 + j) x) → Frm G G' h 8 → K (pc + 3) Ls st sz G') : K pc Ls (.int x :: .ref (h + 2 + j) :: st) sz G := by
  refine r_put hK hl hd (hV.2.2 j hj) rfl rfl (by simp [letL]) ?_
  have e : (letL v j).set 4 (.int x) = letL (upd v (30 + j) x) j := by
    unfold letL
    rw [upd_n (by omega), upd_n (by omega), upd_n (by omega), upd_n (by omega), upd_s]
    rfl
  rw [e]
  exact kk _ (hV.setL hj (fun k _ h => upd_n (by omega))) (Frm.up (by omega) (by omega))
theorem p_L_age (hK : Cl E own cc ret nL k mc sz0 ini G0 Q K) {a : Nat} {a0 a1 a2 a3 a4 : Value} {x : Int32} (hl : LkF own idx 0 4 .int false) (hd : decode cc pc = .ok (.putfield idx, 3)) (hV : LX G a [a0, a1, a2, a3, a4]) (kk : ∀ G' : gG, LX G' a [a0, a1, a2, a3, .int x] → Frm G G' a 1 → K (pc + 3) Ls st sz G') : K pc Ls (.int x :: .ref a :: st) sz G :=
  r_put hK hl hd hV rfl rfl (Nat.le_of_ble_eq_true rfl) (kk _ gup_s (Frm.up (by omega) (by omega)))
theorem g_let (hK : Cl E own cc ret nL k mc sz0 ini G0 Q K) {h j : Nat} {s : Int32} {v : Nat → Int32} (hd : decode cc pc = .ok (.aaload, 1)) (hH : HX G h s v) (hj : j < 6) (kk : K (pc + 1) Ls (.ref (h + 2 + j) :: st) sz G) : K pc Ls (.int (nI j) :: .ref (h + 1) :: st) sz G := by
  refine r_aald hK hd hH.2.1 (vp_in_nI hj (by omega)) (by omega) ?_
  show K (pc + 1) Ls (.ref (h + 2 + (nI j).toNatClampNeg) :: st) sz G
  rw [nI_clamp (by omega)]
  exact kk
end PU
end
section
-- what houses weigh, in words of their own: v 0 LETTERS, 1 GAP, 2 DAY, 3 BEHIND, 4 SUM, 5 SORROW, 6.. KIND, 12.. FEAR, 18.. THICK, 24.. HOLDS, 30.. AGE
def inB (x a b : Int32) : Bool := decide (a ≤ x) && decide (x ≤ b)
def hasL (v : Nat → Int32) (i : Int32) : Bool := decide (0 ≤ i) && decide (i < v 0)
def bitB (x i : Int32) : Bool := decide ((x >>> (i &&& 31)) &&& 1 = 1)
def behB (v : Nat → Int32) (i : Int32) : Bool := hasL v i && bitB (v 3) i
def bitc (x : Int32) : Int32 :=
  let a := x - ((x.toUInt32 >>> ((1 : Int32).toUInt32 &&& Int32.toUInt32 31)).toInt32 &&& 1431655765)
  let b := (a &&& 858993459) + ((a.toUInt32 >>> ((2 : Int32).toUInt32 &&& Int32.toUInt32 31)).toInt32 &&& 858993459)
  let c := (b + (b.toUInt32 >>> ((4 : Int32).toUInt32 &&& Int32.toUInt32 31)).toInt32) &&& 252645135
  let d := c + (c.toUInt32 >>> ((8 : Int32).toUInt32 &&& Int32.toUInt32 31)).toInt32
  let e := d + (d.toUInt32 >>> ((16 : Int32).toUInt32 &&& Int32.toUInt32 31)).toInt32
  e &&& 63
def wgh (k f a o : Int32) : Int32 := if k = 2 then 2 * (f + a) else if k = 3 then (if a < 9 then f + a else 0) else if k = 4 then f else if k = 5 then f + o else f + a
def wOf (v : Nat → Int32) (j : Nat) : Int32 := if behB v (nI j) then wgh (v (6 + j)) (v (12 + j)) (v (30 + j)) (bitc (v 3) - 1) else 0
def wSum (v : Nat → Int32) : Nat → Int32
  | 0 => 0
  | j + 1 => wSum v j + wOf v j
def wght (v : Nat → Int32) : Int32 := wSum v (nN (v 0))
def tSum (v : Nat → Int32) : Nat → Int32
  | 0 => 0
  | j + 1 => tSum v j + (if behB v (nI j) then v (18 + j) else 0)
def thck (v : Nat → Int32) : Int32 := tSum v (nN (v 0))
def fAh (v : Nat → Int32) (j k : Nat) : Bool := decide (v (18 + k) < v (18 + j)) || (decide (v (18 + j) = v (18 + k)) && decide (v (30 + k) < v (30 + j)))
def mn9 (x : Int32) : Int32 := if x < 9999 then x else 9999
def awayV (v : Nat → Int32) (i g : Int32) : Nat → Int32 := upd (upd v 3 (v 3 &&& ((1 <<< (i &&& 31)) ^^^ (-1)))) 5 (mn9 (v 5 + g))
theorem nz_ge {x : Int32} : ¬ x < 0 ↔ 0 ≤ x := Int32.not_lt
theorem toI {x : Int32} {c : Int32} (h : x.toInt = c.toInt) : x = c := Int32.toInt_inj.mp h
-- an index below a number of letters that is at most 6
theorem has_ix {n i : Int32} (h0 : 0 ≤ i) (h1 : i < n) (h6 : nN n ≤ 6) : ∃ j : Nat, j < nN n ∧ j < 6 ∧ i = nI j := by
  obtain ⟨j, hj, rfl⟩ := nI_of (Int32.not_lt.mpr h0)
  have := (lt_nN hj).mp h1
  exact ⟨j, this, by omega, rfl⟩
theorem bI_t {b : Bool} (h : b = true) : bI b = 1 := bI_1.mpr h
theorem bI_f {b : Bool} (h : ¬ b = true) : bI b = 0 := by cases b; rfl; exact absurd rfl h
theorem i_lt {a b : Int32} : a < b ↔ a.toInt < b.toInt := Int32.lt_iff_toInt_lt
theorem i_le {a b : Int32} : a ≤ b ↔ a.toInt ≤ b.toInt := Int32.le_iff_toInt_le
theorem i_eq {a b : Int32} : a = b ↔ a.toInt = b.toInt := Int32.toInt_inj.symm
theorem ti_0 : (0 : Int32).toInt = 0 := by decide
theorem ti_1 : (1 : Int32).toInt = 1 := by decide
theorem ti_2 : (2 : Int32).toInt = 2 := by decide
theorem ti_3 : (3 : Int32).toInt = 3 := by decide
theorem ti_4 : (4 : Int32).toInt = 4 := by decide
theorem ti_5 : (5 : Int32).toInt = 5 := by decide
theorem ti_6 : (6 : Int32).toInt = 6 := by decide
theorem ti_7 : (7 : Int32).toInt = 7 := by decide
theorem ti_8 : (8 : Int32).toInt = 8 := by decide
theorem ti_9 : (9 : Int32).toInt = 9 := by decide
theorem ti_10 : (10 : Int32).toInt = 10 := by decide
theorem ti_11 : (11 : Int32).toInt = 11 := by decide
theorem ti_12 : (12 : Int32).toInt = 12 := by decide
theorem ti_13 : (13 : Int32).toInt = 13 := by decide
theorem ti_14 : (14 : Int32).toInt = 14 := by decide
theorem ti_16 : (16 : Int32).toInt = 16 := by decide
theorem ti_20 : (20 : Int32).toInt = 20 := by decide
theorem ti_21 : (21 : Int32).toInt = 21 := by decide
theorem ti_22 : (22 : Int32).toInt = 22 := by decide
theorem ti_23 : (23 : Int32).toInt = 23 := by decide
theorem ti_24 : (24 : Int32).toInt = 24 := by decide
theorem ti_30 : (30 : Int32).toInt = 30 := by decide
theorem ti_31 : (31 : Int32).toInt = 31 := by decide
theorem ti_36 : (36 : Int32).toInt = 36 := by decide
theorem ti_40 : (40 : Int32).toInt = 40 := by decide
theorem ti_44 : (44 : Int32).toInt = 44 := by decide
theorem ti_48 : (48 : Int32).toInt = 48 := by decide
theorem ti_57 : (57 : Int32).toInt = 57 := by decide
theorem ti_59 : (59 : Int32).toInt = 59 := by decide
theorem ti_60 : (60 : Int32).toInt = 60 := by decide
theorem ti_61 : (61 : Int32).toInt = 61 := by decide
theorem ti_63 : (63 : Int32).toInt = 63 := by decide
theorem ti_64 : (64 : Int32).toInt = 64 := by decide
theorem ti_98 : (98 : Int32).toInt = 98 := by decide
theorem ti_99 : (99 : Int32).toInt = 99 := by decide
theorem ti_100 : (100 : Int32).toInt = 100 := by decide
theorem ti_101 : (101 : Int32).toInt = 101 := by decide
theorem ti_110 : (110 : Int32).toInt = 110 := by decide
theorem ti_115 : (115 : Int32).toInt = 115 := by decide
theorem ti_128 : (128 : Int32).toInt = 128 := by decide
theorem ti_255 : (255 : Int32).toInt = 255 := by decide
theorem ti_300 : (300 : Int32).toInt = 300 := by decide
theorem ti_900 : (900 : Int32).toInt = 900 := by decide
theorem ti_972 : (972 : Int32).toInt = 972 := by decide
theorem ti_999 : (999 : Int32).toInt = 999 := by decide
theorem ti_1000 : (1000 : Int32).toInt = 1000 := by decide
theorem ti_9999 : (9999 : Int32).toInt = 9999 := by decide
theorem ti_m1 : (-1 : Int32).toInt = -1 := by decide
theorem ti_m1000000 : (-1000000 : Int32).toInt = -1000000 := by decide
theorem ti_m1000001 : (-1000001 : Int32).toInt = -1000001 := by decide
theorem ti_m1000002 : (-1000002 : Int32).toInt = -1000002 := by decide
theorem ti_m1000003 : (-1000003 : Int32).toInt = -1000003 := by decide
end
section
def hasP (size i n : Int32) : Bool := decide (0 ≤ i) && decide (0 ≤ n) && decide (n ≤ size - i)
def fillV (f : Nat → Int32) (x : Int32) (j : Nat) : Nat → Int32 := fun i => if i < j then x else f i
theorem fillV_0 {f : Nat → Int32} {x : Int32} : fillV f x 0 = f := by funext i; simp [fillV]
theorem fillV_s {f : Nat → Int32} {x : Int32} {j : Nat} : upd (fillV f x j) j x = fillV f x (j + 1) := by
  funext i
  by_cases h : i = j
  · subst h; simp [upd, fillV]
  · by_cases h2 : i < j
    · simp [upd, fillV, h, h2, Nat.lt_succ_of_lt h2]
    · simp [upd, fillV, h, h2, show ¬ i < j + 1 by omega]
def cutV (lane v : Int32) : Int32 := if lane = 0 then v.toInt8.toInt32 else if lane = 1 then v.toInt16.toInt32 else v
theorem sub_toI {a b : Int32} (h : -2147483648 ≤ a.toInt - b.toInt ∧ a.toInt - b.toInt < 2147483648) : (a - b).toInt = a.toInt - b.toInt := by
  rw [Int32.toInt_sub, Int.bmod_eq_of_le (by omega) (by omega)]
theorem hasP_iff {z : Nat} {i n : Int32} (hs : z ≤ 40) : hasP (nI z) i n = true ↔ 0 ≤ i.toInt ∧ 0 ≤ n.toInt ∧ i.toInt + n.toInt ≤ z := by
  have hz : (nI z).toInt = z := nI_toInt (by omega)
  simp only [hasP, Bool.and_eq_true, decide_eq_true_eq, i_le, ti_0]
  have h1 := i.toInt_lt
  constructor
  · rintro ⟨⟨h1, h2⟩, h3⟩
    rw [sub_toI (by omega), hz] at h3
    omega
  · rintro ⟨h1, h2, h3⟩
    rw [sub_toI (by omega), hz]
    omega
theorem hasP_in {z : Nat} {i : Int32} (hs : z ≤ 40) (h : hasP (nI z) i 1 = true) : 0 ≤ i.toInt ∧ i.toInt < (40 : Nat) := by
  have := (hasP_iff hs).mp h
  rw [ti_1] at this
  omega
theorem c_X_isWithin {E : gX} {S : Nat} {G : gG} {Q : Option Value → gG → Prop} {x a b : Int32} (hQ : Q (some (.int (bI (inB x a b)))) G) : Runs E y_X_isWithin 1 0 S [.int x, .int a, .int b] G Q := by
  refine Runs.of "ClockPost" [some (.int x), some (.int a), some (.int b)] cw_X_isWithin (by decide) (by decide +kernel) rfl (Nat.le_of_ble_eq_true rfl) rfl (fun K hK => ?_)
  refine r_iload_n hK d_X_isWithin_0 rfl ?_
  refine r_iload_n hK d_X_isWithin_1 rfl ?_
  refine r_icmp_lt (tgt := 14) hK d_X_isWithin_2 rfl (fun h2 => ?_) (fun h2 => ?_)
  · skip
    refine r_iconst hK d_X_isWithin_14 kc_0 ?_
    refine r_zret hK rfl (rfl) rfl d_X_isWithin_15 ?_
    first | exact rc hQ (bI_t (by clear hK hQ; simp only [inB, Bool.and_eq_true, Bool.or_eq_true, Bool.not_eq_true', decide_eq_true_eq, decide_eq_false_iff_not, i_lt, i_le, i_eq, ti_0, ti_1, ti_2, ti_3, ti_4, ti_5, ti_6, ti_7, ti_8, ti_9, ti_10, ti_11, ti_12, ti_13, ti_14, ti_16, ti_20, ti_21, ti_22, ti_23, ti_24, ti_30, ti_31, ti_36, ti_40, ti_44, ti_48, ti_57, ti_59, ti_60, ti_61, ti_63, ti_64, ti_98, ti_99, ti_100, ti_101, ti_110, ti_115, ti_128, ti_255, ti_300, ti_900, ti_972, ti_999, ti_1000, ti_9999, ti_m1] at *; omega)) | exact rc hQ (bI_f (by intro hq; clear hK hQ; simp only [inB, Bool.and_eq_true, Bool.or_eq_true, Bool.not_eq_true', decide_eq_true_eq, decide_eq_false_iff_not, i_lt, i_le, i_eq, ti_0, ti_1, ti_2, ti_3, ti_4, ti_5, ti_6, ti_7, ti_8, ti_9, ti_10, ti_11, ti_12, ti_13, ti_14, ti_16, ti_20, ti_21, ti_22, ti_23, ti_24, ti_30, ti_31, ti_36, ti_40, ti_44, ti_48, ti_57, ti_59, ti_60, ti_61, ti_63, ti_64, ti_98, ti_99, ti_100, ti_101, ti_110, ti_115, ti_128, ti_255, ti_300, ti_900, ti_972, ti_999, ti_1000, ti_9999, ti_m1] at *; omega))
  · skip
    refine r_iload_n hK d_X_isWithin_5 rfl ?_
    refine r_iload_n hK d_X_isWithin_6 rfl ?_
    refine r_icmp_gt (tgt := 14) hK d_X_isWithin_7 rfl (fun h7 => ?_) (fun h7 => ?_)
    · skip
      refine r_iconst hK d_X_isWithin_14 kc_0 ?_
      refine r_zret hK rfl (rfl) rfl d_X_isWithin_15 ?_
      first | exact rc hQ (bI_t (by clear hK hQ; simp only [inB, Bool.and_eq_true, Bool.or_eq_true, Bool.not_eq_true', decide_eq_true_eq, decide_eq_false_iff_not, i_lt, i_le, i_eq, ti_0, ti_1, ti_2, ti_3, ti_4, ti_5, ti_6, ti_7, ti_8, ti_9, ti_10, ti_11, ti_12, ti_13, ti_14, ti_16, ti_20, ti_21, ti_22, ti_23, ti_24, ti_30, ti_31, ti_36, ti_40, ti_44, ti_48, ti_57, ti_59, ti_60, ti_61, ti_63, ti_64, ti_98, ti_99, ti_100, ti_101, ti_110, ti_115, ti_128, ti_255, ti_300, ti_900, ti_972, ti_999, ti_1000, ti_9999, ti_m1] at *; omega)) | exact rc hQ (bI_f (by intro hq; clear hK hQ; simp only [inB, Bool.and_eq_true, Bool.or_eq_true, Bool.not_eq_true', decide_eq_true_eq, decide_eq_false_iff_not, i_lt, i_le, i_eq, ti_0, ti_1, ti_2, ti_3, ti_4, ti_5, ti_6, ti_7, ti_8, ti_9, ti_10, ti_11, ti_12, ti_13, ti_14, ti_16, ti_20, ti_21, ti_22, ti_23, ti_24, ti_30, ti_31, ti_36, ti_40, ti_44, ti_48, ti_57, ti_59, ti_60, ti_61, ti_63, ti_64, ti_98, ti_99, ti_100, ti_101, ti_110, ti_115, ti_128, ti_255, ti_300, ti_900, ti_972, ti_999, ti_1000, ti_9999, ti_m1] at *; omega))
    · skip
      refine r_iconst hK d_X_isWithin_10 kc_1 ?_
      refine r_goto (tgt := 15) hK d_X_isWithin_11 rfl ?_
      refine r_zret hK rfl (rfl) rfl d_X_isWithin_15 ?_
      first | exact rc hQ (bI_t (by clear hK hQ; simp only [inB, Bool.and_eq_true, Bool.or_eq_true, Bool.not_eq_true', decide_eq_true_eq, decide_eq_false_iff_not, i_lt, i_le, i_eq, ti_0, ti_1, ti_2, ti_3, ti_4, ti_5, ti_6, ti_7, ti_8, ti_9, ti_10, ti_11, ti_12, ti_13, ti_14, ti_16, ti_20, ti_21, ti_22, ti_23, ti_24, ti_30, ti_31, ti_36, ti_40, ti_44, ti_48, ti_57, ti_59, ti_60, ti_61, ti_63, ti_64, ti_98, ti_99, ti_100, ti_101, ti_110, ti_115, ti_128, ti_255, ti_300, ti_900, ti_972, ti_999, ti_1000, ti_9999, ti_m1] at *; omega)) | exact rc hQ (bI_f (by intro hq; clear hK hQ; simp only [inB, Bool.and_eq_true, Bool.or_eq_true, Bool.not_eq_true', decide_eq_true_eq, decide_eq_false_iff_not, i_lt, i_le, i_eq, ti_0, ti_1, ti_2, ti_3, ti_4, ti_5, ti_6, ti_7, ti_8, ti_9, ti_10, ti_11, ti_12, ti_13, ti_14, ti_16, ti_20, ti_21, ti_22, ti_23, ti_24, ti_30, ti_31, ti_36, ti_40, ti_44, ti_48, ti_57, ti_59, ti_60, ti_61, ti_63, ti_64, ti_98, ti_99, ti_100, ti_101, ti_110, ti_115, ti_128, ti_255, ti_300, ti_900, ti_972, ti_999, ti_1000, ti_9999, ti_m1] at *; omega))
theorem c_X_isRow {E : gX} {S : Nat} {G : gG} {Q : Option Value → gG → Prop} {x : Int32} (hQ : Q (some (.int (bI (inB x 0 7)))) G) : Runs E y_X_isRow 2 0 S [.int x] G Q := by
  refine Runs.of "ClockPost" [some (.int x)] cw_X_isRow (by decide) (by decide +kernel) rfl (Nat.le_of_ble_eq_true rfl) rfl (fun K hK => ?_)
  refine r_iload_n hK d_X_isRow_0 rfl ?_
  refine r_iconst hK d_X_isRow_1 kc_0 ?_
  refine r_bipush hK d_X_isRow_2 kb_7 ?_
  refine r_s3 (k' := 1) hK lm_X_62 d_X_isRow_4 (by decide) (Nat.le_of_ble_eq_true rfl) ?_
  refine c_X_isWithin (kc_s ?_)
  refine r_zret hK rfl (bI_nar _) rfl d_X_isRow_7 ?_
  exact hQ
theorem c_L_become {E : gX} {S : Nat} {G : gG} {Q : Option Value → gG → Prop} {a b : Nat} {a0 a1 a2 a3 a4 : Value} {x0 x1 x2 x3 x4 : Int32} (hL : LX G a [a0, a1, a2, a3, a4]) (hL2 : LX G b [.int x0, .int x1, .int x2, .int x3, .int x4]) (hd : a ≠ b) (hQ : ∀ G' : gG, LX G' a [.int x0, .int x1, .int x2, .int x3, .int x4] → Frm G G' a 1 → Q none G') : Runs E y_L_become 1 0 S [.ref a, .ref b] G Q := by
  refine Runs.of "ClockPost$Letter" [some (.ref a), some (.ref b)] cw_L_become (by decide) (by decide +kernel) rfl (Nat.le_of_ble_eq_true rfl) rfl (fun K hK => ?_)
  have hF : Frm G G a 1 := Frm.rf
  refine r_aload_n hK d_L_become_0 rfl ?_
  refine r_aload_n hK d_L_become_1 rfl ?_
  refine r_get hK lf_L_9 d_L_become_2 (hL2) rfl ?_
  refine p_L_kind hK lf_L_9 d_L_become_5 hL (fun G5 hL f5 => ?_)
  have hF := hF.tr f5
  have hL2 := hL2.frm f5 (by omega)
  refine r_aload_n hK d_L_become_8 rfl ?_
  refine r_aload_n hK d_L_become_9 rfl ?_
  refine r_get hK lf_L_15 d_L_become_10 (hL2) rfl ?_
  refine p_L_fear hK lf_L_15 d_L_become_13 hL (fun G13 hL f13 => ?_)
  have hF := hF.tr f13
  have hL2 := hL2.frm f13 (by omega)
  refine r_aload_n hK d_L_become_16 rfl ?_
  refine r_aload_n hK d_L_become_17 rfl ?_
  refine r_get hK lf_L_18 d_L_become_18 (hL2) rfl ?_
  refine p_L_thick hK lf_L_18 d_L_become_21 hL (fun G21 hL f21 => ?_)
  have hF := hF.tr f21
  have hL2 := hL2.frm f21 (by omega)
  refine r_aload_n hK d_L_become_24 rfl ?_
  refine r_aload_n hK d_L_become_25 rfl ?_
  refine r_get hK lf_L_21 d_L_become_26 (hL2) rfl ?_
  refine p_L_holds hK lf_L_21 d_L_become_29 hL (fun G29 hL f29 => ?_)
  have hF := hF.tr f29
  have hL2 := hL2.frm f29 (by omega)
  refine r_aload_n hK d_L_become_32 rfl ?_
  refine r_aload_n hK d_L_become_33 rfl ?_
  refine r_get hK lf_L_24 d_L_become_34 (hL2) rfl ?_
  refine p_L_age hK lf_L_24 d_L_become_37 hL (fun G37 hL f37 => ?_)
  have hF := hF.tr f37
  have hL2 := hL2.frm f37 (by omega)
  refine r_vret hK rfl rfl d_L_become_40 ?_
  exact hQ _ hL hF
theorem c_L_change {E : gX} {S : Nat} {G : gG} {Q : Option Value → gG → Prop} {a : Nat} {x0 x1 x2 x3 x4 w x : Int32} (hL : LX G a [.int x0, .int x1, .int x2, .int x3, .int x4]) (hQ : ∀ G' : gG, LX G' a (if w = 0 then [.int x0, .int x, .int x2, .int x3, .int x4] else if w = 1 then [.int x0, .int x1, .int x2, .int x3, .int x] else [.int x, .int x1, .int x2, .int x3, .int x4]) → Frm G G' a 1 → Q none G') : Runs E y_L_change 1 0 S [.ref a, .int w, .int x] G Q := by
  refine Runs.of "ClockPost$Letter" [some (.ref a), some (.int w), some (.int x)] cw_L_change (by decide) (by decide +kernel) rfl (Nat.le_of_ble_eq_true rfl) rfl (fun K hK => ?_)
  refine r_iload_n hK d_L_change_0 rfl ?_
  refine r_lookup hK d_L_change_1 (by decide +kernel) (by decide +kernel) ⟨fun h1 => ?_, fun n1_0 => ⟨fun h1 => ?_, fun n1_1 => ?_⟩⟩
  · skip
    show K 28 _ _ _ _
    have hw : w = 0 := toI h1
    refine r_aload_n hK d_L_change_28 rfl ?_
    refine r_iload_n hK d_L_change_29 rfl ?_
    refine p_L_fear hK lf_L_15 d_L_change_30 hL (fun G30 hL f30 => ?_)
    have hF := f30
    refine r_goto (tgt := 49) hK d_L_change_33 rfl ?_
    refine r_vret hK rfl rfl d_L_change_49 ?_
    exact hQ _ (by simp only [*] at hL ⊢; simp at *; first | exact hL | assumption) hF
  · skip
    show K 36 _ _ _ _
    have hw : w = 1 := toI h1
    refine r_aload_n hK d_L_change_36 rfl ?_
    refine r_iload_n hK d_L_change_37 rfl ?_
    refine p_L_age hK lf_L_24 d_L_change_38 hL (fun G38 hL f38 => ?_)
    have hF := f38
    refine r_goto (tgt := 49) hK d_L_change_41 rfl ?_
    refine r_vret hK rfl rfl d_L_change_49 ?_
    exact hQ _ (by simp only [*] at hL ⊢; simp at *; first | exact hL | assumption) hF
  · skip
    show K 44 _ _ _ _
    have hw0 : ¬ w = 0 := fun q => n1_0 (by rw [q]; rfl)
    have hw1 : ¬ w = 1 := fun q => n1_1 (by rw [q]; rfl)
    refine r_aload_n hK d_L_change_44 rfl ?_
    refine r_iload_n hK d_L_change_45 rfl ?_
    refine p_L_kind hK lf_L_9 d_L_change_46 hL (fun G46 hL f46 => ?_)
    have hF := f46
    refine r_vret hK rfl rfl d_L_change_49 ?_
    exact hQ _ (by simp only [*] at hL ⊢; simp at *; first | exact hL | assumption) hF
theorem c_L_weighAmong {E : gX} {S : Nat} {G : gG} {Q : Option Value → gG → Prop} {a : Nat} {x0 x1 x2 x3 x4 o : Int32} (hL : LX G a [.int x0, .int x1, .int x2, .int x3, .int x4]) (hQ : Q (some (.int (wgh x0 x1 x4 o))) G) : Runs E y_L_weighAmong 1 0 S [.ref a, .int o] G Q := by
  refine Runs.of "ClockPost$Letter" [some (.ref a), some (.int o)] cw_L_weighAmong (by decide) (by decide +kernel) rfl (Nat.le_of_ble_eq_true rfl) rfl (fun K hK => ?_)
  refine r_aload_n hK d_L_weighAmong_0 rfl ?_
  refine r_get hK lf_L_9 d_L_weighAmong_1 (hL) rfl ?_
  refine r_table (td := 83) hK d_L_weighAmong_4 (by decide +kernel) rfl (fun h4 => ?_) ⟨fun h4 => ?_, fun h4 => ?_, fun h4 => ?_, fun h4 => ?_, trivial⟩
  · skip
    have hw2 : ¬ x0 = 2 := fun q => by rw [q] at h4; revert h4; decide
    have hw3 : ¬ x0 = 3 := fun q => by rw [q] at h4; revert h4; decide
    have hw4 : ¬ x0 = 4 := fun q => by rw [q] at h4; revert h4; decide
    have hw5 : ¬ x0 = 5 := fun q => by rw [q] at h4; revert h4; decide
    refine r_aload_n hK d_L_weighAmong_83 rfl ?_
    refine r_get hK lf_L_15 d_L_weighAmong_84 (hL) rfl ?_
    refine r_aload_n hK d_L_weighAmong_87 rfl ?_
    refine r_get hK lf_L_24 d_L_weighAmong_88 (hL) rfl ?_
    refine r_iadd hK d_L_weighAmong_91 ?_
    refine r_iret hK rfl rfl d_L_weighAmong_92 ?_
    exact rc hQ (by simp [wgh, hw2, hw3, hw4, hw5])
  · skip
    show K 36 _ _ _ _
    have hw : x0 = 2 := toI h4
    refine r_iconst hK d_L_weighAmong_36 kc_2 ?_
    refine r_aload_n hK d_L_weighAmong_37 rfl ?_
    refine r_get hK lf_L_15 d_L_weighAmong_38 (hL) rfl ?_
    refine r_aload_n hK d_L_weighAmong_41 rfl ?_
    refine r_get hK lf_L_24 d_L_weighAmong_42 (hL) rfl ?_
    refine r_iadd hK d_L_weighAmong_45 ?_
    refine r_imul hK d_L_weighAmong_46 ?_
    refine r_iret hK rfl rfl d_L_weighAmong_47 ?_
    exact rc hQ (by simp [wgh, hw])
  · skip
    show K 48 _ _ _ _
    have hw : x0 = 3 := toI h4
    refine r_aload_n hK d_L_weighAmong_48 rfl ?_
    refine r_get hK lf_L_24 d_L_weighAmong_49 (hL) rfl ?_
    refine r_bipush hK d_L_weighAmong_52 kb_9 ?_
    refine r_icmp_ge (tgt := 69) hK d_L_weighAmong_54 rfl (fun h54 => ?_) (fun h54 => ?_)
    · skip
      refine r_iconst hK d_L_weighAmong_69 kc_0 ?_
      refine r_iret hK rfl rfl d_L_weighAmong_70 ?_
      exact rc hQ (by first | (simp [wgh, hw, Int32.not_lt.mpr h54]; done) | (simp [wgh, hw, Int32.not_le.mp h54]; done))
    · skip
      refine r_aload_n hK d_L_weighAmong_57 rfl ?_
      refine r_get hK lf_L_15 d_L_weighAmong_58 (hL) rfl ?_
      refine r_aload_n hK d_L_weighAmong_61 rfl ?_
      refine r_get hK lf_L_24 d_L_weighAmong_62 (hL) rfl ?_
      refine r_iadd hK d_L_weighAmong_65 ?_
      refine r_goto (tgt := 70) hK d_L_weighAmong_66 rfl ?_
      refine r_iret hK rfl rfl d_L_weighAmong_70 ?_
      exact rc hQ (by first | (simp [wgh, hw, Int32.not_lt.mpr h54]; done) | (simp [wgh, hw, Int32.not_le.mp h54]; done))
  · skip
    show K 71 _ _ _ _
    have hw : x0 = 4 := toI h4
    refine r_aload_n hK d_L_weighAmong_71 rfl ?_
    refine r_get hK lf_L_15 d_L_weighAmong_72 (hL) rfl ?_
    refine r_iret hK rfl rfl d_L_weighAmong_75 ?_
    exact rc hQ (by simp [wgh, hw])
  · skip
    show K 76 _ _ _ _
    have hw : x0 = 5 := toI h4
    refine r_aload_n hK d_L_weighAmong_76 rfl ?_
    refine r_get hK lf_L_15 d_L_weighAmong_77 (hL) rfl ?_
    refine r_iload_n hK d_L_weighAmong_80 rfl ?_
    refine r_iadd hK d_L_weighAmong_81 ?_
    refine r_iret hK rfl rfl d_L_weighAmong_82 ?_
    exact rc hQ (by simp [wgh, hw])
theorem c_L_fallsAheadOf {E : gX} {S : Nat} {G : gG} {Q : Option Value → gG → Prop} {a b : Nat} {x0 x1 x2 x3 x4 y0 y1 y2 y3 y4 : Int32} (hL : LX G a [.int x0, .int x1, .int x2, .int x3, .int x4]) (hL2 : LX G b [.int y0, .int y1, .int y2, .int y3, .int y4]) (hQ : Q (some (.int (bI (decide (y2 < x2) || (decide (x2 = y2) && decide (y4 < x4)))))) G) : Runs E y_L_fallsAheadOf 1 0 S [.ref a, .ref b] G Q := by
  refine Runs.of "ClockPost$Letter" [some (.ref a), some (.ref b)] cw_L_fallsAheadOf (by decide) (by decide +kernel) rfl (Nat.le_of_ble_eq_true rfl) rfl (fun K hK => ?_)
  refine r_aload_n hK d_L_fallsAheadOf_0 rfl ?_
  refine r_get hK lf_L_18 d_L_fallsAheadOf_1 (hL) rfl ?_
  refine r_aload_n hK d_L_fallsAheadOf_4 rfl ?_
  refine r_get hK lf_L_18 d_L_fallsAheadOf_5 (hL2) rfl ?_
  refine r_icmp_gt (tgt := 33) hK d_L_fallsAheadOf_8 rfl (fun h8 => ?_) (fun h8 => ?_)
  · skip
    refine r_iconst hK d_L_fallsAheadOf_33 kc_1 ?_
    refine r_goto (tgt := 38) hK d_L_fallsAheadOf_34 rfl ?_
    refine r_zret hK rfl (rfl) rfl d_L_fallsAheadOf_38 ?_
    first | exact rc hQ (bI_t (by clear hK hQ; simp only [i_lt, Bool.and_eq_true, Bool.or_eq_true, Bool.not_eq_true', decide_eq_true_eq, decide_eq_false_iff_not, i_lt, i_le, i_eq, ti_0, ti_1, ti_2, ti_3, ti_4, ti_5, ti_6, ti_7, ti_8, ti_9, ti_10, ti_11, ti_12, ti_13, ti_14, ti_16, ti_20, ti_21, ti_22, ti_23, ti_24, ti_30, ti_31, ti_36, ti_40, ti_44, ti_48, ti_57, ti_59, ti_60, ti_61, ti_63, ti_64, ti_98, ti_99, ti_100, ti_101, ti_110, ti_115, ti_128, ti_255, ti_300, ti_900, ti_972, ti_999, ti_1000, ti_9999, ti_m1] at *; omega)) | exact rc hQ (bI_f (by intro hq; clear hK hQ; simp only [i_lt, Bool.and_eq_true, Bool.or_eq_true, Bool.not_eq_true', decide_eq_true_eq, decide_eq_false_iff_not, i_lt, i_le, i_eq, ti_0, ti_1, ti_2, ti_3, ti_4, ti_5, ti_6, ti_7, ti_8, ti_9, ti_10, ti_11, ti_12, ti_13, ti_14, ti_16, ti_20, ti_21, ti_22, ti_23, ti_24, ti_30, ti_31, ti_36, ti_40, ti_44, ti_48, ti_57, ti_59, ti_60, ti_61, ti_63, ti_64, ti_98, ti_99, ti_100, ti_101, ti_110, ti_115, ti_128, ti_255, ti_300, ti_900, ti_972, ti_999, ti_1000, ti_9999, ti_m1] at *; omega))
  · skip
    refine r_aload_n hK d_L_fallsAheadOf_11 rfl ?_
    refine r_get hK lf_L_18 d_L_fallsAheadOf_12 (hL) rfl ?_
    refine r_aload_n hK d_L_fallsAheadOf_15 rfl ?_
    refine r_get hK lf_L_18 d_L_fallsAheadOf_16 (hL2) rfl ?_
    refine r_icmp_ne (tgt := 37) hK d_L_fallsAheadOf_19 rfl (fun h19 => ?_) (fun h19 => ?_)
    · skip
      refine r_iconst hK d_L_fallsAheadOf_37 kc_0 ?_
      refine r_zret hK rfl (rfl) rfl d_L_fallsAheadOf_38 ?_
      first | exact rc hQ (bI_t (by clear hK hQ; simp only [i_lt, Bool.and_eq_true, Bool.or_eq_true, Bool.not_eq_true', decide_eq_true_eq, decide_eq_false_iff_not, i_lt, i_le, i_eq, ti_0, ti_1, ti_2, ti_3, ti_4, ti_5, ti_6, ti_7, ti_8, ti_9, ti_10, ti_11, ti_12, ti_13, ti_14, ti_16, ti_20, ti_21, ti_22, ti_23, ti_24, ti_30, ti_31, ti_36, ti_40, ti_44, ti_48, ti_57, ti_59, ti_60, ti_61, ti_63, ti_64, ti_98, ti_99, ti_100, ti_101, ti_110, ti_115, ti_128, ti_255, ti_300, ti_900, ti_972, ti_999, ti_1000, ti_9999, ti_m1] at *; omega)) | exact rc hQ (bI_f (by intro hq; clear hK hQ; simp only [i_lt, Bool.and_eq_true, Bool.or_eq_true, Bool.not_eq_true', decide_eq_true_eq, decide_eq_false_iff_not, i_lt, i_le, i_eq, ti_0, ti_1, ti_2, ti_3, ti_4, ti_5, ti_6, ti_7, ti_8, ti_9, ti_10, ti_11, ti_12, ti_13, ti_14, ti_16, ti_20, ti_21, ti_22, ti_23, ti_24, ti_30, ti_31, ti_36, ti_40, ti_44, ti_48, ti_57, ti_59, ti_60, ti_61, ti_63, ti_64, ti_98, ti_99, ti_100, ti_101, ti_110, ti_115, ti_128, ti_255, ti_300, ti_900, ti_972, ti_999, ti_1000, ti_9999, ti_m1] at *; omega))
    · skip
      refine r_aload_n hK d_L_fallsAheadOf_22 rfl ?_
      refine r_get hK lf_L_24 d_L_fallsAheadOf_23 (hL) rfl ?_
      refine r_aload_n hK d_L_fallsAheadOf_26 rfl ?_
      refine r_get hK lf_L_24 d_L_fallsAheadOf_27 (hL2) rfl ?_
      refine r_icmp_le (tgt := 37) hK d_L_fallsAheadOf_30 rfl (fun h30 => ?_) (fun h30 => ?_)
      · skip
        refine r_iconst hK d_L_fallsAheadOf_37 kc_0 ?_
        refine r_zret hK rfl (rfl) rfl d_L_fallsAheadOf_38 ?_
        first | exact rc hQ (bI_t (by clear hK hQ; simp only [i_lt, Bool.and_eq_true, Bool.or_eq_true, Bool.not_eq_true', decide_eq_true_eq, decide_eq_false_iff_not, i_lt, i_le, i_eq, ti_0, ti_1, ti_2, ti_3, ti_4, ti_5, ti_6, ti_7, ti_8, ti_9, ti_10, ti_11, ti_12, ti_13, ti_14, ti_16, ti_20, ti_21, ti_22, ti_23, ti_24, ti_30, ti_31, ti_36, ti_40, ti_44, ti_48, ti_57, ti_59, ti_60, ti_61, ti_63, ti_64, ti_98, ti_99, ti_100, ti_101, ti_110, ti_115, ti_128, ti_255, ti_300, ti_900, ti_972, ti_999, ti_1000, ti_9999, ti_m1] at *; omega)) | exact rc hQ (bI_f (by intro hq; clear hK hQ; simp only [i_lt, Bool.and_eq_true, Bool.or_eq_true, Bool.not_eq_true', decide_eq_true_eq, decide_eq_false_iff_not, i_lt, i_le, i_eq, ti_0, ti_1, ti_2, ti_3, ti_4, ti_5, ti_6, ti_7, ti_8, ti_9, ti_10, ti_11, ti_12, ti_13, ti_14, ti_16, ti_20, ti_21, ti_22, ti_23, ti_24, ti_30, ti_31, ti_36, ti_40, ti_44, ti_48, ti_57, ti_59, ti_60, ti_61, ti_63, ti_64, ti_98, ti_99, ti_100, ti_101, ti_110, ti_115, ti_128, ti_255, ti_300, ti_900, ti_972, ti_999, ti_1000, ti_9999, ti_m1] at *; omega))
      · skip
        refine r_iconst hK d_L_fallsAheadOf_33 kc_1 ?_
        refine r_goto (tgt := 38) hK d_L_fallsAheadOf_34 rfl ?_
        refine r_zret hK rfl (rfl) rfl d_L_fallsAheadOf_38 ?_
        first | exact rc hQ (bI_t (by clear hK hQ; simp only [i_lt, Bool.and_eq_true, Bool.or_eq_true, Bool.not_eq_true', decide_eq_true_eq, decide_eq_false_iff_not, i_lt, i_le, i_eq, ti_0, ti_1, ti_2, ti_3, ti_4, ti_5, ti_6, ti_7, ti_8, ti_9, ti_10, ti_11, ti_12, ti_13, ti_14, ti_16, ti_20, ti_21, ti_22, ti_23, ti_24, ti_30, ti_31, ti_36, ti_40, ti_44, ti_48, ti_57, ti_59, ti_60, ti_61, ti_63, ti_64, ti_98, ti_99, ti_100, ti_101, ti_110, ti_115, ti_128, ti_255, ti_300, ti_900, ti_972, ti_999, ti_1000, ti_9999, ti_m1] at *; omega)) | exact rc hQ (bI_f (by intro hq; clear hK hQ; simp only [i_lt, Bool.and_eq_true, Bool.or_eq_true, Bool.not_eq_true', decide_eq_true_eq, decide_eq_false_iff_not, i_lt, i_le, i_eq, ti_0, ti_1, ti_2, ti_3, ti_4, ti_5, ti_6, ti_7, ti_8, ti_9, ti_10, ti_11, ti_12, ti_13, ti_14, ti_16, ti_20, ti_21, ti_22, ti_23, ti_24, ti_30, ti_31, ti_36, ti_40, ti_44, ti_48, ti_57, ti_59, ti_60, ti_61, ti_63, ti_64, ti_98, ti_99, ti_100, ti_101, ti_110, ti_115, ti_128, ti_255, ti_300, ti_900, ti_972, ti_999, ti_1000, ti_9999, ti_m1] at *; omega))
theorem c_R_hasPlaces {E : gX} {S : Nat} {G : gG} {Q : Option Value → gG → Prop} {r : Nat} {ms lane size i n : Int32} {f : Nat → Int32} (hR : RX G r ms lane size f) (hQ : Q (some (.int (bI (hasP size i n)))) G) : Runs E y_R_hasPlaces 1 0 S [.ref r, .int i, .int n] G Q := by
  refine Runs.of "ClockPost$Row" [some (.ref r), some (.int i), some (.int n)] cw_R_hasPlaces (by decide) (by decide +kernel) rfl (Nat.le_of_ble_eq_true rfl) rfl (fun K hK => ?_)
  refine r_iload_n hK d_R_hasPlaces_0 rfl ?_
  refine r_if_lt (tgt := 22) hK d_R_hasPlaces_1 rfl (fun h1 => ?_) (fun h1 => ?_)
  · skip
    refine r_iconst hK d_R_hasPlaces_22 kc_0 ?_
    refine r_zret hK rfl (rfl) rfl d_R_hasPlaces_23 ?_
    first | exact rc hQ (bI_t (by clear hK hQ; simp only [hasP, Bool.and_eq_true, Bool.or_eq_true, Bool.not_eq_true', decide_eq_true_eq, decide_eq_false_iff_not, i_lt, i_le, i_eq, ti_0, ti_1, ti_2, ti_3, ti_4, ti_5, ti_6, ti_7, ti_8, ti_9, ti_10, ti_11, ti_12, ti_13, ti_14, ti_16, ti_20, ti_21, ti_22, ti_23, ti_24, ti_30, ti_31, ti_36, ti_40, ti_44, ti_48, ti_57, ti_59, ti_60, ti_61, ti_63, ti_64, ti_98, ti_99, ti_100, ti_101, ti_110, ti_115, ti_128, ti_255, ti_300, ti_900, ti_972, ti_999, ti_1000, ti_9999, ti_m1] at *; omega)) | exact rc hQ (bI_f (by intro hq; clear hK hQ; simp only [hasP, Bool.and_eq_true, Bool.or_eq_true, Bool.not_eq_true', decide_eq_true_eq, decide_eq_false_iff_not, i_lt, i_le, i_eq, ti_0, ti_1, ti_2, ti_3, ti_4, ti_5, ti_6, ti_7, ti_8, ti_9, ti_10, ti_11, ti_12, ti_13, ti_14, ti_16, ti_20, ti_21, ti_22, ti_23, ti_24, ti_30, ti_31, ti_36, ti_40, ti_44, ti_48, ti_57, ti_59, ti_60, ti_61, ti_63, ti_64, ti_98, ti_99, ti_100, ti_101, ti_110, ti_115, ti_128, ti_255, ti_300, ti_900, ti_972, ti_999, ti_1000, ti_9999, ti_m1] at *; omega))
  · skip
    refine r_iload_n hK d_R_hasPlaces_4 rfl ?_
    refine r_if_lt (tgt := 22) hK d_R_hasPlaces_5 rfl (fun h5 => ?_) (fun h5 => ?_)
    · skip
      refine r_iconst hK d_R_hasPlaces_22 kc_0 ?_
      refine r_zret hK rfl (rfl) rfl d_R_hasPlaces_23 ?_
      first | exact rc hQ (bI_t (by clear hK hQ; simp only [hasP, Bool.and_eq_true, Bool.or_eq_true, Bool.not_eq_true', decide_eq_true_eq, decide_eq_false_iff_not, i_lt, i_le, i_eq, ti_0, ti_1, ti_2, ti_3, ti_4, ti_5, ti_6, ti_7, ti_8, ti_9, ti_10, ti_11, ti_12, ti_13, ti_14, ti_16, ti_20, ti_21, ti_22, ti_23, ti_24, ti_30, ti_31, ti_36, ti_40, ti_44, ti_48, ti_57, ti_59, ti_60, ti_61, ti_63, ti_64, ti_98, ti_99, ti_100, ti_101, ti_110, ti_115, ti_128, ti_255, ti_300, ti_900, ti_972, ti_999, ti_1000, ti_9999, ti_m1] at *; omega)) | exact rc hQ (bI_f (by intro hq; clear hK hQ; simp only [hasP, Bool.and_eq_true, Bool.or_eq_true, Bool.not_eq_true', decide_eq_true_eq, decide_eq_false_iff_not, i_lt, i_le, i_eq, ti_0, ti_1, ti_2, ti_3, ti_4, ti_5, ti_6, ti_7, ti_8, ti_9, ti_10, ti_11, ti_12, ti_13, ti_14, ti_16, ti_20, ti_21, ti_22, ti_23, ti_24, ti_30, ti_31, ti_36, ti_40, ti_44, ti_48, ti_57, ti_59, ti_60, ti_61, ti_63, ti_64, ti_98, ti_99, ti_100, ti_101, ti_110, ti_115, ti_128, ti_255, ti_300, ti_900, ti_972, ti_999, ti_1000, ti_9999, ti_m1] at *; omega))
    · skip
      refine r_iload_n hK d_R_hasPlaces_8 rfl ?_
      refine r_aload_n hK d_R_hasPlaces_9 rfl ?_
      refine r_get hK lf_R_29 d_R_hasPlaces_10 (hR.1) rfl ?_
      refine r_iload_n hK d_R_hasPlaces_13 rfl ?_
      refine r_isub hK d_R_hasPlaces_14 ?_
      refine r_icmp_gt (tgt := 22) hK d_R_hasPlaces_15 rfl (fun h15 => ?_) (fun h15 => ?_)
      · skip
        refine r_iconst hK d_R_hasPlaces_22 kc_0 ?_
        refine r_zret hK rfl (rfl) rfl d_R_hasPlaces_23 ?_
        first | exact rc hQ (bI_t (by clear hK hQ; simp only [hasP, Bool.and_eq_true, Bool.or_eq_true, Bool.not_eq_true', decide_eq_true_eq, decide_eq_false_iff_not, i_lt, i_le, i_eq, ti_0, ti_1, ti_2, ti_3, ti_4, ti_5, ti_6, ti_7, ti_8, ti_9, ti_10, ti_11, ti_12, ti_13, ti_14, ti_16, ti_20, ti_21, ti_22, ti_23, ti_24, ti_30, ti_31, ti_36, ti_40, ti_44, ti_48, ti_57, ti_59, ti_60, ti_61, ti_63, ti_64, ti_98, ti_99, ti_100, ti_101, ti_110, ti_115, ti_128, ti_255, ti_300, ti_900, ti_972, ti_999, ti_1000, ti_9999, ti_m1] at *; omega)) | exact rc hQ (bI_f (by intro hq; clear hK hQ; simp only [hasP, Bool.and_eq_true, Bool.or_eq_true, Bool.not_eq_true', decide_eq_true_eq, decide_eq_false_iff_not, i_lt, i_le, i_eq, ti_0, ti_1, ti_2, ti_3, ti_4, ti_5, ti_6, ti_7, ti_8, ti_9, ti_10, ti_11, ti_12, ti_13, ti_14, ti_16, ti_20, ti_21, ti_22, ti_23, ti_24, ti_30, ti_31, ti_36, ti_40, ti_44, ti_48, ti_57, ti_59, ti_60, ti_61, ti_63, ti_64, ti_98, ti_99, ti_100, ti_101, ti_110, ti_115, ti_128, ti_255, ti_300, ti_900, ti_972, ti_999, ti_1000, ti_9999, ti_m1] at *; omega))
      · skip
        refine r_iconst hK d_R_hasPlaces_18 kc_1 ?_
        refine r_goto (tgt := 23) hK d_R_hasPlaces_19 rfl ?_
        refine r_zret hK rfl (rfl) rfl d_R_hasPlaces_23 ?_
        first | exact rc hQ (bI_t (by clear hK hQ; simp only [hasP, Bool.and_eq_true, Bool.or_eq_true, Bool.not_eq_true', decide_eq_true_eq, decide_eq_false_iff_not, i_lt, i_le, i_eq, ti_0, ti_1, ti_2, ti_3, ti_4, ti_5, ti_6, ti_7, ti_8, ti_9, ti_10, ti_11, ti_12, ti_13, ti_14, ti_16, ti_20, ti_21, ti_22, ti_23, ti_24, ti_30, ti_31, ti_36, ti_40, ti_44, ti_48, ti_57, ti_59, ti_60, ti_61, ti_63, ti_64, ti_98, ti_99, ti_100, ti_101, ti_110, ti_115, ti_128, ti_255, ti_300, ti_900, ti_972, ti_999, ti_1000, ti_9999, ti_m1] at *; omega)) | exact rc hQ (bI_f (by intro hq; clear hK hQ; simp only [hasP, Bool.and_eq_true, Bool.or_eq_true, Bool.not_eq_true', decide_eq_true_eq, decide_eq_false_iff_not, i_lt, i_le, i_eq, ti_0, ti_1, ti_2, ti_3, ti_4, ti_5, ti_6, ti_7, ti_8, ti_9, ti_10, ti_11, ti_12, ti_13, ti_14, ti_16, ti_20, ti_21, ti_22, ti_23, ti_24, ti_30, ti_31, ti_36, ti_40, ti_44, ti_48, ti_57, ti_59, ti_60, ti_61, ti_63, ti_64, ti_98, ti_99, ti_100, ti_101, ti_110, ti_115, ti_128, ti_255, ti_300, ti_900, ti_972, ti_999, ti_1000, ti_9999, ti_m1] at *; omega))
theorem c_JI_bitCount {E : gX} {S : Nat} {G : gG} {Q : Option Value → gG → Prop} {x : Int32} (hQ : Q (some (.int (bitc x))) G) : Runs E y_JI_bitCount 1 0 S [.int x] G Q := by
  refine Runs.of "java/lang/Integer" [some (.int x)] cw_JI_bitCount (by decide) (by decide +kernel) rfl (Nat.le_of_ble_eq_true rfl) rfl (fun K hK => ?_)
  refine r_iload_n hK d_JI_bitCount_0 rfl ?_
  refine r_iload_n hK d_JI_bitCount_1 rfl ?_
  refine r_iconst hK d_JI_bitCount_2 kc_1 ?_
  refine r_iushr hK d_JI_bitCount_3 ?_
  refine r_ldcw hK d_JI_bitCount_4 lc_JI_265 ?_
  refine r_iand hK d_JI_bitCount_7 ?_
  refine r_isub hK d_JI_bitCount_8 ?_
  refine st_in_0_1 hK d_JI_bitCount_9 ?_
  refine r_iload_n hK d_JI_bitCount_10 rfl ?_
  refine r_ldcw hK d_JI_bitCount_11 lc_JI_266 ?_
  refine r_iand hK d_JI_bitCount_14 ?_
  refine r_iload_n hK d_JI_bitCount_15 rfl ?_
  refine r_iconst hK d_JI_bitCount_16 kc_2 ?_
  refine r_iushr hK d_JI_bitCount_17 ?_
  refine r_ldcw hK d_JI_bitCount_18 lc_JI_266 ?_
  refine r_iand hK d_JI_bitCount_21 ?_
  refine r_iadd hK d_JI_bitCount_22 ?_
  refine st_in_0_1 hK d_JI_bitCount_23 ?_
  refine r_iload_n hK d_JI_bitCount_24 rfl ?_
  refine r_iload_n hK d_JI_bitCount_25 rfl ?_
  refine r_iconst hK d_JI_bitCount_26 kc_4 ?_
  refine r_iushr hK d_JI_bitCount_27 ?_
  refine r_iadd hK d_JI_bitCount_28 ?_
  refine r_ldcw hK d_JI_bitCount_29 lc_JI_267 ?_
  refine r_iand hK d_JI_bitCount_32 ?_
  refine st_in_0_1 hK d_JI_bitCount_33 ?_
  refine r_iload_n hK d_JI_bitCount_34 rfl ?_
  refine r_iload_n hK d_JI_bitCount_35 rfl ?_
  refine r_bipush hK d_JI_bitCount_36 kb_8 ?_
  refine r_iushr hK d_JI_bitCount_38 ?_
  refine r_iadd hK d_JI_bitCount_39 ?_
  refine st_in_0_1 hK d_JI_bitCount_40 ?_
  refine r_iload_n hK d_JI_bitCount_41 rfl ?_
  refine r_iload_n hK d_JI_bitCount_42 rfl ?_
  refine r_bipush hK d_JI_bitCount_43 kb_16 ?_
  refine r_iushr hK d_JI_bitCount_45 ?_
  refine r_iadd hK d_JI_bitCount_46 ?_
  refine st_in_0_1 hK d_JI_bitCount_47 ?_
  refine r_iload_n hK d_JI_bitCount_48 rfl ?_
  refine r_bipush hK d_JI_bitCount_49 kb_63 ?_
  refine r_iand hK d_JI_bitCount_51 ?_
  refine r_iret hK rfl rfl d_JI_bitCount_52 ?_
  exact hQ
theorem c_JA_fill {E : gX} {S : Nat} {G : gG} {Q : Option Value → gG → Prop} {a n : Nat} {f : Nat → Int32} {x : Int32} (hG : G a = some (.inl (0, n, .inl f))) (hn : n < 2 ^ 31) (hQ : ∀ G' : gG, G' a = some (.inl (0, n, .inl (fillV f x n))) → Frm G G' a 1 → Q none G') : Runs E y_JA_fill 1 0 S [.ref a, .int x] G Q := by
  refine Runs.of "java/util/Arrays" [some (.ref a), some (.int x), none, none] cw_JA_fill (by decide) (by decide +kernel) rfl (Nat.le_of_ble_eq_true rfl) rfl (fun K hK => ?_)
  refine r_iconst hK d_JA_fill_0 kc_0 ?_
  refine st_in_2_4 hK d_JA_fill_1 trivial ?_
  refine r_aload_n hK d_JA_fill_2 rfl ?_
  refine r_alen (v := nI n) hK d_JA_fill_3 hG (by decide) rfl ?_
  refine st_in_3_4 hK d_JA_fill_4 trivial ?_
  suffices L : ∀ j, j ≤ n → ∀ G1 : gG, G1 a = some (.inl (0, n, .inl (fillV f x j))) → Frm G G1 a 1 → K 5 [some (.ref a), some (.int x), some (.int (nI j)), some (.int (nI n))] [] S G1 from L 0 (Nat.zero_le _) G (by rw [fillV_0]; exact hG) Frm.rf
  refine lpN n (fun j hj ih G1 h1 hF => ?_)
  refine r_iload_n hK d_JA_fill_5 rfl ?_
  refine r_iload_n hK d_JA_fill_6 rfl ?_
  refine r_icmp_ge (tgt := 20) hK d_JA_fill_7 rfl (fun h7 => ?_) (fun h7 => ?_)
  · skip
    have hjn : j = n := by have := (nI_leI hn (by omega)).mp h7; omega
    subst hjn
    refine r_vret hK rfl rfl d_JA_fill_20 ?_
    exact hQ _ h1 hF
  · skip
    have hjn : j < n := Nat.not_le.mp (fun q => h7 ((nI_leI hn (by omega)).mpr q))
    refine r_aload_n hK d_JA_fill_10 rfl ?_
    refine r_iload_n hK d_JA_fill_11 rfl ?_
    refine r_iload_n hK d_JA_fill_12 rfl ?_
    refine r_iast hK d_JA_fill_13 h1 (vp_in_nI hjn hn) ?_
    rw [nI_clamp (by omega)]
    first | refine iN_2_4 hK d_JA_fill_14 trivial ?_ | refine ii_2_1_4 hK d_JA_fill_14 trivial ?_
    refine r_goto (tgt := 5) hK d_JA_fill_17 rfl ?_
    exact ih hjn _ (by rw [gup_s, fillV_s]) (hF.tr (Frm.up (by omega) (by omega)))
theorem c_R_lay {E : gX} {S : Nat} {G : gG} {Q : Option Value → gG → Prop} {r : Nat} {ms lane size l n : Int32} {f : Nat → Int32} (hR : RX G r ms lane size f) (hQ : ∀ G' : gG, RX G' r 0 l n (fillV f 0 40) → Frm G G' r 2 → Q none G') : Runs E y_R_lay 2 0 S [.ref r, .int l, .int n] G Q := by
  refine Runs.of "ClockPost$Row" [some (.ref r), some (.int l), some (.int n)] cw_R_lay (by decide) (by decide +kernel) rfl (Nat.le_of_ble_eq_true rfl) rfl (fun K hK => ?_)
  refine r_aload_n hK d_R_lay_0 rfl ?_
  refine r_get hK lf_R_9 d_R_lay_1 (hR.1) rfl ?_
  refine r_iconst hK d_R_lay_4 kc_0 ?_
  refine r_s2 (k' := 1) hK lm_R_19 d_R_lay_5 (by decide) (Nat.le_of_ble_eq_true rfl) ?_
  refine c_JA_fill hR.2 (by decide) (fun G5 h5 f5 => kc_n ?_)
  have hF : Frm G G5 r 2 := f5.mono (by omega) (by omega)
  have hR : RX G5 r ms lane size (fillV f 0 40) := ⟨(f5 _ (by omega)).trans hR.1, h5⟩
  refine r_aload_n hK d_R_lay_8 rfl ?_
  refine r_iconst hK d_R_lay_9 kc_0 ?_
  refine p_R_missing hK lf_R_15 d_R_lay_10 hR rfl rfl (fun G10 hR f10 => ?_)
  have hF := hF.tr f10
  refine r_aload_n hK d_R_lay_13 rfl ?_
  refine r_iload_n hK d_R_lay_14 rfl ?_
  refine p_R_lane hK lf_R_25 d_R_lay_15 hR (fun G15 hR f15 => ?_)
  have hF := hF.tr f15
  refine r_aload_n hK d_R_lay_18 rfl ?_
  refine r_iload_n hK d_R_lay_19 rfl ?_
  refine p_R_size hK lf_R_29 d_R_lay_20 hR (fun G20 hR f20 => ?_)
  have hF := hF.tr f20
  refine r_vret hK rfl rfl d_R_lay_23 ?_
  exact hQ _ hR hF
theorem c_R_put {E : gX} {S : Nat} {G : gG} {Q : Option Value → gG → Prop} {r z : Nat} {ms lane i v : Int32} {f : Nat → Int32} (hR : RX G r ms lane (nI z) f) (hs : z ≤ 40) (hQ : ∀ G' : gG, RX G' r ms lane (nI z) (if hasP (nI z) i 1 = true then upd f (nN i) (cutV lane v) else f) → Frm G G' r 2 → Q (some (.int (cutV lane v))) G') : Runs E y_R_put 2 0 S [.ref r, .int i, .int v] G Q := by
  refine Runs.of "ClockPost$Row" [some (.ref r), some (.int i), some (.int v), none] cw_R_put (by decide) (by decide +kernel) rfl (Nat.le_of_ble_eq_true rfl) rfl (fun K hK => ?_)
  have J : K 26 [some (.ref r), some (.int i), some (.int v), none] [.int (cutV lane v)] S G := by
    refine st_in_3_4 hK d_R_put_26 trivial ?_
    refine r_aload_n hK d_R_put_27 rfl ?_
    refine r_iload_n hK d_R_put_28 rfl ?_
    refine r_iconst hK d_R_put_29 kc_1 ?_
    refine r_v2 (k' := 1) hK lm_R_32 d_R_put_30 ⟨_, hR.1⟩ (by decide) (Nat.le_of_ble_eq_true rfl) ?_
    refine c_R_hasPlaces hR (kc_s ?_)
    refine r_if_eq (tgt := 43) hK d_R_put_33 rfl (fun h33 => ?_) (fun h33 => ?_)
    · skip
      have hb := bI_0.mp h33
      refine r_iload_n hK d_R_put_43 rfl ?_
      refine r_iret hK rfl rfl d_R_put_44 ?_
      first | exact hQ _ hR hF | (rw [if_neg (by simp [hb])] at hQ; exact hQ _ hR Frm.rf)
    · skip
      have hb := bI_n0.mp h33
      refine r_aload_n hK d_R_put_36 rfl ?_
      refine r_get hK lf_R_9 d_R_put_37 (hR.1) rfl ?_
      refine r_iload_n hK d_R_put_40 rfl ?_
      refine r_iload_n hK d_R_put_41 rfl ?_
      refine r_iast hK d_R_put_42 hR.2 (vp_in_iff.mpr (hasP_in hs hb)) ?_
      have hF : Frm G (gup G (r + 1) (.inl (0, 40, .inl (upd f (nN i) (cutV lane v))))) r 2 := Frm.up (by omega) (by omega)
      have hR : RX (gup G (r + 1) (.inl (0, 40, .inl (upd f (nN i) (cutV lane v))))) r ms lane (nI z) (upd f (nN i) (cutV lane v)) := ⟨(gup_n (by omega)).trans hR.1, gup_s⟩
      rw [if_pos hb] at hQ
      refine r_iload_n hK d_R_put_43 rfl ?_
      refine r_iret hK rfl rfl d_R_put_44 ?_
      first | exact hQ _ hR hF | (rw [if_neg (by simp [hb])] at hQ; exact hQ _ hR Frm.rf)
  have e26 : ∀ x : Int32, x = cutV lane v → K 26 [some (.ref r), some (.int i), some (.int v), none] [.int x] S G := fun x e => by rw [e]; exact J
  refine r_aload_n hK d_R_put_0 rfl ?_
  refine r_get hK lf_R_25 d_R_put_1 (hR.1) rfl ?_
  refine r_if_ne (tgt := 12) hK d_R_put_4 rfl (fun h4 => ?_) (fun h4 => ?_)
  · skip
    refine r_aload_n hK d_R_put_12 rfl ?_
    refine r_get hK lf_R_25 d_R_put_13 (hR.1) rfl ?_
    refine r_iconst hK d_R_put_16 kc_1 ?_
    refine r_icmp_ne (tgt := 25) hK d_R_put_17 rfl (fun h17 => ?_) (fun h17 => ?_)
    · skip
      refine r_iload_n hK d_R_put_25 rfl ?_
      exact e26 _ (by first | simp [cutV, *] | (simp only [cutV]; simp_all))
    · skip
      refine r_iload_n hK d_R_put_20 rfl ?_
      refine r_i2s hK d_R_put_21 ?_
      refine r_goto (tgt := 26) hK d_R_put_22 rfl ?_
      exact e26 _ (by first | simp [cutV, *] | (simp only [cutV]; simp_all))
  · skip
    refine r_iload_n hK d_R_put_7 rfl ?_
    refine r_i2b hK d_R_put_8 ?_
    refine r_goto (tgt := 26) hK d_R_put_9 rfl ?_
    exact e26 _ (by first | simp [cutV, *] | (simp only [cutV]; simp_all))
theorem c_R_itemAt {E : gX} {S : Nat} {G : gG} {Q : Option Value → gG → Prop} {r z : Nat} {ms lane i : Int32} {f : Nat → Int32} (hR : RX G r ms lane (nI z) f) (hs : z ≤ 40) (hQ : Q (some (.int (if hasP (nI z) i 1 = true then f (nN i) else 0))) G) : Runs E y_R_itemAt 2 0 S [.ref r, .int i] G Q := by
  refine Runs.of "ClockPost$Row" [some (.ref r), some (.int i)] cw_R_itemAt (by decide) (by decide +kernel) rfl (Nat.le_of_ble_eq_true rfl) rfl (fun K hK => ?_)
  refine r_aload_n hK d_R_itemAt_0 rfl ?_
  refine r_iload_n hK d_R_itemAt_1 rfl ?_
  refine r_iconst hK d_R_itemAt_2 kc_1 ?_
  refine r_v2 (k' := 1) hK lm_R_32 d_R_itemAt_3 ⟨_, hR.1⟩ (by decide) (Nat.le_of_ble_eq_true rfl) ?_
  refine c_R_hasPlaces hR (kc_s ?_)
  refine r_if_eq (tgt := 18) hK d_R_itemAt_6 rfl (fun h6 => ?_) (fun h6 => ?_)
  · skip
    have hb := bI_0.mp h6
    refine r_iconst hK d_R_itemAt_18 kc_0 ?_
    refine r_iret hK rfl rfl d_R_itemAt_19 ?_
    first | exact rc hQ (by rw [if_pos hb]; rfl) | exact rc hQ (by rw [if_neg (by simp [hb])])
  · skip
    have hb := bI_n0.mp h6
    refine r_aload_n hK d_R_itemAt_9 rfl ?_
    refine r_get hK lf_R_9 d_R_itemAt_10 (hR.1) rfl ?_
    refine r_iload_n hK d_R_itemAt_13 rfl ?_
    refine r_iald hK d_R_itemAt_14 hR.2 (vp_in_iff.mpr (hasP_in hs hb)) ?_
    refine r_goto (tgt := 19) hK d_R_itemAt_15 rfl ?_
    refine r_iret hK rfl rfl d_R_itemAt_19 ?_
    first | exact rc hQ (by rw [if_pos hb]; rfl) | exact rc hQ (by rw [if_neg (by simp [hb])])
theorem c_T_leave {E : gX} {S : Nat} {G : gG} {Q : Option Value → gG → Prop} {a m : Nat} {x : Int32} {f : Nat → Int32} (hT : TX G a f (nI m)) (hm : m ≤ 16) (hQ : ∀ G' : gG, TX G' a (if m < 16 then upd f m x else f) (nI (if m < 16 then m + 1 else m)) → Frm G G' a 2 → Q none G') : Runs E y_T_leave 1 0 S [.ref a, .int x] G Q := by
  refine Runs.of "ClockPost$Trace" [some (.ref a), some (.int x)] cw_T_leave (by decide) (by decide +kernel) rfl (Nat.le_of_ble_eq_true rfl) rfl (fun K hK => ?_)
  refine r_aload_n hK d_T_leave_0 rfl ?_
  refine r_get hK lf_T_15 d_T_leave_1 (hT.1) rfl ?_
  refine r_aload_n hK d_T_leave_4 rfl ?_
  refine r_get hK lf_T_9 d_T_leave_5 (hT.1) rfl ?_
  refine r_alen (v := nI 16) hK d_T_leave_8 hT.2 (by decide) rfl ?_
  refine r_icmp_ge (tgt := 32) hK d_T_leave_9 rfl (fun h9 => ?_) (fun h9 => ?_)
  · skip
    have hq : ¬ m < 16 := by have := (nI_leI (by decide) (by omega)).mp h9; omega
    refine r_vret hK rfl rfl d_T_leave_32 ?_
    first | exact hQ _ hT hF | (rw [if_neg hq, if_neg hq] at hQ; exact hQ _ hT Frm.rf)
  · skip
    have hq : m < 16 := Nat.not_le.mp (fun q => h9 ((nI_leI (by decide) (by omega)).mpr q))
    rw [if_pos hq, if_pos hq] at hQ
    refine r_aload_n hK d_T_leave_12 rfl ?_
    refine r_get hK lf_T_9 d_T_leave_13 (hT.1) rfl ?_
    refine r_aload_n hK d_T_leave_16 rfl ?_
    refine r_get hK lf_T_15 d_T_leave_17 (hT.1) rfl ?_
    refine r_iload_n hK d_T_leave_20 rfl ?_
    refine r_iast hK d_T_leave_21 hT.2 (vp_in_nI hq (by omega)) ?_
    rw [nI_clamp (by omega)]
    have hF : Frm G (gup G (a + 1) _) a 2 := Frm.up (e := .inl (0, 16, .inl (upd f m x))) (by omega) (by omega)
    have hT : TX (gup G (a + 1) (.inl (0, 16, .inl (upd f m x)))) a (upd f m x) (nI m) := ⟨(gup_n (by omega)).trans hT.1, gup_s⟩
    refine r_aload_n hK d_T_leave_22 rfl ?_
    refine r_dup hK d_T_leave_23 rfl ?_
    refine r_get hK lf_T_15 d_T_leave_24 (hT.1) rfl ?_
    refine r_iconst hK d_T_leave_27 kc_1 ?_
    refine r_iadd hK d_T_leave_28 ?_
    rw [nI_1]
    refine p_T_length hK lf_T_15 d_T_leave_29 hT (fun G29 hT f29 => ?_)
    have hF := hF.tr f29
    refine r_vret hK rfl rfl d_T_leave_32 ?_
    first | exact hQ _ hT hF | (rw [if_neg hq, if_neg hq] at hQ; exact hQ _ hT Frm.rf)
end
section
def becV (v w : Nat → Int32) (m : Nat) : Nat → Int32 := fun k => if k < 6 then w k else if (k - 6) % 6 < m then w k else v k
def ntf (v : Nat → Int32) : Nat → Option Nat
  | 0 => none
  | j + 1 => if behB v (nI j) = true ∧ (∀ k, ntf v j = some k → fAh v j k = true) then some j else ntf v j
def oI : Option Nat → Int32
  | none => -1000000
  | some k => nI k
def mn99 (x : Int32) : Int32 := if x < 99 then x else 99
def ageV (v : Nat → Int32) (m : Nat) : Nat → Int32 := fun k => if 30 ≤ k ∧ k < 30 + m ∧ behB v (nI (k - 30)) = true then mn99 (v k + 1) else v k
def fallV : Nat → (Nat → Int32) → Option Nat → (Nat → Int32) × Option Nat
  | 0, v, f => (v, f)
  | m + 1, v, f => if v 1 < thck v then (match ntf v (nN (v 0)) with
    | none => fallV m v f
    | some k => fallV m (awayV v (nI k) (v (24 + k))) (if f = none then some k else f)) else (v, f)
def sumV (v : Nat → Int32) : Nat → Int32 := upd v 4 (mn9 (v 4 + wght v))
def dayV (v : Nat → Int32) : Nat → Int32 := upd (ageV (sumV v) (nN (v 0))) 2 (v 2 + 1)
def passV (v : Nat → Int32) : (Nat → Int32) × Option Nat := fallV (nN (v 0)) (dayV v) none
def ansV (v : Nat → Int32) (i : Int32) : Nat → Int32 := if behB v i = true then awayV v i (v (24 + nN i) / 2) else v
def putV (v : Nat → Int32) (i : Int32) : Nat → Int32 := if hasL v i = true ∧ behB v i = false then upd (upd v 3 (v 3 ||| (1 <<< (i &&& 31)))) (30 + nN i) 0 else v
def drawV (v : Nat → Int32) (x : Int64) : Nat → Int32 := if v 0 < 1 then v else if x - x / 3 * 3 = 0 then ansV v (x - x / (v 0).toInt64 * (v 0).toInt64).toInt32 else if x - x / 3 * 3 = 1 then putV v (x - x / (v 0).toInt64 * (v 0).toInt64).toInt32 else v
theorem ntf_lt {v : Nat → Int32} : ∀ {j k : Nat}, ntf v j = some k → k < j ∧ behB v (nI k) = true
  | 0, _, h => by simp [ntf] at h
  | j + 1, k, h => by
    simp only [ntf] at h
    split at h
    · rename_i hc
      cases h
      exact ⟨by omega, hc.1⟩
    · have := ntf_lt h
      exact ⟨by omega, this.2⟩
theorem behB_c {v w : Nat → Int32} (h0 : w 0 = v 0) (h3 : w 3 = v 3) (i : Int32) : behB w i = behB v i := by unfold behB hasL; rw [h0, h3]
theorem hasL_c {v w : Nat → Int32} (h0 : w 0 = v 0) (i : Int32) : hasL w i = hasL v i := by unfold hasL; rw [h0]
theorem hasL_nI {v : Nat → Int32} {j : Nat} (hj : j < nN (v 0)) : hasL v (nI j) = true := by
  have := nN_lt (v 0)
  simp only [hasL, Bool.and_eq_true, decide_eq_true_eq]
  exact ⟨nI_pos' (by omega), (lt_nN (by omega)).mpr hj⟩
theorem hasL_ix {v : Nat → Int32} {i : Int32} (h : hasL v i = true) (h6 : nN (v 0) ≤ 6) : ∃ j : Nat, j < nN (v 0) ∧ j < 6 ∧ i = nI j := by
  simp only [hasL, Bool.and_eq_true, decide_eq_true_eq] at h
  exact has_ix h.1 h.2 h6
theorem behB_has {v : Nat → Int32} {i : Int32} (h : behB v i = true) : hasL v i = true := by
  simp only [behB, Bool.and_eq_true] at h
  exact h.1
theorem hasL_m {v : Nat → Int32} : hasL v (-1000000) = false := by
  simp [hasL]
theorem oI_n {f : Option Nat} (h : ∀ k, f = some k → k < 6) : oI f = -1000000 ↔ f = none := by
  cases f with
  | none => simp [oI]
  | some k =>
    have := h k rfl
    simp only [oI]
    constructor
    · intro q
      have q2 := congrArg Int32.toInt q
      rw [nI_toInt (by omega), show (-1000000 : Int32).toInt = -1000000 by decide] at q2
      omega
    · intro q; cases q
theorem HX.setL2 {G G' : gG} {h j : Nat} {s : Int32} {v w : Nat → Int32} (hH : HX G h s v) (hj : j < 6) (hL : LX G' (h + 2 + j) (letL w j)) (hF : Frm G G' (h + 2 + j) 1) (hw : ∀ k, k < 36 → (k ≠ 6 + j ∧ k ≠ 12 + j ∧ k ≠ 18 + j ∧ k ≠ 24 + j ∧ k ≠ 30 + j) → w k = v k) : HX G' h s w := by
  refine ⟨?_, (hF _ (by omega)).trans hH.2.1, fun i hi => ?_⟩
  · rw [hF _ (by omega), hw 0 (by omega) (by omega), hw 1 (by omega) (by omega), hw 2 (by omega) (by omega), hw 3 (by omega) (by omega), hw 4 (by omega) (by omega), hw 5 (by omega) (by omega)]
    exact hH.1
  · by_cases e : i = j
    · subst e; exact hL
    · have := (hH.2.2 i hi).frm hF (by omega)
      unfold letL at this ⊢
      rw [hw (6 + i) (by omega) (by omega), hw (12 + i) (by omega) (by omega), hw (18 + i) (by omega) (by omega), hw (24 + i) (by omega) (by omega), hw (30 + i) (by omega) (by omega)]
      exact this
theorem becV_0 {v w : Nat → Int32} : ∀ k, k < 36 → upd (upd (upd (upd (upd (upd v 0 (w 0)) 1 (w 1)) 3 (w 3)) 2 (w 2)) 4 (w 4)) 5 (w 5) k = becV v w 0 k := by
  intro k hk
  unfold becV upd
  rcases (show k = 0 ∨ k = 1 ∨ k = 2 ∨ k = 3 ∨ k = 4 ∨ k = 5 ∨ 6 ≤ k by omega) with rfl | rfl | rfl | rfl | rfl | rfl | h <;> first | rfl | skip
  rw [if_neg (by omega), if_neg (by omega), if_neg (by omega), if_neg (by omega), if_neg (by omega), if_neg (by omega), if_neg (by omega), if_neg (by omega)]
theorem becV_s {v w : Nat → Int32} {j : Nat} (hj : j < 6) : ∀ k, k < 36 → (k ≠ 6 + j ∧ k ≠ 12 + j ∧ k ≠ 18 + j ∧ k ≠ 24 + j ∧ k ≠ 30 + j) → becV v w (j + 1) k = becV v w j k := by
  intro k hk hne
  unfold becV
  by_cases h6 : k < 6
  · rw [if_pos h6, if_pos h6]
  · rw [if_neg h6, if_neg h6]
    by_cases hq : (k - 6) % 6 < j
    · rw [if_pos (by omega), if_pos hq]
    · rw [if_neg (by omega), if_neg hq]
theorem becV_l {v w : Nat → Int32} {j m : Nat} (hj : j < 6) (hm : j < m) : letL (becV v w m) j = letL w j := by
  unfold letL becV
  rw [if_neg (by omega), if_pos (by omega), if_neg (by omega), if_pos (by omega), if_neg (by omega), if_pos (by omega), if_neg (by omega), if_pos (by omega), if_neg (by omega), if_pos (by omega)]
theorem ageV_n {v : Nat → Int32} {m k : Nat} (h : k < 30) : ageV v m k = v k := by
  unfold ageV
  rw [if_neg (by omega)]
theorem ageV_0 {v : Nat → Int32} : ∀ k, k < 36 → v k = ageV v 0 k := by
  intro k _
  unfold ageV
  rw [if_neg (by omega)]
theorem ageV_t {v : Nat → Int32} {j : Nat} (hb : behB v (nI j) = true) : ∀ k, k < 36 → upd (ageV v j) (30 + j) (mn99 (v (30 + j) + 1)) k = ageV v (j + 1) k := by
  intro k _
  unfold ageV upd
  by_cases h : k = 30 + j
  · subst h
    rw [if_pos rfl, if_pos ⟨by omega, by omega, by rw [show 30 + j - 30 = j by omega]; exact hb⟩]
  · rw [if_neg h]
    show (if 30 ≤ k ∧ k < 30 + j ∧ behB v (nI (k - 30)) = true then mn99 (v k + 1) else v k) = _
    by_cases q : 30 ≤ k ∧ k < 30 + j ∧ behB v (nI (k - 30)) = true
    · rw [if_pos q, if_pos ⟨q.1, by omega, q.2.2⟩]
    · rw [if_neg q, if_neg (fun z => q ⟨z.1, by omega, z.2.2⟩)]
theorem ageV_f {v : Nat → Int32} {j : Nat} (hb : ¬ behB v (nI j) = true) : ∀ k, k < 36 → ageV v j k = ageV v (j + 1) k := by
  intro k _
  unfold ageV
  by_cases q : 30 ≤ k ∧ k < 30 + j ∧ behB v (nI (k - 30)) = true
  · rw [if_pos q, if_pos ⟨q.1, by omega, q.2.2⟩]
  · rw [if_neg q, if_neg (fun z => q ⟨z.1, by
      by_cases e : k = 30 + j
      · subst e
        rw [show 30 + j - 30 = j by omega] at z
        exact absurd z.2.2 hb
      · omega, z.2.2⟩)]
theorem ageV_at {v : Nat → Int32} {j : Nat} : ageV v j (30 + j) = v (30 + j) := by
  unfold ageV
  rw [if_neg (by omega)]
theorem dayV_n {v : Nat → Int32} {k : Nat} (h : k < 30) (h2 : k ≠ 2) (h4 : k ≠ 4) : dayV v k = v k := by
  unfold dayV sumV
  rw [upd_n h2, ageV_n h, upd_n h4]
theorem c_H_clear {E : gX} {S : Nat} {G : gG} {Q : Option Value → gG → Prop} {h : Nat} {s : Int32} {v : Nat → Int32} (hH : HX G h s v) (hQ : ∀ G' : gG, HX G' h 0 (upd (upd (upd (upd (upd (upd v 0 0) 1 0) 3 0) 2 0) 4 0) 5 0) → Frm G G' h 8 → Q none G') : Runs E y_H_clear 1 0 S [.ref h] G Q := by
  refine Runs.of "ClockPost$House" [some (.ref h)] cw_H_clear (by decide) (by decide +kernel) rfl (Nat.le_of_ble_eq_true rfl) rfl (fun K hK => ?_)
  have hF : Frm G G h 8 := Frm.rf
  refine r_aload_n hK d_H_clear_0 rfl ?_
  refine r_iconst hK d_H_clear_1 kc_0 ?_
  refine p_H_stands hK lf_H_18 d_H_clear_2 hH rfl rfl (fun G2 hH f2 => ?_)
  have hF := hF.tr f2
  refine r_aload_n hK d_H_clear_5 rfl ?_
  refine r_iconst hK d_H_clear_6 kc_0 ?_
  refine p_H_letterCount hK lf_H_22 d_H_clear_7 hH (fun G7 hH f7 => ?_)
  have hF := hF.tr f7
  refine r_aload_n hK d_H_clear_10 rfl ?_
  refine r_iconst hK d_H_clear_11 kc_0 ?_
  refine p_H_gap hK lf_H_26 d_H_clear_12 hH (fun G12 hH f12 => ?_)
  have hF := hF.tr f12
  refine r_aload_n hK d_H_clear_15 rfl ?_
  refine r_iconst hK d_H_clear_16 kc_0 ?_
  refine p_H_behindBits hK lf_H_29 d_H_clear_17 hH (fun G17 hH f17 => ?_)
  have hF := hF.tr f17
  refine r_aload_n hK d_H_clear_20 rfl ?_
  refine r_iconst hK d_H_clear_21 kc_0 ?_
  refine p_H_day hK lf_H_32 d_H_clear_22 hH (fun G22 hH f22 => ?_)
  have hF := hF.tr f22
  refine r_aload_n hK d_H_clear_25 rfl ?_
  refine r_iconst hK d_H_clear_26 kc_0 ?_
  refine p_H_sum hK lf_H_35 d_H_clear_27 hH (fun G27 hH f27 => ?_)
  have hF := hF.tr f27
  refine r_aload_n hK d_H_clear_30 rfl ?_
  refine r_iconst hK d_H_clear_31 kc_0 ?_
  refine p_H_sorrow hK lf_H_38 d_H_clear_32 hH (fun G32 hH f32 => ?_)
  have hF := hF.tr f32
  refine r_vret hK rfl rfl d_H_clear_35 ?_
  exact hQ _ hH hF
theorem c_H_hasLetter {E : gX} {S : Nat} {G : gG} {Q : Option Value → gG → Prop} {h : Nat} {s : Int32} {v : Nat → Int32} (hH : HX G h s v) {i : Int32} (hQ : Q (some (.int (bI (hasL v i)))) G) : Runs E y_H_hasLetter 1 0 S [.ref h, .int i] G Q := by
  refine Runs.of "ClockPost$House" [some (.ref h), some (.int i)] cw_H_hasLetter (by decide) (by decide +kernel) rfl (Nat.le_of_ble_eq_true rfl) rfl (fun K hK => ?_)
  refine r_iload_n hK d_H_hasLetter_0 rfl ?_
  refine r_if_lt (tgt := 16) hK d_H_hasLetter_1 rfl (fun h1 => ?_) (fun h1 => ?_)
  · skip
    refine r_iconst hK d_H_hasLetter_16 kc_0 ?_
    refine r_zret hK rfl (rfl) rfl d_H_hasLetter_17 ?_
    first | exact rc hQ (bI_t (by clear hK hQ; simp only [hasL, Bool.and_eq_true, Bool.or_eq_true, Bool.not_eq_true', decide_eq_true_eq, decide_eq_false_iff_not, i_lt, i_le, i_eq, ti_0, ti_1, ti_2, ti_3, ti_4, ti_5, ti_6, ti_7, ti_8, ti_9, ti_10, ti_11, ti_12, ti_13, ti_14, ti_16, ti_20, ti_21, ti_22, ti_23, ti_24, ti_30, ti_31, ti_36, ti_40, ti_44, ti_48, ti_57, ti_59, ti_60, ti_61, ti_63, ti_64, ti_98, ti_99, ti_100, ti_101, ti_110, ti_115, ti_128, ti_255, ti_300, ti_900, ti_972, ti_999, ti_1000, ti_9999, ti_m1] at *; omega)) | exact rc hQ (bI_f (by intro hq; clear hK hQ; simp only [hasL, Bool.and_eq_true, Bool.or_eq_true, Bool.not_eq_true', decide_eq_true_eq, decide_eq_false_iff_not, i_lt, i_le, i_eq, ti_0, ti_1, ti_2, ti_3, ti_4, ti_5, ti_6, ti_7, ti_8, ti_9, ti_10, ti_11, ti_12, ti_13, ti_14, ti_16, ti_20, ti_21, ti_22, ti_23, ti_24, ti_30, ti_31, ti_36, ti_40, ti_44, ti_48, ti_57, ti_59, ti_60, ti_61, ti_63, ti_64, ti_98, ti_99, ti_100, ti_101, ti_110, ti_115, ti_128, ti_255, ti_300, ti_900, ti_972, ti_999, ti_1000, ti_9999, ti_m1] at *; omega))
  · skip
    refine r_iload_n hK d_H_hasLetter_4 rfl ?_
    refine r_aload_n hK d_H_hasLetter_5 rfl ?_
    refine r_get hK lf_H_22 d_H_hasLetter_6 (hH.1) rfl ?_
    refine r_icmp_ge (tgt := 16) hK d_H_hasLetter_9 rfl (fun h9 => ?_) (fun h9 => ?_)
    · skip
      refine r_iconst hK d_H_hasLetter_16 kc_0 ?_
      refine r_zret hK rfl (rfl) rfl d_H_hasLetter_17 ?_
      first | exact rc hQ (bI_t (by clear hK hQ; simp only [hasL, Bool.and_eq_true, Bool.or_eq_true, Bool.not_eq_true', decide_eq_true_eq, decide_eq_false_iff_not, i_lt, i_le, i_eq, ti_0, ti_1, ti_2, ti_3, ti_4, ti_5, ti_6, ti_7, ti_8, ti_9, ti_10, ti_11, ti_12, ti_13, ti_14, ti_16, ti_20, ti_21, ti_22, ti_23, ti_24, ti_30, ti_31, ti_36, ti_40, ti_44, ti_48, ti_57, ti_59, ti_60, ti_61, ti_63, ti_64, ti_98, ti_99, ti_100, ti_101, ti_110, ti_115, ti_128, ti_255, ti_300, ti_900, ti_972, ti_999, ti_1000, ti_9999, ti_m1] at *; omega)) | exact rc hQ (bI_f (by intro hq; clear hK hQ; simp only [hasL, Bool.and_eq_true, Bool.or_eq_true, Bool.not_eq_true', decide_eq_true_eq, decide_eq_false_iff_not, i_lt, i_le, i_eq, ti_0, ti_1, ti_2, ti_3, ti_4, ti_5, ti_6, ti_7, ti_8, ti_9, ti_10, ti_11, ti_12, ti_13, ti_14, ti_16, ti_20, ti_21, ti_22, ti_23, ti_24, ti_30, ti_31, ti_36, ti_40, ti_44, ti_48, ti_57, ti_59, ti_60, ti_61, ti_63, ti_64, ti_98, ti_99, ti_100, ti_101, ti_110, ti_115, ti_128, ti_255, ti_300, ti_900, ti_972, ti_999, ti_1000, ti_9999, ti_m1] at *; omega))
    · skip
      refine r_iconst hK d_H_hasLetter_12 kc_1 ?_
      refine r_goto (tgt := 17) hK d_H_hasLetter_13 rfl ?_
      refine r_zret hK rfl (rfl) rfl d_H_hasLetter_17 ?_
      first | exact rc hQ (bI_t (by clear hK hQ; simp only [hasL, Bool.and_eq_true, Bool.or_eq_true, Bool.not_eq_true', decide_eq_true_eq, decide_eq_false_iff_not, i_lt, i_le, i_eq, ti_0, ti_1, ti_2, ti_3, ti_4, ti_5, ti_6, ti_7, ti_8, ti_9, ti_10, ti_11, ti_12, ti_13, ti_14, ti_16, ti_20, ti_21, ti_22, ti_23, ti_24, ti_30, ti_31, ti_36, ti_40, ti_44, ti_48, ti_57, ti_59, ti_60, ti_61, ti_63, ti_64, ti_98, ti_99, ti_100, ti_101, ti_110, ti_115, ti_128, ti_255, ti_300, ti_900, ti_972, ti_999, ti_1000, ti_9999, ti_m1] at *; omega)) | exact rc hQ (bI_f (by intro hq; clear hK hQ; simp only [hasL, Bool.and_eq_true, Bool.or_eq_true, Bool.not_eq_true', decide_eq_true_eq, decide_eq_false_iff_not, i_lt, i_le, i_eq, ti_0, ti_1, ti_2, ti_3, ti_4, ti_5, ti_6, ti_7, ti_8, ti_9, ti_10, ti_11, ti_12, ti_13, ti_14, ti_16, ti_20, ti_21, ti_22, ti_23, ti_24, ti_30, ti_31, ti_36, ti_40, ti_44, ti_48, ti_57, ti_59, ti_60, ti_61, ti_63, ti_64, ti_98, ti_99, ti_100, ti_101, ti_110, ti_115, ti_128, ti_255, ti_300, ti_900, ti_972, ti_999, ti_1000, ti_9999, ti_m1] at *; omega))
theorem c_H_isBehind {E : gX} {S : Nat} {G : gG} {Q : Option Value → gG → Prop} {h : Nat} {s : Int32} {v : Nat → Int32} (hH : HX G h s v) {i : Int32} (hQ : Q (some (.int (bI (behB v i)))) G) : Runs E y_H_isBehind 2 0 S [.ref h, .int i] G Q := by
  refine Runs.of "ClockPost$House" [some (.ref h), some (.int i)] cw_H_isBehind (by decide) (by decide +kernel) rfl (Nat.le_of_ble_eq_true rfl) rfl (fun K hK => ?_)
  refine r_aload_n hK d_H_isBehind_0 rfl ?_
  refine r_iload_n hK d_H_isBehind_1 rfl ?_
  refine r_v1 (k' := 1) hK lm_H_45 d_H_isBehind_2 ⟨_, hH.1⟩ (by decide) (Nat.le_of_ble_eq_true rfl) ?_
  refine c_H_hasLetter hH (kc_s ?_)
  refine r_if_eq (tgt := 24) hK d_H_isBehind_5 rfl (fun h5 => ?_) (fun h5 => ?_)
  · skip
    have hb := bI_0.mp h5
    refine r_iconst hK d_H_isBehind_24 kc_0 ?_
    refine r_zret hK rfl (rfl) rfl d_H_isBehind_25 ?_
    first | exact rc hQ (bI_t (by simp [behB, hb, bitB, *])) | exact rc hQ (bI_f (by simp [behB, hb, bitB, *]))
  · skip
    have hb := bI_n0.mp h5
    refine r_aload_n hK d_H_isBehind_8 rfl ?_
    refine r_get hK lf_H_29 d_H_isBehind_9 (hH.1) rfl ?_
    refine r_iload_n hK d_H_isBehind_12 rfl ?_
    refine r_ishr hK d_H_isBehind_13 ?_
    refine r_iconst hK d_H_isBehind_14 kc_1 ?_
    refine r_iand hK d_H_isBehind_15 ?_
    refine r_iconst hK d_H_isBehind_16 kc_1 ?_
    refine r_icmp_ne (tgt := 24) hK d_H_isBehind_17 rfl (fun h17 => ?_) (fun h17 => ?_)
    · skip
      refine r_iconst hK d_H_isBehind_24 kc_0 ?_
      refine r_zret hK rfl (rfl) rfl d_H_isBehind_25 ?_
      first | exact rc hQ (bI_t (by simp [behB, hb, bitB, *])) | exact rc hQ (bI_f (by simp [behB, hb, bitB, *]))
    · skip
      refine r_iconst hK d_H_isBehind_20 kc_1 ?_
      refine r_goto (tgt := 25) hK d_H_isBehind_21 rfl ?_
      refine r_zret hK rfl (rfl) rfl d_H_isBehind_25 ?_
      first | exact rc hQ (bI_t (by simp [behB, hb, bitB, *])) | exact rc hQ (bI_f (by simp [behB, hb, bitB, *]))
theorem c_H_become {E : gX} {S : Nat} {G : gG} {Q : Option Value → gG → Prop} {h o : Nat} {s : Int32} {b : Bool} {v w : Nat → Int32} (hH : HX G h s v) (hO : HX G o (bI b) w) (hn : nN (w 0) ≤ 6) (hd : h + 8 ≤ o ∨ o + 8 ≤ h) (hQ : ∀ G' : gG, HX G' h (bI b) (becV v w (nN (w 0))) → Frm G G' h 8 → Q none G') : Runs E y_H_become 2 0 S [.ref h, .ref o] G Q := by
  refine Runs.of "ClockPost$House" [some (.ref h), some (.ref o), none] cw_H_become (by decide) (by decide +kernel) rfl (Nat.le_of_ble_eq_true rfl) rfl (fun K hK => ?_)
  have hF : Frm G G h 8 := Frm.rf
  refine r_aload_n hK d_H_become_0 rfl ?_
  refine r_aload_n hK d_H_become_1 rfl ?_
  refine r_get hK lf_H_18 d_H_become_2 (hO.1) rfl ?_
  refine p_H_stands hK lf_H_18 d_H_become_5 hH (bI_nar b) (bI_fit b) (fun G5 hH f5 => ?_)
  have hF := hF.tr f5
  have hO := hO.frm f5 (by omega)
  refine r_aload_n hK d_H_become_8 rfl ?_
  refine r_aload_n hK d_H_become_9 rfl ?_
  refine r_get hK lf_H_22 d_H_become_10 (hO.1) rfl ?_
  refine p_H_letterCount hK lf_H_22 d_H_become_13 hH (fun G13 hH f13 => ?_)
  have hF := hF.tr f13
  have hO := hO.frm f13 (by omega)
  refine r_aload_n hK d_H_become_16 rfl ?_
  refine r_aload_n hK d_H_become_17 rfl ?_
  refine r_get hK lf_H_26 d_H_become_18 (hO.1) rfl ?_
  refine p_H_gap hK lf_H_26 d_H_become_21 hH (fun G21 hH f21 => ?_)
  have hF := hF.tr f21
  have hO := hO.frm f21 (by omega)
  refine r_aload_n hK d_H_become_24 rfl ?_
  refine r_aload_n hK d_H_become_25 rfl ?_
  refine r_get hK lf_H_29 d_H_become_26 (hO.1) rfl ?_
  refine p_H_behindBits hK lf_H_29 d_H_become_29 hH (fun G29 hH f29 => ?_)
  have hF := hF.tr f29
  have hO := hO.frm f29 (by omega)
  refine r_aload_n hK d_H_become_32 rfl ?_
  refine r_aload_n hK d_H_become_33 rfl ?_
  refine r_get hK lf_H_32 d_H_become_34 (hO.1) rfl ?_
  refine p_H_day hK lf_H_32 d_H_become_37 hH (fun G37 hH f37 => ?_)
  have hF := hF.tr f37
  have hO := hO.frm f37 (by omega)
  refine r_aload_n hK d_H_become_40 rfl ?_
  refine r_aload_n hK d_H_become_41 rfl ?_
  refine r_get hK lf_H_35 d_H_become_42 (hO.1) rfl ?_
  refine p_H_sum hK lf_H_35 d_H_become_45 hH (fun G45 hH f45 => ?_)
  have hF := hF.tr f45
  have hO := hO.frm f45 (by omega)
  refine r_aload_n hK d_H_become_48 rfl ?_
  refine r_aload_n hK d_H_become_49 rfl ?_
  refine r_get hK lf_H_38 d_H_become_50 (hO.1) rfl ?_
  refine p_H_sorrow hK lf_H_38 d_H_become_53 hH (fun G53 hH f53 => ?_)
  have hF := hF.tr f53
  have hO := hO.frm f53 (by omega)
  have hH := hH.cast becV_0
  refine r_iconst hK d_H_become_56 kc_0 ?_
  refine st_in_2_3 hK d_H_become_57 trivial ?_
  suffices L : ∀ j, j ≤ nN (w 0) → ∀ G1 : gG, HX G1 h (bI b) (becV v w j) → HX G1 o (bI b) w → Frm G G1 h 8 → K 58 [some (.ref h), some (.ref o), some (.int (nI j))] [] S G1 from L 0 (Nat.zero_le _) _ hH hO hF
  refine lpN (nN (w 0)) (fun j hj ih G1 hH hO hF => ?_)
  have e0 : becV v w j 0 = w 0 := rfl
  refine r_iload_n hK d_H_become_58 rfl ?_
  refine r_aload_n hK d_H_become_59 rfl ?_
  refine r_get hK lf_H_22 d_H_become_60 (hH.1) rfl ?_
  refine r_icmp_ge (tgt := 87) hK d_H_become_63 rfl (fun h63 => ?_) (fun h63 => ?_)
  · skip
    have hq : j = nN (w 0) := by have := (ge_nN (by omega)).mp h63; rw [e0] at this; omega
    refine r_vret hK rfl rfl d_H_become_87 ?_
    exact hQ _ (hq ▸ hH) hF
  · skip
    have hq : j < nN (w 0) := (lt_nN (by omega)).mp (Int32.not_le.mp (by rw [← e0]; exact h63))
    have hj6 : j < 6 := by omega
    refine r_aload_n hK d_H_become_66 rfl ?_
    refine r_get hK lf_H_11 d_H_become_67 (hH.1) rfl ?_
    refine r_iload_n hK d_H_become_70 rfl ?_
    refine g_let hK d_H_become_71 hH hj6 ?_
    refine r_aload_n hK d_H_become_72 rfl ?_
    refine r_get hK lf_H_11 d_H_become_73 (hO.1) rfl ?_
    refine r_iload_n hK d_H_become_76 rfl ?_
    refine g_let hK d_H_become_77 hO hj6 ?_
    refine r_v1 (k' := 1) hK lm_H_41 d_H_become_78 ⟨_, hH.2.2 j hj6⟩ (by decide) (Nat.le_of_ble_eq_true rfl) ?_
    refine c_L_become (hH.2.2 j hj6) (hO.2.2 j hj6) (by omega) (fun G78 hL f78 => kc_n ?_)
    have hO := hO.frm f78 (by omega)
    have hH := hH.setL2 hj6 ((becV_l (m := j + 1) hj6 (by omega)).symm ▸ hL : LX G78 _ (letL (becV v w (j + 1)) j)) f78 (becV_s hj6)
    have hF := hF.tr (f78.mono (by omega) (by omega))
    first | refine iN_2_3 hK d_H_become_81 trivial ?_ | refine ii_2_1_3 hK d_H_become_81 trivial ?_
    refine r_goto (tgt := 58) hK d_H_become_84 rfl ?_
    exact ih hq _ hH hO hF
theorem c_H_weightOf {E : gX} {S : Nat} {G : gG} {Q : Option Value → gG → Prop} {h : Nat} {s : Int32} {v : Nat → Int32} (hH : HX G h s v) {j : Nat} (hj : j < 6) (hQ : Q (some (.int (wOf v j))) G) : Runs E y_H_weightOf 3 0 S [.ref h, .int (nI j)] G Q := by
  refine Runs.of "ClockPost$House" [some (.ref h), some (.int (nI j))] cw_H_weightOf (by decide) (by decide +kernel) rfl (Nat.le_of_ble_eq_true rfl) rfl (fun K hK => ?_)
  refine r_aload_n hK d_H_weightOf_0 rfl ?_
  refine r_iload_n hK d_H_weightOf_1 rfl ?_
  refine r_v1 (k' := 2) hK lm_H_49 d_H_weightOf_2 ⟨_, hH.1⟩ (by decide) (Nat.le_of_ble_eq_true rfl) ?_
  refine c_H_isBehind hH (kc_s ?_)
  refine r_if_eq (tgt := 29) hK d_H_weightOf_5 rfl (fun h5 => ?_) (fun h5 => ?_)
  · skip
    have hb := bI_0.mp h5
    refine r_iconst hK d_H_weightOf_29 kc_0 ?_
    refine r_iret hK rfl rfl d_H_weightOf_30 ?_
    first | exact rc hQ (by rw [wOf, if_pos hb]) | exact rc hQ (by rw [wOf, if_neg (by simp [hb])])
  · skip
    have hb := bI_n0.mp h5
    refine r_aload_n hK d_H_weightOf_8 rfl ?_
    refine r_get hK lf_H_11 d_H_weightOf_9 (hH.1) rfl ?_
    refine r_iload_n hK d_H_weightOf_12 rfl ?_
    refine g_let hK d_H_weightOf_13 hH hj ?_
    refine r_aload_n hK d_H_weightOf_14 rfl ?_
    refine r_get hK lf_H_29 d_H_weightOf_15 (hH.1) rfl ?_
    refine r_s1 (k' := 1) hK lm_H_52 d_H_weightOf_18 (by decide) (Nat.le_of_ble_eq_true rfl) ?_
    refine c_JI_bitCount (kc_s ?_)
    refine r_iconst hK d_H_weightOf_21 kc_1 ?_
    refine r_isub hK d_H_weightOf_22 ?_
    refine r_v1 (k' := 1) hK lm_H_58 d_H_weightOf_23 ⟨_, hH.2.2 j hj⟩ (by decide) (Nat.le_of_ble_eq_true rfl) ?_
    refine c_L_weighAmong (hH.2.2 j hj) (kc_s ?_)
    refine r_goto (tgt := 30) hK d_H_weightOf_26 rfl ?_
    refine r_iret hK rfl rfl d_H_weightOf_30 ?_
    first | exact rc hQ (by rw [wOf, if_pos hb]) | exact rc hQ (by rw [wOf, if_neg (by simp [hb])])
theorem c_H_weight {E : gX} {S : Nat} {G : gG} {Q : Option Value → gG → Prop} {h : Nat} {s : Int32} {v : Nat → Int32} (hH : HX G h s v) (hn : nN (v 0) ≤ 6) (hQ : Q (some (.int (wght v))) G) : Runs E y_H_weight 4 0 S [.ref h] G Q := by
  refine Runs.of "ClockPost$House" [some (.ref h), none, none] cw_H_weight (by decide) (by decide +kernel) rfl (Nat.le_of_ble_eq_true rfl) rfl (fun K hK => ?_)
  refine r_iconst hK d_H_weight_0 kc_0 ?_
  refine st_in_1_3 hK d_H_weight_1 trivial ?_
  refine r_iconst hK d_H_weight_2 kc_0 ?_
  refine st_in_2_3 hK d_H_weight_3 trivial ?_
  suffices L : ∀ j, j ≤ nN (v 0) → K 4 [some (.ref h), some (.int (wSum v j)), some (.int (nI j))] [] S G from L 0 (Nat.zero_le _)
  refine lpN (nN (v 0)) (fun j hj ih => ?_)
  refine r_iload_n hK d_H_weight_4 rfl ?_
  refine r_aload_n hK d_H_weight_5 rfl ?_
  refine r_get hK lf_H_22 d_H_weight_6 (hH.1) rfl ?_
  refine r_icmp_ge (tgt := 26) hK d_H_weight_9 rfl (fun h9 => ?_) (fun h9 => ?_)
  · skip
    have hq : j = nN (v 0) := by have := (ge_nN (by omega)).mp h9; omega
    refine r_iload_n hK d_H_weight_26 rfl ?_
    refine r_iret hK rfl rfl d_H_weight_27 ?_
    exact rc hQ (by rw [wght, hq])
  · skip
    have hq : j < nN (v 0) := (lt_nN (by omega)).mp (Int32.not_le.mp h9)
    refine r_iload_n hK d_H_weight_12 rfl ?_
    refine r_aload_n hK d_H_weight_13 rfl ?_
    refine r_iload_n hK d_H_weight_14 rfl ?_
    refine r_v1 (k' := 3) hK lm_H_61 d_H_weight_15 ⟨_, hH.1⟩ (by decide) (Nat.le_of_ble_eq_true rfl) ?_
    refine c_H_weightOf hH (by omega) (kc_s ?_)
    refine r_iadd hK d_H_weight_18 ?_
    refine st_in_1_3 hK d_H_weight_19 trivial ?_
    first | refine iN_2_3 hK d_H_weight_20 trivial ?_ | refine ii_2_1_3 hK d_H_weight_20 trivial ?_
    refine r_goto (tgt := 4) hK d_H_weight_23 rfl ?_
    exact ih hq
theorem c_H_thickness {E : gX} {S : Nat} {G : gG} {Q : Option Value → gG → Prop} {h : Nat} {s : Int32} {v : Nat → Int32} (hH : HX G h s v) (hn : nN (v 0) ≤ 6) (hQ : Q (some (.int (thck v))) G) : Runs E y_H_thickness 3 0 S [.ref h] G Q := by
  refine Runs.of "ClockPost$House" [some (.ref h), none, none] cw_H_thickness (by decide) (by decide +kernel) rfl (Nat.le_of_ble_eq_true rfl) rfl (fun K hK => ?_)
  refine r_iconst hK d_H_thickness_0 kc_0 ?_
  refine st_in_1_3 hK d_H_thickness_1 trivial ?_
  refine r_iconst hK d_H_thickness_2 kc_0 ?_
  refine st_in_2_3 hK d_H_thickness_3 trivial ?_
  suffices L : ∀ j, j ≤ nN (v 0) → K 4 [some (.ref h), some (.int (tSum v j)), some (.int (nI j))] [] S G from L 0 (Nat.zero_le _)
  refine lpN (nN (v 0)) (fun j hj ih => ?_)
  refine r_iload_n hK d_H_thickness_4 rfl ?_
  refine r_aload_n hK d_H_thickness_5 rfl ?_
  refine r_get hK lf_H_22 d_H_thickness_6 (hH.1) rfl ?_
  refine r_icmp_ge (tgt := 42) hK d_H_thickness_9 rfl (fun h9 => ?_) (fun h9 => ?_)
  · skip
    have hq : j = nN (v 0) := by have := (ge_nN (by omega)).mp h9; omega
    refine r_iload_n hK d_H_thickness_42 rfl ?_
    refine r_iret hK rfl rfl d_H_thickness_43 ?_
    exact rc hQ (by rw [thck, hq])
  · skip
    have hq : j < nN (v 0) := (lt_nN (by omega)).mp (Int32.not_le.mp h9)
    refine r_iload_n hK d_H_thickness_12 rfl ?_
    refine r_aload_n hK d_H_thickness_13 rfl ?_
    refine r_iload_n hK d_H_thickness_14 rfl ?_
    refine r_v1 (k' := 2) hK lm_H_49 d_H_thickness_15 ⟨_, hH.1⟩ (by decide) (Nat.le_of_ble_eq_true rfl) ?_
    refine c_H_isBehind hH (kc_s ?_)
    refine r_if_eq (tgt := 33) hK d_H_thickness_18 rfl (fun h18 => ?_) (fun h18 => ?_)
    · skip
      have hb := bI_0.mp h18
      have e : tSum v (j + 1) = tSum v j + 0 := by rw [tSum, if_neg (by simp [hb])]
      refine r_iconst hK d_H_thickness_33 kc_0 ?_
      refine r_iadd hK d_H_thickness_34 ?_
      refine st_in_1_3 hK d_H_thickness_35 trivial ?_
      first | refine iN_2_3 hK d_H_thickness_36 trivial ?_ | refine ii_2_1_3 hK d_H_thickness_36 trivial ?_
      refine r_goto (tgt := 4) hK d_H_thickness_39 rfl ?_
      exact e ▸ ih hq
    · skip
      have hb := bI_n0.mp h18
      have e : tSum v (j + 1) = tSum v j + v (18 + j) := by rw [tSum, if_pos hb]
      refine r_aload_n hK d_H_thickness_21 rfl ?_
      refine r_get hK lf_H_11 d_H_thickness_22 (hH.1) rfl ?_
      refine r_iload_n hK d_H_thickness_25 rfl ?_
      refine g_let hK d_H_thickness_26 hH (show j < 6 by omega) ?_
      refine r_get hK lf_H_64 d_H_thickness_27 (hH.2.2 j (by omega)) rfl ?_
      refine r_goto (tgt := 34) hK d_H_thickness_30 rfl ?_
      refine r_iadd hK d_H_thickness_34 ?_
      refine st_in_1_3 hK d_H_thickness_35 trivial ?_
      first | refine iN_2_3 hK d_H_thickness_36 trivial ?_ | refine ii_2_1_3 hK d_H_thickness_36 trivial ?_
      refine r_goto (tgt := 4) hK d_H_thickness_39 rfl ?_
      exact e ▸ ih hq
theorem c_H_takeAway {E : gX} {S : Nat} {G : gG} {Q : Option Value → gG → Prop} {h : Nat} {s : Int32} {v : Nat → Int32} (hH : HX G h s v) {i g : Int32} (hQ : ∀ G' : gG, HX G' h s (awayV v i g) → Frm G G' h 8 → Q none G') : Runs E y_H_takeAway 2 0 S [.ref h, .int i, .int g] G Q := by
  refine Runs.of "ClockPost$House" [some (.ref h), some (.int i), some (.int g)] cw_H_takeAway (by decide) (by decide +kernel) rfl (Nat.le_of_ble_eq_true rfl) rfl (fun K hK => ?_)
  have hF : Frm G G h 8 := Frm.rf
  refine r_aload_n hK d_H_takeAway_0 rfl ?_
  refine r_dup hK d_H_takeAway_1 rfl ?_
  refine r_get hK lf_H_29 d_H_takeAway_2 (hH.1) rfl ?_
  refine r_iconst hK d_H_takeAway_5 kc_1 ?_
  refine r_iload_n hK d_H_takeAway_6 rfl ?_
  refine r_ishl hK d_H_takeAway_7 ?_
  refine r_iconst hK d_H_takeAway_8 kc_m1 ?_
  refine r_ixor hK d_H_takeAway_9 ?_
  refine r_iand hK d_H_takeAway_10 ?_
  refine p_H_behindBits hK lf_H_29 d_H_takeAway_11 hH (fun G11 hH f11 => ?_)
  have hF := hF.tr f11
  refine r_aload_n hK d_H_takeAway_14 rfl ?_
  refine r_sipush hK d_H_takeAway_15 ks_9999 ?_
  refine r_aload_n hK d_H_takeAway_18 rfl ?_
  refine r_get hK lf_H_38 d_H_takeAway_19 (hH.1) rfl ?_
  refine r_iload_n hK d_H_takeAway_22 rfl ?_
  refine r_iadd hK d_H_takeAway_23 ?_
  refine r_mmin hK wo_H_71 (by decide) (Nat.le_of_ble_eq_true rfl) (Nat.le_refl _) d_H_takeAway_24 ?_
  refine p_H_sorrow hK lf_H_38 d_H_takeAway_27 hH (fun G27 hH f27 => ?_)
  have hF := hF.tr f27
  refine r_vret hK rfl rfl d_H_takeAway_30 ?_
  exact hQ _ hH hF
theorem c_H_nextToFall {E : gX} {S : Nat} {G : gG} {Q : Option Value → gG → Prop} {h : Nat} {s : Int32} {v : Nat → Int32} (hH : HX G h s v) (hn : nN (v 0) ≤ 6) (hQ : Q (some (.int (oI (ntf v (nN (v 0)))))) G) : Runs E y_H_nextToFall 3 0 S [.ref h] G Q := by
  refine Runs.of "ClockPost$House" [some (.ref h), none, none] cw_H_nextToFall (by decide) (by decide +kernel) rfl (Nat.le_of_ble_eq_true rfl) rfl (fun K hK => ?_)
  refine r_ldc hK d_H_nextToFall_0 lc_H_80 ?_
  refine st_in_1_3 hK d_H_nextToFall_2 trivial ?_
  refine r_iconst hK d_H_nextToFall_3 kc_0 ?_
  refine st_in_2_3 hK d_H_nextToFall_4 trivial ?_
  suffices L : ∀ j, j ≤ nN (v 0) → K 5 [some (.ref h), some (.int (oI (ntf v j))), some (.int (nI j))] [] S G from L 0 (Nat.zero_le _)
  refine lpN (nN (v 0)) (fun j hj ih => ?_)
  refine r_iload_n hK d_H_nextToFall_5 rfl ?_
  refine r_aload_n hK d_H_nextToFall_6 rfl ?_
  refine r_get hK lf_H_22 d_H_nextToFall_7 (hH.1) rfl ?_
  refine r_icmp_ge (tgt := 55) hK d_H_nextToFall_10 rfl (fun h10 => ?_) (fun h10 => ?_)
  · skip
    have hq : j = nN (v 0) := by have := (ge_nN (by omega)).mp h10; omega
    refine r_iload_n hK d_H_nextToFall_55 rfl ?_
    refine r_iret hK rfl rfl d_H_nextToFall_56 ?_
    exact rc hQ (by rw [hq])
  · skip
    have hq : j < nN (v 0) := (lt_nN (by omega)).mp (Int32.not_le.mp h10)
    refine r_aload_n hK d_H_nextToFall_13 rfl ?_
    refine r_iload_n hK d_H_nextToFall_14 rfl ?_
    refine r_v1 (k' := 2) hK lm_H_49 d_H_nextToFall_15 ⟨_, hH.1⟩ (by decide) (Nat.le_of_ble_eq_true rfl) ?_
    refine c_H_isBehind hH (kc_s ?_)
    refine r_if_eq (tgt := 49) hK d_H_nextToFall_18 rfl (fun h18 => ?_) (fun h18 => ?_)
    · skip
      have hb := bI_0.mp h18
      have e : ntf v (j + 1) = ntf v j := by simp [ntf, hb]
      first | refine iN_2_3 hK d_H_nextToFall_49 trivial ?_ | refine ii_2_1_3 hK d_H_nextToFall_49 trivial ?_
      refine r_goto (tgt := 5) hK d_H_nextToFall_52 rfl ?_
      have hr := ih hq
      rw [e] at hr
      exact hr
    · skip
      have hb := bI_n0.mp h18
      refine r_aload_n hK d_H_nextToFall_21 rfl ?_
      refine r_iload_n hK d_H_nextToFall_22 rfl ?_
      refine r_v1 (k' := 1) hK lm_H_45 d_H_nextToFall_23 ⟨_, hH.1⟩ (by decide) (Nat.le_of_ble_eq_true rfl) ?_
      refine c_H_hasLetter hH (kc_s ?_)
      refine r_if_eq (tgt := 47) hK d_H_nextToFall_26 rfl (fun h26 => ?_) (fun h26 => ?_)
      · skip
        have hz := bI_0.mp h26
        have hc : ∀ k, ntf v j = some k → fAh v j k = true := fun k hk => by
          have := hasL_nI (v := v) (j := k) (Nat.lt_of_lt_of_le (ntf_lt hk).1 hj)
          rw [hk] at hz
          rw [show oI (some k) = nI k from rfl, this] at hz
          cases hz
        have e : ntf v (j + 1) = some j := by rw [ntf, if_pos ⟨hb, hc⟩]
        refine r_iload_n hK d_H_nextToFall_47 rfl ?_
        refine st_in_1_3 hK d_H_nextToFall_48 trivial ?_
        first | refine iN_2_3 hK d_H_nextToFall_49 trivial ?_ | refine ii_2_1_3 hK d_H_nextToFall_49 trivial ?_
        refine r_goto (tgt := 5) hK d_H_nextToFall_52 rfl ?_
        have hr := ih hq
        rw [e] at hr
        exact hr
      · skip
        have hz := bI_n0.mp h26
        obtain ⟨k, hk⟩ : ∃ k, ntf v j = some k := by
          cases hk : ntf v j with
          | none => rw [hk] at hz; rw [show oI none = -1000000 from rfl, hasL_m] at hz; cases hz
          | some k => exact ⟨k, rfl⟩
        have hkj := (ntf_lt hk).1
        rw [hk]
        show K 29 [_, some (.int (nI k)), _] _ _ _
        refine r_aload_n hK d_H_nextToFall_29 rfl ?_
        refine r_get hK lf_H_11 d_H_nextToFall_30 (hH.1) rfl ?_
        refine r_iload_n hK d_H_nextToFall_33 rfl ?_
        refine g_let hK d_H_nextToFall_34 hH (show j < 6 by omega) ?_
        refine r_aload_n hK d_H_nextToFall_35 rfl ?_
        refine r_get hK lf_H_11 d_H_nextToFall_36 (hH.1) rfl ?_
        refine r_iload_n hK d_H_nextToFall_39 rfl ?_
        refine g_let hK d_H_nextToFall_40 hH (show k < 6 by omega) ?_
        refine r_v1 (k' := 1) hK lm_H_94 d_H_nextToFall_41 ⟨_, hH.2.2 j (by omega)⟩ (by decide) (Nat.le_of_ble_eq_true rfl) ?_
        refine c_L_fallsAheadOf (hH.2.2 j (by omega)) (hH.2.2 k (by omega)) (kc_s ?_)
        refine r_if_eq (tgt := 49) hK d_H_nextToFall_44 rfl (fun h44 => ?_) (fun h44 => ?_)
        · skip
          have hy := bI_0.mp h44
          have e : ntf v (j + 1) = some k := by
            rw [ntf, if_neg (fun q => by have := q.2 k hk; unfold fAh at this; rw [hy] at this; cases this), hk]
          first | refine iN_2_3 hK d_H_nextToFall_49 trivial ?_ | refine ii_2_1_3 hK d_H_nextToFall_49 trivial ?_
          refine r_goto (tgt := 5) hK d_H_nextToFall_52 rfl ?_
          have hr := ih hq
          rw [e] at hr
          exact hr
        · skip
          have hy := bI_n0.mp h44
          have e : ntf v (j + 1) = some j := by
            rw [ntf, if_pos ⟨hb, fun k2 hk2 => by rw [hk] at hk2; cases hk2; exact hy⟩]
          refine r_iload_n hK d_H_nextToFall_47 rfl ?_
          refine st_in_1_3 hK d_H_nextToFall_48 trivial ?_
          first | refine iN_2_3 hK d_H_nextToFall_49 trivial ?_ | refine ii_2_1_3 hK d_H_nextToFall_49 trivial ?_
          refine r_goto (tgt := 5) hK d_H_nextToFall_52 rfl ?_
          have hr := ih hq
          rw [e] at hr
          exact hr
theorem c_H_passDay {E : gX} {S : Nat} {G : gG} {Q : Option Value → gG → Prop} {h : Nat} {s : Int32} {v : Nat → Int32} (hH : HX G h s v) (hn : nN (v 0) ≤ 6) (hQ : ∀ G' : gG, HX G' h s (passV v).1 → Frm G G' h 8 → Q (some (.int (oI (passV v).2))) G') : Runs E y_H_passDay 5 0 S [.ref h] G Q := by
  refine Runs.of "ClockPost$House" [some (.ref h), none, none, none] cw_H_passDay (by decide) (by decide +kernel) rfl (Nat.le_of_ble_eq_true rfl) rfl (fun K hK => ?_)
  have hF : Frm G G h 8 := Frm.rf
  refine r_aload_n hK d_H_passDay_0 rfl ?_
  refine r_sipush hK d_H_passDay_1 ks_9999 ?_
  refine r_aload_n hK d_H_passDay_4 rfl ?_
  refine r_get hK lf_H_35 d_H_passDay_5 (hH.1) rfl ?_
  refine r_aload_n hK d_H_passDay_8 rfl ?_
  refine r_v0 (k' := 4) hK lm_H_67 d_H_passDay_9 ⟨_, hH.1⟩ (by decide) (Nat.le_of_ble_eq_true rfl) ?_
  refine c_H_weight hH hn (kc_s ?_)
  refine r_iadd hK d_H_passDay_12 ?_
  refine r_mmin hK wo_H_71 (by decide) (Nat.le_of_ble_eq_true rfl) (Nat.le_refl _) d_H_passDay_13 ?_
  refine p_H_sum hK lf_H_35 d_H_passDay_16 hH (fun G16 hH f16 => ?_)
  have hF := hF.tr f16
  refine r_iconst hK d_H_passDay_19 kc_0 ?_
  refine st_in_1_4 hK d_H_passDay_20 trivial ?_
  suffices L : ∀ j, j ≤ nN (v 0) → ∀ G1 : gG, HX G1 h s (ageV (sumV v) j) → Frm G G1 h 8 → K 21 [some (.ref h), some (.int (nI j)), none, none] [] S G1 from L 0 (Nat.zero_le _) _ (hH.cast ageV_0) hF
  refine lpN (nN (v 0)) (fun j hj ih G1 hH hF => ?_)
  have e0 : ageV (sumV v) j 0 = v 0 := ageV_n (by omega)
  have e3 : ageV (sumV v) j 3 = v 3 := ageV_n (by omega)
  refine r_iload_n hK d_H_passDay_21 rfl ?_
  refine r_aload_n hK d_H_passDay_22 rfl ?_
  refine r_get hK lf_H_22 d_H_passDay_23 (hH.1) rfl ?_
  refine r_icmp_ge (tgt := 68) hK d_H_passDay_26 rfl (fun h26 => ?_) (fun h26 => ?_)
  · skip
    have hq : j = nN (v 0) := by have := (ge_nN (by omega)).mp h26; rw [e0] at this; omega
    subst hq
    refine r_aload_n hK d_H_passDay_68 rfl ?_
    refine r_dup hK d_H_passDay_69 rfl ?_
    refine r_get hK lf_H_32 d_H_passDay_70 (hH.1) rfl ?_
    refine r_iconst hK d_H_passDay_73 kc_1 ?_
    refine r_iadd hK d_H_passDay_74 ?_
    rw [show ageV (sumV v) (nN (v 0)) 2 = v 2 from ageV_n (by omega)]
    refine p_H_day hK lf_H_32 d_H_passDay_75 hH (fun G75 hH f75 => ?_)
    have hF := hF.tr f75
    have hH : HX G75 h s (dayV v) := hH
    refine r_ldc hK d_H_passDay_78 lc_H_80 ?_
    refine st_in_1_4 hK d_H_passDay_80 trivial ?_
    refine r_iconst hK d_H_passDay_81 kc_0 ?_
    refine st_in_2_4 hK d_H_passDay_82 trivial ?_
    suffices L : ∀ j, j ≤ nN (v 0) → ∀ (G1 : gG) (w : Nat → Int32) (f : Option Nat) (a3 : Option Value), HX G1 h s w → w 0 = v 0 → (∀ k, f = some k → k < 6) → fallV (nN (v 0) - j) w f = passV v → Frm G G1 h 8 → K 83 [some (.ref h), some (.int (oI f)), some (.int (nI j)), a3] [] S G1 from L 0 (Nat.zero_le _) _ _ none none hH (dayV_n (by decide) (by decide) (by decide)) (fun _ q => by cases q) rfl hF
    refine lpN (nN (v 0)) (fun j hj ih G1 w f a3 hH e0 hf hE hF => ?_)
    have hnw : nN (w 0) ≤ 6 := by rw [e0]; exact hn
    refine r_iload_n hK d_H_passDay_83 rfl ?_
    refine r_aload_n hK d_H_passDay_84 rfl ?_
    refine r_get hK lf_H_22 d_H_passDay_85 (hH.1) rfl ?_
    refine r_icmp_ge (tgt := 147) hK d_H_passDay_88 rfl (fun h88 => ?_) (fun h88 => ?_)
    · skip
      have hq : j = nN (v 0) := by have := (ge_nN (by omega)).mp h88; rw [e0] at this; omega
      have hZ : passV v = (w, f) := by rw [← hE, hq, Nat.sub_self]; rfl
      refine r_iload_n hK d_H_passDay_147 rfl ?_
      refine r_iret hK rfl rfl d_H_passDay_148 ?_
      exact (show Q (some (.int (oI f))) _ from by have := hQ _ (hZ.symm ▸ hH) hF; rw [hZ] at this; exact this)
    · skip
      have hq : j < nN (v 0) := (lt_nN (by omega)).mp (Int32.not_le.mp (by rw [← e0]; exact h88))
      have hs : nN (v 0) - j = (nN (v 0) - (j + 1)) + 1 := by omega
      rw [hs, fallV] at hE
      refine r_aload_n hK d_H_passDay_91 rfl ?_
      refine r_v0 (k' := 3) hK lm_H_81 d_H_passDay_92 ⟨_, hH.1⟩ (by decide) (Nat.le_of_ble_eq_true rfl) ?_
      refine c_H_thickness hH hnw (kc_s ?_)
      refine r_aload_n hK d_H_passDay_95 rfl ?_
      refine r_get hK lf_H_26 d_H_passDay_96 (hH.1) rfl ?_
      refine r_icmp_le (tgt := 147) hK d_H_passDay_99 rfl (fun h99 => ?_) (fun h99 => ?_)
      · skip
        rw [if_neg (Int32.not_lt.mpr h99)] at hE
        have hZ : passV v = (w, f) := hE.symm
        refine r_iload_n hK d_H_passDay_147 rfl ?_
        refine r_iret hK rfl rfl d_H_passDay_148 ?_
        exact (show Q (some (.int (oI f))) _ from by have := hQ _ (hZ.symm ▸ hH) hF; rw [hZ] at this; exact this)
      · skip
        rw [if_pos (Int32.not_le.mp h99)] at hE
        refine r_aload_n hK d_H_passDay_102 rfl ?_
        refine r_v0 (k' := 3) hK lm_H_84 d_H_passDay_103 ⟨_, hH.1⟩ (by decide) (Nat.le_of_ble_eq_true rfl) ?_
        refine c_H_nextToFall hH hnw (kc_s ?_)
        refine st_in_3_4 hK d_H_passDay_106 trivial ?_
        refine r_aload_n hK d_H_passDay_107 rfl ?_
        refine r_iload_n hK d_H_passDay_108 rfl ?_
        refine r_v1 (k' := 1) hK lm_H_45 d_H_passDay_109 ⟨_, hH.1⟩ (by decide) (Nat.le_of_ble_eq_true rfl) ?_
        refine c_H_hasLetter hH (kc_s ?_)
        refine r_if_eq (tgt := 141) hK d_H_passDay_112 rfl (fun h112 => ?_) (fun h112 => ?_)
        · skip
          have hz := bI_0.mp h112
          have hk : ntf w (nN (w 0)) = none := by
            cases hk : ntf w (nN (w 0)) with
            | none => rfl
            | some k =>
              have := hasL_nI (v := w) (j := k) (ntf_lt hk).1
              rw [hk] at hz
              rw [show oI (some k) = nI k from rfl, this] at hz
              cases hz
          rw [hk] at hE
          first | refine iN_2_4 hK d_H_passDay_141 trivial ?_ | refine ii_2_1_4 hK d_H_passDay_141 trivial ?_
          refine r_goto (tgt := 83) hK d_H_passDay_144 rfl ?_
          first | exact ih hq _ _ f _ hH e0 hf hE hF | exact ih hq _ _ f _ hH e0 hf2 hE hF | exact ih hq _ _ (some k) _ hH e0 hf2 hE hF
        · skip
          have hz := bI_n0.mp h112
          obtain ⟨k, hk⟩ : ∃ k, ntf w (nN (w 0)) = some k := by
            cases hk : ntf w (nN (w 0)) with
            | none => rw [hk] at hz; rw [show oI none = -1000000 from rfl, hasL_m] at hz; cases hz
            | some k => exact ⟨k, rfl⟩
          have hk6 : k < 6 := by have := (ntf_lt hk).1; omega
          rw [hk] at hE ⊢
          show K 115 [_, _, _, some (.int (nI k))] _ _ _
          refine r_aload_n hK d_H_passDay_115 rfl ?_
          refine r_iload_n hK d_H_passDay_116 rfl ?_
          refine r_aload_n hK d_H_passDay_117 rfl ?_
          refine r_get hK lf_H_11 d_H_passDay_118 (hH.1) rfl ?_
          refine r_iload_n hK d_H_passDay_121 rfl ?_
          refine g_let hK d_H_passDay_122 hH hk6 ?_
          refine r_get hK lf_H_87 d_H_passDay_123 (hH.2.2 k hk6) rfl ?_
          refine r_v2 (k' := 2) hK lm_H_90 d_H_passDay_126 ⟨_, hH.1⟩ (by decide) (Nat.le_of_ble_eq_true rfl) ?_
          refine c_H_takeAway hH (fun G126 hH f126 => kc_n ?_)
          have hF := hF.tr f126
          refine r_iload_n hK d_H_passDay_129 rfl ?_
          refine r_ldc hK d_H_passDay_130 lc_H_80 ?_
          refine r_icmp_ne (tgt := 139) hK d_H_passDay_132 rfl (fun h132 => ?_) (fun h132 => ?_)
          · skip
            have hfn : ¬ f = none := fun q => h132 ((oI_n hf).mpr q)
            have hE : fallV (nN (v 0) - (j + 1)) (awayV w (nI k) (w (24 + k))) f = passV v := by rw [← hE]; simp only [if_neg hfn]
            have hf2 := hf
            refine r_iload_n hK d_H_passDay_139 rfl ?_
            refine st_in_1_4 hK d_H_passDay_140 trivial ?_
            first | refine iN_2_4 hK d_H_passDay_141 trivial ?_ | refine ii_2_1_4 hK d_H_passDay_141 trivial ?_
            refine r_goto (tgt := 83) hK d_H_passDay_144 rfl ?_
            first | exact ih hq _ _ f _ hH e0 hf hE hF | exact ih hq _ _ f _ hH e0 hf2 hE hF | exact ih hq _ _ (some k) _ hH e0 hf2 hE hF
          · skip
            have hfn : f = none := (oI_n hf).mp h132
            have hE : fallV (nN (v 0) - (j + 1)) (awayV w (nI k) (w (24 + k))) (some k) = passV v := by rw [← hE]; simp only [if_pos hfn]
            have hf2 : ∀ q, some k = some q → q < 6 := fun q z => by cases z; exact hk6
            refine r_iload_n hK d_H_passDay_135 rfl ?_
            refine r_goto (tgt := 140) hK d_H_passDay_136 rfl ?_
            refine st_in_1_4 hK d_H_passDay_140 trivial ?_
            first | refine iN_2_4 hK d_H_passDay_141 trivial ?_ | refine ii_2_1_4 hK d_H_passDay_141 trivial ?_
            refine r_goto (tgt := 83) hK d_H_passDay_144 rfl ?_
            first | exact ih hq _ _ f _ hH e0 hf hE hF | exact ih hq _ _ f _ hH e0 hf2 hE hF | exact ih hq _ _ (some k) _ hH e0 hf2 hE hF
  · skip
    have hq : j < nN (v 0) := (lt_nN (by omega)).mp (Int32.not_le.mp (by rw [← e0]; exact h26))
    have hj6 : j < 6 := by omega
    refine r_aload_n hK d_H_passDay_29 rfl ?_
    refine r_iload_n hK d_H_passDay_30 rfl ?_
    refine r_v1 (k' := 2) hK lm_H_49 d_H_passDay_31 ⟨_, hH.1⟩ (by decide) (Nat.le_of_ble_eq_true rfl) ?_
    refine c_H_isBehind hH (kc_s ?_)
    refine r_if_eq (tgt := 62) hK d_H_passDay_34 rfl (fun h34 => ?_) (fun h34 => ?_)
    · skip
      have hb := bI_0.mp h34
      rw [behB_c (v := sumV v) e0 e3] at hb
      have hH := hH.cast (ageV_f (j := j) (by simp [hb]))
      first | refine iN_1_4 hK d_H_passDay_62 trivial ?_ | refine ii_1_1_4 hK d_H_passDay_62 trivial ?_
      refine r_goto (tgt := 21) hK d_H_passDay_65 rfl ?_
      exact ih hq _ hH hF
    · skip
      have hb := bI_n0.mp h34
      rw [behB_c (v := sumV v) e0 e3] at hb
      refine r_aload_n hK d_H_passDay_37 rfl ?_
      refine r_get hK lf_H_11 d_H_passDay_38 (hH.1) rfl ?_
      refine r_iload_n hK d_H_passDay_41 rfl ?_
      refine g_let hK d_H_passDay_42 hH hj6 ?_
      refine r_bipush hK d_H_passDay_43 kb_99 ?_
      refine r_aload_n hK d_H_passDay_45 rfl ?_
      refine r_get hK lf_H_11 d_H_passDay_46 (hH.1) rfl ?_
      refine r_iload_n hK d_H_passDay_49 rfl ?_
      refine g_let hK d_H_passDay_50 hH hj6 ?_
      refine r_get hK lf_H_77 d_H_passDay_51 (hH.2.2 j hj6) rfl ?_
      refine r_iconst hK d_H_passDay_54 kc_1 ?_
      refine r_iadd hK d_H_passDay_55 ?_
      refine r_mmin hK wo_H_71 (by decide) (Nat.le_of_ble_eq_true rfl) (Nat.le_refl _) d_H_passDay_56 ?_
      rw [ageV_at]
      refine ph_L_age hK lf_H_77 d_H_passDay_59 hH hj6 (fun G59 hH f59 => ?_)
      have hF := hF.tr f59
      have hH := hH.cast (ageV_t hb)
      first | refine iN_1_4 hK d_H_passDay_62 trivial ?_ | refine ii_1_1_4 hK d_H_passDay_62 trivial ?_
      refine r_goto (tgt := 21) hK d_H_passDay_65 rfl ?_
      exact ih hq _ hH hF
theorem c_H_answerOne {E : gX} {S : Nat} {G : gG} {Q : Option Value → gG → Prop} {h : Nat} {s : Int32} {v : Nat → Int32} (hH : HX G h s v) (hn : nN (v 0) ≤ 6) {i : Int32} (hQ : ∀ G' : gG, HX G' h s (ansV v i) → Frm G G' h 8 → Q none G') : Runs E y_H_answerOne 3 0 S [.ref h, .int i] G Q := by
  refine Runs.of "ClockPost$House" [some (.ref h), some (.int i)] cw_H_answerOne (by decide) (by decide +kernel) rfl (Nat.le_of_ble_eq_true rfl) rfl (fun K hK => ?_)
  refine r_aload_n hK d_H_answerOne_0 rfl ?_
  refine r_iload_n hK d_H_answerOne_1 rfl ?_
  refine r_v1 (k' := 2) hK lm_H_49 d_H_answerOne_2 ⟨_, hH.1⟩ (by decide) (Nat.le_of_ble_eq_true rfl) ?_
  refine c_H_isBehind hH (kc_s ?_)
  refine r_if_eq (tgt := 24) hK d_H_answerOne_5 rfl (fun h5 => ?_) (fun h5 => ?_)
  · skip
    have hb := bI_0.mp h5
    rw [ansV, if_neg (by simp [hb])] at hQ
    refine r_vret hK rfl rfl d_H_answerOne_24 ?_
    first | exact hQ _ hH f21 | exact hQ _ hH Frm.rf
  · skip
    have hb := bI_n0.mp h5
    rw [ansV, if_pos hb] at hQ
    obtain ⟨j, hj, hj6, rfl⟩ := hasL_ix (behB_has hb) hn
    rw [nN_nI (by omega)] at hQ
    refine r_aload_n hK d_H_answerOne_8 rfl ?_
    refine r_iload_n hK d_H_answerOne_9 rfl ?_
    refine r_aload_n hK d_H_answerOne_10 rfl ?_
    refine r_get hK lf_H_11 d_H_answerOne_11 (hH.1) rfl ?_
    refine r_iload_n hK d_H_answerOne_14 rfl ?_
    refine g_let hK d_H_answerOne_15 hH hj6 ?_
    refine r_get hK lf_H_87 d_H_answerOne_16 (hH.2.2 j hj6) rfl ?_
    refine r_iconst hK d_H_answerOne_19 kc_2 ?_
    refine r_idiv hK d_H_answerOne_20 (by decide) ?_
    refine r_v2 (k' := 2) hK lm_H_90 d_H_answerOne_21 ⟨_, hH.1⟩ (by decide) (Nat.le_of_ble_eq_true rfl) ?_
    refine c_H_takeAway hH (fun G21 hH f21 => kc_n ?_)
    refine r_vret hK rfl rfl d_H_answerOne_24 ?_
    first | exact hQ _ hH f21 | exact hQ _ hH Frm.rf
theorem c_H_putBehind {E : gX} {S : Nat} {G : gG} {Q : Option Value → gG → Prop} {h : Nat} {s : Int32} {v : Nat → Int32} (hH : HX G h s v) (hn : nN (v 0) ≤ 6) {i : Int32} (hQ : ∀ G' : gG, HX G' h s (putV v i) → Frm G G' h 8 → Q none G') : Runs E y_H_putBehind 3 0 S [.ref h, .int i] G Q := by
  refine Runs.of "ClockPost$House" [some (.ref h), some (.int i)] cw_H_putBehind (by decide) (by decide +kernel) rfl (Nat.le_of_ble_eq_true rfl) rfl (fun K hK => ?_)
  have hF : Frm G G h 8 := Frm.rf
  refine r_aload_n hK d_H_putBehind_0 rfl ?_
  refine r_iload_n hK d_H_putBehind_1 rfl ?_
  refine r_v1 (k' := 1) hK lm_H_45 d_H_putBehind_2 ⟨_, hH.1⟩ (by decide) (Nat.le_of_ble_eq_true rfl) ?_
  refine c_H_hasLetter hH (kc_s ?_)
  refine r_if_eq (tgt := 38) hK d_H_putBehind_5 rfl (fun h5 => ?_) (fun h5 => ?_)
  · skip
    have hb := bI_0.mp h5
    rw [putV, if_neg (by simp [hb])] at hQ
    refine r_vret hK rfl rfl d_H_putBehind_38 ?_
    exact hQ _ hH hF
  · skip
    have hb := bI_n0.mp h5
    refine r_aload_n hK d_H_putBehind_8 rfl ?_
    refine r_iload_n hK d_H_putBehind_9 rfl ?_
    refine r_v1 (k' := 2) hK lm_H_49 d_H_putBehind_10 ⟨_, hH.1⟩ (by decide) (Nat.le_of_ble_eq_true rfl) ?_
    refine c_H_isBehind hH (kc_s ?_)
    refine r_if_ne (tgt := 38) hK d_H_putBehind_13 rfl (fun h13 => ?_) (fun h13 => ?_)
    · skip
      have hc := bI_n0.mp h13
      rw [putV, if_neg (by simp [hc])] at hQ
      refine r_vret hK rfl rfl d_H_putBehind_38 ?_
      exact hQ _ hH hF
    · skip
      have hc := bI_0.mp h13
      rw [putV, if_pos ⟨hb, hc⟩] at hQ
      obtain ⟨j, hj, hj6, rfl⟩ := hasL_ix hb hn
      rw [nN_nI (by omega)] at hQ
      refine r_aload_n hK d_H_putBehind_16 rfl ?_
      refine r_dup hK d_H_putBehind_17 rfl ?_
      refine r_get hK lf_H_29 d_H_putBehind_18 (hH.1) rfl ?_
      refine r_iconst hK d_H_putBehind_21 kc_1 ?_
      refine r_iload_n hK d_H_putBehind_22 rfl ?_
      refine r_ishl hK d_H_putBehind_23 ?_
      refine r_ior hK d_H_putBehind_24 ?_
      refine p_H_behindBits hK lf_H_29 d_H_putBehind_25 hH (fun G25 hH f25 => ?_)
      have hF := hF.tr f25
      refine r_aload_n hK d_H_putBehind_28 rfl ?_
      refine r_get hK lf_H_11 d_H_putBehind_29 (hH.1) rfl ?_
      refine r_iload_n hK d_H_putBehind_32 rfl ?_
      refine g_let hK d_H_putBehind_33 hH hj6 ?_
      refine r_iconst hK d_H_putBehind_34 kc_0 ?_
      refine ph_L_age hK lf_H_77 d_H_putBehind_35 hH hj6 (fun G35 hH f35 => ?_)
      have hF := hF.tr f35
      refine r_vret hK rfl rfl d_H_putBehind_38 ?_
      exact hQ _ hH hF
theorem c_H_takeDraw {E : gX} {S : Nat} {G : gG} {Q : Option Value → gG → Prop} {h : Nat} {s : Int32} {v : Nat → Int32} (hH : HX G h s v) (hn : nN (v 0) ≤ 6) {x : Int64} (hQ : ∀ G' : gG, HX G' h s (drawV v x) → Frm G G' h 8 → Q none G') : Runs E y_H_takeDraw 4 0 S [.ref h, .long x] G Q := by
  refine Runs.of "ClockPost$House" [some (.ref h), some (.long x), none, none] cw_H_takeDraw (by decide) (by decide +kernel) rfl (Nat.le_of_ble_eq_true rfl) rfl (fun K hK => ?_)
  refine r_aload_n hK d_H_takeDraw_0 rfl ?_
  refine r_get hK lf_H_22 d_H_takeDraw_1 (hH.1) rfl ?_
  refine r_iconst hK d_H_takeDraw_4 kc_1 ?_
  refine r_icmp_ge (tgt := 9) hK d_H_takeDraw_5 rfl (fun h5 => ?_) (fun h5 => ?_)
  · skip
    have h1 : ¬ v 0 < 1 := Int32.not_lt.mpr h5
    rw [drawV, if_neg h1] at hQ
    have hne : ¬ (v 0).toInt64 = 0 := fun q => by
      have q2 := congrArg Int64.toInt q
      rw [Int32.toInt_toInt64] at q2
      simp only [i_le, ti_1] at h5
      have : (0 : Int64).toInt = 0 := by decide
      omega
    refine r_lload_n hK d_H_takeDraw_9 rfl ?_
    refine r_aload_n hK d_H_takeDraw_10 rfl ?_
    refine r_get hK lf_H_22 d_H_takeDraw_11 (hH.1) rfl ?_
    refine r_i2l hK d_H_takeDraw_14 ?_
    refine r_lrem hK d_H_takeDraw_15 (hne) ?_
    refine r_l2i hK d_H_takeDraw_16 ?_
    refine st_in_3_4 hK d_H_takeDraw_17 trivial ?_
    refine r_lload_n hK d_H_takeDraw_18 rfl ?_
    refine r_ldc2 hK d_H_takeDraw_19 lc_H_98 ?_
    refine r_lrem hK d_H_takeDraw_22 (by decide) ?_
    refine r_lconst (v := 0) hK d_H_takeDraw_23 rfl ?_
    refine r_lcmp hK d_H_takeDraw_24 ?_
    refine r_if_ne (tgt := 36) hK d_H_takeDraw_25 rfl (fun h25 => ?_) (fun h25 => ?_)
    · skip
      have hz : ¬ x - x / 3 * 3 = 0 := fun q => h25 ((lg_cmp_eq _ _).mpr q)
      rw [if_neg hz] at hQ
      refine r_lload_n hK d_H_takeDraw_36 rfl ?_
      refine r_ldc2 hK d_H_takeDraw_37 lc_H_98 ?_
      refine r_lrem hK d_H_takeDraw_40 (by decide) ?_
      refine r_lconst (v := 1) hK d_H_takeDraw_41 rfl ?_
      refine r_lcmp hK d_H_takeDraw_42 ?_
      refine r_if_ne (tgt := 51) hK d_H_takeDraw_43 rfl (fun h43 => ?_) (fun h43 => ?_)
      · skip
        have hz : ¬ x - x / 3 * 3 = 1 := fun q => h43 ((lg_cmp_eq _ _).mpr q)
        rw [if_neg hz] at hQ
        refine r_vret hK rfl rfl d_H_takeDraw_51 ?_
        first | exact hQ _ hH f30 | exact hQ _ hH f48 | exact hQ _ hH Frm.rf
      · skip
        have hz : x - x / 3 * 3 = 1 := (lg_cmp_eq _ _).mp h43
        rw [if_pos hz] at hQ
        refine r_aload_n hK d_H_takeDraw_46 rfl ?_
        refine r_iload_n hK d_H_takeDraw_47 rfl ?_
        refine r_v1 (k' := 3) hK lm_H_104 d_H_takeDraw_48 ⟨_, hH.1⟩ (by decide) (Nat.le_of_ble_eq_true rfl) ?_
        refine c_H_putBehind hH hn (fun G48 hH f48 => kc_n ?_)
        refine r_vret hK rfl rfl d_H_takeDraw_51 ?_
        first | exact hQ _ hH f30 | exact hQ _ hH f48 | exact hQ _ hH Frm.rf
    · skip
      have hz : x - x / 3 * 3 = 0 := (lg_cmp_eq _ _).mp h25
      rw [if_pos hz] at hQ
      refine r_aload_n hK d_H_takeDraw_28 rfl ?_
      refine r_iload_n hK d_H_takeDraw_29 rfl ?_
      refine r_v1 (k' := 3) hK lm_H_100 d_H_takeDraw_30 ⟨_, hH.1⟩ (by decide) (Nat.le_of_ble_eq_true rfl) ?_
      refine c_H_answerOne hH hn (fun G30 hH f30 => kc_n ?_)
      refine r_goto (tgt := 51) hK d_H_takeDraw_33 rfl ?_
      refine r_vret hK rfl rfl d_H_takeDraw_51 ?_
      first | exact hQ _ hH f30 | exact hQ _ hH f48 | exact hQ _ hH Frm.rf
  · skip
    rw [drawV, if_pos (Int32.not_le.mp h5)] at hQ
    refine r_vret hK rfl rfl d_H_takeDraw_8 ?_
    exact hQ _ hH Frm.rf
end
