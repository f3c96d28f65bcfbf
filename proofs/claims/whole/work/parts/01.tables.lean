-- ===== PART A: goes FIRST, ahead of the names: the tables' words, and 'selects' of the private methods out of them =====
/-- a private method of a class that the tables say can be made, by its rows of tables_1 -/
def lw_okq (q : MethodName × Nat) : Prop := (q.1.cls ≠ "java/lang/invoke/MethodHandle" ∧ q.1.cls ≠ "java/lang/invoke/VarHandle") ∧ Cond.instantiable q.1.cls q.2 ∈ tables_1 ∧ Cond.privateMethod q.1 ∈ tables_1 ∧ Cond.instanceMethod q.1 ∈ tables_1
theorem lw_p0 : lw_okq (⟨"NamesOnLoan", "comesFrom", "(LNamesOnLoan$Shelf;I)Z"⟩, 12) := ⟨⟨by decide +kernel, by decide +kernel⟩, List.mem_of_getElem? (i := 15) (by decide +kernel), List.mem_of_getElem? (i := 282) (by decide +kernel), List.mem_of_getElem? (i := 283) (by decide +kernel)⟩
theorem lw_p1 : lw_okq (⟨"NamesOnLoan", "cracks", "(II)Z"⟩, 12) := ⟨⟨by decide +kernel, by decide +kernel⟩, List.mem_of_getElem? (i := 15) (by decide +kernel), List.mem_of_getElem? (i := 331) (by decide +kernel), List.mem_of_getElem? (i := 332) (by decide +kernel)⟩
theorem lw_p2 : lw_okq (⟨"NamesOnLoan$Tape", "readLine", "()Z"⟩, 5) := ⟨⟨by decide +kernel, by decide +kernel⟩, List.mem_of_getElem? (i := 62) (by decide +kernel), List.mem_of_getElem? (i := 359) (by decide +kernel), List.mem_of_getElem? (i := 360) (by decide +kernel)⟩
theorem lw_p3 : lw_okq (⟨"NamesOnLoan$Tape", "readLevel", "(II)Z"⟩, 5) := ⟨⟨by decide +kernel, by decide +kernel⟩, List.mem_of_getElem? (i := 62) (by decide +kernel), List.mem_of_getElem? (i := 363) (by decide +kernel), List.mem_of_getElem? (i := 364) (by decide +kernel)⟩
theorem lw_p4 : lw_okq (⟨"NamesOnLoan$Tape", "readOne", "(I)Z"⟩, 5) := ⟨⟨by decide +kernel, by decide +kernel⟩, List.mem_of_getElem? (i := 62) (by decide +kernel), List.mem_of_getElem? (i := 367) (by decide +kernel), List.mem_of_getElem? (i := 368) (by decide +kernel)⟩
theorem lw_p5 : lw_okq (⟨"NamesOnLoan$Tape", "next", "()I"⟩, 5) := ⟨⟨by decide +kernel, by decide +kernel⟩, List.mem_of_getElem? (i := 62) (by decide +kernel), List.mem_of_getElem? (i := 371) (by decide +kernel), List.mem_of_getElem? (i := 372) (by decide +kernel)⟩
theorem lw_p6 : lw_okq (⟨"NamesOnLoan$Tape", "readNumber", "()V"⟩, 5) := ⟨⟨by decide +kernel, by decide +kernel⟩, List.mem_of_getElem? (i := 62) (by decide +kernel), List.mem_of_getElem? (i := 378) (by decide +kernel), List.mem_of_getElem? (i := 379) (by decide +kernel)⟩
theorem lw_p7 : lw_okq (⟨"NamesOnLoan$Tape", "write", "(I)V"⟩, 5) := ⟨⟨by decide +kernel, by decide +kernel⟩, List.mem_of_getElem? (i := 62) (by decide +kernel), List.mem_of_getElem? (i := 382) (by decide +kernel), List.mem_of_getElem? (i := 383) (by decide +kernel)⟩
theorem lw_p8 : lw_okq (⟨"NamesOnLoan$Tape", "readInside", "(I)Z"⟩, 5) := ⟨⟨by decide +kernel, by decide +kernel⟩, List.mem_of_getElem? (i := 62) (by decide +kernel), List.mem_of_getElem? (i := 389) (by decide +kernel), List.mem_of_getElem? (i := 390) (by decide +kernel)⟩
theorem lw_p9 : lw_okq (⟨"NamesOnLoan$Tape", "readTurned", "(II)Z"⟩, 5) := ⟨⟨by decide +kernel, by decide +kernel⟩, List.mem_of_getElem? (i := 62) (by decide +kernel), List.mem_of_getElem? (i := 393) (by decide +kernel), List.mem_of_getElem? (i := 394) (by decide +kernel)⟩
theorem lw_p10 : lw_okq (⟨"NamesOnLoan", "rateNow", "(I)I"⟩, 12) := ⟨⟨by decide +kernel, by decide +kernel⟩, List.mem_of_getElem? (i := 15) (by decide +kernel), List.mem_of_getElem? (i := 423) (by decide +kernel), List.mem_of_getElem? (i := 424) (by decide +kernel)⟩
theorem lw_p11 : lw_okq (⟨"NamesOnLoan", "rate", "(IIII)I"⟩, 12) := ⟨⟨by decide +kernel, by decide +kernel⟩, List.mem_of_getElem? (i := 15) (by decide +kernel), List.mem_of_getElem? (i := 432) (by decide +kernel), List.mem_of_getElem? (i := 433) (by decide +kernel)⟩
theorem lw_p12 : lw_okq (⟨"NamesOnLoan$Law", "workOut", "()I"⟩, 4) := ⟨⟨by decide +kernel, by decide +kernel⟩, List.mem_of_getElem? (i := 84) (by decide +kernel), List.mem_of_getElem? (i := 443) (by decide +kernel), List.mem_of_getElem? (i := 444) (by decide +kernel)⟩
theorem lw_p13 : lw_okq (⟨"NamesOnLoan", "leftAfter", "(II)I"⟩, 12) := ⟨⟨by decide +kernel, by decide +kernel⟩, List.mem_of_getElem? (i := 15) (by decide +kernel), List.mem_of_getElem? (i := 466) (by decide +kernel), List.mem_of_getElem? (i := 467) (by decide +kernel)⟩
theorem lw_p14 : lw_okq (⟨"NamesOnLoan", "firstDay", "(IZ)I"⟩, 12) := ⟨⟨by decide +kernel, by decide +kernel⟩, List.mem_of_getElem? (i := 15) (by decide +kernel), List.mem_of_getElem? (i := 487) (by decide +kernel), List.mem_of_getElem? (i := 488) (by decide +kernel)⟩
theorem lw_p15 : lw_okq (⟨"NamesOnLoan", "mayWearMore", "(I)Z"⟩, 12) := ⟨⟨by decide +kernel, by decide +kernel⟩, List.mem_of_getElem? (i := 15) (by decide +kernel), List.mem_of_getElem? (i := 499) (by decide +kernel), List.mem_of_getElem? (i := 500) (by decide +kernel)⟩
def lw_privs_1 : List (MethodName × Nat) := [(⟨"NamesOnLoan", "comesFrom", "(LNamesOnLoan$Shelf;I)Z"⟩, 12), (⟨"NamesOnLoan", "cracks", "(II)Z"⟩, 12), (⟨"NamesOnLoan$Tape", "readLine", "()Z"⟩, 5), (⟨"NamesOnLoan$Tape", "readLevel", "(II)Z"⟩, 5), (⟨"NamesOnLoan$Tape", "readOne", "(I)Z"⟩, 5), (⟨"NamesOnLoan$Tape", "next", "()I"⟩, 5), (⟨"NamesOnLoan$Tape", "readNumber", "()V"⟩, 5), (⟨"NamesOnLoan$Tape", "write", "(I)V"⟩, 5), (⟨"NamesOnLoan$Tape", "readInside", "(I)Z"⟩, 5), (⟨"NamesOnLoan$Tape", "readTurned", "(II)Z"⟩, 5), (⟨"NamesOnLoan", "rateNow", "(I)I"⟩, 12), (⟨"NamesOnLoan", "rate", "(IIII)I"⟩, 12), (⟨"NamesOnLoan$Law", "workOut", "()I"⟩, 4), (⟨"NamesOnLoan", "leftAfter", "(II)I"⟩, 12), (⟨"NamesOnLoan", "firstDay", "(IZ)I"⟩, 12), (⟨"NamesOnLoan", "mayWearMore", "(I)Z"⟩, 12)]
theorem lw_r1 : ∀ q ∈ lw_privs_1, lw_okq q := List.forall_mem_cons.mpr ⟨lw_p0, List.forall_mem_cons.mpr ⟨lw_p1, List.forall_mem_cons.mpr ⟨lw_p2, List.forall_mem_cons.mpr ⟨lw_p3, List.forall_mem_cons.mpr ⟨lw_p4, List.forall_mem_cons.mpr ⟨lw_p5, List.forall_mem_cons.mpr ⟨lw_p6, List.forall_mem_cons.mpr ⟨lw_p7, List.forall_mem_cons.mpr ⟨lw_p8, List.forall_mem_cons.mpr ⟨lw_p9, List.forall_mem_cons.mpr ⟨lw_p10, List.forall_mem_cons.mpr ⟨lw_p11, List.forall_mem_cons.mpr ⟨lw_p12, List.forall_mem_cons.mpr ⟨lw_p13, List.forall_mem_cons.mpr ⟨lw_p14, List.forall_mem_cons.mpr ⟨lw_p15, fun _ h => absurd h List.not_mem_nil⟩⟩⟩⟩⟩⟩⟩⟩⟩⟩⟩⟩⟩⟩⟩⟩
theorem lw_p16 : lw_okq (⟨"NamesOnLoan", "beginWays", "(ILNamesOnLoan$Shelf;)V"⟩, 12) := ⟨⟨by decide +kernel, by decide +kernel⟩, List.mem_of_getElem? (i := 15) (by decide +kernel), List.mem_of_getElem? (i := 507) (by decide +kernel), List.mem_of_getElem? (i := 508) (by decide +kernel)⟩
theorem lw_p17 : lw_okq (⟨"NamesOnLoan$Ways", "has", "(I)Z"⟩, 6) := ⟨⟨by decide +kernel, by decide +kernel⟩, List.mem_of_getElem? (i := 103) (by decide +kernel), List.mem_of_getElem? (i := 521) (by decide +kernel), List.mem_of_getElem? (i := 522) (by decide +kernel)⟩
theorem lw_p18 : lw_okq (⟨"NamesOnLoan", "costAfter", "(III)I"⟩, 12) := ⟨⟨by decide +kernel, by decide +kernel⟩, List.mem_of_getElem? (i := 15) (by decide +kernel), List.mem_of_getElem? (i := 525) (by decide +kernel), List.mem_of_getElem? (i := 526) (by decide +kernel)⟩
theorem lw_p19 : lw_okq (⟨"NamesOnLoan", "threesNotSo", "(LNamesOnLoan$Shelf;III)I"⟩, 12) := ⟨⟨by decide +kernel, by decide +kernel⟩, List.mem_of_getElem? (i := 15) (by decide +kernel), List.mem_of_getElem? (i := 530) (by decide +kernel), List.mem_of_getElem? (i := 531) (by decide +kernel)⟩
theorem lw_p20 : lw_okq (⟨"NamesOnLoan", "isSo", "(LNamesOnLoan$Shelf;III)Z"⟩, 12) := ⟨⟨by decide +kernel, by decide +kernel⟩, List.mem_of_getElem? (i := 15) (by decide +kernel), List.mem_of_getElem? (i := 538) (by decide +kernel), List.mem_of_getElem? (i := 539) (by decide +kernel)⟩
theorem lw_p21 : lw_okq (⟨"NamesOnLoan", "minutesOfThaw", "()I"⟩, 12) := ⟨⟨by decide +kernel, by decide +kernel⟩, List.mem_of_getElem? (i := 15) (by decide +kernel), List.mem_of_getElem? (i := 587) (by decide +kernel), List.mem_of_getElem? (i := 588) (by decide +kernel)⟩
theorem lw_p22 : lw_okq (⟨"NamesOnLoan", "allThatSleeps", "()I"⟩, 12) := ⟨⟨by decide +kernel, by decide +kernel⟩, List.mem_of_getElem? (i := 15) (by decide +kernel), List.mem_of_getElem? (i := 631) (by decide +kernel), List.mem_of_getElem? (i := 632) (by decide +kernel)⟩
theorem lw_p23 : lw_okq (⟨"NamesOnLoan", "gainOfExchange", "(III)I"⟩, 12) := ⟨⟨by decide +kernel, by decide +kernel⟩, List.mem_of_getElem? (i := 15) (by decide +kernel), List.mem_of_getElem? (i := 643) (by decide +kernel), List.mem_of_getElem? (i := 644) (by decide +kernel)⟩
theorem lw_p24 : lw_okq (⟨"NamesOnLoan", "leftWith", "(III)I"⟩, 12) := ⟨⟨by decide +kernel, by decide +kernel⟩, List.mem_of_getElem? (i := 15) (by decide +kernel), List.mem_of_getElem? (i := 647) (by decide +kernel), List.mem_of_getElem? (i := 648) (by decide +kernel)⟩
theorem lw_p25 : lw_okq (⟨"NamesOnLoan", "refusalOfBytes", "(I)I"⟩, 12) := ⟨⟨by decide +kernel, by decide +kernel⟩, List.mem_of_getElem? (i := 15) (by decide +kernel), List.mem_of_getElem? (i := 655) (by decide +kernel), List.mem_of_getElem? (i := 656) (by decide +kernel)⟩
theorem lw_p26 : lw_okq (⟨"NamesOnLoan", "isThree", "(LNamesOnLoan$Shelf;I)Z"⟩, 12) := ⟨⟨by decide +kernel, by decide +kernel⟩, List.mem_of_getElem? (i := 15) (by decide +kernel), List.mem_of_getElem? (i := 659) (by decide +kernel), List.mem_of_getElem? (i := 660) (by decide +kernel)⟩
theorem lw_p27 : lw_okq (⟨"NamesOnLoan", "areThrees", "(LNamesOnLoan$Shelf;)Z"⟩, 12) := ⟨⟨by decide +kernel, by decide +kernel⟩, List.mem_of_getElem? (i := 15) (by decide +kernel), List.mem_of_getElem? (i := 667) (by decide +kernel), List.mem_of_getElem? (i := 668) (by decide +kernel)⟩
theorem lw_p28 : lw_okq (⟨"NamesOnLoan", "waysThatMakeSo", "(LNamesOnLoan$Shelf;)I"⟩, 12) := ⟨⟨by decide +kernel, by decide +kernel⟩, List.mem_of_getElem? (i := 15) (by decide +kernel), List.mem_of_getElem? (i := 671) (by decide +kernel), List.mem_of_getElem? (i := 672) (by decide +kernel)⟩
theorem lw_p29 : lw_okq (⟨"NamesOnLoan", "fillRatesByCold", "(II)V"⟩, 12) := ⟨⟨by decide +kernel, by decide +kernel⟩, List.mem_of_getElem? (i := 15) (by decide +kernel), List.mem_of_getElem? (i := 679) (by decide +kernel), List.mem_of_getElem? (i := 680) (by decide +kernel)⟩
theorem lw_p30 : lw_okq (⟨"NamesOnLoan", "drawWinter", "(IIII)I"⟩, 12) := ⟨⟨by decide +kernel, by decide +kernel⟩, List.mem_of_getElem? (i := 15) (by decide +kernel), List.mem_of_getElem? (i := 689) (by decide +kernel), List.mem_of_getElem? (i := 690) (by decide +kernel)⟩
theorem lw_p31 : lw_okq (⟨"NamesOnLoan", "burntNow", "()I"⟩, 12) := ⟨⟨by decide +kernel, by decide +kernel⟩, List.mem_of_getElem? (i := 15) (by decide +kernel), List.mem_of_getElem? (i := 738) (by decide +kernel), List.mem_of_getElem? (i := 739) (by decide +kernel)⟩
def lw_privs_2 : List (MethodName × Nat) := [(⟨"NamesOnLoan", "beginWays", "(ILNamesOnLoan$Shelf;)V"⟩, 12), (⟨"NamesOnLoan$Ways", "has", "(I)Z"⟩, 6), (⟨"NamesOnLoan", "costAfter", "(III)I"⟩, 12), (⟨"NamesOnLoan", "threesNotSo", "(LNamesOnLoan$Shelf;III)I"⟩, 12), (⟨"NamesOnLoan", "isSo", "(LNamesOnLoan$Shelf;III)Z"⟩, 12), (⟨"NamesOnLoan", "minutesOfThaw", "()I"⟩, 12), (⟨"NamesOnLoan", "allThatSleeps", "()I"⟩, 12), (⟨"NamesOnLoan", "gainOfExchange", "(III)I"⟩, 12), (⟨"NamesOnLoan", "leftWith", "(III)I"⟩, 12), (⟨"NamesOnLoan", "refusalOfBytes", "(I)I"⟩, 12), (⟨"NamesOnLoan", "isThree", "(LNamesOnLoan$Shelf;I)Z"⟩, 12), (⟨"NamesOnLoan", "areThrees", "(LNamesOnLoan$Shelf;)Z"⟩, 12), (⟨"NamesOnLoan", "waysThatMakeSo", "(LNamesOnLoan$Shelf;)I"⟩, 12), (⟨"NamesOnLoan", "fillRatesByCold", "(II)V"⟩, 12), (⟨"NamesOnLoan", "drawWinter", "(IIII)I"⟩, 12), (⟨"NamesOnLoan", "burntNow", "()I"⟩, 12)]
theorem lw_r2 : ∀ q ∈ lw_privs_2, lw_okq q := List.forall_mem_cons.mpr ⟨lw_p16, List.forall_mem_cons.mpr ⟨lw_p17, List.forall_mem_cons.mpr ⟨lw_p18, List.forall_mem_cons.mpr ⟨lw_p19, List.forall_mem_cons.mpr ⟨lw_p20, List.forall_mem_cons.mpr ⟨lw_p21, List.forall_mem_cons.mpr ⟨lw_p22, List.forall_mem_cons.mpr ⟨lw_p23, List.forall_mem_cons.mpr ⟨lw_p24, List.forall_mem_cons.mpr ⟨lw_p25, List.forall_mem_cons.mpr ⟨lw_p26, List.forall_mem_cons.mpr ⟨lw_p27, List.forall_mem_cons.mpr ⟨lw_p28, List.forall_mem_cons.mpr ⟨lw_p29, List.forall_mem_cons.mpr ⟨lw_p30, List.forall_mem_cons.mpr ⟨lw_p31, fun _ h => absurd h List.not_mem_nil⟩⟩⟩⟩⟩⟩⟩⟩⟩⟩⟩⟩⟩⟩⟩⟩
theorem lw_p32 : lw_okq (⟨"NamesOnLoan$Acts", "own", "(III)I"⟩, 5) := ⟨⟨by decide +kernel, by decide +kernel⟩, List.mem_of_getElem? (i := 153) (by decide +kernel), List.mem_of_getElem? (i := 806) (by decide +kernel), List.mem_of_getElem? (i := 807) (by decide +kernel)⟩
theorem lw_p33 : lw_okq (⟨"NamesOnLoan$Acts", "from", "(IIII)I"⟩, 5) := ⟨⟨by decide +kernel, by decide +kernel⟩, List.mem_of_getElem? (i := 153) (by decide +kernel), List.mem_of_getElem? (i := 814) (by decide +kernel), List.mem_of_getElem? (i := 815) (by decide +kernel)⟩
theorem lw_p34 : lw_okq (⟨"NamesOnLoan$Acts", "note", "(I)V"⟩, 5) := ⟨⟨by decide +kernel, by decide +kernel⟩, List.mem_of_getElem? (i := 153) (by decide +kernel), List.mem_of_getElem? (i := 823) (by decide +kernel), List.mem_of_getElem? (i := 824) (by decide +kernel)⟩
theorem lw_p35 : lw_okq (⟨"NamesOnLoan$Acts", "runOfName", "(III)I"⟩, 5) := ⟨⟨by decide +kernel, by decide +kernel⟩, List.mem_of_getElem? (i := 153) (by decide +kernel), List.mem_of_getElem? (i := 827) (by decide +kernel), List.mem_of_getElem? (i := 828) (by decide +kernel)⟩
theorem lw_p36 : lw_okq (⟨"NamesOnLoan$Acts", "runUnder", "(IIIII)I"⟩, 5) := ⟨⟨by decide +kernel, by decide +kernel⟩, List.mem_of_getElem? (i := 153) (by decide +kernel), List.mem_of_getElem? (i := 831) (by decide +kernel), List.mem_of_getElem? (i := 832) (by decide +kernel)⟩
theorem lw_p37 : lw_okq (⟨"NamesOnLoan", "refusalOfPlace", "(II)I"⟩, 12) := ⟨⟨by decide +kernel, by decide +kernel⟩, List.mem_of_getElem? (i := 15) (by decide +kernel), List.mem_of_getElem? (i := 879) (by decide +kernel), List.mem_of_getElem? (i := 880) (by decide +kernel)⟩
theorem lw_p38 : lw_okq (⟨"NamesOnLoan$Shelf", "cut", "(J)J"⟩, 4) := ⟨⟨by decide +kernel, by decide +kernel⟩, List.mem_of_getElem? (i := 176) (by decide +kernel), List.mem_of_getElem? (i := 891) (by decide +kernel), List.mem_of_getElem? (i := 892) (by decide +kernel)⟩
theorem lw_p39 : lw_okq (⟨"NamesOnLoanModel", "adds", "(III)V"⟩, 45) := ⟨⟨by decide +kernel, by decide +kernel⟩, List.mem_of_getElem? (i := 954) (by decide +kernel), List.mem_of_getElem? (i := 1117) (by decide +kernel), List.mem_of_getElem? (i := 1118) (by decide +kernel)⟩
theorem lw_p40 : lw_okq (⟨"NamesOnLoanModel", "placeOf", "(II)I"⟩, 45) := ⟨⟨by decide +kernel, by decide +kernel⟩, List.mem_of_getElem? (i := 954) (by decide +kernel), List.mem_of_getElem? (i := 1134) (by decide +kernel), List.mem_of_getElem? (i := 1135) (by decide +kernel)⟩
theorem lw_p41 : lw_okq (⟨"NamesOnLoanModel", "isOne", "(J)Z"⟩, 45) := ⟨⟨by decide +kernel, by decide +kernel⟩, List.mem_of_getElem? (i := 954) (by decide +kernel), List.mem_of_getElem? (i := 1139) (by decide +kernel), List.mem_of_getElem? (i := 1140) (by decide +kernel)⟩
theorem lw_p42 : lw_okq (⟨"NamesOnLoanModel", "becomes", "(II)I"⟩, 45) := ⟨⟨by decide +kernel, by decide +kernel⟩, List.mem_of_getElem? (i := 954) (by decide +kernel), List.mem_of_getElem? (i := 1146) (by decide +kernel), List.mem_of_getElem? (i := 1147) (by decide +kernel)⟩
theorem lw_p43 : lw_okq (⟨"NamesOnLoanModel", "ofOne", "(II)I"⟩, 45) := ⟨⟨by decide +kernel, by decide +kernel⟩, List.mem_of_getElem? (i := 954) (by decide +kernel), List.mem_of_getElem? (i := 1154) (by decide +kernel), List.mem_of_getElem? (i := 1155) (by decide +kernel)⟩
theorem lw_p44 : lw_okq (⟨"NamesOnLoanModel", "wearsMany", "(I)I"⟩, 45) := ⟨⟨by decide +kernel, by decide +kernel⟩, List.mem_of_getElem? (i := 954) (by decide +kernel), List.mem_of_getElem? (i := 1158) (by decide +kernel), List.mem_of_getElem? (i := 1159) (by decide +kernel)⟩
theorem lw_p45 : lw_okq (⟨"NamesOnLoanModel", "workOut", "(II)I"⟩, 45) := ⟨⟨by decide +kernel, by decide +kernel⟩, List.mem_of_getElem? (i := 954) (by decide +kernel), List.mem_of_getElem? (i := 1171) (by decide +kernel), List.mem_of_getElem? (i := 1172) (by decide +kernel)⟩
theorem lw_p46 : lw_okq (⟨"NamesOnLoanModel", "either", "()I"⟩, 45) := ⟨⟨by decide +kernel, by decide +kernel⟩, List.mem_of_getElem? (i := 954) (by decide +kernel), List.mem_of_getElem? (i := 1175) (by decide +kernel), List.mem_of_getElem? (i := 1176) (by decide +kernel)⟩
theorem lw_p47 : lw_okq (⟨"NamesOnLoanModel", "both", "()I"⟩, 45) := ⟨⟨by decide +kernel, by decide +kernel⟩, List.mem_of_getElem? (i := 954) (by decide +kernel), List.mem_of_getElem? (i := 1179) (by decide +kernel), List.mem_of_getElem? (i := 1180) (by decide +kernel)⟩
def lw_privs_3 : List (MethodName × Nat) := [(⟨"NamesOnLoan$Acts", "own", "(III)I"⟩, 5), (⟨"NamesOnLoan$Acts", "from", "(IIII)I"⟩, 5), (⟨"NamesOnLoan$Acts", "note", "(I)V"⟩, 5), (⟨"NamesOnLoan$Acts", "runOfName", "(III)I"⟩, 5), (⟨"NamesOnLoan$Acts", "runUnder", "(IIIII)I"⟩, 5), (⟨"NamesOnLoan", "refusalOfPlace", "(II)I"⟩, 12), (⟨"NamesOnLoan$Shelf", "cut", "(J)J"⟩, 4), (⟨"NamesOnLoanModel", "adds", "(III)V"⟩, 45), (⟨"NamesOnLoanModel", "placeOf", "(II)I"⟩, 45), (⟨"NamesOnLoanModel", "isOne", "(J)Z"⟩, 45), (⟨"NamesOnLoanModel", "becomes", "(II)I"⟩, 45), (⟨"NamesOnLoanModel", "ofOne", "(II)I"⟩, 45), (⟨"NamesOnLoanModel", "wearsMany", "(I)I"⟩, 45), (⟨"NamesOnLoanModel", "workOut", "(II)I"⟩, 45), (⟨"NamesOnLoanModel", "either", "()I"⟩, 45), (⟨"NamesOnLoanModel", "both", "()I"⟩, 45)]
theorem lw_r3 : ∀ q ∈ lw_privs_3, lw_okq q := List.forall_mem_cons.mpr ⟨lw_p32, List.forall_mem_cons.mpr ⟨lw_p33, List.forall_mem_cons.mpr ⟨lw_p34, List.forall_mem_cons.mpr ⟨lw_p35, List.forall_mem_cons.mpr ⟨lw_p36, List.forall_mem_cons.mpr ⟨lw_p37, List.forall_mem_cons.mpr ⟨lw_p38, List.forall_mem_cons.mpr ⟨lw_p39, List.forall_mem_cons.mpr ⟨lw_p40, List.forall_mem_cons.mpr ⟨lw_p41, List.forall_mem_cons.mpr ⟨lw_p42, List.forall_mem_cons.mpr ⟨lw_p43, List.forall_mem_cons.mpr ⟨lw_p44, List.forall_mem_cons.mpr ⟨lw_p45, List.forall_mem_cons.mpr ⟨lw_p46, List.forall_mem_cons.mpr ⟨lw_p47, fun _ h => absurd h List.not_mem_nil⟩⟩⟩⟩⟩⟩⟩⟩⟩⟩⟩⟩⟩⟩⟩⟩
theorem lw_p48 : lw_okq (⟨"NamesOnLoanModel", "compared", "()I"⟩, 45) := ⟨⟨by decide +kernel, by decide +kernel⟩, List.mem_of_getElem? (i := 954) (by decide +kernel), List.mem_of_getElem? (i := 1183) (by decide +kernel), List.mem_of_getElem? (i := 1184) (by decide +kernel)⟩
theorem lw_p49 : lw_okq (⟨"NamesOnLoanModel", "sums", "()I"⟩, 45) := ⟨⟨by decide +kernel, by decide +kernel⟩, List.mem_of_getElem? (i := 954) (by decide +kernel), List.mem_of_getElem? (i := 1187) (by decide +kernel), List.mem_of_getElem? (i := 1188) (by decide +kernel)⟩
theorem lw_p50 : lw_okq (⟨"NamesOnLoanModel", "product", "()I"⟩, 45) := ⟨⟨by decide +kernel, by decide +kernel⟩, List.mem_of_getElem? (i := 954) (by decide +kernel), List.mem_of_getElem? (i := 1191) (by decide +kernel), List.mem_of_getElem? (i := 1192) (by decide +kernel)⟩
theorem lw_p51 : lw_okq (⟨"NamesOnLoanModel", "one", "()I"⟩, 45) := ⟨⟨by decide +kernel, by decide +kernel⟩, List.mem_of_getElem? (i := 954) (by decide +kernel), List.mem_of_getElem? (i := 1195) (by decide +kernel), List.mem_of_getElem? (i := 1196) (by decide +kernel)⟩
theorem lw_p52 : lw_okq (⟨"NamesOnLoanModel", "byteAt", "()I"⟩, 45) := ⟨⟨by decide +kernel, by decide +kernel⟩, List.mem_of_getElem? (i := 954) (by decide +kernel), List.mem_of_getElem? (i := 1199) (by decide +kernel), List.mem_of_getElem? (i := 1200) (by decide +kernel)⟩
theorem lw_p53 : lw_okq (⟨"NamesOnLoanModel", "wrong", "()I"⟩, 45) := ⟨⟨by decide +kernel, by decide +kernel⟩, List.mem_of_getElem? (i := 954) (by decide +kernel), List.mem_of_getElem? (i := 1203) (by decide +kernel), List.mem_of_getElem? (i := 1204) (by decide +kernel)⟩
theorem lw_p54 : lw_okq (⟨"NamesOnLoanModel", "takes", "(I)Z"⟩, 45) := ⟨⟨by decide +kernel, by decide +kernel⟩, List.mem_of_getElem? (i := 954) (by decide +kernel), List.mem_of_getElem? (i := 1207) (by decide +kernel), List.mem_of_getElem? (i := 1208) (by decide +kernel)⟩
theorem lw_p55 : lw_okq (⟨"NamesOnLoanModel", "burnsIn", "(II)I"⟩, 45) := ⟨⟨by decide +kernel, by decide +kernel⟩, List.mem_of_getElem? (i := 954) (by decide +kernel), List.mem_of_getElem? (i := 1218) (by decide +kernel), List.mem_of_getElem? (i := 1219) (by decide +kernel)⟩
theorem lw_p56 : lw_okq (⟨"NamesOnLoanModel", "goes", "(I)V"⟩, 45) := ⟨⟨by decide +kernel, by decide +kernel⟩, List.mem_of_getElem? (i := 954) (by decide +kernel), List.mem_of_getElem? (i := 1230) (by decide +kernel), List.mem_of_getElem? (i := 1231) (by decide +kernel)⟩
theorem lw_p57 : lw_okq (⟨"NamesOnLoanModel", "begins1", "()V"⟩, 45) := ⟨⟨by decide +kernel, by decide +kernel⟩, List.mem_of_getElem? (i := 954) (by decide +kernel), List.mem_of_getElem? (i := 1234) (by decide +kernel), List.mem_of_getElem? (i := 1235) (by decide +kernel)⟩
theorem lw_p58 : lw_okq (⟨"NamesOnLoanModel", "day", "(I)V"⟩, 45) := ⟨⟨by decide +kernel, by decide +kernel⟩, List.mem_of_getElem? (i := 954) (by decide +kernel), List.mem_of_getElem? (i := 1238) (by decide +kernel), List.mem_of_getElem? (i := 1239) (by decide +kernel)⟩
theorem lw_p59 : lw_okq (⟨"NamesOnLoanModel", "crackedMany", "()I"⟩, 45) := ⟨⟨by decide +kernel, by decide +kernel⟩, List.mem_of_getElem? (i := 954) (by decide +kernel), List.mem_of_getElem? (i := 1247) (by decide +kernel), List.mem_of_getElem? (i := 1248) (by decide +kernel)⟩
theorem lw_p60 : lw_okq (⟨"NamesOnLoanModel", "burntMany", "()I"⟩, 45) := ⟨⟨by decide +kernel, by decide +kernel⟩, List.mem_of_getElem? (i := 954) (by decide +kernel), List.mem_of_getElem? (i := 1251) (by decide +kernel), List.mem_of_getElem? (i := 1252) (by decide +kernel)⟩
theorem lw_p61 : lw_okq (⟨"NamesOnLoanModel", "leftAll", "()I"⟩, 45) := ⟨⟨by decide +kernel, by decide +kernel⟩, List.mem_of_getElem? (i := 954) (by decide +kernel), List.mem_of_getElem? (i := 1255) (by decide +kernel), List.mem_of_getElem? (i := 1256) (by decide +kernel)⟩
theorem lw_p62 : lw_okq (⟨"NamesOnLoanModel", "lessThan", "(II)I"⟩, 45) := ⟨⟨by decide +kernel, by decide +kernel⟩, List.mem_of_getElem? (i := 954) (by decide +kernel), List.mem_of_getElem? (i := 1263) (by decide +kernel), List.mem_of_getElem? (i := 1264) (by decide +kernel)⟩
theorem lw_p63 : lw_okq (⟨"NamesOnLoanModel", "beginsWays", "()V"⟩, 45) := ⟨⟨by decide +kernel, by decide +kernel⟩, List.mem_of_getElem? (i := 954) (by decide +kernel), List.mem_of_getElem? (i := 1280) (by decide +kernel), List.mem_of_getElem? (i := 1281) (by decide +kernel)⟩
def lw_privs_4 : List (MethodName × Nat) := [(⟨"NamesOnLoanModel", "compared", "()I"⟩, 45), (⟨"NamesOnLoanModel", "sums", "()I"⟩, 45), (⟨"NamesOnLoanModel", "product", "()I"⟩, 45), (⟨"NamesOnLoanModel", "one", "()I"⟩, 45), (⟨"NamesOnLoanModel", "byteAt", "()I"⟩, 45), (⟨"NamesOnLoanModel", "wrong", "()I"⟩, 45), (⟨"NamesOnLoanModel", "takes", "(I)Z"⟩, 45), (⟨"NamesOnLoanModel", "burnsIn", "(II)I"⟩, 45), (⟨"NamesOnLoanModel", "goes", "(I)V"⟩, 45), (⟨"NamesOnLoanModel", "begins1", "()V"⟩, 45), (⟨"NamesOnLoanModel", "day", "(I)V"⟩, 45), (⟨"NamesOnLoanModel", "crackedMany", "()I"⟩, 45), (⟨"NamesOnLoanModel", "burntMany", "()I"⟩, 45), (⟨"NamesOnLoanModel", "leftAll", "()I"⟩, 45), (⟨"NamesOnLoanModel", "lessThan", "(II)I"⟩, 45), (⟨"NamesOnLoanModel", "beginsWays", "()V"⟩, 45)]
theorem lw_r4 : ∀ q ∈ lw_privs_4, lw_okq q := List.forall_mem_cons.mpr ⟨lw_p48, List.forall_mem_cons.mpr ⟨lw_p49, List.forall_mem_cons.mpr ⟨lw_p50, List.forall_mem_cons.mpr ⟨lw_p51, List.forall_mem_cons.mpr ⟨lw_p52, List.forall_mem_cons.mpr ⟨lw_p53, List.forall_mem_cons.mpr ⟨lw_p54, List.forall_mem_cons.mpr ⟨lw_p55, List.forall_mem_cons.mpr ⟨lw_p56, List.forall_mem_cons.mpr ⟨lw_p57, List.forall_mem_cons.mpr ⟨lw_p58, List.forall_mem_cons.mpr ⟨lw_p59, List.forall_mem_cons.mpr ⟨lw_p60, List.forall_mem_cons.mpr ⟨lw_p61, List.forall_mem_cons.mpr ⟨lw_p62, List.forall_mem_cons.mpr ⟨lw_p63, fun _ h => absurd h List.not_mem_nil⟩⟩⟩⟩⟩⟩⟩⟩⟩⟩⟩⟩⟩⟩⟩⟩
theorem lw_p64 : lw_okq (⟨"NamesOnLoanModel", "isWay", "(I)Z"⟩, 45) := ⟨⟨by decide +kernel, by decide +kernel⟩, List.mem_of_getElem? (i := 954) (by decide +kernel), List.mem_of_getElem? (i := 1284) (by decide +kernel), List.mem_of_getElem? (i := 1285) (by decide +kernel)⟩
theorem lw_p65 : lw_okq (⟨"NamesOnLoanModel", "keepsWay", "()V"⟩, 45) := ⟨⟨by decide +kernel, by decide +kernel⟩, List.mem_of_getElem? (i := 954) (by decide +kernel), List.mem_of_getElem? (i := 1288) (by decide +kernel), List.mem_of_getElem? (i := 1289) (by decide +kernel)⟩
theorem lw_p66 : lw_okq (⟨"NamesOnLoanModel", "endsWays", "()V"⟩, 45) := ⟨⟨by decide +kernel, by decide +kernel⟩, List.mem_of_getElem? (i := 954) (by decide +kernel), List.mem_of_getElem? (i := 1292) (by decide +kernel), List.mem_of_getElem? (i := 1293) (by decide +kernel)⟩
theorem lw_p67 : lw_okq (⟨"NamesOnLoanModel", "thawMinutes", "()I"⟩, 45) := ⟨⟨by decide +kernel, by decide +kernel⟩, List.mem_of_getElem? (i := 954) (by decide +kernel), List.mem_of_getElem? (i := 1304) (by decide +kernel), List.mem_of_getElem? (i := 1305) (by decide +kernel)⟩
theorem lw_p68 : lw_okq (⟨"NamesOnLoanModel", "homeIn", "(I)I"⟩, 45) := ⟨⟨by decide +kernel, by decide +kernel⟩, List.mem_of_getElem? (i := 954) (by decide +kernel), List.mem_of_getElem? (i := 1308) (by decide +kernel), List.mem_of_getElem? (i := 1309) (by decide +kernel)⟩
theorem lw_p69 : lw_okq (⟨"NamesOnLoanModel", "isHome", "(I)Z"⟩, 45) := ⟨⟨by decide +kernel, by decide +kernel⟩, List.mem_of_getElem? (i := 954) (by decide +kernel), List.mem_of_getElem? (i := 1334) (by decide +kernel), List.mem_of_getElem? (i := 1335) (by decide +kernel)⟩
theorem lw_p70 : lw_okq (⟨"NamesOnLoanModel", "bytesIs", "(I)I"⟩, 45) := ⟨⟨by decide +kernel, by decide +kernel⟩, List.mem_of_getElem? (i := 954) (by decide +kernel), List.mem_of_getElem? (i := 1346) (by decide +kernel), List.mem_of_getElem? (i := 1347) (by decide +kernel)⟩
theorem lw_p71 : lw_okq (⟨"NamesOnLoanModel", "firstFalse", "(I)I"⟩, 45) := ⟨⟨by decide +kernel, by decide +kernel⟩, List.mem_of_getElem? (i := 954) (by decide +kernel), List.mem_of_getElem? (i := 1350) (by decide +kernel), List.mem_of_getElem? (i := 1351) (by decide +kernel)⟩
theorem lw_p72 : lw_okq (⟨"NamesOnLoanModel", "isBody", "(I)Z"⟩, 45) := ⟨⟨by decide +kernel, by decide +kernel⟩, List.mem_of_getElem? (i := 954) (by decide +kernel), List.mem_of_getElem? (i := 1398) (by decide +kernel), List.mem_of_getElem? (i := 1399) (by decide +kernel)⟩
theorem lw_p73 : lw_okq (⟨"NamesOnLoanModel", "wearsAs", "(II)I"⟩, 45) := ⟨⟨by decide +kernel, by decide +kernel⟩, List.mem_of_getElem? (i := 954) (by decide +kernel), List.mem_of_getElem? (i := 1402) (by decide +kernel), List.mem_of_getElem? (i := 1403) (by decide +kernel)⟩
theorem lw_p74 : lw_okq (⟨"NamesOnLoanModel", "begins", "(I)V"⟩, 45) := ⟨⟨by decide +kernel, by decide +kernel⟩, List.mem_of_getElem? (i := 954) (by decide +kernel), List.mem_of_getElem? (i := 1406) (by decide +kernel), List.mem_of_getElem? (i := 1407) (by decide +kernel)⟩
theorem lw_p75 : lw_okq (⟨"NamesOnLoanModel", "freezesAs", "(II)I"⟩, 45) := ⟨⟨by decide +kernel, by decide +kernel⟩, List.mem_of_getElem? (i := 954) (by decide +kernel), List.mem_of_getElem? (i := 1410) (by decide +kernel), List.mem_of_getElem? (i := 1411) (by decide +kernel)⟩
theorem lw_p76 : lw_okq (⟨"NamesOnLoanModel", "callsAs", "(II)I"⟩, 45) := ⟨⟨by decide +kernel, by decide +kernel⟩, List.mem_of_getElem? (i := 954) (by decide +kernel), List.mem_of_getElem? (i := 1414) (by decide +kernel), List.mem_of_getElem? (i := 1415) (by decide +kernel)⟩
theorem lw_p77 : lw_okq (⟨"NamesOnLoanModel", "tellsAs", "(II)I"⟩, 45) := ⟨⟨by decide +kernel, by decide +kernel⟩, List.mem_of_getElem? (i := 954) (by decide +kernel), List.mem_of_getElem? (i := 1418) (by decide +kernel), List.mem_of_getElem? (i := 1419) (by decide +kernel)⟩
theorem lw_p78 : lw_okq (⟨"NamesOnLoanModel", "refusal", "(II)I"⟩, 45) := ⟨⟨by decide +kernel, by decide +kernel⟩, List.mem_of_getElem? (i := 954) (by decide +kernel), List.mem_of_getElem? (i := 1438) (by decide +kernel), List.mem_of_getElem? (i := 1439) (by decide +kernel)⟩
theorem lw_p79 : lw_okq (⟨"NamesOnLoanModel", "kindOf", "(I)I"⟩, 45) := ⟨⟨by decide +kernel, by decide +kernel⟩, List.mem_of_getElem? (i := 954) (by decide +kernel), List.mem_of_getElem? (i := 1458) (by decide +kernel), List.mem_of_getElem? (i := 1459) (by decide +kernel)⟩
def lw_privs_5 : List (MethodName × Nat) := [(⟨"NamesOnLoanModel", "isWay", "(I)Z"⟩, 45), (⟨"NamesOnLoanModel", "keepsWay", "()V"⟩, 45), (⟨"NamesOnLoanModel", "endsWays", "()V"⟩, 45), (⟨"NamesOnLoanModel", "thawMinutes", "()I"⟩, 45), (⟨"NamesOnLoanModel", "homeIn", "(I)I"⟩, 45), (⟨"NamesOnLoanModel", "isHome", "(I)Z"⟩, 45), (⟨"NamesOnLoanModel", "bytesIs", "(I)I"⟩, 45), (⟨"NamesOnLoanModel", "firstFalse", "(I)I"⟩, 45), (⟨"NamesOnLoanModel", "isBody", "(I)Z"⟩, 45), (⟨"NamesOnLoanModel", "wearsAs", "(II)I"⟩, 45), (⟨"NamesOnLoanModel", "begins", "(I)V"⟩, 45), (⟨"NamesOnLoanModel", "freezesAs", "(II)I"⟩, 45), (⟨"NamesOnLoanModel", "callsAs", "(II)I"⟩, 45), (⟨"NamesOnLoanModel", "tellsAs", "(II)I"⟩, 45), (⟨"NamesOnLoanModel", "refusal", "(II)I"⟩, 45), (⟨"NamesOnLoanModel", "kindOf", "(I)I"⟩, 45)]
theorem lw_r5 : ∀ q ∈ lw_privs_5, lw_okq q := List.forall_mem_cons.mpr ⟨lw_p64, List.forall_mem_cons.mpr ⟨lw_p65, List.forall_mem_cons.mpr ⟨lw_p66, List.forall_mem_cons.mpr ⟨lw_p67, List.forall_mem_cons.mpr ⟨lw_p68, List.forall_mem_cons.mpr ⟨lw_p69, List.forall_mem_cons.mpr ⟨lw_p70, List.forall_mem_cons.mpr ⟨lw_p71, List.forall_mem_cons.mpr ⟨lw_p72, List.forall_mem_cons.mpr ⟨lw_p73, List.forall_mem_cons.mpr ⟨lw_p74, List.forall_mem_cons.mpr ⟨lw_p75, List.forall_mem_cons.mpr ⟨lw_p76, List.forall_mem_cons.mpr ⟨lw_p77, List.forall_mem_cons.mpr ⟨lw_p78, List.forall_mem_cons.mpr ⟨lw_p79, fun _ h => absurd h List.not_mem_nil⟩⟩⟩⟩⟩⟩⟩⟩⟩⟩⟩⟩⟩⟩⟩⟩
theorem lw_p80 : lw_okq (⟨"NamesOnLoanModel", "givenMany", "()I"⟩, 45) := ⟨⟨by decide +kernel, by decide +kernel⟩, List.mem_of_getElem? (i := 954) (by decide +kernel), List.mem_of_getElem? (i := 1469) (by decide +kernel), List.mem_of_getElem? (i := 1470) (by decide +kernel)⟩
def lw_privs_6 : List (MethodName × Nat) := [(⟨"NamesOnLoanModel", "givenMany", "()I"⟩, 45)]
theorem lw_r6 : ∀ q ∈ lw_privs_6, lw_okq q := List.forall_mem_cons.mpr ⟨lw_p80, fun _ h => absurd h List.not_mem_nil⟩
def lw_privs : List (MethodName × Nat) := lw_privs_1 ++ (lw_privs_2 ++ (lw_privs_3 ++ (lw_privs_4 ++ (lw_privs_5 ++ (lw_privs_6)))))
def lw_tbl : List Cond := k2_sels lw_privs ++ tables_1
theorem lw_privs_ok : ∀ q ∈ lw_privs, lw_okq q := by
  show ∀ q ∈ lw_privs_1 ++ (lw_privs_2 ++ (lw_privs_3 ++ (lw_privs_4 ++ (lw_privs_5 ++ (lw_privs_6))))), lw_okq q
  exact List.forall_mem_append.mpr ⟨lw_r1, List.forall_mem_append.mpr ⟨lw_r2, List.forall_mem_append.mpr ⟨lw_r3, List.forall_mem_append.mpr ⟨lw_r4, List.forall_mem_append.mpr ⟨lw_r5, lw_r6⟩⟩⟩⟩⟩
def RX0 : String := "NamesOnLoan$Acts"
def TX0 : u_T := fun k => match k with
  | 0 => ("NamesOnLoan$Acts", "kinds", "[I", true)
  | 1 => ("NamesOnLoan$Acts", "traces", "[I", true)
  | 2 => ("NamesOnLoan$Acts", "size", "I", false)
  | 3 => ("NamesOnLoan$Acts", "ran", "I", false)
  | _ => ("NamesOnLoan$Acts", "self", "I", false)
def tyX0 : Nat → FieldType := fun k => match k with
  | 0 => .array .int
  | 1 => .array .int
  | 2 => .int
  | 3 => .int
  | _ => .int
theorem nmX0 : ∀ a, a < 5 → ∀ b, b < 5 → a ≠ b → (TX0 a).2.1 ≠ (TX0 b).2.1 := by decide +kernel
theorem tyX0_ok : ∀ k, k < 5 → parseFieldDescriptor (TX0 k).2.2.1 = some (tyX0 k) := by decide +kernel
def RX1 : String := "NamesOnLoan$Changes"
def TX1 : u_T := fun k => match k with
  | 0 => ("NamesOnLoan$Changes", "numbers", "[I", true)
  | 1 => ("NamesOnLoan$Changes", "whats", "[I", true)
  | 2 => ("NamesOnLoan$Changes", "before", "[I", true)
  | 3 => ("NamesOnLoan$Changes", "after", "[I", true)
  | 4 => ("NamesOnLoan$Changes", "done", "I", false)
  | _ => ("NamesOnLoan$Changes", "held", "I", false)
def tyX1 : Nat → FieldType := fun k => match k with
  | 0 => .array .int
  | 1 => .array .int
  | 2 => .array .int
  | 3 => .array .int
  | 4 => .int
  | _ => .int
theorem nmX1 : ∀ a, a < 6 → ∀ b, b < 6 → a ≠ b → (TX1 a).2.1 ≠ (TX1 b).2.1 := by decide +kernel
theorem tyX1_ok : ∀ k, k < 6 → parseFieldDescriptor (TX1 k).2.2.1 = some (tyX1 k) := by decide +kernel
def RX2 : String := "NamesOnLoan$Deeds"
def TX2 : u_T := fun k => match k with
  | 0 => ("NamesOnLoan$Deeds", "wearer", "[I", true)
  | 1 => ("NamesOnLoan$Deeds", "left", "[I", true)
  | 2 => ("NamesOnLoan$Deeds", "debts", "[I", true)
  | 3 => ("NamesOnLoan$Deeds", "days", "I", false)
  | 4 => ("NamesOnLoan$Deeds", "lendings", "I", false)
  | _ => ("NamesOnLoan$Deeds", "homecomings", "I", false)
def tyX2 : Nat → FieldType := fun k => match k with
  | 0 => .array .int
  | 1 => .array .int
  | 2 => .array .int
  | 3 => .int
  | 4 => .int
  | _ => .int
theorem nmX2 : ∀ a, a < 6 → ∀ b, b < 6 → a ≠ b → (TX2 a).2.1 ≠ (TX2 b).2.1 := by decide +kernel
theorem tyX2_ok : ∀ k, k < 6 → parseFieldDescriptor (TX2 k).2.2.1 = some (tyX2 k) := by decide +kernel
def RX3 : String := "NamesOnLoan$Folk"
def TX3 : u_T := fun k => match k with
  | 0 => ("NamesOnLoan$Folk", "numbers", "[I", true)
  | _ => ("NamesOnLoan$Folk", "size", "I", false)
def tyX3 : Nat → FieldType := fun k => match k with
  | 0 => .array .int
  | _ => .int
theorem nmX3 : ∀ a, a < 2 → ∀ b, b < 2 → a ≠ b → (TX3 a).2.1 ≠ (TX3 b).2.1 := by decide +kernel
theorem tyX3_ok : ∀ k, k < 2 → parseFieldDescriptor (TX3 k).2.2.1 = some (tyX3 k) := by decide +kernel
def RX4 : String := "NamesOnLoan$Law"
def TX4 : u_T := fun k => match k with
  | 0 => ("NamesOnLoan$Law", "steps", "[I", true)
  | 1 => ("NamesOnLoan$Law", "pile", "[I", true)
  | 2 => ("NamesOnLoan$Law", "values", "[I", true)
  | _ => ("NamesOnLoan$Law", "size", "I", false)
def tyX4 : Nat → FieldType := fun k => match k with
  | 0 => .array .int
  | 1 => .array .int
  | 2 => .array .int
  | _ => .int
theorem nmX4 : ∀ a, a < 4 → ∀ b, b < 4 → a ≠ b → (TX4 a).2.1 ≠ (TX4 b).2.1 := by decide +kernel
theorem tyX4_ok : ∀ k, k < 4 → parseFieldDescriptor (TX4 k).2.2.1 = some (tyX4 k) := by decide +kernel
def RX5 : String := "NamesOnLoan$Shelf"
def TX5 : u_T := fun k => match k with
  | 0 => ("NamesOnLoan$Shelf", "holds", "I", false)
  | 1 => ("NamesOnLoan$Shelf", "name", "I", false)
  | 2 => ("NamesOnLoan$Shelf", "size", "I", false)
  | _ => ("NamesOnLoan$Shelf", "cells", "[J", true)
def tyX5 : Nat → FieldType := fun k => match k with
  | 0 => .int
  | 1 => .int
  | 2 => .int
  | _ => .array .long
theorem nmX5 : ∀ a, a < 4 → ∀ b, b < 4 → a ≠ b → (TX5 a).2.1 ≠ (TX5 b).2.1 := by decide +kernel
theorem tyX5_ok : ∀ k, k < 4 → parseFieldDescriptor (TX5 k).2.2.1 = some (tyX5 k) := by decide +kernel
def RX6 : String := "NamesOnLoan$Tape"
def TX6 : u_T := fun k => match k with
  | 0 => ("NamesOnLoan$Tape", "bytes", "[I", true)
  | 1 => ("NamesOnLoan$Tape", "length", "I", false)
  | 2 => ("NamesOnLoan$Tape", "place", "I", false)
  | 3 => ("NamesOnLoan$Tape", "steps", "[I", true)
  | _ => ("NamesOnLoan$Tape", "written", "I", false)
def tyX6 : Nat → FieldType := fun k => match k with
  | 0 => .array .int
  | 1 => .int
  | 2 => .int
  | 3 => .array .int
  | _ => .int
theorem nmX6 : ∀ a, a < 5 → ∀ b, b < 5 → a ≠ b → (TX6 a).2.1 ≠ (TX6 b).2.1 := by decide +kernel
theorem tyX6_ok : ∀ k, k < 5 → parseFieldDescriptor (TX6 k).2.2.1 = some (tyX6 k) := by decide +kernel
def RX7 : String := "NamesOnLoan$Ways"
def TX7 : u_T := fun k => match k with
  | 0 => ("NamesOnLoan$Ways", "way", "[I", true)
  | 1 => ("NamesOnLoan$Ways", "worn", "[I", true)
  | 2 => ("NamesOnLoan$Ways", "coats", "[I", true)
  | 3 => ("NamesOnLoan$Ways", "first", "[I", true)
  | 4 => ("NamesOnLoan$Ways", "costs", "[I", true)
  | _ => ("NamesOnLoan$Ways", "size", "I", false)
def tyX7 : Nat → FieldType := fun k => match k with
  | 0 => .array .int
  | 1 => .array .int
  | 2 => .array .int
  | 3 => .array .int
  | 4 => .array .int
  | _ => .int
theorem nmX7 : ∀ a, a < 6 → ∀ b, b < 6 → a ≠ b → (TX7 a).2.1 ≠ (TX7 b).2.1 := by decide +kernel
theorem tyX7_ok : ∀ k, k < 6 → parseFieldDescriptor (TX7 k).2.2.1 = some (tyX7 k) := by decide +kernel
def RX8 : String := "NamesOnLoan"
def TX8 : u_T := fun k => match k with
  | 0 => ("NamesOnLoan", "folk", "LNamesOnLoan$Folk;", true)
  | 1 => ("NamesOnLoan", "deeds", "LNamesOnLoan$Deeds;", true)
  | 2 => ("NamesOnLoan", "kept", "LNamesOnLoan$Deeds;", true)
  | 3 => ("NamesOnLoan", "hasImage", "Z", false)
  | 4 => ("NamesOnLoan", "tape", "LNamesOnLoan$Tape;", true)
  | 5 => ("NamesOnLoan", "frostLaw", "LNamesOnLoan$Law;", true)
  | 6 => ("NamesOnLoan", "ways", "LNamesOnLoan$Ways;", true)
  | 7 => ("NamesOnLoan", "changes", "LNamesOnLoan$Changes;", true)
  | 8 => ("NamesOnLoan", "acts", "LNamesOnLoan$Acts;", true)
  | 9 => ("NamesOnLoan", "shelves", "[LNamesOnLoan$Shelf;", true)
  | 10 => ("NamesOnLoan", "trial", "[I", true)
  | _ => ("NamesOnLoan", "ratesByCold", "[I", true)
def tyX8 : Nat → FieldType := fun k => match k with
  | 0 => .object "NamesOnLoan$Folk"
  | 1 => .object "NamesOnLoan$Deeds"
  | 2 => .object "NamesOnLoan$Deeds"
  | 3 => .boolean
  | 4 => .object "NamesOnLoan$Tape"
  | 5 => .object "NamesOnLoan$Law"
  | 6 => .object "NamesOnLoan$Ways"
  | 7 => .object "NamesOnLoan$Changes"
  | 8 => .object "NamesOnLoan$Acts"
  | 9 => .array (.object "NamesOnLoan$Shelf")
  | 10 => .array .int
  | _ => .array .int
theorem nmX8 : ∀ a, a < 12 → ∀ b, b < 12 → a ≠ b → (TX8 a).2.1 ≠ (TX8 b).2.1 := by decide +kernel
theorem tyX8_ok : ∀ k, k < 12 → parseFieldDescriptor (TX8 k).2.2.1 = some (tyX8 k) := by decide +kernel
def RX9 : String := "NamesOnLoanModel"
def TX9 : u_T := fun k => match k with
  | 0 => ("NamesOnLoanModel", "may", "[I", true)
  | 1 => ("NamesOnLoanModel", "changeAt", "[I", true)
  | 2 => ("NamesOnLoanModel", "changeWas", "[I", true)
  | 3 => ("NamesOnLoanModel", "changeIs", "[I", true)
  | 4 => ("NamesOnLoanModel", "keptMany", "I", false)
  | 5 => ("NamesOnLoanModel", "done", "I", false)
  | 6 => ("NamesOnLoanModel", "people", "I", false)
  | 7 => ("NamesOnLoanModel", "wearer", "[I", true)
  | 8 => ("NamesOnLoanModel", "leftNow", "[I", true)
  | 9 => ("NamesOnLoanModel", "tape", "[I", true)
  | 10 => ("NamesOnLoanModel", "tapeMany", "I", false)
  | 11 => ("NamesOnLoanModel", "text", "[I", true)
  | 12 => ("NamesOnLoanModel", "textMany", "I", false)
  | 13 => ("NamesOnLoanModel", "base", "I", false)
  | 14 => ("NamesOnLoanModel", "at", "I", false)
  | 15 => ("NamesOnLoanModel", "ends", "I", false)
  | 16 => ("NamesOnLoanModel", "fault", "I", false)
  | 17 => ("NamesOnLoanModel", "opened", "I", false)
  | 18 => ("NamesOnLoanModel", "names", "[I", true)
  | 19 => ("NamesOnLoanModel", "left", "[I", true)
  | 20 => ("NamesOnLoanModel", "hadWearer", "[I", true)
  | 21 => ("NamesOnLoanModel", "bestWearer", "[I", true)
  | 22 => ("NamesOnLoanModel", "ways", "I", false)
  | 23 => ("NamesOnLoanModel", "codes", "I", false)
  | 24 => ("NamesOnLoanModel", "came", "[Z", true)
  | 25 => ("NamesOnLoanModel", "owed", "[I", true)
  | 26 => ("NamesOnLoanModel", "ledDays", "I", false)
  | 27 => ("NamesOnLoanModel", "ledLendings", "I", false)
  | 28 => ("NamesOnLoanModel", "ledThaws", "I", false)
  | 29 => ("NamesOnLoanModel", "isKept", "Z", false)
  | 30 => ("NamesOnLoanModel", "imagePeople", "I", false)
  | 31 => ("NamesOnLoanModel", "imageWearer", "[I", true)
  | 32 => ("NamesOnLoanModel", "imageLeft", "[I", true)
  | 33 => ("NamesOnLoanModel", "imageOwed", "[I", true)
  | 34 => ("NamesOnLoanModel", "imageLed", "[I", true)
  | 35 => ("NamesOnLoanModel", "bodies", "I", false)
  | 36 => ("NamesOnLoanModel", "bodyKind", "[I", true)
  | 37 => ("NamesOnLoanModel", "trace", "[I", true)
  | 38 => ("NamesOnLoanModel", "ran", "I", false)
  | 39 => ("NamesOnLoanModel", "ownKind", "I", false)
  | 40 => ("NamesOnLoanModel", "ownNumber", "I", false)
  | 41 => ("NamesOnLoanModel", "shelf", "[I", true)
  | 42 => ("NamesOnLoanModel", "many", "[I", true)
  | 43 => ("NamesOnLoanModel", "items", "[J", true)
  | _ => ("NamesOnLoanModel", "carried", "[J", true)
def tyX9 : Nat → FieldType := fun k => match k with
  | 0 => .array .int
  | 1 => .array .int
  | 2 => .array .int
  | 3 => .array .int
  | 4 => .int
  | 5 => .int
  | 6 => .int
  | 7 => .array .int
  | 8 => .array .int
  | 9 => .array .int
  | 10 => .int
  | 11 => .array .int
  | 12 => .int
  | 13 => .int
  | 14 => .int
  | 15 => .int
  | 16 => .int
  | 17 => .int
  | 18 => .array .int
  | 19 => .array .int
  | 20 => .array .int
  | 21 => .array .int
  | 22 => .int
  | 23 => .int
  | 24 => .array .boolean
  | 25 => .array .int
  | 26 => .int
  | 27 => .int
  | 28 => .int
  | 29 => .boolean
  | 30 => .int
  | 31 => .array .int
  | 32 => .array .int
  | 33 => .array .int
  | 34 => .array .int
  | 35 => .int
  | 36 => .array .int
  | 37 => .array .int
  | 38 => .int
  | 39 => .int
  | 40 => .int
  | 41 => .array .int
  | 42 => .array .int
  | 43 => .array .long
  | _ => .array .long
theorem nmX9 : ∀ a, a < 45 → ∀ b, b < 45 → a ≠ b → (TX9 a).2.1 ≠ (TX9 b).2.1 := by decide +kernel
theorem tyX9_ok : ∀ k, k < 45 → parseFieldDescriptor (TX9 k).2.2.1 = some (tyX9 k) := by decide +kernel
abbrev vwCl : List vw_C := [(RX0, TX0, 5), (RX1, TX1, 6), (RX2, TX2, 6), (RX3, TX3, 2), (RX4, TX4, 4), (RX5, TX5, 4), (RX6, TX6, 5), (RX7, TX7, 6), (RX8, TX8, 12), (RX9, TX9, 45)]
/-! what is held: numbers by cell and slot; the skeleton of cells, which never changes once the two constructors are through -/
abbrev am_M : Type := (Nat → Nat → Int32) × (Nat → Nat → Int64)
abbrev am_C : Type := (Nat × List (Option Nat)) ⊕ (Nat × Nat) ⊕ List Nat
def am_sk : List am_C := [
  .inl (8, [some 1, some 3, some 7, none, some 11, some 14, some 18, some 24, some 29, some 32, some 45, some 46]),
  .inl (3, [some 2, none]),
  .inr (.inl (0, 34)),
  .inl (2, [some 4, some 5, some 6, none, none, none]),
  .inr (.inl (0, 8)),
  .inr (.inl (0, 8)),
  .inr (.inl (0, 64)),
  .inl (2, [some 8, some 9, some 10, none, none, none]),
  .inr (.inl (0, 8)),
  .inr (.inl (0, 8)),
  .inr (.inl (0, 64)),
  .inl (6, [some 12, none, none, some 13, none]),
  .inr (.inl (0, 120)),
  .inr (.inl (0, 128)),
  .inl (4, [some 15, some 16, some 17, none]),
  .inr (.inl (0, 128)),
  .inr (.inl (0, 128)),
  .inr (.inl (0, 6)),
  .inl (7, [some 19, some 20, some 21, some 22, some 23, none]),
  .inr (.inl (0, 5)),
  .inr (.inl (0, 5)),
  .inr (.inl (0, 5)),
  .inr (.inl (0, 5)),
  .inr (.inl (0, 125)),
  .inl (1, [some 25, some 26, some 27, some 28, none, none]),
  .inr (.inl (0, 40)),
  .inr (.inl (0, 40)),
  .inr (.inl (0, 40)),
  .inr (.inl (0, 40)),
  .inl (0, [some 30, some 31, none, none, none]),
  .inr (.inl (0, 50)),
  .inr (.inl (0, 24)),
  .inr (.inr [33, 35, 37, 39, 41, 43]),
  .inl (5, [none, none, none, some 34]),
  .inr (.inl (2, 60)),
  .inl (5, [none, none, none, some 36]),
  .inr (.inl (2, 60)),
  .inl (5, [none, none, none, some 38]),
  .inr (.inl (2, 60)),
  .inl (5, [none, none, none, some 40]),
  .inr (.inl (2, 60)),
  .inl (5, [none, none, none, some 42]),
  .inr (.inl (2, 60)),
  .inl (5, [none, none, none, some 44]),
  .inr (.inl (2, 60)),
  .inr (.inl (0, 8)),
  .inr (.inl (0, 80)),
  .inl (9, [some 48, some 49, some 50, some 51, none, none, none, some 52, some 53, some 54, none, some 55, none, none, none, none, none, none, some 56, some 57, some 58, some 59, none, none, some 60, some 61, none, none, none, none, none, some 62, some 63, some 64, some 65, none, some 66, some 67, none, none, none, some 68, some 69, some 70, some 71]),
  .inr (.inl (0, 34)),
  .inr (.inl (0, 40)),
  .inr (.inl (0, 40)),
  .inr (.inl (0, 40)),
  .inr (.inl (0, 8)),
  .inr (.inl (0, 8)),
  .inr (.inl (0, 120)),
  .inr (.inl (0, 120)),
  .inr (.inl (0, 6)),
  .inr (.inl (0, 8)),
  .inr (.inl (0, 8)),
  .inr (.inl (0, 8)),
  .inr (.inl (1, 8)),
  .inr (.inl (0, 64)),
  .inr (.inl (0, 8)),
  .inr (.inl (0, 8)),
  .inr (.inl (0, 64)),
  .inr (.inl (0, 3)),
  .inr (.inl (0, 50)),
  .inr (.inl (0, 24)),
  .inr (.inl (0, 6)),
  .inr (.inl (0, 6)),
  .inr (.inl (2, 360)),
  .inr (.inl (2, 60))]
abbrev am_Mi : Type := MethodName × ByteArray × Nat × Option FieldType × Nat × Nat × List Nat
/-- the methods: name, bytes, locals, what it returns, 0 static 1 of an object, parameters, places of its words -/
def am_ms0 : List am_Mi := [
  (⟨"NamesOnLoan", "person", "(II)I"⟩, prog_1_method_2_code, 3, some .int, 1, 2, [316, 314, 315, 82]),
  (⟨"NamesOnLoan$Folk", "fits", "(II)Z"⟩, prog_5_method_2_code, 2, some .boolean, 0, 2, [319, 318, 83]),
  (⟨"NamesOnLoan$Folk", "isFull", "()Z"⟩, prog_5_method_4_code, 1, some .boolean, 1, 0, [327, 325, 326, 83]),
  (⟨"NamesOnLoan$Folk", "welcome", "(III)I"⟩, prog_5_method_11_code, 5, some .int, 1, 3, [331, 329, 330, 83]),
  (⟨"NamesOnLoan$Folk", "tell", "(III)V"⟩, prog_5_method_9_code, 4, none, 1, 3, [335, 333, 334, 83]),
  (⟨"NamesOnLoan$Folk", "tells", "(II)Z"⟩, prog_5_method_6_code, 3, some .boolean, 1, 2, [339, 337, 338, 83]),
  (⟨"NamesOnLoan$Folk", "has", "(I)Z"⟩, prog_5_method_5_code, 2, some .boolean, 1, 1, [343, 341, 342, 83]),
  (⟨"NamesOnLoan$Folk", "placeOf", "(II)I"⟩, prog_5_method_7_code, 2, some .int, 0, 2, [346, 345, 83]),
  (⟨"NamesOnLoan", "people", "(III)I"⟩, prog_1_method_3_code, 6, some .int, 1, 3, [350, 348, 349, 82]),
  (⟨"NamesOnLoan", "isShelf", "(I)Z"⟩, prog_1_method_60_code, 1, some .boolean, 0, 1, [353, 352, 82]),
  (⟨"NamesOnLoan$Shelf", "isEmpty", "()Z"⟩, prog_7_method_3_code, 1, some .boolean, 1, 0, [357, 355, 356, 90]),
  (⟨"NamesOnLoan$Shelf", "isOfBytes", "()Z"⟩, prog_7_method_6_code, 1, some .boolean, 1, 0, [361, 359, 360, 90]),
  (⟨"NamesOnLoan", "comesFrom", "(LNamesOnLoan$Shelf;I)Z"⟩, prog_1_method_4_code, 6, some .boolean, 1, 2, [365, 364, 0, 82]),
  (⟨"NamesOnLoan$Shelf", "hasPlaces", "(II)Z"⟩, prog_7_method_13_code, 3, some .boolean, 1, 2, [369, 367, 368, 90]),
  (⟨"NamesOnLoan$Shelf", "number", "(I)I"⟩, prog_7_method_15_code, 2, some .int, 1, 1, [373, 371, 372, 90]),
  (⟨"NamesOnLoan", "mend", "(III)I"⟩, prog_1_method_5_code, 5, some .int, 1, 3, [378, 376, 377, 82]),
  (⟨"NamesOnLoan$Folk", "told", "(II)I"⟩, prog_5_method_8_code, 3, some .int, 1, 2, [383, 381, 382, 83]),
  (⟨"NamesOnLoan$Changes", "add", "(IIII)V"⟩, prog_3_method_2_code, 5, none, 1, 4, [388, 386, 387, 88]),
  (⟨"NamesOnLoan$Changes", "dropOldest", "([I)V"⟩, prog_3_method_3_code, 1, none, 0, 1, [391, 390, 88]),
  (⟨"NamesOnLoan", "of", "(II)I"⟩, prog_1_method_6_code, 3, some .int, 1, 2, [398, 396, 397, 82]),
  (⟨"NamesOnLoan$Deeds", "wearerOf", "(I)I"⟩, prog_4_method_5_code, 2, some .int, 1, 1, [403, 401, 402, 84]),
  (⟨"NamesOnLoan$Deeds", "isIn", "(I)Z"⟩, prog_4_method_2_code, 1, some .boolean, 0, 1, [406, 405, 84]),
  (⟨"NamesOnLoan$Deeds", "leftOf", "(I)I"⟩, prog_4_method_6_code, 2, some .int, 1, 1, [410, 408, 409, 84]),
  (⟨"NamesOnLoan", "cracks", "(II)Z"⟩, prog_1_method_65_code, 3, some .boolean, 1, 2, [414, 413, 1, 82]),
  (⟨"NamesOnLoan$Deeds", "wornBy", "(I)I"⟩, prog_4_method_8_code, 4, some .int, 1, 1, [418, 416, 417, 84]),
  (⟨"NamesOnLoan", "feed", "(I)I"⟩, prog_1_method_7_code, 2, some .int, 1, 1, [422, 420, 421, 82]),
  (⟨"NamesOnLoan$Tape", "isFull", "()Z"⟩, prog_8_method_2_code, 1, some .boolean, 1, 0, [426, 424, 425, 85]),
  (⟨"NamesOnLoan$Tape", "add", "(I)I"⟩, prog_8_method_3_code, 2, some .int, 1, 1, [430, 428, 429, 85]),
  (⟨"NamesOnLoan", "law", "()I"⟩, prog_1_method_8_code, 2, some .int, 1, 0, [434, 432, 433, 82]),
  (⟨"NamesOnLoan$Tape", "read", "()I"⟩, prog_8_method_7_code, 3, some .int, 1, 0, [438, 436, 437, 85]),
  (⟨"NamesOnLoan$Tape", "readLine", "()Z"⟩, prog_8_method_10_code, 1, some .boolean, 1, 0, [442, 441, 2, 85]),
  (⟨"NamesOnLoan$Tape", "readLevel", "(II)Z"⟩, prog_8_method_11_code, 7, some .boolean, 1, 2, [446, 445, 3, 85]),
  (⟨"NamesOnLoan$Tape", "readOne", "(I)Z"⟩, prog_8_method_13_code, 4, some .boolean, 1, 1, [450, 449, 4, 85]),
  (⟨"NamesOnLoan$Tape", "next", "()I"⟩, prog_8_method_8_code, 1, some .int, 1, 0, [454, 453, 5, 85]),
  (⟨"NamesOnLoan$Tape", "isDigit", "(I)Z"⟩, prog_8_method_16_code, 1, some .boolean, 0, 1, [457, 456, 85]),
  (⟨"NamesOnLoan$Tape", "readNumber", "()V"⟩, prog_8_method_17_code, 3, none, 1, 0, [461, 460, 6, 85]),
  (⟨"NamesOnLoan$Tape", "write", "(I)V"⟩, prog_8_method_9_code, 2, none, 1, 1, [465, 464, 7, 85]),
  (⟨"NamesOnLoan$Law", "valueCalled", "(I)I"⟩, prog_6_method_2_code, 1, some .int, 0, 1, [468, 467, 86]),
  (⟨"NamesOnLoan$Tape", "readInside", "(I)Z"⟩, prog_8_method_14_code, 2, some .boolean, 1, 1, [472, 471, 8, 85]),
  (⟨"NamesOnLoan$Tape", "readTurned", "(II)Z"⟩, prog_8_method_15_code, 3, some .boolean, 1, 2, [476, 475, 9, 85]),
  (⟨"NamesOnLoan$Tape", "levelOf", "(I)I"⟩, prog_8_method_12_code, 1, some .int, 0, 1, [479, 478, 85]),
  (⟨"NamesOnLoan$Tape", "handTo", "(LNamesOnLoan$Law;)V"⟩, prog_8_method_6_code, 2, none, 1, 1, [483, 481, 482, 85]),
  (⟨"NamesOnLoan$Law", "become", "([II)V"⟩, prog_6_method_3_code, 3, none, 1, 2, [487, 485, 486, 86]),
  (⟨"java/lang/Math", "min", "(II)I"⟩, prog_13_method_69_code, 2, some .int, 0, 2, [490, 489, 93]),
  (⟨"java/lang/Math", "max", "(II)I"⟩, prog_13_method_65_code, 2, some .int, 0, 2, [493, 492, 93]),
  (⟨"NamesOnLoan$Tape", "clear", "()V"⟩, prog_8_method_5_code, 1, none, 1, 0, [498, 496, 497, 85]),
  (⟨"NamesOnLoan", "burns", "(I)I"⟩, prog_1_method_9_code, 2, some .int, 1, 1, [502, 500, 501, 82]),
  (⟨"NamesOnLoan", "rateNow", "(I)I"⟩, prog_1_method_63_code, 3, some .int, 1, 1, [506, 505, 10, 82]),
  (⟨"NamesOnLoan$Folk", "cold", "()I"⟩, prog_5_method_10_code, 1, some .int, 1, 0, [510, 508, 509, 83]),
  (⟨"NamesOnLoan", "rate", "(IIII)I"⟩, prog_1_method_62_code, 9, some .int, 1, 4, [515, 514, 11, 82]),
  (⟨"NamesOnLoan$Law", "burnt", "(IIIIII)I"⟩, prog_6_method_4_code, 7, some .int, 1, 6, [519, 517, 518, 86]),
  (⟨"NamesOnLoan$Law", "held", "(I)I"⟩, prog_6_method_5_code, 1, some .int, 0, 1, [522, 521, 86]),
  (⟨"NamesOnLoan$Law", "workOut", "()I"⟩, prog_6_method_6_code, 6, some .int, 1, 0, [526, 525, 12, 86]),
  (⟨"NamesOnLoan$Law", "isLaid", "(I)Z"⟩, prog_6_method_8_code, 1, some .boolean, 0, 1, [529, 528, 86]),
  (⟨"NamesOnLoan$Law", "needed", "(I)I"⟩, prog_6_method_7_code, 1, some .int, 0, 1, [532, 531, 86]),
  (⟨"NamesOnLoan$Law", "turned", "(II)I"⟩, prog_6_method_9_code, 2, some .int, 0, 2, [535, 534, 86]),
  (⟨"NamesOnLoan$Law", "joined", "(III)I"⟩, prog_6_method_10_code, 3, some .int, 0, 3, [538, 537, 86]),
  (⟨"NamesOnLoan", "left", "(II)I"⟩, prog_1_method_10_code, 3, some .int, 1, 2, [542, 540, 541, 82]),
  (⟨"NamesOnLoan", "isTo99", "(I)Z"⟩, prog_1_method_59_code, 1, some .boolean, 0, 1, [545, 544, 82]),
  (⟨"NamesOnLoan", "leftAfter", "(II)I"⟩, prog_1_method_64_code, 3, some .int, 1, 2, [549, 548, 13, 82]),
  (⟨"NamesOnLoan$Deeds", "leftBy", "(III)I"⟩, prog_4_method_7_code, 4, some .int, 1, 3, [553, 551, 552, 84]),
  (⟨"NamesOnLoan", "winter", "(II)I"⟩, prog_1_method_11_code, 6, some .int, 1, 2, [558, 556, 557, 82]),
  (⟨"NamesOnLoan$Folk", "size", "()I"⟩, prog_5_method_3_code, 1, some .int, 1, 0, [562, 560, 561, 83]),
  (⟨"NamesOnLoan", "when", "(II)I"⟩, prog_1_method_12_code, 3, some .int, 1, 2, [566, 564, 565, 82]),
  (⟨"NamesOnLoan", "firstDay", "(IZ)I"⟩, prog_1_method_66_code, 6, some .int, 1, 2, [570, 569, 14, 82]),
  (⟨"NamesOnLoan", "last", "()I"⟩, prog_1_method_13_code, 5, some .int, 1, 0, [574, 572, 573, 82]),
  (⟨"NamesOnLoan", "give", "(III)I"⟩, prog_1_method_14_code, 11, some .int, 1, 3, [578, 576, 577, 82]),
  (⟨"NamesOnLoan", "mayWearMore", "(I)Z"⟩, prog_1_method_61_code, 2, some .boolean, 1, 1, [582, 581, 15, 82]),
  (⟨"NamesOnLoan", "allLast", "(II)I"⟩, prog_1_method_15_code, 7, some .int, 1, 2, [586, 584, 585, 82]),
  (⟨"NamesOnLoan", "beginWays", "(ILNamesOnLoan$Shelf;)V"⟩, prog_1_method_17_code, 8, none, 1, 2, [590, 589, 16, 82])]
def am_ms1 : List am_Mi := [
  (⟨"NamesOnLoan$Ways", "begin", "(I)V"⟩, prog_9_method_2_code, 3, none, 1, 1, [594, 592, 593, 87]),
  (⟨"NamesOnLoan$Ways", "setCoats", "(II)V"⟩, prog_9_method_4_code, 3, none, 1, 2, [600, 598, 599, 87]),
  (⟨"NamesOnLoan$Ways", "has", "(I)Z"⟩, prog_9_method_3_code, 2, some .boolean, 1, 1, [604, 603, 17, 87]),
  (⟨"NamesOnLoan", "costAfter", "(III)I"⟩, prog_1_method_18_code, 6, some .int, 1, 3, [608, 607, 18, 82]),
  (⟨"NamesOnLoan", "threesNotSo", "(LNamesOnLoan$Shelf;III)I"⟩, prog_1_method_36_code, 7, some .int, 1, 4, [613, 612, 19, 82]),
  (⟨"NamesOnLoan$Shelf", "size", "()I"⟩, prog_7_method_9_code, 1, some .int, 1, 0, [617, 615, 616, 90]),
  (⟨"NamesOnLoan", "isSo", "(LNamesOnLoan$Shelf;III)Z"⟩, prog_1_method_32_code, 7, some .boolean, 1, 4, [621, 620, 20, 82]),
  (⟨"NamesOnLoan$Ways", "setCost", "(IIII)V"⟩, prog_9_method_5_code, 5, none, 1, 4, [625, 623, 624, 87]),
  (⟨"NamesOnLoan$Ways", "placeOf", "(III)I"⟩, prog_9_method_6_code, 3, some .int, 0, 3, [628, 627, 87]),
  (⟨"NamesOnLoan$Ways", "total", "()I"⟩, prog_9_method_7_code, 3, some .int, 1, 0, [633, 631, 632, 87]),
  (⟨"NamesOnLoan$Ways", "fits", "()Z"⟩, prog_9_method_9_code, 2, some .boolean, 1, 0, [637, 635, 636, 87]),
  (⟨"NamesOnLoan$Ways", "cost", "()I"⟩, prog_9_method_11_code, 4, some .int, 1, 0, [641, 639, 640, 87]),
  (⟨"NamesOnLoan$Ways", "markFirst", "()V"⟩, prog_9_method_12_code, 1, none, 1, 0, [645, 643, 644, 87]),
  (⟨"NamesOnLoan$Ways", "goOn", "()V"⟩, prog_9_method_8_code, 4, none, 1, 0, [650, 648, 649, 87]),
  (⟨"NamesOnLoan$Ways", "firstWearer", "(I)I"⟩, prog_9_method_13_code, 2, some .int, 1, 1, [654, 652, 653, 87]),
  (⟨"NamesOnLoan", "fewest", "(I)I"⟩, prog_1_method_16_code, 5, some .int, 1, 1, [658, 656, 657, 82]),
  (⟨"NamesOnLoan$Ways", "wearers", "()I"⟩, prog_9_method_10_code, 3, some .int, 1, 0, [662, 660, 661, 87]),
  (⟨"NamesOnLoan", "thaws", "(I)I"⟩, prog_1_method_19_code, 2, some .int, 1, 1, [666, 664, 665, 82]),
  (⟨"NamesOnLoan", "minutesOfThaw", "()I"⟩, prog_1_method_20_code, 3, some .int, 1, 0, [670, 669, 21, 82]),
  (⟨"NamesOnLoan$Deeds", "minuteHome", "(I)I"⟩, prog_4_method_10_code, 5, some .int, 1, 1, [674, 672, 673, 84]),
  (⟨"NamesOnLoan", "ring", "(II)I"⟩, prog_1_method_21_code, 8, some .int, 1, 2, [680, 678, 679, 82]),
  (⟨"NamesOnLoan", "crowd", "(I)I"⟩, prog_1_method_22_code, 6, some .int, 1, 1, [684, 682, 683, 82]),
  (⟨"NamesOnLoan", "letter", "(III)I"⟩, prog_1_method_23_code, 7, some .int, 1, 3, [688, 686, 687, 82]),
  (⟨"java/lang/Integer", "bitCount", "(I)I"⟩, prog_12_method_49_code, 1, some .int, 0, 1, [691, 690, 94]),
  (⟨"NamesOnLoan", "owe", "(II)I"⟩, prog_1_method_24_code, 6, some .int, 1, 2, [698, 696, 697, 82]),
  (⟨"NamesOnLoan$Deeds", "debtOf", "(II)I"⟩, prog_4_method_11_code, 3, some .int, 1, 2, [702, 700, 701, 84]),
  (⟨"NamesOnLoan$Deeds", "setDebt", "(III)V"⟩, prog_4_method_12_code, 4, none, 1, 3, [706, 704, 705, 84]),
  (⟨"NamesOnLoan", "debt", "(I)I"⟩, prog_1_method_25_code, 4, some .int, 1, 1, [710, 708, 709, 82]),
  (⟨"NamesOnLoan", "allThatSleeps", "()I"⟩, prog_1_method_26_code, 4, some .int, 1, 0, [714, 713, 22, 82]),
  (⟨"NamesOnLoan$Deeds", "sleeps", "(II)Z"⟩, prog_4_method_13_code, 3, some .boolean, 1, 2, [718, 716, 717, 84]),
  (⟨"NamesOnLoan", "doors", "(I)I"⟩, prog_1_method_27_code, 7, some .int, 1, 1, [722, 720, 721, 82]),
  (⟨"NamesOnLoan", "gainOfExchange", "(III)I"⟩, prog_1_method_28_code, 7, some .int, 1, 3, [726, 725, 23, 82]),
  (⟨"NamesOnLoan", "leftWith", "(III)I"⟩, prog_1_method_29_code, 5, some .int, 1, 3, [730, 729, 24, 82]),
  (⟨"NamesOnLoan", "judge", "(I)I"⟩, prog_1_method_30_code, 6, some .int, 1, 1, [734, 732, 733, 82]),
  (⟨"NamesOnLoan", "refusalOfBytes", "(I)I"⟩, prog_1_method_67_code, 2, some .int, 1, 1, [738, 737, 25, 82]),
  (⟨"NamesOnLoan", "isThree", "(LNamesOnLoan$Shelf;I)Z"⟩, prog_1_method_31_code, 3, some .boolean, 1, 2, [742, 741, 26, 82]),
  (⟨"NamesOnLoan", "wore", "(II)I"⟩, prog_1_method_33_code, 6, some .int, 1, 2, [746, 744, 745, 82]),
  (⟨"NamesOnLoan", "areThrees", "(LNamesOnLoan$Shelf;)Z"⟩, prog_1_method_34_code, 3, some .boolean, 1, 1, [750, 749, 27, 82]),
  (⟨"NamesOnLoan", "waysThatMakeSo", "(LNamesOnLoan$Shelf;)I"⟩, prog_1_method_35_code, 5, some .int, 1, 1, [754, 753, 28, 82]),
  (⟨"NamesOnLoan", "drawn", "(III)I"⟩, prog_1_method_37_code, 12, some .int, 1, 3, [758, 756, 757, 82]),
  (⟨"NamesOnLoan", "fillRatesByCold", "(II)V"⟩, prog_1_method_38_code, 7, none, 1, 2, [762, 761, 29, 82]),
  (⟨"NamesOnLoan$Deeds", "copyLeft", "([I)V"⟩, prog_4_method_4_code, 2, none, 1, 1, [766, 764, 765, 84]),
  (⟨"NamesOnLoan", "drawWinter", "(IIII)I"⟩, prog_1_method_39_code, 9, some .int, 1, 4, [772, 771, 30, 82]),
  (⟨"NamesOnLoan", "lend", "(II)I"⟩, prog_1_method_40_code, 4, some .int, 1, 2, [777, 775, 776, 82]),
  (⟨"NamesOnLoan$Deeds", "lendTo", "(II)V"⟩, prog_4_method_14_code, 3, none, 1, 2, [781, 779, 780, 84]),
  (⟨"NamesOnLoan", "pass", "(I)I"⟩, prog_1_method_41_code, 5, some .int, 1, 1, [785, 783, 784, 82]),
  (⟨"NamesOnLoan$Deeds", "setLeft", "(II)V"⟩, prog_4_method_15_code, 3, none, 1, 2, [789, 787, 788, 84]),
  (⟨"NamesOnLoan$Deeds", "addDays", "(I)V"⟩, prog_4_method_16_code, 2, none, 1, 1, [793, 791, 792, 84]),
  (⟨"NamesOnLoan", "thaw", "()I"⟩, prog_1_method_42_code, 2, some .int, 1, 0, [797, 795, 796, 82]),
  (⟨"NamesOnLoan$Deeds", "bringHome", "()V"⟩, prog_4_method_17_code, 2, none, 1, 0, [801, 799, 800, 84]),
  (⟨"NamesOnLoan", "led", "(I)I"⟩, prog_1_method_43_code, 2, some .int, 1, 1, [805, 803, 804, 82]),
  (⟨"NamesOnLoan$Deeds", "days", "()I"⟩, prog_4_method_18_code, 1, some .int, 1, 0, [809, 807, 808, 84]),
  (⟨"NamesOnLoan$Deeds", "lendings", "()I"⟩, prog_4_method_19_code, 1, some .int, 1, 0, [813, 811, 812, 84]),
  (⟨"NamesOnLoan$Deeds", "homecomings", "()I"⟩, prog_4_method_20_code, 1, some .int, 1, 0, [817, 815, 816, 84]),
  (⟨"NamesOnLoan", "burntNow", "()I"⟩, prog_1_method_44_code, 3, some .int, 1, 0, [821, 820, 31, 82]),
  (⟨"NamesOnLoan", "image", "()I"⟩, prog_1_method_45_code, 1, some .int, 1, 0, [825, 823, 824, 82]),
  (⟨"NamesOnLoan$Deeds", "copyFrom", "(LNamesOnLoan$Deeds;)V"⟩, prog_4_method_3_code, 2, none, 1, 1, [829, 827, 828, 84]),
  (⟨"NamesOnLoan", "back", "()I"⟩, prog_1_method_46_code, 1, some .int, 1, 0, [833, 831, 832, 82]),
  (⟨"NamesOnLoan", "undo", "()I"⟩, prog_1_method_47_code, 1, some .int, 1, 0, [837, 835, 836, 82]),
  (⟨"NamesOnLoan$Changes", "mayGoBack", "()I"⟩, prog_3_method_4_code, 1, some .int, 1, 0, [841, 839, 840, 88]),
  (⟨"NamesOnLoan$Changes", "goBack", "(LNamesOnLoan$Folk;)I"⟩, prog_3_method_6_code, 2, some .int, 1, 1, [845, 843, 844, 88]),
  (⟨"NamesOnLoan", "redo", "()I"⟩, prog_1_method_48_code, 1, some .int, 1, 0, [850, 848, 849, 82]),
  (⟨"NamesOnLoan$Changes", "mayGoOn", "()I"⟩, prog_3_method_5_code, 1, some .int, 1, 0, [854, 852, 853, 88]),
  (⟨"NamesOnLoan$Changes", "goOn", "(LNamesOnLoan$Folk;)I"⟩, prog_3_method_7_code, 2, some .int, 1, 1, [858, 856, 857, 88]),
  (⟨"NamesOnLoan", "body", "(I)I"⟩, prog_1_method_49_code, 2, some .int, 1, 1, [862, 860, 861, 82]),
  (⟨"NamesOnLoan$Acts", "isKind", "(I)Z"⟩, prog_2_method_2_code, 1, some .boolean, 0, 1, [865, 864, 89]),
  (⟨"NamesOnLoan$Acts", "isFull", "()Z"⟩, prog_2_method_3_code, 1, some .boolean, 1, 0, [869, 867, 868, 89]),
  (⟨"NamesOnLoan$Acts", "add", "(I)I"⟩, prog_2_method_7_code, 2, some .int, 1, 1, [873, 871, 872, 89]),
  (⟨"NamesOnLoan", "act", "(III)I"⟩, prog_1_method_50_code, 4, some .int, 1, 3, [877, 875, 876, 82]),
  (⟨"NamesOnLoan$Acts", "start", "(III)I"⟩, prog_2_method_12_code, 4, some .int, 1, 3, [881, 879, 880, 89])]
def am_ms2 : List am_Mi := [
  (⟨"NamesOnLoan$Acts", "has", "(I)Z"⟩, prog_2_method_4_code, 2, some .boolean, 1, 1, [885, 883, 884, 89]),
  (⟨"NamesOnLoan$Acts", "own", "(III)I"⟩, prog_2_method_13_code, 4, some .int, 1, 3, [889, 888, 32, 89]),
  (⟨"NamesOnLoan$Acts", "kindOf", "(I)I"⟩, prog_2_method_8_code, 2, some .int, 1, 1, [893, 891, 892, 89]),
  (⟨"NamesOnLoan$Acts", "from", "(IIII)I"⟩, prog_2_method_14_code, 7, some .int, 1, 4, [897, 896, 33, 89]),
  (⟨"NamesOnLoan$Acts", "note", "(I)V"⟩, prog_2_method_15_code, 2, none, 1, 1, [906, 905, 34, 89]),
  (⟨"NamesOnLoan$Acts", "runOfName", "(III)I"⟩, prog_2_method_16_code, 4, some .int, 1, 3, [910, 909, 35, 89]),
  (⟨"NamesOnLoan$Acts", "runUnder", "(IIIII)I"⟩, prog_2_method_17_code, 7, some .int, 1, 5, [914, 913, 36, 89]),
  (⟨"NamesOnLoan", "trace", "(I)I"⟩, prog_1_method_51_code, 2, some .int, 1, 1, [918, 916, 917, 82]),
  (⟨"NamesOnLoan$Acts", "hasTrace", "(I)Z"⟩, prog_2_method_10_code, 2, some .boolean, 1, 1, [922, 920, 921, 89]),
  (⟨"NamesOnLoan$Acts", "traced", "(I)I"⟩, prog_2_method_11_code, 2, some .int, 1, 1, [927, 925, 926, 89]),
  (⟨"NamesOnLoan", "keep", "(II)I"⟩, prog_1_method_52_code, 3, some .int, 1, 2, [932, 930, 931, 82]),
  (⟨"NamesOnLoan$Shelf", "holdNothing", "()V"⟩, prog_7_method_10_code, 1, none, 1, 0, [937, 935, 936, 90]),
  (⟨"NamesOnLoan$Shelf", "holdName", "(I)V"⟩, prog_7_method_11_code, 2, none, 1, 1, [941, 939, 940, 90]),
  (⟨"NamesOnLoan", "row", "(III)I"⟩, prog_1_method_53_code, 4, some .int, 1, 3, [945, 943, 944, 82]),
  (⟨"NamesOnLoan$Shelf", "isSort", "(I)Z"⟩, prog_7_method_2_code, 1, some .boolean, 0, 1, [948, 947, 90]),
  (⟨"NamesOnLoan$Shelf", "holdRow", "(II)V"⟩, prog_7_method_12_code, 4, none, 1, 2, [952, 950, 951, 90]),
  (⟨"NamesOnLoan", "put", "(IIJ)I"⟩, prog_1_method_54_code, 6, some .int, 1, 3, [958, 956, 957, 82]),
  (⟨"NamesOnLoan", "refusalOfPlace", "(II)I"⟩, prog_1_method_68_code, 3, some .int, 1, 2, [962, 961, 37, 82]),
  (⟨"NamesOnLoan$Shelf", "isRow", "()Z"⟩, prog_7_method_5_code, 1, some .boolean, 1, 0, [966, 964, 965, 90]),
  (⟨"NamesOnLoan$Shelf", "set", "(IJ)V"⟩, prog_7_method_16_code, 4, none, 1, 2, [970, 968, 969, 90]),
  (⟨"NamesOnLoan$Shelf", "cut", "(J)J"⟩, prog_7_method_17_code, 3, some .long, 1, 1, [974, 973, 38, 90]),
  (⟨"NamesOnLoan", "element", "(II)J"⟩, prog_1_method_55_code, 3, some .long, 1, 2, [978, 976, 977, 82]),
  (⟨"NamesOnLoan$Shelf", "get", "(I)J"⟩, prog_7_method_14_code, 2, some .long, 1, 1, [982, 980, 981, 90]),
  (⟨"NamesOnLoan", "shift", "(IIIII)I"⟩, prog_1_method_56_code, 8, some .int, 1, 5, [987, 985, 986, 82]),
  (⟨"NamesOnLoan$Shelf", "isLike", "(LNamesOnLoan$Shelf;)Z"⟩, prog_7_method_7_code, 2, some .boolean, 1, 1, [991, 989, 990, 90]),
  (⟨"NamesOnLoan$Shelf", "setAll", "(ILNamesOnLoan$Shelf;II)V"⟩, prog_7_method_18_code, 5, none, 1, 4, [995, 993, 994, 90]),
  (⟨"NamesOnLoan", "taken", "(II)I"⟩, prog_1_method_57_code, 4, some .int, 1, 2, [1000, 998, 999, 82]),
  (⟨"NamesOnLoan$Shelf", "isName", "()Z"⟩, prog_7_method_4_code, 1, some .boolean, 1, 0, [1004, 1002, 1003, 90]),
  (⟨"NamesOnLoan$Shelf", "name", "()I"⟩, prog_7_method_8_code, 1, some .int, 1, 0, [1008, 1006, 1007, 90]),
  (⟨"NamesOnLoan$Acts", "isUnder", "(II)Z"⟩, prog_2_method_9_code, 5, some .boolean, 1, 2, [1012, 1010, 1011, 89]),
  (⟨"NamesOnLoan", "count", "(I)I"⟩, prog_1_method_58_code, 2, some .int, 1, 1, [1017, 1015, 1016, 82]),
  (⟨"NamesOnLoan$Deeds", "given", "()I"⟩, prog_4_method_9_code, 3, some .int, 1, 0, [1021, 1019, 1020, 84]),
  (⟨"NamesOnLoan$Tape", "length", "()I"⟩, prog_8_method_4_code, 1, some .int, 1, 0, [1025, 1023, 1024, 85]),
  (⟨"NamesOnLoan$Acts", "size", "()I"⟩, prog_2_method_5_code, 1, some .int, 1, 0, [1029, 1027, 1028, 89]),
  (⟨"NamesOnLoan$Acts", "ran", "()I"⟩, prog_2_method_6_code, 1, some .int, 1, 0, [1033, 1031, 1032, 89]),
  (⟨"NamesOnLoanModel", "undo", "()I"⟩, prog_11_method_4_code, 1, some .int, 1, 0, [1180, 1178, 1179, 91]),
  (⟨"NamesOnLoanModel", "redo", "()I"⟩, prog_11_method_5_code, 1, some .int, 1, 0, [1184, 1182, 1183, 91]),
  (⟨"NamesOnLoanModel", "person", "(II)I"⟩, prog_11_method_10_code, 3, some .int, 1, 2, [1188, 1186, 1187, 91]),
  (⟨"NamesOnLoanModel", "mayCome", "(JJJ)Z"⟩, prog_11_method_8_code, 6, some .boolean, 0, 3, [1192, 1191, 91]),
  (⟨"NamesOnLoanModel", "within", "(JJJ)Z"⟩, prog_11_method_1_code, 6, some .boolean, 0, 3, [1196, 1195, 91]),
  (⟨"NamesOnLoanModel", "adds", "(III)V"⟩, prog_11_method_9_code, 4, none, 1, 3, [1200, 1199, 39, 91]),
  (⟨"NamesOnLoanModel", "people", "(III)I"⟩, prog_11_method_11_code, 7, some .int, 1, 3, [1204, 1202, 1203, 91]),
  (⟨"NamesOnLoanModel", "isShelf", "(I)Z"⟩, prog_11_method_83_code, 1, some .boolean, 0, 1, [1207, 1206, 91]),
  (⟨"NamesOnLoanModel", "mend", "(III)I"⟩, prog_11_method_14_code, 5, some .int, 1, 3, [1213, 1211, 1212, 91]),
  (⟨"NamesOnLoanModel", "placeOf", "(II)I"⟩, prog_11_method_12_code, 3, some .int, 1, 2, [1217, 1216, 40, 91]),
  (⟨"NamesOnLoanModel", "isOne", "(J)Z"⟩, prog_11_method_6_code, 3, some .boolean, 1, 1, [1222, 1221, 41, 91]),
  (⟨"NamesOnLoanModel", "mayBecome", "(II)Z"⟩, prog_11_method_13_code, 2, some .boolean, 0, 2, [1225, 1224, 91]),
  (⟨"NamesOnLoanModel", "becomes", "(II)I"⟩, prog_11_method_3_code, 5, some .int, 1, 2, [1229, 1228, 42, 91]),
  (⟨"NamesOnLoanModel", "of", "(II)I"⟩, prog_11_method_16_code, 4, some .int, 1, 2, [1233, 1231, 1232, 91]),
  (⟨"NamesOnLoanModel", "ofOne", "(II)I"⟩, prog_11_method_7_code, 3, some .int, 1, 2, [1237, 1236, 43, 91]),
  (⟨"NamesOnLoanModel", "wearsMany", "(I)I"⟩, prog_11_method_15_code, 4, some .int, 1, 1, [1241, 1240, 44, 91]),
  (⟨"NamesOnLoanModel", "feed", "(I)I"⟩, prog_11_method_17_code, 2, some .int, 1, 1, [1245, 1243, 1244, 91]),
  (⟨"NamesOnLoanModel", "law", "()I"⟩, prog_11_method_29_code, 4, some .int, 1, 0, [1250, 1248, 1249, 91]),
  (⟨"NamesOnLoanModel", "workOut", "(II)I"⟩, prog_11_method_28_code, 8, some .int, 1, 2, [1254, 1253, 45, 91]),
  (⟨"NamesOnLoanModel", "either", "()I"⟩, prog_11_method_21_code, 3, some .int, 1, 0, [1258, 1257, 46, 91]),
  (⟨"NamesOnLoanModel", "both", "()I"⟩, prog_11_method_22_code, 3, some .int, 1, 0, [1262, 1261, 47, 91]),
  (⟨"NamesOnLoanModel", "compared", "()I"⟩, prog_11_method_23_code, 4, some .int, 1, 0, [1266, 1265, 48, 91]),
  (⟨"NamesOnLoanModel", "sums", "()I"⟩, prog_11_method_24_code, 4, some .int, 1, 0, [1270, 1269, 49, 91]),
  (⟨"NamesOnLoanModel", "product", "()I"⟩, prog_11_method_25_code, 4, some .int, 1, 0, [1274, 1273, 50, 91]),
  (⟨"NamesOnLoanModel", "one", "()I"⟩, prog_11_method_27_code, 5, some .int, 1, 0, [1278, 1277, 51, 91]),
  (⟨"NamesOnLoanModel", "byteAt", "()I"⟩, prog_11_method_18_code, 1, some .int, 1, 0, [1282, 1281, 52, 91]),
  (⟨"NamesOnLoanModel", "wrong", "()I"⟩, prog_11_method_19_code, 1, some .int, 1, 0, [1286, 1285, 53, 91]),
  (⟨"NamesOnLoanModel", "takes", "(I)Z"⟩, prog_11_method_20_code, 2, some .boolean, 1, 1, [1290, 1289, 54, 91]),
  (⟨"NamesOnLoanModel", "nameOf", "(I)I"⟩, prog_11_method_26_code, 1, some .int, 0, 1, [1293, 1292, 91]),
  (⟨"NamesOnLoanModel", "burns", "(I)I"⟩, prog_11_method_31_code, 2, some .int, 1, 1, [1297, 1295, 1296, 91]),
  (⟨"NamesOnLoanModel", "burnsIn", "(II)I"⟩, prog_11_method_30_code, 9, some .int, 1, 2, [1301, 1300, 55, 91]),
  (⟨"NamesOnLoanModel", "left", "(II)I"⟩, prog_11_method_39_code, 3, some .int, 1, 2, [1305, 1303, 1304, 91]),
  (⟨"NamesOnLoanModel", "isN", "(I)Z"⟩, prog_11_method_35_code, 1, some .boolean, 0, 1, [1308, 1307, 91]),
  (⟨"NamesOnLoanModel", "goes", "(I)V"⟩, prog_11_method_34_code, 3, none, 1, 1, [1313, 1312, 56, 91]),
  (⟨"NamesOnLoanModel", "begins1", "()V"⟩, prog_11_method_32_code, 2, none, 1, 0, [1317, 1316, 57, 91])]
def am_ms3 : List am_Mi := [
  (⟨"NamesOnLoanModel", "day", "(I)V"⟩, prog_11_method_33_code, 4, none, 1, 1, [1321, 1320, 58, 91]),
  (⟨"NamesOnLoanModel", "winter", "(II)I"⟩, prog_11_method_40_code, 3, some .int, 1, 2, [1325, 1323, 1324, 91]),
  (⟨"NamesOnLoanModel", "crackedMany", "()I"⟩, prog_11_method_36_code, 3, some .int, 1, 0, [1330, 1329, 59, 91]),
  (⟨"NamesOnLoanModel", "burntMany", "()I"⟩, prog_11_method_37_code, 3, some .int, 1, 0, [1334, 1333, 60, 91]),
  (⟨"NamesOnLoanModel", "leftAll", "()I"⟩, prog_11_method_38_code, 3, some .int, 1, 0, [1338, 1337, 61, 91]),
  (⟨"NamesOnLoanModel", "when", "(II)I"⟩, prog_11_method_42_code, 3, some .int, 1, 2, [1342, 1340, 1341, 91]),
  (⟨"NamesOnLoanModel", "lessThan", "(II)I"⟩, prog_11_method_41_code, 4, some .int, 1, 2, [1346, 1345, 62, 91]),
  (⟨"NamesOnLoanModel", "last", "()I"⟩, prog_11_method_43_code, 5, some .int, 1, 0, [1350, 1348, 1349, 91]),
  (⟨"NamesOnLoanModel", "give", "(III)I"⟩, prog_11_method_44_code, 8, some .int, 1, 3, [1354, 1352, 1353, 91]),
  (⟨"NamesOnLoanModel", "allLast", "(II)I"⟩, prog_11_method_49_code, 8, some .int, 1, 2, [1358, 1356, 1357, 91]),
  (⟨"NamesOnLoanModel", "beginsWays", "()V"⟩, prog_11_method_45_code, 2, none, 1, 0, [1363, 1362, 63, 91]),
  (⟨"NamesOnLoanModel", "isWay", "(I)Z"⟩, prog_11_method_47_code, 4, some .boolean, 1, 1, [1367, 1366, 64, 91]),
  (⟨"NamesOnLoanModel", "keepsWay", "()V"⟩, prog_11_method_48_code, 2, none, 1, 0, [1371, 1370, 65, 91]),
  (⟨"NamesOnLoanModel", "endsWays", "()V"⟩, prog_11_method_46_code, 2, none, 1, 0, [1375, 1374, 66, 91]),
  (⟨"NamesOnLoanModel", "fewest", "(I)I"⟩, prog_11_method_50_code, 6, some .int, 1, 1, [1379, 1377, 1378, 91]),
  (⟨"NamesOnLoanModel", "thaws", "(I)I"⟩, prog_11_method_53_code, 2, some .int, 1, 1, [1383, 1381, 1382, 91]),
  (⟨"NamesOnLoanModel", "thawMinutes", "()I"⟩, prog_11_method_52_code, 3, some .int, 1, 0, [1387, 1386, 67, 91]),
  (⟨"NamesOnLoanModel", "homeIn", "(I)I"⟩, prog_11_method_51_code, 5, some .int, 1, 1, [1391, 1390, 68, 91]),
  (⟨"NamesOnLoanModel", "ring", "(II)I"⟩, prog_11_method_54_code, 7, some .int, 1, 2, [1395, 1393, 1394, 91]),
  (⟨"NamesOnLoanModel", "crowd", "(I)I"⟩, prog_11_method_55_code, 6, some .int, 1, 1, [1399, 1397, 1398, 91]),
  (⟨"NamesOnLoanModel", "letter", "(III)I"⟩, prog_11_method_56_code, 7, some .int, 1, 3, [1403, 1401, 1402, 91]),
  (⟨"NamesOnLoanModel", "owe", "(II)I"⟩, prog_11_method_57_code, 4, some .int, 1, 2, [1407, 1405, 1406, 91]),
  (⟨"NamesOnLoanModel", "debt", "(I)I"⟩, prog_11_method_59_code, 6, some .int, 1, 1, [1413, 1411, 1412, 91]),
  (⟨"NamesOnLoanModel", "isHome", "(I)Z"⟩, prog_11_method_58_code, 2, some .boolean, 1, 1, [1417, 1416, 69, 91]),
  (⟨"NamesOnLoanModel", "doors", "(I)I"⟩, prog_11_method_60_code, 8, some .int, 1, 1, [1421, 1419, 1420, 91]),
  (⟨"NamesOnLoanModel", "judge", "(I)I"⟩, prog_11_method_63_code, 2, some .int, 1, 1, [1425, 1423, 1424, 91]),
  (⟨"NamesOnLoanModel", "bytesIs", "(I)I"⟩, prog_11_method_61_code, 2, some .int, 1, 1, [1429, 1428, 70, 91]),
  (⟨"NamesOnLoanModel", "firstFalse", "(I)I"⟩, prog_11_method_62_code, 5, some .int, 1, 1, [1433, 1432, 71, 91]),
  (⟨"NamesOnLoanModel", "wore", "(II)I"⟩, prog_11_method_64_code, 4, some .int, 1, 2, [1437, 1435, 1436, 91]),
  (⟨"NamesOnLoanModel", "drawn", "(III)I"⟩, prog_11_method_65_code, 8, some .int, 1, 3, [1441, 1439, 1440, 91]),
  (⟨"NamesOnLoanModel", "lend", "(II)I"⟩, prog_11_method_66_code, 4, some .int, 1, 2, [1447, 1445, 1446, 91]),
  (⟨"NamesOnLoanModel", "pass", "(I)I"⟩, prog_11_method_67_code, 3, some .int, 1, 1, [1451, 1449, 1450, 91]),
  (⟨"NamesOnLoanModel", "thaw", "()I"⟩, prog_11_method_68_code, 3, some .int, 1, 0, [1455, 1453, 1454, 91]),
  (⟨"NamesOnLoanModel", "led", "(I)I"⟩, prog_11_method_69_code, 2, some .int, 1, 1, [1459, 1457, 1458, 91]),
  (⟨"NamesOnLoanModel", "image", "()I"⟩, prog_11_method_70_code, 2, some .int, 1, 0, [1463, 1461, 1462, 91]),
  (⟨"NamesOnLoanModel", "back", "()I"⟩, prog_11_method_71_code, 2, some .int, 1, 0, [1468, 1466, 1467, 91]),
  (⟨"NamesOnLoanModel", "body", "(I)I"⟩, prog_11_method_74_code, 2, some .int, 1, 1, [1472, 1470, 1471, 91]),
  (⟨"NamesOnLoanModel", "act", "(III)I"⟩, prog_11_method_81_code, 4, some .int, 1, 3, [1477, 1475, 1476, 91]),
  (⟨"NamesOnLoanModel", "isBody", "(I)Z"⟩, prog_11_method_72_code, 2, some .boolean, 1, 1, [1481, 1480, 72, 91]),
  (⟨"NamesOnLoanModel", "wearsAs", "(II)I"⟩, prog_11_method_77_code, 3, some .int, 1, 2, [1485, 1484, 73, 91]),
  (⟨"NamesOnLoanModel", "begins", "(I)V"⟩, prog_11_method_76_code, 2, none, 1, 1, [1489, 1488, 74, 91]),
  (⟨"NamesOnLoanModel", "freezesAs", "(II)I"⟩, prog_11_method_78_code, 4, some .int, 1, 2, [1493, 1492, 75, 91]),
  (⟨"NamesOnLoanModel", "callsAs", "(II)I"⟩, prog_11_method_79_code, 4, some .int, 1, 2, [1497, 1496, 76, 91]),
  (⟨"NamesOnLoanModel", "tellsAs", "(II)I"⟩, prog_11_method_80_code, 4, some .int, 1, 2, [1501, 1500, 77, 91]),
  (⟨"NamesOnLoanModel", "trace", "(I)I"⟩, prog_11_method_82_code, 2, some .int, 1, 1, [1505, 1503, 1504, 91]),
  (⟨"NamesOnLoanModel", "keep", "(II)I"⟩, prog_11_method_84_code, 3, some .int, 1, 2, [1509, 1507, 1508, 91]),
  (⟨"NamesOnLoanModel", "row", "(III)I"⟩, prog_11_method_85_code, 5, some .int, 1, 3, [1513, 1511, 1512, 91]),
  (⟨"NamesOnLoanModel", "put", "(IIJ)I"⟩, prog_11_method_88_code, 6, some .int, 1, 3, [1517, 1515, 1516, 91]),
  (⟨"NamesOnLoanModel", "refusal", "(II)I"⟩, prog_11_method_86_code, 3, some .int, 1, 2, [1521, 1520, 78, 91]),
  (⟨"NamesOnLoanModel", "asSort", "(IJ)J"⟩, prog_11_method_87_code, 3, some .long, 0, 2, [1524, 1523, 91]),
  (⟨"NamesOnLoanModel", "element", "(II)J"⟩, prog_11_method_89_code, 3, some .long, 1, 2, [1528, 1526, 1527, 91]),
  (⟨"NamesOnLoanModel", "shift", "(IIIII)I"⟩, prog_11_method_90_code, 7, some .int, 1, 5, [1533, 1531, 1532, 91]),
  (⟨"NamesOnLoanModel", "taken", "(II)I"⟩, prog_11_method_91_code, 4, some .int, 1, 2, [1537, 1535, 1536, 91]),
  (⟨"NamesOnLoanModel", "kindOf", "(I)I"⟩, prog_11_method_73_code, 2, some .int, 1, 1, [1541, 1540, 79, 91]),
  (⟨"NamesOnLoanModel", "above", "(I)I"⟩, prog_11_method_75_code, 1, some .int, 0, 1, [1544, 1543, 91]),
  (⟨"NamesOnLoanModel", "count", "(I)I"⟩, prog_11_method_92_code, 2, some .int, 1, 1, [1548, 1546, 1547, 91]),
  (⟨"NamesOnLoanModel", "givenMany", "()I"⟩, prog_11_method_93_code, 3, some .int, 1, 0, [1552, 1551, 80, 91])]
def am_ms : List am_Mi := am_ms0 ++ (am_ms1 ++ (am_ms2 ++ (am_ms3)))
def am_sts : List (String × String) := [("", ""), ("NamesOnLoan$Folk", "LOWEST"), ("NamesOnLoan$Folk", "HIGHEST"), ("NamesOnLoan$Acts", "ABOVE"), ("NamesOnLoan$Acts", "BODIES")]
