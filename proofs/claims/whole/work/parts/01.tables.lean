-- ===== PART A: goes FIRST, ahead of the names: the tables' words, and 'selects' of the private methods out of them =====
/-- a private method of a class that the tables say can be made, by its rows of tables_1 -/
def lw_okq (q : MethodName × Nat) : Prop := (q.1.cls ≠ "java/lang/invoke/MethodHandle" ∧ q.1.cls ≠ "java/lang/invoke/VarHandle") ∧ Cond.instantiable q.1.cls q.2 ∈ tables_1 ∧ Cond.privateMethod q.1 ∈ tables_1 ∧ Cond.instanceMethod q.1 ∈ tables_1
theorem lw_p0 : lw_okq (⟨"NamesOnLoan", "comesFrom", "(LNamesOnLoan$Shelf;I)Z"⟩, 12) := ⟨⟨by decide +kernel, by decide +kernel⟩, List.mem_of_getElem? (i := 15) (by decide +kernel), List.mem_of_getElem? (i := 282) (by decide +kernel), List.mem_of_getElem? (i := 283) (by decide +kernel)⟩
theorem lw_p1 : lw_okq (⟨"NamesOnLoan", "cracks", "(II)Z"⟩, 12) := ⟨⟨by decide +kernel, by decide +kernel⟩, List.mem_of_getElem? (i := 15) (by decide +kernel), List.mem_of_getElem? (i := 331) (by decide +kernel), List.mem_of_getElem? (i := 332) (by decide +kernel)⟩
theorem lw_p2 : lw_okq (⟨"NamesOnLoan$Tape", "readLine", "()Z"⟩, 5) := ⟨⟨by decide +kernel, by decide +kernel⟩, List.mem_of_getElem? (i := 62) (by decide +kernel), List.mem_of_getElem? (i := 359) (by decide +kernel), List.mem_of_getElem? (i := 360) (by decide +kernel)⟩
theorem lw_p3 : lw_okq (⟨"NamesOnLoan$Tape", "readLevel", "(II)Z"⟩, 5) := ⟨⟨by decide +kernel, by decide +kernel⟩, List.mem_of_getElem? (i := 62) (by decide +kernel), List.mem_of_getElem? (i := 363) (by decide +kernel), List.mem_of_getElem? (i := 364) (by decide +kernel)⟩
theorem lw_p4 : lw_okq (⟨"NamesOnLoan$Tape", "readOne", "(I)Z"⟩, 5) := ⟨⟨by decide +kernel, by decide +kernel⟩, List.mem_of_getElem? (i := 62) (by decide +kernel), List.mem_of_getElem? (i := 367) (by decide +kernel), List.mem_of_getElem? (i := 368) (by decide +kernel)⟩
theorem lw_p5 : lw_okq (⟨"NamesOnLoan$Tape", "next", "()I"⟩, 5) := ⟨⟨by decide +kernel, by decide +kernel⟩, List.mem_of_getElem? (i := 62) (by decide +kernel), List.mem_of_getElem? (i := 371) (by decide +kernel), List.mem_of_getElem? (i := 372) (by decide +kernel)⟩
theorem lw_p6 : lw_okq (⟨"NamesOnLoan$Tape", "readNumber", "()V"⟩, 5) := ⟨⟨by decide +kernel, by decide +kernel⟩, List.mem_of_getElem? (i := 62) (by decide +kernel), List.mem_of_getElem? (i := 378) (by decide +kernel), List.mem_of_getElem? (i := 379) (by decide +kernel)⟩
theorem lw_p7 : lw_okq (⟨"NamesOnLoan$Tape", "write", "(I)V"⟩, 5) := ⟨⟨by decide +kernel, by decide +kernel⟩, List.mem_of_getElem? (i := 62) (by decide +kernel), List.mem_of_getElem? (i := 382) (by decide +kernel), List.mem_of_getElem? (i := 383) (by decide +kernel)⟩
theorem lw_p8 : lw_okq (⟨"NamesOnLoan$Tape", "readInside", "(I)Z"⟩, 5) := ⟨⟨by decide +kernel, by decide +kernel⟩, List.mem_of_getElem? (i := 62) (by decide +kernel), List.mem_of_getElem? (i := 389) (by decide +kernel), List.mem_of_getElem? (i := 390) (by decide +kernel)⟩
theorem lw_p9 : lw_okq (⟨"NamesOnLoan$Tape", "readTurned", "(II)Z"⟩, 5) := ⟨⟨by decide +kernel, by decide +kernel⟩, List.mem_of_getElem? (i := 62) (by decide +kernel), List.mem_of_getElem? (i := 393) (by decide +kernel), List.mem_of_getElem? (i := 394) (by decide +kernel)⟩
theorem lw_p10 : lw_okq (⟨"NamesOnLoan", "rateNow", "(I)I"⟩, 12) := ⟨⟨by decide +kernel, by decide +kernel⟩, List.mem_of_getElem? (i := 15) (by decide +kernel), List.mem_of_getElem? (i := 423) (by decide +kernel), List.mem_of_getElem? (i := 424) (by decide +kernel)⟩
theorem lw_p11 : lw_okq (⟨"NamesOnLoan", "rate", "(IIII)I"⟩, 12) := ⟨⟨by decide +kernel, by decide +kernel⟩, List.mem_of_getElem? (i := 15) (by decide +kernel), List.mem_of_getElem? (i := 432) (by decide +kernel), List.mem_of_getElem? (i := 433) (by decide +kernel)⟩
theorem lw_p12 : lw_okq (⟨"NamesOnLoan$Law", "workOut", "()I"⟩, 4) := ⟨⟨by decide +kernel, by decide +kernel⟩, List.mem_of_getElem? (i := 84) (by decide +kernel), List.mem_of_getElem? (i := 443) (by decide +kernel), List.mem_of_getElem? (i := 444) (by decide +kernel)⟩
theorem lw_p13 : lw_okq (⟨"NamesOnLoan", "leftAfter", "(II)I"⟩, 12) := ⟨⟨by decide +kernel, by decide +kernel⟩, List.mem_of_getElem? (i := 15) (by decide +kernel), List.mem_of_getElem? (i := 466) (by decide +kernel), List.mem_of_getElem? (i := 467) (by decide +kernel)⟩
theorem lw_p14 : lw_okq (⟨"NamesOnLoan", "firstDay", "(IZ)I"⟩, 12) := ⟨⟨by decide +kernel, by decide +kernel⟩, List.mem_of_getElem? (i := 15) (by decide +kernel), List.mem_of_getElem? (i := 487) (by decide +kernel), List.mem_of_getElem? (i := 488) (by decide +kernel)⟩
theorem lw_p15 : lw_okq (⟨"NamesOnLoan", "mayWearMore", "(I)Z"⟩, 12) := ⟨⟨by decide +kernel, by decide +kernel⟩, List.mem_of_getElem? (i := 15) (by decide +kernel), List.mem_of_getElem? (i := 499) (by decide +kernel), List.mem_of_getElem? (i := 500) (by decide +kernel)⟩
def lw_privs_1 : List (MethodName × Nat) := [(⟨"NamesOnLoan", "comesFrom", "(LNamesOnLoan$Shelf;I)Z"⟩, 12), (⟨"NamesOnLoan", "cracks", "(II)Z"⟩, 12), (⟨"NamesOnLoan$Tape", "readLine", "()Z"⟩, 5), (⟨"NamesOnLoan$Tape", "readLevel", "(II)Z"⟩, 5), (⟨"NamesOnLoan$Tape", "readOne", "(I)Z"⟩, 5), (⟨"NamesOnLoan$Tape", "next", "()I"⟩, 5), (⟨"NamesOnLoan$Tape", "readNumber", "()V"⟩, 5), (⟨"NamesOnLoan$Tape", "write", "(I)V"⟩, 5), (⟨"NamesOnLoan$Tape", "readInside", "(I)Z"⟩, 5), (⟨"NamesOnLoan$Tape", "readTurned", "(II)Z"⟩, 5), (⟨"NamesOnLoan", "rateNow", "(I)I"⟩, 12), (⟨"NamesOnLoan", "rate", "(IIII)I"⟩, 12), (⟨"NamesOnLoan$Law", "workOut", "()I"⟩, 4), (⟨"NamesOnLoan", "leftAfter", "(II)I"⟩, 12), (⟨"NamesOnLoan", "firstDay", "(IZ)I"⟩, 12), (⟨"NamesOnLoan", "mayWearMore", "(I)Z"⟩, 12)]
theorem lw_r1 : ∀ q ∈ lw_privs_1, lw_okq q := List.forall_mem_cons.mpr ⟨lw_p0, List.forall_mem_cons.mpr ⟨lw_p1, List.forall_mem_cons.mpr ⟨lw_p2, List.forall_mem_cons.mpr ⟨lw_p3, List.forall_mem_cons.mpr ⟨lw_p4, List.forall_mem_cons.mpr ⟨lw_p5, List.forall_mem_cons.mpr ⟨lw_p6, List.forall_mem_cons.mpr ⟨lw_p7, List.forall_mem_cons.mpr ⟨lw_p8, List.forall_mem_cons.mpr ⟨lw_p9, List.forall_mem_cons.mpr ⟨lw_p10, List.forall_mem_cons.mpr ⟨lw_p11, List.forall_mem_cons.mpr ⟨lw_p12, List.forall_mem_cons.mpr ⟨lw_p13, List.forall_mem_cons.mpr ⟨lw_p14, List.forall_mem_cons.mpr ⟨lw_p15, fun _ h => absurd h List.not_mem_nil⟩⟩⟩⟩⟩⟩⟩⟩⟩⟩⟩⟩⟩⟩⟩⟩
theorem lw_p16 : lw_okq (⟨"NamesOnLoan", "beginWays", "(ILNamesOnLoan$Shelf;)V"⟩, 12) := ⟨⟨by decide +kernel, by decide +kernel⟩, List.mem_of_getElem? (i := 15) (by decide +kernel), List.mem_of_getElem? (i := 507) (by decide +kernel), List.mem_of_getElem? (i := 508) (by decide +kernel)⟩
theorem lw_p17 : lw_okq (⟨"NamesOnLoan$Ways", "has", "(I)Z"⟩, 6) := ⟨⟨by decide +kernel, by decide +kernel⟩, List.mem_of_getElem? (i := 103) (by decide +kernel), List.mem_of_getElem? (i := 521) (by decide +kernel), List.mem_of_getElem? (i := 522) (by decide +kernel)⟩
theorem lw_p18 : lw_okq (⟨"NamesOnLoan", "costAfter", "(III)I"⟩, 12) := ⟨⟨by decide +kernel, by decide +kernel⟩, List.mem_of_getElem? (i := 15) (by decide +kernel), List.mem_of_getElem? (i := 525) (by decide +kernel), List.mem_of_getElem? (i := 526) (by decide +kernel)⟩
theorem lw_p19 : lw_okq (⟨"NamesOnLoan", "threesNotSo", "(LNamesOnLoan$Shelf;III)I"⟩, 12) := ⟨⟨by decide +kernel, by decide +kernel⟩, List.mem_of_getElem? (i := 15) (by decide +kernel), List.mem_of_getElem? (i := 530) (by decide +kernel), List.mem_of_getElem? (i := 531) (by decide +kernel)⟩
theorem lw_p20 : lw_okq (⟨"NamesOnLoan", "isSo", "(LNamesOnLoan$Shelf;III)Z"⟩, 12) := ⟨⟨by decide +kernel, by decide +kernel⟩, List.mem_of_getElem? (i := 15) (by decide +kernel), List.mem_of_getElem? (i := 538) (by decide +kernel), List.mem_of_getElem? (i := 539) (by decide +kernel)⟩
theorem lw_p21 : lw_okq (⟨"NamesOnLoan", "minutesOfThaw", "()I"⟩, 12) := ⟨⟨by decide +kernel, by decide +kernel⟩, List.mem_of_getElem? (i := 15) (by decide +kernel), List.mem_of_getElem? (i := 587) (by decide +kernel), List.mem_of_getElem? (i := 588) (by decide +kernel)⟩
theorem lw_p22 : lw_okq (⟨"NamesOnLoan", "allThatSleeps", "()I"⟩, 12) := ⟨⟨by decide +kernel, by decide +kernel⟩, List.mem_of_getElem? (i := 15) (by decide +kernel), List.mem_of_getElem? (i := 631) (by decide +kernel), List.mem_of_getElem? (i := 632) (by decide +kernel)⟩
theorem lw_p23 : lw_okq (⟨"NamesOnLoan", "gainOfExchange", "(III)I"⟩, 12) := ⟨⟨by decide +kernel, by decide +kernel⟩, List.mem_of_getElem? (i := 15) (by decide +kernel), List.mem_of_getElem? (i := 643) (by decide +kernel), List.mem_of_getElem? (i := 644) (by decide +kernel)⟩
theorem lw_p24 : lw_okq (⟨"NamesOnLoan", "leftWith", "(III)I"⟩, 12) := ⟨⟨by decide +kernel, by decide +kernel⟩, List.mem_of_getElem? (i := 15) (by decide +kernel), List.mem_of_getElem? (i := 647) (by decide +kernel), List.mem_of_getElem? (i := 648) (by decide +kernel)⟩
theorem lw_p25 : lw_okq (⟨"NamesOnLoan", "refusalOfBytes", "(I)I"⟩, 12) := ⟨⟨by decide +kernel, by decide +kernel⟩, List.mem_of_getElem? (i := 15) (by decide +kernel), List.mem_of_getElem? (i := 655) (by decide +kernel), List.mem_of_getElem? (i := 656) (by decide +kernel)⟩
theorem lw_p26 : lw_okq (⟨"NamesOnLoan", "isThree", "(LNamesOnLoan$Shelf;I)Z"⟩, 12) := ⟨⟨by decide +kernel, by decide +kernel⟩, List.mem_of_getElem? (i := 15) (by decide +kernel), List.mem_of_getElem? (i := 659) (by decide +kernel), List.mem_of_getElem? (i := 660) (by decide +kernel)⟩
theorem lw_p27 : lw_okq (⟨"NamesOnLoan", "areThrees", "(LNamesOnLoan$Shelf;)Z"⟩, 12) := ⟨⟨by decide +kernel, by decide +kernel⟩, List.mem_of_getElem? (i := 15) (by decide +kernel), List.mem_of_getElem? (i := 667) (by decide +kernel), List.mem_of_getElem? (i := 668) (by decide +kernel)⟩
theorem lw_p28 : lw_okq (⟨"NamesOnLoan", "waysThatMakeSo", "(LNamesOnLoan$Shelf;)I"⟩, 12) := ⟨⟨by decide +kernel, by decide +kernel⟩, List.mem_of_getElem? (i := 15) (by decide +kernel), List.mem_of_getElem? (i := 671) (by decide +kernel), List.mem_of_getElem? (i := 672) (by decide +kernel)⟩
theorem lw_p29 : lw_okq (⟨"NamesOnLoan", "fillRatesByCold", "(II)V"⟩, 12) := ⟨⟨by decide +kernel, by decide +kernel⟩, List.mem_of_getElem? (i := 15) (by decide +kernel), List.mem_of_getElem? (i := 679) (by decide +kernel), List.mem_of_getElem? (i := 680) (by decide +kernel)⟩
theorem lw_p30 : lw_okq (⟨"NamesOnLoan", "drawWinter", "(IIII)I"⟩, 12) := ⟨⟨by decide +kernel, by decide +kernel⟩, List.mem_of_getElem? (i := 15) (by decide +kernel), List.mem_of_getElem? (i := 689) (by decide +kernel), List.mem_of_getElem? (i := 690) (by decide +kernel)⟩
theorem lw_p31 : lw_okq (⟨"NamesOnLoan", "burntNow", "()I"⟩, 12) := ⟨⟨by decide +kernel, by decide +kernel⟩, List.mem_of_getElem? (i := 15) (by decide +kernel), List.mem_of_getElem? (i := 738) (by decide +kernel), List.mem_of_getElem? (i := 739) (by decide +kernel)⟩
def lw_privs_2 : List (MethodName × Nat) := [(⟨"NamesOnLoan", "beginWays", "(ILNamesOnLoan$Shelf;)V"⟩, 12), (⟨"NamesOnLoan$Ways", "has", "(I)Z"⟩, 6), (⟨"NamesOnLoan", "costAfter", "(III)I"⟩, 12), (⟨"NamesOnLoan", "threesNotSo", "(LNamesOnLoan$Shelf;III)I"⟩, 12), (⟨"NamesOnLoan", "isSo", "(LNamesOnLoan$Shelf;III)Z"⟩, 12), (⟨"NamesOnLoan", "minutesOfThaw", "()I"⟩, 12), (⟨"NamesOnLoan", "allThatSleeps", "()I"⟩, 12), (⟨"NamesOnLoan", "gainOfExchange", "(III)I"⟩, 12), (⟨"NamesOnLoan", "leftWith", "(III)I"⟩, 12), (⟨"NamesOnLoan", "refusalOfBytes", "(I)I"⟩, 12), (⟨"NamesOnLoan", "isThree", "(LNamesOnLoan$Shelf;I)Z"⟩, 12), (⟨"NamesOnLoan", "areThrees", "(LNamesOnLoan$Shelf;)Z"⟩, 12), (⟨"NamesOnLoan", "waysThatMakeSo", "(LNamesOnLoan$Shelf;)I"⟩, 12), (⟨"NamesOnLoan", "fillRatesByCold", "(II)V"⟩, 12), (⟨"NamesOnLoan", "drawWinter", "(IIII)I"⟩, 12), (⟨"NamesOnLoan", "burntNow", "()I"⟩, 12)]
theorem lw_r2 : ∀ q ∈ lw_privs_2, lw_okq q := List.forall_mem_cons.mpr ⟨lw_p16, List.forall_mem_cons.mpr ⟨lw_p17, List.forall_mem_cons.mpr ⟨lw_p18, List.forall_mem_cons.mpr ⟨lw_p19, List.forall_mem_cons.mpr ⟨lw_p20, List.forall_mem_cons.mpr ⟨lw_p21, List.forall_mem_cons.mpr ⟨lw_p22, List.forall_mem_cons.mpr ⟨lw_p23, List.forall_mem_cons.mpr ⟨lw_p24, List.forall_mem_cons.mpr ⟨lw_p25, List.forall_mem_cons.mpr ⟨lw_p26, List.forall_mem_cons.mpr ⟨lw_p27, List.forall_mem_cons.mpr ⟨lw_p28, List.forall_mem_cons.mpr ⟨lw_p29, List.forall_mem_cons.mpr ⟨lw_p30, List.forall_mem_cons.mpr ⟨lw_p31, fun _ h => absurd h List.not_mem_nil⟩⟩⟩⟩⟩⟩⟩⟩⟩⟩⟩⟩⟩⟩⟩⟩
theorem lw_p32 : lw_okq (⟨"NamesOnLoan$Acts", "own", "(III)I"⟩, 5) := ⟨⟨by decide +kernel, by decide +kernel⟩, List.mem_of_getElem? (i := 153) (by decide +kernel), List.mem_of_getElem? (i := 806) (by decide +kernel), List.mem_of_getElem? (i := 807) (by decide +kernel)⟩
theorem lw_p33 : lw_okq (⟨"NamesOnLoan$Acts", "from", "(IIII)I"⟩, 5) := ⟨⟨by decide +kernel, by decide +kernel⟩, List.mem_of_getElem? (i := 153) (by decide +kernel), List.mem_of_getElem? (i := 814) (by decide +kernel), List.mem_of_getElem? (i := 815) (by decide +kernel)⟩
theorem lw_p34 : lw_okq (⟨"NamesOnLoan$Acts", "note", "(I)V"⟩, 5) := ⟨⟨by decide +kernel, by decide +kernel⟩, List.mem_of_getElem? (i := 153) (by decide +kernel), List.mem_of_getElem? (i := 823) (by decide +kernel), List.mem_of_getElem? (i := 824) (by decide +kernel)⟩
theorem lw_p35 : lw_okq (⟨"NamesOnLoan$Acts", "runOfName", "(III)I"⟩, 5) := ⟨⟨by decide +kernel, by decide +kernel⟩, List.mem_of_getElem? (i := 153) (by decide +kernel), List.mem_of_getElem? (i := 827) (by decide +kernel), List.mem_of_getElem? (i := 828) (by decide +kernel)⟩
theorem lw_p36 : lw_okq (⟨"NamesOnLoan$Acts", "runUnder", "(IIIII)I"⟩, 5) := ⟨⟨by decide +kernel, by decide +kernel⟩, List.mem_of_getElem? (i := 153) (by decide +kernel), List.mem_of_getElem? (i := 831) (by decide +kernel), List.mem_of_getElem? (i := 832) (by decide +kernel)⟩
theorem lw_p37 : lw_okq (⟨"NamesOnLoan", "refusalOfPlace", "(II)I"⟩, 12) := ⟨⟨by decide +kernel, by decide +kernel⟩, List.mem_of_getElem? (i := 15) (by decide +kernel), List.mem_of_getElem? (i := 879) (by decide +kernel), List.mem_of_getElem? (i := 880) (by decide +kernel)⟩
theorem lw_p38 : lw_okq (⟨"NamesOnLoan$Shelf", "cut", "(J)J"⟩, 4) := ⟨⟨by decide +kernel, by decide +kernel⟩, List.mem_of_getElem? (i := 176) (by decide +kernel), List.mem_of_getElem? (i := 891) (by decide +kernel), List.mem_of_getElem? (i := 892) (by decide +kernel)⟩
theorem lw_p39 : lw_okq (⟨"NamesOnLoanModel", "adds", "(III)V"⟩, 45) := ⟨⟨by decide +kernel, by decide +kernel⟩, List.mem_of_getElem? (i := 954) (by decide +kernel), List.mem_of_getElem? (i := 1117) (by decide +kernel), List.mem_of_getElem? (i := 1118) (by decide +kernel)⟩
theorem lw_p40 : lw_okq (⟨"NamesOnLoanModel", "placeOf", "(II)I"⟩, 45) := ⟨⟨by decide +kernel, by decide +kernel⟩, List.mem_of_getElem? (i := 954) (by decide +kernel), List.mem_of_getElem? (i := 1134) (by decide +kernel), List.mem_of_getElem? (i := 1135) (by decide +kernel)⟩
theorem lw_p41 : lw_okq (⟨"NamesOnLoanModel", "isOne", "(J)Z"⟩, 45) := ⟨⟨by decide +kernel, by decide +kernel⟩, List.mem_of_getElem? (i := 954) (by decide +kernel), List.mem_of_getElem? (i := 1139) (by decide +kernel), List.mem_of_getElem? (i := 1140) (by decide +kernel)⟩
theorem lw_p42 : lw_okq (⟨"NamesOnLoanModel", "becomes", "(II)I"⟩, 45) := ⟨⟨by decide +kernel, by decide +kernel⟩, List.mem_of_getElem? (i := 954) (by decide +kernel), List.mem_of_getElem? (i := 1146) (by decide +kernel), List.mem_of_getElem? (i := 1147) (by decide +kernel)⟩
theorem lw_p43 : lw_okq (⟨"NamesOnLoanModel", "ofOne", "(II)I"⟩, 45) := ⟨⟨by decide +kernel, by decide +kernel⟩, List.mem_of_getElem? (i := 954) (by decide +kernel), List.mem_of_getElem? (i := 1154) (by decide +kernel), List.mem_of_getElem? (i := 1155) (by decide +kernel)⟩
theorem lw_p44 : lw_okq (⟨"NamesOnLoanModel", "wearsMany", "(I)I"⟩, 45) := ⟨⟨by decide +kernel, by decide +kernel⟩, List.mem_of_getElem? (i := 954) (by decide +kernel), List.mem_of_getElem? (i := 1158) (by decide +kernel), List.mem_of_getElem? (i := 1159) (by decide +kernel)⟩
theorem lw_p45 : lw_okq (⟨"NamesOnLoanModel", "workOut", "(II)I"⟩, 45) := ⟨⟨by decide +kernel, by decide +kernel⟩, List.mem_of_getElem? (i := 954) (by decide +kernel), List.mem_of_getElem? (i := 1171) (by decide +kernel), List.mem_of_getElem? (i := 1172) (by decide +kernel)⟩
theorem lw_p46 : lw_okq (⟨"NamesOnLoanModel", "either", "()I"⟩, 45) := ⟨⟨by decide +kernel, by decide +kernel⟩, List.mem_of_getElem? (i := 954) (by decide +kernel), List.mem_of_getElem? (i := 1175) (by decide +kernel), List.mem_of_getElem? (i := 1176) (by decide +kernel)⟩
theorem lw_p47 : lw_okq (⟨"NamesOnLoanModel", "both", "()I"⟩, 45) := ⟨⟨by decide +kernel, by decide +kernel⟩, List.mem_of_getElem? (i := 954) (by decide +kernel), List.mem_of_getElem? (i := 1179) (by decide +kernel), List.mem_of_getElem? (i := 1180) (by decide +kernel)⟩
def lw_privs_3 : List (MethodName × Nat) := [(⟨"NamesOnLoan$Acts", "own", "(III)I"⟩, 5), (⟨"NamesOnLoan$Acts", "from", "(IIII)I"⟩, 5), (⟨"NamesOnLoan$Acts", "note", "(I)V"⟩, 5), (⟨"NamesOnLoan$Acts", "runOfName", "(III)I"⟩, 5), (⟨"NamesOnLoan$Acts", "runUnder", "(IIIII)I"⟩, 5), (⟨"NamesOnLoan", "refusalOfPlace", "(II)I"⟩, 12), (⟨"NamesOnLoan$Shelf", "cut", "(J)J"⟩, 4), (⟨"NamesOnLoanModel", "adds", "(III)V"⟩, 45), (⟨"NamesOnLoanModel", "placeOf", "(II)I"⟩, 45), (⟨"NamesOnLoanModel", "isOne", "(J)Z"⟩, 45), (⟨"NamesOnLoanModel", "becomes", "(II)I"⟩, 45), (⟨"NamesOnLoanModel", "ofOne", "(II)I"⟩, 45), (⟨"NamesOnLoanModel", "wearsMany", "(I)I"⟩, 45), (⟨"NamesOnLoanModel", "workOut", "(II)I"⟩, 45), (⟨"NamesOnLoanModel", "either", "()I"⟩, 45), (⟨"NamesOnLoanModel", "both", "()I"⟩, 45)]
theorem lw_r3 : ∀ q ∈ lw_privs_3, lw_okq q := List.forall_mem_cons.mpr ⟨lw_p32, List.forall_mem_cons.mpr ⟨lw_p33, List.forall_mem_cons.mpr ⟨lw_p34, List.forall_mem_cons.mpr ⟨lw_p35, List.forall_mem_cons.mpr ⟨lw_p36, List.forall_mem_cons.mpr ⟨lw_p37, List.forall_mem_cons.mpr ⟨lw_p38, List.forall_mem_cons.mpr ⟨lw_p39, List.forall_mem_cons.mpr ⟨lw_p40, List.forall_mem_cons.mpr ⟨lw_p41, List.forall_mem_cons.mpr ⟨lw_p42, List.forall_mem_cons.mpr ⟨lw_p43, List.forall_mem_cons.mpr ⟨lw_p44, List.forall_mem_cons.mpr ⟨lw_p45, List.forall_mem_cons.mpr ⟨lw_p46, List.forall_mem_cons.mpr ⟨lw_p47, fun _ h => absurd h List.not_mem_nil⟩⟩⟩⟩⟩⟩⟩⟩⟩⟩⟩⟩⟩⟩⟩⟩
theorem lw_p48 : lw_okq (⟨"NamesOnLoanModel", "compared", "()I"⟩, 45) := ⟨⟨by decide +kernel, by decide +kernel⟩, List.mem_of_getElem? (i := 954) (by decide +kernel), List.mem_of_getElem? (i := 1183) (by decide +kernel), List.mem_of_getElem? (i := 1184) (by decide +kernel)⟩
theorem lw_p49 : lw_okq (⟨"NamesOnLoanModel", "sums", "()I"⟩, 45) := ⟨⟨by decide +kernel, by decide +kernel⟩, List.mem_of_getElem? (i := 954) (by decide +kernel), List.mem_of_getElem? (i := 1187) (by decide +kernel), List.mem_of_getElem? (i := 1188) (by decide +kernel)⟩
theorem lw_p50 : lw_okq (⟨"NamesOnLoanModel", "product", "()I"⟩, 45) := ⟨⟨by decide +kernel, by decide +kernel⟩, List.mem_of_getElem? (i := 954) (by decide +kernel), List.mem_of_getElem? (i := 1191) (by decide +kernel), List.mem_of_getElem? (i := 1192) (by decide +kernel)⟩
theorem lw_p51 : lw_okq (⟨"NamesOnLoanModel", "one", "()I"⟩, 45) := ⟨⟨by decide +kernel, by decide +kernel⟩, List.mem_of_getElem? (i := 954) (by decide +kernel), List.mem_of_getElem? (i := 1195) (by decide +kernel), List.mem_of_getElem? (i := 1196) (by decide +kernel)⟩
theorem lw_p52 : lw_okq (⟨"NamesOnLoanModel", "byteAt", "()I"⟩, 45) := ⟨⟨by decide +kernel, by decide +kernel⟩, List.mem_of_getElem? (i := 954) (by decide +kernel), List.mem_of_getElem? (i := 1199) (by decide +kernel), List.mem_of_getElem? (i := 1200) (by decide +kernel)⟩
theorem lw_p53 : lw_okq (⟨"NamesOnLoanModel", "wrong", "()I"⟩, 45) := ⟨⟨by decide +kernel, by decide +kernel⟩, List.mem_of_getElem? (i := 954) (by decide +kernel), List.mem_of_getElem? (i := 1203) (by decide +kernel), List.mem_of_getElem? (i := 1204) (by decide +kernel)⟩
theorem lw_p54 : lw_okq (⟨"NamesOnLoanModel", "takes", "(I)Z"⟩, 45) := ⟨⟨by decide +kernel, by decide +kernel⟩, List.mem_of_getElem? (i := 954) (by decide +kernel), List.mem_of_getElem? (i := 1207) (by decide +kernel), List.mem_of_getElem? (i := 1208) (by decide +kernel)⟩
theorem lw_p55 : lw_okq (⟨"NamesOnLoanModel", "burnsIn", "(II)I"⟩, 45) := ⟨⟨by decide +kernel, by decide +kernel⟩, List.mem_of_getElem? (i := 954) (by decide +kernel), List.mem_of_getElem? (i := 1218) (by decide +kernel), List.mem_of_getElem? (i := 1219) (by decide +kernel)⟩
theorem lw_p56 : lw_okq (⟨"NamesOnLoanModel", "goes", "(I)V"⟩, 45) := ⟨⟨by decide +kernel, by decide +kernel⟩, List.mem_of_getElem? (i := 954) (by decide +kernel), List.mem_of_getElem? (i := 1230) (by decide +kernel), List.mem_of_getElem? (i := 1231) (by decide +kernel)⟩
theorem lw_p57 : lw_okq (⟨"NamesOnLoanModel", "begins1", "()V"⟩, 45) := ⟨⟨by decide +kernel, by decide +kernel⟩, List.mem_of_getElem? (i := 954) (by decide +kernel), List.mem_of_getElem? (i := 1234) (by decide +kernel), List.mem_of_getElem? (i := 1235) (by decide +kernel)⟩
theorem lw_p58 : lw_okq (⟨"NamesOnLoanModel", "day", "(I)V"⟩, 45) := ⟨⟨by decide +kernel, by decide +kernel⟩, List.mem_of_getElem? (i := 954) (by decide +kernel), List.mem_of_getElem? (i := 1238) (by decide +kernel), List.mem_of_getElem? (i := 1239) (by decide +kernel)⟩
theorem lw_p59 : lw_okq (⟨"NamesOnLoanModel", "crackedMany", "()I"⟩, 45) := ⟨⟨by decide +kernel, by decide +kernel⟩, List.mem_of_getElem? (i := 954) (by decide +kernel), List.mem_of_getElem? (i := 1247) (by decide +kernel), List.mem_of_getElem? (i := 1248) (by decide +kernel)⟩
theorem lw_p60 : lw_okq (⟨"NamesOnLoanModel", "burntMany", "()I"⟩, 45) := ⟨⟨by decide +kernel, by decide +kernel⟩, List.mem_of_getElem? (i := 954) (by decide +kernel), List.mem_of_getElem? (i := 1251) (by decide +kernel), List.mem_of_getElem? (i := 1252) (by decide +kernel)⟩
theorem lw_p61 : lw_okq (⟨"NamesOnLoanModel", "leftAll", "()I"⟩, 45) := ⟨⟨by decide +kernel, by decide +kernel⟩, List.mem_of_getElem? (i := 954) (by decide +kernel), List.mem_of_getElem? (i := 1255) (by decide +kernel), List.mem_of_getElem? (i := 1256) (by decide +kernel)⟩
theorem lw_p62 : lw_okq (⟨"NamesOnLoanModel", "lessThan", "(II)I"⟩, 45) := ⟨⟨by decide +kernel, by decide +kernel⟩, List.mem_of_getElem? (i := 954) (by decide +kernel), List.mem_of_getElem? (i := 1263) (by decide +kernel), List.mem_of_getElem? (i := 1264) (by decide +kernel)⟩
theorem lw_p63 : lw_okq (⟨"NamesOnLoanModel", "beginsWays", "()V"⟩, 45) := ⟨⟨by decide +kernel, by decide +kernel⟩, List.mem_of_getElem? (i := 954) (by decide +kernel), List.mem_of_getElem? (i := 1280) (by decide +kernel), List.mem_of_getElem? (i := 1281) (by decide +kernel)⟩
def lw_privs_4 : List (MethodName × Nat) := [(⟨"NamesOnLoanModel", "compared", "()I"⟩, 45), (⟨"NamesOnLoanModel", "sums", "()I"⟩, 45), (⟨"NamesOnLoanModel", "product", "()I"⟩, 45), (⟨"NamesOnLoanModel", "one", "()I"⟩, 45), (⟨"NamesOnLoanModel", "byteAt", "()I"⟩, 45), (⟨"NamesOnLoanModel", "wrong", "()I"⟩, 45), (⟨"NamesOnLoanModel", "takes", "(I)Z"⟩, 45), (⟨"NamesOnLoanModel", "burnsIn", "(II)I"⟩, 45), (⟨"NamesOnLoanModel", "goes", "(I)V"⟩, 45), (⟨"NamesOnLoanModel", "begins1", "()V"⟩, 45), (⟨"NamesOnLoanModel", "day", "(I)V"⟩, 45), (⟨"NamesOnLoanModel", "crackedMany", "()I"⟩, 45), (⟨"NamesOnLoanModel", "burntMany", "()I"⟩, 45), (⟨"NamesOnLoanModel", "leftAll", "()I"⟩, 45), (⟨"NamesOnLoanModel", "lessThan", "(II)I"⟩, 45), (⟨"NamesOnLoanModel", "beginsWays", "()V"⟩, 45)]
theorem lw_r4 : ∀ q ∈ lw_privs_4, lw_okq q := List.forall_mem_cons.mpr ⟨lw_p48, List.forall_mem_cons.mpr ⟨lw_p49, List.forall_mem_cons.mpr ⟨lw_p50, List.forall_mem_cons.mpr ⟨lw_p51, List.forall_mem_cons.mpr ⟨lw_p52, List.forall_mem_cons.mpr ⟨lw_p53, List.forall_mem_cons.mpr ⟨lw_p54, List.forall_mem_cons.mpr ⟨lw_p55, List.forall_mem_cons.mpr ⟨lw_p56, List.forall_mem_cons.mpr ⟨lw_p57, List.forall_mem_cons.mpr ⟨lw_p58, List.forall_mem_cons.mpr ⟨lw_p59, List.forall_mem_cons.mpr ⟨lw_p60, List.forall_mem_cons.mpr ⟨lw_p61, List.forall_mem_cons.mpr ⟨lw_p62, List.forall_mem_cons.mpr ⟨lw_p63, fun _ h => absurd h List.not_mem_nil⟩⟩⟩⟩⟩⟩⟩⟩⟩⟩⟩⟩⟩⟩⟩⟩
theorem lw_p64 : lw_okq (⟨"NamesOnLoanModel", "isWay", "(I)Z"⟩, 45) := ⟨⟨by decide +kernel, by decide +kernel⟩, List.mem_of_getElem? (i := 954) (by decide +kernel), List.mem_of_getElem? (i := 1284) (by decide +kernel), List.mem_of_getElem? (i := 1285) (by decide +kernel)⟩
theorem lw_p65 : lw_okq (⟨"NamesOnLoanModel", "keepsWay", "()V"⟩, 45) := ⟨⟨by decide +kernel, by decide +kernel⟩, List.mem_of_getElem? (i := 954) (by decide +kernel), List.mem_of_getElem? (i := 1288) (by decide +kernel), List.mem_of_getElem? (i := 1289) (by decide +kernel)⟩
theorem lw_p66 : lw_okq (⟨"NamesOnLoanModel", "endsWays", "()V"⟩, 45) := ⟨⟨by decide +kernel, by decide +kernel⟩, List.mem_of_getElem? (i := 954) (by decide +kernel), List.mem_of_getElem? (i := 1292) (by decide +kernel), List.mem_of_getElem? (i := 1293) (by decide +kernel)⟩
theorem lw_p67 : lw_okq (⟨"NamesOnLoanModel", "thawMinutes", "()I"⟩, 45) := ⟨⟨by decide +kernel, by decide +kernel⟩, List.mem_of_getElem? (i := 954) (by decide +kernel), List.mem_of_getElem? (i := 1304) (by decide +kernel), List.mem_of_getElem? (i := 1305) (by decide +kernel)⟩
theorem lw_p68 : lw_okq (⟨"NamesOnLoanModel", "homeIn", "(I)I"⟩, 45) := ⟨⟨by decide +kernel, by decide +kernel⟩, List.mem_of_getElem? (i := 954) (by decide +kernel), List.mem_of_getElem? (i := 1308) (by decide +kernel), List.mem_of_getElem? (i := 1309) (by decide +kernel)⟩
theorem lw_p69 : lw_okq (⟨"NamesOnLoanModel", "isHome", "(I)Z"⟩, 45) := ⟨⟨by decide +kernel, by decide +kernel⟩, List.mem_of_getElem? (i := 954) (by decide +kernel), List.mem_of_getElem? (i := 1334) (by decide +kernel), List.mem_of_getElem? (i := 1335) (by decide +kernel)⟩
theorem lw_p70 : lw_okq (⟨"NamesOnLoanModel", "bytesIs", "(I)I"⟩, 45) := ⟨⟨by decide +kernel, by decide +kernel⟩, List.mem_of_getElem? (i := 954) (by decide +kernel), List.mem_of_getElem? (i := 1346) (by decide +kernel), List.mem_of_getElem? (i := 1347) (by decide +kernel)⟩
theorem lw_p71 : lw_okq (⟨"NamesOnLoanModel", "firstFalse", "(I)I"⟩, 45) := ⟨⟨by decide +kernel, by decide +kernel⟩, List.mem_of_getElem? (i := 954) (by decide +kernel), List.mem_of_getElem? (i := 1350) (by decide +kernel), List.mem_of_getElem? (i := 1351) (by decide +kernel)⟩
theorem lw_p72 : lw_okq (⟨"NamesOnLoanModel", "isBody", "(I)Z"⟩, 45) := ⟨⟨by decide +kernel, by decide +kernel⟩, List.mem_of_getElem? (i := 954) (by decide +kernel), List.mem_of_getElem? (i := 1398) (by decide +kernel), List.mem_of_getElem? (i := 1399) (by decide +kernel)⟩
theorem lw_p73 : lw_okq (⟨"NamesOnLoanModel", "wearsAs", "(II)I"⟩, 45) := ⟨⟨by decide +kernel, by decide +kernel⟩, List.mem_of_getElem? (i := 954) (by decide +kernel), List.mem_of_getElem? (i := 1402) (by decide +kernel), List.mem_of_getElem? (i := 1403) (by decide +kernel)⟩
theorem lw_p74 : lw_okq (⟨"NamesOnLoanModel", "begins", "(I)V"⟩, 45) := ⟨⟨by decide +kernel, by decide +kernel⟩, List.mem_of_getElem? (i := 954) (by decide +kernel), List.mem_of_getElem? (i := 1406) (by decide +kernel), List.mem_of_getElem? (i := 1407) (by decide +kernel)⟩
theorem lw_p75 : lw_okq (⟨"NamesOnLoanModel", "freezesAs", "(II)I"⟩, 45) := ⟨⟨by decide +kernel, by decide +kernel⟩, List.mem_of_getElem? (i := 954) (by decide +kernel), List.mem_of_getElem? (i := 1410) (by decide +kernel), List.mem_of_getElem? (i := 1411) (by decide +kernel)⟩
theorem lw_p76 : lw_okq (⟨"NamesOnLoanModel", "callsAs", "(II)I"⟩, 45) := ⟨⟨by decide +kernel, by decide +kernel⟩, List.mem_of_getElem? (i := 954) (by decide +kernel), List.mem_of_getElem? (i := 1414) (by decide +kernel), List.mem_of_getElem? (i := 1415) (by decide +kernel)⟩
theorem lw_p77 : lw_okq (⟨"NamesOnLoanModel", "tellsAs", "(II)I"⟩, 45) := ⟨⟨by decide +kernel, by decide +kernel⟩, List.mem_of_getElem? (i := 954) (by decide +kernel), List.mem_of_getElem? (i := 1418) (by decide +kernel), List.mem_of_getElem? (i := 1419) (by decide +kernel)⟩
theorem lw_p78 : lw_okq (⟨"NamesOnLoanModel", "refusal", "(II)I"⟩, 45) := ⟨⟨by decide +kernel, by decide +kernel⟩, List.mem_of_getElem? (i := 954) (by decide +kernel), List.mem_of_getElem? (i := 1438) (by decide +kernel), List.mem_of_getElem? (i := 1439) (by decide +kernel)⟩
theorem lw_p79 : lw_okq (⟨"NamesOnLoanModel", "kindOf", "(I)I"⟩, 45) := ⟨⟨by decide +kernel, by decide +kernel⟩, List.mem_of_getElem? (i := 954) (by decide +kernel), List.mem_of_getElem? (i := 1458) (by decide +kernel), List.mem_of_getElem? (i := 1459) (by decide +kernel)⟩
def lw_privs_5 : List (MethodName × Nat) := [(⟨"NamesOnLoanModel", "isWay", "(I)Z"⟩, 45), (⟨"NamesOnLoanModel", "keepsWay", "()V"⟩, 45), (⟨"NamesOnLoanModel", "endsWays", "()V"⟩, 45), (⟨"NamesOnLoanModel", "thawMinutes", "()I"⟩, 45), (⟨"NamesOnLoanModel", "homeIn", "(I)I"⟩, 45), (⟨"NamesOnLoanModel", "isHome", "(I)Z"⟩, 45), (⟨"NamesOnLoanModel", "bytesIs", "(I)I"⟩, 45), (⟨"NamesOnLoanModel", "firstFalse", "(I)I"⟩, 45), (⟨"NamesOnLoanModel", "isBody", "(I)Z"⟩, 45), (⟨"NamesOnLoanModel", "wearsAs", "(II)I"⟩, 45), (⟨"NamesOnLoanModel", "begins", "(I)V"⟩, 45), (⟨"NamesOnLoanModel", "freezesAs", "(II)I"⟩, 45), (⟨"NamesOnLoanModel", "callsAs", "(II)I"⟩, 45), (⟨"NamesOnLoanModel", "tellsAs", "(II)I"⟩, 45), (⟨"NamesOnLoanModel", "refusal", "(II)I"⟩, 45), (⟨"NamesOnLoanModel", "kindOf", "(I)I"⟩, 45)]
theorem lw_r5 : ∀ q ∈ lw_privs_5, lw_okq q := List.forall_mem_cons.mpr ⟨lw_p64, List.forall_mem_cons.mpr ⟨lw_p65, List.forall_mem_cons.mpr ⟨lw_p66, List.forall_mem_cons.mpr ⟨lw_p67, List.forall_mem_cons.mpr ⟨lw_p68, List.forall_mem_cons.mpr ⟨lw_p69, List.forall_mem_cons.mpr ⟨lw_p70, List.forall_mem_cons.mpr ⟨lw_p71, List.forall_mem_cons.mpr ⟨lw_p72, List.forall_mem_cons.mpr ⟨lw_p73, List.forall_mem_cons.mpr ⟨lw_p74, List.forall_mem_cons.mpr ⟨lw_p75, List.forall_mem_cons.mpr ⟨lw_p76, List.forall_mem_cons.mpr ⟨lw_p77, List.forall_mem_cons.mpr ⟨lw_p78, List.forall_mem_cons.mpr ⟨lw_p79, fun _ h => absurd h List.not_mem_nil⟩⟩⟩⟩⟩⟩⟩⟩⟩⟩⟩⟩⟩⟩⟩⟩
theorem lw_p80 : lw_okq (⟨"NamesOnLoanModel", "givenMany", "()I"⟩, 45) := ⟨⟨by decide +kernel, by decide +kernel⟩, List.mem_of_getElem? (i := 954) (by decide +kernel), List.mem_of_getElem? (i := 1469) (by decide +kernel), List.mem_of_getElem? (i := 1470) (by decide +kernel)⟩
def lw_privs_6 : List (MethodName × Nat) := [(⟨"NamesOnLoanModel", "givenMany", "()I"⟩, 45)]
theorem lw_r6 : ∀ q ∈ lw_privs_6, lw_okq q := List.forall_mem_cons.mpr ⟨lw_p80, fun _ h => absurd h List.not_mem_nil⟩
def lw_privs : List (MethodName × Nat) := lw_privs_1 ++ (lw_privs_2 ++ (lw_privs_3 ++ (lw_privs_4 ++ (lw_privs_5 ++ (lw_privs_6)))))
def lw_tbl : List Cond := k2_sels lw_privs ++ tables_1
theorem lw_privs_ok : ∀ q ∈ lw_privs, lw_okq q := by
  show ∀ q ∈ lw_privs_1 ++ (lw_privs_2 ++ (lw_privs_3 ++ (lw_privs_4 ++ (lw_privs_5 ++ (lw_privs_6))))), lw_okq q
  exact List.forall_mem_append.mpr ⟨lw_r1, List.forall_mem_append.mpr ⟨lw_r2, List.forall_mem_append.mpr ⟨lw_r3, List.forall_mem_append.mpr ⟨lw_r4, List.forall_mem_append.mpr ⟨lw_r5, lw_r6⟩⟩⟩⟩⟩
def RX0 : String := "NamesOnLoan$Acts"
def TX0 : u_T := fun k => match k with
  | 0 => ("NamesOnLoan$Acts", "kinds", "[I", true)
  | 1 => ("NamesOnLoan$Acts", "traces", "[I", true)
  | 2 => ("NamesOnLoan$Acts", "size", "I", false)
  | 3 => ("NamesOnLoan$Acts", "ran", "I", false)
  | _ => ("NamesOnLoan$Acts", "self", "I", false)
def tyX0 : Nat → FieldType := fun k => match k with
  | 0 => .array .int
  | 1 => .array .int
  | 2 => .int
  | 3 => .int
  | _ => .int
theorem nmX0 : ∀ a, a < 5 → ∀ b, b < 5 → a ≠ b → (TX0 a).2.1 ≠ (TX0 b).2.1 := by decide +kernel
theorem tyX0_ok : ∀ k, k < 5 → parseFieldDescriptor (TX0 k).2.2.1 = some (tyX0 k) := by decide +kernel
def RX1 : String := "NamesOnLoan$Changes"
def TX1 : u_T := fun k => match k with
  | 0 => ("NamesOnLoan$Changes", "numbers", "[I", true)
  | 1 => ("NamesOnLoan$Changes", "whats", "[I", true)
  | 2 => ("NamesOnLoan$Changes", "before", "[I", true)
  | 3 => ("NamesOnLoan$Changes", "after", "[I", true)
  | 4 => ("NamesOnLoan$Changes", "done", "I", false)
  | _ => ("NamesOnLoan$Changes", "held", "I", false)
def tyX1 : Nat → FieldType := fun k => match k with
  | 0 => .array .int
  | 1 => .array .int
  | 2 => .array .int
  | 3 => .array .int
  | 4 => .int
  | _ => .int
theorem nmX1 : ∀ a, a < 6 → ∀ b, b < 6 → a ≠ b → (TX1 a).2.1 ≠ (TX1 b).2.1 := by decide +kernel
theorem tyX1_ok : ∀ k, k < 6 → parseFieldDescriptor (TX1 k).2.2.1 = some (tyX1 k) := by decide +kernel
def RX2 : String := "NamesOnLoan$Deeds"
def TX2 : u_T := fun k => match k with
  | 0 => ("NamesOnLoan$Deeds", "wearer", "[I", true)
  | 1 => ("NamesOnLoan$Deeds", "left", "[I", true)
  | 2 => ("NamesOnLoan$Deeds", "debts", "[I", true)
  | 3 => ("NamesOnLoan$Deeds", "days", "I", false)
  | 4 => ("NamesOnLoan$Deeds", "lendings", "I", false)
  | _ => ("NamesOnLoan$Deeds", "homecomings", "I", false)
def tyX2 : Nat → FieldType := fun k => match k with
  | 0 => .array .int
  | 1 => .array .int
  | 2 => .array .int
  | 3 => .int
  | 4 => .int
  | _ => .int
theorem nmX2 : ∀ a, a < 6 → ∀ b, b < 6 → a ≠ b → (TX2 a).2.1 ≠ (TX2 b).2.1 := by decide +kernel
theorem tyX2_ok : ∀ k, k < 6 → parseFieldDescriptor (TX2 k).2.2.1 = some (tyX2 k) := by decide +kernel
def RX3 : String := "NamesOnLoan$Folk"
def TX3 : u_T := fun k => match k with
  | 0 => ("NamesOnLoan$Folk", "numbers", "[I", true)
  | _ => ("NamesOnLoan$Folk", "size", "I", false)
def tyX3 : Nat → FieldType := fun k => match k with
  | 0 => .array .int
  | _ => .int
theorem nmX3 : ∀ a, a < 2 → ∀ b, b < 2 → a ≠ b → (TX3 a).2.1 ≠ (TX3 b).2.1 := by decide +kernel
theorem tyX3_ok : ∀ k, k < 2 → parseFieldDescriptor (TX3 k).2.2.1 = some (tyX3 k) := by decide +kernel
def RX4 : String := "NamesOnLoan$Law"
def TX4 : u_T := fun k => match k with
  | 0 => ("NamesOnLoan$Law", "steps", "[I", true)
  | 1 => ("NamesOnLoan$Law", "pile", "[I", true)
  | 2 => ("NamesOnLoan$Law", "values", "[I", true)
  | _ => ("NamesOnLoan$Law", "size", "I", false)
def tyX4 : Nat → FieldType := fun k => match k with
  | 0 => .array .int
  | 1 => .array .int
  | 2 => .array .int
  | _ => .int
theorem nmX4 : ∀ a, a < 4 → ∀ b, b < 4 → a ≠ b → (TX4 a).2.1 ≠ (TX4 b).2.1 := by decide +kernel
theorem tyX4_ok : ∀ k, k < 4 → parseFieldDescriptor (TX4 k).2.2.1 = some (tyX4 k) := by decide +kernel
def RX5 : String := "NamesOnLoan$Shelf"
def TX5 : u_T := fun k => match k with
  | 0 => ("NamesOnLoan$Shelf", "holds", "I", false)
  | 1 => ("NamesOnLoan$Shelf", "name", "I", false)
  | 2 => ("NamesOnLoan$Shelf", "size", "I", false)
  | _ => ("NamesOnLoan$Shelf", "cells", "[J", true)
def tyX5 : Nat → FieldType := fun k => match k with
  | 0 => .int
  | 1 => .int
  | 2 => .int
  | _ => .array .long
theorem nmX5 : ∀ a, a < 4 → ∀ b, b < 4 → a ≠ b → (TX5 a).2.1 ≠ (TX5 b).2.1 := by decide +kernel
theorem tyX5_ok : ∀ k, k < 4 → parseFieldDescriptor (TX5 k).2.2.1 = some (tyX5 k) := by decide +kernel
def RX6 : String := "NamesOnLoan$Tape"
def TX6 : u_T := fun k => match k with
  | 0 => ("NamesOnLoan$Tape", "bytes", "[I", true)
  | 1 => ("NamesOnLoan$Tape", "length", "I", false)
  | 2 => ("NamesOnLoan$Tape", "place", "I", false)
  | 3 => ("NamesOnLoan$Tape", "steps", "[I", true)
  | _ => ("NamesOnLoan$Tape", "written", "I", false)
def tyX6 : Nat → FieldType := fun k => match k with
  | 0 => .array .int
  | 1 => .int
  | 2 => .int
  | 3 => .array .int
  | _ => .int
theorem nmX6 : ∀ a, a < 5 → ∀ b, b < 5 → a ≠ b → (TX6 a).2.1 ≠ (TX6 b).2.1 := by decide +kernel
theorem tyX6_ok : ∀ k, k < 5 → parseFieldDescriptor (TX6 k).2.2.1 = some (tyX6 k) := by decide +kernel
def RX7 : String := "NamesOnLoan$Ways"
def TX7 : u_T := fun k => match k with
  | 0 => ("NamesOnLoan$Ways", "way", "[I", true)
  | 1 => ("NamesOnLoan$Ways", "worn", "[I", true)
  | 2 => ("NamesOnLoan$Ways", "coats", "[I", true)
  | 3 => ("NamesOnLoan$Ways", "first", "[I", true)
  | 4 => ("NamesOnLoan$Ways", "costs", "[I", true)
  | _ => ("NamesOnLoan$Ways", "size", "I", false)
def tyX7 : Nat → FieldType := fun k => match k with
  | 0 => .array .int
  | 1 => .array .int
  | 2 => .array .int
  | 3 => .array .int
  | 4 => .array .int
  | _ => .int
theorem nmX7 : ∀ a, a < 6 → ∀ b, b < 6 → a ≠ b → (TX7 a).2.1 ≠ (TX7 b).2.1 := by decide +kernel
theorem tyX7_ok : ∀ k, k < 6 → parseFieldDescriptor (TX7 k).2.2.1 = some (tyX7 k) := by decide +kernel
def RX8 : String := "NamesOnLoan"
def TX8 : u_T := fun k => match k with
  | 0 => ("NamesOnLoan", "folk", "LNamesOnLoan$Folk;", true)
  | 1 => ("NamesOnLoan", "deeds", "LNamesOnLoan$Deeds;", true)
  | 2 => ("NamesOnLoan", "kept", "LNamesOnLoan$Deeds;", true)
  | 3 => ("NamesOnLoan", "hasImage", "Z", false)
  | 4 => ("NamesOnLoan", "tape", "LNamesOnLoan$Tape;", true)
  | 5 => ("NamesOnLoan", "frostLaw", "LNamesOnLoan$Law;", true)
  | 6 => ("NamesOnLoan", "ways", "LNamesOnLoan$Ways;", true)
  | 7 => ("NamesOnLoan", "changes", "LNamesOnLoan$Changes;", true)
  | 8 => ("NamesOnLoan", "acts", "LNamesOnLoan$Acts;", true)
  | 9 => ("NamesOnLoan", "shelves", "[LNamesOnLoan$Shelf;", true)
  | 10 => ("NamesOnLoan", "trial", "[I", true)
  | _ => ("NamesOnLoan", "ratesByCold", "[I", true)
def tyX8 : Nat → FieldType := fun k => match k with
  | 0 => .object "NamesOnLoan$Folk"
  | 1 => .object "NamesOnLoan$Deeds"
  | 2 => .object "NamesOnLoan$Deeds"
  | 3 => .boolean
  | 4 => .object "NamesOnLoan$Tape"
  | 5 => .object "NamesOnLoan$Law"
  | 6 => .object "NamesOnLoan$Ways"
  | 7 => .object "NamesOnLoan$Changes"
  | 8 => .object "NamesOnLoan$Acts"
  | 9 => .array (.object "NamesOnLoan$Shelf")
  | 10 => .array .int
  | _ => .array .int
theorem nmX8 : ∀ a, a < 12 → ∀ b, b < 12 → a ≠ b → (TX8 a).2.1 ≠ (TX8 b).2.1 := by decide +kernel
theorem tyX8_ok : ∀ k, k < 12 → parseFieldDescriptor (TX8 k).2.2.1 = some (tyX8 k) := by decide +kernel
def RX9 : String := "NamesOnLoanModel"
def TX9 : u_T := fun k => match k with
  | 0 => ("NamesOnLoanModel", "may", "[I", true)
  | 1 => ("NamesOnLoanModel", "changeAt", "[I", true)
  | 2 => ("NamesOnLoanModel", "changeWas", "[I", true)
  | 3 => ("NamesOnLoanModel", "changeIs", "[I", true)
  | 4 => ("NamesOnLoanModel", "keptMany", "I", false)
  | 5 => ("NamesOnLoanModel", "done", "I", false)
  | 6 => ("NamesOnLoanModel", "people", "I", false)
  | 7 => ("NamesOnLoanModel", "wearer", "[I", true)
  | 8 => ("NamesOnLoanModel", "leftNow", "[I", true)
  | 9 => ("NamesOnLoanModel", "tape", "[I", true)
  | 10 => ("NamesOnLoanModel", "tapeMany", "I", false)
  | 11 => ("NamesOnLoanModel", "text", "[I", true)
  | 12 => ("NamesOnLoanModel", "textMany", "I", false)
  | 13 => ("NamesOnLoanModel", "base", "I", false)
  | 14 => ("NamesOnLoanModel", "at", "I", false)
  | 15 => ("NamesOnLoanModel", "ends", "I", false)
  | 16 => ("NamesOnLoanModel", "fault", "I", false)
  | 17 => ("NamesOnLoanModel", "opened", "I", false)
  | 18 => ("NamesOnLoanModel", "names", "[I", true)
  | 19 => ("NamesOnLoanModel", "left", "[I", true)
  | 20 => ("NamesOnLoanModel", "hadWearer", "[I", true)
  | 21 => ("NamesOnLoanModel", "bestWearer", "[I", true)
  | 22 => ("NamesOnLoanModel", "ways", "I", false)
  | 23 => ("NamesOnLoanModel", "codes", "I", false)
  | 24 => ("NamesOnLoanModel", "came", "[Z", true)
  | 25 => ("NamesOnLoanModel", "owed", "[I", true)
  | 26 => ("NamesOnLoanModel", "ledDays", "I", false)
  | 27 => ("NamesOnLoanModel", "ledLendings", "I", false)
  | 28 => ("NamesOnLoanModel", "ledThaws", "I", false)
  | 29 => ("NamesOnLoanModel", "isKept", "Z", false)
  | 30 => ("NamesOnLoanModel", "imagePeople", "I", false)
  | 31 => ("NamesOnLoanModel", "imageWearer", "[I", true)
  | 32 => ("NamesOnLoanModel", "imageLeft", "[I", true)
  | 33 => ("NamesOnLoanModel", "imageOwed", "[I", true)
  | 34 => ("NamesOnLoanModel", "imageLed", "[I", true)
  | 35 => ("NamesOnLoanModel", "bodies", "I", false)
  | 36 => ("NamesOnLoanModel", "bodyKind", "[I", true)
  | 37 => ("NamesOnLoanModel", "trace", "[I", true)
  | 38 => ("NamesOnLoanModel", "ran", "I", false)
  | 39 => ("NamesOnLoanModel", "ownKind", "I", false)
  | 40 => ("NamesOnLoanModel", "ownNumber", "I", false)
  | 41 => ("NamesOnLoanModel", "shelf", "[I", true)
  | 42 => ("NamesOnLoanModel", "many", "[I", true)
  | 43 => ("NamesOnLoanModel", "items", "[J", true)
  | _ => ("NamesOnLoanModel", "carried", "[J", true)
def tyX9 : Nat → FieldType := fun k => match k with
  | 0 => .array .int
  | 1 => .array .int
  | 2 => .array .int
  | 3 => .array .int
  | 4 => .int
  | 5 => .int
  | 6 => .int
  | 7 => .array .int
  | 8 => .array .int
  | 9 => .array .int
  | 10 => .int
  | 11 => .array .int
  | 12 => .int
  | 13 => .int
  | 14 => .int
  | 15 => .int
  | 16 => .int
  | 17 => .int
  | 18 => .array .int
  | 19 => .array .int
  | 20 => .array .int
  | 21 => .array .int
  | 22 => .int
  | 23 => .int
  | 24 => .array .boolean
  | 25 => .array .int
  | 26 => .int
  | 27 => .int
  | 28 => .int
  | 29 => .boolean
  | 30 => .int
  | 31 => .array .int
  | 32 => .array .int
  | 33 => .array .int
  | 34 => .array .int
  | 35 => .int
  | 36 => .array .int
  | 37 => .array .int
  | 38 => .int
  | 39 => .int
  | 40 => .int
  | 41 => .array .int
  | 42 => .array .int
  | 43 => .array .long
  | _ => .array .long
theorem nmX9 : ∀ a, a < 45 → ∀ b, b < 45 → a ≠ b → (TX9 a).2.1 ≠ (TX9 b).2.1 := by decide +kernel
theorem tyX9_ok : ∀ k, k < 45 → parseFieldDescriptor (TX9 k).2.2.1 = some (tyX9 k) := by decide +kernel
abbrev vwCl : List vw_C := [(RX0, TX0, 5), (RX1, TX1, 6), (RX2, TX2, 6), (RX3, TX3, 2), (RX4, TX4, 4), (RX5, TX5, 4), (RX6, TX6, 5), (RX7, TX7, 6), (RX8, TX8, 12), (RX9, TX9, 45)]
/-! what is held: numbers by cell and slot; the skeleton of cells, which never changes once the two constructors are through -/
abbrev am_M : Type := (Nat → Nat → Int32) × (Nat → Nat → Int64)
abbrev am_C : Type := (Nat × List (Option Nat)) ⊕ (Nat × Nat) ⊕ List Nat
def am_sk : List am_C := [
  .inl (8, [some 1, some 3, some 7, none, some 11, some 14, some 18, some 24, some 29, some 32, some 45, some 46]),
  .inl (3, [some 2, none]),
  .inr (.inl (0, 34)),
  .inl (2, [some 4, some 5, some 6, none, none, none]),
  .inr (.inl (0, 8)),
  .inr (.inl (0, 8)),
  .inr (.inl (0, 64)),
  .inl (2, [some 8, some 9, some 10, none, none, none]),
  .inr (.inl (0, 8)),
  .inr (.inl (0, 8)),
  .inr (.inl (0, 64)),
  .inl (6, [some 12, none, none, some 13, none]),
  .inr (.inl (0, 120)),
  .inr (.inl (0, 128)),
  .inl (4, [some 15, some 16, some 17, none]),
  .inr (.inl (0, 128)),
  .inr (.inl (0, 128)),
  .inr (.inl (0, 6)),
  .inl (7, [some 19, some 20, some 21, some 22, some 23, none]),
  .inr (.inl (0, 5)),
  .inr (.inl (0, 5)),
  .inr (.inl (0, 5)),
  .inr (.inl (0, 5)),
  .inr (.inl (0, 125)),
  .inl (1, [some 25, some 26, some 27, some 28, none, none]),
  .inr (.inl (0, 40)),
  .inr (.inl (0, 40)),
  .inr (.inl (0, 40)),
  .inr (.inl (0, 40)),
  .inl (0, [some 30, some 31, none, none, none]),
  .inr (.inl (0, 50)),
  .inr (.inl (0, 24)),
  .inr (.inr [33, 35, 37, 39, 41, 43]),
  .inl (5, [none, none, none, some 34]),
  .inr (.inl (2, 60)),
  .inl (5, [none, none, none, some 36]),
  .inr (.inl (2, 60)),
  .inl (5, [none, none, none, some 38]),
  .inr (.inl (2, 60)),
  .inl (5, [none, none, none, some 40]),
  .inr (.inl (2, 60)),
  .inl (5, [none, none, none, some 42]),
  .inr (.inl (2, 60)),
  .inl (5, [none, none, none, some 44]),
  .inr (.inl (2, 60)),
  .inr (.inl (0, 8)),
  .inr (.inl (0, 80)),
  .inl (9, [some 48, some 49, some 50, some 51, none, none, none, some 52, some 53, some 54, none, some 55, none, none, none, none, none, none, some 56, some 57, some 58, some 59, none, none, some 60, some 61, none, none, none, none, none, some 62, some 63, some 64, some 65, none, some 66, some 67, none, none, none, some 68, some 69, some 70, some 71]),
  .inr (.inl (0, 34)),
  .inr (.inl (0, 40)),
  .inr (.inl (0, 40)),
  .inr (.inl (0, 40)),
  .inr (.inl (0, 8)),
  .inr (.inl (0, 8)),
  .inr (.inl (0, 120)),
  .inr (.inl (0, 120)),
  .inr (.inl (0, 6)),
  .inr (.inl (0, 8)),
  .inr (.inl (0, 8)),
  .inr (.inl (0, 8)),
  .inr (.inl (1, 8)),
  .inr (.inl (0, 64)),
  .inr (.inl (0, 8)),
  .inr (.inl (0, 8)),
  .inr (.inl (0, 64)),
  .inr (.inl (0, 3)),
  .inr (.inl (0, 50)),
  .inr (.inl (0, 24)),
  .inr (.inl (0, 6)),
  .inr (.inl (0, 6)),
  .inr (.inl (2, 360)),
  .inr (.inl (2, 60))]
abbrev am_Mi : Type := MethodName × ByteArray × Nat × Option FieldType × Nat × Nat × List Nat
/-- the methods: name, bytes, locals, what it returns, 0 static 1 of an object, parameters, places of its words -/
def iX8_person : am_Mi := (⟨"NamesOnLoan", "person", "(II)I"⟩, prog_1_method_2_code, 3, some .int, 1, 2, [316, 314, 315, 82])
def iX3_fits : am_Mi := (⟨"NamesOnLoan$Folk", "fits", "(II)Z"⟩, prog_5_method_2_code, 2, some .boolean, 0, 2, [319, 318, 83])
def iX3_isFull : am_Mi := (⟨"NamesOnLoan$Folk", "isFull", "()Z"⟩, prog_5_method_4_code, 1, some .boolean, 1, 0, [327, 325, 326, 83])
def iX3_welcome : am_Mi := (⟨"NamesOnLoan$Folk", "welcome", "(III)I"⟩, prog_5_method_11_code, 5, some .int, 1, 3, [331, 329, 330, 83])
def iX3_tell : am_Mi := (⟨"NamesOnLoan$Folk", "tell", "(III)V"⟩, prog_5_method_9_code, 4, none, 1, 3, [335, 333, 334, 83])
def iX3_tells : am_Mi := (⟨"NamesOnLoan$Folk", "tells", "(II)Z"⟩, prog_5_method_6_code, 3, some .boolean, 1, 2, [339, 337, 338, 83])
def iX3_has : am_Mi := (⟨"NamesOnLoan$Folk", "has", "(I)Z"⟩, prog_5_method_5_code, 2, some .boolean, 1, 1, [343, 341, 342, 83])
def iX3_placeOf : am_Mi := (⟨"NamesOnLoan$Folk", "placeOf", "(II)I"⟩, prog_5_method_7_code, 2, some .int, 0, 2, [346, 345, 83])
def iX8_people : am_Mi := (⟨"NamesOnLoan", "people", "(III)I"⟩, prog_1_method_3_code, 6, some .int, 1, 3, [350, 348, 349, 82])
def iX8_isShelf : am_Mi := (⟨"NamesOnLoan", "isShelf", "(I)Z"⟩, prog_1_method_60_code, 1, some .boolean, 0, 1, [353, 352, 82])
def iX5_isEmpty : am_Mi := (⟨"NamesOnLoan$Shelf", "isEmpty", "()Z"⟩, prog_7_method_3_code, 1, some .boolean, 1, 0, [357, 355, 356, 90])
def iX5_isOfBytes : am_Mi := (⟨"NamesOnLoan$Shelf", "isOfBytes", "()Z"⟩, prog_7_method_6_code, 1, some .boolean, 1, 0, [361, 359, 360, 90])
def iX8_comesFrom : am_Mi := (⟨"NamesOnLoan", "comesFrom", "(LNamesOnLoan$Shelf;I)Z"⟩, prog_1_method_4_code, 6, some .boolean, 1, 2, [365, 364, 0, 82])
def iX5_hasPlaces : am_Mi := (⟨"NamesOnLoan$Shelf", "hasPlaces", "(II)Z"⟩, prog_7_method_13_code, 3, some .boolean, 1, 2, [369, 367, 368, 90])
def iX5_number : am_Mi := (⟨"NamesOnLoan$Shelf", "number", "(I)I"⟩, prog_7_method_15_code, 2, some .int, 1, 1, [373, 371, 372, 90])
def iX8_mend : am_Mi := (⟨"NamesOnLoan", "mend", "(III)I"⟩, prog_1_method_5_code, 5, some .int, 1, 3, [378, 376, 377, 82])
def iX3_told : am_Mi := (⟨"NamesOnLoan$Folk", "told", "(II)I"⟩, prog_5_method_8_code, 3, some .int, 1, 2, [383, 381, 382, 83])
def iX1_add : am_Mi := (⟨"NamesOnLoan$Changes", "add", "(IIII)V"⟩, prog_3_method_2_code, 5, none, 1, 4, [388, 386, 387, 88])
def iX1_dropOldest : am_Mi := (⟨"NamesOnLoan$Changes", "dropOldest", "([I)V"⟩, prog_3_method_3_code, 1, none, 0, 1, [391, 390, 88])
def iX8_of : am_Mi := (⟨"NamesOnLoan", "of", "(II)I"⟩, prog_1_method_6_code, 3, some .int, 1, 2, [398, 396, 397, 82])
def iX2_wearerOf : am_Mi := (⟨"NamesOnLoan$Deeds", "wearerOf", "(I)I"⟩, prog_4_method_5_code, 2, some .int, 1, 1, [403, 401, 402, 84])
def iX2_isIn : am_Mi := (⟨"NamesOnLoan$Deeds", "isIn", "(I)Z"⟩, prog_4_method_2_code, 1, some .boolean, 0, 1, [406, 405, 84])
def iX2_leftOf : am_Mi := (⟨"NamesOnLoan$Deeds", "leftOf", "(I)I"⟩, prog_4_method_6_code, 2, some .int, 1, 1, [410, 408, 409, 84])
def iX8_cracks : am_Mi := (⟨"NamesOnLoan", "cracks", "(II)Z"⟩, prog_1_method_65_code, 3, some .boolean, 1, 2, [414, 413, 1, 82])
def iX2_wornBy : am_Mi := (⟨"NamesOnLoan$Deeds", "wornBy", "(I)I"⟩, prog_4_method_8_code, 4, some .int, 1, 1, [418, 416, 417, 84])
def iX8_feed : am_Mi := (⟨"NamesOnLoan", "feed", "(I)I"⟩, prog_1_method_7_code, 2, some .int, 1, 1, [422, 420, 421, 82])
def iX6_isFull : am_Mi := (⟨"NamesOnLoan$Tape", "isFull", "()Z"⟩, prog_8_method_2_code, 1, some .boolean, 1, 0, [426, 424, 425, 85])
def iX6_add : am_Mi := (⟨"NamesOnLoan$Tape", "add", "(I)I"⟩, prog_8_method_3_code, 2, some .int, 1, 1, [430, 428, 429, 85])
def iX8_law : am_Mi := (⟨"NamesOnLoan", "law", "()I"⟩, prog_1_method_8_code, 2, some .int, 1, 0, [434, 432, 433, 82])
def iX6_read : am_Mi := (⟨"NamesOnLoan$Tape", "read", "()I"⟩, prog_8_method_7_code, 3, some .int, 1, 0, [438, 436, 437, 85])
def iX6_readLine : am_Mi := (⟨"NamesOnLoan$Tape", "readLine", "()Z"⟩, prog_8_method_10_code, 1, some .boolean, 1, 0, [442, 441, 2, 85])
def iX6_readLevel : am_Mi := (⟨"NamesOnLoan$Tape", "readLevel", "(II)Z"⟩, prog_8_method_11_code, 7, some .boolean, 1, 2, [446, 445, 3, 85])
def iX6_readOne : am_Mi := (⟨"NamesOnLoan$Tape", "readOne", "(I)Z"⟩, prog_8_method_13_code, 4, some .boolean, 1, 1, [450, 449, 4, 85])
def iX6_next : am_Mi := (⟨"NamesOnLoan$Tape", "next", "()I"⟩, prog_8_method_8_code, 1, some .int, 1, 0, [454, 453, 5, 85])
def iX6_isDigit : am_Mi := (⟨"NamesOnLoan$Tape", "isDigit", "(I)Z"⟩, prog_8_method_16_code, 1, some .boolean, 0, 1, [457, 456, 85])
def iX6_readNumber : am_Mi := (⟨"NamesOnLoan$Tape", "readNumber", "()V"⟩, prog_8_method_17_code, 3, none, 1, 0, [461, 460, 6, 85])
def iX6_write : am_Mi := (⟨"NamesOnLoan$Tape", "write", "(I)V"⟩, prog_8_method_9_code, 2, none, 1, 1, [465, 464, 7, 85])
def iX4_valueCalled : am_Mi := (⟨"NamesOnLoan$Law", "valueCalled", "(I)I"⟩, prog_6_method_2_code, 1, some .int, 0, 1, [468, 467, 86])
def iX6_readInside : am_Mi := (⟨"NamesOnLoan$Tape", "readInside", "(I)Z"⟩, prog_8_method_14_code, 2, some .boolean, 1, 1, [472, 471, 8, 85])
def iX6_readTurned : am_Mi := (⟨"NamesOnLoan$Tape", "readTurned", "(II)Z"⟩, prog_8_method_15_code, 3, some .boolean, 1, 2, [476, 475, 9, 85])
def iX6_levelOf : am_Mi := (⟨"NamesOnLoan$Tape", "levelOf", "(I)I"⟩, prog_8_method_12_code, 1, some .int, 0, 1, [479, 478, 85])
def iX6_handTo : am_Mi := (⟨"NamesOnLoan$Tape", "handTo", "(LNamesOnLoan$Law;)V"⟩, prog_8_method_6_code, 2, none, 1, 1, [483, 481, 482, 85])
def iX4_become : am_Mi := (⟨"NamesOnLoan$Law", "become", "([II)V"⟩, prog_6_method_3_code, 3, none, 1, 2, [487, 485, 486, 86])
def iX6_clear : am_Mi := (⟨"NamesOnLoan$Tape", "clear", "()V"⟩, prog_8_method_5_code, 1, none, 1, 0, [498, 496, 497, 85])
def iX8_burns : am_Mi := (⟨"NamesOnLoan", "burns", "(I)I"⟩, prog_1_method_9_code, 2, some .int, 1, 1, [502, 500, 501, 82])
def iX8_rateNow : am_Mi := (⟨"NamesOnLoan", "rateNow", "(I)I"⟩, prog_1_method_63_code, 3, some .int, 1, 1, [506, 505, 10, 82])
def iX3_cold : am_Mi := (⟨"NamesOnLoan$Folk", "cold", "()I"⟩, prog_5_method_10_code, 1, some .int, 1, 0, [510, 508, 509, 83])
def iX8_rate : am_Mi := (⟨"NamesOnLoan", "rate", "(IIII)I"⟩, prog_1_method_62_code, 9, some .int, 1, 4, [515, 514, 11, 82])
def iX4_burnt : am_Mi := (⟨"NamesOnLoan$Law", "burnt", "(IIIIII)I"⟩, prog_6_method_4_code, 7, some .int, 1, 6, [519, 517, 518, 86])
def iX4_held : am_Mi := (⟨"NamesOnLoan$Law", "held", "(I)I"⟩, prog_6_method_5_code, 1, some .int, 0, 1, [522, 521, 86])
def iX4_workOut : am_Mi := (⟨"NamesOnLoan$Law", "workOut", "()I"⟩, prog_6_method_6_code, 6, some .int, 1, 0, [526, 525, 12, 86])
def iX4_isLaid : am_Mi := (⟨"NamesOnLoan$Law", "isLaid", "(I)Z"⟩, prog_6_method_8_code, 1, some .boolean, 0, 1, [529, 528, 86])
def iX4_needed : am_Mi := (⟨"NamesOnLoan$Law", "needed", "(I)I"⟩, prog_6_method_7_code, 1, some .int, 0, 1, [532, 531, 86])
def iX4_turned : am_Mi := (⟨"NamesOnLoan$Law", "turned", "(II)I"⟩, prog_6_method_9_code, 2, some .int, 0, 2, [535, 534, 86])
def iX4_joined : am_Mi := (⟨"NamesOnLoan$Law", "joined", "(III)I"⟩, prog_6_method_10_code, 3, some .int, 0, 3, [538, 537, 86])
def iX8_left : am_Mi := (⟨"NamesOnLoan", "left", "(II)I"⟩, prog_1_method_10_code, 3, some .int, 1, 2, [542, 540, 541, 82])
def iX8_isTo99 : am_Mi := (⟨"NamesOnLoan", "isTo99", "(I)Z"⟩, prog_1_method_59_code, 1, some .boolean, 0, 1, [545, 544, 82])
def iX8_leftAfter : am_Mi := (⟨"NamesOnLoan", "leftAfter", "(II)I"⟩, prog_1_method_64_code, 3, some .int, 1, 2, [549, 548, 13, 82])
def iX2_leftBy : am_Mi := (⟨"NamesOnLoan$Deeds", "leftBy", "(III)I"⟩, prog_4_method_7_code, 4, some .int, 1, 3, [553, 551, 552, 84])
def iX8_winter : am_Mi := (⟨"NamesOnLoan", "winter", "(II)I"⟩, prog_1_method_11_code, 6, some .int, 1, 2, [558, 556, 557, 82])
def iX3_size : am_Mi := (⟨"NamesOnLoan$Folk", "size", "()I"⟩, prog_5_method_3_code, 1, some .int, 1, 0, [562, 560, 561, 83])
def iX8_when : am_Mi := (⟨"NamesOnLoan", "when", "(II)I"⟩, prog_1_method_12_code, 3, some .int, 1, 2, [566, 564, 565, 82])
def iX8_firstDay : am_Mi := (⟨"NamesOnLoan", "firstDay", "(IZ)I"⟩, prog_1_method_66_code, 6, some .int, 1, 2, [570, 569, 14, 82])
def iX8_last : am_Mi := (⟨"NamesOnLoan", "last", "()I"⟩, prog_1_method_13_code, 5, some .int, 1, 0, [574, 572, 573, 82])
def iX8_give : am_Mi := (⟨"NamesOnLoan", "give", "(III)I"⟩, prog_1_method_14_code, 11, some .int, 1, 3, [578, 576, 577, 82])
def iX8_mayWearMore : am_Mi := (⟨"NamesOnLoan", "mayWearMore", "(I)Z"⟩, prog_1_method_61_code, 2, some .boolean, 1, 1, [582, 581, 15, 82])
def iX8_allLast : am_Mi := (⟨"NamesOnLoan", "allLast", "(II)I"⟩, prog_1_method_15_code, 7, some .int, 1, 2, [586, 584, 585, 82])
def iX8_beginWays : am_Mi := (⟨"NamesOnLoan", "beginWays", "(ILNamesOnLoan$Shelf;)V"⟩, prog_1_method_17_code, 8, none, 1, 2, [590, 589, 16, 82])
def iX7_begin : am_Mi := (⟨"NamesOnLoan$Ways", "begin", "(I)V"⟩, prog_9_method_2_code, 3, none, 1, 1, [594, 592, 593, 87])
def iX7_setCoats : am_Mi := (⟨"NamesOnLoan$Ways", "setCoats", "(II)V"⟩, prog_9_method_4_code, 3, none, 1, 2, [600, 598, 599, 87])
def am_ms0 : List am_Mi := [iX8_person, iX3_fits, iX3_isFull, iX3_welcome, iX3_tell, iX3_tells, iX3_has, iX3_placeOf, iX8_people, iX8_isShelf, iX5_isEmpty, iX5_isOfBytes, iX8_comesFrom, iX5_hasPlaces, iX5_number, iX8_mend, iX3_told, iX1_add, iX1_dropOldest, iX8_of, iX2_wearerOf, iX2_isIn, iX2_leftOf, iX8_cracks, iX2_wornBy, iX8_feed, iX6_isFull, iX6_add, iX8_law, iX6_read, iX6_readLine, iX6_readLevel, iX6_readOne, iX6_next, iX6_isDigit, iX6_readNumber, iX6_write, iX4_valueCalled, iX6_readInside, iX6_readTurned, iX6_levelOf, iX6_handTo, iX4_become, iX6_clear, iX8_burns, iX8_rateNow, iX3_cold, iX8_rate, iX4_burnt, iX4_held, iX4_workOut, iX4_isLaid, iX4_needed, iX4_turned, iX4_joined, iX8_left, iX8_isTo99, iX8_leftAfter, iX2_leftBy, iX8_winter, iX3_size, iX8_when, iX8_firstDay, iX8_last, iX8_give, iX8_mayWearMore, iX8_allLast, iX8_beginWays, iX7_begin, iX7_setCoats]
def iX7_has : am_Mi := (⟨"NamesOnLoan$Ways", "has", "(I)Z"⟩, prog_9_method_3_code, 2, some .boolean, 1, 1, [604, 603, 17, 87])
def iX8_costAfter : am_Mi := (⟨"NamesOnLoan", "costAfter", "(III)I"⟩, prog_1_method_18_code, 6, some .int, 1, 3, [608, 607, 18, 82])
def iX8_threesNotSo : am_Mi := (⟨"NamesOnLoan", "threesNotSo", "(LNamesOnLoan$Shelf;III)I"⟩, prog_1_method_36_code, 7, some .int, 1, 4, [613, 612, 19, 82])
def iX5_size : am_Mi := (⟨"NamesOnLoan$Shelf", "size", "()I"⟩, prog_7_method_9_code, 1, some .int, 1, 0, [617, 615, 616, 90])
def iX8_isSo : am_Mi := (⟨"NamesOnLoan", "isSo", "(LNamesOnLoan$Shelf;III)Z"⟩, prog_1_method_32_code, 7, some .boolean, 1, 4, [621, 620, 20, 82])
def iX7_setCost : am_Mi := (⟨"NamesOnLoan$Ways", "setCost", "(IIII)V"⟩, prog_9_method_5_code, 5, none, 1, 4, [625, 623, 624, 87])
def iX7_placeOf : am_Mi := (⟨"NamesOnLoan$Ways", "placeOf", "(III)I"⟩, prog_9_method_6_code, 3, some .int, 0, 3, [628, 627, 87])
def iX7_total : am_Mi := (⟨"NamesOnLoan$Ways", "total", "()I"⟩, prog_9_method_7_code, 3, some .int, 1, 0, [633, 631, 632, 87])
def iX7_fits : am_Mi := (⟨"NamesOnLoan$Ways", "fits", "()Z"⟩, prog_9_method_9_code, 2, some .boolean, 1, 0, [637, 635, 636, 87])
def iX7_cost : am_Mi := (⟨"NamesOnLoan$Ways", "cost", "()I"⟩, prog_9_method_11_code, 4, some .int, 1, 0, [641, 639, 640, 87])
def iX7_markFirst : am_Mi := (⟨"NamesOnLoan$Ways", "markFirst", "()V"⟩, prog_9_method_12_code, 1, none, 1, 0, [645, 643, 644, 87])
def iX7_goOn : am_Mi := (⟨"NamesOnLoan$Ways", "goOn", "()V"⟩, prog_9_method_8_code, 4, none, 1, 0, [650, 648, 649, 87])
def iX7_firstWearer : am_Mi := (⟨"NamesOnLoan$Ways", "firstWearer", "(I)I"⟩, prog_9_method_13_code, 2, some .int, 1, 1, [654, 652, 653, 87])
def iX8_fewest : am_Mi := (⟨"NamesOnLoan", "fewest", "(I)I"⟩, prog_1_method_16_code, 5, some .int, 1, 1, [658, 656, 657, 82])
def iX7_wearers : am_Mi := (⟨"NamesOnLoan$Ways", "wearers", "()I"⟩, prog_9_method_10_code, 3, some .int, 1, 0, [662, 660, 661, 87])
def iX8_thaws : am_Mi := (⟨"NamesOnLoan", "thaws", "(I)I"⟩, prog_1_method_19_code, 2, some .int, 1, 1, [666, 664, 665, 82])
def iX8_minutesOfThaw : am_Mi := (⟨"NamesOnLoan", "minutesOfThaw", "()I"⟩, prog_1_method_20_code, 3, some .int, 1, 0, [670, 669, 21, 82])
def iX2_minuteHome : am_Mi := (⟨"NamesOnLoan$Deeds", "minuteHome", "(I)I"⟩, prog_4_method_10_code, 5, some .int, 1, 1, [674, 672, 673, 84])
def iX8_ring : am_Mi := (⟨"NamesOnLoan", "ring", "(II)I"⟩, prog_1_method_21_code, 8, some .int, 1, 2, [680, 678, 679, 82])
def iX8_crowd : am_Mi := (⟨"NamesOnLoan", "crowd", "(I)I"⟩, prog_1_method_22_code, 6, some .int, 1, 1, [684, 682, 683, 82])
def iX8_letter : am_Mi := (⟨"NamesOnLoan", "letter", "(III)I"⟩, prog_1_method_23_code, 7, some .int, 1, 3, [688, 686, 687, 82])
def iJ6_bitCount_0f7a4 : am_Mi := (⟨"java/lang/Integer", "bitCount", "(I)I"⟩, prog_12_method_49_code, 1, some .int, 0, 1, [691, 690, 94])
def iX8_owe : am_Mi := (⟨"NamesOnLoan", "owe", "(II)I"⟩, prog_1_method_24_code, 6, some .int, 1, 2, [698, 696, 697, 82])
def iX2_debtOf : am_Mi := (⟨"NamesOnLoan$Deeds", "debtOf", "(II)I"⟩, prog_4_method_11_code, 3, some .int, 1, 2, [702, 700, 701, 84])
def iX2_setDebt : am_Mi := (⟨"NamesOnLoan$Deeds", "setDebt", "(III)V"⟩, prog_4_method_12_code, 4, none, 1, 3, [706, 704, 705, 84])
def iX8_debt : am_Mi := (⟨"NamesOnLoan", "debt", "(I)I"⟩, prog_1_method_25_code, 4, some .int, 1, 1, [710, 708, 709, 82])
def iX8_allThatSleeps : am_Mi := (⟨"NamesOnLoan", "allThatSleeps", "()I"⟩, prog_1_method_26_code, 4, some .int, 1, 0, [714, 713, 22, 82])
def iX2_sleeps : am_Mi := (⟨"NamesOnLoan$Deeds", "sleeps", "(II)Z"⟩, prog_4_method_13_code, 3, some .boolean, 1, 2, [718, 716, 717, 84])
def iX8_doors : am_Mi := (⟨"NamesOnLoan", "doors", "(I)I"⟩, prog_1_method_27_code, 7, some .int, 1, 1, [722, 720, 721, 82])
def iX8_gainOfExchange : am_Mi := (⟨"NamesOnLoan", "gainOfExchange", "(III)I"⟩, prog_1_method_28_code, 7, some .int, 1, 3, [726, 725, 23, 82])
def iX8_leftWith : am_Mi := (⟨"NamesOnLoan", "leftWith", "(III)I"⟩, prog_1_method_29_code, 5, some .int, 1, 3, [730, 729, 24, 82])
def iX8_judge : am_Mi := (⟨"NamesOnLoan", "judge", "(I)I"⟩, prog_1_method_30_code, 6, some .int, 1, 1, [734, 732, 733, 82])
def iX8_refusalOfBytes : am_Mi := (⟨"NamesOnLoan", "refusalOfBytes", "(I)I"⟩, prog_1_method_67_code, 2, some .int, 1, 1, [738, 737, 25, 82])
def iX8_isThree : am_Mi := (⟨"NamesOnLoan", "isThree", "(LNamesOnLoan$Shelf;I)Z"⟩, prog_1_method_31_code, 3, some .boolean, 1, 2, [742, 741, 26, 82])
def iX8_wore : am_Mi := (⟨"NamesOnLoan", "wore", "(II)I"⟩, prog_1_method_33_code, 6, some .int, 1, 2, [746, 744, 745, 82])
def iX8_areThrees : am_Mi := (⟨"NamesOnLoan", "areThrees", "(LNamesOnLoan$Shelf;)Z"⟩, prog_1_method_34_code, 3, some .boolean, 1, 1, [750, 749, 27, 82])
def iX8_waysThatMakeSo : am_Mi := (⟨"NamesOnLoan", "waysThatMakeSo", "(LNamesOnLoan$Shelf;)I"⟩, prog_1_method_35_code, 5, some .int, 1, 1, [754, 753, 28, 82])
def iX8_drawn : am_Mi := (⟨"NamesOnLoan", "drawn", "(III)I"⟩, prog_1_method_37_code, 12, some .int, 1, 3, [758, 756, 757, 82])
def iX8_fillRatesByCold : am_Mi := (⟨"NamesOnLoan", "fillRatesByCold", "(II)V"⟩, prog_1_method_38_code, 7, none, 1, 2, [762, 761, 29, 82])
def iX2_copyLeft : am_Mi := (⟨"NamesOnLoan$Deeds", "copyLeft", "([I)V"⟩, prog_4_method_4_code, 2, none, 1, 1, [766, 764, 765, 84])
def iX8_drawWinter : am_Mi := (⟨"NamesOnLoan", "drawWinter", "(IIII)I"⟩, prog_1_method_39_code, 9, some .int, 1, 4, [772, 771, 30, 82])
def iX8_lend : am_Mi := (⟨"NamesOnLoan", "lend", "(II)I"⟩, prog_1_method_40_code, 4, some .int, 1, 2, [777, 775, 776, 82])
def iX2_lendTo : am_Mi := (⟨"NamesOnLoan$Deeds", "lendTo", "(II)V"⟩, prog_4_method_14_code, 3, none, 1, 2, [781, 779, 780, 84])
def iX8_pass : am_Mi := (⟨"NamesOnLoan", "pass", "(I)I"⟩, prog_1_method_41_code, 5, some .int, 1, 1, [785, 783, 784, 82])
def iX2_setLeft : am_Mi := (⟨"NamesOnLoan$Deeds", "setLeft", "(II)V"⟩, prog_4_method_15_code, 3, none, 1, 2, [789, 787, 788, 84])
def iX2_addDays : am_Mi := (⟨"NamesOnLoan$Deeds", "addDays", "(I)V"⟩, prog_4_method_16_code, 2, none, 1, 1, [793, 791, 792, 84])
def iX8_thaw : am_Mi := (⟨"NamesOnLoan", "thaw", "()I"⟩, prog_1_method_42_code, 2, some .int, 1, 0, [797, 795, 796, 82])
def iX2_bringHome : am_Mi := (⟨"NamesOnLoan$Deeds", "bringHome", "()V"⟩, prog_4_method_17_code, 2, none, 1, 0, [801, 799, 800, 84])
def iX8_led : am_Mi := (⟨"NamesOnLoan", "led", "(I)I"⟩, prog_1_method_43_code, 2, some .int, 1, 1, [805, 803, 804, 82])
def iX2_days : am_Mi := (⟨"NamesOnLoan$Deeds", "days", "()I"⟩, prog_4_method_18_code, 1, some .int, 1, 0, [809, 807, 808, 84])
def iX2_lendings : am_Mi := (⟨"NamesOnLoan$Deeds", "lendings", "()I"⟩, prog_4_method_19_code, 1, some .int, 1, 0, [813, 811, 812, 84])
def iX2_homecomings : am_Mi := (⟨"NamesOnLoan$Deeds", "homecomings", "()I"⟩, prog_4_method_20_code, 1, some .int, 1, 0, [817, 815, 816, 84])
def iX8_burntNow : am_Mi := (⟨"NamesOnLoan", "burntNow", "()I"⟩, prog_1_method_44_code, 3, some .int, 1, 0, [821, 820, 31, 82])
def iX8_image : am_Mi := (⟨"NamesOnLoan", "image", "()I"⟩, prog_1_method_45_code, 1, some .int, 1, 0, [825, 823, 824, 82])
def iX2_copyFrom : am_Mi := (⟨"NamesOnLoan$Deeds", "copyFrom", "(LNamesOnLoan$Deeds;)V"⟩, prog_4_method_3_code, 2, none, 1, 1, [829, 827, 828, 84])
def iX8_back : am_Mi := (⟨"NamesOnLoan", "back", "()I"⟩, prog_1_method_46_code, 1, some .int, 1, 0, [833, 831, 832, 82])
def iX8_undo : am_Mi := (⟨"NamesOnLoan", "undo", "()I"⟩, prog_1_method_47_code, 1, some .int, 1, 0, [837, 835, 836, 82])
def iX1_mayGoBack : am_Mi := (⟨"NamesOnLoan$Changes", "mayGoBack", "()I"⟩, prog_3_method_4_code, 1, some .int, 1, 0, [841, 839, 840, 88])
def iX1_goBack : am_Mi := (⟨"NamesOnLoan$Changes", "goBack", "(LNamesOnLoan$Folk;)I"⟩, prog_3_method_6_code, 2, some .int, 1, 1, [845, 843, 844, 88])
def iX8_redo : am_Mi := (⟨"NamesOnLoan", "redo", "()I"⟩, prog_1_method_48_code, 1, some .int, 1, 0, [850, 848, 849, 82])
def iX1_mayGoOn : am_Mi := (⟨"NamesOnLoan$Changes", "mayGoOn", "()I"⟩, prog_3_method_5_code, 1, some .int, 1, 0, [854, 852, 853, 88])
def iX1_goOn : am_Mi := (⟨"NamesOnLoan$Changes", "goOn", "(LNamesOnLoan$Folk;)I"⟩, prog_3_method_7_code, 2, some .int, 1, 1, [858, 856, 857, 88])
def iX8_body : am_Mi := (⟨"NamesOnLoan", "body", "(I)I"⟩, prog_1_method_49_code, 2, some .int, 1, 1, [862, 860, 861, 82])
def iX0_isKind : am_Mi := (⟨"NamesOnLoan$Acts", "isKind", "(I)Z"⟩, prog_2_method_2_code, 1, some .boolean, 0, 1, [865, 864, 89])
def iX0_isFull : am_Mi := (⟨"NamesOnLoan$Acts", "isFull", "()Z"⟩, prog_2_method_3_code, 1, some .boolean, 1, 0, [869, 867, 868, 89])
def iX0_add : am_Mi := (⟨"NamesOnLoan$Acts", "add", "(I)I"⟩, prog_2_method_7_code, 2, some .int, 1, 1, [873, 871, 872, 89])
def iX8_act : am_Mi := (⟨"NamesOnLoan", "act", "(III)I"⟩, prog_1_method_50_code, 4, some .int, 1, 3, [877, 875, 876, 82])
def iX0_start : am_Mi := (⟨"NamesOnLoan$Acts", "start", "(III)I"⟩, prog_2_method_12_code, 4, some .int, 1, 3, [881, 879, 880, 89])
def iX0_has : am_Mi := (⟨"NamesOnLoan$Acts", "has", "(I)Z"⟩, prog_2_method_4_code, 2, some .boolean, 1, 1, [885, 883, 884, 89])
def iX0_own : am_Mi := (⟨"NamesOnLoan$Acts", "own", "(III)I"⟩, prog_2_method_13_code, 4, some .int, 1, 3, [889, 888, 32, 89])
def am_ms1 : List am_Mi := [iX7_has, iX8_costAfter, iX8_threesNotSo, iX5_size, iX8_isSo, iX7_setCost, iX7_placeOf, iX7_total, iX7_fits, iX7_cost, iX7_markFirst, iX7_goOn, iX7_firstWearer, iX8_fewest, iX7_wearers, iX8_thaws, iX8_minutesOfThaw, iX2_minuteHome, iX8_ring, iX8_crowd, iX8_letter, iJ6_bitCount_0f7a4, iX8_owe, iX2_debtOf, iX2_setDebt, iX8_debt, iX8_allThatSleeps, iX2_sleeps, iX8_doors, iX8_gainOfExchange, iX8_leftWith, iX8_judge, iX8_refusalOfBytes, iX8_isThree, iX8_wore, iX8_areThrees, iX8_waysThatMakeSo, iX8_drawn, iX8_fillRatesByCold, iX2_copyLeft, iX8_drawWinter, iX8_lend, iX2_lendTo, iX8_pass, iX2_setLeft, iX2_addDays, iX8_thaw, iX2_bringHome, iX8_led, iX2_days, iX2_lendings, iX2_homecomings, iX8_burntNow, iX8_image, iX2_copyFrom, iX8_back, iX8_undo, iX1_mayGoBack, iX1_goBack, iX8_redo, iX1_mayGoOn, iX1_goOn, iX8_body, iX0_isKind, iX0_isFull, iX0_add, iX8_act, iX0_start, iX0_has, iX0_own]
def iX0_kindOf : am_Mi := (⟨"NamesOnLoan$Acts", "kindOf", "(I)I"⟩, prog_2_method_8_code, 2, some .int, 1, 1, [893, 891, 892, 89])
def iX0_from : am_Mi := (⟨"NamesOnLoan$Acts", "from", "(IIII)I"⟩, prog_2_method_14_code, 7, some .int, 1, 4, [897, 896, 33, 89])
def iX0_note : am_Mi := (⟨"NamesOnLoan$Acts", "note", "(I)V"⟩, prog_2_method_15_code, 2, none, 1, 1, [906, 905, 34, 89])
def iX0_runOfName : am_Mi := (⟨"NamesOnLoan$Acts", "runOfName", "(III)I"⟩, prog_2_method_16_code, 4, some .int, 1, 3, [910, 909, 35, 89])
def iX0_runUnder : am_Mi := (⟨"NamesOnLoan$Acts", "runUnder", "(IIIII)I"⟩, prog_2_method_17_code, 7, some .int, 1, 5, [914, 913, 36, 89])
def iX8_trace : am_Mi := (⟨"NamesOnLoan", "trace", "(I)I"⟩, prog_1_method_51_code, 2, some .int, 1, 1, [918, 916, 917, 82])
def iX0_hasTrace : am_Mi := (⟨"NamesOnLoan$Acts", "hasTrace", "(I)Z"⟩, prog_2_method_10_code, 2, some .boolean, 1, 1, [922, 920, 921, 89])
def iX0_traced : am_Mi := (⟨"NamesOnLoan$Acts", "traced", "(I)I"⟩, prog_2_method_11_code, 2, some .int, 1, 1, [927, 925, 926, 89])
def iX8_keep : am_Mi := (⟨"NamesOnLoan", "keep", "(II)I"⟩, prog_1_method_52_code, 3, some .int, 1, 2, [932, 930, 931, 82])
def iX5_holdNothing : am_Mi := (⟨"NamesOnLoan$Shelf", "holdNothing", "()V"⟩, prog_7_method_10_code, 1, none, 1, 0, [937, 935, 936, 90])
def iX5_holdName : am_Mi := (⟨"NamesOnLoan$Shelf", "holdName", "(I)V"⟩, prog_7_method_11_code, 2, none, 1, 1, [941, 939, 940, 90])
def iX8_row : am_Mi := (⟨"NamesOnLoan", "row", "(III)I"⟩, prog_1_method_53_code, 4, some .int, 1, 3, [945, 943, 944, 82])
def iX5_isSort : am_Mi := (⟨"NamesOnLoan$Shelf", "isSort", "(I)Z"⟩, prog_7_method_2_code, 1, some .boolean, 0, 1, [948, 947, 90])
def iX5_holdRow : am_Mi := (⟨"NamesOnLoan$Shelf", "holdRow", "(II)V"⟩, prog_7_method_12_code, 4, none, 1, 2, [952, 950, 951, 90])
def iX8_put : am_Mi := (⟨"NamesOnLoan", "put", "(IIJ)I"⟩, prog_1_method_54_code, 6, some .int, 1, 3, [958, 956, 957, 82])
def iX8_refusalOfPlace : am_Mi := (⟨"NamesOnLoan", "refusalOfPlace", "(II)I"⟩, prog_1_method_68_code, 3, some .int, 1, 2, [962, 961, 37, 82])
def iX5_isRow : am_Mi := (⟨"NamesOnLoan$Shelf", "isRow", "()Z"⟩, prog_7_method_5_code, 1, some .boolean, 1, 0, [966, 964, 965, 90])
def iX5_set : am_Mi := (⟨"NamesOnLoan$Shelf", "set", "(IJ)V"⟩, prog_7_method_16_code, 4, none, 1, 2, [970, 968, 969, 90])
def iX5_cut : am_Mi := (⟨"NamesOnLoan$Shelf", "cut", "(J)J"⟩, prog_7_method_17_code, 3, some .long, 1, 1, [974, 973, 38, 90])
def iX8_element : am_Mi := (⟨"NamesOnLoan", "element", "(II)J"⟩, prog_1_method_55_code, 3, some .long, 1, 2, [978, 976, 977, 82])
def iX5_get : am_Mi := (⟨"NamesOnLoan$Shelf", "get", "(I)J"⟩, prog_7_method_14_code, 2, some .long, 1, 1, [982, 980, 981, 90])
def iX8_shift : am_Mi := (⟨"NamesOnLoan", "shift", "(IIIII)I"⟩, prog_1_method_56_code, 8, some .int, 1, 5, [987, 985, 986, 82])
def iX5_isLike : am_Mi := (⟨"NamesOnLoan$Shelf", "isLike", "(LNamesOnLoan$Shelf;)Z"⟩, prog_7_method_7_code, 2, some .boolean, 1, 1, [991, 989, 990, 90])
def iX5_setAll : am_Mi := (⟨"NamesOnLoan$Shelf", "setAll", "(ILNamesOnLoan$Shelf;II)V"⟩, prog_7_method_18_code, 5, none, 1, 4, [995, 993, 994, 90])
def iX8_taken : am_Mi := (⟨"NamesOnLoan", "taken", "(II)I"⟩, prog_1_method_57_code, 4, some .int, 1, 2, [1000, 998, 999, 82])
def iX5_isName : am_Mi := (⟨"NamesOnLoan$Shelf", "isName", "()Z"⟩, prog_7_method_4_code, 1, some .boolean, 1, 0, [1004, 1002, 1003, 90])
def iX5_name : am_Mi := (⟨"NamesOnLoan$Shelf", "name", "()I"⟩, prog_7_method_8_code, 1, some .int, 1, 0, [1008, 1006, 1007, 90])
def iX0_isUnder : am_Mi := (⟨"NamesOnLoan$Acts", "isUnder", "(II)Z"⟩, prog_2_method_9_code, 5, some .boolean, 1, 2, [1012, 1010, 1011, 89])
def iX8_count : am_Mi := (⟨"NamesOnLoan", "count", "(I)I"⟩, prog_1_method_58_code, 2, some .int, 1, 1, [1017, 1015, 1016, 82])
def iX2_given : am_Mi := (⟨"NamesOnLoan$Deeds", "given", "()I"⟩, prog_4_method_9_code, 3, some .int, 1, 0, [1021, 1019, 1020, 84])
def iX6_length : am_Mi := (⟨"NamesOnLoan$Tape", "length", "()I"⟩, prog_8_method_4_code, 1, some .int, 1, 0, [1025, 1023, 1024, 85])
def iX0_size : am_Mi := (⟨"NamesOnLoan$Acts", "size", "()I"⟩, prog_2_method_5_code, 1, some .int, 1, 0, [1029, 1027, 1028, 89])
def iX0_ran : am_Mi := (⟨"NamesOnLoan$Acts", "ran", "()I"⟩, prog_2_method_6_code, 1, some .int, 1, 0, [1033, 1031, 1032, 89])
def iX9_undo : am_Mi := (⟨"NamesOnLoanModel", "undo", "()I"⟩, prog_11_method_4_code, 1, some .int, 1, 0, [1180, 1178, 1179, 91])
def iX9_redo : am_Mi := (⟨"NamesOnLoanModel", "redo", "()I"⟩, prog_11_method_5_code, 1, some .int, 1, 0, [1184, 1182, 1183, 91])
def iX9_person : am_Mi := (⟨"NamesOnLoanModel", "person", "(II)I"⟩, prog_11_method_10_code, 3, some .int, 1, 2, [1188, 1186, 1187, 91])
def iX9_mayCome : am_Mi := (⟨"NamesOnLoanModel", "mayCome", "(JJJ)Z"⟩, prog_11_method_8_code, 6, some .boolean, 0, 3, [1192, 1191, 91])
def iX9_within : am_Mi := (⟨"NamesOnLoanModel", "within", "(JJJ)Z"⟩, prog_11_method_1_code, 6, some .boolean, 0, 3, [1196, 1195, 91])
def iX9_adds : am_Mi := (⟨"NamesOnLoanModel", "adds", "(III)V"⟩, prog_11_method_9_code, 4, none, 1, 3, [1200, 1199, 39, 91])
def iX9_people : am_Mi := (⟨"NamesOnLoanModel", "people", "(III)I"⟩, prog_11_method_11_code, 7, some .int, 1, 3, [1204, 1202, 1203, 91])
def iX9_isShelf : am_Mi := (⟨"NamesOnLoanModel", "isShelf", "(I)Z"⟩, prog_11_method_83_code, 1, some .boolean, 0, 1, [1207, 1206, 91])
def iX9_mend : am_Mi := (⟨"NamesOnLoanModel", "mend", "(III)I"⟩, prog_11_method_14_code, 5, some .int, 1, 3, [1213, 1211, 1212, 91])
def iX9_placeOf : am_Mi := (⟨"NamesOnLoanModel", "placeOf", "(II)I"⟩, prog_11_method_12_code, 3, some .int, 1, 2, [1217, 1216, 40, 91])
def iX9_isOne : am_Mi := (⟨"NamesOnLoanModel", "isOne", "(J)Z"⟩, prog_11_method_6_code, 3, some .boolean, 1, 1, [1222, 1221, 41, 91])
def iX9_mayBecome : am_Mi := (⟨"NamesOnLoanModel", "mayBecome", "(II)Z"⟩, prog_11_method_13_code, 2, some .boolean, 0, 2, [1225, 1224, 91])
def iX9_becomes : am_Mi := (⟨"NamesOnLoanModel", "becomes", "(II)I"⟩, prog_11_method_3_code, 5, some .int, 1, 2, [1229, 1228, 42, 91])
def iX9_of : am_Mi := (⟨"NamesOnLoanModel", "of", "(II)I"⟩, prog_11_method_16_code, 4, some .int, 1, 2, [1233, 1231, 1232, 91])
def iX9_ofOne : am_Mi := (⟨"NamesOnLoanModel", "ofOne", "(II)I"⟩, prog_11_method_7_code, 3, some .int, 1, 2, [1237, 1236, 43, 91])
def iX9_wearsMany : am_Mi := (⟨"NamesOnLoanModel", "wearsMany", "(I)I"⟩, prog_11_method_15_code, 4, some .int, 1, 1, [1241, 1240, 44, 91])
def iX9_feed : am_Mi := (⟨"NamesOnLoanModel", "feed", "(I)I"⟩, prog_11_method_17_code, 2, some .int, 1, 1, [1245, 1243, 1244, 91])
def iX9_law : am_Mi := (⟨"NamesOnLoanModel", "law", "()I"⟩, prog_11_method_29_code, 4, some .int, 1, 0, [1250, 1248, 1249, 91])
def iX9_workOut : am_Mi := (⟨"NamesOnLoanModel", "workOut", "(II)I"⟩, prog_11_method_28_code, 8, some .int, 1, 2, [1254, 1253, 45, 91])
def iX9_either : am_Mi := (⟨"NamesOnLoanModel", "either", "()I"⟩, prog_11_method_21_code, 3, some .int, 1, 0, [1258, 1257, 46, 91])
def iX9_both : am_Mi := (⟨"NamesOnLoanModel", "both", "()I"⟩, prog_11_method_22_code, 3, some .int, 1, 0, [1262, 1261, 47, 91])
def iX9_compared : am_Mi := (⟨"NamesOnLoanModel", "compared", "()I"⟩, prog_11_method_23_code, 4, some .int, 1, 0, [1266, 1265, 48, 91])
def iX9_sums : am_Mi := (⟨"NamesOnLoanModel", "sums", "()I"⟩, prog_11_method_24_code, 4, some .int, 1, 0, [1270, 1269, 49, 91])
def iX9_product : am_Mi := (⟨"NamesOnLoanModel", "product", "()I"⟩, prog_11_method_25_code, 4, some .int, 1, 0, [1274, 1273, 50, 91])
def iX9_one : am_Mi := (⟨"NamesOnLoanModel", "one", "()I"⟩, prog_11_method_27_code, 5, some .int, 1, 0, [1278, 1277, 51, 91])
def iX9_byteAt : am_Mi := (⟨"NamesOnLoanModel", "byteAt", "()I"⟩, prog_11_method_18_code, 1, some .int, 1, 0, [1282, 1281, 52, 91])
def iX9_wrong : am_Mi := (⟨"NamesOnLoanModel", "wrong", "()I"⟩, prog_11_method_19_code, 1, some .int, 1, 0, [1286, 1285, 53, 91])
def iX9_takes : am_Mi := (⟨"NamesOnLoanModel", "takes", "(I)Z"⟩, prog_11_method_20_code, 2, some .boolean, 1, 1, [1290, 1289, 54, 91])
def iX9_nameOf : am_Mi := (⟨"NamesOnLoanModel", "nameOf", "(I)I"⟩, prog_11_method_26_code, 1, some .int, 0, 1, [1293, 1292, 91])
def iX9_burns : am_Mi := (⟨"NamesOnLoanModel", "burns", "(I)I"⟩, prog_11_method_31_code, 2, some .int, 1, 1, [1297, 1295, 1296, 91])
def iX9_burnsIn : am_Mi := (⟨"NamesOnLoanModel", "burnsIn", "(II)I"⟩, prog_11_method_30_code, 9, some .int, 1, 2, [1301, 1300, 55, 91])
def iX9_left : am_Mi := (⟨"NamesOnLoanModel", "left", "(II)I"⟩, prog_11_method_39_code, 3, some .int, 1, 2, [1305, 1303, 1304, 91])
def iX9_isN : am_Mi := (⟨"NamesOnLoanModel", "isN", "(I)Z"⟩, prog_11_method_35_code, 1, some .boolean, 0, 1, [1308, 1307, 91])
def iX9_goes : am_Mi := (⟨"NamesOnLoanModel", "goes", "(I)V"⟩, prog_11_method_34_code, 3, none, 1, 1, [1313, 1312, 56, 91])
def iX9_begins1 : am_Mi := (⟨"NamesOnLoanModel", "begins1", "()V"⟩, prog_11_method_32_code, 2, none, 1, 0, [1317, 1316, 57, 91])
def iX9_day : am_Mi := (⟨"NamesOnLoanModel", "day", "(I)V"⟩, prog_11_method_33_code, 4, none, 1, 1, [1321, 1320, 58, 91])
def iX9_winter : am_Mi := (⟨"NamesOnLoanModel", "winter", "(II)I"⟩, prog_11_method_40_code, 3, some .int, 1, 2, [1325, 1323, 1324, 91])
def am_ms2 : List am_Mi := [iX0_kindOf, iX0_from, iX0_note, iX0_runOfName, iX0_runUnder, iX8_trace, iX0_hasTrace, iX0_traced, iX8_keep, iX5_holdNothing, iX5_holdName, iX8_row, iX5_isSort, iX5_holdRow, iX8_put, iX8_refusalOfPlace, iX5_isRow, iX5_set, iX5_cut, iX8_element, iX5_get, iX8_shift, iX5_isLike, iX5_setAll, iX8_taken, iX5_isName, iX5_name, iX0_isUnder, iX8_count, iX2_given, iX6_length, iX0_size, iX0_ran, iX9_undo, iX9_redo, iX9_person, iX9_mayCome, iX9_within, iX9_adds, iX9_people, iX9_isShelf, iX9_mend, iX9_placeOf, iX9_isOne, iX9_mayBecome, iX9_becomes, iX9_of, iX9_ofOne, iX9_wearsMany, iX9_feed, iX9_law, iX9_workOut, iX9_either, iX9_both, iX9_compared, iX9_sums, iX9_product, iX9_one, iX9_byteAt, iX9_wrong, iX9_takes, iX9_nameOf, iX9_burns, iX9_burnsIn, iX9_left, iX9_isN, iX9_goes, iX9_begins1, iX9_day, iX9_winter]
def iX9_crackedMany : am_Mi := (⟨"NamesOnLoanModel", "crackedMany", "()I"⟩, prog_11_method_36_code, 3, some .int, 1, 0, [1330, 1329, 59, 91])
def iX9_burntMany : am_Mi := (⟨"NamesOnLoanModel", "burntMany", "()I"⟩, prog_11_method_37_code, 3, some .int, 1, 0, [1334, 1333, 60, 91])
def iX9_leftAll : am_Mi := (⟨"NamesOnLoanModel", "leftAll", "()I"⟩, prog_11_method_38_code, 3, some .int, 1, 0, [1338, 1337, 61, 91])
def iX9_when : am_Mi := (⟨"NamesOnLoanModel", "when", "(II)I"⟩, prog_11_method_42_code, 3, some .int, 1, 2, [1342, 1340, 1341, 91])
def iX9_lessThan : am_Mi := (⟨"NamesOnLoanModel", "lessThan", "(II)I"⟩, prog_11_method_41_code, 4, some .int, 1, 2, [1346, 1345, 62, 91])
def iX9_last : am_Mi := (⟨"NamesOnLoanModel", "last", "()I"⟩, prog_11_method_43_code, 5, some .int, 1, 0, [1350, 1348, 1349, 91])
def iX9_give : am_Mi := (⟨"NamesOnLoanModel", "give", "(III)I"⟩, prog_11_method_44_code, 8, some .int, 1, 3, [1354, 1352, 1353, 91])
def iX9_allLast : am_Mi := (⟨"NamesOnLoanModel", "allLast", "(II)I"⟩, prog_11_method_49_code, 8, some .int, 1, 2, [1358, 1356, 1357, 91])
def iX9_beginsWays : am_Mi := (⟨"NamesOnLoanModel", "beginsWays", "()V"⟩, prog_11_method_45_code, 2, none, 1, 0, [1363, 1362, 63, 91])
def iX9_isWay : am_Mi := (⟨"NamesOnLoanModel", "isWay", "(I)Z"⟩, prog_11_method_47_code, 4, some .boolean, 1, 1, [1367, 1366, 64, 91])
def iX9_keepsWay : am_Mi := (⟨"NamesOnLoanModel", "keepsWay", "()V"⟩, prog_11_method_48_code, 2, none, 1, 0, [1371, 1370, 65, 91])
def iX9_endsWays : am_Mi := (⟨"NamesOnLoanModel", "endsWays", "()V"⟩, prog_11_method_46_code, 2, none, 1, 0, [1375, 1374, 66, 91])
def iX9_fewest : am_Mi := (⟨"NamesOnLoanModel", "fewest", "(I)I"⟩, prog_11_method_50_code, 6, some .int, 1, 1, [1379, 1377, 1378, 91])
def iX9_thaws : am_Mi := (⟨"NamesOnLoanModel", "thaws", "(I)I"⟩, prog_11_method_53_code, 2, some .int, 1, 1, [1383, 1381, 1382, 91])
def iX9_thawMinutes : am_Mi := (⟨"NamesOnLoanModel", "thawMinutes", "()I"⟩, prog_11_method_52_code, 3, some .int, 1, 0, [1387, 1386, 67, 91])
def iX9_homeIn : am_Mi := (⟨"NamesOnLoanModel", "homeIn", "(I)I"⟩, prog_11_method_51_code, 5, some .int, 1, 1, [1391, 1390, 68, 91])
def iX9_ring : am_Mi := (⟨"NamesOnLoanModel", "ring", "(II)I"⟩, prog_11_method_54_code, 7, some .int, 1, 2, [1395, 1393, 1394, 91])
def iX9_crowd : am_Mi := (⟨"NamesOnLoanModel", "crowd", "(I)I"⟩, prog_11_method_55_code, 6, some .int, 1, 1, [1399, 1397, 1398, 91])
def iX9_letter : am_Mi := (⟨"NamesOnLoanModel", "letter", "(III)I"⟩, prog_11_method_56_code, 7, some .int, 1, 3, [1403, 1401, 1402, 91])
def iX9_owe : am_Mi := (⟨"NamesOnLoanModel", "owe", "(II)I"⟩, prog_11_method_57_code, 4, some .int, 1, 2, [1407, 1405, 1406, 91])
def iX9_debt : am_Mi := (⟨"NamesOnLoanModel", "debt", "(I)I"⟩, prog_11_method_59_code, 6, some .int, 1, 1, [1413, 1411, 1412, 91])
def iX9_isHome : am_Mi := (⟨"NamesOnLoanModel", "isHome", "(I)Z"⟩, prog_11_method_58_code, 2, some .boolean, 1, 1, [1417, 1416, 69, 91])
def iX9_doors : am_Mi := (⟨"NamesOnLoanModel", "doors", "(I)I"⟩, prog_11_method_60_code, 8, some .int, 1, 1, [1421, 1419, 1420, 91])
def iX9_judge : am_Mi := (⟨"NamesOnLoanModel", "judge", "(I)I"⟩, prog_11_method_63_code, 2, some .int, 1, 1, [1425, 1423, 1424, 91])
def iX9_bytesIs : am_Mi := (⟨"NamesOnLoanModel", "bytesIs", "(I)I"⟩, prog_11_method_61_code, 2, some .int, 1, 1, [1429, 1428, 70, 91])
def iX9_firstFalse : am_Mi := (⟨"NamesOnLoanModel", "firstFalse", "(I)I"⟩, prog_11_method_62_code, 5, some .int, 1, 1, [1433, 1432, 71, 91])
def iX9_wore : am_Mi := (⟨"NamesOnLoanModel", "wore", "(II)I"⟩, prog_11_method_64_code, 4, some .int, 1, 2, [1437, 1435, 1436, 91])
def iX9_drawn : am_Mi := (⟨"NamesOnLoanModel", "drawn", "(III)I"⟩, prog_11_method_65_code, 8, some .int, 1, 3, [1441, 1439, 1440, 91])
def iX9_lend : am_Mi := (⟨"NamesOnLoanModel", "lend", "(II)I"⟩, prog_11_method_66_code, 4, some .int, 1, 2, [1447, 1445, 1446, 91])
def iX9_pass : am_Mi := (⟨"NamesOnLoanModel", "pass", "(I)I"⟩, prog_11_method_67_code, 3, some .int, 1, 1, [1451, 1449, 1450, 91])
def iX9_thaw : am_Mi := (⟨"NamesOnLoanModel", "thaw", "()I"⟩, prog_11_method_68_code, 3, some .int, 1, 0, [1455, 1453, 1454, 91])
def iX9_led : am_Mi := (⟨"NamesOnLoanModel", "led", "(I)I"⟩, prog_11_method_69_code, 2, some .int, 1, 1, [1459, 1457, 1458, 91])
def iX9_image : am_Mi := (⟨"NamesOnLoanModel", "image", "()I"⟩, prog_11_method_70_code, 2, some .int, 1, 0, [1463, 1461, 1462, 91])
def iX9_back : am_Mi := (⟨"NamesOnLoanModel", "back", "()I"⟩, prog_11_method_71_code, 2, some .int, 1, 0, [1468, 1466, 1467, 91])
def iX9_body : am_Mi := (⟨"NamesOnLoanModel", "body", "(I)I"⟩, prog_11_method_74_code, 2, some .int, 1, 1, [1472, 1470, 1471, 91])
def iX9_act : am_Mi := (⟨"NamesOnLoanModel", "act", "(III)I"⟩, prog_11_method_81_code, 4, some .int, 1, 3, [1477, 1475, 1476, 91])
def iX9_isBody : am_Mi := (⟨"NamesOnLoanModel", "isBody", "(I)Z"⟩, prog_11_method_72_code, 2, some .boolean, 1, 1, [1481, 1480, 72, 91])
def iX9_wearsAs : am_Mi := (⟨"NamesOnLoanModel", "wearsAs", "(II)I"⟩, prog_11_method_77_code, 3, some .int, 1, 2, [1485, 1484, 73, 91])
def iX9_begins : am_Mi := (⟨"NamesOnLoanModel", "begins", "(I)V"⟩, prog_11_method_76_code, 2, none, 1, 1, [1489, 1488, 74, 91])
def iX9_freezesAs : am_Mi := (⟨"NamesOnLoanModel", "freezesAs", "(II)I"⟩, prog_11_method_78_code, 4, some .int, 1, 2, [1493, 1492, 75, 91])
def iX9_callsAs : am_Mi := (⟨"NamesOnLoanModel", "callsAs", "(II)I"⟩, prog_11_method_79_code, 4, some .int, 1, 2, [1497, 1496, 76, 91])
def iX9_tellsAs : am_Mi := (⟨"NamesOnLoanModel", "tellsAs", "(II)I"⟩, prog_11_method_80_code, 4, some .int, 1, 2, [1501, 1500, 77, 91])
def iX9_trace : am_Mi := (⟨"NamesOnLoanModel", "trace", "(I)I"⟩, prog_11_method_82_code, 2, some .int, 1, 1, [1505, 1503, 1504, 91])
def iX9_keep : am_Mi := (⟨"NamesOnLoanModel", "keep", "(II)I"⟩, prog_11_method_84_code, 3, some .int, 1, 2, [1509, 1507, 1508, 91])
def iX9_row : am_Mi := (⟨"NamesOnLoanModel", "row", "(III)I"⟩, prog_11_method_85_code, 5, some .int, 1, 3, [1513, 1511, 1512, 91])
def iX9_put : am_Mi := (⟨"NamesOnLoanModel", "put", "(IIJ)I"⟩, prog_11_method_88_code, 6, some .int, 1, 3, [1517, 1515, 1516, 91])
def iX9_refusal : am_Mi := (⟨"NamesOnLoanModel", "refusal", "(II)I"⟩, prog_11_method_86_code, 3, some .int, 1, 2, [1521, 1520, 78, 91])
def iX9_asSort : am_Mi := (⟨"NamesOnLoanModel", "asSort", "(IJ)J"⟩, prog_11_method_87_code, 3, some .long, 0, 2, [1524, 1523, 91])
def iX9_element : am_Mi := (⟨"NamesOnLoanModel", "element", "(II)J"⟩, prog_11_method_89_code, 3, some .long, 1, 2, [1528, 1526, 1527, 91])
def iX9_shift : am_Mi := (⟨"NamesOnLoanModel", "shift", "(IIIII)I"⟩, prog_11_method_90_code, 7, some .int, 1, 5, [1533, 1531, 1532, 91])
def iX9_taken : am_Mi := (⟨"NamesOnLoanModel", "taken", "(II)I"⟩, prog_11_method_91_code, 4, some .int, 1, 2, [1537, 1535, 1536, 91])
def iX9_kindOf : am_Mi := (⟨"NamesOnLoanModel", "kindOf", "(I)I"⟩, prog_11_method_73_code, 2, some .int, 1, 1, [1541, 1540, 79, 91])
def iX9_above : am_Mi := (⟨"NamesOnLoanModel", "above", "(I)I"⟩, prog_11_method_75_code, 1, some .int, 0, 1, [1544, 1543, 91])
def iX9_count : am_Mi := (⟨"NamesOnLoanModel", "count", "(I)I"⟩, prog_11_method_92_code, 2, some .int, 1, 1, [1548, 1546, 1547, 91])
def iX9_givenMany : am_Mi := (⟨"NamesOnLoanModel", "givenMany", "()I"⟩, prog_11_method_93_code, 3, some .int, 1, 0, [1552, 1551, 80, 91])
def am_ms3 : List am_Mi := [iX9_crackedMany, iX9_burntMany, iX9_leftAll, iX9_when, iX9_lessThan, iX9_last, iX9_give, iX9_allLast, iX9_beginsWays, iX9_isWay, iX9_keepsWay, iX9_endsWays, iX9_fewest, iX9_thaws, iX9_thawMinutes, iX9_homeIn, iX9_ring, iX9_crowd, iX9_letter, iX9_owe, iX9_debt, iX9_isHome, iX9_doors, iX9_judge, iX9_bytesIs, iX9_firstFalse, iX9_wore, iX9_drawn, iX9_lend, iX9_pass, iX9_thaw, iX9_led, iX9_image, iX9_back, iX9_body, iX9_act, iX9_isBody, iX9_wearsAs, iX9_begins, iX9_freezesAs, iX9_callsAs, iX9_tellsAs, iX9_trace, iX9_keep, iX9_row, iX9_put, iX9_refusal, iX9_asSort, iX9_element, iX9_shift, iX9_taken, iX9_kindOf, iX9_above, iX9_count, iX9_givenMany]
def am_ms : List am_Mi := am_ms0 ++ (am_ms1 ++ (am_ms2 ++ (am_ms3)))
def am_sts : List (String × String) := [("", ""), ("NamesOnLoan$Folk", "LOWEST"), ("NamesOnLoan$Folk", "HIGHEST"), ("NamesOnLoan$Acts", "ABOVE"), ("NamesOnLoan$Acts", "BODIES")]
