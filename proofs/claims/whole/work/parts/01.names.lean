/-- a private method of a class that the tables say can be made, by its rows of tables_1 -/
def lw_okq (q : MethodName × Nat) : Prop := (q.1.cls ≠ "java/lang/invoke/MethodHandle" ∧ q.1.cls ≠ "java/lang/invoke/VarHandle") ∧ Cond.instantiable q.1.cls q.2 ∈ tables_1 ∧ Cond.privateMethod q.1 ∈ tables_1 ∧ Cond.instanceMethod q.1 ∈ tables_1
theorem lw_p0 : lw_okq (⟨"BerthAges", "laidOut", "(LBerthAges$Sheets;III)I"⟩, 11) := ⟨⟨by decide +kernel, by decide +kernel⟩, List.mem_of_getElem? (i := 14) (by decide +kernel), List.mem_of_getElem? (i := 279) (by decide +kernel), List.mem_of_getElem? (i := 280) (by decide +kernel)⟩
theorem lw_p1 : lw_okq (⟨"BerthAges", "refuse", "(I)I"⟩, 11) := ⟨⟨by decide +kernel, by decide +kernel⟩, List.mem_of_getElem? (i := 14) (by decide +kernel), List.mem_of_getElem? (i := 287) (by decide +kernel), List.mem_of_getElem? (i := 288) (by decide +kernel)⟩
theorem lw_p2 : lw_okq (⟨"BerthAges", "refusalOfPlace", "(LBerthAges$Sheets;II)I"⟩, 11) := ⟨⟨by decide +kernel, by decide +kernel⟩, List.mem_of_getElem? (i := 14) (by decide +kernel), List.mem_of_getElem? (i := 300) (by decide +kernel), List.mem_of_getElem? (i := 301) (by decide +kernel)⟩
theorem lw_p3 : lw_okq (⟨"BerthAges", "refusalOfSheet", "(LBerthAges$Sheets;I)I"⟩, 11) := ⟨⟨by decide +kernel, by decide +kernel⟩, List.mem_of_getElem? (i := 14) (by decide +kernel), List.mem_of_getElem? (i := 304) (by decide +kernel), List.mem_of_getElem? (i := 305) (by decide +kernel)⟩
theorem lw_p4 : lw_okq (⟨"BerthAges$Fleet", "skipBlanks", "([II)V"⟩, 9) := ⟨⟨by decide +kernel, by decide +kernel⟩, List.mem_of_getElem? (i := 59) (by decide +kernel), List.mem_of_getElem? (i := 369) (by decide +kernel), List.mem_of_getElem? (i := 370) (by decide +kernel)⟩
theorem lw_p5 : lw_okq (⟨"BerthAges$Fleet", "signHere", "([II)I"⟩, 9) := ⟨⟨by decide +kernel, by decide +kernel⟩, List.mem_of_getElem? (i := 59) (by decide +kernel), List.mem_of_getElem? (i := 373) (by decide +kernel), List.mem_of_getElem? (i := 374) (by decide +kernel)⟩
theorem lw_p6 : lw_okq (⟨"BerthAges$Fleet", "readHead", "([II)Z"⟩, 9) := ⟨⟨by decide +kernel, by decide +kernel⟩, List.mem_of_getElem? (i := 59) (by decide +kernel), List.mem_of_getElem? (i := 377) (by decide +kernel), List.mem_of_getElem? (i := 378) (by decide +kernel)⟩
theorem lw_p7 : lw_okq (⟨"BerthAges$Fleet", "readTwoFigures", "([II)I"⟩, 9) := ⟨⟨by decide +kernel, by decide +kernel⟩, List.mem_of_getElem? (i := 59) (by decide +kernel), List.mem_of_getElem? (i := 381) (by decide +kernel), List.mem_of_getElem? (i := 382) (by decide +kernel)⟩
theorem lw_p8 : lw_okq (⟨"BerthAges$Fleet", "readFigure", "([III)I"⟩, 9) := ⟨⟨by decide +kernel, by decide +kernel⟩, List.mem_of_getElem? (i := 59) (by decide +kernel), List.mem_of_getElem? (i := 385) (by decide +kernel), List.mem_of_getElem? (i := 386) (by decide +kernel)⟩
theorem lw_p9 : lw_okq (⟨"BerthAges$Fleet", "readShip", "([II)Z"⟩, 9) := ⟨⟨by decide +kernel, by decide +kernel⟩, List.mem_of_getElem? (i := 59) (by decide +kernel), List.mem_of_getElem? (i := 389) (by decide +kernel), List.mem_of_getElem? (i := 390) (by decide +kernel)⟩
theorem lw_p10 : lw_okq (⟨"BerthAges$Harbour", "settle", "()V"⟩, 12) := ⟨⟨by decide +kernel, by decide +kernel⟩, List.mem_of_getElem? (i := 53) (by decide +kernel), List.mem_of_getElem? (i := 408) (by decide +kernel), List.mem_of_getElem? (i := 409) (by decide +kernel)⟩
theorem lw_p11 : lw_okq (⟨"BerthAges$Harbour", "isAhead", "(IIII)Z"⟩, 12) := ⟨⟨by decide +kernel, by decide +kernel⟩, List.mem_of_getElem? (i := 53) (by decide +kernel), List.mem_of_getElem? (i := 427) (by decide +kernel), List.mem_of_getElem? (i := 428) (by decide +kernel)⟩
theorem lw_p12 : lw_okq (⟨"BerthAges$Harbour", "aheadIn", "(III)I"⟩, 12) := ⟨⟨by decide +kernel, by decide +kernel⟩, List.mem_of_getElem? (i := 53) (by decide +kernel), List.mem_of_getElem? (i := 471) (by decide +kernel), List.mem_of_getElem? (i := 472) (by decide +kernel)⟩
theorem lw_p13 : lw_okq (⟨"BerthAges", "moved", "(IZ)I"⟩, 11) := ⟨⟨by decide +kernel, by decide +kernel⟩, List.mem_of_getElem? (i := 14) (by decide +kernel), List.mem_of_getElem? (i := 488) (by decide +kernel), List.mem_of_getElem? (i := 489) (by decide +kernel)⟩
theorem lw_p14 : lw_okq (⟨"BerthAges$Harbour", "move", "(I)I"⟩, 12) := ⟨⟨by decide +kernel, by decide +kernel⟩, List.mem_of_getElem? (i := 53) (by decide +kernel), List.mem_of_getElem? (i := 505) (by decide +kernel), List.mem_of_getElem? (i := 506) (by decide +kernel)⟩
theorem lw_p15 : lw_okq (⟨"BerthAges$Harbour", "runAground", "(I)I"⟩, 12) := ⟨⟨by decide +kernel, by decide +kernel⟩, List.mem_of_getElem? (i := 53) (by decide +kernel), List.mem_of_getElem? (i := 517) (by decide +kernel), List.mem_of_getElem? (i := 518) (by decide +kernel)⟩
def lw_privs_1 : List (MethodName × Nat) := [(⟨"BerthAges", "laidOut", "(LBerthAges$Sheets;III)I"⟩, 11), (⟨"BerthAges", "refuse", "(I)I"⟩, 11), (⟨"BerthAges", "refusalOfPlace", "(LBerthAges$Sheets;II)I"⟩, 11), (⟨"BerthAges", "refusalOfSheet", "(LBerthAges$Sheets;I)I"⟩, 11), (⟨"BerthAges$Fleet", "skipBlanks", "([II)V"⟩, 9), (⟨"BerthAges$Fleet", "signHere", "([II)I"⟩, 9), (⟨"BerthAges$Fleet", "readHead", "([II)Z"⟩, 9), (⟨"BerthAges$Fleet", "readTwoFigures", "([II)I"⟩, 9), (⟨"BerthAges$Fleet", "readFigure", "([III)I"⟩, 9), (⟨"BerthAges$Fleet", "readShip", "([II)Z"⟩, 9), (⟨"BerthAges$Harbour", "settle", "()V"⟩, 12), (⟨"BerthAges$Harbour", "isAhead", "(IIII)Z"⟩, 12), (⟨"BerthAges$Harbour", "aheadIn", "(III)I"⟩, 12), (⟨"BerthAges", "moved", "(IZ)I"⟩, 11), (⟨"BerthAges$Harbour", "move", "(I)I"⟩, 12), (⟨"BerthAges$Harbour", "runAground", "(I)I"⟩, 12)]
theorem lw_r1 : ∀ q ∈ lw_privs_1, lw_okq q := List.forall_mem_cons.mpr ⟨lw_p0, List.forall_mem_cons.mpr ⟨lw_p1, List.forall_mem_cons.mpr ⟨lw_p2, List.forall_mem_cons.mpr ⟨lw_p3, List.forall_mem_cons.mpr ⟨lw_p4, List.forall_mem_cons.mpr ⟨lw_p5, List.forall_mem_cons.mpr ⟨lw_p6, List.forall_mem_cons.mpr ⟨lw_p7, List.forall_mem_cons.mpr ⟨lw_p8, List.forall_mem_cons.mpr ⟨lw_p9, List.forall_mem_cons.mpr ⟨lw_p10, List.forall_mem_cons.mpr ⟨lw_p11, List.forall_mem_cons.mpr ⟨lw_p12, List.forall_mem_cons.mpr ⟨lw_p13, List.forall_mem_cons.mpr ⟨lw_p14, List.forall_mem_cons.mpr ⟨lw_p15, fun _ h => absurd h List.not_mem_nil⟩⟩⟩⟩⟩⟩⟩⟩⟩⟩⟩⟩⟩⟩⟩⟩
theorem lw_p16 : lw_okq (⟨"BerthAges$Queue", "seek", "(I)V"⟩, 11) := ⟨⟨by decide +kernel, by decide +kernel⟩, List.mem_of_getElem? (i := 160) (by decide +kernel), List.mem_of_getElem? (i := 593) (by decide +kernel), List.mem_of_getElem? (i := 594) (by decide +kernel)⟩
theorem lw_p17 : lw_okq (⟨"BerthAges$Queue", "isBetter", "()Z"⟩, 11) := ⟨⟨by decide +kernel, by decide +kernel⟩, List.mem_of_getElem? (i := 160) (by decide +kernel), List.mem_of_getElem? (i := 597) (by decide +kernel), List.mem_of_getElem? (i := 598) (by decide +kernel)⟩
theorem lw_p18 : lw_okq (⟨"BerthAges$Queue", "keepPath", "(I)V"⟩, 11) := ⟨⟨by decide +kernel, by decide +kernel⟩, List.mem_of_getElem? (i := 160) (by decide +kernel), List.mem_of_getElem? (i := 601) (by decide +kernel), List.mem_of_getElem? (i := 602) (by decide +kernel)⟩
theorem lw_p19 : lw_okq (⟨"BerthAges$Queue", "seekBehind", "(II)V"⟩, 11) := ⟨⟨by decide +kernel, by decide +kernel⟩, List.mem_of_getElem? (i := 160) (by decide +kernel), List.mem_of_getElem? (i := 606) (by decide +kernel), List.mem_of_getElem? (i := 607) (by decide +kernel)⟩
theorem lw_p20 : lw_okq (⟨"BerthAges", "refusalOfShips", "(II)I"⟩, 11) := ⟨⟨by decide +kernel, by decide +kernel⟩, List.mem_of_getElem? (i := 14) (by decide +kernel), List.mem_of_getElem? (i := 619) (by decide +kernel), List.mem_of_getElem? (i := 620) (by decide +kernel)⟩
theorem lw_p21 : lw_okq (⟨"BerthAges", "refusalOfPairs", "(II)I"⟩, 11) := ⟨⟨by decide +kernel, by decide +kernel⟩, List.mem_of_getElem? (i := 14) (by decide +kernel), List.mem_of_getElem? (i := 660) (by decide +kernel), List.mem_of_getElem? (i := 661) (by decide +kernel)⟩
theorem lw_p22 : lw_okq (⟨"BerthAges", "possibleKinds", "(II)I"⟩, 11) := ⟨⟨by decide +kernel, by decide +kernel⟩, List.mem_of_getElem? (i := 14) (by decide +kernel), List.mem_of_getElem? (i := 664) (by decide +kernel), List.mem_of_getElem? (i := 665) (by decide +kernel)⟩
theorem lw_p23 : lw_okq (⟨"BerthAges", "fitsPairs", "(III)Z"⟩, 11) := ⟨⟨by decide +kernel, by decide +kernel⟩, List.mem_of_getElem? (i := 14) (by decide +kernel), List.mem_of_getElem? (i := 668) (by decide +kernel), List.mem_of_getElem? (i := 669) (by decide +kernel)⟩
theorem lw_p24 : lw_okq (⟨"BerthAges$Harbour", "alike", "(IIII)I"⟩, 12) := ⟨⟨by decide +kernel, by decide +kernel⟩, List.mem_of_getElem? (i := 53) (by decide +kernel), List.mem_of_getElem? (i := 681) (by decide +kernel), List.mem_of_getElem? (i := 682) (by decide +kernel)⟩
theorem lw_p25 : lw_okq (⟨"BerthAges$Match", "worthAtEnd", "(I)I"⟩, 3) := ⟨⟨by decide +kernel, by decide +kernel⟩, List.mem_of_getElem? (i := 206) (by decide +kernel), List.mem_of_getElem? (i := 693) (by decide +kernel), List.mem_of_getElem? (i := 694) (by decide +kernel)⟩
theorem lw_p26 : lw_okq (⟨"BerthAges$Match", "worthBefore", "(II)I"⟩, 3) := ⟨⟨by decide +kernel, by decide +kernel⟩, List.mem_of_getElem? (i := 206) (by decide +kernel), List.mem_of_getElem? (i := 699) (by decide +kernel), List.mem_of_getElem? (i := 700) (by decide +kernel)⟩
theorem lw_p27 : lw_okq (⟨"BerthAges$Chance", "spread", "(II)V"⟩, 3) := ⟨⟨by decide +kernel, by decide +kernel⟩, List.mem_of_getElem? (i := 222) (by decide +kernel), List.mem_of_getElem? (i := 718) (by decide +kernel), List.mem_of_getElem? (i := 719) (by decide +kernel)⟩
theorem lw_p28 : lw_okq (⟨"BerthAges$Chance", "tellInLowestTerms", "(JJ)V"⟩, 3) := ⟨⟨by decide +kernel, by decide +kernel⟩, List.mem_of_getElem? (i := 222) (by decide +kernel), List.mem_of_getElem? (i := 726) (by decide +kernel), List.mem_of_getElem? (i := 727) (by decide +kernel)⟩
theorem lw_p29 : lw_okq (⟨"BerthAges", "counted", "(I)I"⟩, 11) := ⟨⟨by decide +kernel, by decide +kernel⟩, List.mem_of_getElem? (i := 14) (by decide +kernel), List.mem_of_getElem? (i := 764) (by decide +kernel), List.mem_of_getElem? (i := 765) (by decide +kernel)⟩
theorem lw_p30 : lw_okq (⟨"BerthAgesModel", "finds", "(I)I"⟩, 21) := ⟨⟨by decide +kernel, by decide +kernel⟩, List.mem_of_getElem? (i := 800) (by decide +kernel), List.mem_of_getElem? (i := 881) (by decide +kernel), List.mem_of_getElem? (i := 882) (by decide +kernel)⟩
theorem lw_p31 : lw_okq (⟨"BerthAgesModel", "lays", "(II)V"⟩, 21) := ⟨⟨by decide +kernel, by decide +kernel⟩, List.mem_of_getElem? (i := 800) (by decide +kernel), List.mem_of_getElem? (i := 885) (by decide +kernel), List.mem_of_getElem? (i := 886) (by decide +kernel)⟩
def lw_privs_2 : List (MethodName × Nat) := [(⟨"BerthAges$Queue", "seek", "(I)V"⟩, 11), (⟨"BerthAges$Queue", "isBetter", "()Z"⟩, 11), (⟨"BerthAges$Queue", "keepPath", "(I)V"⟩, 11), (⟨"BerthAges$Queue", "seekBehind", "(II)V"⟩, 11), (⟨"BerthAges", "refusalOfShips", "(II)I"⟩, 11), (⟨"BerthAges", "refusalOfPairs", "(II)I"⟩, 11), (⟨"BerthAges", "possibleKinds", "(II)I"⟩, 11), (⟨"BerthAges", "fitsPairs", "(III)Z"⟩, 11), (⟨"BerthAges$Harbour", "alike", "(IIII)I"⟩, 12), (⟨"BerthAges$Match", "worthAtEnd", "(I)I"⟩, 3), (⟨"BerthAges$Match", "worthBefore", "(II)I"⟩, 3), (⟨"BerthAges$Chance", "spread", "(II)V"⟩, 3), (⟨"BerthAges$Chance", "tellInLowestTerms", "(JJ)V"⟩, 3), (⟨"BerthAges", "counted", "(I)I"⟩, 11), (⟨"BerthAgesModel", "finds", "(I)I"⟩, 21), (⟨"BerthAgesModel", "lays", "(II)V"⟩, 21)]
theorem lw_r2 : ∀ q ∈ lw_privs_2, lw_okq q := List.forall_mem_cons.mpr ⟨lw_p16, List.forall_mem_cons.mpr ⟨lw_p17, List.forall_mem_cons.mpr ⟨lw_p18, List.forall_mem_cons.mpr ⟨lw_p19, List.forall_mem_cons.mpr ⟨lw_p20, List.forall_mem_cons.mpr ⟨lw_p21, List.forall_mem_cons.mpr ⟨lw_p22, List.forall_mem_cons.mpr ⟨lw_p23, List.forall_mem_cons.mpr ⟨lw_p24, List.forall_mem_cons.mpr ⟨lw_p25, List.forall_mem_cons.mpr ⟨lw_p26, List.forall_mem_cons.mpr ⟨lw_p27, List.forall_mem_cons.mpr ⟨lw_p28, List.forall_mem_cons.mpr ⟨lw_p29, List.forall_mem_cons.mpr ⟨lw_p30, List.forall_mem_cons.mpr ⟨lw_p31, fun _ h => absurd h List.not_mem_nil⟩⟩⟩⟩⟩⟩⟩⟩⟩⟩⟩⟩⟩⟩⟩⟩
theorem lw_p32 : lw_okq (⟨"BerthAgesModel", "tells", "(II)I"⟩, 21) := ⟨⟨by decide +kernel, by decide +kernel⟩, List.mem_of_getElem? (i := 800) (by decide +kernel), List.mem_of_getElem? (i := 897) (by decide +kernel), List.mem_of_getElem? (i := 898) (by decide +kernel)⟩
theorem lw_p33 : lw_okq (⟨"BerthAgesModel", "reads", "(I)I"⟩, 21) := ⟨⟨by decide +kernel, by decide +kernel⟩, List.mem_of_getElem? (i := 800) (by decide +kernel), List.mem_of_getElem? (i := 929) (by decide +kernel), List.mem_of_getElem? (i := 930) (by decide +kernel)⟩
theorem lw_p34 : lw_okq (⟨"BerthAgesModel", "readsHead", "(I)V"⟩, 21) := ⟨⟨by decide +kernel, by decide +kernel⟩, List.mem_of_getElem? (i := 800) (by decide +kernel), List.mem_of_getElem? (i := 933) (by decide +kernel), List.mem_of_getElem? (i := 934) (by decide +kernel)⟩
theorem lw_p35 : lw_okq (⟨"BerthAgesModel", "skips", "(I)V"⟩, 21) := ⟨⟨by decide +kernel, by decide +kernel⟩, List.mem_of_getElem? (i := 800) (by decide +kernel), List.mem_of_getElem? (i := 937) (by decide +kernel), List.mem_of_getElem? (i := 938) (by decide +kernel)⟩
theorem lw_p36 : lw_okq (⟨"BerthAgesModel", "look", "(I)I"⟩, 21) := ⟨⟨by decide +kernel, by decide +kernel⟩, List.mem_of_getElem? (i := 800) (by decide +kernel), List.mem_of_getElem? (i := 941) (by decide +kernel), List.mem_of_getElem? (i := 942) (by decide +kernel)⟩
theorem lw_p37 : lw_okq (⟨"BerthAgesModel", "years", "(I)I"⟩, 21) := ⟨⟨by decide +kernel, by decide +kernel⟩, List.mem_of_getElem? (i := 800) (by decide +kernel), List.mem_of_getElem? (i := 945) (by decide +kernel), List.mem_of_getElem? (i := 946) (by decide +kernel)⟩
theorem lw_p38 : lw_okq (⟨"BerthAgesModel", "figure", "(II)I"⟩, 21) := ⟨⟨by decide +kernel, by decide +kernel⟩, List.mem_of_getElem? (i := 800) (by decide +kernel), List.mem_of_getElem? (i := 949) (by decide +kernel), List.mem_of_getElem? (i := 950) (by decide +kernel)⟩
theorem lw_p39 : lw_okq (⟨"BerthAgesModel", "readsShip", "(I)V"⟩, 21) := ⟨⟨by decide +kernel, by decide +kernel⟩, List.mem_of_getElem? (i := 800) (by decide +kernel), List.mem_of_getElem? (i := 953) (by decide +kernel), List.mem_of_getElem? (i := 954) (by decide +kernel)⟩
theorem lw_p40 : lw_okq (⟨"BerthAgesModel", "isShip", "(I)Z"⟩, 21) := ⟨⟨by decide +kernel, by decide +kernel⟩, List.mem_of_getElem? (i := 800) (by decide +kernel), List.mem_of_getElem? (i := 971) (by decide +kernel), List.mem_of_getElem? (i := 972) (by decide +kernel)⟩
theorem lw_p41 : lw_okq (⟨"BerthAgesModel", "shipHas", "(II)I"⟩, 21) := ⟨⟨by decide +kernel, by decide +kernel⟩, List.mem_of_getElem? (i := 800) (by decide +kernel), List.mem_of_getElem? (i := 975) (by decide +kernel), List.mem_of_getElem? (i := 976) (by decide +kernel)⟩
theorem lw_p42 : lw_okq (⟨"BerthAgesModel", "of", "(II)I"⟩, 21) := ⟨⟨by decide +kernel, by decide +kernel⟩, List.mem_of_getElem? (i := 800) (by decide +kernel), List.mem_of_getElem? (i := 979) (by decide +kernel), List.mem_of_getElem? (i := 980) (by decide +kernel)⟩
theorem lw_p43 : lw_okq (⟨"BerthAgesModel", "ageNow", "(I)I"⟩, 21) := ⟨⟨by decide +kernel, by decide +kernel⟩, List.mem_of_getElem? (i := 800) (by decide +kernel), List.mem_of_getElem? (i := 983) (by decide +kernel), List.mem_of_getElem? (i := 984) (by decide +kernel)⟩
theorem lw_p44 : lw_okq (⟨"BerthAgesModel", "ageIn", "(II)I"⟩, 21) := ⟨⟨by decide +kernel, by decide +kernel⟩, List.mem_of_getElem? (i := 800) (by decide +kernel), List.mem_of_getElem? (i := 987) (by decide +kernel), List.mem_of_getElem? (i := 988) (by decide +kernel)⟩
theorem lw_p45 : lw_okq (⟨"BerthAgesModel", "berthIn", "(II)I"⟩, 21) := ⟨⟨by decide +kernel, by decide +kernel⟩, List.mem_of_getElem? (i := 800) (by decide +kernel), List.mem_of_getElem? (i := 1000) (by decide +kernel), List.mem_of_getElem? (i := 1001) (by decide +kernel)⟩
theorem lw_p46 : lw_okq (⟨"BerthAgesModel", "berthBy", "(IIII)I"⟩, 21) := ⟨⟨by decide +kernel, by decide +kernel⟩, List.mem_of_getElem? (i := 800) (by decide +kernel), List.mem_of_getElem? (i := 1004) (by decide +kernel), List.mem_of_getElem? (i := 1005) (by decide +kernel)⟩
theorem lw_p47 : lw_okq (⟨"BerthAgesModel", "isAheadBy", "(IIII)Z"⟩, 21) := ⟨⟨by decide +kernel, by decide +kernel⟩, List.mem_of_getElem? (i := 800) (by decide +kernel), List.mem_of_getElem? (i := 1008) (by decide +kernel), List.mem_of_getElem? (i := 1009) (by decide +kernel)⟩
def lw_privs_3 : List (MethodName × Nat) := [(⟨"BerthAgesModel", "tells", "(II)I"⟩, 21), (⟨"BerthAgesModel", "reads", "(I)I"⟩, 21), (⟨"BerthAgesModel", "readsHead", "(I)V"⟩, 21), (⟨"BerthAgesModel", "skips", "(I)V"⟩, 21), (⟨"BerthAgesModel", "look", "(I)I"⟩, 21), (⟨"BerthAgesModel", "years", "(I)I"⟩, 21), (⟨"BerthAgesModel", "figure", "(II)I"⟩, 21), (⟨"BerthAgesModel", "readsShip", "(I)V"⟩, 21), (⟨"BerthAgesModel", "isShip", "(I)Z"⟩, 21), (⟨"BerthAgesModel", "shipHas", "(II)I"⟩, 21), (⟨"BerthAgesModel", "of", "(II)I"⟩, 21), (⟨"BerthAgesModel", "ageNow", "(I)I"⟩, 21), (⟨"BerthAgesModel", "ageIn", "(II)I"⟩, 21), (⟨"BerthAgesModel", "berthIn", "(II)I"⟩, 21), (⟨"BerthAgesModel", "berthBy", "(IIII)I"⟩, 21), (⟨"BerthAgesModel", "isAheadBy", "(IIII)Z"⟩, 21)]
theorem lw_r3 : ∀ q ∈ lw_privs_3, lw_okq q := List.forall_mem_cons.mpr ⟨lw_p32, List.forall_mem_cons.mpr ⟨lw_p33, List.forall_mem_cons.mpr ⟨lw_p34, List.forall_mem_cons.mpr ⟨lw_p35, List.forall_mem_cons.mpr ⟨lw_p36, List.forall_mem_cons.mpr ⟨lw_p37, List.forall_mem_cons.mpr ⟨lw_p38, List.forall_mem_cons.mpr ⟨lw_p39, List.forall_mem_cons.mpr ⟨lw_p40, List.forall_mem_cons.mpr ⟨lw_p41, List.forall_mem_cons.mpr ⟨lw_p42, List.forall_mem_cons.mpr ⟨lw_p43, List.forall_mem_cons.mpr ⟨lw_p44, List.forall_mem_cons.mpr ⟨lw_p45, List.forall_mem_cons.mpr ⟨lw_p46, List.forall_mem_cons.mpr ⟨lw_p47, fun _ h => absurd h List.not_mem_nil⟩⟩⟩⟩⟩⟩⟩⟩⟩⟩⟩⟩⟩⟩⟩⟩
theorem lw_p48 : lw_okq (⟨"BerthAgesModel", "markOf", "(II)I"⟩, 21) := ⟨⟨by decide +kernel, by decide +kernel⟩, List.mem_of_getElem? (i := 800) (by decide +kernel), List.mem_of_getElem? (i := 1019) (by decide +kernel), List.mem_of_getElem? (i := 1020) (by decide +kernel)⟩
theorem lw_p49 : lw_okq (⟨"BerthAgesModel", "isAhead", "(II)Z"⟩, 21) := ⟨⟨by decide +kernel, by decide +kernel⟩, List.mem_of_getElem? (i := 800) (by decide +kernel), List.mem_of_getElem? (i := 1023) (by decide +kernel), List.mem_of_getElem? (i := 1024) (by decide +kernel)⟩
theorem lw_p50 : lw_okq (⟨"BerthAgesModel", "moves", "(IZ)I"⟩, 21) := ⟨⟨by decide +kernel, by decide +kernel⟩, List.mem_of_getElem? (i := 800) (by decide +kernel), List.mem_of_getElem? (i := 1035) (by decide +kernel), List.mem_of_getElem? (i := 1036) (by decide +kernel)⟩
theorem lw_p51 : lw_okq (⟨"BerthAgesModel", "shiftedBy", "(II)I"⟩, 21) := ⟨⟨by decide +kernel, by decide +kernel⟩, List.mem_of_getElem? (i := 800) (by decide +kernel), List.mem_of_getElem? (i := 1039) (by decide +kernel), List.mem_of_getElem? (i := 1040) (by decide +kernel)⟩
theorem lw_p52 : lw_okq (⟨"BerthAgesModel", "goes", "(I)I"⟩, 21) := ⟨⟨by decide +kernel, by decide +kernel⟩, List.mem_of_getElem? (i := 800) (by decide +kernel), List.mem_of_getElem? (i := 1046) (by decide +kernel), List.mem_of_getElem? (i := 1047) (by decide +kernel)⟩
theorem lw_p53 : lw_okq (⟨"BerthAgesModel", "notes", "(IIII)V"⟩, 21) := ⟨⟨by decide +kernel, by decide +kernel⟩, List.mem_of_getElem? (i := 800) (by decide +kernel), List.mem_of_getElem? (i := 1050) (by decide +kernel), List.mem_of_getElem? (i := 1051) (by decide +kernel)⟩
theorem lw_p54 : lw_okq (⟨"BerthAgesModel", "are", "()Z"⟩, 21) := ⟨⟨by decide +kernel, by decide +kernel⟩, List.mem_of_getElem? (i := 800) (by decide +kernel), List.mem_of_getElem? (i := 1070) (by decide +kernel), List.mem_of_getElem? (i := 1071) (by decide +kernel)⟩
theorem lw_p55 : lw_okq (⟨"BerthAgesModel", "ebbs", "()I"⟩, 21) := ⟨⟨by decide +kernel, by decide +kernel⟩, List.mem_of_getElem? (i := 800) (by decide +kernel), List.mem_of_getElem? (i := 1074) (by decide +kernel), List.mem_of_getElem? (i := 1075) (by decide +kernel)⟩
theorem lw_p56 : lw_okq (⟨"BerthAgesModel", "grounded", "()I"⟩, 21) := ⟨⟨by decide +kernel, by decide +kernel⟩, List.mem_of_getElem? (i := 800) (by decide +kernel), List.mem_of_getElem? (i := 1078) (by decide +kernel), List.mem_of_getElem? (i := 1079) (by decide +kernel)⟩
theorem lw_p57 : lw_okq (⟨"BerthAgesModel", "excess", "(I)I"⟩, 21) := ⟨⟨by decide +kernel, by decide +kernel⟩, List.mem_of_getElem? (i := 800) (by decide +kernel), List.mem_of_getElem? (i := 1082) (by decide +kernel), List.mem_of_getElem? (i := 1083) (by decide +kernel)⟩
theorem lw_p58 : lw_okq (⟨"BerthAgesModel", "grounds", "(II)V"⟩, 21) := ⟨⟨by decide +kernel, by decide +kernel⟩, List.mem_of_getElem? (i := 800) (by decide +kernel), List.mem_of_getElem? (i := 1086) (by decide +kernel), List.mem_of_getElem? (i := 1087) (by decide +kernel)⟩
theorem lw_p59 : lw_okq (⟨"BerthAgesModel", "takesBack", "(I)V"⟩, 21) := ⟨⟨by decide +kernel, by decide +kernel⟩, List.mem_of_getElem? (i := 800) (by decide +kernel), List.mem_of_getElem? (i := 1098) (by decide +kernel), List.mem_of_getElem? (i := 1099) (by decide +kernel)⟩
theorem lw_p60 : lw_okq (⟨"BerthAgesModel", "enters", "(I)Z"⟩, 21) := ⟨⟨by decide +kernel, by decide +kernel⟩, List.mem_of_getElem? (i := 800) (by decide +kernel), List.mem_of_getElem? (i := 1126) (by decide +kernel), List.mem_of_getElem? (i := 1127) (by decide +kernel)⟩
theorem lw_p61 : lw_okq (⟨"BerthAgesModel", "nextOrder", "(I)Z"⟩, 21) := ⟨⟨by decide +kernel, by decide +kernel⟩, List.mem_of_getElem? (i := 800) (by decide +kernel), List.mem_of_getElem? (i := 1130) (by decide +kernel), List.mem_of_getElem? (i := 1131) (by decide +kernel)⟩
theorem lw_p62 : lw_okq (⟨"BerthAgesModel", "swaps", "(II)V"⟩, 21) := ⟨⟨by decide +kernel, by decide +kernel⟩, List.mem_of_getElem? (i := 800) (by decide +kernel), List.mem_of_getElem? (i := 1134) (by decide +kernel), List.mem_of_getElem? (i := 1135) (by decide +kernel)⟩
theorem lw_p63 : lw_okq (⟨"BerthAgesModel", "all", "()I"⟩, 21) := ⟨⟨by decide +kernel, by decide +kernel⟩, List.mem_of_getElem? (i := 800) (by decide +kernel), List.mem_of_getElem? (i := 1142) (by decide +kernel), List.mem_of_getElem? (i := 1143) (by decide +kernel)⟩
def lw_privs_4 : List (MethodName × Nat) := [(⟨"BerthAgesModel", "markOf", "(II)I"⟩, 21), (⟨"BerthAgesModel", "isAhead", "(II)Z"⟩, 21), (⟨"BerthAgesModel", "moves", "(IZ)I"⟩, 21), (⟨"BerthAgesModel", "shiftedBy", "(II)I"⟩, 21), (⟨"BerthAgesModel", "goes", "(I)I"⟩, 21), (⟨"BerthAgesModel", "notes", "(IIII)V"⟩, 21), (⟨"BerthAgesModel", "are", "()Z"⟩, 21), (⟨"BerthAgesModel", "ebbs", "()I"⟩, 21), (⟨"BerthAgesModel", "grounded", "()I"⟩, 21), (⟨"BerthAgesModel", "excess", "(I)I"⟩, 21), (⟨"BerthAgesModel", "grounds", "(II)V"⟩, 21), (⟨"BerthAgesModel", "takesBack", "(I)V"⟩, 21), (⟨"BerthAgesModel", "enters", "(I)Z"⟩, 21), (⟨"BerthAgesModel", "nextOrder", "(I)Z"⟩, 21), (⟨"BerthAgesModel", "swaps", "(II)V"⟩, 21), (⟨"BerthAgesModel", "all", "()I"⟩, 21)]
theorem lw_r4 : ∀ q ∈ lw_privs_4, lw_okq q := List.forall_mem_cons.mpr ⟨lw_p48, List.forall_mem_cons.mpr ⟨lw_p49, List.forall_mem_cons.mpr ⟨lw_p50, List.forall_mem_cons.mpr ⟨lw_p51, List.forall_mem_cons.mpr ⟨lw_p52, List.forall_mem_cons.mpr ⟨lw_p53, List.forall_mem_cons.mpr ⟨lw_p54, List.forall_mem_cons.mpr ⟨lw_p55, List.forall_mem_cons.mpr ⟨lw_p56, List.forall_mem_cons.mpr ⟨lw_p57, List.forall_mem_cons.mpr ⟨lw_p58, List.forall_mem_cons.mpr ⟨lw_p59, List.forall_mem_cons.mpr ⟨lw_p60, List.forall_mem_cons.mpr ⟨lw_p61, List.forall_mem_cons.mpr ⟨lw_p62, List.forall_mem_cons.mpr ⟨lw_p63, fun _ h => absurd h List.not_mem_nil⟩⟩⟩⟩⟩⟩⟩⟩⟩⟩⟩⟩⟩⟩⟩⟩
theorem lw_p64 : lw_okq (⟨"BerthAgesModel", "areOnce", "(II)Z"⟩, 21) := ⟨⟨by decide +kernel, by decide +kernel⟩, List.mem_of_getElem? (i := 800) (by decide +kernel), List.mem_of_getElem? (i := 1146) (by decide +kernel), List.mem_of_getElem? (i := 1147) (by decide +kernel)⟩
theorem lw_p65 : lw_okq (⟨"BerthAgesModel", "barred", "(II)I"⟩, 21) := ⟨⟨by decide +kernel, by decide +kernel⟩, List.mem_of_getElem? (i := 800) (by decide +kernel), List.mem_of_getElem? (i := 1173) (by decide +kernel), List.mem_of_getElem? (i := 1174) (by decide +kernel)⟩
theorem lw_p66 : lw_okq (⟨"BerthAgesModel", "kindsBy", "(II)I"⟩, 21) := ⟨⟨by decide +kernel, by decide +kernel⟩, List.mem_of_getElem? (i := 800) (by decide +kernel), List.mem_of_getElem? (i := 1177) (by decide +kernel), List.mem_of_getElem? (i := 1178) (by decide +kernel)⟩
theorem lw_p67 : lw_okq (⟨"BerthAgesModel", "ageAs", "(III)I"⟩, 21) := ⟨⟨by decide +kernel, by decide +kernel⟩, List.mem_of_getElem? (i := 800) (by decide +kernel), List.mem_of_getElem? (i := 1181) (by decide +kernel), List.mem_of_getElem? (i := 1182) (by decide +kernel)⟩
theorem lw_p68 : lw_okq (⟨"BerthAgesModel", "alike", "(III)I"⟩, 21) := ⟨⟨by decide +kernel, by decide +kernel⟩, List.mem_of_getElem? (i := 800) (by decide +kernel), List.mem_of_getElem? (i := 1189) (by decide +kernel), List.mem_of_getElem? (i := 1190) (by decide +kernel)⟩
theorem lw_p69 : lw_okq (⟨"BerthAgesModel", "valueOf", "(I)I"⟩, 21) := ⟨⟨by decide +kernel, by decide +kernel⟩, List.mem_of_getElem? (i := 800) (by decide +kernel), List.mem_of_getElem? (i := 1197) (by decide +kernel), List.mem_of_getElem? (i := 1198) (by decide +kernel)⟩
theorem lw_p70 : lw_okq (⟨"BerthAgesModel", "comes", "(II)V"⟩, 21) := ⟨⟨by decide +kernel, by decide +kernel⟩, List.mem_of_getElem? (i := 800) (by decide +kernel), List.mem_of_getElem? (i := 1201) (by decide +kernel), List.mem_of_getElem? (i := 1202) (by decide +kernel)⟩
theorem lw_p71 : lw_okq (⟨"BerthAgesModel", "chance", "(III)I"⟩, 21) := ⟨⟨by decide +kernel, by decide +kernel⟩, List.mem_of_getElem? (i := 800) (by decide +kernel), List.mem_of_getElem? (i := 1209) (by decide +kernel), List.mem_of_getElem? (i := 1210) (by decide +kernel)⟩
theorem lw_p72 : lw_okq (⟨"BerthAgesModel", "tellsParts", "(JJ)I"⟩, 21) := ⟨⟨by decide +kernel, by decide +kernel⟩, List.mem_of_getElem? (i := 800) (by decide +kernel), List.mem_of_getElem? (i := 1214) (by decide +kernel), List.mem_of_getElem? (i := 1215) (by decide +kernel)⟩
def lw_privs_5 : List (MethodName × Nat) := [(⟨"BerthAgesModel", "areOnce", "(II)Z"⟩, 21), (⟨"BerthAgesModel", "barred", "(II)I"⟩, 21), (⟨"BerthAgesModel", "kindsBy", "(II)I"⟩, 21), (⟨"BerthAgesModel", "ageAs", "(III)I"⟩, 21), (⟨"BerthAgesModel", "alike", "(III)I"⟩, 21), (⟨"BerthAgesModel", "valueOf", "(I)I"⟩, 21), (⟨"BerthAgesModel", "comes", "(II)V"⟩, 21), (⟨"BerthAgesModel", "chance", "(III)I"⟩, 21), (⟨"BerthAgesModel", "tellsParts", "(JJ)I"⟩, 21)]
theorem lw_r5 : ∀ q ∈ lw_privs_5, lw_okq q := List.forall_mem_cons.mpr ⟨lw_p64, List.forall_mem_cons.mpr ⟨lw_p65, List.forall_mem_cons.mpr ⟨lw_p66, List.forall_mem_cons.mpr ⟨lw_p67, List.forall_mem_cons.mpr ⟨lw_p68, List.forall_mem_cons.mpr ⟨lw_p69, List.forall_mem_cons.mpr ⟨lw_p70, List.forall_mem_cons.mpr ⟨lw_p71, List.forall_mem_cons.mpr ⟨lw_p72, fun _ h => absurd h List.not_mem_nil⟩⟩⟩⟩⟩⟩⟩⟩⟩
def lw_privs : List (MethodName × Nat) := lw_privs_1 ++ (lw_privs_2 ++ (lw_privs_3 ++ (lw_privs_4 ++ (lw_privs_5))))
def lw_tbl : List Cond := k2_sels lw_privs ++ tables_1
theorem lw_privs_ok : ∀ q ∈ lw_privs, lw_okq q := by
  show ∀ q ∈ lw_privs_1 ++ (lw_privs_2 ++ (lw_privs_3 ++ (lw_privs_4 ++ (lw_privs_5)))), lw_okq q
  exact List.forall_mem_append.mpr ⟨lw_r1, List.forall_mem_append.mpr ⟨lw_r2, List.forall_mem_append.mpr ⟨lw_r3, List.forall_mem_append.mpr ⟨lw_r4, lw_r5⟩⟩⟩⟩
def RX0 : String := "BerthAges$Chance"
def TX0 : u_T := fun k => match k with
  | 0 => ("BerthAges$Chance", "staying", "[J", true)
  | 1 => ("BerthAges$Chance", "over", "J", false)
  | _ => ("BerthAges$Chance", "under", "J", false)
def tyX0 : Nat → FieldType := fun k => match k with
  | 0 => .array .long
  | 1 => .long
  | _ => .long
abbrev wsX00 : List Cond := u_ws RX0 TX0 3
theorem nmX0 : ∀ a, a < 3 → ∀ b, b < 3 → a ≠ b → (TX0 a).2.1 ≠ (TX0 b).2.1 := by decide +kernel
theorem tyX0_ok : ∀ k, k < 3 → parseFieldDescriptor (TX0 k).2.2.1 = some (tyX0 k) := by decide +kernel
abbrev cX0_init : ByteArray := prog_2_method_1_code
def yX0_init : MethodName := ⟨RX0, "<init>", "()V"⟩
abbrev cX0_tellNearer : ByteArray := prog_2_method_2_code
def yX0_tellNearer : MethodName := ⟨RX0, "tellNearer", "(III)V"⟩
abbrev cX0_tellMean : ByteArray := prog_2_method_3_code
def yX0_tellMean : MethodName := ⟨RX0, "tellMean", "(II)V"⟩
abbrev cX0_spread : ByteArray := prog_2_method_4_code
def yX0_spread : MethodName := ⟨RX0, "spread", "(II)V"⟩
abbrev cX0_tellInLowestTerms : ByteArray := prog_2_method_5_code
def yX0_tellInLowestTerms : MethodName := ⟨RX0, "tellInLowestTerms", "(JJ)V"⟩
abbrev cX0_commonDivisor : ByteArray := prog_2_method_6_code
def yX0_commonDivisor : MethodName := ⟨RX0, "commonDivisor", "(JJ)J"⟩
def RX1 : String := "BerthAges$Fleet"
def TX1 : u_T := fun k => match k with
  | 0 => ("BerthAges$Fleet", "kind", "[I", true)
  | 1 => ("BerthAges$Fleet", "built", "[I", true)
  | 2 => ("BerthAges$Fleet", "captain", "[I", true)
  | 3 => ("BerthAges$Fleet", "rat", "[I", true)
  | 4 => ("BerthAges$Fleet", "draught", "[I", true)
  | 5 => ("BerthAges$Fleet", "ships", "I", false)
  | 6 => ("BerthAges$Fleet", "firstYear", "I", false)
  | 7 => ("BerthAges$Fleet", "hoursOfTide", "I", false)
  | _ => ("BerthAges$Fleet", "place", "I", false)
def tyX1 : Nat → FieldType := fun k => match k with
  | 0 => .array .int
  | 1 => .array .int
  | 2 => .array .int
  | 3 => .array .int
  | 4 => .array .int
  | 5 => .int
  | 6 => .int
  | 7 => .int
  | _ => .int
abbrev wsX10 : List Cond := u_ws RX1 TX1 9
theorem nmX1 : ∀ a, a < 9 → ∀ b, b < 9 → a ≠ b → (TX1 a).2.1 ≠ (TX1 b).2.1 := by decide +kernel
theorem tyX1_ok : ∀ k, k < 9 → parseFieldDescriptor (TX1 k).2.2.1 = some (tyX1 k) := by decide +kernel
abbrev cX1_init : ByteArray := prog_3_method_1_code
def yX1_init : MethodName := ⟨RX1, "<init>", "()V"⟩
abbrev cX1_read : ByteArray := prog_3_method_2_code
def yX1_read : MethodName := ⟨RX1, "read", "([II)I"⟩
abbrev cX1_skipBlanks : ByteArray := prog_3_method_3_code
def yX1_skipBlanks : MethodName := ⟨RX1, "skipBlanks", "([II)V"⟩
abbrev cX1_signHere : ByteArray := prog_3_method_4_code
def yX1_signHere : MethodName := ⟨RX1, "signHere", "([II)I"⟩
abbrev cX1_readHead : ByteArray := prog_3_method_5_code
def yX1_readHead : MethodName := ⟨RX1, "readHead", "([II)Z"⟩
abbrev cX1_readShip : ByteArray := prog_3_method_6_code
def yX1_readShip : MethodName := ⟨RX1, "readShip", "([II)Z"⟩
abbrev cX1_readTwoFigures : ByteArray := prog_3_method_7_code
def yX1_readTwoFigures : MethodName := ⟨RX1, "readTwoFigures", "([II)I"⟩
abbrev cX1_readFigure : ByteArray := prog_3_method_8_code
def yX1_readFigure : MethodName := ⟨RX1, "readFigure", "([III)I"⟩
abbrev cX1_kindOf : ByteArray := prog_3_method_9_code
def yX1_kindOf : MethodName := ⟨RX1, "kindOf", "(I)I"⟩
def RX2 : String := "BerthAges$Harbour"
def TX2 : u_T := fun k => match k with
  | 0 => ("BerthAges$Harbour", "fleet", "LBerthAges$Fleet;", true)
  | 1 => ("BerthAges$Harbour", "tea", "[I", true)
  | 2 => ("BerthAges$Harbour", "aground", "[I", true)
  | 3 => ("BerthAges$Harbour", "deeds", "[I", true)
  | 4 => ("BerthAges$Harbour", "ages", "[I", true)
  | 5 => ("BerthAges$Harbour", "ahead", "[I", true)
  | 6 => ("BerthAges$Harbour", "done", "I", false)
  | 7 => ("BerthAges$Harbour", "year", "I", false)
  | 8 => ("BerthAges$Harbour", "left", "I", false)
  | 9 => ("BerthAges$Harbour", "in", "I", false)
  | 10 => ("BerthAges$Harbour", "paid", "I", false)
  | _ => ("BerthAges$Harbour", "shifted", "I", false)
def tyX2 : Nat → FieldType := fun k => match k with
  | 0 => .object "BerthAges$Fleet"
  | 1 => .array .int
  | 2 => .array .int
  | 3 => .array .int
  | 4 => .array .int
  | 5 => .array .int
  | 6 => .int
  | 7 => .int
  | 8 => .int
  | 9 => .int
  | 10 => .int
  | _ => .int
abbrev wsX20 : List Cond := u_ws RX2 TX2 12
theorem nmX2 : ∀ a, a < 12 → ∀ b, b < 12 → a ≠ b → (TX2 a).2.1 ≠ (TX2 b).2.1 := by decide +kernel
theorem tyX2_ok : ∀ k, k < 12 → parseFieldDescriptor (TX2 k).2.2.1 = some (tyX2 k) := by decide +kernel
abbrev cX2_init : ByteArray := prog_4_method_1_code
def yX2_init : MethodName := ⟨RX2, "<init>", "()V"⟩
abbrev cX2_begin : ByteArray := prog_4_method_2_code
def yX2_begin : MethodName := ⟨RX2, "begin", "()V"⟩
abbrev cX2_settle : ByteArray := prog_4_method_3_code
def yX2_settle : MethodName := ⟨RX2, "settle", "()V"⟩
abbrev cX2_replay : ByteArray := prog_4_method_4_code
def yX2_replay : MethodName := ⟨RX2, "replay", "([II)V"⟩
abbrev cX2_doDeed : ByteArray := prog_4_method_5_code
def yX2_doDeed : MethodName := ⟨RX2, "doDeed", "(II)I"⟩
abbrev cX2_move : ByteArray := prog_4_method_6_code
def yX2_move : MethodName := ⟨RX2, "move", "(I)I"⟩
abbrev cX2_runAground : ByteArray := prog_4_method_7_code
def yX2_runAground : MethodName := ⟨RX2, "runAground", "(I)I"⟩
abbrev cX2_isEmpty : ByteArray := prog_4_method_8_code
def yX2_isEmpty : MethodName := ⟨RX2, "isEmpty", "()Z"⟩
abbrev cX2_isShip : ByteArray := prog_4_method_9_code
def yX2_isShip : MethodName := ⟨RX2, "isShip", "(I)Z"⟩
abbrev cX2_isIn : ByteArray := prog_4_method_10_code
def yX2_isIn : MethodName := ⟨RX2, "isIn", "(I)Z"⟩
abbrev cX2_hasPaid : ByteArray := prog_4_method_11_code
def yX2_hasPaid : MethodName := ⟨RX2, "hasPaid", "(I)Z"⟩
abbrev cX2_isOf : ByteArray := prog_4_method_12_code
def yX2_isOf : MethodName := ⟨RX2, "isOf", "(II)Z"⟩
abbrev cX2_hasHoursFor : ByteArray := prog_4_method_13_code
def yX2_hasHoursFor : MethodName := ⟨RX2, "hasHoursFor", "(I)Z"⟩
abbrev cX2_ageIn : ByteArray := prog_4_method_14_code
def yX2_ageIn : MethodName := ⟨RX2, "ageIn", "(II)I"⟩
abbrev cX2_ageAs : ByteArray := prog_4_method_15_code
def yX2_ageAs : MethodName := ⟨RX2, "ageAs", "(III)I"⟩
abbrev cX2_ageIfBuilt : ByteArray := prog_4_method_16_code
def yX2_ageIfBuilt : MethodName := ⟨RX2, "ageIfBuilt", "(II)I"⟩
abbrev cX2_ageWithTea : ByteArray := prog_4_method_17_code
def yX2_ageWithTea : MethodName := ⟨RX2, "ageWithTea", "(II)I"⟩
abbrev cX2_past : ByteArray := prog_4_method_18_code
def yX2_past : MethodName := ⟨RX2, "past", "(II)I"⟩
abbrev cX2_ageBy : ByteArray := prog_4_method_19_code
def yX2_ageBy : MethodName := ⟨RX2, "ageBy", "(IIIZ)I"⟩
abbrev cX2_isAhead : ByteArray := prog_4_method_20_code
def yX2_isAhead : MethodName := ⟨RX2, "isAhead", "(IIII)Z"⟩
abbrev cX2_aheadIn : ByteArray := prog_4_method_21_code
def yX2_aheadIn : MethodName := ⟨RX2, "aheadIn", "(III)I"⟩
abbrev cX2_berthIn : ByteArray := prog_4_method_22_code
def yX2_berthIn : MethodName := ⟨RX2, "berthIn", "(III)I"⟩
abbrev cX2_berthNow : ByteArray := prog_4_method_23_code
def yX2_berthNow : MethodName := ⟨RX2, "berthNow", "(I)I"⟩
abbrev cX2_shiftedBy : ByteArray := prog_4_method_24_code
def yX2_shiftedBy : MethodName := ⟨RX2, "shiftedBy", "(I)I"⟩
abbrev cX2_tooDeepBy : ByteArray := prog_4_method_25_code
def yX2_tooDeepBy : MethodName := ⟨RX2, "tooDeepBy", "(I)I"⟩
abbrev cX2_tooDeep : ByteArray := prog_4_method_26_code
def yX2_tooDeep : MethodName := ⟨RX2, "tooDeep", "()I"⟩
abbrev cX2_allAground : ByteArray := prog_4_method_27_code
def yX2_allAground : MethodName := ⟨RX2, "allAground", "()I"⟩
abbrev cX2_bells : ByteArray := prog_4_method_28_code
def yX2_bells : MethodName := ⟨RX2, "bells", "()I"⟩
abbrev cX2_fact : ByteArray := prog_4_method_29_code
def yX2_fact : MethodName := ⟨RX2, "fact", "(II)I"⟩
abbrev cX2_markOf : ByteArray := prog_4_method_30_code
def yX2_markOf : MethodName := ⟨RX2, "markOf", "(II)I"⟩
abbrev cX2_greatestPart : ByteArray := prog_4_method_31_code
def yX2_greatestPart : MethodName := ⟨RX2, "greatestPart", "(III)I"⟩
abbrev cX2_alike : ByteArray := prog_4_method_32_code
def yX2_alike : MethodName := ⟨RX2, "alike", "(IIII)I"⟩
def RX3 : String := "BerthAges$Match"
def TX3 : u_T := fun k => match k with
  | 0 => ("BerthAges$Match", "port", "LBerthAges$Harbour;", true)
  | 1 => ("BerthAges$Match", "worth", "[I", true)
  | _ => ("BerthAges$Match", "worthThen", "[I", true)
def tyX3 : Nat → FieldType := fun k => match k with
  | 0 => .object "BerthAges$Harbour"
  | 1 => .array .int
  | _ => .array .int
abbrev wsX30 : List Cond := u_ws RX3 TX3 3
theorem nmX3 : ∀ a, a < 3 → ∀ b, b < 3 → a ≠ b → (TX3 a).2.1 ≠ (TX3 b).2.1 := by decide +kernel
theorem tyX3_ok : ∀ k, k < 3 → parseFieldDescriptor (TX3 k).2.2.1 = some (tyX3 k) := by decide +kernel
abbrev cX3_init : ByteArray := prog_5_method_1_code
def yX3_init : MethodName := ⟨RX3, "<init>", "(LBerthAges$Harbour;)V"⟩
abbrev cX3_outcome : ByteArray := prog_5_method_2_code
def yX3_outcome : MethodName := ⟨RX3, "outcome", "(I)I"⟩
abbrev cX3_worthAtEnd : ByteArray := prog_5_method_3_code
def yX3_worthAtEnd : MethodName := ⟨RX3, "worthAtEnd", "(I)I"⟩
abbrev cX3_worthBefore : ByteArray := prog_5_method_4_code
def yX3_worthBefore : MethodName := ⟨RX3, "worthBefore", "(II)I"⟩
def RX4 : String := "BerthAges$Queue"
def TX4 : u_T := fun k => match k with
  | 0 => ("BerthAges$Queue", "port", "LBerthAges$Harbour;", true)
  | 1 => ("BerthAges$Queue", "path", "[I", true)
  | 2 => ("BerthAges$Queue", "best", "[I", true)
  | 3 => ("BerthAges$Queue", "in", "I", false)
  | 4 => ("BerthAges$Queue", "left", "I", false)
  | 5 => ("BerthAges$Queue", "tides", "I", false)
  | 6 => ("BerthAges$Queue", "shifted", "I", false)
  | 7 => ("BerthAges$Queue", "hasBest", "Z", false)
  | 8 => ("BerthAges$Queue", "bestSize", "I", false)
  | 9 => ("BerthAges$Queue", "bestTides", "I", false)
  | _ => ("BerthAges$Queue", "bestShifted", "I", false)
def tyX4 : Nat → FieldType := fun k => match k with
  | 0 => .object "BerthAges$Harbour"
  | 1 => .array .int
  | 2 => .array .int
  | 3 => .int
  | 4 => .int
  | 5 => .int
  | 6 => .int
  | 7 => .boolean
  | 8 => .int
  | 9 => .int
  | _ => .int
abbrev wsX40 : List Cond := u_ws RX4 TX4 11
theorem nmX4 : ∀ a, a < 11 → ∀ b, b < 11 → a ≠ b → (TX4 a).2.1 ≠ (TX4 b).2.1 := by decide +kernel
theorem tyX4_ok : ∀ k, k < 11 → parseFieldDescriptor (TX4 k).2.2.1 = some (tyX4 k) := by decide +kernel
abbrev cX4_init : ByteArray := prog_6_method_1_code
def yX4_init : MethodName := ⟨RX4, "<init>", "(LBerthAges$Harbour;)V"⟩
abbrev cX4_begin : ByteArray := prog_6_method_2_code
def yX4_begin : MethodName := ⟨RX4, "begin", "()V"⟩
abbrev cX4_takes : ByteArray := prog_6_method_3_code
def yX4_takes : MethodName := ⟨RX4, "takes", "(I)Z"⟩
abbrev cX4_findBest : ByteArray := prog_6_method_4_code
def yX4_findBest : MethodName := ⟨RX4, "findBest", "()Z"⟩
abbrev cX4_seek : ByteArray := prog_6_method_5_code
def yX4_seek : MethodName := ⟨RX4, "seek", "(I)V"⟩
abbrev cX4_seekBehind : ByteArray := prog_6_method_6_code
def yX4_seekBehind : MethodName := ⟨RX4, "seekBehind", "(II)V"⟩
abbrev cX4_isBetter : ByteArray := prog_6_method_7_code
def yX4_isBetter : MethodName := ⟨RX4, "isBetter", "()Z"⟩
abbrev cX4_keepPath : ByteArray := prog_6_method_8_code
def yX4_keepPath : MethodName := ⟨RX4, "keepPath", "(I)V"⟩
def RX5 : String := "BerthAges$Sheets"
def TX5 : u_T := fun k => match k with
  | 0 => ("BerthAges$Sheets", "many", "I", true)
  | 1 => ("BerthAges$Sheets", "most", "I", true)
  | 2 => ("BerthAges$Sheets", "sizes", "[I", true)
  | _ => ("BerthAges$Sheets", "places", "[[I", true)
def tyX5 : Nat → FieldType := fun k => match k with
  | 0 => .int
  | 1 => .int
  | 2 => .array .int
  | _ => .array (.array .int)
abbrev wsX50 : List Cond := u_ws RX5 TX5 4
theorem nmX5 : ∀ a, a < 4 → ∀ b, b < 4 → a ≠ b → (TX5 a).2.1 ≠ (TX5 b).2.1 := by decide +kernel
theorem tyX5_ok : ∀ k, k < 4 → parseFieldDescriptor (TX5 k).2.2.1 = some (tyX5 k) := by decide +kernel
abbrev cX5_init : ByteArray := prog_7_method_1_code
def yX5_init : MethodName := ⟨RX5, "<init>", "(II)V"⟩
abbrev cX5_isNumber : ByteArray := prog_7_method_2_code
def yX5_isNumber : MethodName := ⟨RX5, "isNumber", "(I)Z"⟩
abbrev cX5_isThere : ByteArray := prog_7_method_3_code
def yX5_isThere : MethodName := ⟨RX5, "isThere", "(I)Z"⟩
abbrev cX5_isPlace : ByteArray := prog_7_method_4_code
def yX5_isPlace : MethodName := ⟨RX5, "isPlace", "(II)Z"⟩
abbrev cX5_hasPlaces : ByteArray := prog_7_method_5_code
def yX5_hasPlaces : MethodName := ⟨RX5, "hasPlaces", "(III)Z"⟩
abbrev cX5_get : ByteArray := prog_7_method_6_code
def yX5_get : MethodName := ⟨RX5, "get", "(III)I"⟩
abbrev cX5_set : ByteArray := prog_7_method_7_code
def yX5_set : MethodName := ⟨RX5, "set", "(III)V"⟩
abbrev cX5_make : ByteArray := prog_7_method_8_code
def yX5_make : MethodName := ⟨RX5, "make", "(III)V"⟩
abbrev cX5_drop : ByteArray := prog_7_method_9_code
def yX5_drop : MethodName := ⟨RX5, "drop", "(I)V"⟩
abbrev cX5_howMany : ByteArray := prog_7_method_10_code
def yX5_howMany : MethodName := ⟨RX5, "howMany", "()I"⟩
abbrev cX5_digestFrom : ByteArray := prog_7_method_11_code
def yX5_digestFrom : MethodName := ⟨RX5, "digestFrom", "(J)J"⟩
def RX6 : String := "BerthAges"
def TX6 : u_T := fun k => match k with
  | 0 => ("BerthAges", "rows", "LBerthAges$Sheets;", true)
  | 1 => ("BerthAges", "texts", "LBerthAges$Sheets;", true)
  | 2 => ("BerthAges", "kept", "LBerthAges$Sheets;", true)
  | 3 => ("BerthAges", "port", "LBerthAges$Harbour;", true)
  | 4 => ("BerthAges", "proof", "LBerthAges$Fleet;", true)
  | 5 => ("BerthAges", "queue", "LBerthAges$Queue;", true)
  | 6 => ("BerthAges", "match", "LBerthAges$Match;", true)
  | 7 => ("BerthAges", "chance", "LBerthAges$Chance;", true)
  | 8 => ("BerthAges", "timesFound", "[I", true)
  | 9 => ("BerthAges", "latestFinding", "I", false)
  | _ => ("BerthAges", "told", "I", false)
def tyX6 : Nat → FieldType := fun k => match k with
  | 0 => .object "BerthAges$Sheets"
  | 1 => .object "BerthAges$Sheets"
  | 2 => .object "BerthAges$Sheets"
  | 3 => .object "BerthAges$Harbour"
  | 4 => .object "BerthAges$Fleet"
  | 5 => .object "BerthAges$Queue"
  | 6 => .object "BerthAges$Match"
  | 7 => .object "BerthAges$Chance"
  | 8 => .array .int
  | 9 => .int
  | _ => .int
abbrev wsX60 : List Cond := u_ws RX6 TX6 11
theorem nmX6 : ∀ a, a < 11 → ∀ b, b < 11 → a ≠ b → (TX6 a).2.1 ≠ (TX6 b).2.1 := by decide +kernel
theorem tyX6_ok : ∀ k, k < 11 → parseFieldDescriptor (TX6 k).2.2.1 = some (tyX6 k) := by decide +kernel
abbrev cX6_init : ByteArray := prog_1_method_1_code
def yX6_init : MethodName := ⟨RX6, "<init>", "()V"⟩
abbrev cX6_row : ByteArray := prog_1_method_2_code
def yX6_row : MethodName := ⟨RX6, "row", "(II)I"⟩
abbrev cX6_lay : ByteArray := prog_1_method_3_code
def yX6_lay : MethodName := ⟨RX6, "lay", "(III)I"⟩
abbrev cX6_at : ByteArray := prog_1_method_4_code
def yX6_at : MethodName := ⟨RX6, "at", "(II)I"⟩
abbrev cX6_tear : ByteArray := prog_1_method_5_code
def yX6_tear : MethodName := ⟨RX6, "tear", "(I)I"⟩
abbrev cX6_copy : ByteArray := prog_1_method_6_code
def yX6_copy : MethodName := ⟨RX6, "copy", "(IIIII)I"⟩
abbrev cX6_mean : ByteArray := prog_1_method_7_code
def yX6_mean : MethodName := ⟨RX6, "mean", "(I)I"⟩
abbrev cX6_text : ByteArray := prog_1_method_8_code
def yX6_text : MethodName := ⟨RX6, "text", "(II)I"⟩
abbrev cX6_put : ByteArray := prog_1_method_9_code
def yX6_put : MethodName := ⟨RX6, "put", "(III)I"⟩
abbrev cX6_fault : ByteArray := prog_1_method_10_code
def yX6_fault : MethodName := ⟨RX6, "fault", "(I)I"⟩
abbrev cX6_harbour : ByteArray := prog_1_method_11_code
def yX6_harbour : MethodName := ⟨RX6, "harbour", "(I)I"⟩
abbrev cX6_ship : ByteArray := prog_1_method_12_code
def yX6_ship : MethodName := ⟨RX6, "ship", "(II)I"⟩
abbrev cX6_mark : ByteArray := prog_1_method_13_code
def yX6_mark : MethodName := ⟨RX6, "mark", "(II)I"⟩
abbrev cX6_age : ByteArray := prog_1_method_14_code
def yX6_age : MethodName := ⟨RX6, "age", "(II)I"⟩
abbrev cX6_come : ByteArray := prog_1_method_15_code
def yX6_come : MethodName := ⟨RX6, "come", "(I)I"⟩
abbrev cX6_leave : ByteArray := prog_1_method_16_code
def yX6_leave : MethodName := ⟨RX6, "leave", "(I)I"⟩
abbrev cX6_pay : ByteArray := prog_1_method_17_code
def yX6_pay : MethodName := ⟨RX6, "pay", "(I)I"⟩
abbrev cX6_tea : ByteArray := prog_1_method_18_code
def yX6_tea : MethodName := ⟨RX6, "tea", "(I)I"⟩
abbrev cX6_tide : ByteArray := prog_1_method_19_code
def yX6_tide : MethodName := ⟨RX6, "tide", "()I"⟩
abbrev cX6_year : ByteArray := prog_1_method_20_code
def yX6_year : MethodName := ⟨RX6, "year", "()I"⟩
abbrev cX6_undo : ByteArray := prog_1_method_21_code
def yX6_undo : MethodName := ⟨RX6, "undo", "(I)I"⟩
abbrev cX6_keep : ByteArray := prog_1_method_22_code
def yX6_keep : MethodName := ⟨RX6, "keep", "(I)I"⟩
abbrev cX6_on : ByteArray := prog_1_method_23_code
def yX6_on : MethodName := ⟨RX6, "on", "(I)I"⟩
abbrev cX6_berths : ByteArray := prog_1_method_24_code
def yX6_berths : MethodName := ⟨RX6, "berths", "(I)I"⟩
abbrev cX6_hours : ByteArray := prog_1_method_25_code
def yX6_hours : MethodName := ⟨RX6, "hours", "(I)I"⟩
abbrev cX6_ground : ByteArray := prog_1_method_26_code
def yX6_ground : MethodName := ⟨RX6, "ground", "()I"⟩
abbrev cX6_enter : ByteArray := prog_1_method_27_code
def yX6_enter : MethodName := ⟨RX6, "enter", "(I)I"⟩
abbrev cX6_order : ByteArray := prog_1_method_28_code
def yX6_order : MethodName := ⟨RX6, "order", "(I)I"⟩
abbrev cX6_when : ByteArray := prog_1_method_29_code
def yX6_when : MethodName := ⟨RX6, "when", "(II)I"⟩
abbrev cX6_built : ByteArray := prog_1_method_30_code
def yX6_built : MethodName := ⟨RX6, "built", "(II)I"⟩
abbrev cX6_least : ByteArray := prog_1_method_31_code
def yX6_least : MethodName := ⟨RX6, "least", "(II)I"⟩
abbrev cX6_wrong : ByteArray := prog_1_method_32_code
def yX6_wrong : MethodName := ⟨RX6, "wrong", "(I)I"⟩
abbrev cX6_kinds : ByteArray := prog_1_method_33_code
def yX6_kinds : MethodName := ⟨RX6, "kinds", "(II)I"⟩
abbrev cX6_test : ByteArray := prog_1_method_34_code
def yX6_test : MethodName := ⟨RX6, "test", "(II)I"⟩
abbrev cX6_duel : ByteArray := prog_1_method_35_code
def yX6_duel : MethodName := ⟨RX6, "duel", "(I)I"⟩
abbrev cX6_odds : ByteArray := prog_1_method_36_code
def yX6_odds : MethodName := ⟨RX6, "odds", "(III)I"⟩
abbrev cX6_mid : ByteArray := prog_1_method_37_code
def yX6_mid : MethodName := ⟨RX6, "mid", "(II)I"⟩
abbrev cX6_lots : ByteArray := prog_1_method_38_code
def yX6_lots : MethodName := ⟨RX6, "lots", "(II)I"⟩
abbrev cX6_asked : ByteArray := prog_1_method_39_code
def yX6_asked : MethodName := ⟨RX6, "asked", "()I"⟩
abbrev cX6_upper : ByteArray := prog_1_method_40_code
def yX6_upper : MethodName := ⟨RX6, "upper", "()J"⟩
abbrev cX6_lower : ByteArray := prog_1_method_41_code
def yX6_lower : MethodName := ⟨RX6, "lower", "()J"⟩
abbrev cX6_count : ByteArray := prog_1_method_42_code
def yX6_count : MethodName := ⟨RX6, "count", "(I)I"⟩
abbrev cX6_finding : ByteArray := prog_1_method_43_code
def yX6_finding : MethodName := ⟨RX6, "finding", "()I"⟩
abbrev cX6_findings : ByteArray := prog_1_method_44_code
def yX6_findings : MethodName := ⟨RX6, "findings", "(I)I"⟩
abbrev cX6_digest : ByteArray := prog_1_method_45_code
def yX6_digest : MethodName := ⟨RX6, "digest", "()J"⟩
abbrev cX6_refuse : ByteArray := prog_1_method_46_code
def yX6_refuse : MethodName := ⟨RX6, "refuse", "(I)I"⟩
abbrev cX6_refusalOfSheet : ByteArray := prog_1_method_47_code
def yX6_refusalOfSheet : MethodName := ⟨RX6, "refusalOfSheet", "(LBerthAges$Sheets;I)I"⟩
abbrev cX6_refusalOfPlace : ByteArray := prog_1_method_48_code
def yX6_refusalOfPlace : MethodName := ⟨RX6, "refusalOfPlace", "(LBerthAges$Sheets;II)I"⟩
abbrev cX6_laidOut : ByteArray := prog_1_method_49_code
def yX6_laidOut : MethodName := ⟨RX6, "laidOut", "(LBerthAges$Sheets;III)I"⟩
abbrev cX6_moved : ByteArray := prog_1_method_50_code
def yX6_moved : MethodName := ⟨RX6, "moved", "(IZ)I"⟩
abbrev cX6_isBerth : ByteArray := prog_1_method_51_code
def yX6_isBerth : MethodName := ⟨RX6, "isBerth", "(I)Z"⟩
abbrev cX6_isOfTwelve : ByteArray := prog_1_method_52_code
def yX6_isOfTwelve : MethodName := ⟨RX6, "isOfTwelve", "(I)Z"⟩
abbrev cX6_refusalOfShips : ByteArray := prog_1_method_53_code
def yX6_refusalOfShips : MethodName := ⟨RX6, "refusalOfShips", "(II)I"⟩
abbrev cX6_refusalOfPairs : ByteArray := prog_1_method_54_code
def yX6_refusalOfPairs : MethodName := ⟨RX6, "refusalOfPairs", "(II)I"⟩
abbrev cX6_possibleKinds : ByteArray := prog_1_method_55_code
def yX6_possibleKinds : MethodName := ⟨RX6, "possibleKinds", "(II)I"⟩
abbrev cX6_fitsPairs : ByteArray := prog_1_method_56_code
def yX6_fitsPairs : MethodName := ⟨RX6, "fitsPairs", "(III)Z"⟩
abbrev cX6_counted : ByteArray := prog_1_method_57_code
def yX6_counted : MethodName := ⟨RX6, "counted", "(I)I"⟩
def RX7 : String := "BerthAgesModel"
def TX7 : u_T := fun k => match k with
  | 0 => ("BerthAgesModel", "sizes", "[I", true)
  | 1 => ("BerthAgesModel", "items", "[I", true)
  | 2 => ("BerthAgesModel", "spare", "[I", true)
  | 3 => ("BerthAgesModel", "lengths", "[I", true)
  | 4 => ("BerthAgesModel", "bytes", "[I", true)
  | 5 => ("BerthAgesModel", "now", "[I", true)
  | 6 => ("BerthAgesModel", "draft", "[I", true)
  | 7 => ("BerthAgesModel", "kept", "[I", true)
  | 8 => ("BerthAgesModel", "isKept", "[Z", true)
  | 9 => ("BerthAgesModel", "found", "[I", true)
  | 10 => ("BerthAgesModel", "finding", "I", false)
  | 11 => ("BerthAgesModel", "asked", "I", false)
  | 12 => ("BerthAgesModel", "upper", "J", false)
  | 13 => ("BerthAgesModel", "lower", "J", false)
  | 14 => ("BerthAgesModel", "line", "[I", true)
  | 15 => ("BerthAgesModel", "best", "[I", true)
  | 16 => ("BerthAgesModel", "inside", "[I", true)
  | 17 => ("BerthAgesModel", "tides", "I", false)
  | 18 => ("BerthAgesModel", "shifts", "I", false)
  | 19 => ("BerthAgesModel", "place", "I", false)
  | _ => ("BerthAgesModel", "isWell", "Z", false)
def tyX7 : Nat → FieldType := fun k => match k with
  | 0 => .array .int
  | 1 => .array .int
  | 2 => .array .int
  | 3 => .array .int
  | 4 => .array .int
  | 5 => .array .int
  | 6 => .array .int
  | 7 => .array .int
  | 8 => .array .boolean
  | 9 => .array .int
  | 10 => .int
  | 11 => .int
  | 12 => .long
  | 13 => .long
  | 14 => .array .int
  | 15 => .array .int
  | 16 => .array .int
  | 17 => .int
  | 18 => .int
  | 19 => .int
  | _ => .boolean
abbrev wsX70 : List Cond := u_ws RX7 TX7 21
theorem nmX7 : ∀ a, a < 21 → ∀ b, b < 21 → a ≠ b → (TX7 a).2.1 ≠ (TX7 b).2.1 := by decide +kernel
theorem tyX7_ok : ∀ k, k < 21 → parseFieldDescriptor (TX7 k).2.2.1 = some (tyX7 k) := by decide +kernel
abbrev cX7_init : ByteArray := prog_9_method_1_code
def yX7_init : MethodName := ⟨RX7, "<init>", "()V"⟩
abbrev cX7_in : ByteArray := prog_9_method_3_code
def yX7_in : MethodName := ⟨RX7, "in", "(III)Z"⟩
abbrev cX7_has : ByteArray := prog_9_method_4_code
def yX7_has : MethodName := ⟨RX7, "has", "(II)Z"⟩
abbrev cX7_ones : ByteArray := prog_9_method_5_code
def yX7_ones : MethodName := ⟨RX7, "ones", "(I)I"⟩
abbrev cX7_finds : ByteArray := prog_9_method_6_code
def yX7_finds : MethodName := ⟨RX7, "finds", "(I)I"⟩
abbrev cX7_tells : ByteArray := prog_9_method_7_code
def yX7_tells : MethodName := ⟨RX7, "tells", "(II)I"⟩
abbrev cX7_tellsParts : ByteArray := prog_9_method_8_code
def yX7_tellsParts : MethodName := ⟨RX7, "tellsParts", "(JJ)I"⟩
abbrev cX7_isRow : ByteArray := prog_9_method_9_code
def yX7_isRow : MethodName := ⟨RX7, "isRow", "(I)Z"⟩
abbrev cX7_isText : ByteArray := prog_9_method_10_code
def yX7_isText : MethodName := ⟨RX7, "isText", "(I)Z"⟩
abbrev cX7_lays : ByteArray := prog_9_method_11_code
def yX7_lays : MethodName := ⟨RX7, "lays", "(II)V"⟩
abbrev cX7_row : ByteArray := prog_9_method_12_code
def yX7_row : MethodName := ⟨RX7, "row", "(II)I"⟩
abbrev cX7_lay : ByteArray := prog_9_method_13_code
def yX7_lay : MethodName := ⟨RX7, "lay", "(III)I"⟩
abbrev cX7_at : ByteArray := prog_9_method_14_code
def yX7_at : MethodName := ⟨RX7, "at", "(II)I"⟩
abbrev cX7_tear : ByteArray := prog_9_method_15_code
def yX7_tear : MethodName := ⟨RX7, "tear", "(I)I"⟩
abbrev cX7_copy : ByteArray := prog_9_method_16_code
def yX7_copy : MethodName := ⟨RX7, "copy", "(IIIII)I"⟩
abbrev cX7_mean : ByteArray := prog_9_method_17_code
def yX7_mean : MethodName := ⟨RX7, "mean", "(I)I"⟩
abbrev cX7_text : ByteArray := prog_9_method_18_code
def yX7_text : MethodName := ⟨RX7, "text", "(II)I"⟩
abbrev cX7_put : ByteArray := prog_9_method_19_code
def yX7_put : MethodName := ⟨RX7, "put", "(III)I"⟩
abbrev cX7_look : ByteArray := prog_9_method_20_code
def yX7_look : MethodName := ⟨RX7, "look", "(I)I"⟩
abbrev cX7_skips : ByteArray := prog_9_method_21_code
def yX7_skips : MethodName := ⟨RX7, "skips", "(I)V"⟩
abbrev cX7_figure : ByteArray := prog_9_method_22_code
def yX7_figure : MethodName := ⟨RX7, "figure", "(II)I"⟩
abbrev cX7_kindOf : ByteArray := prog_9_method_23_code
def yX7_kindOf : MethodName := ⟨RX7, "kindOf", "(I)I"⟩
abbrev cX7_years : ByteArray := prog_9_method_24_code
def yX7_years : MethodName := ⟨RX7, "years", "(I)I"⟩
abbrev cX7_readsHead : ByteArray := prog_9_method_25_code
def yX7_readsHead : MethodName := ⟨RX7, "readsHead", "(I)V"⟩
abbrev cX7_readsShip : ByteArray := prog_9_method_26_code
def yX7_readsShip : MethodName := ⟨RX7, "readsShip", "(I)V"⟩
abbrev cX7_reads : ByteArray := prog_9_method_27_code
def yX7_reads : MethodName := ⟨RX7, "reads", "(I)I"⟩
abbrev cX7_fault : ByteArray := prog_9_method_28_code
def yX7_fault : MethodName := ⟨RX7, "fault", "(I)I"⟩
abbrev cX7_copies : ByteArray := prog_9_method_29_code
def yX7_copies : MethodName := ⟨RX7, "copies", "([II[II)V"⟩
abbrev cX7_harbour : ByteArray := prog_9_method_30_code
def yX7_harbour : MethodName := ⟨RX7, "harbour", "(I)I"⟩
abbrev cX7_isShip : ByteArray := prog_9_method_31_code
def yX7_isShip : MethodName := ⟨RX7, "isShip", "(I)Z"⟩
abbrev cX7_are : ByteArray := prog_9_method_32_code
def yX7_are : MethodName := ⟨RX7, "are", "()Z"⟩
abbrev cX7_of : ByteArray := prog_9_method_33_code
def yX7_of : MethodName := ⟨RX7, "of", "(II)I"⟩
abbrev cX7_aged : ByteArray := prog_9_method_34_code
def yX7_aged : MethodName := ⟨RX7, "aged", "(IIII)I"⟩
abbrev cX7_oldIn : ByteArray := prog_9_method_35_code
def yX7_oldIn : MethodName := ⟨RX7, "oldIn", "(II)I"⟩
abbrev cX7_ageIn : ByteArray := prog_9_method_36_code
def yX7_ageIn : MethodName := ⟨RX7, "ageIn", "(II)I"⟩
abbrev cX7_ageNow : ByteArray := prog_9_method_37_code
def yX7_ageNow : MethodName := ⟨RX7, "ageNow", "(I)I"⟩
abbrev cX7_isAheadBy : ByteArray := prog_9_method_38_code
def yX7_isAheadBy : MethodName := ⟨RX7, "isAheadBy", "(IIII)Z"⟩
abbrev cX7_isAhead : ByteArray := prog_9_method_39_code
def yX7_isAhead : MethodName := ⟨RX7, "isAhead", "(II)Z"⟩
abbrev cX7_berthBy : ByteArray := prog_9_method_40_code
def yX7_berthBy : MethodName := ⟨RX7, "berthBy", "(IIII)I"⟩
abbrev cX7_berthIn : ByteArray := prog_9_method_41_code
def yX7_berthIn : MethodName := ⟨RX7, "berthIn", "(II)I"⟩
abbrev cX7_shiftedBy : ByteArray := prog_9_method_42_code
def yX7_shiftedBy : MethodName := ⟨RX7, "shiftedBy", "(II)I"⟩
abbrev cX7_shipHas : ByteArray := prog_9_method_43_code
def yX7_shipHas : MethodName := ⟨RX7, "shipHas", "(II)I"⟩
abbrev cX7_ship : ByteArray := prog_9_method_44_code
def yX7_ship : MethodName := ⟨RX7, "ship", "(II)I"⟩
abbrev cX7_isOf : ByteArray := prog_9_method_45_code
def yX7_isOf : MethodName := ⟨RX7, "isOf", "(II)Z"⟩
abbrev cX7_markOf : ByteArray := prog_9_method_46_code
def yX7_markOf : MethodName := ⟨RX7, "markOf", "(II)I"⟩
abbrev cX7_mark : ByteArray := prog_9_method_47_code
def yX7_mark : MethodName := ⟨RX7, "mark", "(II)I"⟩
abbrev cX7_age : ByteArray := prog_9_method_48_code
def yX7_age : MethodName := ⟨RX7, "age", "(II)I"⟩
abbrev cX7_notes : ByteArray := prog_9_method_49_code
def yX7_notes : MethodName := ⟨RX7, "notes", "(IIII)V"⟩
abbrev cX7_goes : ByteArray := prog_9_method_50_code
def yX7_goes : MethodName := ⟨RX7, "goes", "(I)I"⟩
abbrev cX7_moves : ByteArray := prog_9_method_51_code
def yX7_moves : MethodName := ⟨RX7, "moves", "(IZ)I"⟩
abbrev cX7_come : ByteArray := prog_9_method_52_code
def yX7_come : MethodName := ⟨RX7, "come", "(I)I"⟩
abbrev cX7_leave : ByteArray := prog_9_method_53_code
def yX7_leave : MethodName := ⟨RX7, "leave", "(I)I"⟩
abbrev cX7_pay : ByteArray := prog_9_method_54_code
def yX7_pay : MethodName := ⟨RX7, "pay", "(I)I"⟩
abbrev cX7_tea : ByteArray := prog_9_method_55_code
def yX7_tea : MethodName := ⟨RX7, "tea", "(I)I"⟩
abbrev cX7_excess : ByteArray := prog_9_method_56_code
def yX7_excess : MethodName := ⟨RX7, "excess", "(I)I"⟩
abbrev cX7_grounded : ByteArray := prog_9_method_57_code
def yX7_grounded : MethodName := ⟨RX7, "grounded", "()I"⟩
abbrev cX7_grounds : ByteArray := prog_9_method_58_code
def yX7_grounds : MethodName := ⟨RX7, "grounds", "(II)V"⟩
abbrev cX7_ebbs : ByteArray := prog_9_method_59_code
def yX7_ebbs : MethodName := ⟨RX7, "ebbs", "()I"⟩
abbrev cX7_tide : ByteArray := prog_9_method_60_code
def yX7_tide : MethodName := ⟨RX7, "tide", "()I"⟩
abbrev cX7_year : ByteArray := prog_9_method_61_code
def yX7_year : MethodName := ⟨RX7, "year", "()I"⟩
abbrev cX7_takesBack : ByteArray := prog_9_method_62_code
def yX7_takesBack : MethodName := ⟨RX7, "takesBack", "(I)V"⟩
abbrev cX7_undo : ByteArray := prog_9_method_63_code
def yX7_undo : MethodName := ⟨RX7, "undo", "(I)I"⟩
abbrev cX7_keep : ByteArray := prog_9_method_64_code
def yX7_keep : MethodName := ⟨RX7, "keep", "(I)I"⟩
abbrev cX7_on : ByteArray := prog_9_method_65_code
def yX7_on : MethodName := ⟨RX7, "on", "(I)I"⟩
abbrev cX7_berths : ByteArray := prog_9_method_66_code
def yX7_berths : MethodName := ⟨RX7, "berths", "(I)I"⟩
abbrev cX7_hours : ByteArray := prog_9_method_67_code
def yX7_hours : MethodName := ⟨RX7, "hours", "(I)I"⟩
abbrev cX7_ground : ByteArray := prog_9_method_68_code
def yX7_ground : MethodName := ⟨RX7, "ground", "()I"⟩
abbrev cX7_enters : ByteArray := prog_9_method_69_code
def yX7_enters : MethodName := ⟨RX7, "enters", "(I)Z"⟩
abbrev cX7_nextOrder : ByteArray := prog_9_method_70_code
def yX7_nextOrder : MethodName := ⟨RX7, "nextOrder", "(I)Z"⟩
abbrev cX7_swaps : ByteArray := prog_9_method_71_code
def yX7_swaps : MethodName := ⟨RX7, "swaps", "(II)V"⟩
abbrev cX7_enter : ByteArray := prog_9_method_72_code
def yX7_enter : MethodName := ⟨RX7, "enter", "(I)I"⟩
abbrev cX7_areOnce : ByteArray := prog_9_method_73_code
def yX7_areOnce : MethodName := ⟨RX7, "areOnce", "(II)Z"⟩
abbrev cX7_all : ByteArray := prog_9_method_74_code
def yX7_all : MethodName := ⟨RX7, "all", "()I"⟩
abbrev cX7_order : ByteArray := prog_9_method_75_code
def yX7_order : MethodName := ⟨RX7, "order", "(I)I"⟩
abbrev cX7_isBerth : ByteArray := prog_9_method_76_code
def yX7_isBerth : MethodName := ⟨RX7, "isBerth", "(I)Z"⟩
abbrev cX7_when : ByteArray := prog_9_method_77_code
def yX7_when : MethodName := ⟨RX7, "when", "(II)I"⟩
abbrev cX7_built : ByteArray := prog_9_method_78_code
def yX7_built : MethodName := ⟨RX7, "built", "(II)I"⟩
abbrev cX7_least : ByteArray := prog_9_method_79_code
def yX7_least : MethodName := ⟨RX7, "least", "(II)I"⟩
abbrev cX7_wrong : ByteArray := prog_9_method_80_code
def yX7_wrong : MethodName := ⟨RX7, "wrong", "(I)I"⟩
abbrev cX7_barred : ByteArray := prog_9_method_81_code
def yX7_barred : MethodName := ⟨RX7, "barred", "(II)I"⟩
abbrev cX7_ageAs : ByteArray := prog_9_method_82_code
def yX7_ageAs : MethodName := ⟨RX7, "ageAs", "(III)I"⟩
abbrev cX7_kindsBy : ByteArray := prog_9_method_83_code
def yX7_kindsBy : MethodName := ⟨RX7, "kindsBy", "(II)I"⟩
abbrev cX7_kinds : ByteArray := prog_9_method_84_code
def yX7_kinds : MethodName := ⟨RX7, "kinds", "(II)I"⟩
abbrev cX7_alike : ByteArray := prog_9_method_85_code
def yX7_alike : MethodName := ⟨RX7, "alike", "(III)I"⟩
abbrev cX7_test : ByteArray := prog_9_method_86_code
def yX7_test : MethodName := ⟨RX7, "test", "(II)I"⟩
abbrev cX7_valueOf : ByteArray := prog_9_method_87_code
def yX7_valueOf : MethodName := ⟨RX7, "valueOf", "(I)I"⟩
abbrev cX7_comes : ByteArray := prog_9_method_88_code
def yX7_comes : MethodName := ⟨RX7, "comes", "(II)V"⟩
abbrev cX7_duel : ByteArray := prog_9_method_89_code
def yX7_duel : MethodName := ⟨RX7, "duel", "(I)I"⟩
abbrev cX7_chance : ByteArray := prog_9_method_90_code
def yX7_chance : MethodName := ⟨RX7, "chance", "(III)I"⟩
abbrev cX7_odds : ByteArray := prog_9_method_91_code
def yX7_odds : MethodName := ⟨RX7, "odds", "(III)I"⟩
abbrev cX7_mid : ByteArray := prog_9_method_92_code
def yX7_mid : MethodName := ⟨RX7, "mid", "(II)I"⟩
abbrev cX7_lots : ByteArray := prog_9_method_93_code
def yX7_lots : MethodName := ⟨RX7, "lots", "(II)I"⟩
abbrev cX7_asked : ByteArray := prog_9_method_94_code
def yX7_asked : MethodName := ⟨RX7, "asked", "()I"⟩
abbrev cX7_upper : ByteArray := prog_9_method_95_code
def yX7_upper : MethodName := ⟨RX7, "upper", "()J"⟩
abbrev cX7_lower : ByteArray := prog_9_method_96_code
def yX7_lower : MethodName := ⟨RX7, "lower", "()J"⟩
abbrev cX7_count : ByteArray := prog_9_method_97_code
def yX7_count : MethodName := ⟨RX7, "count", "(I)I"⟩
abbrev cX7_finding : ByteArray := prog_9_method_98_code
def yX7_finding : MethodName := ⟨RX7, "finding", "()I"⟩
abbrev cX7_findings : ByteArray := prog_9_method_99_code
def yX7_findings : MethodName := ⟨RX7, "findings", "(I)I"⟩
abbrev cX7_digest : ByteArray := prog_9_method_100_code
def yX7_digest : MethodName := ⟨RX7, "digest", "()J"⟩
def RJ6 : String := "java/lang/Integer"
def TJ6 : u_T := fun k => match k with
  | _ => ("", "", "", false)
def tyJ6 : Nat → FieldType := fun k => match k with
  | _ => .int
abbrev wsJ60 : List Cond := u_ws RJ6 TJ6 0
theorem nmJ6 : ∀ a, a < 0 → ∀ b, b < 0 → a ≠ b → (TJ6 a).2.1 ≠ (TJ6 b).2.1 := by decide +kernel
theorem tyJ6_ok : ∀ k, k < 0 → parseFieldDescriptor (TJ6 k).2.2.1 = some (tyJ6 k) := by decide +kernel
abbrev cJ6_bitCount_0f7a4 : ByteArray := prog_10_method_49_code
def yJ6_bitCount_0f7a4 : MethodName := ⟨RJ6, "bitCount", "(I)I"⟩
def RJ9 : String := "java/lang/Math"
def TJ9 : u_T := fun k => match k with
  | _ => ("", "", "", false)
def tyJ9 : Nat → FieldType := fun k => match k with
  | _ => .int
abbrev wsJ90 : List Cond := u_ws RJ9 TJ9 0
theorem nmJ9 : ∀ a, a < 0 → ∀ b, b < 0 → a ≠ b → (TJ9 a).2.1 ≠ (TJ9 b).2.1 := by decide +kernel
theorem tyJ9_ok : ∀ k, k < 0 → parseFieldDescriptor (TJ9 k).2.2.1 = some (tyJ9 k) := by decide +kernel
abbrev cJ9_max_7cf53 : ByteArray := prog_11_method_65_code
def yJ9_max_7cf53 : MethodName := ⟨RJ9, "max", "(II)I"⟩
abbrev cJ9_min_7cf53 : ByteArray := prog_11_method_69_code
def yJ9_min_7cf53 : MethodName := ⟨RJ9, "min", "(II)I"⟩
def RJ10 : String := "java/lang/System"
def TJ10 : u_T := fun k => match k with
  | _ => ("", "", "", false)
def tyJ10 : Nat → FieldType := fun k => match k with
  | _ => .int
abbrev wsJ100 : List Cond := u_ws RJ10 TJ10 0
theorem nmJ10 : ∀ a, a < 0 → ∀ b, b < 0 → a ≠ b → (TJ10 a).2.1 ≠ (TJ10 b).2.1 := by decide +kernel
theorem tyJ10_ok : ∀ k, k < 0 → parseFieldDescriptor (TJ10 k).2.2.1 = some (tyJ10 k) := by decide +kernel
def RJ7 : String := "java/util/Arrays"
def TJ7 : u_T := fun k => match k with
  | _ => ("", "", "", false)
def tyJ7 : Nat → FieldType := fun k => match k with
  | _ => .int
abbrev wsJ70 : List Cond := u_ws RJ7 TJ7 0
theorem nmJ7 : ∀ a, a < 0 → ∀ b, b < 0 → a ≠ b → (TJ7 a).2.1 ≠ (TJ7 b).2.1 := by decide +kernel
theorem tyJ7_ok : ∀ k, k < 0 → parseFieldDescriptor (TJ7 k).2.2.1 = some (tyJ7 k) := by decide +kernel
abbrev cJ7_fill_d0a16 : ByteArray := prog_13_method_101_code
def yJ7_fill_d0a16 : MethodName := ⟨RJ7, "fill", "([JJ)V"⟩
abbrev cJ7_fill_53178 : ByteArray := prog_13_method_103_code
def yJ7_fill_53178 : MethodName := ⟨RJ7, "fill", "([II)V"⟩
def RL : String := "BerthAgesLaw"
abbrev cL_law : ByteArray := code
def yL_law : MethodName := ⟨RL, "law", "([I)Z"⟩
abbrev vwCl : List vw_C := [(RX0, TX0, 3), (RX1, TX1, 9), (RX2, TX2, 12), (RX3, TX3, 3), (RX4, TX4, 11), (RX5, TX5, 4), (RX6, TX6, 11), (RX7, TX7, 21)]
/-- the words that a call can hand on -/
def lwg : List Cond := lw_tbl.filter goodWord
theorem lw_good : lwg.all goodWord = true := by simp [lwg]
theorem lwg_in {w : Cond} (h : w ∈ lwg) : w ∈ lw_tbl := (List.mem_filter.mp h).1
theorem in_lwg {w : Cond} {i : Nat} (h : lw_tbl[i]? = some w) (hg : goodWord w = true) : w ∈ lwg := List.mem_filter.mpr ⟨List.mem_of_getElem? h, hg⟩
theorem inX0 : ∀ w ∈ wsX00, w ∈ lwg := by decide +kernel
theorem inX1 : ∀ w ∈ wsX10, w ∈ lwg := by decide +kernel
theorem inX2 : ∀ w ∈ wsX20, w ∈ lwg := by decide +kernel
theorem inX3 : ∀ w ∈ wsX30, w ∈ lwg := by decide +kernel
theorem inX4 : ∀ w ∈ wsX40, w ∈ lwg := by decide +kernel
theorem inX5 : ∀ w ∈ wsX50, w ∈ lwg := by decide +kernel
theorem inX6 : ∀ w ∈ wsX60, w ∈ lwg := by decide +kernel
theorem inX7 : ∀ w ∈ wsX70, w ∈ lwg := by decide +kernel
