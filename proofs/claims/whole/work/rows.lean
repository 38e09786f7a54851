section
/-- a private method of a class that the tables say can be made, by its rows of tables_1 -/
def lw_okq (q : MethodName × Nat) : Prop := (q.1.cls ≠ "java/lang/invoke/MethodHandle" ∧ q.1.cls ≠ "java/lang/invoke/VarHandle") ∧ Cond.instantiable q.1.cls q.2 ∈ tables_1 ∧ Cond.privateMethod q.1 ∈ tables_1 ∧ Cond.instanceMethod q.1 ∈ tables_1
theorem lw_p0 : lw_okq (⟨"BreadGames", "finding", "(I)I"⟩, 7) := ⟨⟨by decide +kernel, by decide +kernel⟩, List.mem_of_getElem? (i := 14) (by decide +kernel), List.mem_of_getElem? (i := 172) (by decide +kernel), List.mem_of_getElem? (i := 173) (by decide +kernel)⟩
theorem lw_p1 : lw_okq (⟨"BreadGames", "hindrance", "(I)I"⟩, 7) := ⟨⟨by decide +kernel, by decide +kernel⟩, List.mem_of_getElem? (i := 14) (by decide +kernel), List.mem_of_getElem? (i := 339) (by decide +kernel), List.mem_of_getElem? (i := 340) (by decide +kernel)⟩
theorem lw_p2 : lw_okq (⟨"BreadGames", "leastCalmRuling", "(II)I"⟩, 7) := ⟨⟨by decide +kernel, by decide +kernel⟩, List.mem_of_getElem? (i := 14) (by decide +kernel), List.mem_of_getElem? (i := 401) (by decide +kernel), List.mem_of_getElem? (i := 402) (by decide +kernel)⟩
theorem lw_p3 : lw_okq (⟨"BreadGames", "isCalmWith", "(III)Z"⟩, 7) := ⟨⟨by decide +kernel, by decide +kernel⟩, List.mem_of_getElem? (i := 14) (by decide +kernel), List.mem_of_getElem? (i := 409) (by decide +kernel), List.mem_of_getElem? (i := 410) (by decide +kernel)⟩
theorem lw_p4 : lw_okq (⟨"BreadGames", "bestTrait", "(IIII)I"⟩, 7) := ⟨⟨by decide +kernel, by decide +kernel⟩, List.mem_of_getElem? (i := 14) (by decide +kernel), List.mem_of_getElem? (i := 421) (by decide +kernel), List.mem_of_getElem? (i := 422) (by decide +kernel)⟩
theorem lw_p5 : lw_okq (⟨"BreadGames", "waysThat", "(II)J"⟩, 7) := ⟨⟨by decide +kernel, by decide +kernel⟩, List.mem_of_getElem? (i := 14) (by decide +kernel), List.mem_of_getElem? (i := 445) (by decide +kernel), List.mem_of_getElem? (i := 446) (by decide +kernel)⟩
theorem lw_p6 : lw_okq (⟨"BreadGames", "isSo", "(III)Z"⟩, 7) := ⟨⟨by decide +kernel, by decide +kernel⟩, List.mem_of_getElem? (i := 14) (by decide +kernel), List.mem_of_getElem? (i := 462) (by decide +kernel), List.mem_of_getElem? (i := 463) (by decide +kernel)⟩
theorem lw_p7 : lw_okq (⟨"BreadGames", "readItem", "()Z"⟩, 7) := ⟨⟨by decide +kernel, by decide +kernel⟩, List.mem_of_getElem? (i := 14) (by decide +kernel), List.mem_of_getElem? (i := 532) (by decide +kernel), List.mem_of_getElem? (i := 533) (by decide +kernel)⟩
theorem lw_p8 : lw_okq (⟨"BreadGames", "readCitizen", "(I)Z"⟩, 7) := ⟨⟨by decide +kernel, by decide +kernel⟩, List.mem_of_getElem? (i := 14) (by decide +kernel), List.mem_of_getElem? (i := 602) (by decide +kernel), List.mem_of_getElem? (i := 603) (by decide +kernel)⟩
theorem lw_p9 : lw_okq (⟨"BreadGames", "readTrait", "(Ljava/lang/String;I)Z"⟩, 7) := ⟨⟨by decide +kernel, by decide +kernel⟩, List.mem_of_getElem? (i := 14) (by decide +kernel), List.mem_of_getElem? (i := 607) (by decide +kernel), List.mem_of_getElem? (i := 608) (by decide +kernel)⟩
theorem lw_p10 : lw_okq (⟨"BreadGames", "readRuling", "(I)Z"⟩, 7) := ⟨⟨by decide +kernel, by decide +kernel⟩, List.mem_of_getElem? (i := 14) (by decide +kernel), List.mem_of_getElem? (i := 617) (by decide +kernel), List.mem_of_getElem? (i := 618) (by decide +kernel)⟩
theorem lw_p11 : lw_okq (⟨"BreadGames", "sheetHindrance", "(I)I"⟩, 7) := ⟨⟨by decide +kernel, by decide +kernel⟩, List.mem_of_getElem? (i := 14) (by decide +kernel), List.mem_of_getElem? (i := 655) (by decide +kernel), List.mem_of_getElem? (i := 656) (by decide +kernel)⟩
theorem lw_p12 : lw_okq (⟨"BreadGamesModel", "finds", "(I)I"⟩, 17) := ⟨⟨by decide +kernel, by decide +kernel⟩, List.mem_of_getElem? (i := 710) (by decide +kernel), List.mem_of_getElem? (i := 780) (by decide +kernel), List.mem_of_getElem? (i := 781) (by decide +kernel)⟩
theorem lw_p13 : lw_okq (⟨"BreadGamesModel", "comes", "(IIIII)I"⟩, 17) := ⟨⟨by decide +kernel, by decide +kernel⟩, List.mem_of_getElem? (i := 710) (by decide +kernel), List.mem_of_getElem? (i := 785) (by decide +kernel), List.mem_of_getElem? (i := 786) (by decide +kernel)⟩
theorem lw_p14 : lw_okq (⟨"BreadGamesModel", "makes", "(III)V"⟩, 17) := ⟨⟨by decide +kernel, by decide +kernel⟩, List.mem_of_getElem? (i := 710) (by decide +kernel), List.mem_of_getElem? (i := 789) (by decide +kernel), List.mem_of_getElem? (i := 790) (by decide +kernel)⟩
theorem lw_p15 : lw_okq (⟨"BreadGamesModel", "isOne", "(I)Z"⟩, 17) := ⟨⟨by decide +kernel, by decide +kernel⟩, List.mem_of_getElem? (i := 710) (by decide +kernel), List.mem_of_getElem? (i := 797) (by decide +kernel), List.mem_of_getElem? (i := 798) (by decide +kernel)⟩
def lw_privs_1 : List (MethodName × Nat) := [(⟨"BreadGames", "finding", "(I)I"⟩, 7), (⟨"BreadGames", "hindrance", "(I)I"⟩, 7), (⟨"BreadGames", "leastCalmRuling", "(II)I"⟩, 7), (⟨"BreadGames", "isCalmWith", "(III)Z"⟩, 7), (⟨"BreadGames", "bestTrait", "(IIII)I"⟩, 7), (⟨"BreadGames", "waysThat", "(II)J"⟩, 7), (⟨"BreadGames", "isSo", "(III)Z"⟩, 7), (⟨"BreadGames", "readItem", "()Z"⟩, 7), (⟨"BreadGames", "readCitizen", "(I)Z"⟩, 7), (⟨"BreadGames", "readTrait", "(Ljava/lang/String;I)Z"⟩, 7), (⟨"BreadGames", "readRuling", "(I)Z"⟩, 7), (⟨"BreadGames", "sheetHindrance", "(I)I"⟩, 7), (⟨"BreadGamesModel", "finds", "(I)I"⟩, 17), (⟨"BreadGamesModel", "comes", "(IIIII)I"⟩, 17), (⟨"BreadGamesModel", "makes", "(III)V"⟩, 17), (⟨"BreadGamesModel", "isOne", "(I)Z"⟩, 17)]
theorem lw_r1 : ∀ q ∈ lw_privs_1, lw_okq q := List.forall_mem_cons.mpr ⟨lw_p0, List.forall_mem_cons.mpr ⟨lw_p1, List.forall_mem_cons.mpr ⟨lw_p2, List.forall_mem_cons.mpr ⟨lw_p3, List.forall_mem_cons.mpr ⟨lw_p4, List.forall_mem_cons.mpr ⟨lw_p5, List.forall_mem_cons.mpr ⟨lw_p6, List.forall_mem_cons.mpr ⟨lw_p7, List.forall_mem_cons.mpr ⟨lw_p8, List.forall_mem_cons.mpr ⟨lw_p9, List.forall_mem_cons.mpr ⟨lw_p10, List.forall_mem_cons.mpr ⟨lw_p11, List.forall_mem_cons.mpr ⟨lw_p12, List.forall_mem_cons.mpr ⟨lw_p13, List.forall_mem_cons.mpr ⟨lw_p14, List.forall_mem_cons.mpr ⟨lw_p15, fun _ h => absurd h List.not_mem_nil⟩⟩⟩⟩⟩⟩⟩⟩⟩⟩⟩⟩⟩⟩⟩⟩
theorem lw_p16 : lw_okq (⟨"BreadGamesModel", "is", "(II)I"⟩, 17) := ⟨⟨by decide +kernel, by decide +kernel⟩, List.mem_of_getElem? (i := 710) (by decide +kernel), List.mem_of_getElem? (i := 802) (by decide +kernel), List.mem_of_getElem? (i := 803) (by decide +kernel)⟩
theorem lw_p17 : lw_okq (⟨"BreadGamesModel", "loafWorth", "(I)I"⟩, 17) := ⟨⟨by decide +kernel, by decide +kernel⟩, List.mem_of_getElem? (i := 710) (by decide +kernel), List.mem_of_getElem? (i := 806) (by decide +kernel), List.mem_of_getElem? (i := 807) (by decide +kernel)⟩
theorem lw_p18 : lw_okq (⟨"BreadGamesModel", "seatWorth", "(I)I"⟩, 17) := ⟨⟨by decide +kernel, by decide +kernel⟩, List.mem_of_getElem? (i := 710) (by decide +kernel), List.mem_of_getElem? (i := 810) (by decide +kernel), List.mem_of_getElem? (i := 811) (by decide +kernel)⟩
theorem lw_p19 : lw_okq (⟨"BreadGamesModel", "becomes", "(II)I"⟩, 17) := ⟨⟨by decide +kernel, by decide +kernel⟩, List.mem_of_getElem? (i := 710) (by decide +kernel), List.mem_of_getElem? (i := 828) (by decide +kernel), List.mem_of_getElem? (i := 829) (by decide +kernel)⟩
theorem lw_p20 : lw_okq (⟨"BreadGamesModel", "with", "(I)I"⟩, 17) := ⟨⟨by decide +kernel, by decide +kernel⟩, List.mem_of_getElem? (i := 710) (by decide +kernel), List.mem_of_getElem? (i := 844) (by decide +kernel), List.mem_of_getElem? (i := 845) (by decide +kernel)⟩
theorem lw_p21 : lw_okq (⟨"BreadGamesModel", "hungry", "()I"⟩, 17) := ⟨⟨by decide +kernel, by decide +kernel⟩, List.mem_of_getElem? (i := 710) (by decide +kernel), List.mem_of_getElem? (i := 848) (by decide +kernel), List.mem_of_getElem? (i := 849) (by decide +kernel)⟩
theorem lw_p22 : lw_okq (⟨"BreadGamesModel", "cost", "()I"⟩, 17) := ⟨⟨by decide +kernel, by decide +kernel⟩, List.mem_of_getElem? (i := 710) (by decide +kernel), List.mem_of_getElem? (i := 852) (by decide +kernel), List.mem_of_getElem? (i := 853) (by decide +kernel)⟩
theorem lw_p23 : lw_okq (⟨"BreadGamesModel", "wantsOther", "(I)Z"⟩, 17) := ⟨⟨by decide +kernel, by decide +kernel⟩, List.mem_of_getElem? (i := 710) (by decide +kernel), List.mem_of_getElem? (i := 861) (by decide +kernel), List.mem_of_getElem? (i := 862) (by decide +kernel)⟩
theorem lw_p24 : lw_okq (⟨"BreadGamesModel", "changeTokens", "(II)V"⟩, 17) := ⟨⟨by decide +kernel, by decide +kernel⟩, List.mem_of_getElem? (i := 710) (by decide +kernel), List.mem_of_getElem? (i := 869) (by decide +kernel), List.mem_of_getElem? (i := 870) (by decide +kernel)⟩
theorem lw_p25 : lw_okq (⟨"BreadGamesModel", "opens", "()I"⟩, 17) := ⟨⟨by decide +kernel, by decide +kernel⟩, List.mem_of_getElem? (i := 710) (by decide +kernel), List.mem_of_getElem? (i := 877) (by decide +kernel), List.mem_of_getElem? (i := 878) (by decide +kernel)⟩
theorem lw_p26 : lw_okq (⟨"BreadGamesModel", "firstWanting", "(I)I"⟩, 17) := ⟨⟨by decide +kernel, by decide +kernel⟩, List.mem_of_getElem? (i := 710) (by decide +kernel), List.mem_of_getElem? (i := 881) (by decide +kernel), List.mem_of_getElem? (i := 882) (by decide +kernel)⟩
theorem lw_p27 : lw_okq (⟨"BreadGamesModel", "mayBuy", "(III)Z"⟩, 17) := ⟨⟨by decide +kernel, by decide +kernel⟩, List.mem_of_getElem? (i := 710) (by decide +kernel), List.mem_of_getElem? (i := 897) (by decide +kernel), List.mem_of_getElem? (i := 898) (by decide +kernel)⟩
theorem lw_p28 : lw_okq (⟨"BreadGamesModel", "worth", "(II)I"⟩, 17) := ⟨⟨by decide +kernel, by decide +kernel⟩, List.mem_of_getElem? (i := 710) (by decide +kernel), List.mem_of_getElem? (i := 901) (by decide +kernel), List.mem_of_getElem? (i := 902) (by decide +kernel)⟩
theorem lw_p29 : lw_okq (⟨"BreadGamesModel", "isLate", "(I)Z"⟩, 17) := ⟨⟨by decide +kernel, by decide +kernel⟩, List.mem_of_getElem? (i := 710) (by decide +kernel), List.mem_of_getElem? (i := 929) (by decide +kernel), List.mem_of_getElem? (i := 930) (by decide +kernel)⟩
theorem lw_p30 : lw_okq (⟨"BreadGamesModel", "goes", "(I)I"⟩, 17) := ⟨⟨by decide +kernel, by decide +kernel⟩, List.mem_of_getElem? (i := 710) (by decide +kernel), List.mem_of_getElem? (i := 933) (by decide +kernel), List.mem_of_getElem? (i := 934) (by decide +kernel)⟩
theorem lw_p31 : lw_okq (⟨"BreadGamesModel", "aWeek", "()I"⟩, 17) := ⟨⟨by decide +kernel, by decide +kernel⟩, List.mem_of_getElem? (i := 710) (by decide +kernel), List.mem_of_getElem? (i := 937) (by decide +kernel), List.mem_of_getElem? (i := 938) (by decide +kernel)⟩
def lw_privs_2 : List (MethodName × Nat) := [(⟨"BreadGamesModel", "is", "(II)I"⟩, 17), (⟨"BreadGamesModel", "loafWorth", "(I)I"⟩, 17), (⟨"BreadGamesModel", "seatWorth", "(I)I"⟩, 17), (⟨"BreadGamesModel", "becomes", "(II)I"⟩, 17), (⟨"BreadGamesModel", "with", "(I)I"⟩, 17), (⟨"BreadGamesModel", "hungry", "()I"⟩, 17), (⟨"BreadGamesModel", "cost", "()I"⟩, 17), (⟨"BreadGamesModel", "wantsOther", "(I)Z"⟩, 17), (⟨"BreadGamesModel", "changeTokens", "(II)V"⟩, 17), (⟨"BreadGamesModel", "opens", "()I"⟩, 17), (⟨"BreadGamesModel", "firstWanting", "(I)I"⟩, 17), (⟨"BreadGamesModel", "mayBuy", "(III)Z"⟩, 17), (⟨"BreadGamesModel", "worth", "(II)I"⟩, 17), (⟨"BreadGamesModel", "isLate", "(I)Z"⟩, 17), (⟨"BreadGamesModel", "goes", "(I)I"⟩, 17), (⟨"BreadGamesModel", "aWeek", "()I"⟩, 17)]
theorem lw_r2 : ∀ q ∈ lw_privs_2, lw_okq q := List.forall_mem_cons.mpr ⟨lw_p16, List.forall_mem_cons.mpr ⟨lw_p17, List.forall_mem_cons.mpr ⟨lw_p18, List.forall_mem_cons.mpr ⟨lw_p19, List.forall_mem_cons.mpr ⟨lw_p20, List.forall_mem_cons.mpr ⟨lw_p21, List.forall_mem_cons.mpr ⟨lw_p22, List.forall_mem_cons.mpr ⟨lw_p23, List.forall_mem_cons.mpr ⟨lw_p24, List.forall_mem_cons.mpr ⟨lw_p25, List.forall_mem_cons.mpr ⟨lw_p26, List.forall_mem_cons.mpr ⟨lw_p27, List.forall_mem_cons.mpr ⟨lw_p28, List.forall_mem_cons.mpr ⟨lw_p29, List.forall_mem_cons.mpr ⟨lw_p30, List.forall_mem_cons.mpr ⟨lw_p31, fun _ h => absurd h List.not_mem_nil⟩⟩⟩⟩⟩⟩⟩⟩⟩⟩⟩⟩⟩⟩⟩⟩
theorem lw_p32 : lw_okq (⟨"BreadGamesModel", "drawsTokens", "()V"⟩, 17) := ⟨⟨by decide +kernel, by decide +kernel⟩, List.mem_of_getElem? (i := 710) (by decide +kernel), List.mem_of_getElem? (i := 941) (by decide +kernel), List.mem_of_getElem? (i := 942) (by decide +kernel)⟩
theorem lw_p33 : lw_okq (⟨"BreadGamesModel", "draw", "()I"⟩, 17) := ⟨⟨by decide +kernel, by decide +kernel⟩, List.mem_of_getElem? (i := 710) (by decide +kernel), List.mem_of_getElem? (i := 945) (by decide +kernel), List.mem_of_getElem? (i := 946) (by decide +kernel)⟩
theorem lw_p34 : lw_okq (⟨"BreadGamesModel", "eatAndSee", "()V"⟩, 17) := ⟨⟨by decide +kernel, by decide +kernel⟩, List.mem_of_getElem? (i := 710) (by decide +kernel), List.mem_of_getElem? (i := 950) (by decide +kernel), List.mem_of_getElem? (i := 951) (by decide +kernel)⟩
theorem lw_p35 : lw_okq (⟨"BreadGamesModel", "sum", "(I)I"⟩, 17) := ⟨⟨by decide +kernel, by decide +kernel⟩, List.mem_of_getElem? (i := 710) (by decide +kernel), List.mem_of_getElem? (i := 958) (by decide +kernel), List.mem_of_getElem? (i := 959) (by decide +kernel)⟩
theorem lw_p36 : lw_okq (⟨"BreadGamesModel", "orNone", "(I)I"⟩, 17) := ⟨⟨by decide +kernel, by decide +kernel⟩, List.mem_of_getElem? (i := 710) (by decide +kernel), List.mem_of_getElem? (i := 966) (by decide +kernel), List.mem_of_getElem? (i := 967) (by decide +kernel)⟩
theorem lw_p37 : lw_okq (⟨"BreadGamesModel", "tries", "(III)I"⟩, 17) := ⟨⟨by decide +kernel, by decide +kernel⟩, List.mem_of_getElem? (i := 710) (by decide +kernel), List.mem_of_getElem? (i := 978) (by decide +kernel), List.mem_of_getElem? (i := 979) (by decide +kernel)⟩
theorem lw_p38 : lw_okq (⟨"BreadGamesModel", "ofThen", "(IIIII)I"⟩, 17) := ⟨⟨by decide +kernel, by decide +kernel⟩, List.mem_of_getElem? (i := 710) (by decide +kernel), List.mem_of_getElem? (i := 994) (by decide +kernel), List.mem_of_getElem? (i := 995) (by decide +kernel)⟩
theorem lw_p39 : lw_okq (⟨"BreadGamesModel", "drawing", "()I"⟩, 17) := ⟨⟨by decide +kernel, by decide +kernel⟩, List.mem_of_getElem? (i := 710) (by decide +kernel), List.mem_of_getElem? (i := 1018) (by decide +kernel), List.mem_of_getElem? (i := 1019) (by decide +kernel)⟩
theorem lw_p40 : lw_okq (⟨"BreadGamesModel", "isWay", "(I)Z"⟩, 17) := ⟨⟨by decide +kernel, by decide +kernel⟩, List.mem_of_getElem? (i := 710) (by decide +kernel), List.mem_of_getElem? (i := 1022) (by decide +kernel), List.mem_of_getElem? (i := 1023) (by decide +kernel)⟩
theorem lw_p41 : lw_okq (⟨"BreadGamesModel", "lies", "(I)V"⟩, 17) := ⟨⟨by decide +kernel, by decide +kernel⟩, List.mem_of_getElem? (i := 710) (by decide +kernel), List.mem_of_getElem? (i := 1030) (by decide +kernel), List.mem_of_getElem? (i := 1031) (by decide +kernel)⟩
theorem lw_p42 : lw_okq (⟨"BreadGamesModel", "token", "()V"⟩, 17) := ⟨⟨by decide +kernel, by decide +kernel⟩, List.mem_of_getElem? (i := 710) (by decide +kernel), List.mem_of_getElem? (i := 1061) (by decide +kernel), List.mem_of_getElem? (i := 1062) (by decide +kernel)⟩
theorem lw_p43 : lw_okq (⟨"BreadGamesModel", "isByte", "(III)Z"⟩, 17) := ⟨⟨by decide +kernel, by decide +kernel⟩, List.mem_of_getElem? (i := 710) (by decide +kernel), List.mem_of_getElem? (i := 1065) (by decide +kernel), List.mem_of_getElem? (i := 1066) (by decide +kernel)⟩
theorem lw_p44 : lw_okq (⟨"BreadGamesModel", "item", "()V"⟩, 17) := ⟨⟨by decide +kernel, by decide +kernel⟩, List.mem_of_getElem? (i := 710) (by decide +kernel), List.mem_of_getElem? (i := 1069) (by decide +kernel), List.mem_of_getElem? (i := 1070) (by decide +kernel)⟩
theorem lw_p45 : lw_okq (⟨"BreadGamesModel", "kindHere", "()I"⟩, 17) := ⟨⟨by decide +kernel, by decide +kernel⟩, List.mem_of_getElem? (i := 710) (by decide +kernel), List.mem_of_getElem? (i := 1073) (by decide +kernel), List.mem_of_getElem? (i := 1074) (by decide +kernel)⟩
theorem lw_p46 : lw_okq (⟨"BreadGamesModel", "isWord", "(Ljava/lang/String;)Z"⟩, 17) := ⟨⟨by decide +kernel, by decide +kernel⟩, List.mem_of_getElem? (i := 710) (by decide +kernel), List.mem_of_getElem? (i := 1078) (by decide +kernel), List.mem_of_getElem? (i := 1079) (by decide +kernel)⟩
theorem lw_p47 : lw_okq (⟨"BreadGamesModel", "citizenItem", "(I)V"⟩, 17) := ⟨⟨by decide +kernel, by decide +kernel⟩, List.mem_of_getElem? (i := 710) (by decide +kernel), List.mem_of_getElem? (i := 1090) (by decide +kernel), List.mem_of_getElem? (i := 1091) (by decide +kernel)⟩
def lw_privs_3 : List (MethodName × Nat) := [(⟨"BreadGamesModel", "drawsTokens", "()V"⟩, 17), (⟨"BreadGamesModel", "draw", "()I"⟩, 17), (⟨"BreadGamesModel", "eatAndSee", "()V"⟩, 17), (⟨"BreadGamesModel", "sum", "(I)I"⟩, 17), (⟨"BreadGamesModel", "orNone", "(I)I"⟩, 17), (⟨"BreadGamesModel", "tries", "(III)I"⟩, 17), (⟨"BreadGamesModel", "ofThen", "(IIIII)I"⟩, 17), (⟨"BreadGamesModel", "drawing", "()I"⟩, 17), (⟨"BreadGamesModel", "isWay", "(I)Z"⟩, 17), (⟨"BreadGamesModel", "lies", "(I)V"⟩, 17), (⟨"BreadGamesModel", "token", "()V"⟩, 17), (⟨"BreadGamesModel", "isByte", "(III)Z"⟩, 17), (⟨"BreadGamesModel", "item", "()V"⟩, 17), (⟨"BreadGamesModel", "kindHere", "()I"⟩, 17), (⟨"BreadGamesModel", "isWord", "(Ljava/lang/String;)Z"⟩, 17), (⟨"BreadGamesModel", "citizenItem", "(I)V"⟩, 17)]
theorem lw_r3 : ∀ q ∈ lw_privs_3, lw_okq q := List.forall_mem_cons.mpr ⟨lw_p32, List.forall_mem_cons.mpr ⟨lw_p33, List.forall_mem_cons.mpr ⟨lw_p34, List.forall_mem_cons.mpr ⟨lw_p35, List.forall_mem_cons.mpr ⟨lw_p36, List.forall_mem_cons.mpr ⟨lw_p37, List.forall_mem_cons.mpr ⟨lw_p38, List.forall_mem_cons.mpr ⟨lw_p39, List.forall_mem_cons.mpr ⟨lw_p40, List.forall_mem_cons.mpr ⟨lw_p41, List.forall_mem_cons.mpr ⟨lw_p42, List.forall_mem_cons.mpr ⟨lw_p43, List.forall_mem_cons.mpr ⟨lw_p44, List.forall_mem_cons.mpr ⟨lw_p45, List.forall_mem_cons.mpr ⟨lw_p46, List.forall_mem_cons.mpr ⟨lw_p47, fun _ h => absurd h List.not_mem_nil⟩⟩⟩⟩⟩⟩⟩⟩⟩⟩⟩⟩⟩⟩⟩⟩
theorem lw_p48 : lw_okq (⟨"BreadGamesModel", "takes", "(Ljava/lang/String;)Z"⟩, 17) := ⟨⟨by decide +kernel, by decide +kernel⟩, List.mem_of_getElem? (i := 710) (by decide +kernel), List.mem_of_getElem? (i := 1095) (by decide +kernel), List.mem_of_getElem? (i := 1096) (by decide +kernel)⟩
theorem lw_p49 : lw_okq (⟨"BreadGamesModel", "number", "(II)I"⟩, 17) := ⟨⟨by decide +kernel, by decide +kernel⟩, List.mem_of_getElem? (i := 710) (by decide +kernel), List.mem_of_getElem? (i := 1099) (by decide +kernel), List.mem_of_getElem? (i := 1100) (by decide +kernel)⟩
theorem lw_p50 : lw_okq (⟨"BreadGamesModel", "ruleHere", "()I"⟩, 17) := ⟨⟨by decide +kernel, by decide +kernel⟩, List.mem_of_getElem? (i := 710) (by decide +kernel), List.mem_of_getElem? (i := 1109) (by decide +kernel), List.mem_of_getElem? (i := 1110) (by decide +kernel)⟩
theorem lw_p51 : lw_okq (⟨"BreadGamesModel", "ruleItem", "(I)V"⟩, 17) := ⟨⟨by decide +kernel, by decide +kernel⟩, List.mem_of_getElem? (i := 710) (by decide +kernel), List.mem_of_getElem? (i := 1117) (by decide +kernel), List.mem_of_getElem? (i := 1118) (by decide +kernel)⟩
theorem lw_p52 : lw_okq (⟨"BreadGamesModel", "isSign", "(I)Z"⟩, 17) := ⟨⟨by decide +kernel, by decide +kernel⟩, List.mem_of_getElem? (i := 710) (by decide +kernel), List.mem_of_getElem? (i := 1121) (by decide +kernel), List.mem_of_getElem? (i := 1122) (by decide +kernel)⟩
theorem lw_p53 : lw_okq (⟨"BreadGamesModel", "holding", "()I"⟩, 17) := ⟨⟨by decide +kernel, by decide +kernel⟩, List.mem_of_getElem? (i := 710) (by decide +kernel), List.mem_of_getElem? (i := 1182) (by decide +kernel), List.mem_of_getElem? (i := 1183) (by decide +kernel)⟩
def lw_privs_4 : List (MethodName × Nat) := [(⟨"BreadGamesModel", "takes", "(Ljava/lang/String;)Z"⟩, 17), (⟨"BreadGamesModel", "number", "(II)I"⟩, 17), (⟨"BreadGamesModel", "ruleHere", "()I"⟩, 17), (⟨"BreadGamesModel", "ruleItem", "(I)V"⟩, 17), (⟨"BreadGamesModel", "isSign", "(I)Z"⟩, 17), (⟨"BreadGamesModel", "holding", "()I"⟩, 17)]
theorem lw_r4 : ∀ q ∈ lw_privs_4, lw_okq q := List.forall_mem_cons.mpr ⟨lw_p48, List.forall_mem_cons.mpr ⟨lw_p49, List.forall_mem_cons.mpr ⟨lw_p50, List.forall_mem_cons.mpr ⟨lw_p51, List.forall_mem_cons.mpr ⟨lw_p52, List.forall_mem_cons.mpr ⟨lw_p53, fun _ h => absurd h List.not_mem_nil⟩⟩⟩⟩⟩⟩
def lw_privs : List (MethodName × Nat) := lw_privs_1 ++ (lw_privs_2 ++ (lw_privs_3 ++ (lw_privs_4)))
def lw_tbl : List Cond := k2_sels lw_privs ++ tables_1
theorem lw_privs_ok : ∀ q ∈ lw_privs, lw_okq q := by
  show ∀ q ∈ lw_privs_1 ++ (lw_privs_2 ++ (lw_privs_3 ++ (lw_privs_4))), lw_okq q
  exact List.forall_mem_append.mpr ⟨lw_r1, List.forall_mem_append.mpr ⟨lw_r2, List.forall_mem_append.mpr ⟨lw_r3, lw_r4⟩⟩⟩

def RX0 : String := "BreadGames$City"
def TX0 : u_T := fun k => match k with
  | 0 => ("BreadGames$City", "kind", "[I", true)
  | 1 => ("BreadGames$City", "hunger", "[I", true)
  | 2 => ("BreadGames$City", "colour", "[I", true)
  | 3 => ("BreadGames$City", "coin", "[I", true)
  | 4 => ("BreadGames$City", "joy", "[I", true)
  | 5 => ("BreadGames$City", "token", "[I", true)
  | 6 => ("BreadGames$City", "spot", "[I", true)
  | 7 => ("BreadGames$City", "people", "I", false)
  | 8 => ("BreadGames$City", "leads", "I", false)
  | 9 => ("BreadGames$City", "loaves", "I", false)
  | 10 => ("BreadGames$City", "seats", "I", false)
  | 11 => ("BreadGames$City", "bound", "I", false)
  | 12 => ("BreadGames$City", "stale", "I", false)
  | 13 => ("BreadGames$City", "week", "I", false)
  | 14 => ("BreadGames$City", "riots", "I", false)
  | _ => ("BreadGames$City", "z", "I", false)
def tyX0 : Nat → FieldType := fun k => match k with
  | 0 => .array .int
  | 1 => .array .int
  | 2 => .array .int
  | 3 => .array .int
  | 4 => .array .int
  | 5 => .array .int
  | 6 => .array .int
  | 7 => .int
  | 8 => .int
  | 9 => .int
  | 10 => .int
  | 11 => .int
  | 12 => .int
  | 13 => .int
  | 14 => .int
  | _ => .int
theorem nmX0 : ∀ a, a < 16 → ∀ b, b < 16 → a ≠ b → (TX0 a).2.1 ≠ (TX0 b).2.1 := by decide +kernel
theorem tyX0_ok : ∀ k, k < 16 → parseFieldDescriptor (TX0 k).2.2.1 = some (tyX0 k) := by decide +kernel
abbrev cX0_init : ByteArray := prog_2_method_1_code
def yX0_init : MethodName := ⟨RX0, "<init>", "()V"⟩
abbrev cX0_become : ByteArray := prog_2_method_2_code
def yX0_become : MethodName := ⟨RX0, "become", "(LBreadGames$City;)V"⟩
abbrev cX0_houses : ByteArray := prog_2_method_3_code
def yX0_houses : MethodName := ⟨RX0, "houses", "(I)Z"⟩
abbrev cX0_settle : ByteArray := prog_2_method_4_code
def yX0_settle : MethodName := ⟨RX0, "settle", "(I)V"⟩
abbrev cX0_hasTrait : ByteArray := prog_2_method_5_code
def yX0_hasTrait : MethodName := ⟨RX0, "hasTrait", "(I)Z"⟩
abbrev cX0_allowsTrait : ByteArray := prog_2_method_6_code
def yX0_allowsTrait : MethodName := ⟨RX0, "allowsTrait", "(II)Z"⟩
abbrev cX0_trait : ByteArray := prog_2_method_7_code
def yX0_trait : MethodName := ⟨RX0, "trait", "(II)I"⟩
abbrev cX0_setTrait : ByteArray := prog_2_method_8_code
def yX0_setTrait : MethodName := ⟨RX0, "setTrait", "(III)V"⟩
abbrev cX0_allowsRule : ByteArray := prog_2_method_9_code
def yX0_allowsRule : MethodName := ⟨RX0, "allowsRule", "(II)Z"⟩
abbrev cX0_ruling : ByteArray := prog_2_method_10_code
def yX0_ruling : MethodName := ⟨RX0, "ruling", "(I)I"⟩
abbrev cX0_setRuling : ByteArray := prog_2_method_11_code
def yX0_setRuling : MethodName := ⟨RX0, "setRuling", "(II)V"⟩
abbrev cX0_holders : ByteArray := prog_2_method_12_code
def yX0_holders : MethodName := ⟨RX0, "holders", "(I)I"⟩
abbrev cX0_starving : ByteArray := prog_2_method_13_code
def yX0_starving : MethodName := ⟨RX0, "starving", "()I"⟩
abbrev cX0_allOf : ByteArray := prog_2_method_14_code
def yX0_allOf : MethodName := ⟨RX0, "allOf", "([I)I"⟩
abbrev cX0_heldSpots : ByteArray := prog_2_method_15_code
def yX0_heldSpots : MethodName := ⟨RX0, "heldSpots", "()I"⟩
abbrev cX0_loafWorth : ByteArray := prog_2_method_16_code
def yX0_loafWorth : MethodName := ⟨RX0, "loafWorth", "(I)I"⟩
abbrev cX0_seatWorth : ByteArray := prog_2_method_17_code
def yX0_seatWorth : MethodName := ⟨RX0, "seatWorth", "(I)I"⟩
abbrev cX0_tokenWorth : ByteArray := prog_2_method_18_code
def yX0_tokenWorth : MethodName := ⟨RX0, "tokenWorth", "(II)I"⟩
abbrev cX0_wantsOther : ByteArray := prog_2_method_19_code
def yX0_wantsOther : MethodName := ⟨RX0, "wantsOther", "(I)Z"⟩
abbrev cX0_exchange : ByteArray := prog_2_method_20_code
def yX0_exchange : MethodName := ⟨RX0, "exchange", "(II)V"⟩
abbrev cX0_openGates : ByteArray := prog_2_method_21_code
def yX0_openGates : MethodName := ⟨RX0, "openGates", "()I"⟩
abbrev cX0_wouldTrade : ByteArray := prog_2_method_22_code
def yX0_wouldTrade : MethodName := ⟨RX0, "wouldTrade", "(III)Z"⟩
abbrev cX0_trade : ByteArray := prog_2_method_23_code
def yX0_trade : MethodName := ⟨RX0, "trade", "(III)V"⟩
abbrev cX0_allWorth : ByteArray := prog_2_method_24_code
def yX0_allWorth : MethodName := ⟨RX0, "allWorth", "()I"⟩
abbrev cX0_bestWorth : ByteArray := prog_2_method_25_code
def yX0_bestWorth : MethodName := ⟨RX0, "bestWorth", "()I"⟩
abbrev cX0_keenestOnLoaf : ByteArray := prog_2_method_26_code
def yX0_keenestOnLoaf : MethodName := ⟨RX0, "keenestOnLoaf", "(I)I"⟩
abbrev cX0_preferLoafAt : ByteArray := prog_2_method_27_code
def yX0_preferLoafAt : MethodName := ⟨RX0, "preferLoafAt", "(I)I"⟩
abbrev cX0_draw : ByteArray := prog_2_method_28_code
def yX0_draw : MethodName := ⟨RX0, "draw", "()I"⟩
abbrev cX0_drawTokens : ByteArray := prog_2_method_29_code
def yX0_drawTokens : MethodName := ⟨RX0, "drawTokens", "()V"⟩
abbrev cX0_eatAndSee : ByteArray := prog_2_method_30_code
def yX0_eatAndSee : MethodName := ⟨RX0, "eatAndSee", "()V"⟩
abbrev cX0_maybeRiot : ByteArray := prog_2_method_31_code
def yX0_maybeRiot : MethodName := ⟨RX0, "maybeRiot", "()V"⟩
abbrev cX0_passWeek : ByteArray := prog_2_method_32_code
def yX0_passWeek : MethodName := ⟨RX0, "passWeek", "()I"⟩
abbrev cX0_passWeeks : ByteArray := prog_2_method_33_code
def yX0_passWeeks : MethodName := ⟨RX0, "passWeeks", "(I)I"⟩
abbrev cX0_calmWeeks : ByteArray := prog_2_method_34_code
def yX0_calmWeeks : MethodName := ⟨RX0, "calmWeeks", "(I)I"⟩
abbrev cX0_drawers : ByteArray := prog_2_method_35_code
def yX0_drawers : MethodName := ⟨RX0, "drawers", "()I"⟩
abbrev cX0_canDeal : ByteArray := prog_2_method_36_code
def yX0_canDeal : MethodName := ⟨RX0, "canDeal", "(I)Z"⟩
abbrev cX0_deal : ByteArray := prog_2_method_37_code
def yX0_deal : MethodName := ⟨RX0, "deal", "(I)V"⟩
abbrev cX0_fits : ByteArray := prog_2_method_38_code
def yX0_fits : MethodName := ⟨RX0, "fits", "(LBreadGames$Sheet;)Z"⟩
abbrev cX0_strike : ByteArray := prog_2_method_39_code
def yX0_strike : MethodName := ⟨RX0, "strike", "()V"⟩
def RX1 : String := "BreadGames$Sheet"
def TX1 : u_T := fun k => match k with
  | 0 => ("BreadGames$Sheet", "numbers", "[I", true)
  | 1 => ("BreadGames$Sheet", "bits", "I", false)
  | _ => ("BreadGames$Sheet", "size", "I", false)
def tyX1 : Nat → FieldType := fun k => match k with
  | 0 => .array .int
  | 1 => .int
  | _ => .int
theorem nmX1 : ∀ a, a < 3 → ∀ b, b < 3 → a ≠ b → (TX1 a).2.1 ≠ (TX1 b).2.1 := by decide +kernel
theorem tyX1_ok : ∀ k, k < 3 → parseFieldDescriptor (TX1 k).2.2.1 = some (tyX1 k) := by decide +kernel
abbrev cX1_init : ByteArray := prog_3_method_1_code
def yX1_init : MethodName := ⟨RX1, "<init>", "()V"⟩
abbrev cX1_renew : ByteArray := prog_3_method_2_code
def yX1_renew : MethodName := ⟨RX1, "renew", "(II)V"⟩
abbrev cX1_put : ByteArray := prog_3_method_3_code
def yX1_put : MethodName := ⟨RX1, "put", "(II)V"⟩
abbrev cX1_spans : ByteArray := prog_3_method_4_code
def yX1_spans : MethodName := ⟨RX1, "spans", "(II)Z"⟩
def RX2 : String := "BreadGames$Tape"
def TX2 : u_T := fun k => match k with
  | 0 => ("BreadGames$Tape", "bytes", "[I", true)
  | 1 => ("BreadGames$Tape", "length", "I", false)
  | 2 => ("BreadGames$Tape", "start", "I", false)
  | 3 => ("BreadGames$Tape", "end", "I", false)
  | 4 => ("BreadGames$Tape", "sort", "I", false)
  | _ => ("BreadGames$Tape", "value", "I", false)
def tyX2 : Nat → FieldType := fun k => match k with
  | 0 => .array .int
  | 1 => .int
  | 2 => .int
  | 3 => .int
  | 4 => .int
  | _ => .int
theorem nmX2 : ∀ a, a < 6 → ∀ b, b < 6 → a ≠ b → (TX2 a).2.1 ≠ (TX2 b).2.1 := by decide +kernel
theorem tyX2_ok : ∀ k, k < 6 → parseFieldDescriptor (TX2 k).2.2.1 = some (tyX2 k) := by decide +kernel
abbrev cX2_init : ByteArray := prog_4_method_1_code
def yX2_init : MethodName := ⟨RX2, "<init>", "()V"⟩
abbrev cX2_append : ByteArray := prog_4_method_2_code
def yX2_append : MethodName := ⟨RX2, "append", "(I)V"⟩
abbrev cX2_rewind : ByteArray := prog_4_method_3_code
def yX2_rewind : MethodName := ⟨RX2, "rewind", "()V"⟩
abbrev cX2_advance : ByteArray := prog_4_method_4_code
def yX2_advance : MethodName := ⟨RX2, "advance", "()V"⟩
abbrev cX2_readWord : ByteArray := prog_4_method_5_code
def yX2_readWord : MethodName := ⟨RX2, "readWord", "()V"⟩
abbrev cX2_readNumber : ByteArray := prog_4_method_6_code
def yX2_readNumber : MethodName := ⟨RX2, "readNumber", "()V"⟩
abbrev cX2_isLetter : ByteArray := prog_4_method_7_code
def yX2_isLetter : MethodName := ⟨RX2, "isLetter", "(I)Z"⟩
abbrev cX2_isDigit : ByteArray := prog_4_method_8_code
def yX2_isDigit : MethodName := ⟨RX2, "isDigit", "(I)Z"⟩
abbrev cX2_isWord : ByteArray := prog_4_method_9_code
def yX2_isWord : MethodName := ⟨RX2, "isWord", "(Ljava/lang/String;)Z"⟩
abbrev cX2_kindTold : ByteArray := prog_4_method_10_code
def yX2_kindTold : MethodName := ⟨RX2, "kindTold", "()I"⟩
abbrev cX2_kindWord : ByteArray := prog_4_method_11_code
def yX2_kindWord : MethodName := ⟨RX2, "kindWord", "(I)Ljava/lang/String;"⟩
def RX3 : String := "BreadGames"
def TX3 : u_T := fun k => match k with
  | 0 => ("BreadGames", "city", "LBreadGames$City;", true)
  | 1 => ("BreadGames", "trial", "LBreadGames$City;", true)
  | 2 => ("BreadGames", "kept", "LBreadGames$City;", true)
  | 3 => ("BreadGames", "tape", "LBreadGames$Tape;", true)
  | 4 => ("BreadGames", "sheets", "[LBreadGames$Sheet;", true)
  | 5 => ("BreadGames", "found", "[I", true)
  | _ => ("BreadGames", "keeps", "Z", false)
def tyX3 : Nat → FieldType := fun k => match k with
  | 0 => .object "BreadGames$City"
  | 1 => .object "BreadGames$City"
  | 2 => .object "BreadGames$City"
  | 3 => .object "BreadGames$Tape"
  | 4 => .array (.object "BreadGames$Sheet")
  | 5 => .array .int
  | _ => .boolean
theorem nmX3 : ∀ a, a < 7 → ∀ b, b < 7 → a ≠ b → (TX3 a).2.1 ≠ (TX3 b).2.1 := by decide +kernel
theorem tyX3_ok : ∀ k, k < 7 → parseFieldDescriptor (TX3 k).2.2.1 = some (tyX3 k) := by decide +kernel
abbrev cX3_init : ByteArray := prog_1_method_1_code
def yX3_init : MethodName := ⟨RX3, "<init>", "()V"⟩
abbrev cX3_citizen : ByteArray := prog_1_method_2_code
def yX3_citizen : MethodName := ⟨RX3, "citizen", "(I)I"⟩
abbrev cX3_of : ByteArray := prog_1_method_3_code
def yX3_of : MethodName := ⟨RX3, "of", "(II)I"⟩
abbrev cX3_change : ByteArray := prog_1_method_4_code
def yX3_change : MethodName := ⟨RX3, "change", "(III)I"⟩
abbrev cX3_rule : ByteArray := prog_1_method_5_code
def yX3_rule : MethodName := ⟨RX3, "rule", "(II)I"⟩
abbrev cX3_now : ByteArray := prog_1_method_6_code
def yX3_now : MethodName := ⟨RX3, "now", "(I)I"⟩
abbrev cX3_wants : ByteArray := prog_1_method_7_code
def yX3_wants : MethodName := ⟨RX3, "wants", "(I)I"⟩
abbrev cX3_swap : ByteArray := prog_1_method_8_code
def yX3_swap : MethodName := ⟨RX3, "swap", "(II)I"⟩
abbrev cX3_gates : ByteArray := prog_1_method_9_code
def yX3_gates : MethodName := ⟨RX3, "gates", "()I"⟩
abbrev cX3_changes : ByteArray := prog_1_method_10_code
def yX3_changes : MethodName := ⟨RX3, "changes", "()I"⟩
abbrev cX3_buy : ByteArray := prog_1_method_11_code
def yX3_buy : MethodName := ⟨RX3, "buy", "(III)I"⟩
abbrev cX3_welfare : ByteArray := prog_1_method_12_code
def yX3_welfare : MethodName := ⟨RX3, "welfare", "()I"⟩
abbrev cX3_most : ByteArray := prog_1_method_13_code
def yX3_most : MethodName := ⟨RX3, "most", "()I"⟩
abbrev cX3_price : ByteArray := prog_1_method_14_code
def yX3_price : MethodName := ⟨RX3, "price", "()I"⟩
abbrev cX3_weeks : ByteArray := prog_1_method_15_code
def yX3_weeks : MethodName := ⟨RX3, "weeks", "(I)I"⟩
abbrev cX3_ahead : ByteArray := prog_1_method_16_code
def yX3_ahead : MethodName := ⟨RX3, "ahead", "(II)I"⟩
abbrev cX3_riot : ByteArray := prog_1_method_17_code
def yX3_riot : MethodName := ⟨RX3, "riot", "()I"⟩
abbrev cX3_next : ByteArray := prog_1_method_18_code
def yX3_next : MethodName := ⟨RX3, "next", "(I)I"⟩
abbrev cX3_loaves : ByteArray := prog_1_method_19_code
def yX3_loaves : MethodName := ⟨RX3, "loaves", "(I)I"⟩
abbrev cX3_cheapest : ByteArray := prog_1_method_20_code
def yX3_cheapest : MethodName := ⟨RX3, "cheapest", "(I)I"⟩
abbrev cX3_leader : ByteArray := prog_1_method_21_code
def yX3_leader : MethodName := ⟨RX3, "leader", "(I)I"⟩
abbrev cX3_colourFor : ByteArray := prog_1_method_22_code
def yX3_colourFor : MethodName := ⟨RX3, "colourFor", "(II)I"⟩
abbrev cX3_kindFor : ByteArray := prog_1_method_23_code
def yX3_kindFor : MethodName := ⟨RX3, "kindFor", "(II)I"⟩
abbrev cX3_stale : ByteArray := prog_1_method_24_code
def yX3_stale : MethodName := ⟨RX3, "stale", "(I)I"⟩
abbrev cX3_bound : ByteArray := prog_1_method_25_code
def yX3_bound : MethodName := ⟨RX3, "bound", "(I)I"⟩
abbrev cX3_law : ByteArray := prog_1_method_26_code
def yX3_law : MethodName := ⟨RX3, "law", "(II)I"⟩
abbrev cX3_ways : ByteArray := prog_1_method_27_code
def yX3_ways : MethodName := ⟨RX3, "ways", "()J"⟩
abbrev cX3_eats : ByteArray := prog_1_method_28_code
def yX3_eats : MethodName := ⟨RX3, "eats", "(I)J"⟩
abbrev cX3_busy : ByteArray := prog_1_method_29_code
def yX3_busy : MethodName := ⟨RX3, "busy", "(I)J"⟩
abbrev cX3_famine : ByteArray := prog_1_method_30_code
def yX3_famine : MethodName := ⟨RX3, "famine", "(I)I"⟩
abbrev cX3_seed : ByteArray := prog_1_method_31_code
def yX3_seed : MethodName := ⟨RX3, "seed", "(I)I"⟩
abbrev cX3_feed : ByteArray := prog_1_method_32_code
def yX3_feed : MethodName := ⟨RX3, "feed", "(II)I"⟩
abbrev cX3_wipe : ByteArray := prog_1_method_33_code
def yX3_wipe : MethodName := ⟨RX3, "wipe", "()I"⟩
abbrev cX3_text : ByteArray := prog_1_method_34_code
def yX3_text : MethodName := ⟨RX3, "text", "()I"⟩
abbrev cX3_hold : ByteArray := prog_1_method_35_code
def yX3_hold : MethodName := ⟨RX3, "hold", "(II)I"⟩
abbrev cX3_as : ByteArray := prog_1_method_36_code
def yX3_as : MethodName := ⟨RX3, "as", "(II)I"⟩
abbrev cX3_sheet : ByteArray := prog_1_method_37_code
def yX3_sheet : MethodName := ⟨RX3, "sheet", "(III)I"⟩
abbrev cX3_write : ByteArray := prog_1_method_38_code
def yX3_write : MethodName := ⟨RX3, "write", "(III)I"⟩
abbrev cX3_copy : ByteArray := prog_1_method_39_code
def yX3_copy : MethodName := ⟨RX3, "copy", "(IIIII)I"⟩
abbrev cX3_load : ByteArray := prog_1_method_40_code
def yX3_load : MethodName := ⟨RX3, "load", "(I)I"⟩
abbrev cX3_tally : ByteArray := prog_1_method_41_code
def yX3_tally : MethodName := ⟨RX3, "tally", "(I)J"⟩
abbrev cX3_judge : ByteArray := prog_1_method_42_code
def yX3_judge : MethodName := ⟨RX3, "judge", "(I)I"⟩
abbrev cX3_image : ByteArray := prog_1_method_43_code
def yX3_image : MethodName := ⟨RX3, "image", "()I"⟩
abbrev cX3_undo : ByteArray := prog_1_method_44_code
def yX3_undo : MethodName := ⟨RX3, "undo", "()I"⟩
abbrev cX3_tear : ByteArray := prog_1_method_45_code
def yX3_tear : MethodName := ⟨RX3, "tear", "()I"⟩
abbrev cX3_count : ByteArray := prog_1_method_46_code
def yX3_count : MethodName := ⟨RX3, "count", "(I)I"⟩
abbrev cX3_status : ByteArray := prog_1_method_47_code
def yX3_status : MethodName := ⟨RX3, "status", "(I)I"⟩
abbrev cX3_finding : ByteArray := prog_1_method_48_code
def yX3_finding : MethodName := ⟨RX3, "finding", "(I)I"⟩
abbrev cX3_hindrance : ByteArray := prog_1_method_49_code
def yX3_hindrance : MethodName := ⟨RX3, "hindrance", "(I)I"⟩
abbrev cX3_sheetHindrance : ByteArray := prog_1_method_50_code
def yX3_sheetHindrance : MethodName := ⟨RX3, "sheetHindrance", "(I)I"⟩
abbrev cX3_isKind : ByteArray := prog_1_method_51_code
def yX3_isKind : MethodName := ⟨RX3, "isKind", "(I)Z"⟩
abbrev cX3_isSpot : ByteArray := prog_1_method_52_code
def yX3_isSpot : MethodName := ⟨RX3, "isSpot", "(I)Z"⟩
abbrev cX3_isSheet : ByteArray := prog_1_method_53_code
def yX3_isSheet : MethodName := ⟨RX3, "isSheet", "(I)Z"⟩
abbrev cX3_isUnder : ByteArray := prog_1_method_54_code
def yX3_isUnder : MethodName := ⟨RX3, "isUnder", "(II)Z"⟩
abbrev cX3_leastCalmRuling : ByteArray := prog_1_method_55_code
def yX3_leastCalmRuling : MethodName := ⟨RX3, "leastCalmRuling", "(II)I"⟩
abbrev cX3_waysThat : ByteArray := prog_1_method_56_code
def yX3_waysThat : MethodName := ⟨RX3, "waysThat", "(II)J"⟩
abbrev cX3_isSo : ByteArray := prog_1_method_57_code
def yX3_isSo : MethodName := ⟨RX3, "isSo", "(III)Z"⟩
abbrev cX3_bestTrait : ByteArray := prog_1_method_58_code
def yX3_bestTrait : MethodName := ⟨RX3, "bestTrait", "(IIII)I"⟩
abbrev cX3_isCalmWith : ByteArray := prog_1_method_59_code
def yX3_isCalmWith : MethodName := ⟨RX3, "isCalmWith", "(III)Z"⟩
abbrev cX3_readItem : ByteArray := prog_1_method_60_code
def yX3_readItem : MethodName := ⟨RX3, "readItem", "()Z"⟩
abbrev cX3_readCitizen : ByteArray := prog_1_method_61_code
def yX3_readCitizen : MethodName := ⟨RX3, "readCitizen", "(I)Z"⟩
abbrev cX3_readTrait : ByteArray := prog_1_method_62_code
def yX3_readTrait : MethodName := ⟨RX3, "readTrait", "(Ljava/lang/String;I)Z"⟩
abbrev cX3_readRuling : ByteArray := prog_1_method_63_code
def yX3_readRuling : MethodName := ⟨RX3, "readRuling", "(I)Z"⟩
def RX4 : String := "BreadGamesModel"
def TX4 : u_T := fun k => match k with
  | 0 => ("BreadGamesModel", "m", "[I", true)
  | 1 => ("BreadGamesModel", "kept", "[I", true)
  | 2 => ("BreadGamesModel", "was", "[I", true)
  | 3 => ("BreadGamesModel", "isKept", "Z", false)
  | 4 => ("BreadGamesModel", "found", "[I", true)
  | 5 => ("BreadGamesModel", "riotsThen", "I", false)
  | 6 => ("BreadGamesModel", "joyThen", "I", false)
  | 7 => ("BreadGamesModel", "tape", "[I", true)
  | 8 => ("BreadGamesModel", "taped", "I", false)
  | 9 => ("BreadGamesModel", "sort", "I", false)
  | 10 => ("BreadGamesModel", "from", "I", false)
  | 11 => ("BreadGamesModel", "to", "I", false)
  | 12 => ("BreadGamesModel", "value", "I", false)
  | 13 => ("BreadGamesModel", "bad", "Z", false)
  | 14 => ("BreadGamesModel", "bits", "[I", true)
  | 15 => ("BreadGamesModel", "size", "[I", true)
  | _ => ("BreadGamesModel", "number", "[I", true)
def tyX4 : Nat → FieldType := fun k => match k with
  | 0 => .array .int
  | 1 => .array .int
  | 2 => .array .int
  | 3 => .boolean
  | 4 => .array .int
  | 5 => .int
  | 6 => .int
  | 7 => .array .int
  | 8 => .int
  | 9 => .int
  | 10 => .int
  | 11 => .int
  | 12 => .int
  | 13 => .boolean
  | 14 => .array .int
  | 15 => .array .int
  | _ => .array .int
theorem nmX4 : ∀ a, a < 17 → ∀ b, b < 17 → a ≠ b → (TX4 a).2.1 ≠ (TX4 b).2.1 := by decide +kernel
theorem tyX4_ok : ∀ k, k < 17 → parseFieldDescriptor (TX4 k).2.2.1 = some (tyX4 k) := by decide +kernel
abbrev cX4_init : ByteArray := prog_6_method_1_code
def yX4_init : MethodName := ⟨RX4, "<init>", "()V"⟩
abbrev cX4_finds : ByteArray := prog_6_method_2_code
def yX4_finds : MethodName := ⟨RX4, "finds", "(I)I"⟩
abbrev cX4_orNone : ByteArray := prog_6_method_3_code
def yX4_orNone : MethodName := ⟨RX4, "orNone", "(I)I"⟩
abbrev cX4_in : ByteArray := prog_6_method_4_code
def yX4_in : MethodName := ⟨RX4, "in", "(JJJ)Z"⟩
abbrev cX4_row : ByteArray := prog_6_method_5_code
def yX4_row : MethodName := ⟨RX4, "row", "([I[I)V"⟩
abbrev cX4_becomes : ByteArray := prog_6_method_6_code
def yX4_becomes : MethodName := ⟨RX4, "becomes", "(II)I"⟩
abbrev cX4_isOne : ByteArray := prog_6_method_7_code
def yX4_isOne : MethodName := ⟨RX4, "isOne", "(I)Z"⟩
abbrev cX4_isKind : ByteArray := prog_6_method_8_code
def yX4_isKind : MethodName := ⟨RX4, "isKind", "(I)Z"⟩
abbrev cX4_isHunger : ByteArray := prog_6_method_9_code
def yX4_isHunger : MethodName := ⟨RX4, "isHunger", "(I)Z"⟩
abbrev cX4_areWeeks : ByteArray := prog_6_method_10_code
def yX4_areWeeks : MethodName := ⟨RX4, "areWeeks", "(I)Z"⟩
abbrev cX4_isLate : ByteArray := prog_6_method_11_code
def yX4_isLate : MethodName := ⟨RX4, "isLate", "(I)Z"⟩
abbrev cX4_is : ByteArray := prog_6_method_12_code
def yX4_is : MethodName := ⟨RX4, "is", "(II)I"⟩
abbrev cX4_makes : ByteArray := prog_6_method_13_code
def yX4_makes : MethodName := ⟨RX4, "makes", "(III)V"⟩
abbrev cX4_comes : ByteArray := prog_6_method_14_code
def yX4_comes : MethodName := ⟨RX4, "comes", "(IIIII)I"⟩
abbrev cX4_citizen : ByteArray := prog_6_method_15_code
def yX4_citizen : MethodName := ⟨RX4, "citizen", "(I)I"⟩
abbrev cX4_loafWorth : ByteArray := prog_6_method_16_code
def yX4_loafWorth : MethodName := ⟨RX4, "loafWorth", "(I)I"⟩
abbrev cX4_seatWorth : ByteArray := prog_6_method_17_code
def yX4_seatWorth : MethodName := ⟨RX4, "seatWorth", "(I)I"⟩
abbrev cX4_of : ByteArray := prog_6_method_18_code
def yX4_of : MethodName := ⟨RX4, "of", "(II)I"⟩
abbrev cX4_isPart : ByteArray := prog_6_method_19_code
def yX4_isPart : MethodName := ⟨RX4, "isPart", "(II)Z"⟩
abbrev cX4_change : ByteArray := prog_6_method_20_code
def yX4_change : MethodName := ⟨RX4, "change", "(III)I"⟩
abbrev cX4_isRule : ByteArray := prog_6_method_21_code
def yX4_isRule : MethodName := ⟨RX4, "isRule", "(II)Z"⟩
abbrev cX4_rule : ByteArray := prog_6_method_22_code
def yX4_rule : MethodName := ⟨RX4, "rule", "(II)I"⟩
abbrev cX4_with : ByteArray := prog_6_method_23_code
def yX4_with : MethodName := ⟨RX4, "with", "(I)I"⟩
abbrev cX4_hungry : ByteArray := prog_6_method_24_code
def yX4_hungry : MethodName := ⟨RX4, "hungry", "()I"⟩
abbrev cX4_many : ByteArray := prog_6_method_25_code
def yX4_many : MethodName := ⟨RX4, "many", "(I)I"⟩
abbrev cX4_cost : ByteArray := prog_6_method_26_code
def yX4_cost : MethodName := ⟨RX4, "cost", "()I"⟩
abbrev cX4_now : ByteArray := prog_6_method_27_code
def yX4_now : MethodName := ⟨RX4, "now", "(I)I"⟩
abbrev cX4_wantsOther : ByteArray := prog_6_method_28_code
def yX4_wantsOther : MethodName := ⟨RX4, "wantsOther", "(I)Z"⟩
abbrev cX4_wants : ByteArray := prog_6_method_29_code
def yX4_wants : MethodName := ⟨RX4, "wants", "(I)I"⟩
abbrev cX4_changeTokens : ByteArray := prog_6_method_30_code
def yX4_changeTokens : MethodName := ⟨RX4, "changeTokens", "(II)V"⟩
abbrev cX4_swap : ByteArray := prog_6_method_31_code
def yX4_swap : MethodName := ⟨RX4, "swap", "(II)I"⟩
abbrev cX4_firstWanting : ByteArray := prog_6_method_32_code
def yX4_firstWanting : MethodName := ⟨RX4, "firstWanting", "(I)I"⟩
abbrev cX4_opens : ByteArray := prog_6_method_33_code
def yX4_opens : MethodName := ⟨RX4, "opens", "()I"⟩
abbrev cX4_gates : ByteArray := prog_6_method_34_code
def yX4_gates : MethodName := ⟨RX4, "gates", "()I"⟩
abbrev cX4_changes : ByteArray := prog_6_method_35_code
def yX4_changes : MethodName := ⟨RX4, "changes", "()I"⟩
abbrev cX4_worth : ByteArray := prog_6_method_36_code
def yX4_worth : MethodName := ⟨RX4, "worth", "(II)I"⟩
abbrev cX4_mayBuy : ByteArray := prog_6_method_37_code
def yX4_mayBuy : MethodName := ⟨RX4, "mayBuy", "(III)Z"⟩
abbrev cX4_buy : ByteArray := prog_6_method_38_code
def yX4_buy : MethodName := ⟨RX4, "buy", "(III)I"⟩
abbrev cX4_welfare : ByteArray := prog_6_method_39_code
def yX4_welfare : MethodName := ⟨RX4, "welfare", "()I"⟩
abbrev cX4_most : ByteArray := prog_6_method_40_code
def yX4_most : MethodName := ⟨RX4, "most", "()I"⟩
abbrev cX4_price : ByteArray := prog_6_method_41_code
def yX4_price : MethodName := ⟨RX4, "price", "()I"⟩
abbrev cX4_draw : ByteArray := prog_6_method_42_code
def yX4_draw : MethodName := ⟨RX4, "draw", "()I"⟩
abbrev cX4_drawsTokens : ByteArray := prog_6_method_43_code
def yX4_drawsTokens : MethodName := ⟨RX4, "drawsTokens", "()V"⟩
abbrev cX4_eatAndSee : ByteArray := prog_6_method_44_code
def yX4_eatAndSee : MethodName := ⟨RX4, "eatAndSee", "()V"⟩
abbrev cX4_aWeek : ByteArray := prog_6_method_45_code
def yX4_aWeek : MethodName := ⟨RX4, "aWeek", "()I"⟩
abbrev cX4_goes : ByteArray := prog_6_method_46_code
def yX4_goes : MethodName := ⟨RX4, "goes", "(I)I"⟩
abbrev cX4_weeks : ByteArray := prog_6_method_47_code
def yX4_weeks : MethodName := ⟨RX4, "weeks", "(I)I"⟩
abbrev cX4_sum : ByteArray := prog_6_method_48_code
def yX4_sum : MethodName := ⟨RX4, "sum", "(I)I"⟩
abbrev cX4_ahead : ByteArray := prog_6_method_49_code
def yX4_ahead : MethodName := ⟨RX4, "ahead", "(II)I"⟩
abbrev cX4_riot : ByteArray := prog_6_method_50_code
def yX4_riot : MethodName := ⟨RX4, "riot", "()I"⟩
abbrev cX4_next : ByteArray := prog_6_method_51_code
def yX4_next : MethodName := ⟨RX4, "next", "(I)I"⟩
abbrev cX4_tries : ByteArray := prog_6_method_52_code
def yX4_tries : MethodName := ⟨RX4, "tries", "(III)I"⟩
abbrev cX4_loaves : ByteArray := prog_6_method_53_code
def yX4_loaves : MethodName := ⟨RX4, "loaves", "(I)I"⟩
abbrev cX4_cheapest : ByteArray := prog_6_method_54_code
def yX4_cheapest : MethodName := ⟨RX4, "cheapest", "(I)I"⟩
abbrev cX4_leader : ByteArray := prog_6_method_55_code
def yX4_leader : MethodName := ⟨RX4, "leader", "(I)I"⟩
abbrev cX4_ofThen : ByteArray := prog_6_method_56_code
def yX4_ofThen : MethodName := ⟨RX4, "ofThen", "(IIIII)I"⟩
abbrev cX4_colourFor : ByteArray := prog_6_method_57_code
def yX4_colourFor : MethodName := ⟨RX4, "colourFor", "(II)I"⟩
abbrev cX4_kindFor : ByteArray := prog_6_method_58_code
def yX4_kindFor : MethodName := ⟨RX4, "kindFor", "(II)I"⟩
abbrev cX4_stale : ByteArray := prog_6_method_59_code
def yX4_stale : MethodName := ⟨RX4, "stale", "(I)I"⟩
abbrev cX4_bound : ByteArray := prog_6_method_60_code
def yX4_bound : MethodName := ⟨RX4, "bound", "(I)I"⟩
abbrev cX4_law : ByteArray := prog_6_method_61_code
def yX4_law : MethodName := ⟨RX4, "law", "(II)I"⟩
abbrev cX4_drawing : ByteArray := prog_6_method_62_code
def yX4_drawing : MethodName := ⟨RX4, "drawing", "()I"⟩
abbrev cX4_isWay : ByteArray := prog_6_method_63_code
def yX4_isWay : MethodName := ⟨RX4, "isWay", "(I)Z"⟩
abbrev cX4_lies : ByteArray := prog_6_method_64_code
def yX4_lies : MethodName := ⟨RX4, "lies", "(I)V"⟩
abbrev cX4_ways : ByteArray := prog_6_method_65_code
def yX4_ways : MethodName := ⟨RX4, "ways", "()J"⟩
abbrev cX4_eats : ByteArray := prog_6_method_66_code
def yX4_eats : MethodName := ⟨RX4, "eats", "(I)J"⟩
abbrev cX4_busy : ByteArray := prog_6_method_67_code
def yX4_busy : MethodName := ⟨RX4, "busy", "(I)J"⟩
abbrev cX4_famine : ByteArray := prog_6_method_68_code
def yX4_famine : MethodName := ⟨RX4, "famine", "(I)I"⟩
abbrev cX4_seed : ByteArray := prog_6_method_69_code
def yX4_seed : MethodName := ⟨RX4, "seed", "(I)I"⟩
abbrev cX4_feed : ByteArray := prog_6_method_70_code
def yX4_feed : MethodName := ⟨RX4, "feed", "(II)I"⟩
abbrev cX4_wipe : ByteArray := prog_6_method_71_code
def yX4_wipe : MethodName := ⟨RX4, "wipe", "()I"⟩
abbrev cX4_isByte : ByteArray := prog_6_method_72_code
def yX4_isByte : MethodName := ⟨RX4, "isByte", "(III)Z"⟩
abbrev cX4_token : ByteArray := prog_6_method_73_code
def yX4_token : MethodName := ⟨RX4, "token", "()V"⟩
abbrev cX4_isWord : ByteArray := prog_6_method_74_code
def yX4_isWord : MethodName := ⟨RX4, "isWord", "(Ljava/lang/String;)Z"⟩
abbrev cX4_takes : ByteArray := prog_6_method_75_code
def yX4_takes : MethodName := ⟨RX4, "takes", "(Ljava/lang/String;)Z"⟩
abbrev cX4_isSign : ByteArray := prog_6_method_76_code
def yX4_isSign : MethodName := ⟨RX4, "isSign", "(I)Z"⟩
abbrev cX4_number : ByteArray := prog_6_method_77_code
def yX4_number : MethodName := ⟨RX4, "number", "(II)I"⟩
abbrev cX4_kindHere : ByteArray := prog_6_method_78_code
def yX4_kindHere : MethodName := ⟨RX4, "kindHere", "()I"⟩
abbrev cX4_citizenItem : ByteArray := prog_6_method_79_code
def yX4_citizenItem : MethodName := ⟨RX4, "citizenItem", "(I)V"⟩
abbrev cX4_ruleHere : ByteArray := prog_6_method_80_code
def yX4_ruleHere : MethodName := ⟨RX4, "ruleHere", "()I"⟩
abbrev cX4_ruleItem : ByteArray := prog_6_method_81_code
def yX4_ruleItem : MethodName := ⟨RX4, "ruleItem", "(I)V"⟩
abbrev cX4_item : ByteArray := prog_6_method_82_code
def yX4_item : MethodName := ⟨RX4, "item", "()V"⟩
abbrev cX4_text : ByteArray := prog_6_method_83_code
def yX4_text : MethodName := ⟨RX4, "text", "()I"⟩
abbrev cX4_hold : ByteArray := prog_6_method_84_code
def yX4_hold : MethodName := ⟨RX4, "hold", "(II)I"⟩
abbrev cX4_above : ByteArray := prog_6_method_85_code
def yX4_above : MethodName := ⟨RX4, "above", "(I)I"⟩
abbrev cX4_as : ByteArray := prog_6_method_86_code
def yX4_as : MethodName := ⟨RX4, "as", "(II)I"⟩
abbrev cX4_isSheet : ByteArray := prog_6_method_87_code
def yX4_isSheet : MethodName := ⟨RX4, "isSheet", "(I)Z"⟩
abbrev cX4_sheet : ByteArray := prog_6_method_88_code
def yX4_sheet : MethodName := ⟨RX4, "sheet", "(III)I"⟩
abbrev cX4_write : ByteArray := prog_6_method_89_code
def yX4_write : MethodName := ⟨RX4, "write", "(III)I"⟩
abbrev cX4_copy : ByteArray := prog_6_method_90_code
def yX4_copy : MethodName := ⟨RX4, "copy", "(IIIII)I"⟩
abbrev cX4_load : ByteArray := prog_6_method_91_code
def yX4_load : MethodName := ⟨RX4, "load", "(I)I"⟩
abbrev cX4_tally : ByteArray := prog_6_method_92_code
def yX4_tally : MethodName := ⟨RX4, "tally", "(I)J"⟩
abbrev cX4_judge : ByteArray := prog_6_method_93_code
def yX4_judge : MethodName := ⟨RX4, "judge", "(I)I"⟩
abbrev cX4_image : ByteArray := prog_6_method_94_code
def yX4_image : MethodName := ⟨RX4, "image", "()I"⟩
abbrev cX4_undo : ByteArray := prog_6_method_95_code
def yX4_undo : MethodName := ⟨RX4, "undo", "()I"⟩
abbrev cX4_tear : ByteArray := prog_6_method_96_code
def yX4_tear : MethodName := ⟨RX4, "tear", "()I"⟩
abbrev cX4_holding : ByteArray := prog_6_method_97_code
def yX4_holding : MethodName := ⟨RX4, "holding", "()I"⟩
abbrev cX4_count : ByteArray := prog_6_method_98_code
def yX4_count : MethodName := ⟨RX4, "count", "(I)I"⟩
abbrev cX4_status : ByteArray := prog_6_method_99_code
def yX4_status : MethodName := ⟨RX4, "status", "(I)I"⟩
def RJ6 : String := "java/lang/Integer"
def TJ6 : u_T := fun k => match k with
  | _ => ("", "", "", false)
def tyJ6 : Nat → FieldType := fun k => match k with
  | _ => .int
theorem nmJ6 : ∀ a, a < 0 → ∀ b, b < 0 → a ≠ b → (TJ6 a).2.1 ≠ (TJ6 b).2.1 := by decide +kernel
theorem tyJ6_ok : ∀ k, k < 0 → parseFieldDescriptor (TJ6 k).2.2.1 = some (tyJ6 k) := by decide +kernel
abbrev cJ6_bitCount_0f7a4 : ByteArray := prog_7_method_49_code
def yJ6_bitCount_0f7a4 : MethodName := ⟨RJ6, "bitCount", "(I)I"⟩
def RJ9 : String := "java/lang/Math"
def TJ9 : u_T := fun k => match k with
  | _ => ("", "", "", false)
def tyJ9 : Nat → FieldType := fun k => match k with
  | _ => .int
theorem nmJ9 : ∀ a, a < 0 → ∀ b, b < 0 → a ≠ b → (TJ9 a).2.1 ≠ (TJ9 b).2.1 := by decide +kernel
theorem tyJ9_ok : ∀ k, k < 0 → parseFieldDescriptor (TJ9 k).2.2.1 = some (tyJ9 k) := by decide +kernel
abbrev cJ9_max_7cf53 : ByteArray := prog_8_method_65_code
def yJ9_max_7cf53 : MethodName := ⟨RJ9, "max", "(II)I"⟩
abbrev cJ9_min_7cf53 : ByteArray := prog_8_method_69_code
def yJ9_min_7cf53 : MethodName := ⟨RJ9, "min", "(II)I"⟩
def RJ0 : String := "java/lang/String"
def TJ0 : u_T := fun k => match k with
  | _ => ("", "", "", false)
def tyJ0 : Nat → FieldType := fun k => match k with
  | _ => .int
theorem nmJ0 : ∀ a, a < 0 → ∀ b, b < 0 → a ≠ b → (TJ0 a).2.1 ≠ (TJ0 b).2.1 := by decide +kernel
theorem tyJ0_ok : ∀ k, k < 0 → parseFieldDescriptor (TJ0 k).2.2.1 = some (tyJ0 k) := by decide +kernel
abbrev cJ0_length_8abf5 : ByteArray := prog_9_method_54_code
def yJ0_length_8abf5 : MethodName := ⟨RJ0, "length", "()I"⟩
abbrev cJ0_charAt_5068e : ByteArray := prog_9_method_56_code
def yJ0_charAt_5068e : MethodName := ⟨RJ0, "charAt", "(I)C"⟩
abbrev cJ0_coder_7d493 : ByteArray := prog_9_method_152_code
def yJ0_coder_7d493 : MethodName := ⟨RJ0, "coder", "()B"⟩
abbrev cJ0_isLatin1_aae02 : ByteArray := prog_9_method_154_code
def yJ0_isLatin1_aae02 : MethodName := ⟨RJ0, "isLatin1", "()Z"⟩
abbrev cJ0_checkIndex_df160 : ByteArray := prog_9_method_155_code
def yJ0_checkIndex_df160 : MethodName := ⟨RJ0, "checkIndex", "(II)V"⟩
def RJ1 : String := "java/lang/StringLatin1"
def TJ1 : u_T := fun k => match k with
  | _ => ("", "", "", false)
def tyJ1 : Nat → FieldType := fun k => match k with
  | _ => .int
theorem nmJ1 : ∀ a, a < 0 → ∀ b, b < 0 → a ≠ b → (TJ1 a).2.1 ≠ (TJ1 b).2.1 := by decide +kernel
theorem tyJ1_ok : ∀ k, k < 0 → parseFieldDescriptor (TJ1 k).2.2.1 = some (tyJ1 k) := by decide +kernel
abbrev cJ1_charAt_3b067 : ByteArray := prog_10_method_2_code
def yJ1_charAt_3b067 : MethodName := ⟨RJ1, "charAt", "([BI)C"⟩
def RJ2 : String := "java/lang/StringUTF16"
def TJ2 : u_T := fun k => match k with
  | _ => ("", "", "", false)
def tyJ2 : Nat → FieldType := fun k => match k with
  | _ => .int
theorem nmJ2 : ∀ a, a < 0 → ∀ b, b < 0 → a ≠ b → (TJ2 a).2.1 ≠ (TJ2 b).2.1 := by decide +kernel
theorem tyJ2_ok : ∀ k, k < 0 → parseFieldDescriptor (TJ2 k).2.2.1 = some (tyJ2 k) := by decide +kernel
abbrev cJ2_getChar_3b067 : ByteArray := prog_11_method_5_code
def yJ2_getChar_3b067 : MethodName := ⟨RJ2, "getChar", "([BI)C"⟩
abbrev cJ2_length_9d52b : ByteArray := prog_11_method_6_code
def yJ2_length_9d52b : MethodName := ⟨RJ2, "length", "([B)I"⟩
abbrev cJ2_charAt_3b067 : ByteArray := prog_11_method_83_code
def yJ2_charAt_3b067 : MethodName := ⟨RJ2, "charAt", "([BI)C"⟩
abbrev cJ2_checkIndex_2214a : ByteArray := prog_11_method_91_code
def yJ2_checkIndex_2214a : MethodName := ⟨RJ2, "checkIndex", "(I[B)V"⟩
def RJ10 : String := "java/lang/System"
def TJ10 : u_T := fun k => match k with
  | _ => ("", "", "", false)
def tyJ10 : Nat → FieldType := fun k => match k with
  | _ => .int
theorem nmJ10 : ∀ a, a < 0 → ∀ b, b < 0 → a ≠ b → (TJ10 a).2.1 ≠ (TJ10 b).2.1 := by decide +kernel
theorem tyJ10_ok : ∀ k, k < 0 → parseFieldDescriptor (TJ10 k).2.2.1 = some (tyJ10 k) := by decide +kernel
def RJ3 : String := "jdk/internal/util/Preconditions"
def TJ3 : u_T := fun k => match k with
  | _ => ("", "", "", false)
def tyJ3 : Nat → FieldType := fun k => match k with
  | _ => .int
theorem nmJ3 : ∀ a, a < 0 → ∀ b, b < 0 → a ≠ b → (TJ3 a).2.1 ≠ (TJ3 b).2.1 := by decide +kernel
theorem tyJ3_ok : ∀ k, k < 0 → parseFieldDescriptor (TJ3 k).2.2.1 = some (tyJ3 k) := by decide +kernel
abbrev cJ3_checkIndex_8e157 : ByteArray := prog_13_method_11_code
def yJ3_checkIndex_8e157 : MethodName := ⟨RJ3, "checkIndex", "(IILjava/util/function/BiFunction;)I"⟩
def RL : String := "BreadGamesLaw"
abbrev cL_law : ByteArray := code
def yL_law : MethodName := ⟨RL, "law", "([I)Z"⟩
abbrev vwCl : List vw_C := [(RX0, TX0, 16), (RX1, TX1, 3), (RX2, TX2, 6), (RX3, TX3, 7), (RX4, TX4, 17)]
end
section
/-- the words that the walk may use -/
def zw : List Cond := lw_tbl.filter goodWord
theorem zw_tbl : ∀ w ∈ zw, w ∈ lw_tbl := fun w h => (List.mem_filter.mp h).1
theorem zw_good : ∀ w ∈ zw, goodWord w = true := fun w h => (List.mem_filter.mp h).2
theorem zw_s {w : Cond} (h : w ∈ k2_sels lw_privs) (g : goodWord w = true) : w ∈ zw := List.mem_filter.mpr ⟨List.mem_append_left _ h, g⟩
theorem zw_t {w : Cond} (h : w ∈ tables_1) (g : goodWord w = true) : w ∈ zw := List.mem_filter.mpr ⟨List.mem_append_right _ h, g⟩
theorem zw_1 {w : Cond} (h : w ∈ tables_1_1) (g : goodWord w = true) : w ∈ zw := zw_t (List.mem_append_left _ h) g
theorem zw_2 {w : Cond} (h : w ∈ tables_1_2) (g : goodWord w = true) : w ∈ zw := zw_t (List.mem_append_right _ (List.mem_append_left _ h)) g
theorem zw_3 {w : Cond} (h : w ∈ tables_1_3) (g : goodWord w = true) : w ∈ zw := zw_t (List.mem_append_right _ (List.mem_append_right _ (List.mem_append_left _ h))) g
theorem zw_4 {w : Cond} (h : w ∈ tables_1_4) (g : goodWord w = true) : w ∈ zw := zw_t (List.mem_append_right _ (List.mem_append_right _ (List.mem_append_right _ (List.mem_append_left _ h)))) g
theorem zw_5 {w : Cond} (h : w ∈ tables_1_5) (g : goodWord w = true) : w ∈ zw := zw_t (List.mem_append_right _ (List.mem_append_right _ (List.mem_append_right _ (List.mem_append_right _ h)))) g
theorem zw_all {ws : List Cond} (ps : List Nat) (hp : ws = ps.filterMap (fun i => tables_1[i]?)) (h : ws.all goodWord = true) : ∀ w ∈ ws, w ∈ zw := by
  intro w hw
  have h1 := List.all_eq_true.mp h w hw
  rw [hp] at hw
  obtain ⟨i, -, hi⟩ := List.mem_filterMap.mp hw
  exact zw_t (List.mem_of_getElem? hi) h1
theorem wn_L : Cond.initialized RL ∈ zw := zw_1 (List.mem_of_getElem? (i := 0) (by decide +kernel)) rfl
theorem wn_X3 : Cond.initialized RX3 ∈ zw := zw_1 (List.mem_of_getElem? (i := 1) (by decide +kernel)) rfl
theorem wn_X0 : Cond.initialized RX0 ∈ zw := zw_1 (List.mem_of_getElem? (i := 2) (by decide +kernel)) rfl
theorem wn_X2 : Cond.initialized RX2 ∈ zw := zw_1 (List.mem_of_getElem? (i := 3) (by decide +kernel)) rfl
theorem wn_X1 : Cond.initialized RX1 ∈ zw := zw_1 (List.mem_of_getElem? (i := 4) (by decide +kernel)) rfl
theorem wn_X4 : Cond.initialized RX4 ∈ zw := zw_1 (List.mem_of_getElem? (i := 5) (by decide +kernel)) rfl
theorem wn_J10 : Cond.initialized RJ10 ∈ zw := zw_1 (List.mem_of_getElem? (i := 6) (by decide +kernel)) rfl
theorem wn_J6 : Cond.initialized RJ6 ∈ zw := zw_1 (List.mem_of_getElem? (i := 7) (by decide +kernel)) rfl
theorem wn_J9 : Cond.initialized RJ9 ∈ zw := zw_1 (List.mem_of_getElem? (i := 8) (by decide +kernel)) rfl
theorem wn_J0 : Cond.initialized RJ0 ∈ zw := zw_1 (List.mem_of_getElem? (i := 9) (by decide +kernel)) rfl
theorem wn_J1 : Cond.initialized RJ1 ∈ zw := zw_1 (List.mem_of_getElem? (i := 10) (by decide +kernel)) rfl
theorem wn_J3 : Cond.initialized RJ3 ∈ zw := zw_1 (List.mem_of_getElem? (i := 11) (by decide +kernel)) rfl
theorem wn_J2 : Cond.initialized RJ2 ∈ zw := zw_1 (List.mem_of_getElem? (i := 12) (by decide +kernel)) rfl
theorem wl_L_7 : Cond.classLink RL 7 RX3 ∈ zw := zw_1 (List.mem_of_getElem? (i := 13) (by decide +kernel)) rfl
theorem wins_X3 : Cond.instantiable RX3 7 ∈ zw := zw_1 (List.mem_of_getElem? (i := 14) (by decide +kernel)) rfl
theorem wl_L_9 : Cond.methodLink RL 9 yX3_init ∈ zw := zw_1 (List.mem_of_getElem? (i := 15) (by decide +kernel)) rfl
theorem wi_X3_init : Cond.instanceMethod yX3_init ∈ zw := zw_1 (List.mem_of_getElem? (i := 16) (by decide +kernel)) rfl
theorem wc_X3_init : Cond.code yX3_init cX3_init 2 (none : Option Jvm.ClassFile.FieldType) ∈ zw := zw_1 (List.mem_of_getElem? (i := 17) (by decide +kernel)) rfl
theorem wl_X3_1 : Cond.methodLink RX3 1 objectInit ∈ zw := zw_1 (List.mem_of_getElem? (i := 18) (by decide +kernel)) rfl
theorem wi_obj : Cond.instanceMethod objectInit ∈ zw := zw_1 (List.mem_of_getElem? (i := 19) (by decide +kernel)) rfl
theorem wc_obj : Cond.code objectInit ⟨#[0xb1]⟩ 1 (none : Option Jvm.ClassFile.FieldType) ∈ zw := zw_1 (List.mem_of_getElem? (i := 20) (by decide +kernel)) rfl
theorem wl_X3_7 : Cond.classLink RX3 7 RX0 ∈ zw := zw_1 (List.mem_of_getElem? (i := 21) (by decide +kernel)) rfl
theorem wins_X0 : Cond.instantiable RX0 16 ∈ zw := zw_1 (List.mem_of_getElem? (i := 22) (by decide +kernel)) rfl
theorem wl_X3_9 : Cond.methodLink RX3 9 yX0_init ∈ zw := zw_1 (List.mem_of_getElem? (i := 23) (by decide +kernel)) rfl
theorem wi_X0_init : Cond.instanceMethod yX0_init ∈ zw := zw_1 (List.mem_of_getElem? (i := 24) (by decide +kernel)) rfl
theorem wc_X0_init : Cond.code yX0_init cX0_init 2 (none : Option Jvm.ClassFile.FieldType) ∈ zw := zw_1 (List.mem_of_getElem? (i := 25) (by decide +kernel)) rfl
theorem wl_X0_3 : Cond.methodLink RX0 3 objectInit ∈ zw := zw_1 (List.mem_of_getElem? (i := 26) (by decide +kernel)) rfl
theorem wl_X0_9 : Cond.fieldLink RX0 9 "BreadGames$City" "kind" "[I" ∈ zw := zw_1 (List.mem_of_getElem? (i := 27) (by decide +kernel)) rfl
theorem wl_X3_191 : Cond.fieldLink RX3 191 "BreadGames$City" "kind" "[I" ∈ zw := zw_1 (List.mem_of_getElem? (i := 28) (by decide +kernel)) rfl
theorem wl_X0_15 : Cond.fieldLink RX0 15 "BreadGames$City" "hunger" "[I" ∈ zw := zw_1 (List.mem_of_getElem? (i := 29) (by decide +kernel)) rfl
theorem wl_X3_165 : Cond.fieldLink RX3 165 "BreadGames$City" "hunger" "[I" ∈ zw := zw_1 (List.mem_of_getElem? (i := 30) (by decide +kernel)) rfl
theorem wl_X0_18 : Cond.fieldLink RX0 18 "BreadGames$City" "colour" "[I" ∈ zw := zw_1 (List.mem_of_getElem? (i := 31) (by decide +kernel)) rfl
theorem wl_X0_21 : Cond.fieldLink RX0 21 "BreadGames$City" "coin" "[I" ∈ zw := zw_1 (List.mem_of_getElem? (i := 32) (by decide +kernel)) rfl
theorem wl_X3_142 : Cond.fieldLink RX3 142 "BreadGames$City" "coin" "[I" ∈ zw := zw_1 (List.mem_of_getElem? (i := 33) (by decide +kernel)) rfl
theorem wl_X0_24 : Cond.fieldLink RX0 24 "BreadGames$City" "joy" "[I" ∈ zw := zw_1 (List.mem_of_getElem? (i := 34) (by decide +kernel)) rfl
theorem wl_X3_63 : Cond.fieldLink RX3 63 "BreadGames$City" "joy" "[I" ∈ zw := zw_1 (List.mem_of_getElem? (i := 35) (by decide +kernel)) rfl
theorem wl_X0_27 : Cond.fieldLink RX0 27 "BreadGames$City" "token" "[I" ∈ zw := zw_1 (List.mem_of_getElem? (i := 36) (by decide +kernel)) rfl
theorem wl_X3_119 : Cond.fieldLink RX3 119 "BreadGames$City" "token" "[I" ∈ zw := zw_1 (List.mem_of_getElem? (i := 37) (by decide +kernel)) rfl
theorem wl_X0_30 : Cond.fieldLink RX0 30 "BreadGames$City" "spot" "[I" ∈ zw := zw_1 (List.mem_of_getElem? (i := 38) (by decide +kernel)) rfl
theorem wl_X3_229 : Cond.fieldLink RX3 229 "BreadGames$City" "spot" "[I" ∈ zw := zw_1 (List.mem_of_getElem? (i := 39) (by decide +kernel)) rfl
theorem wl_X0_33 : Cond.fieldLink RX0 33 "BreadGames$City" "people" "I" ∈ zw := zw_1 (List.mem_of_getElem? (i := 40) (by decide +kernel)) rfl
theorem wl_X3_52 : Cond.fieldLink RX3 52 "BreadGames$City" "people" "I" ∈ zw := zw_1 (List.mem_of_getElem? (i := 41) (by decide +kernel)) rfl
theorem wl_X0_37 : Cond.fieldLink RX0 37 "BreadGames$City" "leads" "I" ∈ zw := zw_1 (List.mem_of_getElem? (i := 42) (by decide +kernel)) rfl
theorem wl_X3_103 : Cond.fieldLink RX3 103 "BreadGames$City" "leads" "I" ∈ zw := zw_1 (List.mem_of_getElem? (i := 43) (by decide +kernel)) rfl
theorem wl_X0_40 : Cond.fieldLink RX0 40 "BreadGames$City" "loaves" "I" ∈ zw := zw_1 (List.mem_of_getElem? (i := 44) (by decide +kernel)) rfl
theorem wl_X3_113 : Cond.fieldLink RX3 113 "BreadGames$City" "loaves" "I" ∈ zw := zw_1 (List.mem_of_getElem? (i := 45) (by decide +kernel)) rfl
theorem wl_X0_43 : Cond.fieldLink RX0 43 "BreadGames$City" "seats" "I" ∈ zw := zw_1 (List.mem_of_getElem? (i := 46) (by decide +kernel)) rfl
theorem wl_X3_116 : Cond.fieldLink RX3 116 "BreadGames$City" "seats" "I" ∈ zw := zw_1 (List.mem_of_getElem? (i := 47) (by decide +kernel)) rfl
theorem wl_X0_46 : Cond.fieldLink RX0 46 "BreadGames$City" "bound" "I" ∈ zw := zw_1 (List.mem_of_getElem? (i := 48) (by decide +kernel)) rfl
theorem wl_X0_49 : Cond.fieldLink RX0 49 "BreadGames$City" "stale" "I" ∈ zw := zw_1 (List.mem_of_getElem? (i := 49) (by decide +kernel)) rfl
theorem wl_X3_188 : Cond.fieldLink RX3 188 "BreadGames$City" "stale" "I" ∈ zw := zw_1 (List.mem_of_getElem? (i := 50) (by decide +kernel)) rfl
theorem wl_X0_52 : Cond.fieldLink RX0 52 "BreadGames$City" "week" "I" ∈ zw := zw_1 (List.mem_of_getElem? (i := 51) (by decide +kernel)) rfl
theorem wl_X3_97 : Cond.fieldLink RX3 97 "BreadGames$City" "week" "I" ∈ zw := zw_1 (List.mem_of_getElem? (i := 52) (by decide +kernel)) rfl
theorem wl_X0_55 : Cond.fieldLink RX0 55 "BreadGames$City" "riots" "I" ∈ zw := zw_1 (List.mem_of_getElem? (i := 53) (by decide +kernel)) rfl
theorem wl_X3_100 : Cond.fieldLink RX3 100 "BreadGames$City" "riots" "I" ∈ zw := zw_1 (List.mem_of_getElem? (i := 54) (by decide +kernel)) rfl
theorem wl_X0_58 : Cond.fieldLink RX0 58 "BreadGames$City" "z" "I" ∈ zw := zw_1 (List.mem_of_getElem? (i := 55) (by decide +kernel)) rfl
theorem wl_X3_201 : Cond.fieldLink RX3 201 "BreadGames$City" "z" "I" ∈ zw := zw_1 (List.mem_of_getElem? (i := 56) (by decide +kernel)) rfl
theorem warr_int : Cond.arrayClass .int ∈ zw := zw_1 (List.mem_of_getElem? (i := 90) (by decide +kernel)) rfl
theorem wl_X3_22 : Cond.classLink RX3 22 RX2 ∈ zw := zw_1 (List.mem_of_getElem? (i := 91) (by decide +kernel)) rfl
theorem wins_X2 : Cond.instantiable RX2 6 ∈ zw := zw_1 (List.mem_of_getElem? (i := 92) (by decide +kernel)) rfl
theorem wi_X2_init : Cond.instanceMethod yX2_init ∈ zw := zw_1 (List.mem_of_getElem? (i := 94) (by decide +kernel)) rfl
theorem wc_X2_init : Cond.code yX2_init cX2_init 1 (none : Option Jvm.ClassFile.FieldType) ∈ zw := zw_1 (List.mem_of_getElem? (i := 95) (by decide +kernel)) rfl
theorem wl_X2_3 : Cond.methodLink RX2 3 objectInit ∈ zw := zw_1 (List.mem_of_getElem? (i := 96) (by decide +kernel)) rfl
theorem wl_X2_9 : Cond.fieldLink RX2 9 "BreadGames$Tape" "bytes" "[I" ∈ zw := zw_1 (List.mem_of_getElem? (i := 97) (by decide +kernel)) rfl
theorem wl_X2_15 : Cond.fieldLink RX2 15 "BreadGames$Tape" "length" "I" ∈ zw := zw_1 (List.mem_of_getElem? (i := 98) (by decide +kernel)) rfl
theorem wl_X3_204 : Cond.fieldLink RX3 204 "BreadGames$Tape" "length" "I" ∈ zw := zw_1 (List.mem_of_getElem? (i := 99) (by decide +kernel)) rfl
theorem wl_X2_19 : Cond.fieldLink RX2 19 "BreadGames$Tape" "start" "I" ∈ zw := zw_1 (List.mem_of_getElem? (i := 100) (by decide +kernel)) rfl
theorem wl_X3_223 : Cond.fieldLink RX3 223 "BreadGames$Tape" "start" "I" ∈ zw := zw_1 (List.mem_of_getElem? (i := 101) (by decide +kernel)) rfl
theorem wl_X2_22 : Cond.fieldLink RX2 22 "BreadGames$Tape" "end" "I" ∈ zw := zw_1 (List.mem_of_getElem? (i := 102) (by decide +kernel)) rfl
theorem wl_X2_25 : Cond.fieldLink RX2 25 "BreadGames$Tape" "sort" "I" ∈ zw := zw_1 (List.mem_of_getElem? (i := 103) (by decide +kernel)) rfl
theorem wl_X3_220 : Cond.fieldLink RX3 220 "BreadGames$Tape" "sort" "I" ∈ zw := zw_1 (List.mem_of_getElem? (i := 104) (by decide +kernel)) rfl
theorem wl_X2_28 : Cond.fieldLink RX2 28 "BreadGames$Tape" "value" "I" ∈ zw := zw_1 (List.mem_of_getElem? (i := 105) (by decide +kernel)) rfl
theorem wl_X3_329 : Cond.fieldLink RX3 329 "BreadGames$Tape" "value" "I" ∈ zw := zw_1 (List.mem_of_getElem? (i := 106) (by decide +kernel)) rfl
theorem wl_X3_29 : Cond.classLink RX3 29 RX1 ∈ zw := zw_1 (List.mem_of_getElem? (i := 120) (by decide +kernel)) rfl
theorem wins_X1 : Cond.instantiable RX1 3 ∈ zw := zw_1 (List.mem_of_getElem? (i := 122) (by decide +kernel)) rfl
theorem wi_X1_init : Cond.instanceMethod yX1_init ∈ zw := zw_1 (List.mem_of_getElem? (i := 124) (by decide +kernel)) rfl
theorem wc_X1_init : Cond.code yX1_init cX1_init 1 (none : Option Jvm.ClassFile.FieldType) ∈ zw := zw_1 (List.mem_of_getElem? (i := 125) (by decide +kernel)) rfl
theorem wl_X1_3 : Cond.methodLink RX1 3 objectInit ∈ zw := zw_1 (List.mem_of_getElem? (i := 126) (by decide +kernel)) rfl
theorem wl_X1_9 : Cond.fieldLink RX1 9 "BreadGames$Sheet" "numbers" "[I" ∈ zw := zw_1 (List.mem_of_getElem? (i := 127) (by decide +kernel)) rfl
theorem wl_X0_142 : Cond.fieldLink RX0 142 "BreadGames$Sheet" "numbers" "[I" ∈ zw := zw_1 (List.mem_of_getElem? (i := 128) (by decide +kernel)) rfl
theorem wl_X3_256 : Cond.fieldLink RX3 256 "BreadGames$Sheet" "numbers" "[I" ∈ zw := zw_1 (List.mem_of_getElem? (i := 129) (by decide +kernel)) rfl
theorem wl_X1_15 : Cond.fieldLink RX1 15 "BreadGames$Sheet" "bits" "I" ∈ zw := zw_1 (List.mem_of_getElem? (i := 130) (by decide +kernel)) rfl
theorem wl_X3_250 : Cond.fieldLink RX3 250 "BreadGames$Sheet" "bits" "I" ∈ zw := zw_1 (List.mem_of_getElem? (i := 131) (by decide +kernel)) rfl
theorem wl_X1_19 : Cond.fieldLink RX1 19 "BreadGames$Sheet" "size" "I" ∈ zw := zw_1 (List.mem_of_getElem? (i := 132) (by decide +kernel)) rfl
theorem wl_X3_241 : Cond.fieldLink RX3 241 "BreadGames$Sheet" "size" "I" ∈ zw := zw_1 (List.mem_of_getElem? (i := 133) (by decide +kernel)) rfl
theorem wl_X0_137 : Cond.fieldLink RX0 137 "BreadGames$Sheet" "size" "I" ∈ zw := zw_1 (List.mem_of_getElem? (i := 134) (by decide +kernel)) rfl
theorem wl_X3_10 : Cond.fieldLink RX3 10 "BreadGames" "city" "LBreadGames$City;" ∈ zw := zw_1 (List.mem_of_getElem? (i := 142) (by decide +kernel)) rfl
theorem wl_X3_16 : Cond.fieldLink RX3 16 "BreadGames" "trial" "LBreadGames$City;" ∈ zw := zw_1 (List.mem_of_getElem? (i := 143) (by decide +kernel)) rfl
theorem wl_X3_19 : Cond.fieldLink RX3 19 "BreadGames" "kept" "LBreadGames$City;" ∈ zw := zw_1 (List.mem_of_getElem? (i := 144) (by decide +kernel)) rfl
theorem wl_X3_25 : Cond.fieldLink RX3 25 "BreadGames" "tape" "LBreadGames$Tape;" ∈ zw := zw_1 (List.mem_of_getElem? (i := 145) (by decide +kernel)) rfl
theorem wl_X3_31 : Cond.fieldLink RX3 31 "BreadGames" "sheets" "[LBreadGames$Sheet;" ∈ zw := zw_1 (List.mem_of_getElem? (i := 146) (by decide +kernel)) rfl
theorem wl_X3_36 : Cond.fieldLink RX3 36 "BreadGames" "found" "[I" ∈ zw := zw_1 (List.mem_of_getElem? (i := 147) (by decide +kernel)) rfl
theorem wl_X3_40 : Cond.fieldLink RX3 40 "BreadGames" "keeps" "Z" ∈ zw := zw_1 (List.mem_of_getElem? (i := 148) (by decide +kernel)) rfl
theorem wl_L_13 : Cond.methodLink RL 13 yX3_citizen ∈ zw := zw_1 (List.mem_of_getElem? (i := 164) (by decide +kernel)) rfl
theorem wi_X3_citizen : Cond.instanceMethod yX3_citizen ∈ zw := zw_1 (List.mem_of_getElem? (i := 165) (by decide +kernel)) rfl
theorem wv_X3_citizen : Cond.selects RX3 yX3_citizen yX3_citizen ∈ zw := zw_1 (List.mem_of_getElem? (i := 166) (by decide +kernel)) rfl
theorem wc_X3_citizen : Cond.code yX3_citizen cX3_citizen 2 (some .int) ∈ zw := zw_1 (List.mem_of_getElem? (i := 167) (by decide +kernel)) rfl
theorem wl_X3_44 : Cond.methodLink RX3 44 yX3_isKind ∈ zw := zw_1 (List.mem_of_getElem? (i := 168) (by decide +kernel)) rfl
theorem wt_X3_isKind : Cond.static yX3_isKind ∈ zw := zw_1 (List.mem_of_getElem? (i := 169) (by decide +kernel)) rfl
theorem wc_X3_isKind : Cond.code yX3_isKind cX3_isKind 1 (some .boolean) ∈ zw := zw_1 (List.mem_of_getElem? (i := 170) (by decide +kernel)) rfl
theorem wl_X3_48 : Cond.methodLink RX3 48 yX3_finding ∈ zw := zw_1 (List.mem_of_getElem? (i := 171) (by decide +kernel)) rfl
theorem wi_X3_finding : Cond.instanceMethod yX3_finding ∈ zw := zw_1 (List.mem_of_getElem? (i := 173) (by decide +kernel)) rfl
theorem wc_X3_finding : Cond.code yX3_finding cX3_finding 2 (some .int) ∈ zw := zw_1 (List.mem_of_getElem? (i := 174) (by decide +kernel)) rfl
theorem wl_X3_276 : Cond.constant RX3 276 (-1000001) ∈ zw := zw_1 (List.mem_of_getElem? (i := 175) (by decide +kernel)) rfl
theorem wl_X3_56 : Cond.methodLink RX3 56 yX0_settle ∈ zw := zw_1 (List.mem_of_getElem? (i := 176) (by decide +kernel)) rfl
theorem wi_X0_settle : Cond.instanceMethod yX0_settle ∈ zw := zw_1 (List.mem_of_getElem? (i := 177) (by decide +kernel)) rfl
theorem wv_X0_settle : Cond.selects RX0 yX0_settle yX0_settle ∈ zw := zw_1 (List.mem_of_getElem? (i := 178) (by decide +kernel)) rfl
theorem wc_X0_settle : Cond.code yX0_settle cX0_settle 3 (none : Option Jvm.ClassFile.FieldType) ∈ zw := zw_1 (List.mem_of_getElem? (i := 179) (by decide +kernel)) rfl
theorem wl_L_18 : Cond.methodLink RL 18 yX3_of ∈ zw := zw_1 (List.mem_of_getElem? (i := 180) (by decide +kernel)) rfl
theorem wi_X3_of : Cond.instanceMethod yX3_of ∈ zw := zw_1 (List.mem_of_getElem? (i := 181) (by decide +kernel)) rfl
theorem wv_X3_of : Cond.selects RX3 yX3_of yX3_of ∈ zw := zw_1 (List.mem_of_getElem? (i := 182) (by decide +kernel)) rfl
theorem wc_X3_of : Cond.code yX3_of cX3_of 3 (some .int) ∈ zw := zw_1 (List.mem_of_getElem? (i := 183) (by decide +kernel)) rfl
theorem wl_X3_60 : Cond.methodLink RX3 60 yX0_houses ∈ zw := zw_1 (List.mem_of_getElem? (i := 184) (by decide +kernel)) rfl
theorem wi_X0_houses : Cond.instanceMethod yX0_houses ∈ zw := zw_1 (List.mem_of_getElem? (i := 185) (by decide +kernel)) rfl
theorem wv_X0_houses : Cond.selects RX0 yX0_houses yX0_houses ∈ zw := zw_1 (List.mem_of_getElem? (i := 186) (by decide +kernel)) rfl
theorem wc_X0_houses : Cond.code yX0_houses cX0_houses 2 (some .boolean) ∈ zw := zw_1 (List.mem_of_getElem? (i := 187) (by decide +kernel)) rfl
theorem wl_X3_66 : Cond.methodLink RX3 66 yX0_loafWorth ∈ zw := zw_1 (List.mem_of_getElem? (i := 188) (by decide +kernel)) rfl
theorem wi_X0_loafWorth : Cond.instanceMethod yX0_loafWorth ∈ zw := zw_1 (List.mem_of_getElem? (i := 189) (by decide +kernel)) rfl
theorem wv_X0_loafWorth : Cond.selects RX0 yX0_loafWorth yX0_loafWorth ∈ zw := zw_1 (List.mem_of_getElem? (i := 190) (by decide +kernel)) rfl
theorem wc_X0_loafWorth : Cond.code yX0_loafWorth cX0_loafWorth 3 (some .int) ∈ zw := zw_1 (List.mem_of_getElem? (i := 191) (by decide +kernel)) rfl
theorem wl_X3_69 : Cond.methodLink RX3 69 yX0_seatWorth ∈ zw := zw_1 (List.mem_of_getElem? (i := 192) (by decide +kernel)) rfl
theorem wi_X0_seatWorth : Cond.instanceMethod yX0_seatWorth ∈ zw := zw_1 (List.mem_of_getElem? (i := 193) (by decide +kernel)) rfl
theorem wv_X0_seatWorth : Cond.selects RX0 yX0_seatWorth yX0_seatWorth ∈ zw := zw_1 (List.mem_of_getElem? (i := 194) (by decide +kernel)) rfl
theorem wc_X0_seatWorth : Cond.code yX0_seatWorth cX0_seatWorth 3 (some .int) ∈ zw := zw_1 (List.mem_of_getElem? (i := 195) (by decide +kernel)) rfl
theorem wl_X3_72 : Cond.methodLink RX3 72 yX0_hasTrait ∈ zw := zw_1 (List.mem_of_getElem? (i := 196) (by decide +kernel)) rfl
theorem wt_X0_hasTrait : Cond.static yX0_hasTrait ∈ zw := zw_1 (List.mem_of_getElem? (i := 197) (by decide +kernel)) rfl
theorem wc_X0_hasTrait : Cond.code yX0_hasTrait cX0_hasTrait 1 (some .boolean) ∈ zw := zw_1 (List.mem_of_getElem? (i := 198) (by decide +kernel)) rfl
theorem wl_X3_75 : Cond.methodLink RX3 75 yX0_trait ∈ zw := zw_1 (List.mem_of_getElem? (i := 199) (by decide +kernel)) rfl
theorem wi_X0_trait : Cond.instanceMethod yX0_trait ∈ zw := zw_1 (List.mem_of_getElem? (i := 200) (by decide +kernel)) rfl
theorem wv_X0_trait : Cond.selects RX0 yX0_trait yX0_trait ∈ zw := zw_1 (List.mem_of_getElem? (i := 201) (by decide +kernel)) rfl
theorem wc_X0_trait : Cond.code yX0_trait cX0_trait 3 (some .int) ∈ zw := zw_1 (List.mem_of_getElem? (i := 202) (by decide +kernel)) rfl
theorem wl_L_23 : Cond.methodLink RL 23 yX3_change ∈ zw := zw_1 (List.mem_of_getElem? (i := 203) (by decide +kernel)) rfl
theorem wi_X3_change : Cond.instanceMethod yX3_change ∈ zw := zw_1 (List.mem_of_getElem? (i := 204) (by decide +kernel)) rfl
theorem wv_X3_change : Cond.selects RX3 yX3_change yX3_change ∈ zw := zw_1 (List.mem_of_getElem? (i := 205) (by decide +kernel)) rfl
theorem wc_X3_change : Cond.code yX3_change cX3_change 5 (some .int) ∈ zw := zw_1 (List.mem_of_getElem? (i := 206) (by decide +kernel)) rfl
theorem wl_X3_79 : Cond.methodLink RX3 79 yX0_allowsTrait ∈ zw := zw_1 (List.mem_of_getElem? (i := 207) (by decide +kernel)) rfl
theorem wt_X0_allowsTrait : Cond.static yX0_allowsTrait ∈ zw := zw_1 (List.mem_of_getElem? (i := 208) (by decide +kernel)) rfl
theorem wc_X0_allowsTrait : Cond.code yX0_allowsTrait cX0_allowsTrait 2 (some .boolean) ∈ zw := zw_1 (List.mem_of_getElem? (i := 209) (by decide +kernel)) rfl
theorem wl_X3_83 : Cond.methodLink RX3 83 yX0_setTrait ∈ zw := zw_1 (List.mem_of_getElem? (i := 211) (by decide +kernel)) rfl
theorem wi_X0_setTrait : Cond.instanceMethod yX0_setTrait ∈ zw := zw_1 (List.mem_of_getElem? (i := 212) (by decide +kernel)) rfl
theorem wv_X0_setTrait : Cond.selects RX0 yX0_setTrait yX0_setTrait ∈ zw := zw_1 (List.mem_of_getElem? (i := 213) (by decide +kernel)) rfl
theorem wc_X0_setTrait : Cond.code yX0_setTrait cX0_setTrait 4 (none : Option Jvm.ClassFile.FieldType) ∈ zw := zw_1 (List.mem_of_getElem? (i := 214) (by decide +kernel)) rfl
theorem wl_X0_71 : Cond.methodLink RX0 71 yX0_houses ∈ zw := zw_1 (List.mem_of_getElem? (i := 215) (by decide +kernel)) rfl
theorem wl_L_28 : Cond.methodLink RL 28 yX3_rule ∈ zw := zw_1 (List.mem_of_getElem? (i := 216) (by decide +kernel)) rfl
theorem wi_X3_rule : Cond.instanceMethod yX3_rule ∈ zw := zw_1 (List.mem_of_getElem? (i := 217) (by decide +kernel)) rfl
theorem wv_X3_rule : Cond.selects RX3 yX3_rule yX3_rule ∈ zw := zw_1 (List.mem_of_getElem? (i := 218) (by decide +kernel)) rfl
theorem wc_X3_rule : Cond.code yX3_rule cX3_rule 4 (some .int) ∈ zw := zw_1 (List.mem_of_getElem? (i := 219) (by decide +kernel)) rfl
theorem wl_X3_87 : Cond.methodLink RX3 87 yX0_allowsRule ∈ zw := zw_1 (List.mem_of_getElem? (i := 220) (by decide +kernel)) rfl
theorem wt_X0_allowsRule : Cond.static yX0_allowsRule ∈ zw := zw_1 (List.mem_of_getElem? (i := 221) (by decide +kernel)) rfl
theorem wc_X0_allowsRule : Cond.code yX0_allowsRule cX0_allowsRule 2 (some .boolean) ∈ zw := zw_1 (List.mem_of_getElem? (i := 222) (by decide +kernel)) rfl
theorem wl_X3_90 : Cond.methodLink RX3 90 yX0_ruling ∈ zw := zw_1 (List.mem_of_getElem? (i := 223) (by decide +kernel)) rfl
theorem wi_X0_ruling : Cond.instanceMethod yX0_ruling ∈ zw := zw_1 (List.mem_of_getElem? (i := 224) (by decide +kernel)) rfl
theorem wv_X0_ruling : Cond.selects RX0 yX0_ruling yX0_ruling ∈ zw := zw_1 (List.mem_of_getElem? (i := 225) (by decide +kernel)) rfl
theorem wc_X0_ruling : Cond.code yX0_ruling cX0_ruling 2 (some .int) ∈ zw := zw_1 (List.mem_of_getElem? (i := 226) (by decide +kernel)) rfl
theorem wl_X3_93 : Cond.methodLink RX3 93 yX0_setRuling ∈ zw := zw_1 (List.mem_of_getElem? (i := 227) (by decide +kernel)) rfl
theorem wi_X0_setRuling : Cond.instanceMethod yX0_setRuling ∈ zw := zw_1 (List.mem_of_getElem? (i := 228) (by decide +kernel)) rfl
theorem wv_X0_setRuling : Cond.selects RX0 yX0_setRuling yX0_setRuling ∈ zw := zw_1 (List.mem_of_getElem? (i := 229) (by decide +kernel)) rfl
theorem wc_X0_setRuling : Cond.code yX0_setRuling cX0_setRuling 3 (none : Option Jvm.ClassFile.FieldType) ∈ zw := zw_1 (List.mem_of_getElem? (i := 230) (by decide +kernel)) rfl
theorem wl_L_32 : Cond.methodLink RL 32 yX3_now ∈ zw := zw_1 (List.mem_of_getElem? (i := 231) (by decide +kernel)) rfl
theorem wi_X3_now : Cond.instanceMethod yX3_now ∈ zw := zw_1 (List.mem_of_getElem? (i := 232) (by decide +kernel)) rfl
theorem wv_X3_now : Cond.selects RX3 yX3_now yX3_now ∈ zw := zw_1 (List.mem_of_getElem? (i := 233) (by decide +kernel)) rfl
theorem wc_X3_now : Cond.code yX3_now cX3_now 2 (some .int) ∈ zw := zw_1 (List.mem_of_getElem? (i := 234) (by decide +kernel)) rfl
theorem wl_X3_106 : Cond.methodLink RX3 106 yX0_holders ∈ zw := zw_1 (List.mem_of_getElem? (i := 235) (by decide +kernel)) rfl
theorem wi_X0_holders : Cond.instanceMethod yX0_holders ∈ zw := zw_1 (List.mem_of_getElem? (i := 236) (by decide +kernel)) rfl
theorem wv_X0_holders : Cond.selects RX0 yX0_holders yX0_holders ∈ zw := zw_1 (List.mem_of_getElem? (i := 237) (by decide +kernel)) rfl
theorem wc_X0_holders : Cond.code yX0_holders cX0_holders 4 (some .int) ∈ zw := zw_1 (List.mem_of_getElem? (i := 238) (by decide +kernel)) rfl
theorem wl_X3_109 : Cond.methodLink RX3 109 yX0_starving ∈ zw := zw_1 (List.mem_of_getElem? (i := 239) (by decide +kernel)) rfl
theorem wi_X0_starving : Cond.instanceMethod yX0_starving ∈ zw := zw_2 (List.mem_of_getElem? (i := 0) (by decide +kernel)) rfl
theorem wv_X0_starving : Cond.selects RX0 yX0_starving yX0_starving ∈ zw := zw_2 (List.mem_of_getElem? (i := 1) (by decide +kernel)) rfl
theorem wc_X0_starving : Cond.code yX0_starving cX0_starving 3 (some .int) ∈ zw := zw_2 (List.mem_of_getElem? (i := 2) (by decide +kernel)) rfl
theorem wl_L_36 : Cond.methodLink RL 36 yX3_wants ∈ zw := zw_2 (List.mem_of_getElem? (i := 3) (by decide +kernel)) rfl
theorem wi_X3_wants : Cond.instanceMethod yX3_wants ∈ zw := zw_2 (List.mem_of_getElem? (i := 4) (by decide +kernel)) rfl
theorem wv_X3_wants : Cond.selects RX3 yX3_wants yX3_wants ∈ zw := zw_2 (List.mem_of_getElem? (i := 5) (by decide +kernel)) rfl
theorem wc_X3_wants : Cond.code yX3_wants cX3_wants 2 (some .int) ∈ zw := zw_2 (List.mem_of_getElem? (i := 6) (by decide +kernel)) rfl
theorem wl_X3_122 : Cond.methodLink RX3 122 yX0_wantsOther ∈ zw := zw_2 (List.mem_of_getElem? (i := 7) (by decide +kernel)) rfl
theorem wi_X0_wantsOther : Cond.instanceMethod yX0_wantsOther ∈ zw := zw_2 (List.mem_of_getElem? (i := 8) (by decide +kernel)) rfl
theorem wv_X0_wantsOther : Cond.selects RX0 yX0_wantsOther yX0_wantsOther ∈ zw := zw_2 (List.mem_of_getElem? (i := 9) (by decide +kernel)) rfl
theorem wc_X0_wantsOther : Cond.code yX0_wantsOther cX0_wantsOther 3 (some .boolean) ∈ zw := zw_2 (List.mem_of_getElem? (i := 10) (by decide +kernel)) rfl
theorem wl_X0_78 : Cond.methodLink RX0 78 yX0_seatWorth ∈ zw := zw_2 (List.mem_of_getElem? (i := 11) (by decide +kernel)) rfl
theorem wl_X0_74 : Cond.methodLink RX0 74 yX0_loafWorth ∈ zw := zw_2 (List.mem_of_getElem? (i := 12) (by decide +kernel)) rfl
theorem wl_L_40 : Cond.methodLink RL 40 yX3_swap ∈ zw := zw_2 (List.mem_of_getElem? (i := 13) (by decide +kernel)) rfl
theorem wi_X3_swap : Cond.instanceMethod yX3_swap ∈ zw := zw_2 (List.mem_of_getElem? (i := 14) (by decide +kernel)) rfl
theorem wv_X3_swap : Cond.selects RX3 yX3_swap yX3_swap ∈ zw := zw_2 (List.mem_of_getElem? (i := 15) (by decide +kernel)) rfl
theorem wc_X3_swap : Cond.code yX3_swap cX3_swap 4 (some .int) ∈ zw := zw_2 (List.mem_of_getElem? (i := 16) (by decide +kernel)) rfl
theorem wl_X3_125 : Cond.methodLink RX3 125 yX0_exchange ∈ zw := zw_2 (List.mem_of_getElem? (i := 17) (by decide +kernel)) rfl
theorem wi_X0_exchange : Cond.instanceMethod yX0_exchange ∈ zw := zw_2 (List.mem_of_getElem? (i := 18) (by decide +kernel)) rfl
theorem wv_X0_exchange : Cond.selects RX0 yX0_exchange yX0_exchange ∈ zw := zw_2 (List.mem_of_getElem? (i := 19) (by decide +kernel)) rfl
theorem wc_X0_exchange : Cond.code yX0_exchange cX0_exchange 4 (none : Option Jvm.ClassFile.FieldType) ∈ zw := zw_2 (List.mem_of_getElem? (i := 20) (by decide +kernel)) rfl
theorem wl_L_44 : Cond.methodLink RL 44 yX3_gates ∈ zw := zw_2 (List.mem_of_getElem? (i := 21) (by decide +kernel)) rfl
theorem wi_X3_gates : Cond.instanceMethod yX3_gates ∈ zw := zw_2 (List.mem_of_getElem? (i := 22) (by decide +kernel)) rfl
theorem wv_X3_gates : Cond.selects RX3 yX3_gates yX3_gates ∈ zw := zw_2 (List.mem_of_getElem? (i := 23) (by decide +kernel)) rfl
theorem wc_X3_gates : Cond.code yX3_gates cX3_gates 1 (some .int) ∈ zw := zw_2 (List.mem_of_getElem? (i := 24) (by decide +kernel)) rfl
theorem wl_X3_128 : Cond.methodLink RX3 128 yX0_openGates ∈ zw := zw_2 (List.mem_of_getElem? (i := 25) (by decide +kernel)) rfl
theorem wi_X0_openGates : Cond.instanceMethod yX0_openGates ∈ zw := zw_2 (List.mem_of_getElem? (i := 26) (by decide +kernel)) rfl
theorem wv_X0_openGates : Cond.selects RX0 yX0_openGates yX0_openGates ∈ zw := zw_2 (List.mem_of_getElem? (i := 27) (by decide +kernel)) rfl
theorem wc_X0_openGates : Cond.code yX0_openGates cX0_openGates 4 (some .int) ∈ zw := zw_2 (List.mem_of_getElem? (i := 28) (by decide +kernel)) rfl
theorem wl_X0_81 : Cond.methodLink RX0 81 yX0_wantsOther ∈ zw := zw_2 (List.mem_of_getElem? (i := 29) (by decide +kernel)) rfl
theorem wl_X0_84 : Cond.methodLink RX0 84 yX0_exchange ∈ zw := zw_2 (List.mem_of_getElem? (i := 30) (by decide +kernel)) rfl
theorem wl_L_49 : Cond.methodLink RL 49 yX3_changes ∈ zw := zw_2 (List.mem_of_getElem? (i := 31) (by decide +kernel)) rfl
theorem wi_X3_changes : Cond.instanceMethod yX3_changes ∈ zw := zw_2 (List.mem_of_getElem? (i := 32) (by decide +kernel)) rfl
theorem wv_X3_changes : Cond.selects RX3 yX3_changes yX3_changes ∈ zw := zw_2 (List.mem_of_getElem? (i := 33) (by decide +kernel)) rfl
theorem wc_X3_changes : Cond.code yX3_changes cX3_changes 1 (some .int) ∈ zw := zw_2 (List.mem_of_getElem? (i := 34) (by decide +kernel)) rfl
theorem wl_X3_131 : Cond.methodLink RX3 131 yX0_become ∈ zw := zw_2 (List.mem_of_getElem? (i := 35) (by decide +kernel)) rfl
theorem wi_X0_become : Cond.instanceMethod yX0_become ∈ zw := zw_2 (List.mem_of_getElem? (i := 36) (by decide +kernel)) rfl
theorem wv_X0_become : Cond.selects RX0 yX0_become yX0_become ∈ zw := zw_2 (List.mem_of_getElem? (i := 37) (by decide +kernel)) rfl
theorem wc_X0_become : Cond.code yX0_become cX0_become 2 (none : Option Jvm.ClassFile.FieldType) ∈ zw := zw_2 (List.mem_of_getElem? (i := 38) (by decide +kernel)) rfl
theorem wl_X0_61 : Cond.methodLink RX0 61 arraycopyName ∈ zw := zw_2 (List.mem_of_getElem? (i := 39) (by decide +kernel)) rfl
theorem wt_acopy : Cond.static arraycopyName ∈ zw := zw_2 (List.mem_of_getElem? (i := 40) (by decide +kernel)) rfl
theorem wnat_acopy : Cond.native arraycopyName ∈ zw := zw_2 (List.mem_of_getElem? (i := 41) (by decide +kernel)) rfl
theorem wl_L_53 : Cond.methodLink RL 53 yX3_buy ∈ zw := zw_2 (List.mem_of_getElem? (i := 42) (by decide +kernel)) rfl
theorem wi_X3_buy : Cond.instanceMethod yX3_buy ∈ zw := zw_2 (List.mem_of_getElem? (i := 43) (by decide +kernel)) rfl
theorem wv_X3_buy : Cond.selects RX3 yX3_buy yX3_buy ∈ zw := zw_2 (List.mem_of_getElem? (i := 44) (by decide +kernel)) rfl
theorem wc_X3_buy : Cond.code yX3_buy cX3_buy 5 (some .int) ∈ zw := zw_2 (List.mem_of_getElem? (i := 45) (by decide +kernel)) rfl
theorem wl_X3_135 : Cond.methodLink RX3 135 yX0_wouldTrade ∈ zw := zw_2 (List.mem_of_getElem? (i := 46) (by decide +kernel)) rfl
theorem wi_X0_wouldTrade : Cond.instanceMethod yX0_wouldTrade ∈ zw := zw_2 (List.mem_of_getElem? (i := 47) (by decide +kernel)) rfl
theorem wv_X0_wouldTrade : Cond.selects RX0 yX0_wouldTrade yX0_wouldTrade ∈ zw := zw_2 (List.mem_of_getElem? (i := 48) (by decide +kernel)) rfl
theorem wc_X0_wouldTrade : Cond.code yX0_wouldTrade cX0_wouldTrade 4 (some .boolean) ∈ zw := zw_2 (List.mem_of_getElem? (i := 49) (by decide +kernel)) rfl
theorem wl_X0_88 : Cond.methodLink RX0 88 yX0_tokenWorth ∈ zw := zw_2 (List.mem_of_getElem? (i := 50) (by decide +kernel)) rfl
theorem wi_X0_tokenWorth : Cond.instanceMethod yX0_tokenWorth ∈ zw := zw_2 (List.mem_of_getElem? (i := 51) (by decide +kernel)) rfl
theorem wv_X0_tokenWorth : Cond.selects RX0 yX0_tokenWorth yX0_tokenWorth ∈ zw := zw_2 (List.mem_of_getElem? (i := 52) (by decide +kernel)) rfl
theorem wc_X0_tokenWorth : Cond.code yX0_tokenWorth cX0_tokenWorth 3 (some .int) ∈ zw := zw_2 (List.mem_of_getElem? (i := 53) (by decide +kernel)) rfl
theorem wl_X3_139 : Cond.methodLink RX3 139 yX0_trade ∈ zw := zw_2 (List.mem_of_getElem? (i := 54) (by decide +kernel)) rfl
theorem wi_X0_trade : Cond.instanceMethod yX0_trade ∈ zw := zw_2 (List.mem_of_getElem? (i := 55) (by decide +kernel)) rfl
theorem wv_X0_trade : Cond.selects RX0 yX0_trade yX0_trade ∈ zw := zw_2 (List.mem_of_getElem? (i := 56) (by decide +kernel)) rfl
theorem wc_X0_trade : Cond.code yX0_trade cX0_trade 4 (none : Option Jvm.ClassFile.FieldType) ∈ zw := zw_2 (List.mem_of_getElem? (i := 57) (by decide +kernel)) rfl
theorem wl_L_57 : Cond.methodLink RL 57 yX3_welfare ∈ zw := zw_2 (List.mem_of_getElem? (i := 58) (by decide +kernel)) rfl
theorem wi_X3_welfare : Cond.instanceMethod yX3_welfare ∈ zw := zw_2 (List.mem_of_getElem? (i := 59) (by decide +kernel)) rfl
theorem wv_X3_welfare : Cond.selects RX3 yX3_welfare yX3_welfare ∈ zw := zw_2 (List.mem_of_getElem? (i := 60) (by decide +kernel)) rfl
theorem wc_X3_welfare : Cond.code yX3_welfare cX3_welfare 1 (some .int) ∈ zw := zw_2 (List.mem_of_getElem? (i := 61) (by decide +kernel)) rfl
theorem wl_X3_145 : Cond.methodLink RX3 145 yX0_allWorth ∈ zw := zw_2 (List.mem_of_getElem? (i := 62) (by decide +kernel)) rfl
theorem wi_X0_allWorth : Cond.instanceMethod yX0_allWorth ∈ zw := zw_2 (List.mem_of_getElem? (i := 63) (by decide +kernel)) rfl
theorem wv_X0_allWorth : Cond.selects RX0 yX0_allWorth yX0_allWorth ∈ zw := zw_2 (List.mem_of_getElem? (i := 64) (by decide +kernel)) rfl
theorem wc_X0_allWorth : Cond.code yX0_allWorth cX0_allWorth 3 (some .int) ∈ zw := zw_2 (List.mem_of_getElem? (i := 65) (by decide +kernel)) rfl
theorem wl_L_61 : Cond.methodLink RL 61 yX3_most ∈ zw := zw_2 (List.mem_of_getElem? (i := 66) (by decide +kernel)) rfl
theorem wi_X3_most : Cond.instanceMethod yX3_most ∈ zw := zw_2 (List.mem_of_getElem? (i := 67) (by decide +kernel)) rfl
theorem wv_X3_most : Cond.selects RX3 yX3_most yX3_most ∈ zw := zw_2 (List.mem_of_getElem? (i := 68) (by decide +kernel)) rfl
theorem wc_X3_most : Cond.code yX3_most cX3_most 1 (some .int) ∈ zw := zw_2 (List.mem_of_getElem? (i := 69) (by decide +kernel)) rfl
theorem wl_X3_148 : Cond.methodLink RX3 148 yX0_bestWorth ∈ zw := zw_2 (List.mem_of_getElem? (i := 70) (by decide +kernel)) rfl
theorem wi_X0_bestWorth : Cond.instanceMethod yX0_bestWorth ∈ zw := zw_2 (List.mem_of_getElem? (i := 71) (by decide +kernel)) rfl
theorem wv_X0_bestWorth : Cond.selects RX0 yX0_bestWorth yX0_bestWorth ∈ zw := zw_2 (List.mem_of_getElem? (i := 72) (by decide +kernel)) rfl
theorem wc_X0_bestWorth : Cond.code yX0_bestWorth cX0_bestWorth 6 (some .int) ∈ zw := zw_2 (List.mem_of_getElem? (i := 73) (by decide +kernel)) rfl
theorem wl_X0_92 : Cond.methodLink RX0 92 yX0_holders ∈ zw := zw_2 (List.mem_of_getElem? (i := 74) (by decide +kernel)) rfl
theorem wl_X0_95 : Cond.methodLink RX0 95 yJ6_bitCount_0f7a4 ∈ zw := zw_2 (List.mem_of_getElem? (i := 75) (by decide +kernel)) rfl
theorem wt_J6_bitCount_0f7a4 : Cond.static yJ6_bitCount_0f7a4 ∈ zw := zw_2 (List.mem_of_getElem? (i := 76) (by decide +kernel)) rfl
theorem wc_J6_bitCount_0f7a4 : Cond.code yJ6_bitCount_0f7a4 cJ6_bitCount_0f7a4 1 (some .int) ∈ zw := zw_2 (List.mem_of_getElem? (i := 77) (by decide +kernel)) rfl
theorem wl_J6_265 : Cond.constant RJ6 265 (1431655765) ∈ zw := zw_2 (List.mem_of_getElem? (i := 78) (by decide +kernel)) rfl
theorem wl_J6_266 : Cond.constant RJ6 266 (858993459) ∈ zw := zw_2 (List.mem_of_getElem? (i := 79) (by decide +kernel)) rfl
theorem wl_J6_267 : Cond.constant RJ6 267 (252645135) ∈ zw := zw_2 (List.mem_of_getElem? (i := 80) (by decide +kernel)) rfl
theorem wl_X0_100 : Cond.methodLink RX0 100 yX0_keenestOnLoaf ∈ zw := zw_2 (List.mem_of_getElem? (i := 81) (by decide +kernel)) rfl
theorem wi_X0_keenestOnLoaf : Cond.instanceMethod yX0_keenestOnLoaf ∈ zw := zw_2 (List.mem_of_getElem? (i := 82) (by decide +kernel)) rfl
theorem wv_X0_keenestOnLoaf : Cond.selects RX0 yX0_keenestOnLoaf yX0_keenestOnLoaf ∈ zw := zw_2 (List.mem_of_getElem? (i := 83) (by decide +kernel)) rfl
theorem wc_X0_keenestOnLoaf : Cond.code yX0_keenestOnLoaf cX0_keenestOnLoaf 6 (some .int) ∈ zw := zw_2 (List.mem_of_getElem? (i := 84) (by decide +kernel)) rfl
theorem wl_L_65 : Cond.methodLink RL 65 yX3_price ∈ zw := zw_2 (List.mem_of_getElem? (i := 85) (by decide +kernel)) rfl
theorem wi_X3_price : Cond.instanceMethod yX3_price ∈ zw := zw_2 (List.mem_of_getElem? (i := 86) (by decide +kernel)) rfl
theorem wv_X3_price : Cond.selects RX3 yX3_price yX3_price ∈ zw := zw_2 (List.mem_of_getElem? (i := 87) (by decide +kernel)) rfl
theorem wc_X3_price : Cond.code yX3_price cX3_price 3 (some .int) ∈ zw := zw_2 (List.mem_of_getElem? (i := 88) (by decide +kernel)) rfl
theorem wl_X3_151 : Cond.methodLink RX3 151 yJ6_bitCount_0f7a4 ∈ zw := zw_2 (List.mem_of_getElem? (i := 89) (by decide +kernel)) rfl
theorem wl_X3_156 : Cond.methodLink RX3 156 yX0_preferLoafAt ∈ zw := zw_2 (List.mem_of_getElem? (i := 90) (by decide +kernel)) rfl
theorem wi_X0_preferLoafAt : Cond.instanceMethod yX0_preferLoafAt ∈ zw := zw_2 (List.mem_of_getElem? (i := 91) (by decide +kernel)) rfl
theorem wv_X0_preferLoafAt : Cond.selects RX0 yX0_preferLoafAt yX0_preferLoafAt ∈ zw := zw_2 (List.mem_of_getElem? (i := 92) (by decide +kernel)) rfl
theorem wc_X0_preferLoafAt : Cond.code yX0_preferLoafAt cX0_preferLoafAt 4 (some .int) ∈ zw := zw_2 (List.mem_of_getElem? (i := 93) (by decide +kernel)) rfl
theorem wl_L_69 : Cond.methodLink RL 69 yX3_weeks ∈ zw := zw_2 (List.mem_of_getElem? (i := 94) (by decide +kernel)) rfl
theorem wi_X3_weeks : Cond.instanceMethod yX3_weeks ∈ zw := zw_2 (List.mem_of_getElem? (i := 95) (by decide +kernel)) rfl
theorem wv_X3_weeks : Cond.selects RX3 yX3_weeks yX3_weeks ∈ zw := zw_2 (List.mem_of_getElem? (i := 96) (by decide +kernel)) rfl
theorem wc_X3_weeks : Cond.code yX3_weeks cX3_weeks 4 (some .int) ∈ zw := zw_2 (List.mem_of_getElem? (i := 97) (by decide +kernel)) rfl
theorem wl_X3_159 : Cond.methodLink RX3 159 yX3_hindrance ∈ zw := zw_2 (List.mem_of_getElem? (i := 98) (by decide +kernel)) rfl
theorem wi_X3_hindrance : Cond.instanceMethod yX3_hindrance ∈ zw := zw_2 (List.mem_of_getElem? (i := 100) (by decide +kernel)) rfl
theorem wc_X3_hindrance : Cond.code yX3_hindrance cX3_hindrance 2 (some .int) ∈ zw := zw_2 (List.mem_of_getElem? (i := 101) (by decide +kernel)) rfl
theorem wl_X3_162 : Cond.methodLink RX3 162 yX0_passWeeks ∈ zw := zw_2 (List.mem_of_getElem? (i := 102) (by decide +kernel)) rfl
theorem wi_X0_passWeeks : Cond.instanceMethod yX0_passWeeks ∈ zw := zw_2 (List.mem_of_getElem? (i := 103) (by decide +kernel)) rfl
theorem wv_X0_passWeeks : Cond.selects RX0 yX0_passWeeks yX0_passWeeks ∈ zw := zw_2 (List.mem_of_getElem? (i := 104) (by decide +kernel)) rfl
theorem wc_X0_passWeeks : Cond.code yX0_passWeeks cX0_passWeeks 4 (some .int) ∈ zw := zw_2 (List.mem_of_getElem? (i := 105) (by decide +kernel)) rfl
theorem wl_X0_131 : Cond.methodLink RX0 131 yX0_passWeek ∈ zw := zw_2 (List.mem_of_getElem? (i := 106) (by decide +kernel)) rfl
theorem wi_X0_passWeek : Cond.instanceMethod yX0_passWeek ∈ zw := zw_2 (List.mem_of_getElem? (i := 107) (by decide +kernel)) rfl
theorem wv_X0_passWeek : Cond.selects RX0 yX0_passWeek yX0_passWeek ∈ zw := zw_2 (List.mem_of_getElem? (i := 108) (by decide +kernel)) rfl
theorem wc_X0_passWeek : Cond.code yX0_passWeek cX0_passWeek 3 (some .int) ∈ zw := zw_2 (List.mem_of_getElem? (i := 109) (by decide +kernel)) rfl
theorem wl_X0_119 : Cond.methodLink RX0 119 yX0_drawTokens ∈ zw := zw_2 (List.mem_of_getElem? (i := 110) (by decide +kernel)) rfl
theorem wi_X0_drawTokens : Cond.instanceMethod yX0_drawTokens ∈ zw := zw_2 (List.mem_of_getElem? (i := 111) (by decide +kernel)) rfl
theorem wv_X0_drawTokens : Cond.selects RX0 yX0_drawTokens yX0_drawTokens ∈ zw := zw_2 (List.mem_of_getElem? (i := 112) (by decide +kernel)) rfl
theorem wc_X0_drawTokens : Cond.code yX0_drawTokens cX0_drawTokens 5 (none : Option Jvm.ClassFile.FieldType) ∈ zw := zw_2 (List.mem_of_getElem? (i := 113) (by decide +kernel)) rfl
theorem wl_X0_104 : Cond.methodLink RX0 104 yX0_draw ∈ zw := zw_2 (List.mem_of_getElem? (i := 114) (by decide +kernel)) rfl
theorem wi_X0_draw : Cond.instanceMethod yX0_draw ∈ zw := zw_2 (List.mem_of_getElem? (i := 115) (by decide +kernel)) rfl
theorem wv_X0_draw : Cond.selects RX0 yX0_draw yX0_draw ∈ zw := zw_2 (List.mem_of_getElem? (i := 116) (by decide +kernel)) rfl
theorem wc_X0_draw : Cond.code yX0_draw cX0_draw 1 (some .int) ∈ zw := zw_2 (List.mem_of_getElem? (i := 117) (by decide +kernel)) rfl
theorem wl_X0_103 : Cond.constant RX0 103 (1103515245) ∈ zw := zw_2 (List.mem_of_getElem? (i := 118) (by decide +kernel)) rfl
theorem wl_X0_122 : Cond.methodLink RX0 122 yX0_openGates ∈ zw := zw_2 (List.mem_of_getElem? (i := 119) (by decide +kernel)) rfl
theorem wl_X0_125 : Cond.methodLink RX0 125 yX0_eatAndSee ∈ zw := zw_2 (List.mem_of_getElem? (i := 120) (by decide +kernel)) rfl
theorem wi_X0_eatAndSee : Cond.instanceMethod yX0_eatAndSee ∈ zw := zw_2 (List.mem_of_getElem? (i := 121) (by decide +kernel)) rfl
theorem wv_X0_eatAndSee : Cond.selects RX0 yX0_eatAndSee yX0_eatAndSee ∈ zw := zw_2 (List.mem_of_getElem? (i := 122) (by decide +kernel)) rfl
theorem wc_X0_eatAndSee : Cond.code yX0_eatAndSee cX0_eatAndSee 3 (none : Option Jvm.ClassFile.FieldType) ∈ zw := zw_2 (List.mem_of_getElem? (i := 123) (by decide +kernel)) rfl
theorem wl_X0_108 : Cond.methodLink RX0 108 Lib.Math.max.name ∈ zw := zw_2 (List.mem_of_getElem? (i := 124) (by decide +kernel)) rfl
theorem wt_mmax : Cond.static Lib.Math.max.name ∈ zw := zw_2 (List.mem_of_getElem? (i := 125) (by decide +kernel)) rfl
theorem wc_mmax : Cond.code Lib.Math.max.name Lib.Math.max.code 2 (some .int) ∈ zw := zw_2 (List.mem_of_getElem? (i := 126) (by decide +kernel)) rfl
theorem wl_X0_113 : Cond.methodLink RX0 113 Lib.Math.min.name ∈ zw := zw_2 (List.mem_of_getElem? (i := 127) (by decide +kernel)) rfl
theorem wt_mmin : Cond.static Lib.Math.min.name ∈ zw := zw_2 (List.mem_of_getElem? (i := 128) (by decide +kernel)) rfl
theorem wc_mmin : Cond.code Lib.Math.min.name Lib.Math.min.code 2 (some .int) ∈ zw := zw_2 (List.mem_of_getElem? (i := 129) (by decide +kernel)) rfl
theorem wl_X0_128 : Cond.methodLink RX0 128 yX0_maybeRiot ∈ zw := zw_2 (List.mem_of_getElem? (i := 130) (by decide +kernel)) rfl
theorem wi_X0_maybeRiot : Cond.instanceMethod yX0_maybeRiot ∈ zw := zw_2 (List.mem_of_getElem? (i := 131) (by decide +kernel)) rfl
theorem wv_X0_maybeRiot : Cond.selects RX0 yX0_maybeRiot yX0_maybeRiot ∈ zw := zw_2 (List.mem_of_getElem? (i := 132) (by decide +kernel)) rfl
theorem wc_X0_maybeRiot : Cond.code yX0_maybeRiot cX0_maybeRiot 2 (none : Option Jvm.ClassFile.FieldType) ∈ zw := zw_2 (List.mem_of_getElem? (i := 133) (by decide +kernel)) rfl
theorem wl_X0_116 : Cond.methodLink RX0 116 yX0_starving ∈ zw := zw_2 (List.mem_of_getElem? (i := 134) (by decide +kernel)) rfl
theorem wl_L_73 : Cond.methodLink RL 73 yX3_ahead ∈ zw := zw_2 (List.mem_of_getElem? (i := 135) (by decide +kernel)) rfl
theorem wi_X3_ahead : Cond.instanceMethod yX3_ahead ∈ zw := zw_2 (List.mem_of_getElem? (i := 136) (by decide +kernel)) rfl
theorem wv_X3_ahead : Cond.selects RX3 yX3_ahead yX3_ahead ∈ zw := zw_2 (List.mem_of_getElem? (i := 137) (by decide +kernel)) rfl
theorem wc_X3_ahead : Cond.code yX3_ahead cX3_ahead 5 (some .int) ∈ zw := zw_2 (List.mem_of_getElem? (i := 138) (by decide +kernel)) rfl
theorem wl_X3_168 : Cond.methodLink RX3 168 yX0_allOf ∈ zw := zw_2 (List.mem_of_getElem? (i := 139) (by decide +kernel)) rfl
theorem wi_X0_allOf : Cond.instanceMethod yX0_allOf ∈ zw := zw_2 (List.mem_of_getElem? (i := 140) (by decide +kernel)) rfl
theorem wv_X0_allOf : Cond.selects RX0 yX0_allOf yX0_allOf ∈ zw := zw_2 (List.mem_of_getElem? (i := 141) (by decide +kernel)) rfl
theorem wc_X0_allOf : Cond.code yX0_allOf cX0_allOf 4 (some .int) ∈ zw := zw_2 (List.mem_of_getElem? (i := 142) (by decide +kernel)) rfl
theorem wl_L_77 : Cond.methodLink RL 77 yX3_riot ∈ zw := zw_2 (List.mem_of_getElem? (i := 143) (by decide +kernel)) rfl
theorem wi_X3_riot : Cond.instanceMethod yX3_riot ∈ zw := zw_2 (List.mem_of_getElem? (i := 144) (by decide +kernel)) rfl
theorem wv_X3_riot : Cond.selects RX3 yX3_riot yX3_riot ∈ zw := zw_2 (List.mem_of_getElem? (i := 145) (by decide +kernel)) rfl
theorem wc_X3_riot : Cond.code yX3_riot cX3_riot 2 (some .int) ∈ zw := zw_2 (List.mem_of_getElem? (i := 146) (by decide +kernel)) rfl
theorem wl_X3_172 : Cond.methodLink RX3 172 yX0_calmWeeks ∈ zw := zw_2 (List.mem_of_getElem? (i := 147) (by decide +kernel)) rfl
theorem wi_X0_calmWeeks : Cond.instanceMethod yX0_calmWeeks ∈ zw := zw_2 (List.mem_of_getElem? (i := 148) (by decide +kernel)) rfl
theorem wv_X0_calmWeeks : Cond.selects RX0 yX0_calmWeeks yX0_calmWeeks ∈ zw := zw_2 (List.mem_of_getElem? (i := 149) (by decide +kernel)) rfl
theorem wc_X0_calmWeeks : Cond.code yX0_calmWeeks cX0_calmWeeks 4 (some .int) ∈ zw := zw_2 (List.mem_of_getElem? (i := 150) (by decide +kernel)) rfl
theorem wl_L_81 : Cond.methodLink RL 81 yX3_next ∈ zw := zw_2 (List.mem_of_getElem? (i := 151) (by decide +kernel)) rfl
theorem wi_X3_next : Cond.instanceMethod yX3_next ∈ zw := zw_2 (List.mem_of_getElem? (i := 152) (by decide +kernel)) rfl
theorem wv_X3_next : Cond.selects RX3 yX3_next yX3_next ∈ zw := zw_2 (List.mem_of_getElem? (i := 153) (by decide +kernel)) rfl
theorem wc_X3_next : Cond.code yX3_next cX3_next 2 (some .int) ∈ zw := zw_2 (List.mem_of_getElem? (i := 154) (by decide +kernel)) rfl
theorem wl_X3_175 : Cond.methodLink RX3 175 yX0_drawTokens ∈ zw := zw_2 (List.mem_of_getElem? (i := 155) (by decide +kernel)) rfl
theorem wl_L_85 : Cond.methodLink RL 85 yX3_loaves ∈ zw := zw_2 (List.mem_of_getElem? (i := 156) (by decide +kernel)) rfl
theorem wi_X3_loaves : Cond.instanceMethod yX3_loaves ∈ zw := zw_2 (List.mem_of_getElem? (i := 157) (by decide +kernel)) rfl
theorem wv_X3_loaves : Cond.selects RX3 yX3_loaves yX3_loaves ∈ zw := zw_2 (List.mem_of_getElem? (i := 158) (by decide +kernel)) rfl
theorem wc_X3_loaves : Cond.code yX3_loaves cX3_loaves 2 (some .int) ∈ zw := zw_2 (List.mem_of_getElem? (i := 159) (by decide +kernel)) rfl
theorem wl_X3_178 : Cond.methodLink RX3 178 yX3_leastCalmRuling ∈ zw := zw_2 (List.mem_of_getElem? (i := 160) (by decide +kernel)) rfl
theorem wi_X3_leastCalmRuling : Cond.instanceMethod yX3_leastCalmRuling ∈ zw := zw_2 (List.mem_of_getElem? (i := 162) (by decide +kernel)) rfl
theorem wc_X3_leastCalmRuling : Cond.code yX3_leastCalmRuling cX3_leastCalmRuling 5 (some .int) ∈ zw := zw_2 (List.mem_of_getElem? (i := 163) (by decide +kernel)) rfl
theorem wl_L_89 : Cond.methodLink RL 89 yX3_cheapest ∈ zw := zw_2 (List.mem_of_getElem? (i := 164) (by decide +kernel)) rfl
theorem wi_X3_cheapest : Cond.instanceMethod yX3_cheapest ∈ zw := zw_2 (List.mem_of_getElem? (i := 165) (by decide +kernel)) rfl
theorem wv_X3_cheapest : Cond.selects RX3 yX3_cheapest yX3_cheapest ∈ zw := zw_2 (List.mem_of_getElem? (i := 166) (by decide +kernel)) rfl
theorem wc_X3_cheapest : Cond.code yX3_cheapest cX3_cheapest 8 (some .int) ∈ zw := zw_2 (List.mem_of_getElem? (i := 167) (by decide +kernel)) rfl
theorem wl_X3_181 : Cond.methodLink RX3 181 yX3_isCalmWith ∈ zw := zw_2 (List.mem_of_getElem? (i := 168) (by decide +kernel)) rfl
theorem wi_X3_isCalmWith : Cond.instanceMethod yX3_isCalmWith ∈ zw := zw_2 (List.mem_of_getElem? (i := 170) (by decide +kernel)) rfl
theorem wc_X3_isCalmWith : Cond.code yX3_isCalmWith cX3_isCalmWith 4 (some .boolean) ∈ zw := zw_2 (List.mem_of_getElem? (i := 171) (by decide +kernel)) rfl
theorem wl_L_93 : Cond.methodLink RL 93 yX3_leader ∈ zw := zw_2 (List.mem_of_getElem? (i := 172) (by decide +kernel)) rfl
theorem wi_X3_leader : Cond.instanceMethod yX3_leader ∈ zw := zw_2 (List.mem_of_getElem? (i := 173) (by decide +kernel)) rfl
theorem wv_X3_leader : Cond.selects RX3 yX3_leader yX3_leader ∈ zw := zw_2 (List.mem_of_getElem? (i := 174) (by decide +kernel)) rfl
theorem wc_X3_leader : Cond.code yX3_leader cX3_leader 7 (some .int) ∈ zw := zw_2 (List.mem_of_getElem? (i := 175) (by decide +kernel)) rfl
theorem wl_L_97 : Cond.methodLink RL 97 yX3_colourFor ∈ zw := zw_2 (List.mem_of_getElem? (i := 176) (by decide +kernel)) rfl
theorem wi_X3_colourFor : Cond.instanceMethod yX3_colourFor ∈ zw := zw_2 (List.mem_of_getElem? (i := 177) (by decide +kernel)) rfl
theorem wv_X3_colourFor : Cond.selects RX3 yX3_colourFor yX3_colourFor ∈ zw := zw_2 (List.mem_of_getElem? (i := 178) (by decide +kernel)) rfl
theorem wc_X3_colourFor : Cond.code yX3_colourFor cX3_colourFor 3 (some .int) ∈ zw := zw_2 (List.mem_of_getElem? (i := 179) (by decide +kernel)) rfl
theorem wl_X3_184 : Cond.methodLink RX3 184 yX3_bestTrait ∈ zw := zw_2 (List.mem_of_getElem? (i := 180) (by decide +kernel)) rfl
theorem wi_X3_bestTrait : Cond.instanceMethod yX3_bestTrait ∈ zw := zw_2 (List.mem_of_getElem? (i := 182) (by decide +kernel)) rfl
theorem wc_X3_bestTrait : Cond.code yX3_bestTrait cX3_bestTrait 10 (some .int) ∈ zw := zw_2 (List.mem_of_getElem? (i := 183) (by decide +kernel)) rfl
theorem wl_L_101 : Cond.methodLink RL 101 yX3_kindFor ∈ zw := zw_2 (List.mem_of_getElem? (i := 184) (by decide +kernel)) rfl
theorem wi_X3_kindFor : Cond.instanceMethod yX3_kindFor ∈ zw := zw_2 (List.mem_of_getElem? (i := 185) (by decide +kernel)) rfl
theorem wv_X3_kindFor : Cond.selects RX3 yX3_kindFor yX3_kindFor ∈ zw := zw_2 (List.mem_of_getElem? (i := 186) (by decide +kernel)) rfl
theorem wc_X3_kindFor : Cond.code yX3_kindFor cX3_kindFor 3 (some .int) ∈ zw := zw_2 (List.mem_of_getElem? (i := 187) (by decide +kernel)) rfl
theorem wl_L_105 : Cond.methodLink RL 105 yX3_stale ∈ zw := zw_2 (List.mem_of_getElem? (i := 188) (by decide +kernel)) rfl
theorem wi_X3_stale : Cond.instanceMethod yX3_stale ∈ zw := zw_2 (List.mem_of_getElem? (i := 189) (by decide +kernel)) rfl
theorem wv_X3_stale : Cond.selects RX3 yX3_stale yX3_stale ∈ zw := zw_2 (List.mem_of_getElem? (i := 190) (by decide +kernel)) rfl
theorem wc_X3_stale : Cond.code yX3_stale cX3_stale 4 (some .int) ∈ zw := zw_2 (List.mem_of_getElem? (i := 191) (by decide +kernel)) rfl
theorem wl_L_109 : Cond.methodLink RL 109 yX3_bound ∈ zw := zw_2 (List.mem_of_getElem? (i := 192) (by decide +kernel)) rfl
theorem wi_X3_bound : Cond.instanceMethod yX3_bound ∈ zw := zw_2 (List.mem_of_getElem? (i := 193) (by decide +kernel)) rfl
theorem wv_X3_bound : Cond.selects RX3 yX3_bound yX3_bound ∈ zw := zw_2 (List.mem_of_getElem? (i := 194) (by decide +kernel)) rfl
theorem wc_X3_bound : Cond.code yX3_bound cX3_bound 2 (some .int) ∈ zw := zw_2 (List.mem_of_getElem? (i := 195) (by decide +kernel)) rfl
theorem wl_L_113 : Cond.methodLink RL 113 yX3_law ∈ zw := zw_2 (List.mem_of_getElem? (i := 196) (by decide +kernel)) rfl
theorem wi_X3_law : Cond.instanceMethod yX3_law ∈ zw := zw_2 (List.mem_of_getElem? (i := 197) (by decide +kernel)) rfl
theorem wv_X3_law : Cond.selects RX3 yX3_law yX3_law ∈ zw := zw_2 (List.mem_of_getElem? (i := 198) (by decide +kernel)) rfl
theorem wc_X3_law : Cond.code yX3_law cX3_law 6 (some .int) ∈ zw := zw_2 (List.mem_of_getElem? (i := 199) (by decide +kernel)) rfl
theorem wl_L_117 : Cond.methodLink RL 117 yX3_ways ∈ zw := zw_2 (List.mem_of_getElem? (i := 200) (by decide +kernel)) rfl
theorem wi_X3_ways : Cond.instanceMethod yX3_ways ∈ zw := zw_2 (List.mem_of_getElem? (i := 201) (by decide +kernel)) rfl
theorem wv_X3_ways : Cond.selects RX3 yX3_ways yX3_ways ∈ zw := zw_2 (List.mem_of_getElem? (i := 202) (by decide +kernel)) rfl
theorem wc_X3_ways : Cond.code yX3_ways cX3_ways 1 (some .long) ∈ zw := zw_2 (List.mem_of_getElem? (i := 203) (by decide +kernel)) rfl
theorem wl_X3_194 : Cond.methodLink RX3 194 yX3_waysThat ∈ zw := zw_2 (List.mem_of_getElem? (i := 204) (by decide +kernel)) rfl
theorem wi_X3_waysThat : Cond.instanceMethod yX3_waysThat ∈ zw := zw_2 (List.mem_of_getElem? (i := 206) (by decide +kernel)) rfl
theorem wc_X3_waysThat : Cond.code yX3_waysThat cX3_waysThat 8 (some .long) ∈ zw := zw_2 (List.mem_of_getElem? (i := 207) (by decide +kernel)) rfl
theorem wl_X3_280 : Cond.methodLink RX3 280 yX0_drawers ∈ zw := zw_2 (List.mem_of_getElem? (i := 208) (by decide +kernel)) rfl
theorem wi_X0_drawers : Cond.instanceMethod yX0_drawers ∈ zw := zw_2 (List.mem_of_getElem? (i := 209) (by decide +kernel)) rfl
theorem wv_X0_drawers : Cond.selects RX0 yX0_drawers yX0_drawers ∈ zw := zw_2 (List.mem_of_getElem? (i := 210) (by decide +kernel)) rfl
theorem wc_X0_drawers : Cond.code yX0_drawers cX0_drawers 1 (some .int) ∈ zw := zw_2 (List.mem_of_getElem? (i := 211) (by decide +kernel)) rfl
theorem wl_X3_283 : Cond.methodLink RX3 283 yX0_canDeal ∈ zw := zw_2 (List.mem_of_getElem? (i := 212) (by decide +kernel)) rfl
theorem wi_X0_canDeal : Cond.instanceMethod yX0_canDeal ∈ zw := zw_2 (List.mem_of_getElem? (i := 213) (by decide +kernel)) rfl
theorem wv_X0_canDeal : Cond.selects RX0 yX0_canDeal yX0_canDeal ∈ zw := zw_2 (List.mem_of_getElem? (i := 214) (by decide +kernel)) rfl
theorem wc_X0_canDeal : Cond.code yX0_canDeal cX0_canDeal 3 (some .boolean) ∈ zw := zw_2 (List.mem_of_getElem? (i := 215) (by decide +kernel)) rfl
theorem wl_X0_134 : Cond.methodLink RX0 134 yX0_drawers ∈ zw := zw_2 (List.mem_of_getElem? (i := 216) (by decide +kernel)) rfl
theorem wl_X3_286 : Cond.methodLink RX3 286 yX0_deal ∈ zw := zw_2 (List.mem_of_getElem? (i := 217) (by decide +kernel)) rfl
theorem wi_X0_deal : Cond.instanceMethod yX0_deal ∈ zw := zw_2 (List.mem_of_getElem? (i := 218) (by decide +kernel)) rfl
theorem wv_X0_deal : Cond.selects RX0 yX0_deal yX0_deal ∈ zw := zw_2 (List.mem_of_getElem? (i := 219) (by decide +kernel)) rfl
theorem wc_X0_deal : Cond.code yX0_deal cX0_deal 4 (none : Option Jvm.ClassFile.FieldType) ∈ zw := zw_2 (List.mem_of_getElem? (i := 220) (by decide +kernel)) rfl
theorem wl_X3_289 : Cond.methodLink RX3 289 yX3_isSo ∈ zw := zw_2 (List.mem_of_getElem? (i := 221) (by decide +kernel)) rfl
theorem wi_X3_isSo : Cond.instanceMethod yX3_isSo ∈ zw := zw_2 (List.mem_of_getElem? (i := 223) (by decide +kernel)) rfl
theorem wc_X3_isSo : Cond.code yX3_isSo cX3_isSo 4 (some .boolean) ∈ zw := zw_2 (List.mem_of_getElem? (i := 224) (by decide +kernel)) rfl
theorem wl_X3_235 : Cond.methodLink RX3 235 yX3_isSheet ∈ zw := zw_2 (List.mem_of_getElem? (i := 225) (by decide +kernel)) rfl
theorem wt_X3_isSheet : Cond.static yX3_isSheet ∈ zw := zw_2 (List.mem_of_getElem? (i := 226) (by decide +kernel)) rfl
theorem wc_X3_isSheet : Cond.code yX3_isSheet cX3_isSheet 1 (some .boolean) ∈ zw := zw_2 (List.mem_of_getElem? (i := 227) (by decide +kernel)) rfl
theorem wl_X3_292 : Cond.methodLink RX3 292 yX0_fits ∈ zw := zw_2 (List.mem_of_getElem? (i := 228) (by decide +kernel)) rfl
theorem wi_X0_fits : Cond.instanceMethod yX0_fits ∈ zw := zw_2 (List.mem_of_getElem? (i := 229) (by decide +kernel)) rfl
theorem wv_X0_fits : Cond.selects RX0 yX0_fits yX0_fits ∈ zw := zw_2 (List.mem_of_getElem? (i := 230) (by decide +kernel)) rfl
theorem wc_X0_fits : Cond.code yX0_fits cX0_fits 3 (some .boolean) ∈ zw := zw_2 (List.mem_of_getElem? (i := 231) (by decide +kernel)) rfl
theorem wl_L_122 : Cond.methodLink RL 122 yX3_eats ∈ zw := zw_2 (List.mem_of_getElem? (i := 232) (by decide +kernel)) rfl
theorem wi_X3_eats : Cond.instanceMethod yX3_eats ∈ zw := zw_2 (List.mem_of_getElem? (i := 233) (by decide +kernel)) rfl
theorem wv_X3_eats : Cond.selects RX3 yX3_eats yX3_eats ∈ zw := zw_2 (List.mem_of_getElem? (i := 234) (by decide +kernel)) rfl
theorem wc_X3_eats : Cond.code yX3_eats cX3_eats 2 (some .long) ∈ zw := zw_2 (List.mem_of_getElem? (i := 235) (by decide +kernel)) rfl
theorem wl_L_127 : Cond.methodLink RL 127 yX3_busy ∈ zw := zw_2 (List.mem_of_getElem? (i := 236) (by decide +kernel)) rfl
theorem wi_X3_busy : Cond.instanceMethod yX3_busy ∈ zw := zw_2 (List.mem_of_getElem? (i := 237) (by decide +kernel)) rfl
theorem wv_X3_busy : Cond.selects RX3 yX3_busy yX3_busy ∈ zw := zw_2 (List.mem_of_getElem? (i := 238) (by decide +kernel)) rfl
theorem wc_X3_busy : Cond.code yX3_busy cX3_busy 2 (some .long) ∈ zw := zw_2 (List.mem_of_getElem? (i := 239) (by decide +kernel)) rfl
theorem wl_L_131 : Cond.methodLink RL 131 yX3_famine ∈ zw := zw_3 (List.mem_of_getElem? (i := 0) (by decide +kernel)) rfl
theorem wi_X3_famine : Cond.instanceMethod yX3_famine ∈ zw := zw_3 (List.mem_of_getElem? (i := 1) (by decide +kernel)) rfl
theorem wv_X3_famine : Cond.selects RX3 yX3_famine yX3_famine ∈ zw := zw_3 (List.mem_of_getElem? (i := 2) (by decide +kernel)) rfl
theorem wc_X3_famine : Cond.code yX3_famine cX3_famine 3 (some .int) ∈ zw := zw_3 (List.mem_of_getElem? (i := 3) (by decide +kernel)) rfl
theorem wl_X3_198 : Cond.methodLink RX3 198 yX0_strike ∈ zw := zw_3 (List.mem_of_getElem? (i := 4) (by decide +kernel)) rfl
theorem wi_X0_strike : Cond.instanceMethod yX0_strike ∈ zw := zw_3 (List.mem_of_getElem? (i := 5) (by decide +kernel)) rfl
theorem wv_X0_strike : Cond.selects RX0 yX0_strike yX0_strike ∈ zw := zw_3 (List.mem_of_getElem? (i := 6) (by decide +kernel)) rfl
theorem wc_X0_strike : Cond.code yX0_strike cX0_strike 2 (none : Option Jvm.ClassFile.FieldType) ∈ zw := zw_3 (List.mem_of_getElem? (i := 7) (by decide +kernel)) rfl
theorem wl_L_135 : Cond.methodLink RL 135 yX3_seed ∈ zw := zw_3 (List.mem_of_getElem? (i := 8) (by decide +kernel)) rfl
theorem wi_X3_seed : Cond.instanceMethod yX3_seed ∈ zw := zw_3 (List.mem_of_getElem? (i := 9) (by decide +kernel)) rfl
theorem wv_X3_seed : Cond.selects RX3 yX3_seed yX3_seed ∈ zw := zw_3 (List.mem_of_getElem? (i := 10) (by decide +kernel)) rfl
theorem wc_X3_seed : Cond.code yX3_seed cX3_seed 3 (some .int) ∈ zw := zw_3 (List.mem_of_getElem? (i := 11) (by decide +kernel)) rfl
theorem wl_L_139 : Cond.methodLink RL 139 yX3_feed ∈ zw := zw_3 (List.mem_of_getElem? (i := 12) (by decide +kernel)) rfl
theorem wi_X3_feed : Cond.instanceMethod yX3_feed ∈ zw := zw_3 (List.mem_of_getElem? (i := 13) (by decide +kernel)) rfl
theorem wv_X3_feed : Cond.selects RX3 yX3_feed yX3_feed ∈ zw := zw_3 (List.mem_of_getElem? (i := 14) (by decide +kernel)) rfl
theorem wc_X3_feed : Cond.code yX3_feed cX3_feed 4 (some .int) ∈ zw := zw_3 (List.mem_of_getElem? (i := 15) (by decide +kernel)) rfl
theorem wl_X3_207 : Cond.methodLink RX3 207 yX2_append ∈ zw := zw_3 (List.mem_of_getElem? (i := 16) (by decide +kernel)) rfl
theorem wi_X2_append : Cond.instanceMethod yX2_append ∈ zw := zw_3 (List.mem_of_getElem? (i := 17) (by decide +kernel)) rfl
theorem wv_X2_append : Cond.selects RX2 yX2_append yX2_append ∈ zw := zw_3 (List.mem_of_getElem? (i := 18) (by decide +kernel)) rfl
theorem wc_X2_append : Cond.code yX2_append cX2_append 2 (none : Option Jvm.ClassFile.FieldType) ∈ zw := zw_3 (List.mem_of_getElem? (i := 19) (by decide +kernel)) rfl
theorem wl_L_143 : Cond.methodLink RL 143 yX3_wipe ∈ zw := zw_3 (List.mem_of_getElem? (i := 20) (by decide +kernel)) rfl
theorem wi_X3_wipe : Cond.instanceMethod yX3_wipe ∈ zw := zw_3 (List.mem_of_getElem? (i := 21) (by decide +kernel)) rfl
theorem wv_X3_wipe : Cond.selects RX3 yX3_wipe yX3_wipe ∈ zw := zw_3 (List.mem_of_getElem? (i := 22) (by decide +kernel)) rfl
theorem wc_X3_wipe : Cond.code yX3_wipe cX3_wipe 2 (some .int) ∈ zw := zw_3 (List.mem_of_getElem? (i := 23) (by decide +kernel)) rfl
theorem wl_L_147 : Cond.methodLink RL 147 yX3_text ∈ zw := zw_3 (List.mem_of_getElem? (i := 24) (by decide +kernel)) rfl
theorem wi_X3_text : Cond.instanceMethod yX3_text ∈ zw := zw_3 (List.mem_of_getElem? (i := 25) (by decide +kernel)) rfl
theorem wv_X3_text : Cond.selects RX3 yX3_text yX3_text ∈ zw := zw_3 (List.mem_of_getElem? (i := 26) (by decide +kernel)) rfl
theorem wc_X3_text : Cond.code yX3_text cX3_text 5 (some .int) ∈ zw := zw_3 (List.mem_of_getElem? (i := 27) (by decide +kernel)) rfl
theorem wl_X3_210 : Cond.methodLink RX3 210 yX2_rewind ∈ zw := zw_3 (List.mem_of_getElem? (i := 28) (by decide +kernel)) rfl
theorem wi_X2_rewind : Cond.instanceMethod yX2_rewind ∈ zw := zw_3 (List.mem_of_getElem? (i := 29) (by decide +kernel)) rfl
theorem wv_X2_rewind : Cond.selects RX2 yX2_rewind yX2_rewind ∈ zw := zw_3 (List.mem_of_getElem? (i := 30) (by decide +kernel)) rfl
theorem wc_X2_rewind : Cond.code yX2_rewind cX2_rewind 1 (none : Option Jvm.ClassFile.FieldType) ∈ zw := zw_3 (List.mem_of_getElem? (i := 31) (by decide +kernel)) rfl
theorem wl_X3_213 : Cond.methodLink RX3 213 yX2_advance ∈ zw := zw_3 (List.mem_of_getElem? (i := 32) (by decide +kernel)) rfl
theorem wi_X2_advance : Cond.instanceMethod yX2_advance ∈ zw := zw_3 (List.mem_of_getElem? (i := 33) (by decide +kernel)) rfl
theorem wv_X2_advance : Cond.selects RX2 yX2_advance yX2_advance ∈ zw := zw_3 (List.mem_of_getElem? (i := 34) (by decide +kernel)) rfl
theorem wc_X2_advance : Cond.code yX2_advance cX2_advance 1 (none : Option Jvm.ClassFile.FieldType) ∈ zw := zw_3 (List.mem_of_getElem? (i := 35) (by decide +kernel)) rfl
theorem wl_X2_31 : Cond.methodLink RX2 31 yX2_isLetter ∈ zw := zw_3 (List.mem_of_getElem? (i := 36) (by decide +kernel)) rfl
theorem wt_X2_isLetter : Cond.static yX2_isLetter ∈ zw := zw_3 (List.mem_of_getElem? (i := 37) (by decide +kernel)) rfl
theorem wc_X2_isLetter : Cond.code yX2_isLetter cX2_isLetter 1 (some .boolean) ∈ zw := zw_3 (List.mem_of_getElem? (i := 38) (by decide +kernel)) rfl
theorem wl_X2_35 : Cond.methodLink RX2 35 yX2_readWord ∈ zw := zw_3 (List.mem_of_getElem? (i := 39) (by decide +kernel)) rfl
theorem wi_X2_readWord : Cond.instanceMethod yX2_readWord ∈ zw := zw_3 (List.mem_of_getElem? (i := 40) (by decide +kernel)) rfl
theorem wv_X2_readWord : Cond.selects RX2 yX2_readWord yX2_readWord ∈ zw := zw_3 (List.mem_of_getElem? (i := 41) (by decide +kernel)) rfl
theorem wc_X2_readWord : Cond.code yX2_readWord cX2_readWord 1 (none : Option Jvm.ClassFile.FieldType) ∈ zw := zw_3 (List.mem_of_getElem? (i := 42) (by decide +kernel)) rfl
theorem wl_X2_38 : Cond.methodLink RX2 38 yX2_isDigit ∈ zw := zw_3 (List.mem_of_getElem? (i := 43) (by decide +kernel)) rfl
theorem wt_X2_isDigit : Cond.static yX2_isDigit ∈ zw := zw_3 (List.mem_of_getElem? (i := 44) (by decide +kernel)) rfl
theorem wc_X2_isDigit : Cond.code yX2_isDigit cX2_isDigit 1 (some .boolean) ∈ zw := zw_3 (List.mem_of_getElem? (i := 45) (by decide +kernel)) rfl
theorem wl_X2_41 : Cond.methodLink RX2 41 yX2_readNumber ∈ zw := zw_3 (List.mem_of_getElem? (i := 46) (by decide +kernel)) rfl
theorem wi_X2_readNumber : Cond.instanceMethod yX2_readNumber ∈ zw := zw_3 (List.mem_of_getElem? (i := 47) (by decide +kernel)) rfl
theorem wv_X2_readNumber : Cond.selects RX2 yX2_readNumber yX2_readNumber ∈ zw := zw_3 (List.mem_of_getElem? (i := 48) (by decide +kernel)) rfl
theorem wc_X2_readNumber : Cond.code yX2_readNumber cX2_readNumber 1 (none : Option Jvm.ClassFile.FieldType) ∈ zw := zw_3 (List.mem_of_getElem? (i := 49) (by decide +kernel)) rfl
theorem wl_X2_44 : Cond.methodLink RX2 44 Lib.Math.min.name ∈ zw := zw_3 (List.mem_of_getElem? (i := 50) (by decide +kernel)) rfl
theorem wl_X3_216 : Cond.methodLink RX3 216 yX3_readItem ∈ zw := zw_3 (List.mem_of_getElem? (i := 51) (by decide +kernel)) rfl
theorem wi_X3_readItem : Cond.instanceMethod yX3_readItem ∈ zw := zw_3 (List.mem_of_getElem? (i := 53) (by decide +kernel)) rfl
theorem wc_X3_readItem : Cond.code yX3_readItem cX3_readItem 3 (some .boolean) ∈ zw := zw_3 (List.mem_of_getElem? (i := 54) (by decide +kernel)) rfl
theorem wl_X3_296 : Cond.methodLink RX3 296 yX2_kindTold ∈ zw := zw_3 (List.mem_of_getElem? (i := 55) (by decide +kernel)) rfl
theorem wi_X2_kindTold : Cond.instanceMethod yX2_kindTold ∈ zw := zw_3 (List.mem_of_getElem? (i := 56) (by decide +kernel)) rfl
theorem wv_X2_kindTold : Cond.selects RX2 yX2_kindTold yX2_kindTold ∈ zw := zw_3 (List.mem_of_getElem? (i := 57) (by decide +kernel)) rfl
theorem wc_X2_kindTold : Cond.code yX2_kindTold cX2_kindTold 2 (some .int) ∈ zw := zw_3 (List.mem_of_getElem? (i := 58) (by decide +kernel)) rfl
theorem wl_X2_59 : Cond.methodLink RX2 59 yX2_kindWord ∈ zw := zw_3 (List.mem_of_getElem? (i := 59) (by decide +kernel)) rfl
theorem wt_X2_kindWord : Cond.static yX2_kindWord ∈ zw := zw_3 (List.mem_of_getElem? (i := 60) (by decide +kernel)) rfl
theorem wc_X2_kindWord : Cond.code yX2_kindWord cX2_kindWord 1 (some (.object "java/lang/String")) ∈ zw := zw_3 (List.mem_of_getElem? (i := 61) (by decide +kernel)) rfl
theorem wl_X2_63 : Cond.methodLink RX2 63 yX2_isWord ∈ zw := zw_3 (List.mem_of_getElem? (i := 69) (by decide +kernel)) rfl
theorem wi_X2_isWord : Cond.instanceMethod yX2_isWord ∈ zw := zw_3 (List.mem_of_getElem? (i := 70) (by decide +kernel)) rfl
theorem wv_X2_isWord : Cond.selects RX2 yX2_isWord yX2_isWord ∈ zw := zw_3 (List.mem_of_getElem? (i := 71) (by decide +kernel)) rfl
theorem wc_X2_isWord : Cond.code yX2_isWord cX2_isWord 3 (some .boolean) ∈ zw := zw_3 (List.mem_of_getElem? (i := 72) (by decide +kernel)) rfl
theorem wl_X2_50 : Cond.methodLink RX2 50 yJ0_length_8abf5 ∈ zw := zw_3 (List.mem_of_getElem? (i := 73) (by decide +kernel)) rfl
theorem wi_J0_length_8abf5 : Cond.instanceMethod yJ0_length_8abf5 ∈ zw := zw_3 (List.mem_of_getElem? (i := 74) (by decide +kernel)) rfl
theorem wv_J0_length_8abf5 : Cond.selects RJ0 yJ0_length_8abf5 yJ0_length_8abf5 ∈ zw := zw_3 (List.mem_of_getElem? (i := 75) (by decide +kernel)) rfl
theorem wc_J0_length_8abf5 : Cond.code yJ0_length_8abf5 cJ0_length_8abf5 1 (some .int) ∈ zw := zw_3 (List.mem_of_getElem? (i := 76) (by decide +kernel)) rfl
theorem wl_J0_335 : Cond.methodLink RJ0 335 yJ0_coder_7d493 ∈ zw := zw_3 (List.mem_of_getElem? (i := 77) (by decide +kernel)) rfl
theorem wi_J0_coder_7d493 : Cond.instanceMethod yJ0_coder_7d493 ∈ zw := zw_3 (List.mem_of_getElem? (i := 78) (by decide +kernel)) rfl
theorem wv_J0_coder_7d493 : Cond.selects RJ0 yJ0_coder_7d493 yJ0_coder_7d493 ∈ zw := zw_3 (List.mem_of_getElem? (i := 79) (by decide +kernel)) rfl
theorem wc_J0_coder_7d493 : Cond.code yJ0_coder_7d493 cJ0_coder_7d493 1 (some .byte) ∈ zw := zw_3 (List.mem_of_getElem? (i := 80) (by decide +kernel)) rfl
theorem wl_J0_38 : Cond.fieldLink RJ0 38 "java/lang/String" "COMPACT_STRINGS" "Z" ∈ zw := zw_3 (List.mem_of_getElem? (i := 81) (by decide +kernel)) rfl
theorem wl_X2_55 : Cond.methodLink RX2 55 yJ0_charAt_5068e ∈ zw := zw_3 (List.mem_of_getElem? (i := 83) (by decide +kernel)) rfl
theorem wi_J0_charAt_5068e : Cond.instanceMethod yJ0_charAt_5068e ∈ zw := zw_3 (List.mem_of_getElem? (i := 84) (by decide +kernel)) rfl
theorem wv_J0_charAt_5068e : Cond.selects RJ0 yJ0_charAt_5068e yJ0_charAt_5068e ∈ zw := zw_3 (List.mem_of_getElem? (i := 85) (by decide +kernel)) rfl
theorem wc_J0_charAt_5068e : Cond.code yJ0_charAt_5068e cJ0_charAt_5068e 2 (some .char) ∈ zw := zw_3 (List.mem_of_getElem? (i := 86) (by decide +kernel)) rfl
theorem wl_J0_492 : Cond.methodLink RJ0 492 yJ0_isLatin1_aae02 ∈ zw := zw_3 (List.mem_of_getElem? (i := 87) (by decide +kernel)) rfl
theorem wi_J0_isLatin1_aae02 : Cond.instanceMethod yJ0_isLatin1_aae02 ∈ zw := zw_3 (List.mem_of_getElem? (i := 88) (by decide +kernel)) rfl
theorem wv_J0_isLatin1_aae02 : Cond.selects RJ0 yJ0_isLatin1_aae02 yJ0_isLatin1_aae02 ∈ zw := zw_3 (List.mem_of_getElem? (i := 89) (by decide +kernel)) rfl
theorem wc_J0_isLatin1_aae02 : Cond.code yJ0_isLatin1_aae02 cJ0_isLatin1_aae02 1 (some .boolean) ∈ zw := zw_3 (List.mem_of_getElem? (i := 90) (by decide +kernel)) rfl
theorem wl_J0_495 : Cond.methodLink RJ0 495 yJ1_charAt_3b067 ∈ zw := zw_3 (List.mem_of_getElem? (i := 91) (by decide +kernel)) rfl
theorem wt_J1_charAt_3b067 : Cond.static yJ1_charAt_3b067 ∈ zw := zw_3 (List.mem_of_getElem? (i := 92) (by decide +kernel)) rfl
theorem wc_J1_charAt_3b067 : Cond.code yJ1_charAt_3b067 cJ1_charAt_3b067 2 (some .char) ∈ zw := zw_3 (List.mem_of_getElem? (i := 93) (by decide +kernel)) rfl
theorem wl_J1_9 : Cond.methodLink RJ1 9 yJ0_checkIndex_df160 ∈ zw := zw_3 (List.mem_of_getElem? (i := 94) (by decide +kernel)) rfl
theorem wt_J0_checkIndex_df160 : Cond.static yJ0_checkIndex_df160 ∈ zw := zw_3 (List.mem_of_getElem? (i := 95) (by decide +kernel)) rfl
theorem wc_J0_checkIndex_df160 : Cond.code yJ0_checkIndex_df160 cJ0_checkIndex_df160 2 (none : Option Jvm.ClassFile.FieldType) ∈ zw := zw_3 (List.mem_of_getElem? (i := 96) (by decide +kernel)) rfl
theorem wl_J0_1053 : Cond.fieldLink RJ0 1053 "jdk/internal/util/Preconditions" "SIOOBE_FORMATTER" "Ljava/util/function/BiFunction;" ∈ zw := zw_3 (List.mem_of_getElem? (i := 97) (by decide +kernel)) rfl
theorem wl_J0_1059 : Cond.methodLink RJ0 1059 yJ3_checkIndex_8e157 ∈ zw := zw_3 (List.mem_of_getElem? (i := 99) (by decide +kernel)) rfl
theorem wt_J3_checkIndex_8e157 : Cond.static yJ3_checkIndex_8e157 ∈ zw := zw_3 (List.mem_of_getElem? (i := 100) (by decide +kernel)) rfl
theorem wc_J3_checkIndex_8e157 : Cond.code yJ3_checkIndex_8e157 cJ3_checkIndex_8e157 3 (some .int) ∈ zw := zw_3 (List.mem_of_getElem? (i := 101) (by decide +kernel)) rfl
theorem wl_J0_498 : Cond.methodLink RJ0 498 yJ2_charAt_3b067 ∈ zw := zw_3 (List.mem_of_getElem? (i := 102) (by decide +kernel)) rfl
theorem wt_J2_charAt_3b067 : Cond.static yJ2_charAt_3b067 ∈ zw := zw_3 (List.mem_of_getElem? (i := 103) (by decide +kernel)) rfl
theorem wc_J2_charAt_3b067 : Cond.code yJ2_charAt_3b067 cJ2_charAt_3b067 2 (some .char) ∈ zw := zw_3 (List.mem_of_getElem? (i := 104) (by decide +kernel)) rfl
theorem wl_J2_67 : Cond.methodLink RJ2 67 yJ2_checkIndex_2214a ∈ zw := zw_3 (List.mem_of_getElem? (i := 105) (by decide +kernel)) rfl
theorem wt_J2_checkIndex_2214a : Cond.static yJ2_checkIndex_2214a ∈ zw := zw_3 (List.mem_of_getElem? (i := 106) (by decide +kernel)) rfl
theorem wc_J2_checkIndex_2214a : Cond.code yJ2_checkIndex_2214a cJ2_checkIndex_2214a 2 (none : Option Jvm.ClassFile.FieldType) ∈ zw := zw_3 (List.mem_of_getElem? (i := 107) (by decide +kernel)) rfl
theorem wl_J2_48 : Cond.methodLink RJ2 48 yJ2_length_9d52b ∈ zw := zw_3 (List.mem_of_getElem? (i := 108) (by decide +kernel)) rfl
theorem wt_J2_length_9d52b : Cond.static yJ2_length_9d52b ∈ zw := zw_3 (List.mem_of_getElem? (i := 109) (by decide +kernel)) rfl
theorem wc_J2_length_9d52b : Cond.code yJ2_length_9d52b cJ2_length_9d52b 1 (some .int) ∈ zw := zw_3 (List.mem_of_getElem? (i := 110) (by decide +kernel)) rfl
theorem wl_J2_414 : Cond.methodLink RJ2 414 yJ0_checkIndex_df160 ∈ zw := zw_3 (List.mem_of_getElem? (i := 111) (by decide +kernel)) rfl
theorem wl_J2_71 : Cond.methodLink RJ2 71 yJ2_getChar_3b067 ∈ zw := zw_3 (List.mem_of_getElem? (i := 112) (by decide +kernel)) rfl
theorem wt_J2_getChar_3b067 : Cond.static yJ2_getChar_3b067 ∈ zw := zw_3 (List.mem_of_getElem? (i := 113) (by decide +kernel)) rfl
theorem wc_J2_getChar_3b067 : Cond.code yJ2_getChar_3b067 cJ2_getChar_3b067 2 (some .char) ∈ zw := zw_3 (List.mem_of_getElem? (i := 114) (by decide +kernel)) rfl
theorem wl_J2_44 : Cond.fieldLink RJ2 44 "java/lang/StringUTF16" "$assertionsDisabled" "Z" ∈ zw := zw_3 (List.mem_of_getElem? (i := 115) (by decide +kernel)) rfl
theorem wl_J2_59 : Cond.fieldLink RJ2 59 "java/lang/StringUTF16" "HI_BYTE_SHIFT" "I" ∈ zw := zw_3 (List.mem_of_getElem? (i := 117) (by decide +kernel)) rfl
theorem wl_J2_63 : Cond.fieldLink RJ2 63 "java/lang/StringUTF16" "LO_BYTE_SHIFT" "I" ∈ zw := zw_3 (List.mem_of_getElem? (i := 119) (by decide +kernel)) rfl
theorem wl_X3_299 : Cond.methodLink RX3 299 yX3_readCitizen ∈ zw := zw_3 (List.mem_of_getElem? (i := 121) (by decide +kernel)) rfl
theorem wi_X3_readCitizen : Cond.instanceMethod yX3_readCitizen ∈ zw := zw_3 (List.mem_of_getElem? (i := 123) (by decide +kernel)) rfl
theorem wc_X3_readCitizen : Cond.code yX3_readCitizen cX3_readCitizen 3 (some .boolean) ∈ zw := zw_3 (List.mem_of_getElem? (i := 124) (by decide +kernel)) rfl
theorem wl_X3_318 : Cond.methodLink RX3 318 yX3_readTrait ∈ zw := zw_3 (List.mem_of_getElem? (i := 126) (by decide +kernel)) rfl
theorem wi_X3_readTrait : Cond.instanceMethod yX3_readTrait ∈ zw := zw_3 (List.mem_of_getElem? (i := 128) (by decide +kernel)) rfl
theorem wc_X3_readTrait : Cond.code yX3_readTrait cX3_readTrait 3 (some .boolean) ∈ zw := zw_3 (List.mem_of_getElem? (i := 129) (by decide +kernel)) rfl
theorem wl_X3_303 : Cond.methodLink RX3 303 yX2_isWord ∈ zw := zw_3 (List.mem_of_getElem? (i := 130) (by decide +kernel)) rfl
theorem wl_X3_307 : Cond.methodLink RX3 307 yX3_readRuling ∈ zw := zw_3 (List.mem_of_getElem? (i := 136) (by decide +kernel)) rfl
theorem wi_X3_readRuling : Cond.instanceMethod yX3_readRuling ∈ zw := zw_3 (List.mem_of_getElem? (i := 138) (by decide +kernel)) rfl
theorem wc_X3_readRuling : Cond.code yX3_readRuling cX3_readRuling 2 (some .boolean) ∈ zw := zw_3 (List.mem_of_getElem? (i := 139) (by decide +kernel)) rfl
theorem warr_byte : Cond.arrayClass .byte ∈ zw := zw_3 (List.mem_of_getElem? (i := 145) (by decide +kernel)) rfl
theorem wl_L_151 : Cond.methodLink RL 151 yX3_hold ∈ zw := zw_3 (List.mem_of_getElem? (i := 146) (by decide +kernel)) rfl
theorem wi_X3_hold : Cond.instanceMethod yX3_hold ∈ zw := zw_3 (List.mem_of_getElem? (i := 147) (by decide +kernel)) rfl
theorem wv_X3_hold : Cond.selects RX3 yX3_hold yX3_hold ∈ zw := zw_3 (List.mem_of_getElem? (i := 148) (by decide +kernel)) rfl
theorem wc_X3_hold : Cond.code yX3_hold cX3_hold 3 (some .int) ∈ zw := zw_3 (List.mem_of_getElem? (i := 149) (by decide +kernel)) rfl
theorem wl_X3_226 : Cond.methodLink RX3 226 yX3_isSpot ∈ zw := zw_3 (List.mem_of_getElem? (i := 150) (by decide +kernel)) rfl
theorem wt_X3_isSpot : Cond.static yX3_isSpot ∈ zw := zw_3 (List.mem_of_getElem? (i := 151) (by decide +kernel)) rfl
theorem wc_X3_isSpot : Cond.code yX3_isSpot cX3_isSpot 1 (some .boolean) ∈ zw := zw_3 (List.mem_of_getElem? (i := 152) (by decide +kernel)) rfl
theorem wl_L_155 : Cond.methodLink RL 155 yX3_as ∈ zw := zw_3 (List.mem_of_getElem? (i := 153) (by decide +kernel)) rfl
theorem wi_X3_as : Cond.instanceMethod yX3_as ∈ zw := zw_3 (List.mem_of_getElem? (i := 154) (by decide +kernel)) rfl
theorem wv_X3_as : Cond.selects RX3 yX3_as yX3_as ∈ zw := zw_3 (List.mem_of_getElem? (i := 155) (by decide +kernel)) rfl
theorem wc_X3_as : Cond.code yX3_as cX3_as 4 (some .int) ∈ zw := zw_3 (List.mem_of_getElem? (i := 156) (by decide +kernel)) rfl
theorem wl_X3_232 : Cond.methodLink RX3 232 yX3_isUnder ∈ zw := zw_3 (List.mem_of_getElem? (i := 157) (by decide +kernel)) rfl
theorem wt_X3_isUnder : Cond.static yX3_isUnder ∈ zw := zw_3 (List.mem_of_getElem? (i := 158) (by decide +kernel)) rfl
theorem wc_X3_isUnder : Cond.code yX3_isUnder cX3_isUnder 4 (some .boolean) ∈ zw := zw_3 (List.mem_of_getElem? (i := 159) (by decide +kernel)) rfl
theorem wl_X3_277 : Cond.fieldLink RX3 277 "BreadGames" "KIND_ABOVE" "[I" ∈ zw := zw_3 (List.mem_of_getElem? (i := 160) (by decide +kernel)) rfl
theorem wl_L_159 : Cond.methodLink RL 159 yX3_sheet ∈ zw := zw_3 (List.mem_of_getElem? (i := 162) (by decide +kernel)) rfl
theorem wi_X3_sheet : Cond.instanceMethod yX3_sheet ∈ zw := zw_3 (List.mem_of_getElem? (i := 163) (by decide +kernel)) rfl
theorem wv_X3_sheet : Cond.selects RX3 yX3_sheet yX3_sheet ∈ zw := zw_3 (List.mem_of_getElem? (i := 164) (by decide +kernel)) rfl
theorem wc_X3_sheet : Cond.code yX3_sheet cX3_sheet 5 (some .int) ∈ zw := zw_3 (List.mem_of_getElem? (i := 165) (by decide +kernel)) rfl
theorem wl_X3_238 : Cond.methodLink RX3 238 yX1_renew ∈ zw := zw_3 (List.mem_of_getElem? (i := 166) (by decide +kernel)) rfl
theorem wi_X1_renew : Cond.instanceMethod yX1_renew ∈ zw := zw_3 (List.mem_of_getElem? (i := 167) (by decide +kernel)) rfl
theorem wv_X1_renew : Cond.selects RX1 yX1_renew yX1_renew ∈ zw := zw_3 (List.mem_of_getElem? (i := 168) (by decide +kernel)) rfl
theorem wc_X1_renew : Cond.code yX1_renew cX1_renew 4 (none : Option Jvm.ClassFile.FieldType) ∈ zw := zw_3 (List.mem_of_getElem? (i := 169) (by decide +kernel)) rfl
theorem wl_L_163 : Cond.methodLink RL 163 yX3_write ∈ zw := zw_3 (List.mem_of_getElem? (i := 170) (by decide +kernel)) rfl
theorem wi_X3_write : Cond.instanceMethod yX3_write ∈ zw := zw_3 (List.mem_of_getElem? (i := 171) (by decide +kernel)) rfl
theorem wv_X3_write : Cond.selects RX3 yX3_write yX3_write ∈ zw := zw_3 (List.mem_of_getElem? (i := 172) (by decide +kernel)) rfl
theorem wc_X3_write : Cond.code yX3_write cX3_write 5 (some .int) ∈ zw := zw_3 (List.mem_of_getElem? (i := 173) (by decide +kernel)) rfl
theorem wl_X3_244 : Cond.methodLink RX3 244 yX3_sheetHindrance ∈ zw := zw_3 (List.mem_of_getElem? (i := 174) (by decide +kernel)) rfl
theorem wi_X3_sheetHindrance : Cond.instanceMethod yX3_sheetHindrance ∈ zw := zw_3 (List.mem_of_getElem? (i := 176) (by decide +kernel)) rfl
theorem wc_X3_sheetHindrance : Cond.code yX3_sheetHindrance cX3_sheetHindrance 2 (some .int) ∈ zw := zw_3 (List.mem_of_getElem? (i := 177) (by decide +kernel)) rfl
theorem wl_X3_247 : Cond.methodLink RX3 247 yX1_put ∈ zw := zw_3 (List.mem_of_getElem? (i := 178) (by decide +kernel)) rfl
theorem wi_X1_put : Cond.instanceMethod yX1_put ∈ zw := zw_3 (List.mem_of_getElem? (i := 179) (by decide +kernel)) rfl
theorem wv_X1_put : Cond.selects RX1 yX1_put yX1_put ∈ zw := zw_3 (List.mem_of_getElem? (i := 180) (by decide +kernel)) rfl
theorem wc_X1_put : Cond.code yX1_put cX1_put 3 (none : Option Jvm.ClassFile.FieldType) ∈ zw := zw_3 (List.mem_of_getElem? (i := 181) (by decide +kernel)) rfl
theorem wl_L_167 : Cond.methodLink RL 167 yX3_copy ∈ zw := zw_3 (List.mem_of_getElem? (i := 182) (by decide +kernel)) rfl
theorem wi_X3_copy : Cond.instanceMethod yX3_copy ∈ zw := zw_3 (List.mem_of_getElem? (i := 183) (by decide +kernel)) rfl
theorem wv_X3_copy : Cond.selects RX3 yX3_copy yX3_copy ∈ zw := zw_3 (List.mem_of_getElem? (i := 184) (by decide +kernel)) rfl
theorem wc_X3_copy : Cond.code yX3_copy cX3_copy 8 (some .int) ∈ zw := zw_3 (List.mem_of_getElem? (i := 185) (by decide +kernel)) rfl
theorem wl_X3_253 : Cond.methodLink RX3 253 yX1_spans ∈ zw := zw_3 (List.mem_of_getElem? (i := 186) (by decide +kernel)) rfl
theorem wi_X1_spans : Cond.instanceMethod yX1_spans ∈ zw := zw_3 (List.mem_of_getElem? (i := 187) (by decide +kernel)) rfl
theorem wv_X1_spans : Cond.selects RX1 yX1_spans yX1_spans ∈ zw := zw_3 (List.mem_of_getElem? (i := 188) (by decide +kernel)) rfl
theorem wc_X1_spans : Cond.code yX1_spans cX1_spans 3 (some .boolean) ∈ zw := zw_3 (List.mem_of_getElem? (i := 189) (by decide +kernel)) rfl
theorem wl_X3_259 : Cond.methodLink RX3 259 arraycopyName ∈ zw := zw_3 (List.mem_of_getElem? (i := 190) (by decide +kernel)) rfl
theorem wl_L_172 : Cond.methodLink RL 172 yX3_load ∈ zw := zw_3 (List.mem_of_getElem? (i := 191) (by decide +kernel)) rfl
theorem wi_X3_load : Cond.instanceMethod yX3_load ∈ zw := zw_3 (List.mem_of_getElem? (i := 192) (by decide +kernel)) rfl
theorem wv_X3_load : Cond.selects RX3 yX3_load yX3_load ∈ zw := zw_3 (List.mem_of_getElem? (i := 193) (by decide +kernel)) rfl
theorem wc_X3_load : Cond.code yX3_load cX3_load 6 (some .int) ∈ zw := zw_3 (List.mem_of_getElem? (i := 194) (by decide +kernel)) rfl
theorem wl_X3_265 : Cond.methodLink RX3 265 Lib.Math.min.name ∈ zw := zw_3 (List.mem_of_getElem? (i := 195) (by decide +kernel)) rfl
theorem wl_L_176 : Cond.methodLink RL 176 yX3_tally ∈ zw := zw_3 (List.mem_of_getElem? (i := 196) (by decide +kernel)) rfl
theorem wi_X3_tally : Cond.instanceMethod yX3_tally ∈ zw := zw_3 (List.mem_of_getElem? (i := 197) (by decide +kernel)) rfl
theorem wv_X3_tally : Cond.selects RX3 yX3_tally yX3_tally ∈ zw := zw_3 (List.mem_of_getElem? (i := 198) (by decide +kernel)) rfl
theorem wc_X3_tally : Cond.code yX3_tally cX3_tally 3 (some .long) ∈ zw := zw_3 (List.mem_of_getElem? (i := 199) (by decide +kernel)) rfl
theorem wl_L_180 : Cond.methodLink RL 180 yX3_judge ∈ zw := zw_3 (List.mem_of_getElem? (i := 200) (by decide +kernel)) rfl
theorem wi_X3_judge : Cond.instanceMethod yX3_judge ∈ zw := zw_3 (List.mem_of_getElem? (i := 201) (by decide +kernel)) rfl
theorem wv_X3_judge : Cond.selects RX3 yX3_judge yX3_judge ∈ zw := zw_3 (List.mem_of_getElem? (i := 202) (by decide +kernel)) rfl
theorem wc_X3_judge : Cond.code yX3_judge cX3_judge 5 (some .int) ∈ zw := zw_3 (List.mem_of_getElem? (i := 203) (by decide +kernel)) rfl
theorem wl_X3_270 : Cond.methodLink RX3 270 yX0_passWeek ∈ zw := zw_3 (List.mem_of_getElem? (i := 204) (by decide +kernel)) rfl
theorem wl_L_184 : Cond.methodLink RL 184 yX3_image ∈ zw := zw_3 (List.mem_of_getElem? (i := 205) (by decide +kernel)) rfl
theorem wi_X3_image : Cond.instanceMethod yX3_image ∈ zw := zw_3 (List.mem_of_getElem? (i := 206) (by decide +kernel)) rfl
theorem wv_X3_image : Cond.selects RX3 yX3_image yX3_image ∈ zw := zw_3 (List.mem_of_getElem? (i := 207) (by decide +kernel)) rfl
theorem wc_X3_image : Cond.code yX3_image cX3_image 1 (some .int) ∈ zw := zw_3 (List.mem_of_getElem? (i := 208) (by decide +kernel)) rfl
theorem wl_L_188 : Cond.methodLink RL 188 yX3_undo ∈ zw := zw_3 (List.mem_of_getElem? (i := 209) (by decide +kernel)) rfl
theorem wi_X3_undo : Cond.instanceMethod yX3_undo ∈ zw := zw_3 (List.mem_of_getElem? (i := 210) (by decide +kernel)) rfl
theorem wv_X3_undo : Cond.selects RX3 yX3_undo yX3_undo ∈ zw := zw_3 (List.mem_of_getElem? (i := 211) (by decide +kernel)) rfl
theorem wc_X3_undo : Cond.code yX3_undo cX3_undo 1 (some .int) ∈ zw := zw_3 (List.mem_of_getElem? (i := 212) (by decide +kernel)) rfl
theorem wl_L_192 : Cond.methodLink RL 192 yX3_tear ∈ zw := zw_3 (List.mem_of_getElem? (i := 213) (by decide +kernel)) rfl
theorem wi_X3_tear : Cond.instanceMethod yX3_tear ∈ zw := zw_3 (List.mem_of_getElem? (i := 214) (by decide +kernel)) rfl
theorem wv_X3_tear : Cond.selects RX3 yX3_tear yX3_tear ∈ zw := zw_3 (List.mem_of_getElem? (i := 215) (by decide +kernel)) rfl
theorem wc_X3_tear : Cond.code yX3_tear cX3_tear 2 (some .int) ∈ zw := zw_3 (List.mem_of_getElem? (i := 216) (by decide +kernel)) rfl
theorem wl_L_196 : Cond.methodLink RL 196 yX3_count ∈ zw := zw_3 (List.mem_of_getElem? (i := 217) (by decide +kernel)) rfl
theorem wi_X3_count : Cond.instanceMethod yX3_count ∈ zw := zw_3 (List.mem_of_getElem? (i := 218) (by decide +kernel)) rfl
theorem wv_X3_count : Cond.selects RX3 yX3_count yX3_count ∈ zw := zw_3 (List.mem_of_getElem? (i := 219) (by decide +kernel)) rfl
theorem wc_X3_count : Cond.code yX3_count cX3_count 2 (some .int) ∈ zw := zw_3 (List.mem_of_getElem? (i := 220) (by decide +kernel)) rfl
theorem wl_X3_273 : Cond.methodLink RX3 273 yX0_heldSpots ∈ zw := zw_3 (List.mem_of_getElem? (i := 221) (by decide +kernel)) rfl
theorem wi_X0_heldSpots : Cond.instanceMethod yX0_heldSpots ∈ zw := zw_3 (List.mem_of_getElem? (i := 222) (by decide +kernel)) rfl
theorem wv_X0_heldSpots : Cond.selects RX0 yX0_heldSpots yX0_heldSpots ∈ zw := zw_3 (List.mem_of_getElem? (i := 223) (by decide +kernel)) rfl
theorem wc_X0_heldSpots : Cond.code yX0_heldSpots cX0_heldSpots 3 (some .int) ∈ zw := zw_3 (List.mem_of_getElem? (i := 224) (by decide +kernel)) rfl
theorem wl_L_200 : Cond.methodLink RL 200 yX3_status ∈ zw := zw_3 (List.mem_of_getElem? (i := 225) (by decide +kernel)) rfl
theorem wi_X3_status : Cond.instanceMethod yX3_status ∈ zw := zw_3 (List.mem_of_getElem? (i := 226) (by decide +kernel)) rfl
theorem wv_X3_status : Cond.selects RX3 yX3_status yX3_status ∈ zw := zw_3 (List.mem_of_getElem? (i := 227) (by decide +kernel)) rfl
theorem wc_X3_status : Cond.code yX3_status cX3_status 4 (some .int) ∈ zw := zw_3 (List.mem_of_getElem? (i := 228) (by decide +kernel)) rfl
theorem wl_L_10 : Cond.classLink RL 10 RX4 ∈ zw := zw_3 (List.mem_of_getElem? (i := 229) (by decide +kernel)) rfl
theorem wins_X4 : Cond.instantiable RX4 17 ∈ zw := zw_3 (List.mem_of_getElem? (i := 230) (by decide +kernel)) rfl
theorem wl_L_12 : Cond.methodLink RL 12 yX4_init ∈ zw := zw_3 (List.mem_of_getElem? (i := 231) (by decide +kernel)) rfl
theorem wi_X4_init : Cond.instanceMethod yX4_init ∈ zw := zw_3 (List.mem_of_getElem? (i := 232) (by decide +kernel)) rfl
theorem wc_X4_init : Cond.code yX4_init cX4_init 2 (none : Option Jvm.ClassFile.FieldType) ∈ zw := zw_3 (List.mem_of_getElem? (i := 233) (by decide +kernel)) rfl
theorem wl_X4_3 : Cond.methodLink RX4 3 objectInit ∈ zw := zw_3 (List.mem_of_getElem? (i := 234) (by decide +kernel)) rfl
theorem wl_X4_9 : Cond.fieldLink RX4 9 "BreadGamesModel" "m" "[I" ∈ zw := zw_3 (List.mem_of_getElem? (i := 235) (by decide +kernel)) rfl
theorem wl_X4_13 : Cond.fieldLink RX4 13 "BreadGamesModel" "kept" "[I" ∈ zw := zw_3 (List.mem_of_getElem? (i := 236) (by decide +kernel)) rfl
theorem wl_X4_16 : Cond.fieldLink RX4 16 "BreadGamesModel" "was" "[I" ∈ zw := zw_3 (List.mem_of_getElem? (i := 237) (by decide +kernel)) rfl
theorem wl_X4_302 : Cond.fieldLink RX4 302 "BreadGamesModel" "isKept" "Z" ∈ zw := zw_3 (List.mem_of_getElem? (i := 238) (by decide +kernel)) rfl
theorem wl_X4_19 : Cond.fieldLink RX4 19 "BreadGamesModel" "found" "[I" ∈ zw := zw_3 (List.mem_of_getElem? (i := 239) (by decide +kernel)) rfl
theorem wl_X4_167 : Cond.fieldLink RX4 167 "BreadGamesModel" "riotsThen" "I" ∈ zw := zw_4 (List.mem_of_getElem? (i := 0) (by decide +kernel)) rfl
theorem wl_X4_171 : Cond.fieldLink RX4 171 "BreadGamesModel" "joyThen" "I" ∈ zw := zw_4 (List.mem_of_getElem? (i := 1) (by decide +kernel)) rfl
theorem wl_X4_22 : Cond.fieldLink RX4 22 "BreadGamesModel" "tape" "[I" ∈ zw := zw_4 (List.mem_of_getElem? (i := 2) (by decide +kernel)) rfl
theorem wl_X4_197 : Cond.fieldLink RX4 197 "BreadGamesModel" "taped" "I" ∈ zw := zw_4 (List.mem_of_getElem? (i := 3) (by decide +kernel)) rfl
theorem wl_X4_212 : Cond.fieldLink RX4 212 "BreadGamesModel" "sort" "I" ∈ zw := zw_4 (List.mem_of_getElem? (i := 4) (by decide +kernel)) rfl
theorem wl_X4_203 : Cond.fieldLink RX4 203 "BreadGamesModel" "from" "I" ∈ zw := zw_4 (List.mem_of_getElem? (i := 5) (by decide +kernel)) rfl
theorem wl_X4_200 : Cond.fieldLink RX4 200 "BreadGamesModel" "to" "I" ∈ zw := zw_4 (List.mem_of_getElem? (i := 6) (by decide +kernel)) rfl
theorem wl_X4_209 : Cond.fieldLink RX4 209 "BreadGamesModel" "value" "I" ∈ zw := zw_4 (List.mem_of_getElem? (i := 7) (by decide +kernel)) rfl
theorem wl_X4_215 : Cond.fieldLink RX4 215 "BreadGamesModel" "bad" "Z" ∈ zw := zw_4 (List.mem_of_getElem? (i := 8) (by decide +kernel)) rfl
theorem wl_X4_25 : Cond.fieldLink RX4 25 "BreadGamesModel" "bits" "[I" ∈ zw := zw_4 (List.mem_of_getElem? (i := 9) (by decide +kernel)) rfl
theorem wl_X4_28 : Cond.fieldLink RX4 28 "BreadGamesModel" "size" "[I" ∈ zw := zw_4 (List.mem_of_getElem? (i := 10) (by decide +kernel)) rfl
theorem wl_X4_31 : Cond.fieldLink RX4 31 "BreadGamesModel" "number" "[I" ∈ zw := zw_4 (List.mem_of_getElem? (i := 11) (by decide +kernel)) rfl
theorem wl_L_17 : Cond.methodLink RL 17 yX4_citizen ∈ zw := zw_4 (List.mem_of_getElem? (i := 47) (by decide +kernel)) rfl
theorem wi_X4_citizen : Cond.instanceMethod yX4_citizen ∈ zw := zw_4 (List.mem_of_getElem? (i := 48) (by decide +kernel)) rfl
theorem wv_X4_citizen : Cond.selects RX4 yX4_citizen yX4_citizen ∈ zw := zw_4 (List.mem_of_getElem? (i := 49) (by decide +kernel)) rfl
theorem wc_X4_citizen : Cond.code yX4_citizen cX4_citizen 2 (some .int) ∈ zw := zw_4 (List.mem_of_getElem? (i := 50) (by decide +kernel)) rfl
theorem wl_X4_54 : Cond.methodLink RX4 54 yX4_isKind ∈ zw := zw_4 (List.mem_of_getElem? (i := 51) (by decide +kernel)) rfl
theorem wt_X4_isKind : Cond.static yX4_isKind ∈ zw := zw_4 (List.mem_of_getElem? (i := 52) (by decide +kernel)) rfl
theorem wc_X4_isKind : Cond.code yX4_isKind cX4_isKind 1 (some .boolean) ∈ zw := zw_4 (List.mem_of_getElem? (i := 53) (by decide +kernel)) rfl
theorem wl_X4_44 : Cond.constantLong RX4 44 (6) ∈ zw := zw_4 (List.mem_of_getElem? (i := 54) (by decide +kernel)) rfl
theorem wl_X4_40 : Cond.methodLink RX4 40 yX4_in ∈ zw := zw_4 (List.mem_of_getElem? (i := 55) (by decide +kernel)) rfl
theorem wt_X4_in : Cond.static yX4_in ∈ zw := zw_4 (List.mem_of_getElem? (i := 56) (by decide +kernel)) rfl
theorem wc_X4_in : Cond.code yX4_in cX4_in 6 (some .boolean) ∈ zw := zw_4 (List.mem_of_getElem? (i := 57) (by decide +kernel)) rfl
theorem wl_X4_34 : Cond.constant RX4 34 (-1000001) ∈ zw := zw_4 (List.mem_of_getElem? (i := 58) (by decide +kernel)) rfl
theorem wl_X4_36 : Cond.methodLink RX4 36 yX4_finds ∈ zw := zw_4 (List.mem_of_getElem? (i := 59) (by decide +kernel)) rfl
theorem wi_X4_finds : Cond.instanceMethod yX4_finds ∈ zw := zw_4 (List.mem_of_getElem? (i := 61) (by decide +kernel)) rfl
theorem wc_X4_finds : Cond.code yX4_finds cX4_finds 2 (some .int) ∈ zw := zw_4 (List.mem_of_getElem? (i := 62) (by decide +kernel)) rfl
theorem wl_X4_58 : Cond.constant RX4 58 (-1000002) ∈ zw := zw_4 (List.mem_of_getElem? (i := 63) (by decide +kernel)) rfl
theorem wl_X4_59 : Cond.methodLink RX4 59 yX4_comes ∈ zw := zw_4 (List.mem_of_getElem? (i := 64) (by decide +kernel)) rfl
theorem wi_X4_comes : Cond.instanceMethod yX4_comes ∈ zw := zw_4 (List.mem_of_getElem? (i := 66) (by decide +kernel)) rfl
theorem wc_X4_comes : Cond.code yX4_comes cX4_comes 7 (some .int) ∈ zw := zw_4 (List.mem_of_getElem? (i := 67) (by decide +kernel)) rfl
theorem wl_X4_50 : Cond.methodLink RX4 50 yX4_makes ∈ zw := zw_4 (List.mem_of_getElem? (i := 68) (by decide +kernel)) rfl
theorem wi_X4_makes : Cond.instanceMethod yX4_makes ∈ zw := zw_4 (List.mem_of_getElem? (i := 70) (by decide +kernel)) rfl
theorem wc_X4_makes : Cond.code yX4_makes cX4_makes 4 (none : Option Jvm.ClassFile.FieldType) ∈ zw := zw_4 (List.mem_of_getElem? (i := 71) (by decide +kernel)) rfl
theorem wl_L_22 : Cond.methodLink RL 22 yX4_of ∈ zw := zw_4 (List.mem_of_getElem? (i := 72) (by decide +kernel)) rfl
theorem wi_X4_of : Cond.instanceMethod yX4_of ∈ zw := zw_4 (List.mem_of_getElem? (i := 73) (by decide +kernel)) rfl
theorem wv_X4_of : Cond.selects RX4 yX4_of yX4_of ∈ zw := zw_4 (List.mem_of_getElem? (i := 74) (by decide +kernel)) rfl
theorem wc_X4_of : Cond.code yX4_of cX4_of 3 (some .int) ∈ zw := zw_4 (List.mem_of_getElem? (i := 75) (by decide +kernel)) rfl
theorem wl_X4_67 : Cond.methodLink RX4 67 yX4_isOne ∈ zw := zw_4 (List.mem_of_getElem? (i := 76) (by decide +kernel)) rfl
theorem wi_X4_isOne : Cond.instanceMethod yX4_isOne ∈ zw := zw_4 (List.mem_of_getElem? (i := 78) (by decide +kernel)) rfl
theorem wc_X4_isOne : Cond.code yX4_isOne cX4_isOne 2 (some .boolean) ∈ zw := zw_4 (List.mem_of_getElem? (i := 79) (by decide +kernel)) rfl
theorem wl_X4_70 : Cond.constantLong RX4 70 (7) ∈ zw := zw_4 (List.mem_of_getElem? (i := 80) (by decide +kernel)) rfl
theorem wl_X4_63 : Cond.methodLink RX4 63 yX4_is ∈ zw := zw_4 (List.mem_of_getElem? (i := 81) (by decide +kernel)) rfl
theorem wi_X4_is : Cond.instanceMethod yX4_is ∈ zw := zw_4 (List.mem_of_getElem? (i := 83) (by decide +kernel)) rfl
theorem wc_X4_is : Cond.code yX4_is cX4_is 3 (some .int) ∈ zw := zw_4 (List.mem_of_getElem? (i := 84) (by decide +kernel)) rfl
theorem wl_X4_72 : Cond.methodLink RX4 72 yX4_loafWorth ∈ zw := zw_4 (List.mem_of_getElem? (i := 85) (by decide +kernel)) rfl
theorem wi_X4_loafWorth : Cond.instanceMethod yX4_loafWorth ∈ zw := zw_4 (List.mem_of_getElem? (i := 87) (by decide +kernel)) rfl
theorem wc_X4_loafWorth : Cond.code yX4_loafWorth cX4_loafWorth 4 (some .int) ∈ zw := zw_4 (List.mem_of_getElem? (i := 88) (by decide +kernel)) rfl
theorem wl_X4_75 : Cond.methodLink RX4 75 yX4_seatWorth ∈ zw := zw_4 (List.mem_of_getElem? (i := 89) (by decide +kernel)) rfl
theorem wi_X4_seatWorth : Cond.instanceMethod yX4_seatWorth ∈ zw := zw_4 (List.mem_of_getElem? (i := 91) (by decide +kernel)) rfl
theorem wc_X4_seatWorth : Cond.code yX4_seatWorth cX4_seatWorth 3 (some .int) ∈ zw := zw_4 (List.mem_of_getElem? (i := 92) (by decide +kernel)) rfl
theorem wl_L_27 : Cond.methodLink RL 27 yX4_change ∈ zw := zw_4 (List.mem_of_getElem? (i := 93) (by decide +kernel)) rfl
theorem wi_X4_change : Cond.instanceMethod yX4_change ∈ zw := zw_4 (List.mem_of_getElem? (i := 94) (by decide +kernel)) rfl
theorem wv_X4_change : Cond.selects RX4 yX4_change yX4_change ∈ zw := zw_4 (List.mem_of_getElem? (i := 95) (by decide +kernel)) rfl
theorem wc_X4_change : Cond.code yX4_change cX4_change 4 (some .int) ∈ zw := zw_4 (List.mem_of_getElem? (i := 96) (by decide +kernel)) rfl
theorem wl_X4_87 : Cond.methodLink RX4 87 yX4_isPart ∈ zw := zw_4 (List.mem_of_getElem? (i := 97) (by decide +kernel)) rfl
theorem wt_X4_isPart : Cond.static yX4_isPart ∈ zw := zw_4 (List.mem_of_getElem? (i := 98) (by decide +kernel)) rfl
theorem wc_X4_isPart : Cond.code yX4_isPart cX4_isPart 2 (some .boolean) ∈ zw := zw_4 (List.mem_of_getElem? (i := 99) (by decide +kernel)) rfl
theorem wl_X4_78 : Cond.methodLink RX4 78 yX4_isHunger ∈ zw := zw_4 (List.mem_of_getElem? (i := 100) (by decide +kernel)) rfl
theorem wt_X4_isHunger : Cond.static yX4_isHunger ∈ zw := zw_4 (List.mem_of_getElem? (i := 101) (by decide +kernel)) rfl
theorem wc_X4_isHunger : Cond.code yX4_isHunger cX4_isHunger 1 (some .boolean) ∈ zw := zw_4 (List.mem_of_getElem? (i := 102) (by decide +kernel)) rfl
theorem wl_X4_46 : Cond.constantLong RX4 46 (9) ∈ zw := zw_4 (List.mem_of_getElem? (i := 103) (by decide +kernel)) rfl
theorem wl_X4_81 : Cond.constantLong RX4 81 (3) ∈ zw := zw_4 (List.mem_of_getElem? (i := 104) (by decide +kernel)) rfl
theorem wl_X4_83 : Cond.constantLong RX4 83 (9999) ∈ zw := zw_4 (List.mem_of_getElem? (i := 105) (by decide +kernel)) rfl
theorem wl_X4_85 : Cond.constantLong RX4 85 (2) ∈ zw := zw_4 (List.mem_of_getElem? (i := 106) (by decide +kernel)) rfl
theorem wl_X4_91 : Cond.methodLink RX4 91 yX4_becomes ∈ zw := zw_4 (List.mem_of_getElem? (i := 107) (by decide +kernel)) rfl
theorem wi_X4_becomes : Cond.instanceMethod yX4_becomes ∈ zw := zw_4 (List.mem_of_getElem? (i := 109) (by decide +kernel)) rfl
theorem wc_X4_becomes : Cond.code yX4_becomes cX4_becomes 4 (some .int) ∈ zw := zw_4 (List.mem_of_getElem? (i := 110) (by decide +kernel)) rfl
theorem wl_L_31 : Cond.methodLink RL 31 yX4_rule ∈ zw := zw_4 (List.mem_of_getElem? (i := 111) (by decide +kernel)) rfl
theorem wi_X4_rule : Cond.instanceMethod yX4_rule ∈ zw := zw_4 (List.mem_of_getElem? (i := 112) (by decide +kernel)) rfl
theorem wv_X4_rule : Cond.selects RX4 yX4_rule yX4_rule ∈ zw := zw_4 (List.mem_of_getElem? (i := 113) (by decide +kernel)) rfl
theorem wc_X4_rule : Cond.code yX4_rule cX4_rule 3 (some .int) ∈ zw := zw_4 (List.mem_of_getElem? (i := 114) (by decide +kernel)) rfl
theorem wl_X4_96 : Cond.methodLink RX4 96 yX4_isRule ∈ zw := zw_4 (List.mem_of_getElem? (i := 115) (by decide +kernel)) rfl
theorem wt_X4_isRule : Cond.static yX4_isRule ∈ zw := zw_4 (List.mem_of_getElem? (i := 116) (by decide +kernel)) rfl
theorem wc_X4_isRule : Cond.code yX4_isRule cX4_isRule 2 (some .boolean) ∈ zw := zw_4 (List.mem_of_getElem? (i := 117) (by decide +kernel)) rfl
theorem wl_X4_94 : Cond.constantLong RX4 94 (10) ∈ zw := zw_4 (List.mem_of_getElem? (i := 118) (by decide +kernel)) rfl
theorem wl_L_35 : Cond.methodLink RL 35 yX4_now ∈ zw := zw_4 (List.mem_of_getElem? (i := 119) (by decide +kernel)) rfl
theorem wi_X4_now : Cond.instanceMethod yX4_now ∈ zw := zw_4 (List.mem_of_getElem? (i := 120) (by decide +kernel)) rfl
theorem wv_X4_now : Cond.selects RX4 yX4_now yX4_now ∈ zw := zw_4 (List.mem_of_getElem? (i := 121) (by decide +kernel)) rfl
theorem wc_X4_now : Cond.code yX4_now cX4_now 2 (some .int) ∈ zw := zw_4 (List.mem_of_getElem? (i := 122) (by decide +kernel)) rfl
theorem wl_X4_99 : Cond.methodLink RX4 99 yX4_with ∈ zw := zw_4 (List.mem_of_getElem? (i := 123) (by decide +kernel)) rfl
theorem wi_X4_with : Cond.instanceMethod yX4_with ∈ zw := zw_4 (List.mem_of_getElem? (i := 125) (by decide +kernel)) rfl
theorem wc_X4_with : Cond.code yX4_with cX4_with 4 (some .int) ∈ zw := zw_4 (List.mem_of_getElem? (i := 126) (by decide +kernel)) rfl
theorem wl_X4_102 : Cond.methodLink RX4 102 yX4_hungry ∈ zw := zw_4 (List.mem_of_getElem? (i := 127) (by decide +kernel)) rfl
theorem wi_X4_hungry : Cond.instanceMethod yX4_hungry ∈ zw := zw_4 (List.mem_of_getElem? (i := 129) (by decide +kernel)) rfl
theorem wc_X4_hungry : Cond.code yX4_hungry cX4_hungry 3 (some .int) ∈ zw := zw_4 (List.mem_of_getElem? (i := 130) (by decide +kernel)) rfl
theorem wl_X4_106 : Cond.methodLink RX4 106 yX4_cost ∈ zw := zw_4 (List.mem_of_getElem? (i := 131) (by decide +kernel)) rfl
theorem wi_X4_cost : Cond.instanceMethod yX4_cost ∈ zw := zw_4 (List.mem_of_getElem? (i := 133) (by decide +kernel)) rfl
theorem wc_X4_cost : Cond.code yX4_cost cX4_cost 1 (some .int) ∈ zw := zw_4 (List.mem_of_getElem? (i := 134) (by decide +kernel)) rfl
theorem wl_L_39 : Cond.methodLink RL 39 yX4_wants ∈ zw := zw_4 (List.mem_of_getElem? (i := 135) (by decide +kernel)) rfl
theorem wi_X4_wants : Cond.instanceMethod yX4_wants ∈ zw := zw_4 (List.mem_of_getElem? (i := 136) (by decide +kernel)) rfl
theorem wv_X4_wants : Cond.selects RX4 yX4_wants yX4_wants ∈ zw := zw_4 (List.mem_of_getElem? (i := 137) (by decide +kernel)) rfl
theorem wc_X4_wants : Cond.code yX4_wants cX4_wants 2 (some .int) ∈ zw := zw_4 (List.mem_of_getElem? (i := 138) (by decide +kernel)) rfl
theorem wl_X4_109 : Cond.constant RX4 109 (-1000005) ∈ zw := zw_4 (List.mem_of_getElem? (i := 139) (by decide +kernel)) rfl
theorem wl_X4_110 : Cond.methodLink RX4 110 yX4_wantsOther ∈ zw := zw_4 (List.mem_of_getElem? (i := 140) (by decide +kernel)) rfl
theorem wi_X4_wantsOther : Cond.instanceMethod yX4_wantsOther ∈ zw := zw_4 (List.mem_of_getElem? (i := 142) (by decide +kernel)) rfl
theorem wc_X4_wantsOther : Cond.code yX4_wantsOther cX4_wantsOther 3 (some .boolean) ∈ zw := zw_4 (List.mem_of_getElem? (i := 143) (by decide +kernel)) rfl
theorem wl_L_43 : Cond.methodLink RL 43 yX4_swap ∈ zw := zw_4 (List.mem_of_getElem? (i := 144) (by decide +kernel)) rfl
theorem wi_X4_swap : Cond.instanceMethod yX4_swap ∈ zw := zw_4 (List.mem_of_getElem? (i := 145) (by decide +kernel)) rfl
theorem wv_X4_swap : Cond.selects RX4 yX4_swap yX4_swap ∈ zw := zw_4 (List.mem_of_getElem? (i := 146) (by decide +kernel)) rfl
theorem wc_X4_swap : Cond.code yX4_swap cX4_swap 4 (some .int) ∈ zw := zw_4 (List.mem_of_getElem? (i := 147) (by decide +kernel)) rfl
theorem wl_X4_113 : Cond.methodLink RX4 113 yX4_changeTokens ∈ zw := zw_4 (List.mem_of_getElem? (i := 148) (by decide +kernel)) rfl
theorem wi_X4_changeTokens : Cond.instanceMethod yX4_changeTokens ∈ zw := zw_4 (List.mem_of_getElem? (i := 150) (by decide +kernel)) rfl
theorem wc_X4_changeTokens : Cond.code yX4_changeTokens cX4_changeTokens 4 (none : Option Jvm.ClassFile.FieldType) ∈ zw := zw_4 (List.mem_of_getElem? (i := 151) (by decide +kernel)) rfl
theorem wl_L_48 : Cond.methodLink RL 48 yX4_gates ∈ zw := zw_4 (List.mem_of_getElem? (i := 152) (by decide +kernel)) rfl
theorem wi_X4_gates : Cond.instanceMethod yX4_gates ∈ zw := zw_4 (List.mem_of_getElem? (i := 153) (by decide +kernel)) rfl
theorem wv_X4_gates : Cond.selects RX4 yX4_gates yX4_gates ∈ zw := zw_4 (List.mem_of_getElem? (i := 154) (by decide +kernel)) rfl
theorem wc_X4_gates : Cond.code yX4_gates cX4_gates 1 (some .int) ∈ zw := zw_4 (List.mem_of_getElem? (i := 155) (by decide +kernel)) rfl
theorem wl_X4_120 : Cond.methodLink RX4 120 yX4_opens ∈ zw := zw_4 (List.mem_of_getElem? (i := 156) (by decide +kernel)) rfl
theorem wi_X4_opens : Cond.instanceMethod yX4_opens ∈ zw := zw_4 (List.mem_of_getElem? (i := 158) (by decide +kernel)) rfl
theorem wc_X4_opens : Cond.code yX4_opens cX4_opens 4 (some .int) ∈ zw := zw_4 (List.mem_of_getElem? (i := 159) (by decide +kernel)) rfl
theorem wl_X4_117 : Cond.methodLink RX4 117 yX4_firstWanting ∈ zw := zw_4 (List.mem_of_getElem? (i := 160) (by decide +kernel)) rfl
theorem wi_X4_firstWanting : Cond.instanceMethod yX4_firstWanting ∈ zw := zw_4 (List.mem_of_getElem? (i := 162) (by decide +kernel)) rfl
theorem wc_X4_firstWanting : Cond.code yX4_firstWanting cX4_firstWanting 3 (some .int) ∈ zw := zw_4 (List.mem_of_getElem? (i := 163) (by decide +kernel)) rfl
theorem wl_L_52 : Cond.methodLink RL 52 yX4_changes ∈ zw := zw_4 (List.mem_of_getElem? (i := 164) (by decide +kernel)) rfl
theorem wi_X4_changes : Cond.instanceMethod yX4_changes ∈ zw := zw_4 (List.mem_of_getElem? (i := 165) (by decide +kernel)) rfl
theorem wv_X4_changes : Cond.selects RX4 yX4_changes yX4_changes ∈ zw := zw_4 (List.mem_of_getElem? (i := 166) (by decide +kernel)) rfl
theorem wc_X4_changes : Cond.code yX4_changes cX4_changes 2 (some .int) ∈ zw := zw_4 (List.mem_of_getElem? (i := 167) (by decide +kernel)) rfl
theorem wl_X4_123 : Cond.methodLink RX4 123 yX4_row ∈ zw := zw_4 (List.mem_of_getElem? (i := 168) (by decide +kernel)) rfl
theorem wt_X4_row : Cond.static yX4_row ∈ zw := zw_4 (List.mem_of_getElem? (i := 169) (by decide +kernel)) rfl
theorem wc_X4_row : Cond.code yX4_row cX4_row 3 (none : Option Jvm.ClassFile.FieldType) ∈ zw := zw_4 (List.mem_of_getElem? (i := 170) (by decide +kernel)) rfl
theorem wl_L_56 : Cond.methodLink RL 56 yX4_buy ∈ zw := zw_4 (List.mem_of_getElem? (i := 171) (by decide +kernel)) rfl
theorem wi_X4_buy : Cond.instanceMethod yX4_buy ∈ zw := zw_4 (List.mem_of_getElem? (i := 172) (by decide +kernel)) rfl
theorem wv_X4_buy : Cond.selects RX4 yX4_buy yX4_buy ∈ zw := zw_4 (List.mem_of_getElem? (i := 173) (by decide +kernel)) rfl
theorem wc_X4_buy : Cond.code yX4_buy cX4_buy 4 (some .int) ∈ zw := zw_4 (List.mem_of_getElem? (i := 174) (by decide +kernel)) rfl
theorem wl_X4_130 : Cond.constantLong RX4 130 (99) ∈ zw := zw_4 (List.mem_of_getElem? (i := 175) (by decide +kernel)) rfl
theorem wl_X4_132 : Cond.methodLink RX4 132 yX4_mayBuy ∈ zw := zw_4 (List.mem_of_getElem? (i := 176) (by decide +kernel)) rfl
theorem wi_X4_mayBuy : Cond.instanceMethod yX4_mayBuy ∈ zw := zw_4 (List.mem_of_getElem? (i := 178) (by decide +kernel)) rfl
theorem wc_X4_mayBuy : Cond.code yX4_mayBuy cX4_mayBuy 5 (some .boolean) ∈ zw := zw_4 (List.mem_of_getElem? (i := 179) (by decide +kernel)) rfl
theorem wl_X4_127 : Cond.methodLink RX4 127 yX4_worth ∈ zw := zw_4 (List.mem_of_getElem? (i := 180) (by decide +kernel)) rfl
theorem wi_X4_worth : Cond.instanceMethod yX4_worth ∈ zw := zw_4 (List.mem_of_getElem? (i := 182) (by decide +kernel)) rfl
theorem wc_X4_worth : Cond.code yX4_worth cX4_worth 3 (some .int) ∈ zw := zw_4 (List.mem_of_getElem? (i := 183) (by decide +kernel)) rfl
theorem wl_L_60 : Cond.methodLink RL 60 yX4_welfare ∈ zw := zw_4 (List.mem_of_getElem? (i := 184) (by decide +kernel)) rfl
theorem wi_X4_welfare : Cond.instanceMethod yX4_welfare ∈ zw := zw_4 (List.mem_of_getElem? (i := 185) (by decide +kernel)) rfl
theorem wv_X4_welfare : Cond.selects RX4 yX4_welfare yX4_welfare ∈ zw := zw_4 (List.mem_of_getElem? (i := 186) (by decide +kernel)) rfl
theorem wc_X4_welfare : Cond.code yX4_welfare cX4_welfare 3 (some .int) ∈ zw := zw_4 (List.mem_of_getElem? (i := 187) (by decide +kernel)) rfl
theorem wl_L_64 : Cond.methodLink RL 64 yX4_most ∈ zw := zw_4 (List.mem_of_getElem? (i := 188) (by decide +kernel)) rfl
theorem wi_X4_most : Cond.instanceMethod yX4_most ∈ zw := zw_4 (List.mem_of_getElem? (i := 189) (by decide +kernel)) rfl
theorem wv_X4_most : Cond.selects RX4 yX4_most yX4_most ∈ zw := zw_4 (List.mem_of_getElem? (i := 190) (by decide +kernel)) rfl
theorem wc_X4_most : Cond.code yX4_most cX4_most 7 (some .int) ∈ zw := zw_4 (List.mem_of_getElem? (i := 191) (by decide +kernel)) rfl
theorem wl_X4_136 : Cond.methodLink RX4 136 yX4_many ∈ zw := zw_4 (List.mem_of_getElem? (i := 192) (by decide +kernel)) rfl
theorem wt_X4_many : Cond.static yX4_many ∈ zw := zw_4 (List.mem_of_getElem? (i := 193) (by decide +kernel)) rfl
theorem wc_X4_many : Cond.code yX4_many cX4_many 3 (some .int) ∈ zw := zw_4 (List.mem_of_getElem? (i := 194) (by decide +kernel)) rfl
theorem wl_L_68 : Cond.methodLink RL 68 yX4_price ∈ zw := zw_4 (List.mem_of_getElem? (i := 195) (by decide +kernel)) rfl
theorem wi_X4_price : Cond.instanceMethod yX4_price ∈ zw := zw_4 (List.mem_of_getElem? (i := 196) (by decide +kernel)) rfl
theorem wv_X4_price : Cond.selects RX4 yX4_price yX4_price ∈ zw := zw_4 (List.mem_of_getElem? (i := 197) (by decide +kernel)) rfl
theorem wc_X4_price : Cond.code yX4_price cX4_price 5 (some .int) ∈ zw := zw_4 (List.mem_of_getElem? (i := 198) (by decide +kernel)) rfl
theorem wl_X4_35 : Cond.constant RX4 35 (-1000004) ∈ zw := zw_4 (List.mem_of_getElem? (i := 199) (by decide +kernel)) rfl
theorem wl_L_72 : Cond.methodLink RL 72 yX4_weeks ∈ zw := zw_4 (List.mem_of_getElem? (i := 200) (by decide +kernel)) rfl
theorem wi_X4_weeks : Cond.instanceMethod yX4_weeks ∈ zw := zw_4 (List.mem_of_getElem? (i := 201) (by decide +kernel)) rfl
theorem wv_X4_weeks : Cond.selects RX4 yX4_weeks yX4_weeks ∈ zw := zw_4 (List.mem_of_getElem? (i := 202) (by decide +kernel)) rfl
theorem wc_X4_weeks : Cond.code yX4_weeks cX4_weeks 3 (some .int) ∈ zw := zw_4 (List.mem_of_getElem? (i := 203) (by decide +kernel)) rfl
theorem wl_X4_152 : Cond.methodLink RX4 152 yX4_areWeeks ∈ zw := zw_4 (List.mem_of_getElem? (i := 204) (by decide +kernel)) rfl
theorem wt_X4_areWeeks : Cond.static yX4_areWeeks ∈ zw := zw_4 (List.mem_of_getElem? (i := 205) (by decide +kernel)) rfl
theorem wc_X4_areWeeks : Cond.code yX4_areWeeks cX4_areWeeks 1 (some .boolean) ∈ zw := zw_4 (List.mem_of_getElem? (i := 206) (by decide +kernel)) rfl
theorem wl_X4_48 : Cond.constantLong RX4 48 (60) ∈ zw := zw_4 (List.mem_of_getElem? (i := 207) (by decide +kernel)) rfl
theorem wl_X4_155 : Cond.methodLink RX4 155 yX4_isLate ∈ zw := zw_4 (List.mem_of_getElem? (i := 208) (by decide +kernel)) rfl
theorem wi_X4_isLate : Cond.instanceMethod yX4_isLate ∈ zw := zw_4 (List.mem_of_getElem? (i := 210) (by decide +kernel)) rfl
theorem wc_X4_isLate : Cond.code yX4_isLate cX4_isLate 2 (some .boolean) ∈ zw := zw_4 (List.mem_of_getElem? (i := 211) (by decide +kernel)) rfl
theorem wl_X4_158 : Cond.methodLink RX4 158 yX4_goes ∈ zw := zw_4 (List.mem_of_getElem? (i := 212) (by decide +kernel)) rfl
theorem wi_X4_goes : Cond.instanceMethod yX4_goes ∈ zw := zw_4 (List.mem_of_getElem? (i := 214) (by decide +kernel)) rfl
theorem wc_X4_goes : Cond.code yX4_goes cX4_goes 4 (some .int) ∈ zw := zw_4 (List.mem_of_getElem? (i := 215) (by decide +kernel)) rfl
theorem wl_X4_149 : Cond.methodLink RX4 149 yX4_aWeek ∈ zw := zw_4 (List.mem_of_getElem? (i := 216) (by decide +kernel)) rfl
theorem wi_X4_aWeek : Cond.instanceMethod yX4_aWeek ∈ zw := zw_4 (List.mem_of_getElem? (i := 218) (by decide +kernel)) rfl
theorem wc_X4_aWeek : Cond.code yX4_aWeek cX4_aWeek 3 (some .int) ∈ zw := zw_4 (List.mem_of_getElem? (i := 219) (by decide +kernel)) rfl
theorem wl_X4_143 : Cond.methodLink RX4 143 yX4_drawsTokens ∈ zw := zw_4 (List.mem_of_getElem? (i := 220) (by decide +kernel)) rfl
theorem wi_X4_drawsTokens : Cond.instanceMethod yX4_drawsTokens ∈ zw := zw_4 (List.mem_of_getElem? (i := 222) (by decide +kernel)) rfl
theorem wc_X4_drawsTokens : Cond.code yX4_drawsTokens cX4_drawsTokens 6 (none : Option Jvm.ClassFile.FieldType) ∈ zw := zw_4 (List.mem_of_getElem? (i := 223) (by decide +kernel)) rfl
theorem wl_X4_140 : Cond.methodLink RX4 140 yX4_draw ∈ zw := zw_4 (List.mem_of_getElem? (i := 224) (by decide +kernel)) rfl
theorem wi_X4_draw : Cond.instanceMethod yX4_draw ∈ zw := zw_4 (List.mem_of_getElem? (i := 226) (by decide +kernel)) rfl
theorem wc_X4_draw : Cond.code yX4_draw cX4_draw 1 (some .int) ∈ zw := zw_4 (List.mem_of_getElem? (i := 227) (by decide +kernel)) rfl
theorem wl_X4_139 : Cond.constant RX4 139 (1103515245) ∈ zw := zw_4 (List.mem_of_getElem? (i := 228) (by decide +kernel)) rfl
theorem wl_X4_146 : Cond.methodLink RX4 146 yX4_eatAndSee ∈ zw := zw_4 (List.mem_of_getElem? (i := 229) (by decide +kernel)) rfl
theorem wi_X4_eatAndSee : Cond.instanceMethod yX4_eatAndSee ∈ zw := zw_4 (List.mem_of_getElem? (i := 231) (by decide +kernel)) rfl
theorem wc_X4_eatAndSee : Cond.code yX4_eatAndSee cX4_eatAndSee 4 (none : Option Jvm.ClassFile.FieldType) ∈ zw := zw_4 (List.mem_of_getElem? (i := 232) (by decide +kernel)) rfl
theorem wl_L_76 : Cond.methodLink RL 76 yX4_ahead ∈ zw := zw_4 (List.mem_of_getElem? (i := 233) (by decide +kernel)) rfl
theorem wi_X4_ahead : Cond.instanceMethod yX4_ahead ∈ zw := zw_4 (List.mem_of_getElem? (i := 234) (by decide +kernel)) rfl
theorem wv_X4_ahead : Cond.selects RX4 yX4_ahead yX4_ahead ∈ zw := zw_4 (List.mem_of_getElem? (i := 235) (by decide +kernel)) rfl
theorem wc_X4_ahead : Cond.code yX4_ahead cX4_ahead 6 (some .int) ∈ zw := zw_4 (List.mem_of_getElem? (i := 236) (by decide +kernel)) rfl
theorem wl_X4_161 : Cond.methodLink RX4 161 yX4_sum ∈ zw := zw_4 (List.mem_of_getElem? (i := 237) (by decide +kernel)) rfl
theorem wi_X4_sum : Cond.instanceMethod yX4_sum ∈ zw := zw_4 (List.mem_of_getElem? (i := 239) (by decide +kernel)) rfl
theorem wc_X4_sum : Cond.code yX4_sum cX4_sum 4 (some .int) ∈ zw := zw_5 (List.mem_of_getElem? (i := 0) (by decide +kernel)) rfl
theorem wl_L_80 : Cond.methodLink RL 80 yX4_riot ∈ zw := zw_5 (List.mem_of_getElem? (i := 1) (by decide +kernel)) rfl
theorem wi_X4_riot : Cond.instanceMethod yX4_riot ∈ zw := zw_5 (List.mem_of_getElem? (i := 2) (by decide +kernel)) rfl
theorem wv_X4_riot : Cond.selects RX4 yX4_riot yX4_riot ∈ zw := zw_5 (List.mem_of_getElem? (i := 3) (by decide +kernel)) rfl
theorem wc_X4_riot : Cond.code yX4_riot cX4_riot 3 (some .int) ∈ zw := zw_5 (List.mem_of_getElem? (i := 4) (by decide +kernel)) rfl
theorem wl_X4_164 : Cond.methodLink RX4 164 yX4_orNone ∈ zw := zw_5 (List.mem_of_getElem? (i := 5) (by decide +kernel)) rfl
theorem wi_X4_orNone : Cond.instanceMethod yX4_orNone ∈ zw := zw_5 (List.mem_of_getElem? (i := 7) (by decide +kernel)) rfl
theorem wc_X4_orNone : Cond.code yX4_orNone cX4_orNone 2 (some .int) ∈ zw := zw_5 (List.mem_of_getElem? (i := 8) (by decide +kernel)) rfl
theorem wl_L_84 : Cond.methodLink RL 84 yX4_next ∈ zw := zw_5 (List.mem_of_getElem? (i := 9) (by decide +kernel)) rfl
theorem wi_X4_next : Cond.instanceMethod yX4_next ∈ zw := zw_5 (List.mem_of_getElem? (i := 10) (by decide +kernel)) rfl
theorem wv_X4_next : Cond.selects RX4 yX4_next yX4_next ∈ zw := zw_5 (List.mem_of_getElem? (i := 11) (by decide +kernel)) rfl
theorem wc_X4_next : Cond.code yX4_next cX4_next 3 (some .int) ∈ zw := zw_5 (List.mem_of_getElem? (i := 12) (by decide +kernel)) rfl
theorem wl_L_88 : Cond.methodLink RL 88 yX4_loaves ∈ zw := zw_5 (List.mem_of_getElem? (i := 13) (by decide +kernel)) rfl
theorem wi_X4_loaves : Cond.instanceMethod yX4_loaves ∈ zw := zw_5 (List.mem_of_getElem? (i := 14) (by decide +kernel)) rfl
theorem wv_X4_loaves : Cond.selects RX4 yX4_loaves yX4_loaves ∈ zw := zw_5 (List.mem_of_getElem? (i := 15) (by decide +kernel)) rfl
theorem wc_X4_loaves : Cond.code yX4_loaves cX4_loaves 3 (some .int) ∈ zw := zw_5 (List.mem_of_getElem? (i := 16) (by decide +kernel)) rfl
theorem wl_X4_174 : Cond.methodLink RX4 174 yX4_tries ∈ zw := zw_5 (List.mem_of_getElem? (i := 17) (by decide +kernel)) rfl
theorem wi_X4_tries : Cond.instanceMethod yX4_tries ∈ zw := zw_5 (List.mem_of_getElem? (i := 19) (by decide +kernel)) rfl
theorem wc_X4_tries : Cond.code yX4_tries cX4_tries 6 (some .int) ∈ zw := zw_5 (List.mem_of_getElem? (i := 20) (by decide +kernel)) rfl
theorem wl_L_92 : Cond.methodLink RL 92 yX4_cheapest ∈ zw := zw_5 (List.mem_of_getElem? (i := 21) (by decide +kernel)) rfl
theorem wi_X4_cheapest : Cond.instanceMethod yX4_cheapest ∈ zw := zw_5 (List.mem_of_getElem? (i := 22) (by decide +kernel)) rfl
theorem wv_X4_cheapest : Cond.selects RX4 yX4_cheapest yX4_cheapest ∈ zw := zw_5 (List.mem_of_getElem? (i := 23) (by decide +kernel)) rfl
theorem wc_X4_cheapest : Cond.code yX4_cheapest cX4_cheapest 7 (some .int) ∈ zw := zw_5 (List.mem_of_getElem? (i := 24) (by decide +kernel)) rfl
theorem wl_L_96 : Cond.methodLink RL 96 yX4_leader ∈ zw := zw_5 (List.mem_of_getElem? (i := 25) (by decide +kernel)) rfl
theorem wi_X4_leader : Cond.instanceMethod yX4_leader ∈ zw := zw_5 (List.mem_of_getElem? (i := 26) (by decide +kernel)) rfl
theorem wv_X4_leader : Cond.selects RX4 yX4_leader yX4_leader ∈ zw := zw_5 (List.mem_of_getElem? (i := 27) (by decide +kernel)) rfl
theorem wc_X4_leader : Cond.code yX4_leader cX4_leader 5 (some .int) ∈ zw := zw_5 (List.mem_of_getElem? (i := 28) (by decide +kernel)) rfl
theorem wl_L_100 : Cond.methodLink RL 100 yX4_colourFor ∈ zw := zw_5 (List.mem_of_getElem? (i := 29) (by decide +kernel)) rfl
theorem wi_X4_colourFor : Cond.instanceMethod yX4_colourFor ∈ zw := zw_5 (List.mem_of_getElem? (i := 30) (by decide +kernel)) rfl
theorem wv_X4_colourFor : Cond.selects RX4 yX4_colourFor yX4_colourFor ∈ zw := zw_5 (List.mem_of_getElem? (i := 31) (by decide +kernel)) rfl
theorem wc_X4_colourFor : Cond.code yX4_colourFor cX4_colourFor 5 (some .int) ∈ zw := zw_5 (List.mem_of_getElem? (i := 32) (by decide +kernel)) rfl
theorem wl_X4_178 : Cond.methodLink RX4 178 yX4_ofThen ∈ zw := zw_5 (List.mem_of_getElem? (i := 33) (by decide +kernel)) rfl
theorem wi_X4_ofThen : Cond.instanceMethod yX4_ofThen ∈ zw := zw_5 (List.mem_of_getElem? (i := 35) (by decide +kernel)) rfl
theorem wc_X4_ofThen : Cond.code yX4_ofThen cX4_ofThen 7 (some .int) ∈ zw := zw_5 (List.mem_of_getElem? (i := 36) (by decide +kernel)) rfl
theorem wl_L_104 : Cond.methodLink RL 104 yX4_kindFor ∈ zw := zw_5 (List.mem_of_getElem? (i := 37) (by decide +kernel)) rfl
theorem wi_X4_kindFor : Cond.instanceMethod yX4_kindFor ∈ zw := zw_5 (List.mem_of_getElem? (i := 38) (by decide +kernel)) rfl
theorem wv_X4_kindFor : Cond.selects RX4 yX4_kindFor yX4_kindFor ∈ zw := zw_5 (List.mem_of_getElem? (i := 39) (by decide +kernel)) rfl
theorem wc_X4_kindFor : Cond.code yX4_kindFor cX4_kindFor 5 (some .int) ∈ zw := zw_5 (List.mem_of_getElem? (i := 40) (by decide +kernel)) rfl
theorem wl_L_108 : Cond.methodLink RL 108 yX4_stale ∈ zw := zw_5 (List.mem_of_getElem? (i := 41) (by decide +kernel)) rfl
theorem wi_X4_stale : Cond.instanceMethod yX4_stale ∈ zw := zw_5 (List.mem_of_getElem? (i := 42) (by decide +kernel)) rfl
theorem wv_X4_stale : Cond.selects RX4 yX4_stale yX4_stale ∈ zw := zw_5 (List.mem_of_getElem? (i := 43) (by decide +kernel)) rfl
theorem wc_X4_stale : Cond.code yX4_stale cX4_stale 3 (some .int) ∈ zw := zw_5 (List.mem_of_getElem? (i := 44) (by decide +kernel)) rfl
theorem wl_L_112 : Cond.methodLink RL 112 yX4_bound ∈ zw := zw_5 (List.mem_of_getElem? (i := 45) (by decide +kernel)) rfl
theorem wi_X4_bound : Cond.instanceMethod yX4_bound ∈ zw := zw_5 (List.mem_of_getElem? (i := 46) (by decide +kernel)) rfl
theorem wv_X4_bound : Cond.selects RX4 yX4_bound yX4_bound ∈ zw := zw_5 (List.mem_of_getElem? (i := 47) (by decide +kernel)) rfl
theorem wc_X4_bound : Cond.code yX4_bound cX4_bound 3 (some .int) ∈ zw := zw_5 (List.mem_of_getElem? (i := 48) (by decide +kernel)) rfl
theorem wl_L_116 : Cond.methodLink RL 116 yX4_law ∈ zw := zw_5 (List.mem_of_getElem? (i := 49) (by decide +kernel)) rfl
theorem wi_X4_law : Cond.instanceMethod yX4_law ∈ zw := zw_5 (List.mem_of_getElem? (i := 50) (by decide +kernel)) rfl
theorem wv_X4_law : Cond.selects RX4 yX4_law yX4_law ∈ zw := zw_5 (List.mem_of_getElem? (i := 51) (by decide +kernel)) rfl
theorem wc_X4_law : Cond.code yX4_law cX4_law 5 (some .int) ∈ zw := zw_5 (List.mem_of_getElem? (i := 52) (by decide +kernel)) rfl
theorem wl_L_121 : Cond.methodLink RL 121 yX4_ways ∈ zw := zw_5 (List.mem_of_getElem? (i := 53) (by decide +kernel)) rfl
theorem wi_X4_ways : Cond.instanceMethod yX4_ways ∈ zw := zw_5 (List.mem_of_getElem? (i := 54) (by decide +kernel)) rfl
theorem wv_X4_ways : Cond.selects RX4 yX4_ways yX4_ways ∈ zw := zw_5 (List.mem_of_getElem? (i := 55) (by decide +kernel)) rfl
theorem wc_X4_ways : Cond.code yX4_ways cX4_ways 4 (some .long) ∈ zw := zw_5 (List.mem_of_getElem? (i := 56) (by decide +kernel)) rfl
theorem wl_X4_181 : Cond.methodLink RX4 181 yX4_drawing ∈ zw := zw_5 (List.mem_of_getElem? (i := 57) (by decide +kernel)) rfl
theorem wi_X4_drawing : Cond.instanceMethod yX4_drawing ∈ zw := zw_5 (List.mem_of_getElem? (i := 59) (by decide +kernel)) rfl
theorem wc_X4_drawing : Cond.code yX4_drawing cX4_drawing 2 (some .int) ∈ zw := zw_5 (List.mem_of_getElem? (i := 60) (by decide +kernel)) rfl
theorem wl_X4_184 : Cond.methodLink RX4 184 yX4_isWay ∈ zw := zw_5 (List.mem_of_getElem? (i := 61) (by decide +kernel)) rfl
theorem wi_X4_isWay : Cond.instanceMethod yX4_isWay ∈ zw := zw_5 (List.mem_of_getElem? (i := 63) (by decide +kernel)) rfl
theorem wc_X4_isWay : Cond.code yX4_isWay cX4_isWay 3 (some .boolean) ∈ zw := zw_5 (List.mem_of_getElem? (i := 64) (by decide +kernel)) rfl
theorem wl_L_126 : Cond.methodLink RL 126 yX4_eats ∈ zw := zw_5 (List.mem_of_getElem? (i := 65) (by decide +kernel)) rfl
theorem wi_X4_eats : Cond.instanceMethod yX4_eats ∈ zw := zw_5 (List.mem_of_getElem? (i := 66) (by decide +kernel)) rfl
theorem wv_X4_eats : Cond.selects RX4 yX4_eats yX4_eats ∈ zw := zw_5 (List.mem_of_getElem? (i := 67) (by decide +kernel)) rfl
theorem wc_X4_eats : Cond.code yX4_eats cX4_eats 5 (some .long) ∈ zw := zw_5 (List.mem_of_getElem? (i := 68) (by decide +kernel)) rfl
theorem wl_X4_187 : Cond.methodLink RX4 187 yX4_lies ∈ zw := zw_5 (List.mem_of_getElem? (i := 69) (by decide +kernel)) rfl
theorem wi_X4_lies : Cond.instanceMethod yX4_lies ∈ zw := zw_5 (List.mem_of_getElem? (i := 71) (by decide +kernel)) rfl
theorem wc_X4_lies : Cond.code yX4_lies cX4_lies 3 (none : Option Jvm.ClassFile.FieldType) ∈ zw := zw_5 (List.mem_of_getElem? (i := 72) (by decide +kernel)) rfl
theorem wl_L_130 : Cond.methodLink RL 130 yX4_busy ∈ zw := zw_5 (List.mem_of_getElem? (i := 73) (by decide +kernel)) rfl
theorem wi_X4_busy : Cond.instanceMethod yX4_busy ∈ zw := zw_5 (List.mem_of_getElem? (i := 74) (by decide +kernel)) rfl
theorem wv_X4_busy : Cond.selects RX4 yX4_busy yX4_busy ∈ zw := zw_5 (List.mem_of_getElem? (i := 75) (by decide +kernel)) rfl
theorem wc_X4_busy : Cond.code yX4_busy cX4_busy 5 (some .long) ∈ zw := zw_5 (List.mem_of_getElem? (i := 76) (by decide +kernel)) rfl
theorem wl_X4_191 : Cond.constantLong RX4 191 (30) ∈ zw := zw_5 (List.mem_of_getElem? (i := 77) (by decide +kernel)) rfl
theorem wl_L_134 : Cond.methodLink RL 134 yX4_famine ∈ zw := zw_5 (List.mem_of_getElem? (i := 78) (by decide +kernel)) rfl
theorem wi_X4_famine : Cond.instanceMethod yX4_famine ∈ zw := zw_5 (List.mem_of_getElem? (i := 79) (by decide +kernel)) rfl
theorem wv_X4_famine : Cond.selects RX4 yX4_famine yX4_famine ∈ zw := zw_5 (List.mem_of_getElem? (i := 80) (by decide +kernel)) rfl
theorem wc_X4_famine : Cond.code yX4_famine cX4_famine 4 (some .int) ∈ zw := zw_5 (List.mem_of_getElem? (i := 81) (by decide +kernel)) rfl
theorem wl_X4_193 : Cond.constantLong RX4 193 (12) ∈ zw := zw_5 (List.mem_of_getElem? (i := 82) (by decide +kernel)) rfl
theorem wl_L_138 : Cond.methodLink RL 138 yX4_seed ∈ zw := zw_5 (List.mem_of_getElem? (i := 83) (by decide +kernel)) rfl
theorem wi_X4_seed : Cond.instanceMethod yX4_seed ∈ zw := zw_5 (List.mem_of_getElem? (i := 84) (by decide +kernel)) rfl
theorem wv_X4_seed : Cond.selects RX4 yX4_seed yX4_seed ∈ zw := zw_5 (List.mem_of_getElem? (i := 85) (by decide +kernel)) rfl
theorem wc_X4_seed : Cond.code yX4_seed cX4_seed 2 (some .int) ∈ zw := zw_5 (List.mem_of_getElem? (i := 86) (by decide +kernel)) rfl
theorem wl_L_142 : Cond.methodLink RL 142 yX4_feed ∈ zw := zw_5 (List.mem_of_getElem? (i := 87) (by decide +kernel)) rfl
theorem wi_X4_feed : Cond.instanceMethod yX4_feed ∈ zw := zw_5 (List.mem_of_getElem? (i := 88) (by decide +kernel)) rfl
theorem wv_X4_feed : Cond.selects RX4 yX4_feed yX4_feed ∈ zw := zw_5 (List.mem_of_getElem? (i := 89) (by decide +kernel)) rfl
theorem wc_X4_feed : Cond.code yX4_feed cX4_feed 4 (some .int) ∈ zw := zw_5 (List.mem_of_getElem? (i := 90) (by decide +kernel)) rfl
theorem wl_X4_195 : Cond.constantLong RX4 195 (4) ∈ zw := zw_5 (List.mem_of_getElem? (i := 91) (by decide +kernel)) rfl
theorem wl_L_146 : Cond.methodLink RL 146 yX4_wipe ∈ zw := zw_5 (List.mem_of_getElem? (i := 92) (by decide +kernel)) rfl
theorem wi_X4_wipe : Cond.instanceMethod yX4_wipe ∈ zw := zw_5 (List.mem_of_getElem? (i := 93) (by decide +kernel)) rfl
theorem wv_X4_wipe : Cond.selects RX4 yX4_wipe yX4_wipe ∈ zw := zw_5 (List.mem_of_getElem? (i := 94) (by decide +kernel)) rfl
theorem wc_X4_wipe : Cond.code yX4_wipe cX4_wipe 2 (some .int) ∈ zw := zw_5 (List.mem_of_getElem? (i := 95) (by decide +kernel)) rfl
theorem wl_L_150 : Cond.methodLink RL 150 yX4_text ∈ zw := zw_5 (List.mem_of_getElem? (i := 96) (by decide +kernel)) rfl
theorem wi_X4_text : Cond.instanceMethod yX4_text ∈ zw := zw_5 (List.mem_of_getElem? (i := 97) (by decide +kernel)) rfl
theorem wv_X4_text : Cond.selects RX4 yX4_text yX4_text ∈ zw := zw_5 (List.mem_of_getElem? (i := 98) (by decide +kernel)) rfl
theorem wc_X4_text : Cond.code yX4_text cX4_text 4 (some .int) ∈ zw := zw_5 (List.mem_of_getElem? (i := 99) (by decide +kernel)) rfl
theorem wl_X4_232 : Cond.methodLink RX4 232 yX4_token ∈ zw := zw_5 (List.mem_of_getElem? (i := 100) (by decide +kernel)) rfl
theorem wi_X4_token : Cond.instanceMethod yX4_token ∈ zw := zw_5 (List.mem_of_getElem? (i := 102) (by decide +kernel)) rfl
theorem wc_X4_token : Cond.code yX4_token cX4_token 1 (none : Option Jvm.ClassFile.FieldType) ∈ zw := zw_5 (List.mem_of_getElem? (i := 103) (by decide +kernel)) rfl
theorem wl_X4_206 : Cond.methodLink RX4 206 yX4_isByte ∈ zw := zw_5 (List.mem_of_getElem? (i := 104) (by decide +kernel)) rfl
theorem wi_X4_isByte : Cond.instanceMethod yX4_isByte ∈ zw := zw_5 (List.mem_of_getElem? (i := 106) (by decide +kernel)) rfl
theorem wc_X4_isByte : Cond.code yX4_isByte cX4_isByte 4 (some .boolean) ∈ zw := zw_5 (List.mem_of_getElem? (i := 107) (by decide +kernel)) rfl
theorem wl_X4_287 : Cond.methodLink RX4 287 yX4_item ∈ zw := zw_5 (List.mem_of_getElem? (i := 108) (by decide +kernel)) rfl
theorem wi_X4_item : Cond.instanceMethod yX4_item ∈ zw := zw_5 (List.mem_of_getElem? (i := 110) (by decide +kernel)) rfl
theorem wc_X4_item : Cond.code yX4_item cX4_item 2 (none : Option Jvm.ClassFile.FieldType) ∈ zw := zw_5 (List.mem_of_getElem? (i := 111) (by decide +kernel)) rfl
theorem wl_X4_271 : Cond.methodLink RX4 271 yX4_kindHere ∈ zw := zw_5 (List.mem_of_getElem? (i := 112) (by decide +kernel)) rfl
theorem wi_X4_kindHere : Cond.instanceMethod yX4_kindHere ∈ zw := zw_5 (List.mem_of_getElem? (i := 114) (by decide +kernel)) rfl
theorem wc_X4_kindHere : Cond.code yX4_kindHere cX4_kindHere 1 (some .int) ∈ zw := zw_5 (List.mem_of_getElem? (i := 115) (by decide +kernel)) rfl
theorem wl_X4_228 : Cond.methodLink RX4 228 yX4_isWord ∈ zw := zw_5 (List.mem_of_getElem? (i := 117) (by decide +kernel)) rfl
theorem wi_X4_isWord : Cond.instanceMethod yX4_isWord ∈ zw := zw_5 (List.mem_of_getElem? (i := 119) (by decide +kernel)) rfl
theorem wc_X4_isWord : Cond.code yX4_isWord cX4_isWord 4 (some .boolean) ∈ zw := zw_5 (List.mem_of_getElem? (i := 120) (by decide +kernel)) rfl
theorem wl_X4_219 : Cond.methodLink RX4 219 yJ0_length_8abf5 ∈ zw := zw_5 (List.mem_of_getElem? (i := 121) (by decide +kernel)) rfl
theorem wl_X4_224 : Cond.methodLink RX4 224 yJ0_charAt_5068e ∈ zw := zw_5 (List.mem_of_getElem? (i := 122) (by decide +kernel)) rfl
theorem wl_X4_274 : Cond.methodLink RX4 274 yX4_citizenItem ∈ zw := zw_5 (List.mem_of_getElem? (i := 129) (by decide +kernel)) rfl
theorem wi_X4_citizenItem : Cond.instanceMethod yX4_citizenItem ∈ zw := zw_5 (List.mem_of_getElem? (i := 131) (by decide +kernel)) rfl
theorem wc_X4_citizenItem : Cond.code yX4_citizenItem cX4_citizenItem 6 (none : Option Jvm.ClassFile.FieldType) ∈ zw := zw_5 (List.mem_of_getElem? (i := 132) (by decide +kernel)) rfl
theorem wl_X4_250 : Cond.methodLink RX4 250 yX4_takes ∈ zw := zw_5 (List.mem_of_getElem? (i := 134) (by decide +kernel)) rfl
theorem wi_X4_takes : Cond.instanceMethod yX4_takes ∈ zw := zw_5 (List.mem_of_getElem? (i := 136) (by decide +kernel)) rfl
theorem wc_X4_takes : Cond.code yX4_takes cX4_takes 2 (some .boolean) ∈ zw := zw_5 (List.mem_of_getElem? (i := 137) (by decide +kernel)) rfl
theorem wl_X4_253 : Cond.methodLink RX4 253 yX4_number ∈ zw := zw_5 (List.mem_of_getElem? (i := 138) (by decide +kernel)) rfl
theorem wi_X4_number : Cond.instanceMethod yX4_number ∈ zw := zw_5 (List.mem_of_getElem? (i := 140) (by decide +kernel)) rfl
theorem wc_X4_number : Cond.code yX4_number cX4_number 4 (some .int) ∈ zw := zw_5 (List.mem_of_getElem? (i := 141) (by decide +kernel)) rfl
theorem wl_X4_281 : Cond.methodLink RX4 281 yX4_ruleHere ∈ zw := zw_5 (List.mem_of_getElem? (i := 148) (by decide +kernel)) rfl
theorem wi_X4_ruleHere : Cond.instanceMethod yX4_ruleHere ∈ zw := zw_5 (List.mem_of_getElem? (i := 150) (by decide +kernel)) rfl
theorem wc_X4_ruleHere : Cond.code yX4_ruleHere cX4_ruleHere 1 (some .int) ∈ zw := zw_5 (List.mem_of_getElem? (i := 151) (by decide +kernel)) rfl
theorem wl_X4_284 : Cond.methodLink RX4 284 yX4_ruleItem ∈ zw := zw_5 (List.mem_of_getElem? (i := 156) (by decide +kernel)) rfl
theorem wi_X4_ruleItem : Cond.instanceMethod yX4_ruleItem ∈ zw := zw_5 (List.mem_of_getElem? (i := 158) (by decide +kernel)) rfl
theorem wc_X4_ruleItem : Cond.code yX4_ruleItem cX4_ruleItem 3 (none : Option Jvm.ClassFile.FieldType) ∈ zw := zw_5 (List.mem_of_getElem? (i := 159) (by decide +kernel)) rfl
theorem wl_X4_290 : Cond.methodLink RX4 290 yX4_isSign ∈ zw := zw_5 (List.mem_of_getElem? (i := 160) (by decide +kernel)) rfl
theorem wi_X4_isSign : Cond.instanceMethod yX4_isSign ∈ zw := zw_5 (List.mem_of_getElem? (i := 162) (by decide +kernel)) rfl
theorem wc_X4_isSign : Cond.code yX4_isSign cX4_isSign 2 (some .boolean) ∈ zw := zw_5 (List.mem_of_getElem? (i := 163) (by decide +kernel)) rfl
theorem wl_L_154 : Cond.methodLink RL 154 yX4_hold ∈ zw := zw_5 (List.mem_of_getElem? (i := 164) (by decide +kernel)) rfl
theorem wi_X4_hold : Cond.instanceMethod yX4_hold ∈ zw := zw_5 (List.mem_of_getElem? (i := 165) (by decide +kernel)) rfl
theorem wv_X4_hold : Cond.selects RX4 yX4_hold yX4_hold ∈ zw := zw_5 (List.mem_of_getElem? (i := 166) (by decide +kernel)) rfl
theorem wc_X4_hold : Cond.code yX4_hold cX4_hold 3 (some .int) ∈ zw := zw_5 (List.mem_of_getElem? (i := 167) (by decide +kernel)) rfl
theorem wl_L_158 : Cond.methodLink RL 158 yX4_as ∈ zw := zw_5 (List.mem_of_getElem? (i := 168) (by decide +kernel)) rfl
theorem wi_X4_as : Cond.instanceMethod yX4_as ∈ zw := zw_5 (List.mem_of_getElem? (i := 169) (by decide +kernel)) rfl
theorem wv_X4_as : Cond.selects RX4 yX4_as yX4_as ∈ zw := zw_5 (List.mem_of_getElem? (i := 170) (by decide +kernel)) rfl
theorem wc_X4_as : Cond.code yX4_as cX4_as 5 (some .int) ∈ zw := zw_5 (List.mem_of_getElem? (i := 171) (by decide +kernel)) rfl
theorem wl_X4_293 : Cond.constant RX4 293 (-1000006) ∈ zw := zw_5 (List.mem_of_getElem? (i := 172) (by decide +kernel)) rfl
theorem wl_X4_294 : Cond.methodLink RX4 294 yX4_above ∈ zw := zw_5 (List.mem_of_getElem? (i := 173) (by decide +kernel)) rfl
theorem wt_X4_above : Cond.static yX4_above ∈ zw := zw_5 (List.mem_of_getElem? (i := 174) (by decide +kernel)) rfl
theorem wc_X4_above : Cond.code yX4_above cX4_above 1 (some .int) ∈ zw := zw_5 (List.mem_of_getElem? (i := 175) (by decide +kernel)) rfl
theorem wl_X4_297 : Cond.constant RX4 297 (-1000003) ∈ zw := zw_5 (List.mem_of_getElem? (i := 176) (by decide +kernel)) rfl
theorem wl_L_162 : Cond.methodLink RL 162 yX4_sheet ∈ zw := zw_5 (List.mem_of_getElem? (i := 177) (by decide +kernel)) rfl
theorem wi_X4_sheet : Cond.instanceMethod yX4_sheet ∈ zw := zw_5 (List.mem_of_getElem? (i := 178) (by decide +kernel)) rfl
theorem wv_X4_sheet : Cond.selects RX4 yX4_sheet yX4_sheet ∈ zw := zw_5 (List.mem_of_getElem? (i := 179) (by decide +kernel)) rfl
theorem wc_X4_sheet : Cond.code yX4_sheet cX4_sheet 5 (some .int) ∈ zw := zw_5 (List.mem_of_getElem? (i := 180) (by decide +kernel)) rfl
theorem wl_X4_298 : Cond.methodLink RX4 298 yX4_isSheet ∈ zw := zw_5 (List.mem_of_getElem? (i := 181) (by decide +kernel)) rfl
theorem wt_X4_isSheet : Cond.static yX4_isSheet ∈ zw := zw_5 (List.mem_of_getElem? (i := 182) (by decide +kernel)) rfl
theorem wc_X4_isSheet : Cond.code yX4_isSheet cX4_isSheet 1 (some .boolean) ∈ zw := zw_5 (List.mem_of_getElem? (i := 183) (by decide +kernel)) rfl
theorem wl_X4_301 : Cond.constant RX4 301 (-1000007) ∈ zw := zw_5 (List.mem_of_getElem? (i := 184) (by decide +kernel)) rfl
theorem wl_L_166 : Cond.methodLink RL 166 yX4_write ∈ zw := zw_5 (List.mem_of_getElem? (i := 185) (by decide +kernel)) rfl
theorem wi_X4_write : Cond.instanceMethod yX4_write ∈ zw := zw_5 (List.mem_of_getElem? (i := 186) (by decide +kernel)) rfl
theorem wv_X4_write : Cond.selects RX4 yX4_write yX4_write ∈ zw := zw_5 (List.mem_of_getElem? (i := 187) (by decide +kernel)) rfl
theorem wc_X4_write : Cond.code yX4_write cX4_write 4 (some .int) ∈ zw := zw_5 (List.mem_of_getElem? (i := 188) (by decide +kernel)) rfl
theorem wl_L_171 : Cond.methodLink RL 171 yX4_copy ∈ zw := zw_5 (List.mem_of_getElem? (i := 189) (by decide +kernel)) rfl
theorem wi_X4_copy : Cond.instanceMethod yX4_copy ∈ zw := zw_5 (List.mem_of_getElem? (i := 190) (by decide +kernel)) rfl
theorem wv_X4_copy : Cond.selects RX4 yX4_copy yX4_copy ∈ zw := zw_5 (List.mem_of_getElem? (i := 191) (by decide +kernel)) rfl
theorem wc_X4_copy : Cond.code yX4_copy cX4_copy 9 (some .int) ∈ zw := zw_5 (List.mem_of_getElem? (i := 192) (by decide +kernel)) rfl
theorem wl_L_175 : Cond.methodLink RL 175 yX4_load ∈ zw := zw_5 (List.mem_of_getElem? (i := 193) (by decide +kernel)) rfl
theorem wi_X4_load : Cond.instanceMethod yX4_load ∈ zw := zw_5 (List.mem_of_getElem? (i := 194) (by decide +kernel)) rfl
theorem wv_X4_load : Cond.selects RX4 yX4_load yX4_load ∈ zw := zw_5 (List.mem_of_getElem? (i := 195) (by decide +kernel)) rfl
theorem wc_X4_load : Cond.code yX4_load cX4_load 3 (some .int) ∈ zw := zw_5 (List.mem_of_getElem? (i := 196) (by decide +kernel)) rfl
theorem wl_L_179 : Cond.methodLink RL 179 yX4_tally ∈ zw := zw_5 (List.mem_of_getElem? (i := 197) (by decide +kernel)) rfl
theorem wi_X4_tally : Cond.instanceMethod yX4_tally ∈ zw := zw_5 (List.mem_of_getElem? (i := 198) (by decide +kernel)) rfl
theorem wv_X4_tally : Cond.selects RX4 yX4_tally yX4_tally ∈ zw := zw_5 (List.mem_of_getElem? (i := 199) (by decide +kernel)) rfl
theorem wc_X4_tally : Cond.code yX4_tally cX4_tally 7 (some .long) ∈ zw := zw_5 (List.mem_of_getElem? (i := 200) (by decide +kernel)) rfl
theorem wl_L_183 : Cond.methodLink RL 183 yX4_judge ∈ zw := zw_5 (List.mem_of_getElem? (i := 201) (by decide +kernel)) rfl
theorem wi_X4_judge : Cond.instanceMethod yX4_judge ∈ zw := zw_5 (List.mem_of_getElem? (i := 202) (by decide +kernel)) rfl
theorem wv_X4_judge : Cond.selects RX4 yX4_judge yX4_judge ∈ zw := zw_5 (List.mem_of_getElem? (i := 203) (by decide +kernel)) rfl
theorem wc_X4_judge : Cond.code yX4_judge cX4_judge 4 (some .int) ∈ zw := zw_5 (List.mem_of_getElem? (i := 204) (by decide +kernel)) rfl
theorem wl_L_187 : Cond.methodLink RL 187 yX4_image ∈ zw := zw_5 (List.mem_of_getElem? (i := 205) (by decide +kernel)) rfl
theorem wi_X4_image : Cond.instanceMethod yX4_image ∈ zw := zw_5 (List.mem_of_getElem? (i := 206) (by decide +kernel)) rfl
theorem wv_X4_image : Cond.selects RX4 yX4_image yX4_image ∈ zw := zw_5 (List.mem_of_getElem? (i := 207) (by decide +kernel)) rfl
theorem wc_X4_image : Cond.code yX4_image cX4_image 1 (some .int) ∈ zw := zw_5 (List.mem_of_getElem? (i := 208) (by decide +kernel)) rfl
theorem wl_L_191 : Cond.methodLink RL 191 yX4_undo ∈ zw := zw_5 (List.mem_of_getElem? (i := 209) (by decide +kernel)) rfl
theorem wi_X4_undo : Cond.instanceMethod yX4_undo ∈ zw := zw_5 (List.mem_of_getElem? (i := 210) (by decide +kernel)) rfl
theorem wv_X4_undo : Cond.selects RX4 yX4_undo yX4_undo ∈ zw := zw_5 (List.mem_of_getElem? (i := 211) (by decide +kernel)) rfl
theorem wc_X4_undo : Cond.code yX4_undo cX4_undo 1 (some .int) ∈ zw := zw_5 (List.mem_of_getElem? (i := 212) (by decide +kernel)) rfl
theorem wl_L_195 : Cond.methodLink RL 195 yX4_tear ∈ zw := zw_5 (List.mem_of_getElem? (i := 213) (by decide +kernel)) rfl
theorem wi_X4_tear : Cond.instanceMethod yX4_tear ∈ zw := zw_5 (List.mem_of_getElem? (i := 214) (by decide +kernel)) rfl
theorem wv_X4_tear : Cond.selects RX4 yX4_tear yX4_tear ∈ zw := zw_5 (List.mem_of_getElem? (i := 215) (by decide +kernel)) rfl
theorem wc_X4_tear : Cond.code yX4_tear cX4_tear 2 (some .int) ∈ zw := zw_5 (List.mem_of_getElem? (i := 216) (by decide +kernel)) rfl
theorem wl_L_199 : Cond.methodLink RL 199 yX4_count ∈ zw := zw_5 (List.mem_of_getElem? (i := 217) (by decide +kernel)) rfl
theorem wi_X4_count : Cond.instanceMethod yX4_count ∈ zw := zw_5 (List.mem_of_getElem? (i := 218) (by decide +kernel)) rfl
theorem wv_X4_count : Cond.selects RX4 yX4_count yX4_count ∈ zw := zw_5 (List.mem_of_getElem? (i := 219) (by decide +kernel)) rfl
theorem wc_X4_count : Cond.code yX4_count cX4_count 2 (some .int) ∈ zw := zw_5 (List.mem_of_getElem? (i := 220) (by decide +kernel)) rfl
theorem wl_X4_305 : Cond.methodLink RX4 305 yX4_holding ∈ zw := zw_5 (List.mem_of_getElem? (i := 221) (by decide +kernel)) rfl
theorem wi_X4_holding : Cond.instanceMethod yX4_holding ∈ zw := zw_5 (List.mem_of_getElem? (i := 223) (by decide +kernel)) rfl
theorem wc_X4_holding : Cond.code yX4_holding cX4_holding 3 (some .int) ∈ zw := zw_5 (List.mem_of_getElem? (i := 224) (by decide +kernel)) rfl
theorem wl_L_203 : Cond.methodLink RL 203 yX4_status ∈ zw := zw_5 (List.mem_of_getElem? (i := 225) (by decide +kernel)) rfl
theorem wi_X4_status : Cond.instanceMethod yX4_status ∈ zw := zw_5 (List.mem_of_getElem? (i := 226) (by decide +kernel)) rfl
theorem wv_X4_status : Cond.selects RX4 yX4_status yX4_status ∈ zw := zw_5 (List.mem_of_getElem? (i := 227) (by decide +kernel)) rfl
theorem wc_X4_status : Cond.code yX4_status cX4_status 4 (some .int) ∈ zw := zw_5 (List.mem_of_getElem? (i := 228) (by decide +kernel)) rfl
theorem wl_X4_308 : Cond.constantLong RX4 308 (-1) ∈ zw := zw_5 (List.mem_of_getElem? (i := 229) (by decide +kernel)) rfl
theorem wl_J0_9 : Cond.fieldLink RJ0 9 "java/lang/String" "value" "[B" ∈ zw := zw_5 (List.mem_of_getElem? (i := 230) (by decide +kernel)) rfl
theorem wl_J0_15 : Cond.fieldLink RJ0 15 "java/lang/String" "coder" "B" ∈ zw := zw_5 (List.mem_of_getElem? (i := 231) (by decide +kernel)) rfl
theorem wv_X3_finding : Cond.selects RX3 yX3_finding yX3_finding ∈ zw := zw_s (List.mem_of_getElem? (i := 0) (by decide +kernel)) rfl
theorem wv_X3_hindrance : Cond.selects RX3 yX3_hindrance yX3_hindrance ∈ zw := zw_s (List.mem_of_getElem? (i := 1) (by decide +kernel)) rfl
theorem wv_X3_leastCalmRuling : Cond.selects RX3 yX3_leastCalmRuling yX3_leastCalmRuling ∈ zw := zw_s (List.mem_of_getElem? (i := 2) (by decide +kernel)) rfl
theorem wv_X3_isCalmWith : Cond.selects RX3 yX3_isCalmWith yX3_isCalmWith ∈ zw := zw_s (List.mem_of_getElem? (i := 3) (by decide +kernel)) rfl
theorem wv_X3_bestTrait : Cond.selects RX3 yX3_bestTrait yX3_bestTrait ∈ zw := zw_s (List.mem_of_getElem? (i := 4) (by decide +kernel)) rfl
theorem wv_X3_waysThat : Cond.selects RX3 yX3_waysThat yX3_waysThat ∈ zw := zw_s (List.mem_of_getElem? (i := 5) (by decide +kernel)) rfl
theorem wv_X3_isSo : Cond.selects RX3 yX3_isSo yX3_isSo ∈ zw := zw_s (List.mem_of_getElem? (i := 6) (by decide +kernel)) rfl
theorem wv_X3_readItem : Cond.selects RX3 yX3_readItem yX3_readItem ∈ zw := zw_s (List.mem_of_getElem? (i := 7) (by decide +kernel)) rfl
theorem wv_X3_readCitizen : Cond.selects RX3 yX3_readCitizen yX3_readCitizen ∈ zw := zw_s (List.mem_of_getElem? (i := 8) (by decide +kernel)) rfl
theorem wv_X3_readTrait : Cond.selects RX3 yX3_readTrait yX3_readTrait ∈ zw := zw_s (List.mem_of_getElem? (i := 9) (by decide +kernel)) rfl
theorem wv_X3_readRuling : Cond.selects RX3 yX3_readRuling yX3_readRuling ∈ zw := zw_s (List.mem_of_getElem? (i := 10) (by decide +kernel)) rfl
theorem wv_X3_sheetHindrance : Cond.selects RX3 yX3_sheetHindrance yX3_sheetHindrance ∈ zw := zw_s (List.mem_of_getElem? (i := 11) (by decide +kernel)) rfl
theorem wv_X4_finds : Cond.selects RX4 yX4_finds yX4_finds ∈ zw := zw_s (List.mem_of_getElem? (i := 12) (by decide +kernel)) rfl
theorem wv_X4_comes : Cond.selects RX4 yX4_comes yX4_comes ∈ zw := zw_s (List.mem_of_getElem? (i := 13) (by decide +kernel)) rfl
theorem wv_X4_makes : Cond.selects RX4 yX4_makes yX4_makes ∈ zw := zw_s (List.mem_of_getElem? (i := 14) (by decide +kernel)) rfl
theorem wv_X4_isOne : Cond.selects RX4 yX4_isOne yX4_isOne ∈ zw := zw_s (List.mem_of_getElem? (i := 15) (by decide +kernel)) rfl
theorem wv_X4_is : Cond.selects RX4 yX4_is yX4_is ∈ zw := zw_s (List.mem_of_getElem? (i := 16) (by decide +kernel)) rfl
theorem wv_X4_loafWorth : Cond.selects RX4 yX4_loafWorth yX4_loafWorth ∈ zw := zw_s (List.mem_of_getElem? (i := 17) (by decide +kernel)) rfl
theorem wv_X4_seatWorth : Cond.selects RX4 yX4_seatWorth yX4_seatWorth ∈ zw := zw_s (List.mem_of_getElem? (i := 18) (by decide +kernel)) rfl
theorem wv_X4_becomes : Cond.selects RX4 yX4_becomes yX4_becomes ∈ zw := zw_s (List.mem_of_getElem? (i := 19) (by decide +kernel)) rfl
theorem wv_X4_with : Cond.selects RX4 yX4_with yX4_with ∈ zw := zw_s (List.mem_of_getElem? (i := 20) (by decide +kernel)) rfl
theorem wv_X4_hungry : Cond.selects RX4 yX4_hungry yX4_hungry ∈ zw := zw_s (List.mem_of_getElem? (i := 21) (by decide +kernel)) rfl
theorem wv_X4_cost : Cond.selects RX4 yX4_cost yX4_cost ∈ zw := zw_s (List.mem_of_getElem? (i := 22) (by decide +kernel)) rfl
theorem wv_X4_wantsOther : Cond.selects RX4 yX4_wantsOther yX4_wantsOther ∈ zw := zw_s (List.mem_of_getElem? (i := 23) (by decide +kernel)) rfl
theorem wv_X4_changeTokens : Cond.selects RX4 yX4_changeTokens yX4_changeTokens ∈ zw := zw_s (List.mem_of_getElem? (i := 24) (by decide +kernel)) rfl
theorem wv_X4_opens : Cond.selects RX4 yX4_opens yX4_opens ∈ zw := zw_s (List.mem_of_getElem? (i := 25) (by decide +kernel)) rfl
theorem wv_X4_firstWanting : Cond.selects RX4 yX4_firstWanting yX4_firstWanting ∈ zw := zw_s (List.mem_of_getElem? (i := 26) (by decide +kernel)) rfl
theorem wv_X4_mayBuy : Cond.selects RX4 yX4_mayBuy yX4_mayBuy ∈ zw := zw_s (List.mem_of_getElem? (i := 27) (by decide +kernel)) rfl
theorem wv_X4_worth : Cond.selects RX4 yX4_worth yX4_worth ∈ zw := zw_s (List.mem_of_getElem? (i := 28) (by decide +kernel)) rfl
theorem wv_X4_isLate : Cond.selects RX4 yX4_isLate yX4_isLate ∈ zw := zw_s (List.mem_of_getElem? (i := 29) (by decide +kernel)) rfl
theorem wv_X4_goes : Cond.selects RX4 yX4_goes yX4_goes ∈ zw := zw_s (List.mem_of_getElem? (i := 30) (by decide +kernel)) rfl
theorem wv_X4_aWeek : Cond.selects RX4 yX4_aWeek yX4_aWeek ∈ zw := zw_s (List.mem_of_getElem? (i := 31) (by decide +kernel)) rfl
theorem wv_X4_drawsTokens : Cond.selects RX4 yX4_drawsTokens yX4_drawsTokens ∈ zw := zw_s (List.mem_of_getElem? (i := 32) (by decide +kernel)) rfl
theorem wv_X4_draw : Cond.selects RX4 yX4_draw yX4_draw ∈ zw := zw_s (List.mem_of_getElem? (i := 33) (by decide +kernel)) rfl
theorem wv_X4_eatAndSee : Cond.selects RX4 yX4_eatAndSee yX4_eatAndSee ∈ zw := zw_s (List.mem_of_getElem? (i := 34) (by decide +kernel)) rfl
theorem wv_X4_sum : Cond.selects RX4 yX4_sum yX4_sum ∈ zw := zw_s (List.mem_of_getElem? (i := 35) (by decide +kernel)) rfl
theorem wv_X4_orNone : Cond.selects RX4 yX4_orNone yX4_orNone ∈ zw := zw_s (List.mem_of_getElem? (i := 36) (by decide +kernel)) rfl
theorem wv_X4_tries : Cond.selects RX4 yX4_tries yX4_tries ∈ zw := zw_s (List.mem_of_getElem? (i := 37) (by decide +kernel)) rfl
theorem wv_X4_ofThen : Cond.selects RX4 yX4_ofThen yX4_ofThen ∈ zw := zw_s (List.mem_of_getElem? (i := 38) (by decide +kernel)) rfl
theorem wv_X4_drawing : Cond.selects RX4 yX4_drawing yX4_drawing ∈ zw := zw_s (List.mem_of_getElem? (i := 39) (by decide +kernel)) rfl
theorem wv_X4_isWay : Cond.selects RX4 yX4_isWay yX4_isWay ∈ zw := zw_s (List.mem_of_getElem? (i := 40) (by decide +kernel)) rfl
theorem wv_X4_lies : Cond.selects RX4 yX4_lies yX4_lies ∈ zw := zw_s (List.mem_of_getElem? (i := 41) (by decide +kernel)) rfl
theorem wv_X4_token : Cond.selects RX4 yX4_token yX4_token ∈ zw := zw_s (List.mem_of_getElem? (i := 42) (by decide +kernel)) rfl
theorem wv_X4_isByte : Cond.selects RX4 yX4_isByte yX4_isByte ∈ zw := zw_s (List.mem_of_getElem? (i := 43) (by decide +kernel)) rfl
theorem wv_X4_item : Cond.selects RX4 yX4_item yX4_item ∈ zw := zw_s (List.mem_of_getElem? (i := 44) (by decide +kernel)) rfl
theorem wv_X4_kindHere : Cond.selects RX4 yX4_kindHere yX4_kindHere ∈ zw := zw_s (List.mem_of_getElem? (i := 45) (by decide +kernel)) rfl
theorem wv_X4_isWord : Cond.selects RX4 yX4_isWord yX4_isWord ∈ zw := zw_s (List.mem_of_getElem? (i := 46) (by decide +kernel)) rfl
theorem wv_X4_citizenItem : Cond.selects RX4 yX4_citizenItem yX4_citizenItem ∈ zw := zw_s (List.mem_of_getElem? (i := 47) (by decide +kernel)) rfl
theorem wv_X4_takes : Cond.selects RX4 yX4_takes yX4_takes ∈ zw := zw_s (List.mem_of_getElem? (i := 48) (by decide +kernel)) rfl
theorem wv_X4_number : Cond.selects RX4 yX4_number yX4_number ∈ zw := zw_s (List.mem_of_getElem? (i := 49) (by decide +kernel)) rfl
theorem wv_X4_ruleHere : Cond.selects RX4 yX4_ruleHere yX4_ruleHere ∈ zw := zw_s (List.mem_of_getElem? (i := 50) (by decide +kernel)) rfl
theorem wv_X4_ruleItem : Cond.selects RX4 yX4_ruleItem yX4_ruleItem ∈ zw := zw_s (List.mem_of_getElem? (i := 51) (by decide +kernel)) rfl
theorem wv_X4_isSign : Cond.selects RX4 yX4_isSign yX4_isSign ∈ zw := zw_s (List.mem_of_getElem? (i := 52) (by decide +kernel)) rfl
theorem wv_X4_holding : Cond.selects RX4 yX4_holding yX4_holding ∈ zw := zw_s (List.mem_of_getElem? (i := 53) (by decide +kernel)) rfl
theorem wu_X0 : ∀ w ∈ u_ws RX0 TX0 16, w ∈ zw := zw_all [57, 59, 61, 63, 65, 67, 69, 71, 73, 75, 77, 79, 81, 83, 85, 87] (by decide +kernel) (by decide +kernel)
theorem wu_X2 : ∀ w ∈ u_ws RX2 TX2 6, w ∈ zw := zw_all [107, 109, 111, 113, 115, 117] (by decide +kernel) (by decide +kernel)
theorem wu_X1 : ∀ w ∈ u_ws RX1 TX1 3, w ∈ zw := zw_all [135, 137, 139] (by decide +kernel) (by decide +kernel)
theorem wu_X3 : ∀ w ∈ u_ws RX3 TX3 7, w ∈ zw := zw_all [149, 151, 153, 155, 157, 159, 161] (by decide +kernel) (by decide +kernel)
theorem wu_X4 : ∀ w ∈ u_ws RX4 TX4 17, w ∈ zw := zw_all [732, 734, 736, 738, 740, 742, 744, 746, 748, 750, 752, 754, 756, 758, 760, 762, 764] (by decide +kernel) (by decide +kernel)
end
section
-- THE SIMPLE MACHINE: places instead of addresses; a heap is a function from places to cells
abbrev zE : Type := (Nat × List Value) ⊕ ((Nat × (Nat → Int32)) ⊕ (Nat × (Nat → Option Nat)))
abbrev zO (c : Nat) (fs : List Value) : zE := .inl (c, fs)
abbrev zI (n : Nat) (f : Nat → Int32) : zE := .inr (.inl (n, f))
abbrev zR (n : Nat) (f : Nat → Option Nat) : zE := .inr (.inr (n, f))
/-- base, addresses of what lies outside (strings, tables), the classes, the classes of int[] and Sheet[] -/
abbrev zG : Type := Nat × (Nat → Nat) × va_G × ClassId × ClassId
def za (V : zG) (k : Nat) : Nat := if k < 1000 then V.1 + k else V.2.1 k
def zv (V : zG) (v : Value) : Value := match v with
  | .ref k => .ref (za V k)
  | .int x => .int x
  | .long x => .long x
  | .float x => .float x
  | .double x => .double x
  | .null => .null
  | .retAddr x => .retAddr x
def ze (V : zG) (e : zE) : va_E := match e with
  | .inl (c, fs) => .inr (c, fs.map (zv V))
  | .inr (.inl (n, f)) => .inl (V.2.2.2.1, n, .inl f)
  | .inr (.inr (n, f)) => .inl (V.2.2.2.2, n, .inr (.inr (.inr (.inr (fun i => (f i).map (za V))))))
def zP (V : zG) (h : Nat → zE) (n : Nat) (H : Heap) : Prop := H.size = V.1 + n ∧ n ≤ 1000 ∧ ∀ k, k < n → va_at V.2.2.1 vwCl (V.1 + k, ze V (h k)) H
def zF (V : zG) : Nat → Prop := fun q => V.1 ≤ q
/-- the locals that are known -/
def zL (V : zG) (sls : Array Slot) (nL : Nat) (f : Nat → Option Value) : Prop := sls.size = nL ∧ lv_wf sls ∧ ∀ i v, f i = some v → sls[i]? = some (.val (zv V v))
abbrev zW : Type := Heap → List Loc → Nat → Nat → JFrame → Prop
/-- the machine comes to its end from here -/
def zX (Wf : zW) (V : zG) (m : MethodId) (nL : Nat) (H0 : Heap) (pc : Nat) (f : Nat → Option Value) (st : List Value) (h : Nat → zE) (n k sl : Nat) : Prop :=
  ∀ (H : Heap) (locs : List Loc) (sls : Array Slot), zP V h n H → va_S (zF V) H0 H locs → zL V sls nL f → Wf H locs k sl (F0 m pc sls (st.map (zv V)))
/-- strings: own class, pool entry, text, bytes -/
def zTx : List (String × Nat × String × List Int32) := [(RX2, 67, "widow", [119, 105, 100, 111, 119]), (RX2, 69, "fan", [102, 97, 110]), (RX2, 71, "claque", [99, 108, 97, 113, 117, 101]), (RX2, 73, "hungry", [104, 117, 110, 103, 114, 121]), (RX2, 75, "seller", [115, 101, 108, 108, 101, 114]), (RX2, 77, "boy", [98, 111, 121]), (RX2, 79, "citizen", [99, 105, 116, 105, 122, 101, 110]), (RX3, 317, "hunger", [104, 117, 110, 103, 101, 114]), (RX3, 322, "colour", [99, 111, 108, 111, 117, 114]), (RX3, 324, "coin", [99, 111, 105, 110]), (RX3, 325, "loaf", [108, 111, 97, 102]), (RX3, 327, "seat", [115, 101, 97, 116]), (RX3, 302, "loaves", [108, 111, 97, 118, 101, 115]), (RX3, 310, "seats", [115, 101, 97, 116, 115]), (RX3, 311, "bound", [98, 111, 117, 110, 100]), (RX3, 313, "leads", [108, 101, 97, 100, 115]), (RX3, 314, "stale", [115, 116, 97, 108, 101]), (RX3, 315, "fresh", [102, 114, 101, 115, 104]), (RX4, 235, "citizen", [99, 105, 116, 105, 122, 101, 110]), (RX4, 237, "widow", [119, 105, 100, 111, 119]), (RX4, 239, "fan", [102, 97, 110]), (RX4, 241, "claque", [99, 108, 97, 113, 117, 101]), (RX4, 243, "hungry", [104, 117, 110, 103, 114, 121]), (RX4, 244, "seller", [115, 101, 108, 108, 101, 114]), (RX4, 246, "boy", [98, 111, 121]), (RX4, 248, "hunger", [104, 117, 110, 103, 101, 114]), (RX4, 255, "colour", [99, 111, 108, 111, 117, 114]), (RX4, 257, "coin", [99, 111, 105, 110]), (RX4, 259, "loaf", [108, 111, 97, 102]), (RX4, 261, "seat", [115, 101, 97, 116]), (RX4, 277, "stale", [115, 116, 97, 108, 101]), (RX4, 279, "fresh", [102, 114, 101, 115, 104]), (RX4, 263, "loaves", [108, 111, 97, 118, 101, 115]), (RX4, 265, "seats", [115, 101, 97, 116, 115]), (RX4, 267, "bound", [98, 111, 117, 110, 100]), (RX4, 269, "leads", [108, 101, 97, 100, 115])]
def zKA (j : Nat) : Int32 := match j with
  | 0 => -1
  | 1 => 0
  | 2 => 0
  | 3 => 2
  | 4 => 1
  | 5 => 0
  | _ => 5
def zS (A : Nat → Prop) (q : String × Nat × String × List Int32) (a b : Nat) (U : State) : Prop := vk_R q.1 q.2.1 q.2.2.1 a U ∧ va_O "java/lang/String" a A U U.heap ∧ va_OF "java/lang/String" "coder" "B" (.int 0) a A U U.heap ∧ va_OF "java/lang/String" "value" "[B" (.ref b) a A U U.heap ∧ va_T .byte b q.2.2.2.length (fun j => .int (q.2.2.2.getD j 0)) A U U.heap
def zZ (V : zG) (U : State) : Prop := (∀ i q, zTx[i]? = some q → zS (zF V) q (V.2.1 (1000 + i)) (V.2.1 (2000 + i)) U) ∧
  va_Z "BreadGames" "KIND_ABOVE" "[I" (.ref (V.2.1 3000)) (zF V) U U.heap ∧ va_T .int (V.2.1 3000) 7 (fun j => .int (zKA j)) (zF V) U U.heap ∧ va_Z "java/lang/String" "COMPACT_STRINGS" "Z" (.int 1) (zF V) U U.heap ∧
  va_Nw (.methodLinkNest RX3 24 yX2_init RX3) U ∧ va_Nw (.methodLinkNest RX3 35 yX1_init RX3) U ∧ va_Nw (.methodLinkNest RX0 67 yX3_isKind RX3) U ∧ va_AO RX1 U
def zK (V : zG) (s : State) : Prop := va_K V.2.2.1 vwCl [(V.2.2.2.1, .int), (V.2.2.2.2, .object RX1)] s ∧ V.1 ≤ s.heap.size ∧ zZ V s
theorem zS_moved {A : Nat → Prop} {q : String × Nat × String × List Int32} {a b : Nat} {u U : State} (hW : u.WarmedH U.vm) (hq : ∀ a : Nat, a < u.heap.size → ¬ A a → U.heap[a]? = u.heap[a]?) (h : zS A q a b u) : zS A q a b U :=
  ⟨h.1.warm hW, (h.2.1.moved hW.alike).kept hq, (h.2.2.1.moved hW.alike).kept hq, (h.2.2.2.1.moved hW.alike).kept hq, (h.2.2.2.2.moved hW.alike).kept hq⟩
theorem zZ_moved {V : zG} {u U : State} (hW : u.WarmedH U.vm) (hq : ∀ a : Nat, a < u.heap.size → ¬ zF V a → U.heap[a]? = u.heap[a]?) (h : zZ V u) : zZ V U :=
  ⟨fun i q hi => zS_moved hW hq (h.1 i q hi), (h.2.1.moved hW.alike).kept hq, (h.2.2.1.moved hW.alike).kept hq, (h.2.2.2.1.moved hW.alike).kept hq, va_Nw.warmM hW h.2.2.2.2.1, va_Nw.warmM hW h.2.2.2.2.2.1, va_Nw.warmM hW h.2.2.2.2.2.2.1, h.2.2.2.2.2.2.2.moved hW.alike⟩
theorem zK_moved {V : zG} {u U : State} (hW : u.WarmedH U.vm) (hsz : V.1 ≤ U.heap.size) (hq : ∀ a : Nat, a < u.heap.size → ¬ zF V a → U.heap[a]? = u.heap[a]?) (hK : zK V u) : zK V U := ⟨va_K.moved hW.alike hK.1, hsz, zZ_moved hW hq hK.2.2⟩
/-- the method that stands there -/
def zC (Wf : zW) (V : zG) (m : MethodId) (nL : Nat) (H0 : Heap) (cc : ByteArray) (own : String) (lv Rc Rs : Nat) : Prop :=
  ∃ (p : Program) (l : Launch) (e : Env) (R : Room) (s : State) (args : Array Value) (below : List Frame) (meth : Method) (c : Code) (Q : State → Prop),
    Wf = (fun H locs k sl g => W p l e R s m args below meth c H locs k sl Q g) ∧ p.tables.exec = Jvm.exec ∧ c.code = cc ∧ c.maxLocals = nL ∧ s.vm.findClass own = some m.cls ∧ (∀ w ∈ zw, w.before args s = true) ∧ H0 = s.heap ∧ zK V s ∧ lv ≤ R.frames ∧ 32 * lv ≤ R.locals ∧ R.cells = Rc ∧ R.slots = Rs
def zst (f : Nat → Option Value) (i : Nat) (v : Value) : Nat → Option Value := fun j => bif j == i then some v else (match f j with
  | some w => bif (j + 1 == i && w.category == 2) then none else some w
  | none => none)
def zst2 (f : Nat → Option Value) (i : Nat) (v : Value) : Nat → Option Value := fun j => bif j == i then some v else bif j == i + 1 then none else (match f j with
  | some w => bif (j + 1 == i && w.category == 2) then none else some w
  | none => none)
theorem zv_cat (V : zG) (v : Value) : (zv V v).category = v.category := by cases v <;> rfl
theorem zL_one {V : zG} {sls : Array Slot} {nL : Nat} {f : Nat → Option Value} (h : zL V sls nL f) {i : Nat} {v : Value} (hi : f i = some v) : lv_has sls nL [(i, zv V v)] := ⟨h.1, h.2.1, fun q hq => by
  rw [List.mem_singleton] at hq
  subst hq
  exact h.2.2 i v hi⟩
theorem zL_store1 {V : zG} {sls : Array Slot} {nL : Nat} {f : Nat → Option Value} {i : Nat} {v : Value} (h : zL V sls nL f) (hi : i < nL) (hc : v.category = 1) : ∃ ls', storeLocals sls i (zv V v) = some ls' ∧ zL V ls' nL (zst f i v) := by
  obtain ⟨ls', e', h'⟩ := lv_store1 (l := []) (v := zv V v) ⟨h.1, h.2.1, fun q hq => by cases hq⟩ hi (by rw [zv_cat]; exact hc)
  refine ⟨ls', e', h'.1, h'.2.1, fun j w hj => ?_⟩
  unfold zst at hj
  by_cases hji : j = i
  · subst hji
    simp only [beq_self_eq_true, cond_true] at hj
    cases hj
    exact h'.2.2 (j, zv V v) List.mem_cons_self
  · have e0 : (j == i) = false := by simpa using hji
    rw [e0, cond_false] at hj
    cases hf : f j with
    | none => rw [hf] at hj; cases hj
    | some w' =>
      rw [hf] at hj
      simp only at hj
      cases hb : (j + 1 == i && w'.category == 2) with
      | true => rw [hb] at hj; cases hj
      | false =>
        rw [hb] at hj
        cases hj
        obtain ⟨ls2, e2, h2⟩ := lv_store1 (v := zv V v) (zL_one h hf) hi (by rw [zv_cat]; exact hc)
        have : ls2 = ls' := Option.some.inj (e2.symm.trans e')
        subst this
        exact h2.2.2 (j, zv V w) (List.mem_cons_of_mem _ (List.mem_filter.mpr ⟨List.mem_singleton.mpr rfl, by simp only [e0, zv_cat, hb]; rfl⟩))
theorem zL_store2 {V : zG} {sls : Array Slot} {nL : Nat} {f : Nat → Option Value} {i : Nat} {v : Value} (h : zL V sls nL f) (hi : i + 1 < nL) (hc : v.category = 2) : ∃ ls', storeLocals sls i (zv V v) = some ls' ∧ zL V ls' nL (zst2 f i v) := by
  obtain ⟨ls', e', h'⟩ := lv_store2 (l := []) (v := zv V v) ⟨h.1, h.2.1, fun q hq => by cases hq⟩ hi (by rw [zv_cat]; exact hc)
  refine ⟨ls', e', h'.1, h'.2.1, fun j w hj => ?_⟩
  unfold zst2 at hj
  by_cases hji : j = i
  · subst hji
    simp only [beq_self_eq_true, cond_true] at hj
    cases hj
    exact h'.2.2 (j, zv V v) List.mem_cons_self
  · have e0 : (j == i) = false := by simpa using hji
    rw [e0, cond_false] at hj
    cases hk : (j == i + 1) with
    | true => rw [hk] at hj; cases hj
    | false =>
      rw [hk, cond_false] at hj
      cases hf : f j with
      | none => rw [hf] at hj; cases hj
      | some w' =>
        rw [hf] at hj
        simp only at hj
        cases hb : (j + 1 == i && w'.category == 2) with
        | true => rw [hb] at hj; cases hj
        | false =>
          rw [hb] at hj
          cases hj
          obtain ⟨ls2, e2, h2⟩ := lv_store2 (v := zv V v) (zL_one h hf) hi (by rw [zv_cat]; exact hc)
          have : ls2 = ls' := Option.some.inj (e2.symm.trans e')
          subst this
          exact h2.2.2 (j, zv V w) (List.mem_cons_of_mem _ (List.mem_filter.mpr ⟨List.mem_singleton.mpr rfl, by simp only [e0, hk, zv_cat, hb]; rfl⟩))
section ZR
variable {Wf : zW} {V : zG} {m : MethodId} {nL : Nat} {H0 : Heap} {cc : ByteArray} {own : String} {lv Rc Rs : Nat} {pc : Nat} {f : Nat → Option Value} {st : List Value} {h : Nat → zE} {n k sl : Nat}
/-- fewer known locals -/
theorem x_sub {f' : Nat → Option Value} (hf : ∀ i v, f' i = some v → f i = some v) (kk : zX Wf V m nL H0 pc f' st h n k sl) : zX Wf V m nL H0 pc f st h n k sl :=
  fun H locs sls hP hS hL => kk H locs sls hP hS ⟨hL.1, hL.2.1, fun i v e => hL.2.2 i v (hf i v e)⟩
def zls (l : List (Nat × Value)) : Nat → Option Value := fun i => l.lookup i
theorem zls_sub {f : Nat → Option Value} : ∀ (l : List (Nat × Value)), (∀ q ∈ l, f q.1 = some q.2) → ∀ i v, zls l i = some v → f i = some v := by
  intro l hl i v hv
  unfold zls at hv
  induction l with
  | nil => cases hv
  | cons q l ih =>
    rw [List.lookup_cons] at hv
    cases e : (i == q.1) with
    | true =>
      rw [e] at hv
      cases hv
      rw [eq_of_beq e]
      exact hl q List.mem_cons_self
    | false =>
      rw [e] at hv
      exact ih (fun q hq => hl q (List.mem_cons_of_mem _ hq)) hv
theorem x_subl (l : List (Nat × Value)) (hl : ∀ q ∈ l, f q.1 = some q.2) (kk : zX Wf V m nL H0 pc (zls l) st h n k sl) : zX Wf V m nL H0 pc f st h n k sl := x_sub (zls_sub l hl) kk
theorem x_iconst (Γ : zC Wf V m nL H0 cc own lv Rc Rs) {z : Int} {v : Int32} (hd : decode cc pc = .ok (.iconst z, 1)) (hv : Int32.ofInt z = v) (kk : zX Wf V m nL H0 (pc + 1) f (.int v :: st) h n k sl) : zX Wf V m nL H0 pc f st h n k sl := by
  obtain ⟨p, l, e, R, s, args, below, meth, c, Q, rfl, hx, hb, -⟩ := Γ
  exact fun H locs sls hP hS hL => lv_iconst hx hb hd hv (kk H locs sls hP hS hL)
theorem x_bipush (Γ : zC Wf V m nL H0 cc own lv Rc Rs) {z : Int} {v : Int32} (hd : decode cc pc = .ok (.bipush z, 2)) (hv : (Int8.ofInt z).toInt32 = v) (kk : zX Wf V m nL H0 (pc + 2) f (.int v :: st) h n k sl) : zX Wf V m nL H0 pc f st h n k sl := by
  obtain ⟨p, l, e, R, s, args, below, meth, c, Q, rfl, hx, hb, -⟩ := Γ
  exact fun H locs sls hP hS hL => lv_bipush hx hb hd hv (kk H locs sls hP hS hL)
theorem x_sipush (Γ : zC Wf V m nL H0 cc own lv Rc Rs) {z : Int} {v : Int32} (hd : decode cc pc = .ok (.sipush z, 3)) (hv : (Int16.ofInt z).toInt32 = v) (kk : zX Wf V m nL H0 (pc + 3) f (.int v :: st) h n k sl) : zX Wf V m nL H0 pc f st h n k sl := by
  obtain ⟨p, l, e, R, s, args, below, meth, c, Q, rfl, hx, hb, -⟩ := Γ
  exact fun H locs sls hP hS hL => lv_sipush hx hb hd hv (kk H locs sls hP hS hL)
theorem x_lconst (Γ : zC Wf V m nL H0 cc own lv Rc Rs) {z : Fin 2} {v : Int64} (hd : decode cc pc = .ok (.lconst z, 1)) (hv : Int64.ofNat (z : Nat) = v) (kk : zX Wf V m nL H0 (pc + 1) f (.long v :: st) h n k sl) : zX Wf V m nL H0 pc f st h n k sl := by
  obtain ⟨p, l, e, R, s, args, below, meth, c, Q, rfl, hx, hb, -⟩ := Γ
  exact fun H locs sls hP hS hL => lv_lconst hx hb hd hv (kk H locs sls hP hS hL)
theorem x_iload_n (Γ : zC Wf V m nL H0 cc own lv Rc Rs) {j : Fin 4} {x : Int32} (hd : decode cc pc = .ok (.iload_n j, 1)) (hl : f j.val = some (.int x)) (kk : zX Wf V m nL H0 (pc + 1) f (.int x :: st) h n k sl) : zX Wf V m nL H0 pc f st h n k sl := by
  obtain ⟨p, l, e, R, s, args, below, meth, c, Q, rfl, hx, hb, -⟩ := Γ
  exact fun H locs sls hP hS hL => lv_iload_n hx hb hd rfl (hL.2.2 _ _ hl) (kk H locs sls hP hS hL)
theorem x_iload (Γ : zC Wf V m nL H0 cc own lv Rc Rs) {i : Nat} {x : Int32} (hd : decode cc pc = .ok (.iload i, 2)) (hl : f i = some (.int x)) (kk : zX Wf V m nL H0 (pc + 2) f (.int x :: st) h n k sl) : zX Wf V m nL H0 pc f st h n k sl := by
  obtain ⟨p, l, e, R, s, args, below, meth, c, Q, rfl, hx, hb, -⟩ := Γ
  exact fun H locs sls hP hS hL => lv_iload hx hb hd (hL.2.2 _ _ hl) (kk H locs sls hP hS hL)
theorem x_lload_n (Γ : zC Wf V m nL H0 cc own lv Rc Rs) {j : Fin 4} {x : Int64} (hd : decode cc pc = .ok (.lload_n j, 1)) (hl : f j.val = some (.long x)) (kk : zX Wf V m nL H0 (pc + 1) f (.long x :: st) h n k sl) : zX Wf V m nL H0 pc f st h n k sl := by
  obtain ⟨p, l, e, R, s, args, below, meth, c, Q, rfl, hx, hb, -⟩ := Γ
  exact fun H locs sls hP hS hL => lv_lload_n hx hb hd rfl (hL.2.2 _ _ hl) (kk H locs sls hP hS hL)
theorem x_lload (Γ : zC Wf V m nL H0 cc own lv Rc Rs) {i : Nat} {x : Int64} (hd : decode cc pc = .ok (.lload i, 2)) (hl : f i = some (.long x)) (kk : zX Wf V m nL H0 (pc + 2) f (.long x :: st) h n k sl) : zX Wf V m nL H0 pc f st h n k sl := by
  obtain ⟨p, l, e, R, s, args, below, meth, c, Q, rfl, hx, hb, -⟩ := Γ
  exact fun H locs sls hP hS hL => lv_lload hx hb hd (hL.2.2 _ _ hl) (kk H locs sls hP hS hL)
theorem x_aload_n (Γ : zC Wf V m nL H0 cc own lv Rc Rs) {j : Fin 4} {q : Nat} (hd : decode cc pc = .ok (.aload_n j, 1)) (hl : f j.val = some (.ref q)) (kk : zX Wf V m nL H0 (pc + 1) f (.ref q :: st) h n k sl) : zX Wf V m nL H0 pc f st h n k sl := by
  obtain ⟨p, l, e, R, s, args, below, meth, c, Q, rfl, hx, hb, -⟩ := Γ
  exact fun H locs sls hP hS hL => lv_aload_n hx hb hd rfl (hL.2.2 _ _ hl) (kk H locs sls hP hS hL)
theorem x_aload (Γ : zC Wf V m nL H0 cc own lv Rc Rs) {i : Nat} {q : Nat} (hd : decode cc pc = .ok (.aload i, 2)) (hl : f i = some (.ref q)) (kk : zX Wf V m nL H0 (pc + 2) f (.ref q :: st) h n k sl) : zX Wf V m nL H0 pc f st h n k sl := by
  obtain ⟨p, l, e, R, s, args, below, meth, c, Q, rfl, hx, hb, -⟩ := Γ
  exact fun H locs sls hP hS hL => lv_aload hx hb hd (hL.2.2 _ _ hl) (kk H locs sls hP hS hL)
theorem x_istore_n (Γ : zC Wf V m nL H0 cc own lv Rc Rs) {j : Fin 4} {x : Int32} (hd : decode cc pc = .ok (.istore_n j, 1)) (hn : j.val < nL) (kk : zX Wf V m nL H0 (pc + 1) (zst f j.val (.int x)) st h n k sl) : zX Wf V m nL H0 pc f (.int x :: st) h n k sl := by
  obtain ⟨p, l, e, R, s, args, below, meth, c, Q, rfl, hx, hb, -⟩ := Γ
  intro H locs sls hP hS hL
  obtain ⟨ls', e', h'⟩ := zL_store1 (v := .int x) hL hn rfl
  replace e' : storeLocals sls j.val (.int x) = some ls' := e'
  intro T hT X
  obtain ⟨t, a, b⟩ := kk H locs ls' hP hS h' T hT X
  refine ⟨t, ?_, b⟩
  show Steps p.tables e below (T.setTop (F0 m pc sls (.int x :: st.map (zv V)))) t
  jvm_step X.here [X.here.top, ↓top_set X.here.top, hx, hb, hd, e']
  exact a
theorem x_istore (Γ : zC Wf V m nL H0 cc own lv Rc Rs) {i : Nat} {x : Int32} (hd : decode cc pc = .ok (.istore i, 2)) (hn : i < nL) (kk : zX Wf V m nL H0 (pc + 2) (zst f i (.int x)) st h n k sl) : zX Wf V m nL H0 pc f (.int x :: st) h n k sl := by
  obtain ⟨p, l, e, R, s, args, below, meth, c, Q, rfl, hx, hb, -⟩ := Γ
  intro H locs sls hP hS hL
  obtain ⟨ls', e', h'⟩ := zL_store1 (v := .int x) hL hn rfl
  replace e' : storeLocals sls i (.int x) = some ls' := e'
  intro T hT X
  obtain ⟨t, a, b⟩ := kk H locs ls' hP hS h' T hT X
  refine ⟨t, ?_, b⟩
  show Steps p.tables e below (T.setTop (F0 m pc sls (.int x :: st.map (zv V)))) t
  jvm_step X.here [X.here.top, ↓top_set X.here.top, hx, hb, hd, e']
  exact a
theorem x_astore_n (Γ : zC Wf V m nL H0 cc own lv Rc Rs) {j : Fin 4} {q : Nat} (hd : decode cc pc = .ok (.astore_n j, 1)) (hn : j.val < nL) (kk : zX Wf V m nL H0 (pc + 1) (zst f j.val (.ref q)) st h n k sl) : zX Wf V m nL H0 pc f (.ref q :: st) h n k sl := by
  obtain ⟨p, l, e, R, s, args, below, meth, c, Q, rfl, hx, hb, -⟩ := Γ
  intro H locs sls hP hS hL
  obtain ⟨ls', e', h'⟩ := zL_store1 (v := .ref q) hL hn rfl
  replace e' : storeLocals sls j.val (.ref (za V q)) = some ls' := e'
  intro T hT X
  obtain ⟨t, a, b⟩ := kk H locs ls' hP hS h' T hT X
  refine ⟨t, ?_, b⟩
  show Steps p.tables e below (T.setTop (F0 m pc sls (.ref (za V q) :: st.map (zv V)))) t
  jvm_step X.here [X.here.top, ↓top_set X.here.top, hx, hb, hd, e']
  exact ⟨rfl, a⟩
theorem x_astore (Γ : zC Wf V m nL H0 cc own lv Rc Rs) {i : Nat} {q : Nat} (hd : decode cc pc = .ok (.astore i, 2)) (hn : i < nL) (kk : zX Wf V m nL H0 (pc + 2) (zst f i (.ref q)) st h n k sl) : zX Wf V m nL H0 pc f (.ref q :: st) h n k sl := by
  obtain ⟨p, l, e, R, s, args, below, meth, c, Q, rfl, hx, hb, -⟩ := Γ
  intro H locs sls hP hS hL
  obtain ⟨ls', e', h'⟩ := zL_store1 (v := .ref q) hL hn rfl
  replace e' : storeLocals sls i (.ref (za V q)) = some ls' := e'
  intro T hT X
  obtain ⟨t, a, b⟩ := kk H locs ls' hP hS h' T hT X
  refine ⟨t, ?_, b⟩
  show Steps p.tables e below (T.setTop (F0 m pc sls (.ref (za V q) :: st.map (zv V)))) t
  jvm_step X.here [X.here.top, ↓top_set X.here.top, hx, hb, hd, e']
  exact ⟨rfl, a⟩
theorem x_lstore_n (Γ : zC Wf V m nL H0 cc own lv Rc Rs) {j : Fin 4} {x : Int64} (hd : decode cc pc = .ok (.lstore_n j, 1)) (hn : j.val + 1 < nL) (kk : zX Wf V m nL H0 (pc + 1) (zst2 f j.val (.long x)) st h n k sl) : zX Wf V m nL H0 pc f (.long x :: st) h n k sl := by
  obtain ⟨p, l, e, R, s, args, below, meth, c, Q, rfl, hx, hb, -⟩ := Γ
  intro H locs sls hP hS hL
  obtain ⟨ls', e', h'⟩ := zL_store2 (v := .long x) hL hn rfl
  replace e' : storeLocals sls j.val (.long x) = some ls' := e'
  intro T hT X
  obtain ⟨t, a, b⟩ := kk H locs ls' hP hS h' T hT X
  refine ⟨t, ?_, b⟩
  show Steps p.tables e below (T.setTop (F0 m pc sls (.long x :: st.map (zv V)))) t
  jvm_step X.here [X.here.top, ↓top_set X.here.top, hx, hb, hd, e']
  exact a
theorem x_iinc (Γ : zC Wf V m nL H0 cc own lv Rc Rs) {i : Nat} {z : Int} {x v : Int32} (hd : decode cc pc = .ok (.iinc i z, 3)) (hl : f i = some (.int x)) (hv : x + Int32.ofInt z = v) (hn : i < nL) (kk : zX Wf V m nL H0 (pc + 3) (zst f i (.int v)) st h n k sl) : zX Wf V m nL H0 pc f st h n k sl := by
  obtain ⟨p, l, e, R, s, args, below, meth, c, Q, rfl, hx, hb, -⟩ := Γ
  subst hv
  intro H locs sls hP hS hL
  obtain ⟨ls', e', h'⟩ := zL_store1 (v := .int (x + Int32.ofInt z)) hL hn rfl
  replace e' : storeLocals sls i (.int (x + Int32.ofInt z)) = some ls' := e'
  have hg : sls[i]? = some (.val (.int x)) := hL.2.2 i _ hl
  intro T hT X
  obtain ⟨t, a, b⟩ := kk H locs ls' hP hS h' T hT X
  refine ⟨t, ?_, b⟩
  show Steps p.tables e below (T.setTop (F0 m pc sls (st.map (zv V)))) t
  jvm_step X.here [X.here.top, ↓top_set X.here.top, hx, hb, hd, hg, e']
  exact a
end ZR
end
section
section ZR
variable {Wf : zW} {V : zG} {m : MethodId} {nL : Nat} {H0 : Heap} {cc : ByteArray} {own : String} {lv Rc Rs : Nat} {pc : Nat} {f : Nat → Option Value} {st : List Value} {h : Nat → zE} {n k sl : Nat}
theorem x_iadd (Γ : zC Wf V m nL H0 cc own lv Rc Rs) {x y : Int32} (hd : decode cc pc = .ok (.iadd, 1)) (kk : zX Wf V m nL H0 (pc + 1) f (.int (x + y) :: st) h n k sl) : zX Wf V m nL H0 pc f (.int y :: .int x :: st) h n k sl := by
  obtain ⟨p, l, e, R, s, args, below, meth, c, Q, rfl, hx, hb, -⟩ := Γ
  exact fun H locs sls hP hS hL => lv_iadd hx hb hd (kk H locs sls hP hS hL)
theorem x_isub (Γ : zC Wf V m nL H0 cc own lv Rc Rs) {x y : Int32} (hd : decode cc pc = .ok (.isub, 1)) (kk : zX Wf V m nL H0 (pc + 1) f (.int (x - y) :: st) h n k sl) : zX Wf V m nL H0 pc f (.int y :: .int x :: st) h n k sl := by
  obtain ⟨p, l, e, R, s, args, below, meth, c, Q, rfl, hx, hb, -⟩ := Γ
  exact fun H locs sls hP hS hL => lv_isub hx hb hd (kk H locs sls hP hS hL)
theorem x_imul (Γ : zC Wf V m nL H0 cc own lv Rc Rs) {x y : Int32} (hd : decode cc pc = .ok (.imul, 1)) (kk : zX Wf V m nL H0 (pc + 1) f (.int (x * y) :: st) h n k sl) : zX Wf V m nL H0 pc f (.int y :: .int x :: st) h n k sl := by
  obtain ⟨p, l, e, R, s, args, below, meth, c, Q, rfl, hx, hb, -⟩ := Γ
  exact fun H locs sls hP hS hL => lv_imul hx hb hd (kk H locs sls hP hS hL)
theorem x_iand (Γ : zC Wf V m nL H0 cc own lv Rc Rs) {x y : Int32} (hd : decode cc pc = .ok (.iand, 1)) (kk : zX Wf V m nL H0 (pc + 1) f (.int (x &&& y) :: st) h n k sl) : zX Wf V m nL H0 pc f (.int y :: .int x :: st) h n k sl := by
  obtain ⟨p, l, e, R, s, args, below, meth, c, Q, rfl, hx, hb, -⟩ := Γ
  exact fun H locs sls hP hS hL => lv_iand hx hb hd (kk H locs sls hP hS hL)
theorem x_ior (Γ : zC Wf V m nL H0 cc own lv Rc Rs) {x y : Int32} (hd : decode cc pc = .ok (.ior, 1)) (kk : zX Wf V m nL H0 (pc + 1) f (.int (x ||| y) :: st) h n k sl) : zX Wf V m nL H0 pc f (.int y :: .int x :: st) h n k sl := by
  obtain ⟨p, l, e, R, s, args, below, meth, c, Q, rfl, hx, hb, -⟩ := Γ
  exact fun H locs sls hP hS hL => lv_ior hx hb hd (kk H locs sls hP hS hL)
theorem x_ixor (Γ : zC Wf V m nL H0 cc own lv Rc Rs) {x y : Int32} (hd : decode cc pc = .ok (.ixor, 1)) (kk : zX Wf V m nL H0 (pc + 1) f (.int (x ^^^ y) :: st) h n k sl) : zX Wf V m nL H0 pc f (.int y :: .int x :: st) h n k sl := by
  obtain ⟨p, l, e, R, s, args, below, meth, c, Q, rfl, hx, hb, -⟩ := Γ
  exact fun H locs sls hP hS hL => lv_ixor hx hb hd (kk H locs sls hP hS hL)
theorem x_ishl (Γ : zC Wf V m nL H0 cc own lv Rc Rs) {x y : Int32} (hd : decode cc pc = .ok (.ishl, 1)) (kk : zX Wf V m nL H0 (pc + 1) f (.int (x <<< (y &&& 31)) :: st) h n k sl) : zX Wf V m nL H0 pc f (.int y :: .int x :: st) h n k sl := by
  obtain ⟨p, l, e, R, s, args, below, meth, c, Q, rfl, hx, hb, -⟩ := Γ
  exact fun H locs sls hP hS hL => lv_ishl hx hb hd (kk H locs sls hP hS hL)
theorem x_ishr (Γ : zC Wf V m nL H0 cc own lv Rc Rs) {x y : Int32} (hd : decode cc pc = .ok (.ishr, 1)) (kk : zX Wf V m nL H0 (pc + 1) f (.int (x >>> (y &&& 31)) :: st) h n k sl) : zX Wf V m nL H0 pc f (.int y :: .int x :: st) h n k sl := by
  obtain ⟨p, l, e, R, s, args, below, meth, c, Q, rfl, hx, hb, -⟩ := Γ
  exact fun H locs sls hP hS hL => lv_ishr hx hb hd (kk H locs sls hP hS hL)
theorem x_idiv (Γ : zC Wf V m nL H0 cc own lv Rc Rs) {x y : Int32} (hd : decode cc pc = .ok (.idiv, 1)) (hne : ¬ y = 0) (kk : zX Wf V m nL H0 (pc + 1) f (.int (x / y) :: st) h n k sl) : zX Wf V m nL H0 pc f (.int y :: .int x :: st) h n k sl := by
  obtain ⟨p, l, e, R, s, args, below, meth, c, Q, rfl, hx, hb, -⟩ := Γ
  exact fun H locs sls hP hS hL => lv_idiv hx hb hd hne (kk H locs sls hP hS hL)
theorem x_ladd (Γ : zC Wf V m nL H0 cc own lv Rc Rs) {x y : Int64} (hd : decode cc pc = .ok (.ladd, 1)) (kk : zX Wf V m nL H0 (pc + 1) f (.long (x + y) :: st) h n k sl) : zX Wf V m nL H0 pc f (.long y :: .long x :: st) h n k sl := by
  obtain ⟨p, l, e, R, s, args, below, meth, c, Q, rfl, hx, hb, -⟩ := Γ
  exact fun H locs sls hP hS hL => lv_ladd hx hb hd (kk H locs sls hP hS hL)
theorem x_iushr (Γ : zC Wf V m nL H0 cc own lv Rc Rs) {x y : Int32} (hd : decode cc pc = .ok (.iushr, 1)) (kk : zX Wf V m nL H0 (pc + 1) f (.int (x.toUInt32 >>> (y.toUInt32 &&& Int32.toUInt32 31)).toInt32 :: st) h n k sl) : zX Wf V m nL H0 pc f (.int y :: .int x :: st) h n k sl := by
  obtain ⟨p, l, e, R, s, args, below, meth, c, Q, rfl, hx, hb, -⟩ := Γ
  exact fun H locs sls hP hS hL => lv_iushr hx hb hd rfl (kk H locs sls hP hS hL)
theorem x_ineg (Γ : zC Wf V m nL H0 cc own lv Rc Rs) {x : Int32} (hd : decode cc pc = .ok (.ineg, 1)) (kk : zX Wf V m nL H0 (pc + 1) f (.int (-x) :: st) h n k sl) : zX Wf V m nL H0 pc f (.int x :: st) h n k sl := by
  obtain ⟨p, l, e, R, s, args, below, meth, c, Q, rfl, hx, hb, -⟩ := Γ
  exact fun H locs sls hP hS hL => lv_ineg hx hb hd (kk H locs sls hP hS hL)
theorem x_i2l (Γ : zC Wf V m nL H0 cc own lv Rc Rs) {x : Int32} (hd : decode cc pc = .ok (.i2l, 1)) (kk : zX Wf V m nL H0 (pc + 1) f (.long x.toInt64 :: st) h n k sl) : zX Wf V m nL H0 pc f (.int x :: st) h n k sl := by
  obtain ⟨p, l, e, R, s, args, below, meth, c, Q, rfl, hx, hb, -⟩ := Γ
  exact fun H locs sls hP hS hL => lv_i2l hx hb hd rfl (kk H locs sls hP hS hL)
theorem x_i2b (Γ : zC Wf V m nL H0 cc own lv Rc Rs) {x : Int32} (hd : decode cc pc = .ok (.i2b, 1)) (kk : zX Wf V m nL H0 (pc + 1) f (.int x.toInt8.toInt32 :: st) h n k sl) : zX Wf V m nL H0 pc f (.int x :: st) h n k sl := by
  obtain ⟨p, l, e, R, s, args, below, meth, c, Q, rfl, hx, hb, -⟩ := Γ
  exact fun H locs sls hP hS hL => lv_i2b hx hb hd rfl (kk H locs sls hP hS hL)
theorem x_i2s (Γ : zC Wf V m nL H0 cc own lv Rc Rs) {x : Int32} (hd : decode cc pc = .ok (.i2s, 1)) (kk : zX Wf V m nL H0 (pc + 1) f (.int x.toInt16.toInt32 :: st) h n k sl) : zX Wf V m nL H0 pc f (.int x :: st) h n k sl := by
  obtain ⟨p, l, e, R, s, args, below, meth, c, Q, rfl, hx, hb, -⟩ := Γ
  exact fun H locs sls hP hS hL => lv_i2s hx hb hd rfl (kk H locs sls hP hS hL)
theorem x_i2c (Γ : zC Wf V m nL H0 cc own lv Rc Rs) {x : Int32} (hd : decode cc pc = .ok (.i2c, 1)) (kk : zX Wf V m nL H0 (pc + 1) f (.int (x.toUInt32 % 65536).toInt32 :: st) h n k sl) : zX Wf V m nL H0 pc f (.int x :: st) h n k sl := by
  obtain ⟨p, l, e, R, s, args, below, meth, c, Q, rfl, hx, hb, -⟩ := Γ
  exact fun H locs sls hP hS hL => lv_i2c hx hb hd rfl (kk H locs sls hP hS hL)
theorem x_lcmp (Γ : zC Wf V m nL H0 cc own lv Rc Rs) {x y : Int64} (hd : decode cc pc = .ok (.lcmp, 1)) (kk : zX Wf V m nL H0 (pc + 1) f (.int (lg_cmp x y) :: st) h n k sl) : zX Wf V m nL H0 pc f (.long y :: .long x :: st) h n k sl := by
  obtain ⟨p, l, e, R, s, args, below, meth, c, Q, rfl, hx, hb, -⟩ := Γ
  exact fun H locs sls hP hS hL => W.lcmp hx hb hd (kk H locs sls hP hS hL)
theorem x_dup (Γ : zC Wf V m nL H0 cc own lv Rc Rs) {v : Value} (hd : decode cc pc = .ok (.dup, 1)) (hc : v.category = 1) (kk : zX Wf V m nL H0 (pc + 1) f (v :: v :: st) h n k sl) : zX Wf V m nL H0 pc f (v :: st) h n k sl := by
  obtain ⟨p, l, e, R, s, args, below, meth, c, Q, rfl, hx, hb, -⟩ := Γ
  exact fun H locs sls hP hS hL => lv_dup hx hb hd (by rw [zv_cat]; exact hc) (kk H locs sls hP hS hL)
theorem x_dup2 (Γ : zC Wf V m nL H0 cc own lv Rc Rs) {v w : Value} (hd : decode cc pc = .ok (.dup2, 1)) (hc : v.category = 1) (hc2 : w.category = 1) (kk : zX Wf V m nL H0 (pc + 1) f (v :: w :: v :: w :: st) h n k sl) : zX Wf V m nL H0 pc f (v :: w :: st) h n k sl := by
  obtain ⟨p, l, e, R, s, args, below, meth, c, Q, rfl, hx, hb, -⟩ := Γ
  exact fun H locs sls hP hS hL => lv_dup2_11 hx hb hd (by rw [zv_cat]; exact hc) (by rw [zv_cat]; exact hc2) (kk H locs sls hP hS hL)
theorem x_pop (Γ : zC Wf V m nL H0 cc own lv Rc Rs) {v : Value} (hd : decode cc pc = .ok (.pop, 1)) (hc : v.category = 1) (kk : zX Wf V m nL H0 (pc + 1) f st h n k sl) : zX Wf V m nL H0 pc f (v :: st) h n k sl := by
  obtain ⟨p, l, e, R, s, args, below, meth, c, Q, rfl, hx, hb, -⟩ := Γ
  exact fun H locs sls hP hS hL => lv_pop hx hb hd (by rw [zv_cat]; exact hc) (kk H locs sls hP hS hL)
theorem x_goto (Γ : zC Wf V m nL H0 cc own lv Rc Rs) {off : Int} {tgt : Nat} (hd : decode cc pc = .ok (.goto off, 3)) (ht : (pc : Int) + off = (tgt : Int)) (kk : zX Wf V m nL H0 tgt f st h n k sl) : zX Wf V m nL H0 pc f st h n k sl := by
  obtain ⟨p, l, e, R, s, args, below, meth, c, Q, rfl, hx, hb, -⟩ := Γ
  exact fun H locs sls hP hS hL => lv_goto hx hb hd ht (kk H locs sls hP hS hL)
theorem x_lookup (Γ : zC Wf V m nL H0 cc own lv Rc Rs) {dflt : Int} {ps : Array (Int × Int)} {len : Nat} {x : Int32} {off : Int} {tgt : Nat} (hd : decode cc pc = .ok (.lookupswitch dflt ps, len)) (hp : (ps.toList.zip (ps.toList.drop 1)).all (fun (a, next) => a.1 < next.1) = true) (ho : Op.lookupswitch.offset ps.toList dflt x.toInt = off) (ht : (pc : Int) + off = (tgt : Int)) (kk : zX Wf V m nL H0 tgt f st h n k sl) : zX Wf V m nL H0 pc f (.int x :: st) h n k sl := by
  obtain ⟨p, l, e, R, s, args, below, meth, c, Q, rfl, hx, hb, -⟩ := Γ
  exact fun H locs sls hP hS hL => lv_lookup hx hb hd hp ho ht (kk H locs sls hP hS hL)
theorem x_tout (Γ : zC Wf V m nL H0 cc own lv Rc Rs) {dflt lo hi : Int} {offs : Array Int} {len : Nat} {x : Int32} {tgt : Nat} (hd : decode cc pc = .ok (.tableswitch dflt lo hi offs, len)) (h0 : x.toInt < lo ∨ hi < x.toInt) (ht : (pc : Int) + dflt = (tgt : Int)) (kk : zX Wf V m nL H0 tgt f st h n k sl) : zX Wf V m nL H0 pc f (.int x :: st) h n k sl := by
  obtain ⟨p, l, e, R, s, args, below, meth, c, Q, rfl, hx, hb, -⟩ := Γ
  exact fun H locs sls hP hS hL => lv_tableOut hx hb hd h0 ht (kk H locs sls hP hS hL)
theorem x_tin (Γ : zC Wf V m nL H0 cc own lv Rc Rs) {dflt lo hi : Int} {offs : Array Int} {len : Nat} {x : Int32} {off : Int} {tgt : Nat} (hd : decode cc pc = .ok (.tableswitch dflt lo hi offs, len)) (h1 : ¬ x.toInt < lo) (h2 : ¬ hi < x.toInt) (ho : offs[(x.toInt - lo).toNat]? = some off) (ht : (pc : Int) + off = (tgt : Int)) (kk : zX Wf V m nL H0 tgt f st h n k sl) : zX Wf V m nL H0 pc f (.int x :: st) h n k sl := by
  obtain ⟨p, l, e, R, s, args, below, meth, c, Q, rfl, hx, hb, -⟩ := Γ
  exact fun H locs sls hP hS hL => lv_tableIn hx hb hd h1 h2 ho ht (kk H locs sls hP hS hL)
theorem x_if_eq (Γ : zC Wf V m nL H0 cc own lv Rc Rs) {x : Int32} {off : Int} {tgt : Nat} (hd : decode cc pc = .ok (.ifCond .eq off, 3)) (ht : (pc : Int) + off = (tgt : Int)) (kt : x = 0 → zX Wf V m nL H0 tgt f st h n k sl) (kf : ¬ x = 0 → zX Wf V m nL H0 (pc + 3) f st h n k sl) : zX Wf V m nL H0 pc f (.int x :: st) h n k sl := by
  obtain ⟨p, l, e, R, s, args, below, meth, c, Q, rfl, hx, hb, -⟩ := Γ
  exact fun H locs sls hP hS hL => lv_if_eq hx hb hd ht (fun q => kt q H locs sls hP hS hL) (fun q => kf q H locs sls hP hS hL)
theorem x_icmp_eq (Γ : zC Wf V m nL H0 cc own lv Rc Rs) {x y : Int32} {off : Int} {tgt : Nat} (hd : decode cc pc = .ok (.if_icmp .eq off, 3)) (ht : (pc : Int) + off = (tgt : Int)) (kt : x = y → zX Wf V m nL H0 tgt f st h n k sl) (kf : ¬ x = y → zX Wf V m nL H0 (pc + 3) f st h n k sl) : zX Wf V m nL H0 pc f (.int y :: .int x :: st) h n k sl := by
  obtain ⟨p, l, e, R, s, args, below, meth, c, Q, rfl, hx, hb, -⟩ := Γ
  exact fun H locs sls hP hS hL => lv_icmp_eq hx hb hd ht (fun q => kt q H locs sls hP hS hL) (fun q => kf q H locs sls hP hS hL)
theorem x_if_ne (Γ : zC Wf V m nL H0 cc own lv Rc Rs) {x : Int32} {off : Int} {tgt : Nat} (hd : decode cc pc = .ok (.ifCond .ne off, 3)) (ht : (pc : Int) + off = (tgt : Int)) (kt : ¬ x = 0 → zX Wf V m nL H0 tgt f st h n k sl) (kf : x = 0 → zX Wf V m nL H0 (pc + 3) f st h n k sl) : zX Wf V m nL H0 pc f (.int x :: st) h n k sl := by
  obtain ⟨p, l, e, R, s, args, below, meth, c, Q, rfl, hx, hb, -⟩ := Γ
  exact fun H locs sls hP hS hL => lv_if_ne hx hb hd ht (fun q => kt q H locs sls hP hS hL) (fun q => kf q H locs sls hP hS hL)
theorem x_icmp_ne (Γ : zC Wf V m nL H0 cc own lv Rc Rs) {x y : Int32} {off : Int} {tgt : Nat} (hd : decode cc pc = .ok (.if_icmp .ne off, 3)) (ht : (pc : Int) + off = (tgt : Int)) (kt : ¬ x = y → zX Wf V m nL H0 tgt f st h n k sl) (kf : x = y → zX Wf V m nL H0 (pc + 3) f st h n k sl) : zX Wf V m nL H0 pc f (.int y :: .int x :: st) h n k sl := by
  obtain ⟨p, l, e, R, s, args, below, meth, c, Q, rfl, hx, hb, -⟩ := Γ
  exact fun H locs sls hP hS hL => lv_icmp_ne hx hb hd ht (fun q => kt q H locs sls hP hS hL) (fun q => kf q H locs sls hP hS hL)
theorem x_if_lt (Γ : zC Wf V m nL H0 cc own lv Rc Rs) {x : Int32} {off : Int} {tgt : Nat} (hd : decode cc pc = .ok (.ifCond .lt off, 3)) (ht : (pc : Int) + off = (tgt : Int)) (kt : x < 0 → zX Wf V m nL H0 tgt f st h n k sl) (kf : ¬ x < 0 → zX Wf V m nL H0 (pc + 3) f st h n k sl) : zX Wf V m nL H0 pc f (.int x :: st) h n k sl := by
  obtain ⟨p, l, e, R, s, args, below, meth, c, Q, rfl, hx, hb, -⟩ := Γ
  exact fun H locs sls hP hS hL => lv_if_lt hx hb hd ht (fun q => kt q H locs sls hP hS hL) (fun q => kf q H locs sls hP hS hL)
theorem x_icmp_lt (Γ : zC Wf V m nL H0 cc own lv Rc Rs) {x y : Int32} {off : Int} {tgt : Nat} (hd : decode cc pc = .ok (.if_icmp .lt off, 3)) (ht : (pc : Int) + off = (tgt : Int)) (kt : x < y → zX Wf V m nL H0 tgt f st h n k sl) (kf : ¬ x < y → zX Wf V m nL H0 (pc + 3) f st h n k sl) : zX Wf V m nL H0 pc f (.int y :: .int x :: st) h n k sl := by
  obtain ⟨p, l, e, R, s, args, below, meth, c, Q, rfl, hx, hb, -⟩ := Γ
  exact fun H locs sls hP hS hL => lv_icmp_lt hx hb hd ht (fun q => kt q H locs sls hP hS hL) (fun q => kf q H locs sls hP hS hL)
theorem x_if_ge (Γ : zC Wf V m nL H0 cc own lv Rc Rs) {x : Int32} {off : Int} {tgt : Nat} (hd : decode cc pc = .ok (.ifCond .ge off, 3)) (ht : (pc : Int) + off = (tgt : Int)) (kt : 0 ≤ x → zX Wf V m nL H0 tgt f st h n k sl) (kf : ¬ 0 ≤ x → zX Wf V m nL H0 (pc + 3) f st h n k sl) : zX Wf V m nL H0 pc f (.int x :: st) h n k sl := by
  obtain ⟨p, l, e, R, s, args, below, meth, c, Q, rfl, hx, hb, -⟩ := Γ
  exact fun H locs sls hP hS hL => lv_if_ge hx hb hd ht (fun q => kt q H locs sls hP hS hL) (fun q => kf q H locs sls hP hS hL)
theorem x_icmp_ge (Γ : zC Wf V m nL H0 cc own lv Rc Rs) {x y : Int32} {off : Int} {tgt : Nat} (hd : decode cc pc = .ok (.if_icmp .ge off, 3)) (ht : (pc : Int) + off = (tgt : Int)) (kt : y ≤ x → zX Wf V m nL H0 tgt f st h n k sl) (kf : ¬ y ≤ x → zX Wf V m nL H0 (pc + 3) f st h n k sl) : zX Wf V m nL H0 pc f (.int y :: .int x :: st) h n k sl := by
  obtain ⟨p, l, e, R, s, args, below, meth, c, Q, rfl, hx, hb, -⟩ := Γ
  exact fun H locs sls hP hS hL => lv_icmp_ge hx hb hd ht (fun q => kt q H locs sls hP hS hL) (fun q => kf q H locs sls hP hS hL)
theorem x_if_gt (Γ : zC Wf V m nL H0 cc own lv Rc Rs) {x : Int32} {off : Int} {tgt : Nat} (hd : decode cc pc = .ok (.ifCond .gt off, 3)) (ht : (pc : Int) + off = (tgt : Int)) (kt : 0 < x → zX Wf V m nL H0 tgt f st h n k sl) (kf : ¬ 0 < x → zX Wf V m nL H0 (pc + 3) f st h n k sl) : zX Wf V m nL H0 pc f (.int x :: st) h n k sl := by
  obtain ⟨p, l, e, R, s, args, below, meth, c, Q, rfl, hx, hb, -⟩ := Γ
  exact fun H locs sls hP hS hL => lv_if_gt hx hb hd ht (fun q => kt q H locs sls hP hS hL) (fun q => kf q H locs sls hP hS hL)
theorem x_icmp_gt (Γ : zC Wf V m nL H0 cc own lv Rc Rs) {x y : Int32} {off : Int} {tgt : Nat} (hd : decode cc pc = .ok (.if_icmp .gt off, 3)) (ht : (pc : Int) + off = (tgt : Int)) (kt : y < x → zX Wf V m nL H0 tgt f st h n k sl) (kf : ¬ y < x → zX Wf V m nL H0 (pc + 3) f st h n k sl) : zX Wf V m nL H0 pc f (.int y :: .int x :: st) h n k sl := by
  obtain ⟨p, l, e, R, s, args, below, meth, c, Q, rfl, hx, hb, -⟩ := Γ
  exact fun H locs sls hP hS hL => lv_icmp_gt hx hb hd ht (fun q => kt q H locs sls hP hS hL) (fun q => kf q H locs sls hP hS hL)
theorem x_if_le (Γ : zC Wf V m nL H0 cc own lv Rc Rs) {x : Int32} {off : Int} {tgt : Nat} (hd : decode cc pc = .ok (.ifCond .le off, 3)) (ht : (pc : Int) + off = (tgt : Int)) (kt : x ≤ 0 → zX Wf V m nL H0 tgt f st h n k sl) (kf : ¬ x ≤ 0 → zX Wf V m nL H0 (pc + 3) f st h n k sl) : zX Wf V m nL H0 pc f (.int x :: st) h n k sl := by
  obtain ⟨p, l, e, R, s, args, below, meth, c, Q, rfl, hx, hb, -⟩ := Γ
  exact fun H locs sls hP hS hL => lv_if_le hx hb hd ht (fun q => kt q H locs sls hP hS hL) (fun q => kf q H locs sls hP hS hL)
theorem x_icmp_le (Γ : zC Wf V m nL H0 cc own lv Rc Rs) {x y : Int32} {off : Int} {tgt : Nat} (hd : decode cc pc = .ok (.if_icmp .le off, 3)) (ht : (pc : Int) + off = (tgt : Int)) (kt : x ≤ y → zX Wf V m nL H0 tgt f st h n k sl) (kf : ¬ x ≤ y → zX Wf V m nL H0 (pc + 3) f st h n k sl) : zX Wf V m nL H0 pc f (.int y :: .int x :: st) h n k sl := by
  obtain ⟨p, l, e, R, s, args, below, meth, c, Q, rfl, hx, hb, -⟩ := Γ
  exact fun H locs sls hP hS hL => lv_icmp_le hx hb hd ht (fun q => kt q H locs sls hP hS hL) (fun q => kf q H locs sls hP hS hL)
theorem x_irem (Γ : zC Wf V m nL H0 cc own lv Rc Rs) {x y : Int32} (hd : decode cc pc = .ok (.irem, 1)) (hne : ¬ y = 0) (kk : zX Wf V m nL H0 (pc + 1) f (.int (x - x / y * y) :: st) h n k sl) : zX Wf V m nL H0 pc f (.int y :: .int x :: st) h n k sl := by
  obtain ⟨p, l, e, R, s, args, below, meth, c, Q, rfl, hx, hb, -⟩ := Γ
  exact fun H locs sls hP hS hL => lv_irem hx hb hd hne (kk H locs sls hP hS hL)
theorem x_ldc (Γ : zC Wf V m nL H0 cc own lv Rc Rs) {i : Nat} {v : Int32} (hw : Cond.constant own i v ∈ zw) (hd : decode cc pc = .ok (.ldc i, 2)) (kk : zX Wf V m nL H0 (pc + 2) f (.int v :: st) h n k sl) : zX Wf V m nL H0 pc f st h n k sl := by
  obtain ⟨p, l, e, R, s, args, below, meth, c, Q, rfl, hx, hb, hml, hown, hts, hh0, hK, hlv, hlo, hRc, hRs⟩ := Γ
  exact fun H locs sls hP hS hL => lv_ldc hx hb hown (hts _ hw) hd (kk H locs sls hP hS hL)
theorem x_ldcw (Γ : zC Wf V m nL H0 cc own lv Rc Rs) {i : Nat} {v : Int32} (hw : Cond.constant own i v ∈ zw) (hd : decode cc pc = .ok (.ldc_w i, 3)) (kk : zX Wf V m nL H0 (pc + 3) f (.int v :: st) h n k sl) : zX Wf V m nL H0 pc f st h n k sl := by
  obtain ⟨p, l, e, R, s, args, below, meth, c, Q, rfl, hx, hb, hml, hown, hts, hh0, hK, hlv, hlo, hRc, hRs⟩ := Γ
  exact fun H locs sls hP hS hL => lv_ldcw hx hb hown (hts _ hw) hd (kk H locs sls hP hS hL)
theorem x_ldc2 (Γ : zC Wf V m nL H0 cc own lv Rc Rs) {i : Nat} {v : Int64} (hw : Cond.constantLong own i v ∈ zw) (hd : decode cc pc = .ok (.ldc2_w i, 3)) (kk : zX Wf V m nL H0 (pc + 3) f (.long v :: st) h n k sl) : zX Wf V m nL H0 pc f st h n k sl := by
  obtain ⟨p, l, e, R, s, args, below, meth, c, Q, rfl, hx, hb, hml, hown, hts, hh0, hK, hlv, hlo, hRc, hRs⟩ := Γ
  exact fun H locs sls hP hS hL => lv_ldc2 hx hb hown (hts _ hw) hd (kk H locs sls hP hS hL)
end ZR
end
section
section ZH
variable {Wf : zW} {V : zG} {m : MethodId} {nL : Nat} {H0 : Heap} {cc : ByteArray} {own : String} {lv Rc Rs : Nat} {pc : Nat} {f : Nat → Option Value} {st : List Value} {h : Nat → zE} {n k sl : Nat}
def zup (h : Nat → zE) (q : Nat) (e : zE) : Nat → zE := fun j => bif j == q then e else h j
theorem za_lt {V : zG} {q : Nat} (h : q < 1000) : za V q = V.1 + q := if_pos h
theorem zP_at {V : zG} {h : Nat → zE} {n : Nat} {H : Heap} (hP : zP V h n H) {q : Nat} (hq : q < n) : va_at V.2.2.1 vwCl (za V q, ze V (h q)) H := by
  rw [za_lt (Nat.lt_of_lt_of_le hq hP.2.1)]
  exact hP.2.2 q hq
theorem zP_one {V : zG} {h : Nat → zE} {n : Nat} {H : Heap} (hP : zP V h n H) {q : Nat} (hq : q < n) : va_P V.2.2.1 vwCl [(za V q, ze V (h q))] H := fun k x hx => by
  cases k with
  | zero => cases hx; exact zP_at hP hq
  | succ k => simp at hx
theorem zP_set {V : zG} {h : Nat → zE} {n : Nat} {H H1 : Heap} (hP : zP V h n H) {q : Nat} (hq : q < n) {e : zE} (z : H1.size = H.size) (oq : ∀ x : Nat, x ≠ za V q → H1[x]? = H[x]?) (he : va_at V.2.2.1 vwCl (za V q, ze V e) H1) : zP V (zup h q e) n H1 := by
  refine ⟨by rw [z]; exact hP.1, hP.2.1, fun j hj => ?_⟩
  have ea : za V q = V.1 + q := za_lt (Nat.lt_of_lt_of_le hq hP.2.1)
  by_cases hjq : j = q
  · subst hjq
    have e1 : zup h j e j = e := by simp [zup]
    rw [e1, ← ea]
    exact he
  · have e1 : zup h q e j = h j := by
      show (bif j == q then e else h j) = h j
      rw [show (j == q) = false by simpa using hjq]
      rfl
    rw [e1]
    refine (hP.2.2 j hj).kept (oq _ ?_)
    rw [ea]
    show V.1 + j ≠ V.1 + q
    omega
theorem zF_za {V : zG} {q : Nat} (h : q < 1000) : zF V (za V q) := by
  rw [za_lt h]
  exact Nat.le_add_right _ _
theorem x_getf (Γ : zC Wf V m nL H0 cc own lv Rc Rs) {C : String} {T : u_T} {N ci i q j : Nat} {fs : List Value} {v : Value} (hin : ∀ w ∈ u_ws C T N, w ∈ zw) (hc : vwCl[ci]? = some (C, T, N)) (hj : j < N) (hw : Cond.fieldLink own i (T j).1 (T j).2.1 (T j).2.2.1 ∈ zw)
    (hd : decode cc pc = .ok (.getfield i, 3)) (hq : q < n) (he : h q = zO ci fs) (hv : fs[j]? = some v) (kk : zX Wf V m nL H0 (pc + 3) f (v :: st) h n k sl) : zX Wf V m nL H0 pc f (.ref q :: st) h n k sl := by
  obtain ⟨p, l, e, R, s, args, below, meth, c, Q, rfl, hx, hb, hml, hown, hts, hh0, hK, hlv, hlo, hRc, hRs⟩ := Γ
  intro H locs sls hP hS hL
  have h1 := zP_one hP hq
  rw [he] at h1
  exact va_get (C := C) (T := T) (N := N) hx hb hts hin hown hK.1 h1 0 rfl hc j hj (hts _ hw) (fun _ z => z) (v := zv V v) (by rw [List.getElem?_map, hv]; rfl) hd (kk H locs sls hP hS hL)
theorem x_putf (Γ : zC Wf V m nL H0 cc own lv Rc Rs) {C : String} {T : u_T} {N ci i q j : Nat} {fs : List Value} {v : Value} {ty : FieldType} {h' : Nat → zE} (hin : ∀ w ∈ u_ws C T N, w ∈ zw) (ty0 : Nat → FieldType) (hty : ∀ k, k < N → parseFieldDescriptor (T k).2.2.1 = some (ty0 k)) (hnm : ∀ a, a < N → ∀ b, b < N → a ≠ b → (T a).2.1 ≠ (T b).2.1) (hc : vwCl[ci]? = some (C, T, N)) (hj : j < N) (hw : Cond.fieldLink own i (T j).1 (T j).2.1 (T j).2.2.1 ∈ zw)
    (hfin : (T j).2.2.2 = false) (hdd : parseFieldDescriptor (T j).2.2.1 = some ty) (hd : decode cc pc = .ok (.putfield i, 3)) (hq : q < n) (he : h q = zO ci fs) (hlen : j < fs.length) (hnr : ∀ V, narrow ty (zv V v) = zv V v) (hfit : ∀ V, fits ty (zv V v) = true) (hh : zup h q (zO ci (fs.set j v)) = h') (kk : zX Wf V m nL H0 (pc + 3) f st h' n k sl) : zX Wf V m nL H0 pc f (v :: .ref q :: st) h n k sl := by
  obtain ⟨p, l, e, R, s, args, below, meth, c, Q, rfl, hx, hb, hml, hown, hts, hh0, hK, hlv, hlo, hRc, hRs⟩ := Γ
  subst hh
  intro H locs sls hP hS hL
  have hE := zP_at hP hq
  rw [he] at hE
  have hap := va_apart (own := own) hts hin ty0 hty hnm hK.1 hc
  obtain ⟨r, h1, cell, q1, q2, q3, q4⟩ := hE
  have hr : r = (C, T, N) := Option.some.inj (h1.symm.trans hc)
  subst hr
  obtain ⟨hSl, hfc, kC, hkC, hkind⟩ := hK.1.1 ci _ hc
  obtain ⟨cf, kf, fi, fd, hi, hsl⟩ := hSl j hj
  have hlay := hts _ (hin _ (u_in_lay hj))
  unfold u_lay at hlay
  rw [if_neg (by rw [hfin]; decide)] at hlay
  have hst := (u_facts hfc hkC (u_lays hts hin hj) hi).1
  have h6 := u_store hfc hkC hkind hlay hi hdd (hnr V) (hfit V)
  refine W.putK hx hb (f := fd) ⟨hown, hts _ hw, ⟨_, _, _, hi⟩, hst⟩ (by rw [q2]; exact h6) q1 q3 (by rw [hsl]; exact k2_hasslot (q4 j hj)) rfl rfl hd fun H' e1 e2 e3 => ?_
  rw [hsl] at e1 ⊢
  refine kk H' _ sls (zP_set hP hq e2 e3 ?_) (hS.put e2 e3 (zF_za (Nat.lt_of_lt_of_le hq hP.2.1))) hL
  refine ⟨_, hc, t_OB.to (V := updV (vp_V (fs.map (zv V))) j (zv V v)) ⟨_, e1, q2, q3, t_set q4 hap hj (zv V v)⟩ (fun a _ => ?_)⟩
  rw [vp_updV_set (by rw [List.length_map]; exact hlen), List.map_set]
theorem x_iald (Γ : zC Wf V m nL H0 cc own lv Rc Rs) {q N j : Nat} {g : Nat → Int32} {i x : Int32} (hd : decode cc pc = .ok (.iaload, 1)) (hq : q < n) (he : h q = zI N g) (hi : i = nI j) (hj : j < N) (hN : N < 2 ^ 31) (hg : g j = x) (kk : zX Wf V m nL H0 (pc + 1) f (.int x :: st) h n k sl) : zX Wf V m nL H0 pc f (.int i :: .ref q :: st) h n k sl := by
  obtain ⟨p, l, e, R, s, args, below, meth, c, Q, rfl, hx, hb, hml, hown, hts, hh0, hK, hlv, hlo, hRc, hRs⟩ := Γ
  intro H locs sls hP hS hL
  subst hi hg
  have h1 := zP_one hP hq
  rw [he] at h1
  refine va_iald hx hb hK.1 h1 0 0 (cA := V.2.2.2.1) (n := N) (f := g) rfl rfl (vp_in_nI hj hN) hd ?_
  rw [nI_clamp (Nat.lt_trans hj hN)]
  exact kk H locs sls hP hS hL
theorem x_alen (Γ : zC Wf V m nL H0 cc own lv Rc Rs) {q N : Nat} {g : Nat → Int32} (hd : decode cc pc = .ok (.arraylength, 1)) (hq : q < n) (he : h q = zI N g) (kk : zX Wf V m nL H0 (pc + 1) f (.int (nI N) :: st) h n k sl) : zX Wf V m nL H0 pc f (.ref q :: st) h n k sl := by
  obtain ⟨p, l, e, R, s, args, below, meth, c, Q, rfl, hx, hb, hml, hown, hts, hh0, hK, hlv, hlo, hRc, hRs⟩ := Γ
  intro H locs sls hP hS hL
  have h1 := zP_one hP hq
  rw [he] at h1
  exact va_alen hx hb hK.1 h1 0 0 (cA := V.2.2.2.1) (x := (N, .inl g)) rfl rfl rfl hd (kk H locs sls hP hS hL)
theorem x_iast (Γ : zC Wf V m nL H0 cc own lv Rc Rs) {q N j : Nat} {g : Nat → Int32} {i x : Int32} {h' : Nat → zE} (hd : decode cc pc = .ok (.iastore, 1)) (hq : q < n) (he : h q = zI N g) (hi : i = nI j) (hj : j < N) (hN : N < 2 ^ 31) (hh : zup h q (zI N (upd g j x)) = h') (kk : zX Wf V m nL H0 (pc + 1) f st h' n k sl) : zX Wf V m nL H0 pc f (.int x :: .int i :: .ref q :: st) h n k sl := by
  obtain ⟨p, l, e, R, s, args, below, meth, c, Q, rfl, hx, hb, hml, hown, hts, hh0, hK, hlv, hlo, hRc, hRs⟩ := Γ
  subst hh hi
  intro H locs sls hP hS hL
  have hE := zP_at hP hq
  rw [he] at hE
  refine W.iast hx hb hE ((hK.1.2 0 _ rfl).1 N (fun j => .int (g j))) (fun q => by cases q) (by show ¬ (nI j < 0 ∨ (arrV _ _ _).slots.size ≤ _); rw [arrV_size]; exact vp_in_nI hj hN) rfl rfl hd fun H1 e1 z oq => ?_
  refine kk H1 _ sls (zP_set hP hq z oq ?_) (hS.put z oq (zF_za (Nat.lt_of_lt_of_le hq hP.2.1))) hL
  show H1[za V q]? = some (vp_cell _ _)
  rw [e1, nI_clamp (Nat.lt_trans hj hN)]
  show some ((vp_cell V.2.2.2.1 (N, .inl g)).setSlot j (.int x)) = some (vp_cell V.2.2.2.1 (N, .inl (upd g j x)))
  rw [vp_cell_i, vp_cell_i, arrV_store]
  congr 2
  funext a
  by_cases ha : a = j
  · subst ha
    simp [updV, upd]
  · simp [updV, upd, ha]
theorem x_aald (Γ : zC Wf V m nL H0 cc own lv Rc Rs) {q N j y : Nat} {g : Nat → Option Nat} {i : Int32} (hd : decode cc pc = .ok (.aaload, 1)) (hq : q < n) (he : h q = zR N g) (hi : i = nI j) (hj : j < N) (hN : N < 2 ^ 31) (hg : g j = some y) (kk : zX Wf V m nL H0 (pc + 1) f (.ref y :: st) h n k sl) : zX Wf V m nL H0 pc f (.int i :: .ref q :: st) h n k sl := by
  obtain ⟨p, l, e, R, s, args, below, meth, c, Q, rfl, hx, hb, hml, hown, hts, hh0, hK, hlv, hlo, hRc, hRs⟩ := Γ
  intro H locs sls hP hS hL
  subst hi
  have h1 := zP_one hP hq
  rw [he] at h1
  refine va_aldq hx hb hK.1 h1 0 1 (cA := V.2.2.2.2) (C := RX1) (n := N) (f := fun i => (g i).map (za V)) rfl rfl (vp_in_nI hj hN) hd ?_
  rw [nI_clamp (Nat.lt_trans hj hN), hg]
  exact kk H locs sls hP hS hL
/-- heaps that hold the same -/
def zeq (e e' : zE) : Prop := e = e' ∨ ∃ (N : Nat) (g g' : Nat → Int32), e = zI N g ∧ e' = zI N g' ∧ ∀ i, i < N → g i = g' i
theorem arrV_ext {c : ClassId} {N : Nat} {a b : Nat → Value} (h : ∀ i, i < N → a i = b i) : arrV c N a = arrV c N b := by
  unfold arrV
  congr 1
  congr 1
  funext j
  exact h j.val j.isLt
theorem zeq_at {V : zG} {a : Nat} {e e' : zE} {H : Heap} (h : zeq e e') (hE : va_at V.2.2.1 vwCl (a, ze V e) H) : va_at V.2.2.1 vwCl (a, ze V e') H := by
  rcases h with rfl | ⟨N, g, g', rfl, rfl, hg⟩
  · exact hE
  · have hE : H[a]? = some (vp_cell V.2.2.2.1 (N, .inl g)) := hE
    show H[a]? = some (vp_cell V.2.2.2.1 (N, .inl g'))
    rw [hE, vp_cell_i, vp_cell_i, arrV_ext (fun i hi => by rw [hg i hi])]
def zH (n : Nat) (h h' : Nat → zE) : Prop := ∀ q, q < n → zeq (h q) (h' q)
theorem zH.rf {n : Nat} {h : Nat → zE} : zH n h h := fun _ _ => Or.inl rfl
theorem zeq.symm {e e' : zE} (h : zeq e e') : zeq e' e := by
  rcases h with h | ⟨N, g, g', a, b, c⟩
  · exact Or.inl h.symm
  · exact Or.inr ⟨N, g', g, b, a, fun i hi => (c i hi).symm⟩
theorem zeq.trans {a b c : zE} (h : zeq a b) (h2 : zeq b c) : zeq a c := by
  rcases h with rfl | ⟨N, g, g', rfl, rfl, hg⟩
  · exact h2
  · rcases h2 with rfl | ⟨N2, g2, g2', e1, rfl, hg2⟩
    · exact Or.inr ⟨N, g, g', rfl, rfl, hg⟩
    · cases e1
      exact Or.inr ⟨N, g, g2', rfl, rfl, fun i hi => (hg i hi).trans (hg2 i hi)⟩
theorem zH.trans {n : Nat} {a b c : Nat → zE} (h : zH n a b) (h2 : zH n b c) : zH n a c := fun q hq => (h q hq).trans (h2 q hq)
theorem zH.symm {n : Nat} {a b : Nat → zE} (h : zH n a b) : zH n b a := fun q hq => (h q hq).symm
theorem zH_P {V : zG} {h h' : Nat → zE} {n : Nat} {H : Heap} (hh : zH n h h') (hP : zP V h n H) : zP V h' n H := ⟨hP.1, hP.2.1, fun q hq => zeq_at (hh q hq) (hP.2.2 q hq)⟩
theorem x_congr {h' : Nat → zE} (hh : zH n h h') (kk : zX Wf V m nL H0 pc f st h' n k sl) : zX Wf V m nL H0 pc f st h n k sl := fun H locs sls hP hS hL => kk H locs sls (zH_P hh hP) hS hL
theorem x_heap {h' : Nat → zE} (hh : h = h') (kk : zX Wf V m nL H0 pc f st h' n k sl) : zX Wf V m nL H0 pc f st h n k sl := hh ▸ kk
theorem x_st {st' : List Value} (hh : st = st') (kk : zX Wf V m nL H0 pc f st' h n k sl) : zX Wf V m nL H0 pc f st h n k sl := hh ▸ kk
end ZH
end
section
abbrev zY : Type := MethodName × ByteArray × Nat × Option FieldType
def zWs (M : zY) : List Cond := Cond.code M.1 M.2.1 M.2.2.1 M.2.2.2 :: zw
def zRm (d mc ms : Nat) : Room := { frames := d, cells := mc, slots := ms, locals := 32 * d }
def zPost (V : zG) (r : Option Value) (h' : Nat → zE) (n' : Nat) : Array Value → State → Outcome → State → Prop := fun _ st o t => o = .returned (r.map (zv V)) ∧ zP V h' n' t.heap ∧ va_F (zF V) st t
/-- a method of height d, called with as in the heap h, answers r and leaves h' -/
def zM (d : Nat) (M : zY) (as : List Value) (h : Nat → zE) (n : Nat) (r : Option Value) (h' : Nat → zE) (n' mc ms : Nat) : Prop :=
  ∀ (l : Launch) (V : zG), Met l M.1 (zWs M) (zRm d mc ms) (va_Pc (as.map (zv V)) (fun U => zP V h n U.heap ∧ zK V U)) (zPost V r h' n') mc ms (zF V)
/-- where a method ends -/
def zQ (Wf : zW) (V : zG) (m : MethodId) (H0 : Heap) (cc : ByteArray) (ret : Option FieldType) (r : Option Value) (h' : Nat → zE) (n' mc ms : Nat) : Prop :=
  ∃ (p : Program) (l : Launch) (e : Env) (R : Room) (s : State) (args : Array Value) (below : List Frame) (meth : Method) (c : Code),
    Wf = (fun H locs k sl g => W p l e R s m args below meth c H locs k sl (MQ below (zPost V r h' n') args s mc ms (zF V)) g) ∧ p.tables.exec = Jvm.exec ∧ c.code = cc ∧ meth.sig.returnType = ret ∧ meth.locks = false ∧ H0 = s.heap
theorem lg_map (V : zG) : ∀ as : List Value, (lg_sl (as.map (zv V))).length = (lg_sl as).length := by
  intro as
  induction as with
  | nil => rfl
  | cons a as ih =>
    simp only [lg_sl, List.map_cons, List.flatMap_cons, List.length_append] at ih ⊢
    rw [ih, zv_cat]
    by_cases ha : a.category = 2
    · rw [if_pos ha, if_pos ha]
      rfl
    · rw [if_neg ha, if_neg ha]
      rfl
theorem lv_args_map (V : zG) : ∀ (as : List Value) (i : Nat), lv_args i (as.map (zv V)) = (lv_args i as).map (fun q => (q.1, zv V q.2)) := by
  intro as
  induction as with
  | nil => intro i; rfl
  | cons a as ih =>
    intro i
    simp only [List.map_cons, lv_args, zv_cat, ih]
theorem zls_mem : ∀ (l : List (Nat × Value)) (i : Nat) (v : Value), zls l i = some v → (i, v) ∈ l := by
  intro l i v hv
  unfold zls at hv
  induction l with
  | nil => cases hv
  | cons q l ih =>
    rw [List.lookup_cons] at hv
    cases e : (i == q.1) with
    | true =>
      rw [e] at hv
      cases hv
      rw [eq_of_beq e]
      exact List.mem_cons_self
    | false =>
      rw [e] at hv
      exact List.mem_cons_of_mem _ (ih hv)
theorem zM.intro {d : Nat} {M : zY} {as : List Value} {h : Nat → zE} {n : Nat} {r : Option Value} {h' : Nat → zE} {n' mc ms : Nat} (hy : plainName M.1.cls = true) (hsz : (lg_sl as).length ≤ M.2.2.1)
    (body : ∀ (Wf : zW) (V : zG) (m : MethodId) (H0 : Heap), zC Wf V m M.2.2.1 H0 M.2.1 M.1.cls d mc ms → zQ Wf V m H0 M.2.1 M.2.2.2 r h' n' mc ms → zX Wf V m M.2.2.1 H0 0 (zls (lv_args 0 as)) [] h n 0 0) : zM d M as h n r h' n' mc ms := by
  intro l V
  refine Met.ofW (cc := M.2.1) (maxL := M.2.2.1) (ret := M.2.2.2) hy rfl ?_
  intro p e s m args below meth c s₁ B hml hv
  obtain ⟨rfl, hP, hK⟩ := hv
  have hx := B.exec
  have hb := B.bytes
  have hr := B.returns
  have hts := atoms_spec (ws := zWs M) B.pre
  have hown : s.vm.findClass M.1.cls = some m.cls := findClass_of_methodNamed B.named
  have hlocks := B.notSynchronized
  have hl := lv_entry (as.map (zv V)) (n := M.2.2.1) (by rw [lg_map]; exact hsz)
  rw [lg_entry_eq]
  generalize (lg_sl (as.map (zv V)) ++ List.replicate (M.2.2.1 - (lg_sl (as.map (zv V))).length) Slot.unset).toArray = ls at hl ⊢
  refine body (fun H locs k sl g => W p l e (zRm d mc ms) s m (as.map (zv V)).toArray below meth c H locs k sl (MQ below (zPost V r h' n') (as.map (zv V)).toArray s mc ms (zF V)) g) V m s.heap
    ⟨p, l, e, _, s, _, below, meth, c, _, rfl, hx, hb, hml, hown, fun w hw => hts w (List.mem_cons_of_mem _ hw), rfl, hK, Nat.le_refl _, Nat.le_refl _, rfl, rfl⟩
    ⟨p, l, e, _, s, _, below, meth, c, rfl, hx, hb, hr, hlocks, rfl⟩ s.heap [] ls hP va_S.rf ⟨hl.1, hl.2.1, fun i v hv => ?_⟩
  have h1 := zls_mem _ _ _ hv
  rw [lv_args_map] at hl
  exact hl.2.2 (i, zv V v) (List.mem_map.mpr ⟨(i, v), h1, rfl⟩)
section ZC
variable {Wf : zW} {V : zG} {m : MethodId} {nL : Nat} {H0 : Heap} {cc : ByteArray} {own : String} {lv Rc Rs : Nat} {pc : Nat} {f : Nat → Option Value} {st : List Value} {h : Nat → zE} {n k sl : Nat}
theorem x_iret {ret : Option FieldType} {r : Option Value} {h' : Nat → zE} {n' : Nat} {v : Int32} {ty : FieldType} (ρ : zQ Wf V m H0 cc ret r h' n' k sl) (hr : ret = some ty) (hd : decode cc pc = .ok (.ireturn, 1)) (hn : narrow ty (.int v) = .int v) (hv : r = some (.int v)) (hnn : n = n') (hh : zH n h h') : zX Wf V m nL H0 pc f [.int v] h n k sl := by
  obtain ⟨p, l, e, R, s, args, below, meth, c, rfl, hx, hb, hrt, hlk, rfl⟩ := ρ
  subst hv hr hnn
  exact fun H locs sls hP hS hL => W.zret hx hb hrt hn (fun t ht hW => ⟨rfl, by rw [ht]; exact zH_P hh hP, hS.F ht⟩) hS.2.2 hd hlk
theorem x_lret {r : Option Value} {h' : Nat → zE} {n' : Nat} {v : Int64} (ρ : zQ Wf V m H0 cc (some .long) r h' n' k sl) (hd : decode cc pc = .ok (.lreturn, 1)) (hv : r = some (.long v)) (hnn : n = n') (hh : zH n h h') : zX Wf V m nL H0 pc f [.long v] h n k sl := by
  obtain ⟨p, l, e, R, s, args, below, meth, c, rfl, hx, hb, hrt, hlk, rfl⟩ := ρ
  subst hv hnn
  exact fun H locs sls hP hS hL => W.lret hx hb hrt (fun t ht hW => ⟨rfl, by rw [ht]; exact zH_P hh hP, hS.F ht⟩) hS.2.2 hd hlk
theorem x_vret {r : Option Value} {h' : Nat → zE} {n' : Nat} (ρ : zQ Wf V m H0 cc none r h' n' k sl) (hd : decode cc pc = .ok (.return_, 1)) (hv : r = none) (hnn : n = n') (hh : zH n h h') : zX Wf V m nL H0 pc f [] h n k sl := by
  obtain ⟨p, l, e, R, s, args, below, meth, c, rfl, hx, hb, hrt, hlk, rfl⟩ := ρ
  subst hv hnn
  exact fun H locs sls hP hS hL => W.vret hx hb hrt (fun t ht hW => ⟨rfl, by rw [ht]; exact zH_P hh hP, hS.F ht⟩) hS.2.2 hd hlk
theorem x_aret {rt : FieldType} {r : Option Value} {h' : Nat → zE} {n' : Nat} {q : Nat} (ρ : zQ Wf V m H0 cc (some rt) r h' n' k sl) (hrt0 : (∃ n, rt = FieldType.object n) ∨ ∃ t : FieldType, rt = FieldType.array t) (hd : decode cc pc = .ok (.areturn, 1)) (hv : r = some (.ref q)) (hnn : n = n') (hh : zH n h h') : zX Wf V m nL H0 pc f [.ref q] h n k sl := by
  obtain ⟨p, l, e, R, s, args, below, meth, c, rfl, hx, hb, hrt, hlk, rfl⟩ := ρ
  subst hv hnn
  exact fun H locs sls hP hS hL => W.aret hx hb hrt hrt0 (Or.inr ⟨_, rfl⟩) (fun t ht hW => ⟨rfl, by rw [ht]; exact zH_P hh hP, hS.F ht⟩) hS.2.2 hd hlk
/-- what is asked of a callee -/
def zCal (M : zY) (na : Nat) : Prop := Cond.code M.1 M.2.1 M.2.2.1 M.2.2.2 ∈ zw ∧ Cond.initialized M.1.cls ∈ zw ∧ (M.1.cls ≠ "java/lang/invoke/MethodHandle" ∧ M.1.cls ≠ "java/lang/invoke/VarHandle" ∧ (parseMethodDescriptor M.1.desc).map (fun d => d.parameters.length) = some na) ∧ M.2.2.1 ≤ 13
def zCalV (M : zY) (na : Nat) : Prop := zCal M na ∧ Cond.instanceMethod M.1 ∈ zw ∧ Cond.selects M.1.cls M.1 M.1 ∈ zw
def zCalS (M : zY) (na : Nat) : Prop := zCal M na ∧ Cond.static M.1 ∈ zw
theorem zBlind {V : zG} {as : List Value} : FrameBlind (va_Pc as (fun U => zP V h n U.heap ∧ zK V U)) := fun a U g mk q => ⟨q.1, q.2.1, zK_moved (u := U) (U := U.calling g mk a) (State.WarmedH.refl U) q.2.2.2.1 (fun _ _ _ => rfl) q.2.2⟩
theorem zGood (M : zY) (hc : Cond.code M.1 M.2.1 M.2.2.1 M.2.2.2 ∈ zw) : GoodIn zw (zWs M) := fun w hw => by
  rcases List.mem_cons.mp hw with rfl | h
  · exact ⟨hc, good_of_word (zw_good _ hc)⟩
  · exact ⟨h, good_of_word (zw_good _ h)⟩
theorem z_run {p : Program} {l : Launch} {e : Env} {R : Room} {s : State} {args : Array Value} {below : List Frame} {meth : Method} {c : Code} {Q : State → Prop} {H : Heap} {locs : List Loc} {sls : Array Slot} {st0 rest : List Value} {mc ms : Nat} {r : Option Value} {h' : Nat → zE} {n' : Nat} {aa : Array Value}
    (hr : va_Run p l e R s m args below meth c H locs k sl mc ms (F0 m pc sls st0) rest (zPost V r h' n' aa) (zF V)) (hS : va_S (zF V) H0 H locs)
    (kk : ∀ (H1 : Heap) (locs1 : List Loc), zP V h' n' H1 → va_S (zF V) H0 H1 locs1 → W p l e R s m args below meth c H1 locs1 (k + mc) (sl + ms) Q (F0 m (pc + 3) sls ((r.map (zv V)).toList ++ rest))) : W p l e R s m args below meth c H locs k sl Q (F0 m pc sls st0) := by
  intro T hT X
  obtain ⟨v, st₀, t, T', L, h0, X', hL, e1, e2, ⟨hv, hp, hz, hk⟩, stp⟩ := hr T hT X
  cases hv
  rw [h0] at hz hk
  obtain ⟨t2, a1, b1⟩ := kk T'.heap (locs ++ L) (by rw [e1]; exact hp) ⟨Nat.le_trans hS.1 (by rw [e1]; exact hz), fun q h1 h2 => by rw [e1, hk q (Nat.lt_of_lt_of_le h1 hS.1) h2]; exact hS.2.1 q h1 h2, fun q hq => by
      rcases List.mem_append.mp hq with h | h
      · exact hS.2.2 q h
      · exact hL q h⟩ T' rfl X'
  exact ⟨t2, stp t2 a1, b1⟩
theorem zcat_sum (V : zG) (st : List Value) : ((st.map (zv V)).map fun v => v.category).sum = (st.map fun v => v.category).sum := by
  rw [List.map_map]
  congr 1
  apply List.map_congr_left
  intro v _
  exact zv_cat V v
theorem x_callVr (Γ : zC Wf V m nL H0 cc own lv Rc Rs) {M : zY} {na d i b ci : Nat} {As fs st0 : List Value} {r : Option Value} {h' : Nat → zE} {n' mc ms : Nat} {q : vw_C} (cal : zCalV M na) (wl : Cond.methodLink own i M.1 ∈ zw) (hd : decode cc pc = .ok (.invokevirtual i, 3)) (hM : zM d M (.ref b :: As) h n r h' n' mc ms) (hna : As.length = na) (hlv2 : d + 1 ≤ lv)
    (hq : b < n) (he : h b = zO ci fs) (hC : vwCl[ci]? = some q) (hCn : q.1 = M.1.cls) (hst : st0 = As.reverse ++ .ref b :: st) (hroom : (st.map fun v => v.category).sum ≤ 8) (hk : k + mc ≤ Rc) (hs : sl + ms ≤ Rs) (kk : zX Wf V m nL H0 (pc + 3) f (r.toList ++ st) h' n' (k + mc) (sl + ms)) : zX Wf V m nL H0 pc f st0 h n k sl := by
  obtain ⟨p, l, e, R, s, args, below, meth, c, Q, rfl, hx, hb, hml, hown, hts, hh0, hK, hlv, hlo, hRc, hRs⟩ := Γ
  subst hst hh0 hRc hRs
  intro H locs sls hP hS hL
  obtain ⟨⟨hc1, hc2, hc3, hc4⟩, hi1, hi2⟩ := cal
  have hg := zGood M hc1
  have h1 := zP_one hP hq
  rw [he] at h1
  have hrc := va_recv (q0 := 0) hK.1 h1 hC rfl
  rw [hCn] at hrc
  have run := va_runV (l := l) (e := e) (below := below) (meth := meth) (As := As.map (zv V)) (rest := st.map (zv V)) (b := za V b) (g := F0 m pc sls ((As.reverse ++ .ref b :: st).map (zv V))) (locs := locs) (cells := k) (slots := sl) ⟨hx, hb, hml, hown, hts⟩ (hM l V)
    (show CallW R s args own M.1.cls i M.1 M.2.1 M.2.2.1 M.2.2.2 (zWs M) (zRm d mc ms) mc ms na from ⟨callB_of na hts hg rfl rfl rfl (hts _ hc2) (hts _ wl) hc3 ⟨Nat.le_trans hlv2 hlv, by show 8 + (M.2.2.1 + 11) + 32 * d ≤ R.locals; omega⟩, hts _ hi1, hts _ hi2⟩)
    ⟨zBlind, hrc, fun U hU hW => ⟨rfl, by rw [hU]; exact hP, zK_moved hW (by rw [hU]; exact Nat.le_trans hK.2.1 hS.1) (by rw [hU]; exact hS.2.1) hK⟩⟩ rfl (by rw [List.length_map]; exact hna) hL.1 (by simp [zv]) (lv_room (pc := pc) (ls := sls) (rest := (As.reverse ++ .ref b :: st).map (zv V)) (by rw [zcat_sum]; exact hroom)) hd ⟨hk, hs⟩
  refine z_run run hS fun H1 locs1 hP1 hS1 => ?_
  have k1 := kk H1 locs1 sls hP1 hS1 hL
  have e1 : (r.toList ++ st).map (zv V) = (r.map (zv V)).toList ++ st.map (zv V) := by cases r <;> simp
  rw [e1] at k1
  exact k1
theorem x_callSr (Γ : zC Wf V m nL H0 cc own lv Rc Rs) {M : zY} {na d i : Nat} {As st0 : List Value} {r : Option Value} {h' : Nat → zE} {n' mc ms : Nat} (cal : zCalS M na) (wl : Cond.methodLink own i M.1 ∈ zw) (hd : decode cc pc = .ok (.invokestatic i, 3)) (hM : zM d M As h n r h' n' mc ms) (hna : As.length = na) (hlv2 : d + 1 ≤ lv)
    (hst : st0 = As.reverse ++ st) (hroom : (st.map fun v => v.category).sum ≤ 8) (hk : k + mc ≤ Rc) (hs : sl + ms ≤ Rs) (kk : zX Wf V m nL H0 (pc + 3) f (r.toList ++ st) h' n' (k + mc) (sl + ms)) : zX Wf V m nL H0 pc f st0 h n k sl := by
  obtain ⟨p, l, e, R, s, args, below, meth, c, Q, rfl, hx, hb, hml, hown, hts, hh0, hK, hlv, hlo, hRc, hRs⟩ := Γ
  subst hst hh0 hRc hRs
  intro H locs sls hP hS hL
  obtain ⟨⟨hc1, hc2, hc3, hc4⟩, hi1⟩ := cal
  have hg := zGood M hc1
  have run := va_runS (l := l) (e := e) (below := below) (meth := meth) (As := As.map (zv V)) (rest := st.map (zv V)) (g := F0 m pc sls ((As.reverse ++ st).map (zv V))) (locs := locs) (cells := k) (slots := sl) ⟨hx, hb, hml, hown, hts⟩ (hM l V)
    (show CallB R s args own i M.1 M.2.1 M.2.2.1 M.2.2.2 (zWs M) (zRm d mc ms) mc ms na ∧ _ from ⟨callB_of na hts hg rfl rfl rfl (hts _ hc2) (hts _ wl) hc3 ⟨Nat.le_trans hlv2 hlv, by show 8 + (M.2.2.1 + 11) + 32 * d ≤ R.locals; omega⟩, hts _ hi1⟩)
    ⟨zBlind, fun U hU hW => ⟨rfl, by rw [hU]; exact hP, zK_moved hW (by rw [hU]; exact Nat.le_trans hK.2.1 hS.1) (by rw [hU]; exact hS.2.1) hK⟩⟩ rfl (by rw [List.length_map]; exact hna) hL.1 (by simp) (lv_room (pc := pc) (ls := sls) (rest := (As.reverse ++ st).map (zv V)) (by rw [zcat_sum]; exact hroom)) hd ⟨hk, hs⟩
  refine z_run run hS fun H1 locs1 hP1 hS1 => ?_
  have k1 := kk H1 locs1 sls hP1 hS1 hL
  have e1 : (r.toList ++ st).map (zv V) = (r.map (zv V)).toList ++ st.map (zv V) := by cases r <;> simp
  rw [e1] at k1
  exact k1
theorem x_callV (Γ : zC Wf V m nL H0 cc own lv Rc Rs) {M : zY} {na d i b ci : Nat} {As fs st0 : List Value} {v : Value} {h' : Nat → zE} {q : vw_C} (cal : zCalV M na) (wl : Cond.methodLink own i M.1 ∈ zw) (hd : decode cc pc = .ok (.invokevirtual i, 3)) (hM : zM d M (.ref b :: As) h n (some v) h' n 0 0) (hna : As.length = na) (hlv2 : d + 1 ≤ lv)
    (hq : b < n) (he : h b = zO ci fs) (hC : vwCl[ci]? = some q) (hCn : q.1 = M.1.cls) (hst : st0 = As.reverse ++ .ref b :: st) (hroom : (st.map fun v => v.category).sum ≤ 8) (hk : k ≤ Rc) (hs : sl ≤ Rs) (kk : zX Wf V m nL H0 (pc + 3) f (v :: st) h' n k sl) : zX Wf V m nL H0 pc f st0 h n k sl := x_callVr Γ cal wl hd hM hna hlv2 hq he hC hCn hst hroom hk hs kk
theorem x_callVv (Γ : zC Wf V m nL H0 cc own lv Rc Rs) {M : zY} {na d i b ci : Nat} {As fs st0 : List Value} {h' : Nat → zE} {q : vw_C} (cal : zCalV M na) (wl : Cond.methodLink own i M.1 ∈ zw) (hd : decode cc pc = .ok (.invokevirtual i, 3)) (hM : zM d M (.ref b :: As) h n none h' n 0 0) (hna : As.length = na) (hlv2 : d + 1 ≤ lv)
    (hq : b < n) (he : h b = zO ci fs) (hC : vwCl[ci]? = some q) (hCn : q.1 = M.1.cls) (hst : st0 = As.reverse ++ .ref b :: st) (hroom : (st.map fun v => v.category).sum ≤ 8) (hk : k ≤ Rc) (hs : sl ≤ Rs) (kk : zX Wf V m nL H0 (pc + 3) f st h' n k sl) : zX Wf V m nL H0 pc f st0 h n k sl := x_callVr Γ cal wl hd hM hna hlv2 hq he hC hCn hst hroom hk hs kk
theorem x_callS (Γ : zC Wf V m nL H0 cc own lv Rc Rs) {M : zY} {na d i : Nat} {As st0 : List Value} {v : Value} {h' : Nat → zE} (cal : zCalS M na) (wl : Cond.methodLink own i M.1 ∈ zw) (hd : decode cc pc = .ok (.invokestatic i, 3)) (hM : zM d M As h n (some v) h' n 0 0) (hna : As.length = na) (hlv2 : d + 1 ≤ lv)
    (hst : st0 = As.reverse ++ st) (hroom : (st.map fun v => v.category).sum ≤ 8) (hk : k ≤ Rc) (hs : sl ≤ Rs) (kk : zX Wf V m nL H0 (pc + 3) f (v :: st) h' n k sl) : zX Wf V m nL H0 pc f st0 h n k sl := x_callSr Γ cal wl hd hM hna hlv2 hst hroom hk hs kk
theorem x_callSv (Γ : zC Wf V m nL H0 cc own lv Rc Rs) {M : zY} {na d i : Nat} {As st0 : List Value} {h' : Nat → zE} (cal : zCalS M na) (wl : Cond.methodLink own i M.1 ∈ zw) (hd : decode cc pc = .ok (.invokestatic i, 3)) (hM : zM d M As h n none h' n 0 0) (hna : As.length = na) (hlv2 : d + 1 ≤ lv)
    (hst : st0 = As.reverse ++ st) (hroom : (st.map fun v => v.category).sum ≤ 8) (hk : k ≤ Rc) (hs : sl ≤ Rs) (kk : zX Wf V m nL H0 (pc + 3) f st h' n k sl) : zX Wf V m nL H0 pc f st0 h n k sl := x_callSr Γ cal wl hd hM hna hlv2 hst hroom hk hs kk
end ZC
theorem i_vc : Claimed_1_1 ∧ Claimed_1_2 := sorry
end
