/-- a private method of a class that the tables say can be made, by its rows of tables_1 -/
def lw_okq (q : MethodName × Nat) : Prop := (q.1.cls ≠ "java/lang/invoke/MethodHandle" ∧ q.1.cls ≠ "java/lang/invoke/VarHandle") ∧ Cond.instantiable q.1.cls q.2 ∈ tables_1 ∧ Cond.privateMethod q.1 ∈ tables_1 ∧ Cond.instanceMethod q.1 ∈ tables_1
theorem lw_p0 : lw_okq (⟨"BreadGames", "finding", "(I)I"⟩, 7) := ⟨⟨by decide +kernel, by decide +kernel⟩, List.mem_of_getElem? (i := 14) (by decide +kernel), List.mem_of_getElem? (i := 172) (by decide +kernel), List.mem_of_getElem? (i := 173) (by decide +kernel)⟩
theorem lw_p1 : lw_okq (⟨"BreadGames", "hindrance", "(I)I"⟩, 7) := ⟨⟨by decide +kernel, by decide +kernel⟩, List.mem_of_getElem? (i := 14) (by decide +kernel), List.mem_of_getElem? (i := 339) (by decide +kernel), List.mem_of_getElem? (i := 340) (by decide +kernel)⟩
theorem lw_p2 : lw_okq (⟨"BreadGames", "leastCalmRuling", "(II)I"⟩, 7) := ⟨⟨by decide +kernel, by decide +kernel⟩, List.mem_of_getElem? (i := 14) (by decide +kernel), List.mem_of_getElem? (i := 401) (by decide +kernel), List.mem_of_getElem? (i := 402) (by decide +kernel)⟩
theorem lw_p3 : lw_okq (⟨"BreadGames", "isCalmWith", "(III)Z"⟩, 7) := ⟨⟨by decide +kernel, by decide +kernel⟩, List.mem_of_getElem? (i := 14) (by decide +kernel), List.mem_of_getElem? (i := 409) (by decide +kernel), List.mem_of_getElem? (i := 410) (by decide +kernel)⟩
theorem lw_p4 : lw_okq (⟨"BreadGames", "bestTrait", "(IIII)I"⟩, 7) := ⟨⟨by decide +kernel, by decide +kernel⟩, List.mem_of_getElem? (i := 14) (by decide +kernel), List.mem_of_getElem? (i := 421) (by decide +kernel), List.mem_of_getElem? (i := 422) (by decide +kernel)⟩
theorem lw_p5 : lw_okq (⟨"BreadGames", "waysThat", "(II)J"⟩, 7) := ⟨⟨by decide +kernel, by decide +kernel⟩, List.mem_of_getElem? (i := 14) (by decide +kernel), List.mem_of_getElem? (i := 445) (by decide +kernel), List.mem_of_getElem? (i := 446) (by decide +kernel)⟩
theorem lw_p6 : lw_okq (⟨"BreadGames", "isSo", "(III)Z"⟩, 7) := ⟨⟨by decide +kernel, by decide +kernel⟩, List.mem_of_getElem? (i := 14) (by decide +kernel), List.mem_of_getElem? (i := 462) (by decide +kernel), List.mem_of_getElem? (i := 463) (by decide +kernel)⟩
theorem lw_p7 : lw_okq (⟨"BreadGames", "readItem", "()Z"⟩, 7) := ⟨⟨by decide +kernel, by decide +kernel⟩, List.mem_of_getElem? (i := 14) (by decide +kernel), List.mem_of_getElem? (i := 532) (by decide +kernel), List.mem_of_getElem? (i := 533) (by decide +kernel)⟩
theorem lw_p8 : lw_okq (⟨"BreadGames", "readCitizen", "(I)Z"⟩, 7) := ⟨⟨by decide +kernel, by decide +kernel⟩, List.mem_of_getElem? (i := 14) (by decide +kernel), List.mem_of_getElem? (i := 602) (by decide +kernel), List.mem_of_getElem? (i := 603) (by decide +kernel)⟩
theorem lw_p9 : lw_okq (⟨"BreadGames", "readTrait", "(Ljava/lang/String;I)Z"⟩, 7) := ⟨⟨by decide +kernel, by decide +kernel⟩, List.mem_of_getElem? (i := 14) (by decide +kernel), List.mem_of_getElem? (i := 607) (by decide +kernel), List.mem_of_getElem? (i := 608) (by decide +kernel)⟩
theorem lw_p10 : lw_okq (⟨"BreadGames", "readRuling", "(I)Z"⟩, 7) := ⟨⟨by decide +kernel, by decide +kernel⟩, List.mem_of_getElem? (i := 14) (by decide +kernel), List.mem_of_getElem? (i := 617) (by decide +kernel), List.mem_of_getElem? (i := 618) (by decide +kernel)⟩
theorem lw_p11 : lw_okq (⟨"BreadGames", "sheetHindrance", "(I)I"⟩, 7) := ⟨⟨by decide +kernel, by decide +kernel⟩, List.mem_of_getElem? (i := 14) (by decide +kernel), List.mem_of_getElem? (i := 655) (by decide +kernel), List.mem_of_getElem? (i := 656) (by decide +kernel)⟩
theorem lw_p12 : lw_okq (⟨"BreadGamesModel", "finds", "(I)I"⟩, 17) := ⟨⟨by decide +kernel, by decide +kernel⟩, List.mem_of_getElem? (i := 710) (by decide +kernel), List.mem_of_getElem? (i := 780) (by decide +kernel), List.mem_of_getElem? (i := 781) (by decide +kernel)⟩
theorem lw_p13 : lw_okq (⟨"BreadGamesModel", "comes", "(IIIII)I"⟩, 17) := ⟨⟨by decide +kernel, by decide +kernel⟩, List.mem_of_getElem? (i := 710) (by decide +kernel), List.mem_of_getElem? (i := 785) (by decide +kernel), List.mem_of_getElem? (i := 786) (by decide +kernel)⟩
theorem lw_p14 : lw_okq (⟨"BreadGamesModel", "makes", "(III)V"⟩, 17) := ⟨⟨by decide +kernel, by decide +kernel⟩, List.mem_of_getElem? (i := 710) (by decide +kernel), List.mem_of_getElem? (i := 789) (by decide +kernel), List.mem_of_getElem? (i := 790) (by decide +kernel)⟩
theorem lw_p15 : lw_okq (⟨"BreadGamesModel", "isOne", "(I)Z"⟩, 17) := ⟨⟨by decide +kernel, by decide +kernel⟩, List.mem_of_getElem? (i := 710) (by decide +kernel), List.mem_of_getElem? (i := 797) (by decide +kernel), List.mem_of_getElem? (i := 798) (by decide +kernel)⟩
def lw_privs_1 : List (MethodName × Nat) := [(⟨"BreadGames", "finding", "(I)I"⟩, 7), (⟨"BreadGames", "hindrance", "(I)I"⟩, 7), (⟨"BreadGames", "leastCalmRuling", "(II)I"⟩, 7), (⟨"BreadGames", "isCalmWith", "(III)Z"⟩, 7), (⟨"BreadGames", "bestTrait", "(IIII)I"⟩, 7), (⟨"BreadGames", "waysThat", "(II)J"⟩, 7), (⟨"BreadGames", "isSo", "(III)Z"⟩, 7), (⟨"BreadGames", "readItem", "()Z"⟩, 7), (⟨"BreadGames", "readCitizen", "(I)Z"⟩, 7), (⟨"BreadGames", "readTrait", "(Ljava/lang/String;I)Z"⟩, 7), (⟨"BreadGames", "readRuling", "(I)Z"⟩, 7), (⟨"BreadGames", "sheetHindrance", "(I)I"⟩, 7), (⟨"BreadGamesModel", "finds", "(I)I"⟩, 17), (⟨"BreadGamesModel", "comes", "(IIIII)I"⟩, 17), (⟨"BreadGamesModel", "makes", "(III)V"⟩, 17), (⟨"BreadGamesModel", "isOne", "(I)Z"⟩, 17)]
theorem lw_r1 : ∀ q ∈ lw_privs_1, lw_okq q := List.forall_mem_cons.mpr ⟨lw_p0, List.forall_mem_cons.mpr ⟨lw_p1, List.forall_mem_cons.mpr ⟨lw_p2, List.forall_mem_cons.mpr ⟨lw_p3, List.forall_mem_cons.mpr ⟨lw_p4, List.forall_mem_cons.mpr ⟨lw_p5, List.forall_mem_cons.mpr ⟨lw_p6, List.forall_mem_cons.mpr ⟨lw_p7, List.forall_mem_cons.mpr ⟨lw_p8, List.forall_mem_cons.mpr ⟨lw_p9, List.forall_mem_cons.mpr ⟨lw_p10, List.forall_mem_cons.mpr ⟨lw_p11, List.forall_mem_cons.mpr ⟨lw_p12, List.forall_mem_cons.mpr ⟨lw_p13, List.forall_mem_cons.mpr ⟨lw_p14, List.forall_mem_cons.mpr ⟨lw_p15, fun _ h => absurd h List.not_mem_nil⟩⟩⟩⟩⟩⟩⟩⟩⟩⟩⟩⟩⟩⟩⟩⟩
theorem lw_p16 : lw_okq (⟨"BreadGamesModel", "is", "(II)I"⟩, 17) := ⟨⟨by decide +kernel, by decide +kernel⟩, List.mem_of_getElem? (i := 710) (by decide +kernel), List.mem_of_getElem? (i := 802) (by decide +kernel), List.mem_of_getElem? (i := 803) (by decide +kernel)⟩
theorem lw_p17 : lw_okq (⟨"BreadGamesModel", "loafWorth", "(I)I"⟩, 17) := ⟨⟨by decide +kernel, by decide +kernel⟩, List.mem_of_getElem? (i := 710) (by decide +kernel), List.mem_of_getElem? (i := 806) (by decide +kernel), List.mem_of_getElem? (i := 807) (by decide +kernel)⟩
theorem lw_p18 : lw_okq (⟨"BreadGamesModel", "seatWorth", "(I)I"⟩, 17) := ⟨⟨by decide +kernel, by decide +kernel⟩, List.mem_of_getElem? (i := 710) (by decide +kernel), List.mem_of_getElem? (i := 810) (by decide +kernel), List.mem_of_getElem? (i := 811) (by decide +kernel)⟩
theorem lw_p19 : lw_okq (⟨"BreadGamesModel", "becomes", "(II)I"⟩, 17) := ⟨⟨by decide +kernel, by decide +kernel⟩, List.mem_of_getElem? (i := 710) (by decide +kernel), List.mem_of_getElem? (i := 828) (by decide +kernel), List.mem_of_getElem? (i := 829) (by decide +kernel)⟩
theorem lw_p20 : lw_okq (⟨"BreadGamesModel", "with", "(I)I"⟩, 17) := ⟨⟨by decide +kernel, by decide +kernel⟩, List.mem_of_getElem? (i := 710) (by decide +kernel), List.mem_of_getElem? (i := 844) (by decide +kernel), List.mem_of_getElem? (i := 845) (by decide +kernel)⟩
theorem lw_p21 : lw_okq (⟨"BreadGamesModel", "hungry", "()I"⟩, 17) := ⟨⟨by decide +kernel, by decide +kernel⟩, List.mem_of_getElem? (i := 710) (by decide +kernel), List.mem_of_getElem? (i := 848) (by decide +kernel), List.mem_of_getElem? (i := 849) (by decide +kernel)⟩
theorem lw_p22 : lw_okq (⟨"BreadGamesModel", "cost", "()I"⟩, 17) := ⟨⟨by decide +kernel, by decide +kernel⟩, List.mem_of_getElem? (i := 710) (by decide +kernel), List.mem_of_getElem? (i := 852) (by decide +kernel), List.mem_of_getElem? (i := 853) (by decide +kernel)⟩
theorem lw_p23 : lw_okq (⟨"BreadGamesModel", "wantsOther", "(I)Z"⟩, 17) := ⟨⟨by decide +kernel, by decide +kernel⟩, List.mem_of_getElem? (i := 710) (by decide +kernel), List.mem_of_getElem? (i := 861) (by decide +kernel), List.mem_of_getElem? (i := 862) (by decide +kernel)⟩
theorem lw_p24 : lw_okq (⟨"BreadGamesModel", "changeTokens", "(II)V"⟩, 17) := ⟨⟨by decide +kernel, by decide +kernel⟩, List.mem_of_getElem? (i := 710) (by decide +kernel), List.mem_of_getElem? (i := 869) (by decide +kernel), List.mem_of_getElem? (i := 870) (by decide +kernel)⟩
theorem lw_p25 : lw_okq (⟨"BreadGamesModel", "opens", "()I"⟩, 17) := ⟨⟨by decide +kernel, by decide +kernel⟩, List.mem_of_getElem? (i := 710) (by decide +kernel), List.mem_of_getElem? (i := 877) (by decide +kernel), List.mem_of_getElem? (i := 878) (by decide +kernel)⟩
theorem lw_p26 : lw_okq (⟨"BreadGamesModel", "firstWanting", "(I)I"⟩, 17) := ⟨⟨by decide +kernel, by decide +kernel⟩, List.mem_of_getElem? (i := 710) (by decide +kernel), List.mem_of_getElem? (i := 881) (by decide +kernel), List.mem_of_getElem? (i := 882) (by decide +kernel)⟩
theorem lw_p27 : lw_okq (⟨"BreadGamesModel", "mayBuy", "(III)Z"⟩, 17) := ⟨⟨by decide +kernel, by decide +kernel⟩, List.mem_of_getElem? (i := 710) (by decide +kernel), List.mem_of_getElem? (i := 897) (by decide +kernel), List.mem_of_getElem? (i := 898) (by decide +kernel)⟩
theorem lw_p28 : lw_okq (⟨"BreadGamesModel", "worth", "(II)I"⟩, 17) := ⟨⟨by decide +kernel, by decide +kernel⟩, List.mem_of_getElem? (i := 710) (by decide +kernel), List.mem_of_getElem? (i := 901) (by decide +kernel), List.mem_of_getElem? (i := 902) (by decide +kernel)⟩
theorem lw_p29 : lw_okq (⟨"BreadGamesModel", "isLate", "(I)Z"⟩, 17) := ⟨⟨by decide +kernel, by decide +kernel⟩, List.mem_of_getElem? (i := 710) (by decide +kernel), List.mem_of_getElem? (i := 929) (by decide +kernel), List.mem_of_getElem? (i := 930) (by decide +kernel)⟩
theorem lw_p30 : lw_okq (⟨"BreadGamesModel", "goes", "(I)I"⟩, 17) := ⟨⟨by decide +kernel, by decide +kernel⟩, List.mem_of_getElem? (i := 710) (by decide +kernel), List.mem_of_getElem? (i := 933) (by decide +kernel), List.mem_of_getElem? (i := 934) (by decide +kernel)⟩
theorem lw_p31 : lw_okq (⟨"BreadGamesModel", "aWeek", "()I"⟩, 17) := ⟨⟨by decide +kernel, by decide +kernel⟩, List.mem_of_getElem? (i := 710) (by decide +kernel), List.mem_of_getElem? (i := 937) (by decide +kernel), List.mem_of_getElem? (i := 938) (by decide +kernel)⟩
def lw_privs_2 : List (MethodName × Nat) := [(⟨"BreadGamesModel", "is", "(II)I"⟩, 17), (⟨"BreadGamesModel", "loafWorth", "(I)I"⟩, 17), (⟨"BreadGamesModel", "seatWorth", "(I)I"⟩, 17), (⟨"BreadGamesModel", "becomes", "(II)I"⟩, 17), (⟨"BreadGamesModel", "with", "(I)I"⟩, 17), (⟨"BreadGamesModel", "hungry", "()I"⟩, 17), (⟨"BreadGamesModel", "cost", "()I"⟩, 17), (⟨"BreadGamesModel", "wantsOther", "(I)Z"⟩, 17), (⟨"BreadGamesModel", "changeTokens", "(II)V"⟩, 17), (⟨"BreadGamesModel", "opens", "()I"⟩, 17), (⟨"BreadGamesModel", "firstWanting", "(I)I"⟩, 17), (⟨"BreadGamesModel", "mayBuy", "(III)Z"⟩, 17), (⟨"BreadGamesModel", "worth", "(II)I"⟩, 17), (⟨"BreadGamesModel", "isLate", "(I)Z"⟩, 17), (⟨"BreadGamesModel", "goes", "(I)I"⟩, 17), (⟨"BreadGamesModel", "aWeek", "()I"⟩, 17)]
theorem lw_r2 : ∀ q ∈ lw_privs_2, lw_okq q := List.forall_mem_cons.mpr ⟨lw_p16, List.forall_mem_cons.mpr ⟨lw_p17, List.forall_mem_cons.mpr ⟨lw_p18, List.forall_mem_cons.mpr ⟨lw_p19, List.forall_mem_cons.mpr ⟨lw_p20, List.forall_mem_cons.mpr ⟨lw_p21, List.forall_mem_cons.mpr ⟨lw_p22, List.forall_mem_cons.mpr ⟨lw_p23, List.forall_mem_cons.mpr ⟨lw_p24, List.forall_mem_cons.mpr ⟨lw_p25, List.forall_mem_cons.mpr ⟨lw_p26, List.forall_mem_cons.mpr ⟨lw_p27, List.forall_mem_cons.mpr ⟨lw_p28, List.forall_mem_cons.mpr ⟨lw_p29, List.forall_mem_cons.mpr ⟨lw_p30, List.forall_mem_cons.mpr ⟨lw_p31, fun _ h => absurd h List.not_mem_nil⟩⟩⟩⟩⟩⟩⟩⟩⟩⟩⟩⟩⟩⟩⟩⟩
theorem lw_p32 : lw_okq (⟨"BreadGamesModel", "drawsTokens", "()V"⟩, 17) := ⟨⟨by decide +kernel, by decide +kernel⟩, List.mem_of_getElem? (i := 710) (by decide +kernel), List.mem_of_getElem? (i := 941) (by decide +kernel), List.mem_of_getElem? (i := 942) (by decide +kernel)⟩
theorem lw_p33 : lw_okq (⟨"BreadGamesModel", "draw", "()I"⟩, 17) := ⟨⟨by decide +kernel, by decide +kernel⟩, List.mem_of_getElem? (i := 710) (by decide +kernel), List.mem_of_getElem? (i := 945) (by decide +kernel), List.mem_of_getElem? (i := 946) (by decide +kernel)⟩
theorem lw_p34 : lw_okq (⟨"BreadGamesModel", "eatAndSee", "()V"⟩, 17) := ⟨⟨by decide +kernel, by decide +kernel⟩, List.mem_of_getElem? (i := 710) (by decide +kernel), List.mem_of_getElem? (i := 950) (by decide +kernel), List.mem_of_getElem? (i := 951) (by decide +kernel)⟩
theorem lw_p35 : lw_okq (⟨"BreadGamesModel", "sum", "(I)I"⟩, 17) := ⟨⟨by decide +kernel, by decide +kernel⟩, List.mem_of_getElem? (i := 710) (by decide +kernel), List.mem_of_getElem? (i := 958) (by decide +kernel), List.mem_of_getElem? (i := 959) (by decide +kernel)⟩
theorem lw_p36 : lw_okq (⟨"BreadGamesModel", "orNone", "(I)I"⟩, 17) := ⟨⟨by decide +kernel, by decide +kernel⟩, List.mem_of_getElem? (i := 710) (by decide +kernel), List.mem_of_getElem? (i := 966) (by decide +kernel), List.mem_of_getElem? (i := 967) (by decide +kernel)⟩
theorem lw_p37 : lw_okq (⟨"BreadGamesModel", "tries", "(III)I"⟩, 17) := ⟨⟨by decide +kernel, by decide +kernel⟩, List.mem_of_getElem? (i := 710) (by decide +kernel), List.mem_of_getElem? (i := 978) (by decide +kernel), List.mem_of_getElem? (i := 979) (by decide +kernel)⟩
theorem lw_p38 : lw_okq (⟨"BreadGamesModel", "ofThen", "(IIIII)I"⟩, 17) := ⟨⟨by decide +kernel, by decide +kernel⟩, List.mem_of_getElem? (i := 710) (by decide +kernel), List.mem_of_getElem? (i := 994) (by decide +kernel), List.mem_of_getElem? (i := 995) (by decide +kernel)⟩
theorem lw_p39 : lw_okq (⟨"BreadGamesModel", "drawing", "()I"⟩, 17) := ⟨⟨by decide +kernel, by decide +kernel⟩, List.mem_of_getElem? (i := 710) (by decide +kernel), List.mem_of_getElem? (i := 1018) (by decide +kernel), List.mem_of_getElem? (i := 1019) (by decide +kernel)⟩
theorem lw_p40 : lw_okq (⟨"BreadGamesModel", "isWay", "(I)Z"⟩, 17) := ⟨⟨by decide +kernel, by decide +kernel⟩, List.mem_of_getElem? (i := 710) (by decide +kernel), List.mem_of_getElem? (i := 1022) (by decide +kernel), List.mem_of_getElem? (i := 1023) (by decide +kernel)⟩
theorem lw_p41 : lw_okq (⟨"BreadGamesModel", "lies", "(I)V"⟩, 17) := ⟨⟨by decide +kernel, by decide +kernel⟩, List.mem_of_getElem? (i := 710) (by decide +kernel), List.mem_of_getElem? (i := 1030) (by decide +kernel), List.mem_of_getElem? (i := 1031) (by decide +kernel)⟩
theorem lw_p42 : lw_okq (⟨"BreadGamesModel", "token", "()V"⟩, 17) := ⟨⟨by decide +kernel, by decide +kernel⟩, List.mem_of_getElem? (i := 710) (by decide +kernel), List.mem_of_getElem? (i := 1061) (by decide +kernel), List.mem_of_getElem? (i := 1062) (by decide +kernel)⟩
theorem lw_p43 : lw_okq (⟨"BreadGamesModel", "isByte", "(III)Z"⟩, 17) := ⟨⟨by decide +kernel, by decide +kernel⟩, List.mem_of_getElem? (i := 710) (by decide +kernel), List.mem_of_getElem? (i := 1065) (by decide +kernel), List.mem_of_getElem? (i := 1066) (by decide +kernel)⟩
theorem lw_p44 : lw_okq (⟨"BreadGamesModel", "item", "()V"⟩, 17) := ⟨⟨by decide +kernel, by decide +kernel⟩, List.mem_of_getElem? (i := 710) (by decide +kernel), List.mem_of_getElem? (i := 1069) (by decide +kernel), List.mem_of_getElem? (i := 1070) (by decide +kernel)⟩
theorem lw_p45 : lw_okq (⟨"BreadGamesModel", "kindHere", "()I"⟩, 17) := ⟨⟨by decide +kernel, by decide +kernel⟩, List.mem_of_getElem? (i := 710) (by decide +kernel), List.mem_of_getElem? (i := 1073) (by decide +kernel), List.mem_of_getElem? (i := 1074) (by decide +kernel)⟩
theorem lw_p46 : lw_okq (⟨"BreadGamesModel", "isWord", "(Ljava/lang/String;)Z"⟩, 17) := ⟨⟨by decide +kernel, by decide +kernel⟩, List.mem_of_getElem? (i := 710) (by decide +kernel), List.mem_of_getElem? (i := 1078) (by decide +kernel), List.mem_of_getElem? (i := 1079) (by decide +kernel)⟩
theorem lw_p47 : lw_okq (⟨"BreadGamesModel", "citizenItem", "(I)V"⟩, 17) := ⟨⟨by decide +kernel, by decide +kernel⟩, List.mem_of_getElem? (i := 710) (by decide +kernel), List.mem_of_getElem? (i := 1090) (by decide +kernel), List.mem_of_getElem? (i := 1091) (by decide +kernel)⟩
def lw_privs_3 : List (MethodName × Nat) := [(⟨"BreadGamesModel", "drawsTokens", "()V"⟩, 17), (⟨"BreadGamesModel", "draw", "()I"⟩, 17), (⟨"BreadGamesModel", "eatAndSee", "()V"⟩, 17), (⟨"BreadGamesModel", "sum", "(I)I"⟩, 17), (⟨"BreadGamesModel", "orNone", "(I)I"⟩, 17), (⟨"BreadGamesModel", "tries", "(III)I"⟩, 17), (⟨"BreadGamesModel", "ofThen", "(IIIII)I"⟩, 17), (⟨"BreadGamesModel", "drawing", "()I"⟩, 17), (⟨"BreadGamesModel", "isWay", "(I)Z"⟩, 17), (⟨"BreadGamesModel", "lies", "(I)V"⟩, 17), (⟨"BreadGamesModel", "token", "()V"⟩, 17), (⟨"BreadGamesModel", "isByte", "(III)Z"⟩, 17), (⟨"BreadGamesModel", "item", "()V"⟩, 17), (⟨"BreadGamesModel", "kindHere", "()I"⟩, 17), (⟨"BreadGamesModel", "isWord", "(Ljava/lang/String;)Z"⟩, 17), (⟨"BreadGamesModel", "citizenItem", "(I)V"⟩, 17)]
theorem lw_r3 : ∀ q ∈ lw_privs_3, lw_okq q := List.forall_mem_cons.mpr ⟨lw_p32, List.forall_mem_cons.mpr ⟨lw_p33, List.forall_mem_cons.mpr ⟨lw_p34, List.forall_mem_cons.mpr ⟨lw_p35, List.forall_mem_cons.mpr ⟨lw_p36, List.forall_mem_cons.mpr ⟨lw_p37, List.forall_mem_cons.mpr ⟨lw_p38, List.forall_mem_cons.mpr ⟨lw_p39, List.forall_mem_cons.mpr ⟨lw_p40, List.forall_mem_cons.mpr ⟨lw_p41, List.forall_mem_cons.mpr ⟨lw_p42, List.forall_mem_cons.mpr ⟨lw_p43, List.forall_mem_cons.mpr ⟨lw_p44, List.forall_mem_cons.mpr ⟨lw_p45, List.forall_mem_cons.mpr ⟨lw_p46, List.forall_mem_cons.mpr ⟨lw_p47, fun _ h => absurd h List.not_mem_nil⟩⟩⟩⟩⟩⟩⟩⟩⟩⟩⟩⟩⟩⟩⟩⟩
theorem lw_p48 : lw_okq (⟨"BreadGamesModel", "takes", "(Ljava/lang/String;)Z"⟩, 17) := ⟨⟨by decide +kernel, by decide +kernel⟩, List.mem_of_getElem? (i := 710) (by decide +kernel), List.mem_of_getElem? (i := 1095) (by decide +kernel), List.mem_of_getElem? (i := 1096) (by decide +kernel)⟩
theorem lw_p49 : lw_okq (⟨"BreadGamesModel", "number", "(II)I"⟩, 17) := ⟨⟨by decide +kernel, by decide +kernel⟩, List.mem_of_getElem? (i := 710) (by decide +kernel), List.mem_of_getElem? (i := 1099) (by decide +kernel), List.mem_of_getElem? (i := 1100) (by decide +kernel)⟩
theorem lw_p50 : lw_okq (⟨"BreadGamesModel", "ruleHere", "()I"⟩, 17) := ⟨⟨by decide +kernel, by decide +kernel⟩, List.mem_of_getElem? (i := 710) (by decide +kernel), List.mem_of_getElem? (i := 1109) (by decide +kernel), List.mem_of_getElem? (i := 1110) (by decide +kernel)⟩
theorem lw_p51 : lw_okq (⟨"BreadGamesModel", "ruleItem", "(I)V"⟩, 17) := ⟨⟨by decide +kernel, by decide +kernel⟩, List.mem_of_getElem? (i := 710) (by decide +kernel), List.mem_of_getElem? (i := 1117) (by decide +kernel), List.mem_of_getElem? (i := 1118) (by decide +kernel)⟩
theorem lw_p52 : lw_okq (⟨"BreadGamesModel", "isSign", "(I)Z"⟩, 17) := ⟨⟨by decide +kernel, by decide +kernel⟩, List.mem_of_getElem? (i := 710) (by decide +kernel), List.mem_of_getElem? (i := 1121) (by decide +kernel), List.mem_of_getElem? (i := 1122) (by decide +kernel)⟩
theorem lw_p53 : lw_okq (⟨"BreadGamesModel", "holding", "()I"⟩, 17) := ⟨⟨by decide +kernel, by decide +kernel⟩, List.mem_of_getElem? (i := 710) (by decide +kernel), List.mem_of_getElem? (i := 1182) (by decide +kernel), List.mem_of_getElem? (i := 1183) (by decide +kernel)⟩
def lw_privs_4 : List (MethodName × Nat) := [(⟨"BreadGamesModel", "takes", "(Ljava/lang/String;)Z"⟩, 17), (⟨"BreadGamesModel", "number", "(II)I"⟩, 17), (⟨"BreadGamesModel", "ruleHere", "()I"⟩, 17), (⟨"BreadGamesModel", "ruleItem", "(I)V"⟩, 17), (⟨"BreadGamesModel", "isSign", "(I)Z"⟩, 17), (⟨"BreadGamesModel", "holding", "()I"⟩, 17)]
theorem lw_r4 : ∀ q ∈ lw_privs_4, lw_okq q := List.forall_mem_cons.mpr ⟨lw_p48, List.forall_mem_cons.mpr ⟨lw_p49, List.forall_mem_cons.mpr ⟨lw_p50, List.forall_mem_cons.mpr ⟨lw_p51, List.forall_mem_cons.mpr ⟨lw_p52, List.forall_mem_cons.mpr ⟨lw_p53, fun _ h => absurd h List.not_mem_nil⟩⟩⟩⟩⟩⟩
def lw_privs : List (MethodName × Nat) := lw_privs_1 ++ (lw_privs_2 ++ (lw_privs_3 ++ (lw_privs_4)))
def lw_tbl : List Cond := k2_sels lw_privs ++ tables_1
theorem lw_privs_ok : ∀ q ∈ lw_privs, lw_okq q := by
  show ∀ q ∈ lw_privs_1 ++ (lw_privs_2 ++ (lw_privs_3 ++ (lw_privs_4))), lw_okq q
  exact List.forall_mem_append.mpr ⟨lw_r1, List.forall_mem_append.mpr ⟨lw_r2, List.forall_mem_append.mpr ⟨lw_r3, lw_r4⟩⟩⟩

def RX0 : String := "BreadGames$City"
def TX0 : u_T := fun k => match k with
  | 0 => ("BreadGames$City", "kind", "[I", true)
  | 1 => ("BreadGames$City", "hunger", "[I", true)
  | 2 => ("BreadGames$City", "colour", "[I", true)
  | 3 => ("BreadGames$City", "coin", "[I", true)
  | 4 => ("BreadGames$City", "joy", "[I", true)
  | 5 => ("BreadGames$City", "token", "[I", true)
  | 6 => ("BreadGames$City", "spot", "[I", true)
  | 7 => ("BreadGames$City", "people", "I", false)
  | 8 => ("BreadGames$City", "leads", "I", false)
  | 9 => ("BreadGames$City", "loaves", "I", false)
  | 10 => ("BreadGames$City", "seats", "I", false)
  | 11 => ("BreadGames$City", "bound", "I", false)
  | 12 => ("BreadGames$City", "stale", "I", false)
  | 13 => ("BreadGames$City", "week", "I", false)
  | 14 => ("BreadGames$City", "riots", "I", false)
  | _ => ("BreadGames$City", "z", "I", false)
def tyX0 : Nat → FieldType := fun k => match k with
  | 0 => .array .int
  | 1 => .array .int
  | 2 => .array .int
  | 3 => .array .int
  | 4 => .array .int
  | 5 => .array .int
  | 6 => .array .int
  | 7 => .int
  | 8 => .int
  | 9 => .int
  | 10 => .int
  | 11 => .int
  | 12 => .int
  | 13 => .int
  | 14 => .int
  | _ => .int
theorem nmX0 : ∀ a, a < 16 → ∀ b, b < 16 → a ≠ b → (TX0 a).2.1 ≠ (TX0 b).2.1 := by decide +kernel
theorem tyX0_ok : ∀ k, k < 16 → parseFieldDescriptor (TX0 k).2.2.1 = some (tyX0 k) := by decide +kernel
abbrev cX0_init : ByteArray := prog_2_method_1_code
def yX0_init : MethodName := ⟨RX0, "<init>", "()V"⟩
abbrev cX0_become : ByteArray := prog_2_method_2_code
def yX0_become : MethodName := ⟨RX0, "become", "(LBreadGames$City;)V"⟩
abbrev cX0_houses : ByteArray := prog_2_method_3_code
def yX0_houses : MethodName := ⟨RX0, "houses", "(I)Z"⟩
abbrev cX0_settle : ByteArray := prog_2_method_4_code
def yX0_settle : MethodName := ⟨RX0, "settle", "(I)V"⟩
abbrev cX0_hasTrait : ByteArray := prog_2_method_5_code
def yX0_hasTrait : MethodName := ⟨RX0, "hasTrait", "(I)Z"⟩
abbrev cX0_allowsTrait : ByteArray := prog_2_method_6_code
def yX0_allowsTrait : MethodName := ⟨RX0, "allowsTrait", "(II)Z"⟩
abbrev cX0_trait : ByteArray := prog_2_method_7_code
def yX0_trait : MethodName := ⟨RX0, "trait", "(II)I"⟩
abbrev cX0_setTrait : ByteArray := prog_2_method_8_code
def yX0_setTrait : MethodName := ⟨RX0, "setTrait", "(III)V"⟩
abbrev cX0_allowsRule : ByteArray := prog_2_method_9_code
def yX0_allowsRule : MethodName := ⟨RX0, "allowsRule", "(II)Z"⟩
abbrev cX0_ruling : ByteArray := prog_2_method_10_code
def yX0_ruling : MethodName := ⟨RX0, "ruling", "(I)I"⟩
abbrev cX0_setRuling : ByteArray := prog_2_method_11_code
def yX0_setRuling : MethodName := ⟨RX0, "setRuling", "(II)V"⟩
abbrev cX0_holders : ByteArray := prog_2_method_12_code
def yX0_holders : MethodName := ⟨RX0, "holders", "(I)I"⟩
abbrev cX0_starving : ByteArray := prog_2_method_13_code
def yX0_starving : MethodName := ⟨RX0, "starving", "()I"⟩
abbrev cX0_allOf : ByteArray := prog_2_method_14_code
def yX0_allOf : MethodName := ⟨RX0, "allOf", "([I)I"⟩
abbrev cX0_heldSpots : ByteArray := prog_2_method_15_code
def yX0_heldSpots : MethodName := ⟨RX0, "heldSpots", "()I"⟩
abbrev cX0_loafWorth : ByteArray := prog_2_method_16_code
def yX0_loafWorth : MethodName := ⟨RX0, "loafWorth", "(I)I"⟩
abbrev cX0_seatWorth : ByteArray := prog_2_method_17_code
def yX0_seatWorth : MethodName := ⟨RX0, "seatWorth", "(I)I"⟩
abbrev cX0_tokenWorth : ByteArray := prog_2_method_18_code
def yX0_tokenWorth : MethodName := ⟨RX0, "tokenWorth", "(II)I"⟩
abbrev cX0_wantsOther : ByteArray := prog_2_method_19_code
def yX0_wantsOther : MethodName := ⟨RX0, "wantsOther", "(I)Z"⟩
abbrev cX0_exchange : ByteArray := prog_2_method_20_code
def yX0_exchange : MethodName := ⟨RX0, "exchange", "(II)V"⟩
abbrev cX0_openGates : ByteArray := prog_2_method_21_code
def yX0_openGates : MethodName := ⟨RX0, "openGates", "()I"⟩
abbrev cX0_wouldTrade : ByteArray := prog_2_method_22_code
def yX0_wouldTrade : MethodName := ⟨RX0, "wouldTrade", "(III)Z"⟩
abbrev cX0_trade : ByteArray := prog_2_method_23_code
def yX0_trade : MethodName := ⟨RX0, "trade", "(III)V"⟩
abbrev cX0_allWorth : ByteArray := prog_2_method_24_code
def yX0_allWorth : MethodName := ⟨RX0, "allWorth", "()I"⟩
abbrev cX0_bestWorth : ByteArray := prog_2_method_25_code
def yX0_bestWorth : MethodName := ⟨RX0, "bestWorth", "()I"⟩
abbrev cX0_keenestOnLoaf : ByteArray := prog_2_method_26_code
def yX0_keenestOnLoaf : MethodName := ⟨RX0, "keenestOnLoaf", "(I)I"⟩
abbrev cX0_preferLoafAt : ByteArray := prog_2_method_27_code
def yX0_preferLoafAt : MethodName := ⟨RX0, "preferLoafAt", "(I)I"⟩
abbrev cX0_draw : ByteArray := prog_2_method_28_code
def yX0_draw : MethodName := ⟨RX0, "draw", "()I"⟩
abbrev cX0_drawTokens : ByteArray := prog_2_method_29_code
def yX0_drawTokens : MethodName := ⟨RX0, "drawTokens", "()V"⟩
abbrev cX0_eatAndSee : ByteArray := prog_2_method_30_code
def yX0_eatAndSee : MethodName := ⟨RX0, "eatAndSee", "()V"⟩
abbrev cX0_maybeRiot : ByteArray := prog_2_method_31_code
def yX0_maybeRiot : MethodName := ⟨RX0, "maybeRiot", "()V"⟩
abbrev cX0_passWeek : ByteArray := prog_2_method_32_code
def yX0_passWeek : MethodName := ⟨RX0, "passWeek", "()I"⟩
abbrev cX0_passWeeks : ByteArray := prog_2_method_33_code
def yX0_passWeeks : MethodName := ⟨RX0, "passWeeks", "(I)I"⟩
abbrev cX0_calmWeeks : ByteArray := prog_2_method_34_code
def yX0_calmWeeks : MethodName := ⟨RX0, "calmWeeks", "(I)I"⟩
abbrev cX0_drawers : ByteArray := prog_2_method_35_code
def yX0_drawers : MethodName := ⟨RX0, "drawers", "()I"⟩
abbrev cX0_canDeal : ByteArray := prog_2_method_36_code
def yX0_canDeal : MethodName := ⟨RX0, "canDeal", "(I)Z"⟩
abbrev cX0_deal : ByteArray := prog_2_method_37_code
def yX0_deal : MethodName := ⟨RX0, "deal", "(I)V"⟩
abbrev cX0_fits : ByteArray := prog_2_method_38_code
def yX0_fits : MethodName := ⟨RX0, "fits", "(LBreadGames$Sheet;)Z"⟩
abbrev cX0_strike : ByteArray := prog_2_method_39_code
def yX0_strike : MethodName := ⟨RX0, "strike", "()V"⟩
def RX1 : String := "BreadGames$Sheet"
def TX1 : u_T := fun k => match k with
  | 0 => ("BreadGames$Sheet", "numbers", "[I", true)
  | 1 => ("BreadGames$Sheet", "bits", "I", false)
  | _ => ("BreadGames$Sheet", "size", "I", false)
def tyX1 : Nat → FieldType := fun k => match k with
  | 0 => .array .int
  | 1 => .int
  | _ => .int
theorem nmX1 : ∀ a, a < 3 → ∀ b, b < 3 → a ≠ b → (TX1 a).2.1 ≠ (TX1 b).2.1 := by decide +kernel
theorem tyX1_ok : ∀ k, k < 3 → parseFieldDescriptor (TX1 k).2.2.1 = some (tyX1 k) := by decide +kernel
abbrev cX1_init : ByteArray := prog_3_method_1_code
def yX1_init : MethodName := ⟨RX1, "<init>", "()V"⟩
abbrev cX1_renew : ByteArray := prog_3_method_2_code
def yX1_renew : MethodName := ⟨RX1, "renew", "(II)V"⟩
abbrev cX1_put : ByteArray := prog_3_method_3_code
def yX1_put : MethodName := ⟨RX1, "put", "(II)V"⟩
abbrev cX1_spans : ByteArray := prog_3_method_4_code
def yX1_spans : MethodName := ⟨RX1, "spans", "(II)Z"⟩
def RX2 : String := "BreadGames$Tape"
def TX2 : u_T := fun k => match k with
  | 0 => ("BreadGames$Tape", "bytes", "[I", true)
  | 1 => ("BreadGames$Tape", "length", "I", false)
  | 2 => ("BreadGames$Tape", "start", "I", false)
  | 3 => ("BreadGames$Tape", "end", "I", false)
  | 4 => ("BreadGames$Tape", "sort", "I", false)
  | _ => ("BreadGames$Tape", "value", "I", false)
def tyX2 : Nat → FieldType := fun k => match k with
  | 0 => .array .int
  | 1 => .int
  | 2 => .int
  | 3 => .int
  | 4 => .int
  | _ => .int
theorem nmX2 : ∀ a, a < 6 → ∀ b, b < 6 → a ≠ b → (TX2 a).2.1 ≠ (TX2 b).2.1 := by decide +kernel
theorem tyX2_ok : ∀ k, k < 6 → parseFieldDescriptor (TX2 k).2.2.1 = some (tyX2 k) := by decide +kernel
abbrev cX2_init : ByteArray := prog_4_method_1_code
def yX2_init : MethodName := ⟨RX2, "<init>", "()V"⟩
abbrev cX2_append : ByteArray := prog_4_method_2_code
def yX2_append : MethodName := ⟨RX2, "append", "(I)V"⟩
abbrev cX2_rewind : ByteArray := prog_4_method_3_code
def yX2_rewind : MethodName := ⟨RX2, "rewind", "()V"⟩
abbrev cX2_advance : ByteArray := prog_4_method_4_code
def yX2_advance : MethodName := ⟨RX2, "advance", "()V"⟩
abbrev cX2_readWord : ByteArray := prog_4_method_5_code
def yX2_readWord : MethodName := ⟨RX2, "readWord", "()V"⟩
abbrev cX2_readNumber : ByteArray := prog_4_method_6_code
def yX2_readNumber : MethodName := ⟨RX2, "readNumber", "()V"⟩
abbrev cX2_isLetter : ByteArray := prog_4_method_7_code
def yX2_isLetter : MethodName := ⟨RX2, "isLetter", "(I)Z"⟩
abbrev cX2_isDigit : ByteArray := prog_4_method_8_code
def yX2_isDigit : MethodName := ⟨RX2, "isDigit", "(I)Z"⟩
abbrev cX2_isWord : ByteArray := prog_4_method_9_code
def yX2_isWord : MethodName := ⟨RX2, "isWord", "(Ljava/lang/String;)Z"⟩
abbrev cX2_kindTold : ByteArray := prog_4_method_10_code
def yX2_kindTold : MethodName := ⟨RX2, "kindTold", "()I"⟩
abbrev cX2_kindWord : ByteArray := prog_4_method_11_code
def yX2_kindWord : MethodName := ⟨RX2, "kindWord", "(I)Ljava/lang/String;"⟩
def RX3 : String := "BreadGames"
def TX3 : u_T := fun k => match k with
  | 0 => ("BreadGames", "city", "LBreadGames$City;", true)
  | 1 => ("BreadGames", "trial", "LBreadGames$City;", true)
  | 2 => ("BreadGames", "kept", "LBreadGames$City;", true)
  | 3 => ("BreadGames", "tape", "LBreadGames$Tape;", true)
  | 4 => ("BreadGames", "sheets", "[LBreadGames$Sheet;", true)
  | 5 => ("BreadGames", "found", "[I", true)
  | _ => ("BreadGames", "keeps", "Z", false)
def tyX3 : Nat → FieldType := fun k => match k with
  | 0 => .object "BreadGames$City"
  | 1 => .object "BreadGames$City"
  | 2 => .object "BreadGames$City"
  | 3 => .object "BreadGames$Tape"
  | 4 => .array (.object "BreadGames$Sheet")
  | 5 => .array .int
  | _ => .boolean
theorem nmX3 : ∀ a, a < 7 → ∀ b, b < 7 → a ≠ b → (TX3 a).2.1 ≠ (TX3 b).2.1 := by decide +kernel
theorem tyX3_ok : ∀ k, k < 7 → parseFieldDescriptor (TX3 k).2.2.1 = some (tyX3 k) := by decide +kernel
abbrev cX3_init : ByteArray := prog_1_method_1_code
def yX3_init : MethodName := ⟨RX3, "<init>", "()V"⟩
abbrev cX3_citizen : ByteArray := prog_1_method_2_code
def yX3_citizen : MethodName := ⟨RX3, "citizen", "(I)I"⟩
abbrev cX3_of : ByteArray := prog_1_method_3_code
def yX3_of : MethodName := ⟨RX3, "of", "(II)I"⟩
abbrev cX3_change : ByteArray := prog_1_method_4_code
def yX3_change : MethodName := ⟨RX3, "change", "(III)I"⟩
abbrev cX3_rule : ByteArray := prog_1_method_5_code
def yX3_rule : MethodName := ⟨RX3, "rule", "(II)I"⟩
abbrev cX3_now : ByteArray := prog_1_method_6_code
def yX3_now : MethodName := ⟨RX3, "now", "(I)I"⟩
abbrev cX3_wants : ByteArray := prog_1_method_7_code
def yX3_wants : MethodName := ⟨RX3, "wants", "(I)I"⟩
abbrev cX3_swap : ByteArray := prog_1_method_8_code
def yX3_swap : MethodName := ⟨RX3, "swap", "(II)I"⟩
abbrev cX3_gates : ByteArray := prog_1_method_9_code
def yX3_gates : MethodName := ⟨RX3, "gates", "()I"⟩
abbrev cX3_changes : ByteArray := prog_1_method_10_code
def yX3_changes : MethodName := ⟨RX3, "changes", "()I"⟩
abbrev cX3_buy : ByteArray := prog_1_method_11_code
def yX3_buy : MethodName := ⟨RX3, "buy", "(III)I"⟩
abbrev cX3_welfare : ByteArray := prog_1_method_12_code
def yX3_welfare : MethodName := ⟨RX3, "welfare", "()I"⟩
abbrev cX3_most : ByteArray := prog_1_method_13_code
def yX3_most : MethodName := ⟨RX3, "most", "()I"⟩
abbrev cX3_price : ByteArray := prog_1_method_14_code
def yX3_price : MethodName := ⟨RX3, "price", "()I"⟩
abbrev cX3_weeks : ByteArray := prog_1_method_15_code
def yX3_weeks : MethodName := ⟨RX3, "weeks", "(I)I"⟩
abbrev cX3_ahead : ByteArray := prog_1_method_16_code
def yX3_ahead : MethodName := ⟨RX3, "ahead", "(II)I"⟩
abbrev cX3_riot : ByteArray := prog_1_method_17_code
def yX3_riot : MethodName := ⟨RX3, "riot", "()I"⟩
abbrev cX3_next : ByteArray := prog_1_method_18_code
def yX3_next : MethodName := ⟨RX3, "next", "(I)I"⟩
abbrev cX3_loaves : ByteArray := prog_1_method_19_code
def yX3_loaves : MethodName := ⟨RX3, "loaves", "(I)I"⟩
abbrev cX3_cheapest : ByteArray := prog_1_method_20_code
def yX3_cheapest : MethodName := ⟨RX3, "cheapest", "(I)I"⟩
abbrev cX3_leader : ByteArray := prog_1_method_21_code
def yX3_leader : MethodName := ⟨RX3, "leader", "(I)I"⟩
abbrev cX3_colourFor : ByteArray := prog_1_method_22_code
def yX3_colourFor : MethodName := ⟨RX3, "colourFor", "(II)I"⟩
abbrev cX3_kindFor : ByteArray := prog_1_method_23_code
def yX3_kindFor : MethodName := ⟨RX3, "kindFor", "(II)I"⟩
abbrev cX3_stale : ByteArray := prog_1_method_24_code
def yX3_stale : MethodName := ⟨RX3, "stale", "(I)I"⟩
abbrev cX3_bound : ByteArray := prog_1_method_25_code
def yX3_bound : MethodName := ⟨RX3, "bound", "(I)I"⟩
abbrev cX3_law : ByteArray := prog_1_method_26_code
def yX3_law : MethodName := ⟨RX3, "law", "(II)I"⟩
abbrev cX3_ways : ByteArray := prog_1_method_27_code
def yX3_ways : MethodName := ⟨RX3, "ways", "()J"⟩
abbrev cX3_eats : ByteArray := prog_1_method_28_code
def yX3_eats : MethodName := ⟨RX3, "eats", "(I)J"⟩
abbrev cX3_busy : ByteArray := prog_1_method_29_code
def yX3_busy : MethodName := ⟨RX3, "busy", "(I)J"⟩
abbrev cX3_famine : ByteArray := prog_1_method_30_code
def yX3_famine : MethodName := ⟨RX3, "famine", "(I)I"⟩
abbrev cX3_seed : ByteArray := prog_1_method_31_code
def yX3_seed : MethodName := ⟨RX3, "seed", "(I)I"⟩
abbrev cX3_feed : ByteArray := prog_1_method_32_code
def yX3_feed : MethodName := ⟨RX3, "feed", "(II)I"⟩
abbrev cX3_wipe : ByteArray := prog_1_method_33_code
def yX3_wipe : MethodName := ⟨RX3, "wipe", "()I"⟩
abbrev cX3_text : ByteArray := prog_1_method_34_code
def yX3_text : MethodName := ⟨RX3, "text", "()I"⟩
abbrev cX3_hold : ByteArray := prog_1_method_35_code
def yX3_hold : MethodName := ⟨RX3, "hold", "(II)I"⟩
abbrev cX3_as : ByteArray := prog_1_method_36_code
def yX3_as : MethodName := ⟨RX3, "as", "(II)I"⟩
abbrev cX3_sheet : ByteArray := prog_1_method_37_code
def yX3_sheet : MethodName := ⟨RX3, "sheet", "(III)I"⟩
abbrev cX3_write : ByteArray := prog_1_method_38_code
def yX3_write : MethodName := ⟨RX3, "write", "(III)I"⟩
abbrev cX3_copy : ByteArray := prog_1_method_39_code
def yX3_copy : MethodName := ⟨RX3, "copy", "(IIIII)I"⟩
abbrev cX3_load : ByteArray := prog_1_method_40_code
def yX3_load : MethodName := ⟨RX3, "load", "(I)I"⟩
abbrev cX3_tally : ByteArray := prog_1_method_41_code
def yX3_tally : MethodName := ⟨RX3, "tally", "(I)J"⟩
abbrev cX3_judge : ByteArray := prog_1_method_42_code
def yX3_judge : MethodName := ⟨RX3, "judge", "(I)I"⟩
abbrev cX3_image : ByteArray := prog_1_method_43_code
def yX3_image : MethodName := ⟨RX3, "image", "()I"⟩
abbrev cX3_undo : ByteArray := prog_1_method_44_code
def yX3_undo : MethodName := ⟨RX3, "undo", "()I"⟩
abbrev cX3_tear : ByteArray := prog_1_method_45_code
def yX3_tear : MethodName := ⟨RX3, "tear", "()I"⟩
abbrev cX3_count : ByteArray := prog_1_method_46_code
def yX3_count : MethodName := ⟨RX3, "count", "(I)I"⟩
abbrev cX3_status : ByteArray := prog_1_method_47_code
def yX3_status : MethodName := ⟨RX3, "status", "(I)I"⟩
abbrev cX3_finding : ByteArray := prog_1_method_48_code
def yX3_finding : MethodName := ⟨RX3, "finding", "(I)I"⟩
abbrev cX3_hindrance : ByteArray := prog_1_method_49_code
def yX3_hindrance : MethodName := ⟨RX3, "hindrance", "(I)I"⟩
abbrev cX3_sheetHindrance : ByteArray := prog_1_method_50_code
def yX3_sheetHindrance : MethodName := ⟨RX3, "sheetHindrance", "(I)I"⟩
abbrev cX3_isKind : ByteArray := prog_1_method_51_code
def yX3_isKind : MethodName := ⟨RX3, "isKind", "(I)Z"⟩
abbrev cX3_isSpot : ByteArray := prog_1_method_52_code
def yX3_isSpot : MethodName := ⟨RX3, "isSpot", "(I)Z"⟩
abbrev cX3_isSheet : ByteArray := prog_1_method_53_code
def yX3_isSheet : MethodName := ⟨RX3, "isSheet", "(I)Z"⟩
abbrev cX3_isUnder : ByteArray := prog_1_method_54_code
def yX3_isUnder : MethodName := ⟨RX3, "isUnder", "(II)Z"⟩
abbrev cX3_leastCalmRuling : ByteArray := prog_1_method_55_code
def yX3_leastCalmRuling : MethodName := ⟨RX3, "leastCalmRuling", "(II)I"⟩
abbrev cX3_waysThat : ByteArray := prog_1_method_56_code
def yX3_waysThat : MethodName := ⟨RX3, "waysThat", "(II)J"⟩
abbrev cX3_isSo : ByteArray := prog_1_method_57_code
def yX3_isSo : MethodName := ⟨RX3, "isSo", "(III)Z"⟩
abbrev cX3_bestTrait : ByteArray := prog_1_method_58_code
def yX3_bestTrait : MethodName := ⟨RX3, "bestTrait", "(IIII)I"⟩
abbrev cX3_isCalmWith : ByteArray := prog_1_method_59_code
def yX3_isCalmWith : MethodName := ⟨RX3, "isCalmWith", "(III)Z"⟩
abbrev cX3_readItem : ByteArray := prog_1_method_60_code
def yX3_readItem : MethodName := ⟨RX3, "readItem", "()Z"⟩
abbrev cX3_readCitizen : ByteArray := prog_1_method_61_code
def yX3_readCitizen : MethodName := ⟨RX3, "readCitizen", "(I)Z"⟩
abbrev cX3_readTrait : ByteArray := prog_1_method_62_code
def yX3_readTrait : MethodName := ⟨RX3, "readTrait", "(Ljava/lang/String;I)Z"⟩
abbrev cX3_readRuling : ByteArray := prog_1_method_63_code
def yX3_readRuling : MethodName := ⟨RX3, "readRuling", "(I)Z"⟩
def RX4 : String := "BreadGamesModel"
def TX4 : u_T := fun k => match k with
  | 0 => ("BreadGamesModel", "m", "[I", true)
  | 1 => ("BreadGamesModel", "kept", "[I", true)
  | 2 => ("BreadGamesModel", "was", "[I", true)
  | 3 => ("BreadGamesModel", "isKept", "Z", false)
  | 4 => ("BreadGamesModel", "found", "[I", true)
  | 5 => ("BreadGamesModel", "riotsThen", "I", false)
  | 6 => ("BreadGamesModel", "joyThen", "I", false)
  | 7 => ("BreadGamesModel", "tape", "[I", true)
  | 8 => ("BreadGamesModel", "taped", "I", false)
  | 9 => ("BreadGamesModel", "sort", "I", false)
  | 10 => ("BreadGamesModel", "from", "I", false)
  | 11 => ("BreadGamesModel", "to", "I", false)
  | 12 => ("BreadGamesModel", "value", "I", false)
  | 13 => ("BreadGamesModel", "bad", "Z", false)
  | 14 => ("BreadGamesModel", "bits", "[I", true)
  | 15 => ("BreadGamesModel", "size", "[I", true)
  | _ => ("BreadGamesModel", "number", "[I", true)
def tyX4 : Nat → FieldType := fun k => match k with
  | 0 => .array .int
  | 1 => .array .int
  | 2 => .array .int
  | 3 => .boolean
  | 4 => .array .int
  | 5 => .int
  | 6 => .int
  | 7 => .array .int
  | 8 => .int
  | 9 => .int
  | 10 => .int
  | 11 => .int
  | 12 => .int
  | 13 => .boolean
  | 14 => .array .int
  | 15 => .array .int
  | _ => .array .int
theorem nmX4 : ∀ a, a < 17 → ∀ b, b < 17 → a ≠ b → (TX4 a).2.1 ≠ (TX4 b).2.1 := by decide +kernel
theorem tyX4_ok : ∀ k, k < 17 → parseFieldDescriptor (TX4 k).2.2.1 = some (tyX4 k) := by decide +kernel
abbrev cX4_init : ByteArray := prog_6_method_1_code
def yX4_init : MethodName := ⟨RX4, "<init>", "()V"⟩
abbrev cX4_finds : ByteArray := prog_6_method_2_code
def yX4_finds : MethodName := ⟨RX4, "finds", "(I)I"⟩
abbrev cX4_orNone : ByteArray := prog_6_method_3_code
def yX4_orNone : MethodName := ⟨RX4, "orNone", "(I)I"⟩
abbrev cX4_in : ByteArray := prog_6_method_4_code
def yX4_in : MethodName := ⟨RX4, "in", "(JJJ)Z"⟩
abbrev cX4_row : ByteArray := prog_6_method_5_code
def yX4_row : MethodName := ⟨RX4, "row", "([I[I)V"⟩
abbrev cX4_becomes : ByteArray := prog_6_method_6_code
def yX4_becomes : MethodName := ⟨RX4, "becomes", "(II)I"⟩
abbrev cX4_isOne : ByteArray := prog_6_method_7_code
def yX4_isOne : MethodName := ⟨RX4, "isOne", "(I)Z"⟩
abbrev cX4_isKind : ByteArray := prog_6_method_8_code
def yX4_isKind : MethodName := ⟨RX4, "isKind", "(I)Z"⟩
abbrev cX4_isHunger : ByteArray := prog_6_method_9_code
def yX4_isHunger : MethodName := ⟨RX4, "isHunger", "(I)Z"⟩
abbrev cX4_areWeeks : ByteArray := prog_6_method_10_code
def yX4_areWeeks : MethodName := ⟨RX4, "areWeeks", "(I)Z"⟩
abbrev cX4_isLate : ByteArray := prog_6_method_11_code
def yX4_isLate : MethodName := ⟨RX4, "isLate", "(I)Z"⟩
abbrev cX4_is : ByteArray := prog_6_method_12_code
def yX4_is : MethodName := ⟨RX4, "is", "(II)I"⟩
abbrev cX4_makes : ByteArray := prog_6_method_13_code
def yX4_makes : MethodName := ⟨RX4, "makes", "(III)V"⟩
abbrev cX4_comes : ByteArray := prog_6_method_14_code
def yX4_comes : MethodName := ⟨RX4, "comes", "(IIIII)I"⟩
abbrev cX4_citizen : ByteArray := prog_6_method_15_code
def yX4_citizen : MethodName := ⟨RX4, "citizen", "(I)I"⟩
abbrev cX4_loafWorth : ByteArray := prog_6_method_16_code
def yX4_loafWorth : MethodName := ⟨RX4, "loafWorth", "(I)I"⟩
abbrev cX4_seatWorth : ByteArray := prog_6_method_17_code
def yX4_seatWorth : MethodName := ⟨RX4, "seatWorth", "(I)I"⟩
abbrev cX4_of : ByteArray := prog_6_method_18_code
def yX4_of : MethodName := ⟨RX4, "of", "(II)I"⟩
abbrev cX4_isPart : ByteArray := prog_6_method_19_code
def yX4_isPart : MethodName := ⟨RX4, "isPart", "(II)Z"⟩
abbrev cX4_change : ByteArray := prog_6_method_20_code
def yX4_change : MethodName := ⟨RX4, "change", "(III)I"⟩
abbrev cX4_isRule : ByteArray := prog_6_method_21_code
def yX4_isRule : MethodName := ⟨RX4, "isRule", "(II)Z"⟩
abbrev cX4_rule : ByteArray := prog_6_method_22_code
def yX4_rule : MethodName := ⟨RX4, "rule", "(II)I"⟩
abbrev cX4_with : ByteArray := prog_6_method_23_code
def yX4_with : MethodName := ⟨RX4, "with", "(I)I"⟩
abbrev cX4_hungry : ByteArray := prog_6_method_24_code
def yX4_hungry : MethodName := ⟨RX4, "hungry", "()I"⟩
abbrev cX4_many : ByteArray := prog_6_method_25_code
def yX4_many : MethodName := ⟨RX4, "many", "(I)I"⟩
abbrev cX4_cost : ByteArray := prog_6_method_26_code
def yX4_cost : MethodName := ⟨RX4, "cost", "()I"⟩
abbrev cX4_now : ByteArray := prog_6_method_27_code
def yX4_now : MethodName := ⟨RX4, "now", "(I)I"⟩
abbrev cX4_wantsOther : ByteArray := prog_6_method_28_code
def yX4_wantsOther : MethodName := ⟨RX4, "wantsOther", "(I)Z"⟩
abbrev cX4_wants : ByteArray := prog_6_method_29_code
def yX4_wants : MethodName := ⟨RX4, "wants", "(I)I"⟩
abbrev cX4_changeTokens : ByteArray := prog_6_method_30_code
def yX4_changeTokens : MethodName := ⟨RX4, "changeTokens", "(II)V"⟩
abbrev cX4_swap : ByteArray := prog_6_method_31_code
def yX4_swap : MethodName := ⟨RX4, "swap", "(II)I"⟩
abbrev cX4_firstWanting : ByteArray := prog_6_method_32_code
def yX4_firstWanting : MethodName := ⟨RX4, "firstWanting", "(I)I"⟩
abbrev cX4_opens : ByteArray := prog_6_method_33_code
def yX4_opens : MethodName := ⟨RX4, "opens", "()I"⟩
abbrev cX4_gates : ByteArray := prog_6_method_34_code
def yX4_gates : MethodName := ⟨RX4, "gates", "()I"⟩
abbrev cX4_changes : ByteArray := prog_6_method_35_code
def yX4_changes : MethodName := ⟨RX4, "changes", "()I"⟩
abbrev cX4_worth : ByteArray := prog_6_method_36_code
def yX4_worth : MethodName := ⟨RX4, "worth", "(II)I"⟩
abbrev cX4_mayBuy : ByteArray := prog_6_method_37_code
def yX4_mayBuy : MethodName := ⟨RX4, "mayBuy", "(III)Z"⟩
abbrev cX4_buy : ByteArray := prog_6_method_38_code
def yX4_buy : MethodName := ⟨RX4, "buy", "(III)I"⟩
abbrev cX4_welfare : ByteArray := prog_6_method_39_code
def yX4_welfare : MethodName := ⟨RX4, "welfare", "()I"⟩
abbrev cX4_most : ByteArray := prog_6_method_40_code
def yX4_most : MethodName := ⟨RX4, "most", "()I"⟩
abbrev cX4_price : ByteArray := prog_6_method_41_code
def yX4_price : MethodName := ⟨RX4, "price", "()I"⟩
abbrev cX4_draw : ByteArray := prog_6_method_42_code
def yX4_draw : MethodName := ⟨RX4, "draw", "()I"⟩
abbrev cX4_drawsTokens : ByteArray := prog_6_method_43_code
def yX4_drawsTokens : MethodName := ⟨RX4, "drawsTokens", "()V"⟩
abbrev cX4_eatAndSee : ByteArray := prog_6_method_44_code
def yX4_eatAndSee : MethodName := ⟨RX4, "eatAndSee", "()V"⟩
abbrev cX4_aWeek : ByteArray := prog_6_method_45_code
def yX4_aWeek : MethodName := ⟨RX4, "aWeek", "()I"⟩
abbrev cX4_goes : ByteArray := prog_6_method_46_code
def yX4_goes : MethodName := ⟨RX4, "goes", "(I)I"⟩
abbrev cX4_weeks : ByteArray := prog_6_method_47_code
def yX4_weeks : MethodName := ⟨RX4, "weeks", "(I)I"⟩
abbrev cX4_sum : ByteArray := prog_6_method_48_code
def yX4_sum : MethodName := ⟨RX4, "sum", "(I)I"⟩
abbrev cX4_ahead : ByteArray := prog_6_method_49_code
def yX4_ahead : MethodName := ⟨RX4, "ahead", "(II)I"⟩
abbrev cX4_riot : ByteArray := prog_6_method_50_code
def yX4_riot : MethodName := ⟨RX4, "riot", "()I"⟩
abbrev cX4_next : ByteArray := prog_6_method_51_code
def yX4_next : MethodName := ⟨RX4, "next", "(I)I"⟩
abbrev cX4_tries : ByteArray := prog_6_method_52_code
def yX4_tries : MethodName := ⟨RX4, "tries", "(III)I"⟩
abbrev cX4_loaves : ByteArray := prog_6_method_53_code
def yX4_loaves : MethodName := ⟨RX4, "loaves", "(I)I"⟩
abbrev cX4_cheapest : ByteArray := prog_6_method_54_code
def yX4_cheapest : MethodName := ⟨RX4, "cheapest", "(I)I"⟩
abbrev cX4_leader : ByteArray := prog_6_method_55_code
def yX4_leader : MethodName := ⟨RX4, "leader", "(I)I"⟩
abbrev cX4_ofThen : ByteArray := prog_6_method_56_code
def yX4_ofThen : MethodName := ⟨RX4, "ofThen", "(IIIII)I"⟩
abbrev cX4_colourFor : ByteArray := prog_6_method_57_code
def yX4_colourFor : MethodName := ⟨RX4, "colourFor", "(II)I"⟩
abbrev cX4_kindFor : ByteArray := prog_6_method_58_code
def yX4_kindFor : MethodName := ⟨RX4, "kindFor", "(II)I"⟩
abbrev cX4_stale : ByteArray := prog_6_method_59_code
def yX4_stale : MethodName := ⟨RX4, "stale", "(I)I"⟩
abbrev cX4_bound : ByteArray := prog_6_method_60_code
def yX4_bound : MethodName := ⟨RX4, "bound", "(I)I"⟩
abbrev cX4_law : ByteArray := prog_6_method_61_code
def yX4_law : MethodName := ⟨RX4, "law", "(II)I"⟩
abbrev cX4_drawing : ByteArray := prog_6_method_62_code
def yX4_drawing : MethodName := ⟨RX4, "drawing", "()I"⟩
abbrev cX4_isWay : ByteArray := prog_6_method_63_code
def yX4_isWay : MethodName := ⟨RX4, "isWay", "(I)Z"⟩
abbrev cX4_lies : ByteArray := prog_6_method_64_code
def yX4_lies : MethodName := ⟨RX4, "lies", "(I)V"⟩
abbrev cX4_ways : ByteArray := prog_6_method_65_code
def yX4_ways : MethodName := ⟨RX4, "ways", "()J"⟩
abbrev cX4_eats : ByteArray := prog_6_method_66_code
def yX4_eats : MethodName := ⟨RX4, "eats", "(I)J"⟩
abbrev cX4_busy : ByteArray := prog_6_method_67_code
def yX4_busy : MethodName := ⟨RX4, "busy", "(I)J"⟩
abbrev cX4_famine : ByteArray := prog_6_method_68_code
def yX4_famine : MethodName := ⟨RX4, "famine", "(I)I"⟩
abbrev cX4_seed : ByteArray := prog_6_method_69_code
def yX4_seed : MethodName := ⟨RX4, "seed", "(I)I"⟩
abbrev cX4_feed : ByteArray := prog_6_method_70_code
def yX4_feed : MethodName := ⟨RX4, "feed", "(II)I"⟩
abbrev cX4_wipe : ByteArray := prog_6_method_71_code
def yX4_wipe : MethodName := ⟨RX4, "wipe", "()I"⟩
abbrev cX4_isByte : ByteArray := prog_6_method_72_code
def yX4_isByte : MethodName := ⟨RX4, "isByte", "(III)Z"⟩
abbrev cX4_token : ByteArray := prog_6_method_73_code
def yX4_token : MethodName := ⟨RX4, "token", "()V"⟩
abbrev cX4_isWord : ByteArray := prog_6_method_74_code
def yX4_isWord : MethodName := ⟨RX4, "isWord", "(Ljava/lang/String;)Z"⟩
abbrev cX4_takes : ByteArray := prog_6_method_75_code
def yX4_takes : MethodName := ⟨RX4, "takes", "(Ljava/lang/String;)Z"⟩
abbrev cX4_isSign : ByteArray := prog_6_method_76_code
def yX4_isSign : MethodName := ⟨RX4, "isSign", "(I)Z"⟩
abbrev cX4_number : ByteArray := prog_6_method_77_code
def yX4_number : MethodName := ⟨RX4, "number", "(II)I"⟩
abbrev cX4_kindHere : ByteArray := prog_6_method_78_code
def yX4_kindHere : MethodName := ⟨RX4, "kindHere", "()I"⟩
abbrev cX4_citizenItem : ByteArray := prog_6_method_79_code
def yX4_citizenItem : MethodName := ⟨RX4, "citizenItem", "(I)V"⟩
abbrev cX4_ruleHere : ByteArray := prog_6_method_80_code
def yX4_ruleHere : MethodName := ⟨RX4, "ruleHere", "()I"⟩
abbrev cX4_ruleItem : ByteArray := prog_6_method_81_code
def yX4_ruleItem : MethodName := ⟨RX4, "ruleItem", "(I)V"⟩
abbrev cX4_item : ByteArray := prog_6_method_82_code
def yX4_item : MethodName := ⟨RX4, "item", "()V"⟩
abbrev cX4_text : ByteArray := prog_6_method_83_code
def yX4_text : MethodName := ⟨RX4, "text", "()I"⟩
abbrev cX4_hold : ByteArray := prog_6_method_84_code
def yX4_hold : MethodName := ⟨RX4, "hold", "(II)I"⟩
abbrev cX4_above : ByteArray := prog_6_method_85_code
def yX4_above : MethodName := ⟨RX4, "above", "(I)I"⟩
abbrev cX4_as : ByteArray := prog_6_method_86_code
def yX4_as : MethodName := ⟨RX4, "as", "(II)I"⟩
abbrev cX4_isSheet : ByteArray := prog_6_method_87_code
def yX4_isSheet : MethodName := ⟨RX4, "isSheet", "(I)Z"⟩
abbrev cX4_sheet : ByteArray := prog_6_method_88_code
def yX4_sheet : MethodName := ⟨RX4, "sheet", "(III)I"⟩
abbrev cX4_write : ByteArray := prog_6_method_89_code
def yX4_write : MethodName := ⟨RX4, "write", "(III)I"⟩
abbrev cX4_copy : ByteArray := prog_6_method_90_code
def yX4_copy : MethodName := ⟨RX4, "copy", "(IIIII)I"⟩
abbrev cX4_load : ByteArray := prog_6_method_91_code
def yX4_load : MethodName := ⟨RX4, "load", "(I)I"⟩
abbrev cX4_tally : ByteArray := prog_6_method_92_code
def yX4_tally : MethodName := ⟨RX4, "tally", "(I)J"⟩
abbrev cX4_judge : ByteArray := prog_6_method_93_code
def yX4_judge : MethodName := ⟨RX4, "judge", "(I)I"⟩
abbrev cX4_image : ByteArray := prog_6_method_94_code
def yX4_image : MethodName := ⟨RX4, "image", "()I"⟩
abbrev cX4_undo : ByteArray := prog_6_method_95_code
def yX4_undo : MethodName := ⟨RX4, "undo", "()I"⟩
abbrev cX4_tear : ByteArray := prog_6_method_96_code
def yX4_tear : MethodName := ⟨RX4, "tear", "()I"⟩
abbrev cX4_holding : ByteArray := prog_6_method_97_code
def yX4_holding : MethodName := ⟨RX4, "holding", "()I"⟩
abbrev cX4_count : ByteArray := prog_6_method_98_code
def yX4_count : MethodName := ⟨RX4, "count", "(I)I"⟩
abbrev cX4_status : ByteArray := prog_6_method_99_code
def yX4_status : MethodName := ⟨RX4, "status", "(I)I"⟩
def RJ6 : String := "java/lang/Integer"
def TJ6 : u_T := fun k => match k with
  | _ => ("", "", "", false)
def tyJ6 : Nat → FieldType := fun k => match k with
  | _ => .int
theorem nmJ6 : ∀ a, a < 0 → ∀ b, b < 0 → a ≠ b → (TJ6 a).2.1 ≠ (TJ6 b).2.1 := by decide +kernel
theorem tyJ6_ok : ∀ k, k < 0 → parseFieldDescriptor (TJ6 k).2.2.1 = some (tyJ6 k) := by decide +kernel
abbrev cJ6_bitCount_0f7a4 : ByteArray := prog_7_method_49_code
def yJ6_bitCount_0f7a4 : MethodName := ⟨RJ6, "bitCount", "(I)I"⟩
def RJ9 : String := "java/lang/Math"
def TJ9 : u_T := fun k => match k with
  | _ => ("", "", "", false)
def tyJ9 : Nat → FieldType := fun k => match k with
  | _ => .int
theorem nmJ9 : ∀ a, a < 0 → ∀ b, b < 0 → a ≠ b → (TJ9 a).2.1 ≠ (TJ9 b).2.1 := by decide +kernel
theorem tyJ9_ok : ∀ k, k < 0 → parseFieldDescriptor (TJ9 k).2.2.1 = some (tyJ9 k) := by decide +kernel
abbrev cJ9_max_7cf53 : ByteArray := prog_8_method_65_code
def yJ9_max_7cf53 : MethodName := ⟨RJ9, "max", "(II)I"⟩
abbrev cJ9_min_7cf53 : ByteArray := prog_8_method_69_code
def yJ9_min_7cf53 : MethodName := ⟨RJ9, "min", "(II)I"⟩
def RJ0 : String := "java/lang/String"
def TJ0 : u_T := fun k => match k with
  | _ => ("", "", "", false)
def tyJ0 : Nat → FieldType := fun k => match k with
  | _ => .int
theorem nmJ0 : ∀ a, a < 0 → ∀ b, b < 0 → a ≠ b → (TJ0 a).2.1 ≠ (TJ0 b).2.1 := by decide +kernel
theorem tyJ0_ok : ∀ k, k < 0 → parseFieldDescriptor (TJ0 k).2.2.1 = some (tyJ0 k) := by decide +kernel
abbrev cJ0_length_8abf5 : ByteArray := prog_9_method_54_code
def yJ0_length_8abf5 : MethodName := ⟨RJ0, "length", "()I"⟩
abbrev cJ0_charAt_5068e : ByteArray := prog_9_method_56_code
def yJ0_charAt_5068e : MethodName := ⟨RJ0, "charAt", "(I)C"⟩
abbrev cJ0_coder_7d493 : ByteArray := prog_9_method_152_code
def yJ0_coder_7d493 : MethodName := ⟨RJ0, "coder", "()B"⟩
abbrev cJ0_isLatin1_aae02 : ByteArray := prog_9_method_154_code
def yJ0_isLatin1_aae02 : MethodName := ⟨RJ0, "isLatin1", "()Z"⟩
abbrev cJ0_checkIndex_df160 : ByteArray := prog_9_method_155_code
def yJ0_checkIndex_df160 : MethodName := ⟨RJ0, "checkIndex", "(II)V"⟩
def RJ1 : String := "java/lang/StringLatin1"
def TJ1 : u_T := fun k => match k with
  | _ => ("", "", "", false)
def tyJ1 : Nat → FieldType := fun k => match k with
  | _ => .int
theorem nmJ1 : ∀ a, a < 0 → ∀ b, b < 0 → a ≠ b → (TJ1 a).2.1 ≠ (TJ1 b).2.1 := by decide +kernel
theorem tyJ1_ok : ∀ k, k < 0 → parseFieldDescriptor (TJ1 k).2.2.1 = some (tyJ1 k) := by decide +kernel
abbrev cJ1_charAt_3b067 : ByteArray := prog_10_method_2_code
def yJ1_charAt_3b067 : MethodName := ⟨RJ1, "charAt", "([BI)C"⟩
def RJ2 : String := "java/lang/StringUTF16"
def TJ2 : u_T := fun k => match k with
  | _ => ("", "", "", false)
def tyJ2 : Nat → FieldType := fun k => match k with
  | _ => .int
theorem nmJ2 : ∀ a, a < 0 → ∀ b, b < 0 → a ≠ b → (TJ2 a).2.1 ≠ (TJ2 b).2.1 := by decide +kernel
theorem tyJ2_ok : ∀ k, k < 0 → parseFieldDescriptor (TJ2 k).2.2.1 = some (tyJ2 k) := by decide +kernel
abbrev cJ2_getChar_3b067 : ByteArray := prog_11_method_5_code
def yJ2_getChar_3b067 : MethodName := ⟨RJ2, "getChar", "([BI)C"⟩
abbrev cJ2_length_9d52b : ByteArray := prog_11_method_6_code
def yJ2_length_9d52b : MethodName := ⟨RJ2, "length", "([B)I"⟩
abbrev cJ2_charAt_3b067 : ByteArray := prog_11_method_83_code
def yJ2_charAt_3b067 : MethodName := ⟨RJ2, "charAt", "([BI)C"⟩
abbrev cJ2_checkIndex_2214a : ByteArray := prog_11_method_91_code
def yJ2_checkIndex_2214a : MethodName := ⟨RJ2, "checkIndex", "(I[B)V"⟩
def RJ10 : String := "java/lang/System"
def TJ10 : u_T := fun k => match k with
  | _ => ("", "", "", false)
def tyJ10 : Nat → FieldType := fun k => match k with
  | _ => .int
theorem nmJ10 : ∀ a, a < 0 → ∀ b, b < 0 → a ≠ b → (TJ10 a).2.1 ≠ (TJ10 b).2.1 := by decide +kernel
theorem tyJ10_ok : ∀ k, k < 0 → parseFieldDescriptor (TJ10 k).2.2.1 = some (tyJ10 k) := by decide +kernel
def RJ3 : String := "jdk/internal/util/Preconditions"
def TJ3 : u_T := fun k => match k with
  | _ => ("", "", "", false)
def tyJ3 : Nat → FieldType := fun k => match k with
  | _ => .int
theorem nmJ3 : ∀ a, a < 0 → ∀ b, b < 0 → a ≠ b → (TJ3 a).2.1 ≠ (TJ3 b).2.1 := by decide +kernel
theorem tyJ3_ok : ∀ k, k < 0 → parseFieldDescriptor (TJ3 k).2.2.1 = some (tyJ3 k) := by decide +kernel
abbrev cJ3_checkIndex_8e157 : ByteArray := prog_13_method_11_code
def yJ3_checkIndex_8e157 : MethodName := ⟨RJ3, "checkIndex", "(IILjava/util/function/BiFunction;)I"⟩
def RL : String := "BreadGamesLaw"
abbrev cL_law : ByteArray := code
def yL_law : MethodName := ⟨RL, "law", "([I)Z"⟩
abbrev vwCl : List vw_C := [(RX0, TX0, 16), (RX1, TX1, 3), (RX2, TX2, 6), (RX3, TX3, 7), (RX4, TX4, 17)]
