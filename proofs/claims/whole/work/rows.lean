section
-- ===== PART A: goes FIRST, ahead of the names: the tables' words, and 'selects' of the private methods out of them =====
/-- a private method of a class that the tables say can be made, by its rows of tables_1 -/
def lw_okq (q : MethodName × Nat) : Prop := (q.1.cls ≠ "java/lang/invoke/MethodHandle" ∧ q.1.cls ≠ "java/lang/invoke/VarHandle") ∧ Cond.instantiable q.1.cls q.2 ∈ tables_1 ∧ Cond.privateMethod q.1 ∈ tables_1 ∧ Cond.instanceMethod q.1 ∈ tables_1
theorem lw_p0 : lw_okq (⟨"DialWardens$History", "dropOldest", "()V"⟩, 2) := ⟨⟨by decide +kernel, by decide +kernel⟩, List.mem_of_getElem? (i := 112) (by decide +kernel), List.mem_of_getElem? (i := 188) (by decide +kernel), List.mem_of_getElem? (i := 189) (by decide +kernel)⟩
theorem lw_p1 : lw_okq (⟨"DialWardens$State", "nearestAllowed", "(I)I"⟩, 6) := ⟨⟨by decide +kernel, by decide +kernel⟩, List.mem_of_getElem? (i := 24) (by decide +kernel), List.mem_of_getElem? (i := 220) (by decide +kernel), List.mem_of_getElem? (i := 221) (by decide +kernel)⟩
theorem lw_p2 : lw_okq (⟨"DialWardens$Dials", "ring", "(III)I"⟩, 7) := ⟨⟨by decide +kernel, by decide +kernel⟩, List.mem_of_getElem? (i := 30) (by decide +kernel), List.mem_of_getElem? (i := 228) (by decide +kernel), List.mem_of_getElem? (i := 229) (by decide +kernel)⟩
theorem lw_p3 : lw_okq (⟨"DialWardens", "middleNow", "()I"⟩, 6) := ⟨⟨by decide +kernel, by decide +kernel⟩, List.mem_of_getElem? (i := 16) (by decide +kernel), List.mem_of_getElem? (i := 273) (by decide +kernel), List.mem_of_getElem? (i := 274) (by decide +kernel)⟩
theorem lw_p4 : lw_okq (⟨"DialWardens", "middleIf", "(II)I"⟩, 6) := ⟨⟨by decide +kernel, by decide +kernel⟩, List.mem_of_getElem? (i := 16) (by decide +kernel), List.mem_of_getElem? (i := 301) (by decide +kernel), List.mem_of_getElem? (i := 302) (by decide +kernel)⟩
theorem lw_p5 : lw_okq (⟨"java/lang/Throwable", "fillInStackTrace", "(I)Ljava/lang/Throwable;"⟩, 6) := ⟨⟨by decide +kernel, by decide +kernel⟩, List.mem_of_getElem? (i := 367) (by decide +kernel), List.mem_of_getElem? (i := 365) (by decide +kernel), List.mem_of_getElem? (i := 366) (by decide +kernel)⟩
theorem lw_p6 : lw_okq (⟨"DialWardens", "townNumber", "(I)I"⟩, 6) := ⟨⟨by decide +kernel, by decide +kernel⟩, List.mem_of_getElem? (i := 16) (by decide +kernel), List.mem_of_getElem? (i := 397) (by decide +kernel), List.mem_of_getElem? (i := 398) (by decide +kernel)⟩
theorem lw_p7 : lw_okq (⟨"DialWardens", "middleNowByAdding", "()I"⟩, 6) := ⟨⟨by decide +kernel, by decide +kernel⟩, List.mem_of_getElem? (i := 16) (by decide +kernel), List.mem_of_getElem? (i := 401) (by decide +kernel), List.mem_of_getElem? (i := 402) (by decide +kernel)⟩
theorem lw_p8 : lw_okq (⟨"DialWardens$Poll", "weightBelow", "(I)I"⟩, 3) := ⟨⟨by decide +kernel, by decide +kernel⟩, List.mem_of_getElem? (i := 143) (by decide +kernel), List.mem_of_getElem? (i := 409) (by decide +kernel), List.mem_of_getElem? (i := 410) (by decide +kernel)⟩
theorem lw_p9 : lw_okq (⟨"DialWardens$Poll", "weightAt", "(I)I"⟩, 3) := ⟨⟨by decide +kernel, by decide +kernel⟩, List.mem_of_getElem? (i := 143) (by decide +kernel), List.mem_of_getElem? (i := 413) (by decide +kernel), List.mem_of_getElem? (i := 414) (by decide +kernel)⟩
theorem lw_p10 : lw_okq (⟨"DialWardens$State", "wordsQuarrel", "(II)Z"⟩, 6) := ⟨⟨by decide +kernel, by decide +kernel⟩, List.mem_of_getElem? (i := 24) (by decide +kernel), List.mem_of_getElem? (i := 434) (by decide +kernel), List.mem_of_getElem? (i := 435) (by decide +kernel)⟩
theorem lw_p11 : lw_okq (⟨"DialWardens", "sumNumber", "(I)I"⟩, 6) := ⟨⟨by decide +kernel, by decide +kernel⟩, List.mem_of_getElem? (i := 16) (by decide +kernel), List.mem_of_getElem? (i := 438) (by decide +kernel), List.mem_of_getElem? (i := 439) (by decide +kernel)⟩
theorem lw_p12 : lw_okq (⟨"DialWardens", "mixedWithDial", "(JI)J"⟩, 6) := ⟨⟨by decide +kernel, by decide +kernel⟩, List.mem_of_getElem? (i := 16) (by decide +kernel), List.mem_of_getElem? (i := 451) (by decide +kernel), List.mem_of_getElem? (i := 452) (by decide +kernel)⟩
theorem lw_p13 : lw_okq (⟨"DialWardens", "dialNumber", "(II)I"⟩, 6) := ⟨⟨by decide +kernel, by decide +kernel⟩, List.mem_of_getElem? (i := 16) (by decide +kernel), List.mem_of_getElem? (i := 455) (by decide +kernel), List.mem_of_getElem? (i := 456) (by decide +kernel)⟩
theorem lw_p14 : lw_okq (⟨"DialWardens", "mixedWithWarden", "(JI)J"⟩, 6) := ⟨⟨by decide +kernel, by decide +kernel⟩, List.mem_of_getElem? (i := 16) (by decide +kernel), List.mem_of_getElem? (i := 505) (by decide +kernel), List.mem_of_getElem? (i := 506) (by decide +kernel)⟩
theorem lw_p15 : lw_okq (⟨"DialWardens", "wardenNumber", "(II)I"⟩, 6) := ⟨⟨by decide +kernel, by decide +kernel⟩, List.mem_of_getElem? (i := 16) (by decide +kernel), List.mem_of_getElem? (i := 509) (by decide +kernel), List.mem_of_getElem? (i := 510) (by decide +kernel)⟩
def lw_privs_1 : List (MethodName × Nat) := [(⟨"DialWardens$History", "dropOldest", "()V"⟩, 2), (⟨"DialWardens$State", "nearestAllowed", "(I)I"⟩, 6), (⟨"DialWardens$Dials", "ring", "(III)I"⟩, 7), (⟨"DialWardens", "middleNow", "()I"⟩, 6), (⟨"DialWardens", "middleIf", "(II)I"⟩, 6), (⟨"java/lang/Throwable", "fillInStackTrace", "(I)Ljava/lang/Throwable;"⟩, 6), (⟨"DialWardens", "townNumber", "(I)I"⟩, 6), (⟨"DialWardens", "middleNowByAdding", "()I"⟩, 6), (⟨"DialWardens$Poll", "weightBelow", "(I)I"⟩, 3), (⟨"DialWardens$Poll", "weightAt", "(I)I"⟩, 3), (⟨"DialWardens$State", "wordsQuarrel", "(II)Z"⟩, 6), (⟨"DialWardens", "sumNumber", "(I)I"⟩, 6), (⟨"DialWardens", "mixedWithDial", "(JI)J"⟩, 6), (⟨"DialWardens", "dialNumber", "(II)I"⟩, 6), (⟨"DialWardens", "mixedWithWarden", "(JI)J"⟩, 6), (⟨"DialWardens", "wardenNumber", "(II)I"⟩, 6)]
theorem lw_r1 : ∀ q ∈ lw_privs_1, lw_okq q := List.forall_mem_cons.mpr ⟨lw_p0, List.forall_mem_cons.mpr ⟨lw_p1, List.forall_mem_cons.mpr ⟨lw_p2, List.forall_mem_cons.mpr ⟨lw_p3, List.forall_mem_cons.mpr ⟨lw_p4, List.forall_mem_cons.mpr ⟨lw_p5, List.forall_mem_cons.mpr ⟨lw_p6, List.forall_mem_cons.mpr ⟨lw_p7, List.forall_mem_cons.mpr ⟨lw_p8, List.forall_mem_cons.mpr ⟨lw_p9, List.forall_mem_cons.mpr ⟨lw_p10, List.forall_mem_cons.mpr ⟨lw_p11, List.forall_mem_cons.mpr ⟨lw_p12, List.forall_mem_cons.mpr ⟨lw_p13, List.forall_mem_cons.mpr ⟨lw_p14, List.forall_mem_cons.mpr ⟨lw_p15, fun _ h => absurd h List.not_mem_nil⟩⟩⟩⟩⟩⟩⟩⟩⟩⟩⟩⟩⟩⟩⟩⟩
theorem lw_p16 : lw_okq (⟨"DialWardens", "placeOf", "(I)I"⟩, 6) := ⟨⟨by decide +kernel, by decide +kernel⟩, List.mem_of_getElem? (i := 16) (by decide +kernel), List.mem_of_getElem? (i := 514) (by decide +kernel), List.mem_of_getElem? (i := 515) (by decide +kernel)⟩
theorem lw_p17 : lw_okq (⟨"DialWardens$Dials", "passTick", "(I)I"⟩, 7) := ⟨⟨by decide +kernel, by decide +kernel⟩, List.mem_of_getElem? (i := 30) (by decide +kernel), List.mem_of_getElem? (i := 552) (by decide +kernel), List.mem_of_getElem? (i := 553) (by decide +kernel)⟩
theorem lw_p18 : lw_okq (⟨"DialWardens", "holdVote", "()V"⟩, 6) := ⟨⟨by decide +kernel, by decide +kernel⟩, List.mem_of_getElem? (i := 16) (by decide +kernel), List.mem_of_getElem? (i := 580) (by decide +kernel), List.mem_of_getElem? (i := 581) (by decide +kernel)⟩
theorem lw_p19 : lw_okq (⟨"DialWardens$State", "settleQuarrel", "([III)V"⟩, 6) := ⟨⟨by decide +kernel, by decide +kernel⟩, List.mem_of_getElem? (i := 24) (by decide +kernel), List.mem_of_getElem? (i := 592) (by decide +kernel), List.mem_of_getElem? (i := 593) (by decide +kernel)⟩
theorem lw_p20 : lw_okq (⟨"DialWardens", "obeyPart", "(I)Z"⟩, 6) := ⟨⟨by decide +kernel, by decide +kernel⟩, List.mem_of_getElem? (i := 16) (by decide +kernel), List.mem_of_getElem? (i := 673) (by decide +kernel), List.mem_of_getElem? (i := 674) (by decide +kernel)⟩
theorem lw_p21 : lw_okq (⟨"DialWardensModel", "throwing", "(I)I"⟩, 11) := ⟨⟨by decide +kernel, by decide +kernel⟩, List.mem_of_getElem? (i := 751) (by decide +kernel), List.mem_of_getElem? (i := 802) (by decide +kernel), List.mem_of_getElem? (i := 803) (by decide +kernel)⟩
theorem lw_p22 : lw_okq (⟨"DialWardensModel", "save", "()V"⟩, 11) := ⟨⟨by decide +kernel, by decide +kernel⟩, List.mem_of_getElem? (i := 751) (by decide +kernel), List.mem_of_getElem? (i := 806) (by decide +kernel), List.mem_of_getElem? (i := 807) (by decide +kernel)⟩
theorem lw_p23 : lw_okq (⟨"DialWardensModel", "ticks", "(I)I"⟩, 11) := ⟨⟨by decide +kernel, by decide +kernel⟩, List.mem_of_getElem? (i := 751) (by decide +kernel), List.mem_of_getElem? (i := 810) (by decide +kernel), List.mem_of_getElem? (i := 811) (by decide +kernel)⟩
theorem lw_p24 : lw_okq (⟨"DialWardensModel", "tickOnce", "()I"⟩, 11) := ⟨⟨by decide +kernel, by decide +kernel⟩, List.mem_of_getElem? (i := 751) (by decide +kernel), List.mem_of_getElem? (i := 814) (by decide +kernel), List.mem_of_getElem? (i := 815) (by decide +kernel)⟩
theorem lw_p25 : lw_okq (⟨"DialWardensModel", "shows", "(II)I"⟩, 11) := ⟨⟨by decide +kernel, by decide +kernel⟩, List.mem_of_getElem? (i := 751) (by decide +kernel), List.mem_of_getElem? (i := 819) (by decide +kernel), List.mem_of_getElem? (i := 820) (by decide +kernel)⟩
theorem lw_p26 : lw_okq (⟨"DialWardensModel", "weights", "()I"⟩, 11) := ⟨⟨by decide +kernel, by decide +kernel⟩, List.mem_of_getElem? (i := 751) (by decide +kernel), List.mem_of_getElem? (i := 827) (by decide +kernel), List.mem_of_getElem? (i := 828) (by decide +kernel)⟩
theorem lw_p27 : lw_okq (⟨"DialWardensModel", "votes", "()I"⟩, 11) := ⟨⟨by decide +kernel, by decide +kernel⟩, List.mem_of_getElem? (i := 751) (by decide +kernel), List.mem_of_getElem? (i := 831) (by decide +kernel), List.mem_of_getElem? (i := 832) (by decide +kernel)⟩
theorem lw_p28 : lw_okq (⟨"DialWardensModel", "middle", "()I"⟩, 11) := ⟨⟨by decide +kernel, by decide +kernel⟩, List.mem_of_getElem? (i := 751) (by decide +kernel), List.mem_of_getElem? (i := 835) (by decide +kernel), List.mem_of_getElem? (i := 836) (by decide +kernel)⟩
theorem lw_p29 : lw_okq (⟨"DialWardensModel", "word", "(I)I"⟩, 11) := ⟨⟨by decide +kernel, by decide +kernel⟩, List.mem_of_getElem? (i := 751) (by decide +kernel), List.mem_of_getElem? (i := 839) (by decide +kernel), List.mem_of_getElem? (i := 840) (by decide +kernel)⟩
theorem lw_p30 : lw_okq (⟨"DialWardensModel", "quarrel", "(I)Z"⟩, 11) := ⟨⟨by decide +kernel, by decide +kernel⟩, List.mem_of_getElem? (i := 751) (by decide +kernel), List.mem_of_getElem? (i := 843) (by decide +kernel), List.mem_of_getElem? (i := 844) (by decide +kernel)⟩
theorem lw_p31 : lw_okq (⟨"DialWardensModel", "loses", "(I)V"⟩, 11) := ⟨⟨by decide +kernel, by decide +kernel⟩, List.mem_of_getElem? (i := 751) (by decide +kernel), List.mem_of_getElem? (i := 853) (by decide +kernel), List.mem_of_getElem? (i := 854) (by decide +kernel)⟩
def lw_privs_2 : List (MethodName × Nat) := [(⟨"DialWardens", "placeOf", "(I)I"⟩, 6), (⟨"DialWardens$Dials", "passTick", "(I)I"⟩, 7), (⟨"DialWardens", "holdVote", "()V"⟩, 6), (⟨"DialWardens$State", "settleQuarrel", "([III)V"⟩, 6), (⟨"DialWardens", "obeyPart", "(I)Z"⟩, 6), (⟨"DialWardensModel", "throwing", "(I)I"⟩, 11), (⟨"DialWardensModel", "save", "()V"⟩, 11), (⟨"DialWardensModel", "ticks", "(I)I"⟩, 11), (⟨"DialWardensModel", "tickOnce", "()I"⟩, 11), (⟨"DialWardensModel", "shows", "(II)I"⟩, 11), (⟨"DialWardensModel", "weights", "()I"⟩, 11), (⟨"DialWardensModel", "votes", "()I"⟩, 11), (⟨"DialWardensModel", "middle", "()I"⟩, 11), (⟨"DialWardensModel", "word", "(I)I"⟩, 11), (⟨"DialWardensModel", "quarrel", "(I)Z"⟩, 11), (⟨"DialWardensModel", "loses", "(I)V"⟩, 11)]
theorem lw_r2 : ∀ q ∈ lw_privs_2, lw_okq q := List.forall_mem_cons.mpr ⟨lw_p16, List.forall_mem_cons.mpr ⟨lw_p17, List.forall_mem_cons.mpr ⟨lw_p18, List.forall_mem_cons.mpr ⟨lw_p19, List.forall_mem_cons.mpr ⟨lw_p20, List.forall_mem_cons.mpr ⟨lw_p21, List.forall_mem_cons.mpr ⟨lw_p22, List.forall_mem_cons.mpr ⟨lw_p23, List.forall_mem_cons.mpr ⟨lw_p24, List.forall_mem_cons.mpr ⟨lw_p25, List.forall_mem_cons.mpr ⟨lw_p26, List.forall_mem_cons.mpr ⟨lw_p27, List.forall_mem_cons.mpr ⟨lw_p28, List.forall_mem_cons.mpr ⟨lw_p29, List.forall_mem_cons.mpr ⟨lw_p30, List.forall_mem_cons.mpr ⟨lw_p31, fun _ h => absurd h List.not_mem_nil⟩⟩⟩⟩⟩⟩⟩⟩⟩⟩⟩⟩⟩⟩⟩⟩
theorem lw_p32 : lw_okq (⟨"DialWardensModel", "corrects", "()I"⟩, 11) := ⟨⟨by decide +kernel, by decide +kernel⟩, List.mem_of_getElem? (i := 751) (by decide +kernel), List.mem_of_getElem? (i := 861) (by decide +kernel), List.mem_of_getElem? (i := 862) (by decide +kernel)⟩
theorem lw_p33 : lw_okq (⟨"DialWardensModel", "right", "(I)I"⟩, 11) := ⟨⟨by decide +kernel, by decide +kernel⟩, List.mem_of_getElem? (i := 751) (by decide +kernel), List.mem_of_getElem? (i := 865) (by decide +kernel), List.mem_of_getElem? (i := 866) (by decide +kernel)⟩
theorem lw_p34 : lw_okq (⟨"DialWardensModel", "moves", "(II)V"⟩, 11) := ⟨⟨by decide +kernel, by decide +kernel⟩, List.mem_of_getElem? (i := 751) (by decide +kernel), List.mem_of_getElem? (i := 869) (by decide +kernel), List.mem_of_getElem? (i := 870) (by decide +kernel)⟩
theorem lw_p35 : lw_okq (⟨"DialWardensModel", "go", "(Z)I"⟩, 11) := ⟨⟨by decide +kernel, by decide +kernel⟩, List.mem_of_getElem? (i := 751) (by decide +kernel), List.mem_of_getElem? (i := 904) (by decide +kernel), List.mem_of_getElem? (i := 905) (by decide +kernel)⟩
theorem lw_p36 : lw_okq (⟨"DialWardensModel", "part", "(Z)Z"⟩, 11) := ⟨⟨by decide +kernel, by decide +kernel⟩, List.mem_of_getElem? (i := 751) (by decide +kernel), List.mem_of_getElem? (i := 908) (by decide +kernel), List.mem_of_getElem? (i := 909) (by decide +kernel)⟩
theorem lw_p37 : lw_okq (⟨"DialWardensModel", "isNext", "(II)Z"⟩, 11) := ⟨⟨by decide +kernel, by decide +kernel⟩, List.mem_of_getElem? (i := 751) (by decide +kernel), List.mem_of_getElem? (i := 912) (by decide +kernel), List.mem_of_getElem? (i := 913) (by decide +kernel)⟩
theorem lw_p38 : lw_okq (⟨"DialWardensModel", "sign", "(II)I"⟩, 11) := ⟨⟨by decide +kernel, by decide +kernel⟩, List.mem_of_getElem? (i := 751) (by decide +kernel), List.mem_of_getElem? (i := 916) (by decide +kernel), List.mem_of_getElem? (i := 917) (by decide +kernel)⟩
theorem lw_p39 : lw_okq (⟨"DialWardensModel", "ofDial", "(II)I"⟩, 11) := ⟨⟨by decide +kernel, by decide +kernel⟩, List.mem_of_getElem? (i := 751) (by decide +kernel), List.mem_of_getElem? (i := 940) (by decide +kernel), List.mem_of_getElem? (i := 941) (by decide +kernel)⟩
theorem lw_p40 : lw_okq (⟨"DialWardensModel", "ofWarden", "(II)I"⟩, 11) := ⟨⟨by decide +kernel, by decide +kernel⟩, List.mem_of_getElem? (i := 751) (by decide +kernel), List.mem_of_getElem? (i := 948) (by decide +kernel), List.mem_of_getElem? (i := 949) (by decide +kernel)⟩
theorem lw_p41 : lw_okq (⟨"DialWardensModel", "placeOf", "(I)I"⟩, 11) := ⟨⟨by decide +kernel, by decide +kernel⟩, List.mem_of_getElem? (i := 751) (by decide +kernel), List.mem_of_getElem? (i := 952) (by decide +kernel), List.mem_of_getElem? (i := 953) (by decide +kernel)⟩
theorem lw_p42 : lw_okq (⟨"DialWardensModel", "number", "(I)I"⟩, 11) := ⟨⟨by decide +kernel, by decide +kernel⟩, List.mem_of_getElem? (i := 751) (by decide +kernel), List.mem_of_getElem? (i := 960) (by decide +kernel), List.mem_of_getElem? (i := 961) (by decide +kernel)⟩
theorem lw_p43 : lw_okq (⟨"DialWardensModel", "quarrels", "()I"⟩, 11) := ⟨⟨by decide +kernel, by decide +kernel⟩, List.mem_of_getElem? (i := 751) (by decide +kernel), List.mem_of_getElem? (i := 964) (by decide +kernel), List.mem_of_getElem? (i := 965) (by decide +kernel)⟩
theorem lw_p44 : lw_okq (⟨"DialWardensModel", "all", "(I)I"⟩, 11) := ⟨⟨by decide +kernel, by decide +kernel⟩, List.mem_of_getElem? (i := 751) (by decide +kernel), List.mem_of_getElem? (i := 968) (by decide +kernel), List.mem_of_getElem? (i := 969) (by decide +kernel)⟩
theorem lw_p45 : lw_okq (⟨"DialWardensModel", "wrongDials", "()I"⟩, 11) := ⟨⟨by decide +kernel, by decide +kernel⟩, List.mem_of_getElem? (i := 751) (by decide +kernel), List.mem_of_getElem? (i := 972) (by decide +kernel), List.mem_of_getElem? (i := 973) (by decide +kernel)⟩
theorem lw_p46 : lw_okq (⟨"DialWardensModel", "middleWith", "(II)I"⟩, 11) := ⟨⟨by decide +kernel, by decide +kernel⟩, List.mem_of_getElem? (i := 751) (by decide +kernel), List.mem_of_getElem? (i := 984) (by decide +kernel), List.mem_of_getElem? (i := 985) (by decide +kernel)⟩
theorem lw_p47 : lw_okq (⟨"DialWardensModel", "matters", "()I"⟩, 11) := ⟨⟨by decide +kernel, by decide +kernel⟩, List.mem_of_getElem? (i := 751) (by decide +kernel), List.mem_of_getElem? (i := 992) (by decide +kernel), List.mem_of_getElem? (i := 993) (by decide +kernel)⟩
def lw_privs_3 : List (MethodName × Nat) := [(⟨"DialWardensModel", "corrects", "()I"⟩, 11), (⟨"DialWardensModel", "right", "(I)I"⟩, 11), (⟨"DialWardensModel", "moves", "(II)V"⟩, 11), (⟨"DialWardensModel", "go", "(Z)I"⟩, 11), (⟨"DialWardensModel", "part", "(Z)Z"⟩, 11), (⟨"DialWardensModel", "isNext", "(II)Z"⟩, 11), (⟨"DialWardensModel", "sign", "(II)I"⟩, 11), (⟨"DialWardensModel", "ofDial", "(II)I"⟩, 11), (⟨"DialWardensModel", "ofWarden", "(II)I"⟩, 11), (⟨"DialWardensModel", "placeOf", "(I)I"⟩, 11), (⟨"DialWardensModel", "number", "(I)I"⟩, 11), (⟨"DialWardensModel", "quarrels", "()I"⟩, 11), (⟨"DialWardensModel", "all", "(I)I"⟩, 11), (⟨"DialWardensModel", "wrongDials", "()I"⟩, 11), (⟨"DialWardensModel", "middleWith", "(II)I"⟩, 11), (⟨"DialWardensModel", "matters", "()I"⟩, 11)]
theorem lw_r3 : ∀ q ∈ lw_privs_3, lw_okq q := List.forall_mem_cons.mpr ⟨lw_p32, List.forall_mem_cons.mpr ⟨lw_p33, List.forall_mem_cons.mpr ⟨lw_p34, List.forall_mem_cons.mpr ⟨lw_p35, List.forall_mem_cons.mpr ⟨lw_p36, List.forall_mem_cons.mpr ⟨lw_p37, List.forall_mem_cons.mpr ⟨lw_p38, List.forall_mem_cons.mpr ⟨lw_p39, List.forall_mem_cons.mpr ⟨lw_p40, List.forall_mem_cons.mpr ⟨lw_p41, List.forall_mem_cons.mpr ⟨lw_p42, List.forall_mem_cons.mpr ⟨lw_p43, List.forall_mem_cons.mpr ⟨lw_p44, List.forall_mem_cons.mpr ⟨lw_p45, List.forall_mem_cons.mpr ⟨lw_p46, List.forall_mem_cons.mpr ⟨lw_p47, fun _ h => absurd h List.not_mem_nil⟩⟩⟩⟩⟩⟩⟩⟩⟩⟩⟩⟩⟩⟩⟩⟩
theorem lw_p48 : lw_okq (⟨"DialWardensModel", "winning", "(I)I"⟩, 11) := ⟨⟨by decide +kernel, by decide +kernel⟩, List.mem_of_getElem? (i := 751) (by decide +kernel), List.mem_of_getElem? (i := 1000) (by decide +kernel), List.mem_of_getElem? (i := 1001) (by decide +kernel)⟩
theorem lw_p49 : lw_okq (⟨"DialWardensModel", "quarrelsIn", "(I)I"⟩, 11) := ⟨⟨by decide +kernel, by decide +kernel⟩, List.mem_of_getElem? (i := 751) (by decide +kernel), List.mem_of_getElem? (i := 1008) (by decide +kernel), List.mem_of_getElem? (i := 1009) (by decide +kernel)⟩
theorem lw_p50 : lw_okq (⟨"DialWardensModel", "putAside", "()V"⟩, 11) := ⟨⟨by decide +kernel, by decide +kernel⟩, List.mem_of_getElem? (i := 751) (by decide +kernel), List.mem_of_getElem? (i := 1012) (by decide +kernel), List.mem_of_getElem? (i := 1013) (by decide +kernel)⟩
theorem lw_p51 : lw_okq (⟨"DialWardensModel", "putBack", "()V"⟩, 11) := ⟨⟨by decide +kernel, by decide +kernel⟩, List.mem_of_getElem? (i := 751) (by decide +kernel), List.mem_of_getElem? (i := 1016) (by decide +kernel), List.mem_of_getElem? (i := 1017) (by decide +kernel)⟩
theorem lw_p52 : lw_okq (⟨"DialWardensModel", "bellIn", "(I)I"⟩, 11) := ⟨⟨by decide +kernel, by decide +kernel⟩, List.mem_of_getElem? (i := 751) (by decide +kernel), List.mem_of_getElem? (i := 1024) (by decide +kernel), List.mem_of_getElem? (i := 1025) (by decide +kernel)⟩
theorem lw_p53 : lw_okq (⟨"DialWardensModel", "share", "()D"⟩, 11) := ⟨⟨by decide +kernel, by decide +kernel⟩, List.mem_of_getElem? (i := 751) (by decide +kernel), List.mem_of_getElem? (i := 1032) (by decide +kernel), List.mem_of_getElem? (i := 1033) (by decide +kernel)⟩
theorem lw_p54 : lw_okq (⟨"DialWardensModel", "mean", "()F"⟩, 11) := ⟨⟨by decide +kernel, by decide +kernel⟩, List.mem_of_getElem? (i := 751) (by decide +kernel), List.mem_of_getElem? (i := 1040) (by decide +kernel), List.mem_of_getElem? (i := 1041) (by decide +kernel)⟩
def lw_privs_4 : List (MethodName × Nat) := [(⟨"DialWardensModel", "winning", "(I)I"⟩, 11), (⟨"DialWardensModel", "quarrelsIn", "(I)I"⟩, 11), (⟨"DialWardensModel", "putAside", "()V"⟩, 11), (⟨"DialWardensModel", "putBack", "()V"⟩, 11), (⟨"DialWardensModel", "bellIn", "(I)I"⟩, 11), (⟨"DialWardensModel", "share", "()D"⟩, 11), (⟨"DialWardensModel", "mean", "()F"⟩, 11)]
theorem lw_r4 : ∀ q ∈ lw_privs_4, lw_okq q := List.forall_mem_cons.mpr ⟨lw_p48, List.forall_mem_cons.mpr ⟨lw_p49, List.forall_mem_cons.mpr ⟨lw_p50, List.forall_mem_cons.mpr ⟨lw_p51, List.forall_mem_cons.mpr ⟨lw_p52, List.forall_mem_cons.mpr ⟨lw_p53, List.forall_mem_cons.mpr ⟨lw_p54, fun _ h => absurd h List.not_mem_nil⟩⟩⟩⟩⟩⟩⟩
def lw_privs : List (MethodName × Nat) := lw_privs_1 ++ (lw_privs_2 ++ (lw_privs_3 ++ (lw_privs_4)))
def lw_tbl : List Cond := k2_sels lw_privs ++ tables_1
theorem lw_privs_ok : ∀ q ∈ lw_privs, lw_okq q := by
  show ∀ q ∈ lw_privs_1 ++ (lw_privs_2 ++ (lw_privs_3 ++ (lw_privs_4))), lw_okq q
  exact List.forall_mem_append.mpr ⟨lw_r1, List.forall_mem_append.mpr ⟨lw_r2, List.forall_mem_append.mpr ⟨lw_r3, lw_r4⟩⟩⟩
/-- the streams that the claim lets the run draw from -/
abbrev lw_cs : List Choice := [Jvm.Choice.named "NaN.bits"]
theorem lw_bits : nanBits ∈ lw_cs := by first | decide | exact List.mem_cons_self | simp [lw_cs, nanBits]
-- ===== end of PART A; then your names; then what follows =====
end
section
/-! ===== BEGIN words of one list among another's, by their places ===== -/
theorem goodIn_r {big : List Cond} (ws : List Cond) (ps : List Nat) (hp : ws = ps.filterMap (fun i => big[i]?)) (h : ws.all goodWord = true) : GoodIn big ws := by
  intro w hw
  have h1 := List.all_eq_true.mp h w hw
  rw [hp] at hw
  obtain ⟨i, -, hi⟩ := List.mem_filterMap.mp hw
  have hm : w ∈ big := by first | exact List.mem_of_getElem? hi | exact List.getElem?_mem hi
  exact ⟨hm, good_of_word h1⟩
theorem goodIn_app {big a b : List Cond} (ha : GoodIn big a) (hb : GoodIn big b) : GoodIn big (a ++ b) := fun w h => (List.mem_append.mp h).elim (ha w) (hb w)
theorem goodIn_ca {big a b : List Cond} {c : Cond} (ha : GoodIn big (c :: a)) (hb : GoodIn big b) : GoodIn big (c :: (a ++ b)) := fun w h => (List.mem_cons.mp h).elim (fun e => ha w (List.mem_cons.mpr (Or.inl e))) (fun h => (List.mem_append.mp h).elim (fun h => ha w (List.mem_cons.mpr (Or.inr h))) (hb w))
theorem goodIn_sub {big ws : List Cond} (hm : ∀ w ∈ ws, w ∈ big) (h : ws.all goodWord = true) : GoodIn big ws := fun w hw => ⟨hm w hw, good_of_word (List.all_eq_true.mp h w hw)⟩
/-! ===== END ===== -/

/-! ===== BEGIN exceptions that leave a method, and their catching by the caller (launches without stack traces) ===== -/
section VXA
/-! The laws vx_back, vx_callV, vx_callS, vx_callSW, vx_throw0, vx_throwS follow proofs of the library, with one case more: JvmDerived/Free/Laws.lean (Back.of_free), Shelf42/LK1.lean (callV, callS), Shelf/KitTraced.lean (throwNew0V, throwNewS). -/
/-- where a method has thrown q: the class by its name, the cell, what was written, the world -/
def vx_T (XC : String → State → State → Prop) (st : State) (q : Addr) (t : State) (mc ms : Nat) (free : Addr → Prop) : Prop :=
  ∃ (E : String) (ce : Cell) (L : List Loc), XC E st t ∧ t.heap[q]? = some ce ∧ ce.vm = .none ∧ st.vm.findClass E = some ce.cls ∧ st.WarmedH t.vm ∧ st.sameButNew ({ t with vm := st.vm } : State) L mc ms ∧ ∀ z ∈ L, free z.base
def vx_Q (Qc : Array Value → State → Outcome → State → Prop) (XC : String → State → State → Prop) (mc ms : Nat) (free : Addr → Prop) : Array Value → State → Outcome → State → Prop := fun a st o t =>
  (Qc a st o t ∧ ∃ L, FrameEnd st o t L mc ms ∧ ∀ q ∈ L, free q.base) ∨ ∃ q, o = .threw q ∧ vx_T XC st q t mc ms free
/-- a callee that returns or throws -/
def vx_Met (l : Launch) (y : MethodName) (ws : List Cond) (rm : Room) (Pc : Array Value → State → Prop) (Qc : Array Value → State → Outcome → State → Prop) (XC : String → State → State → Prop) (mc ms : Nat) (free : Addr → Prop) : Prop :=
  MetFree l y (headSpec ws rm) Pc (fun _ _ _ _ _ => True) (vx_Q Qc XC mc ms free)
def vx_Post (XC : String → State → State → Prop) (mc ms : Nat) (free : Addr → Prop) : Pt → Array Value → Addr → Pt → Prop := fun A a q B =>
  ∃ (g : JFrame) (mk : MethodId) (t : State) (L : List Loc) (E : String) (ce : Cell), B.U.heap = t.heap ∧ B.U.vm = t.vm ∧ XC E (A.U.calling g mk a) t ∧ t.heap[q]? = some ce ∧ ce.vm = .none ∧ A.U.vm.findClass E = some ce.cls ∧ B.locs = A.locs ++ L ∧ (∀ z ∈ L, free z.base) ∧ B.cells = A.cells + mc ∧ B.slots = A.slots + ms
def vx_Back (l : Launch) (R : Room) (p : Program) (e : Env) (below : List Frame) (s : State) (sargs : Array Value) (y : MethodName) (len W9 : Nat)
    (Pre : Pt → Array Value → Prop) (Post : Pt → Array Value → Option Value → Pt → Prop) (PostX : Pt → Array Value → Addr → Pt → Prop) : Prop :=
  ∀ (m : MethodId) (meth : Method) (c : Code) (A : Pt) (g : JFrame) (ig : Instr) (mk : MethodId) (a : Array Value),
    Stand p l e R s m sargs below meth c A.U A.locs A.cells A.slots → g.method = m → g.locals.size = c.maxLocals → decode c.code g.pc = .ok (ig, len) →
    2 * g.monitorRoom + (g.stack.map fun v => v.category).sum ≤ W9 → A.U.methodNamed? y = some mk → Pre A a →
    (∃ (v : Option Value) (B : Pt), Stand p l e R s m sargs below meth c B.U B.locs B.cells B.slots ∧ Post A a v B ∧
      Steps p.tables e below (doInvoke e (A.U.setTop g) [] mk a).1 (B.U.setTop { g with pc := g.pc + len, stack := v.toList ++ g.stack })) ∨
    (∃ (q : Addr) (B : Pt), Stand p l e R s m sargs below meth c B.U B.locs B.cells B.slots ∧ PostX A a q B ∧
      Steps p.tables e below (doInvoke e (A.U.setTop g) [] mk a).1 ((B.U.setTop g).pushFrame (.throwing q)))
section Payer
variable {l : Launch} {R : Room} {p : Program} {e : Env} {below : List Frame} {s : State} {sargs : Array Value} {y : MethodName} {len W9 : Nat}
theorem vx_back {ws : List Cond} {rm : Room} {Pc : Array Value → State → Prop} {Qc : Array Value → State → Outcome → State → Prop} {XC : String → State → State → Prop} {mc ms : Nat} {free : Addr → Prop} {bytes : ByteArray} {maxL : Nat} {ret : Option FieldType}
    (hM : vx_Met l y ws rm Pc Qc XC mc ms free) (hblind : FrameBlind Pc) (hrc : rm.cells = mc) (hrs : rm.slots = ms)
    (hframes : rm.frames + 1 ≤ R.frames) (hlocals : W9 + (maxL + 11) + rm.locals ≤ R.locals)
    (hws : ∀ w ∈ ws, ∀ a' U, s.WarmedH U.vm → w.before a' U = true) (hcode : Cond.code y bytes maxL ret ∈ ws) (hinit : ∀ a' U, s.WarmedH U.vm → (Cond.initialized y.cls).before a' U = true) :
    vx_Back l R p e below s sargs y len W9 (PreOf R mc ms Pc) (PostOf Qc mc ms free) (vx_Post XC mc ms free) := by
  intro m meth c A g ig mk a X hg hsize hdg hW hn hp
  have h1 : (headSpec ws rm).pre.before a A.U = true := atoms_intro fun w hw => hws w hw _ _ X.warmed
  have h2 : (Cond.code y bytes maxL ret).before a A.U = true := hws _ hcode _ _ X.warmed
  have h3 : (Cond.initialized y.cls).before a A.U = true := hinit _ _ X.warmed
  have h4 : A.cells + (headSpec ws rm).room.cells ≤ R.cells := by rw [show (headSpec ws rm).room.cells = mc from hrc]; exact hp.1
  have h5 : A.slots + (headSpec ws rm).room.slots ≤ R.slots := by rw [show (headSpec ws rm).room.slots = ms from hrs]; exact hp.2.1
  have hPc : Pc a (A.U.calling g mk a) := hblind _ _ _ _ hp.2.2
  obtain ⟨U, Ls, c0, s0⟩ := A
  dsimp only [Pt.U, Pt.locs, Pt.cells, Pt.slots] at h1 h2 h3 h4 h5 X hn hPc ⊢
  obtain ⟨methY, cY, hmY, hcY, -, hlY, -, -, -, -⟩ := Cond.code_spec hn h2
  obtain ⟨kY, hkY, -⟩ := className_of_methodNamed hn
  have hinitY : kY.init = .initialized := Cond.initialized_spec (findClass_of_methodNamed hn) hkY h3
  have h : At U g.method c below := by rw [hg]; exact X.here
  have hlocals9 : W9 + (maxL + 11) + (headSpec ws rm).room.locals ≤ R.locals := hlocals
  have happ : (headSpec ws rm).appliesLoose y e.platform (U.calling g mk a) = true :=
    Spec.appliesLoose_calling (g := g) h hdg hn hkY hinitY
      (X.room_calling (g := g) (R' := (headSpec ws rm).room) hsize hmY hcY hframes (by rw [hlY]; omega) h4 h5) h1
  obtain ⟨mid, hmid⟩ := h.above
  have hfr : (U.setTop g).frames = (.java g :: mid) ++ below := by rw [State.frames_setTop' g h.top, hmid]; rfl
  obtain ⟨o, s₂, hsteps, -, hend, hq⟩ := Steps.callFree hM p X.admits X.cas X.clock (acts := []) hfr happ hPc trivial
  have hq' : vx_Q Qc XC mc ms free a (U.calling g mk a) o s₂ := hq
  rw [State.frames_setTop' g h.top] at hend
  obtain ⟨g₀, hg0⟩ := Option.isSome_iff_exists.mp h.top
  obtain ⟨r, hr⟩ := State.topJava?_eq_some.mp hg0
  have hr' : (({ U with heap := s₂.heap, slotsUsed := s₂.slotsUsed } : State).setVm s₂.vm).frames = .java g₀ :: r := hr
  rcases hq' with ⟨hqc, L, hfe, hL⟩ | ⟨q, rfl, E, ce, L, hx, hce, hcv, hcl, hW₂, hsm, hL⟩
  · obtain ⟨⟨v, rfl⟩, hW₂, e2, q2, q3, q4, q5, q6⟩ := id hfe
    have e3 : s₂ = ({ (U.calling g mk a).setFrames s₂.frames with heap := s₂.heap, slotsUsed := s₂.slotsUsed } : State).setVm s₂.vm := by
      have : s₂ = ({ s₂ with vm := (U.calling g mk a).vm } : State).setVm s₂.vm := rfl
      rw [e2] at this
      exact this
    obtain ⟨c₂, i₂, len₂, hc₂, hd₂, hf₂⟩ := hend
    have hW' : U.WarmedH s₂.vm := hW₂
    have hcc : c₂ = c := by
      have h1 : s₂.code? g.method = U.code? g.method := by
        rw [State.code?_eq, State.code?_eq, hW'.alike.method?]
      exact Option.some.inj (hc₂.symm.trans (h1.trans h.code))
    subst hcc
    have hlen : len₂ = len := by rw [hdg] at hd₂; cases hd₂; rfl
    subst hlen
    have hs₂ : s₂ = (({ U with heap := s₂.heap, slotsUsed := s₂.slotsUsed } : State).setVm s₂.vm).setTop { g with pc := g.pc + len₂, stack := v.toList ++ g.stack } := by
      refine e3.trans ?_
      rw [hf₂, State.calling_eq h.top, State.setFrames_setFrames, State.setTop_of_frames _ hr', hr]
      rfl
    have hsame : U.sameButNew ({ U with heap := s₂.heap, slotsUsed := s₂.slotsUsed } : State) L mc ms := by
      refine ⟨?_, q2, q3, q4, q5, q6⟩
      obtain ⟨t, ht, -⟩ := State.frames_cons hr
      show ({ U with heap := s₂.heap, slotsUsed := s₂.slotsUsed } : State) = { U.setFrames U.frames with heap := s₂.heap, slotsUsed := s₂.slotsUsed }
      rw [State.setFrames_self ht]
    subst hg
    refine Or.inl ⟨v, ⟨(({ U with heap := s₂.heap, slotsUsed := s₂.slotsUsed } : State).setVm s₂.vm), Ls ++ L, c0 + mc, s0 + ms⟩,
      ⟨X.admits, X.cas, X.clock, X.frames, X.room, X.hears, X.method, X.code, (X.here.setHeapUsed s₂.heap s₂.slotsUsed).setVm hW'.alike, X.tail, State.WarmedH.trans X.warmed hW', X.limits, X.bytes, X.same.trans (hsame.setVm s.vm)⟩,
      ⟨g, mk, s₂, L, rfl, rfl, hqc, rfl, hL, rfl, rfl⟩, ?_⟩
    show Steps p.tables e below _ ((({ U with heap := s₂.heap, slotsUsed := s₂.slotsUsed } : State).setVm s₂.vm).setTop { g with pc := g.pc + len₂, stack := v.toList ++ g.stack })
    rw [← hs₂]
    exact hsteps
  · obtain ⟨e2, q2, q3, q4, q5, q6⟩ := id hsm
    have e3 : s₂ = ({ (U.calling g mk a).setFrames s₂.frames with heap := s₂.heap, slotsUsed := s₂.slotsUsed } : State).setVm s₂.vm := by
      have : s₂ = ({ s₂ with vm := (U.calling g mk a).vm } : State).setVm s₂.vm := rfl
      rw [e2] at this
      exact this
    have hf₂ : s₂.frames = .throwing q :: .java g :: U.frames.tail := hend
    have hW' : U.WarmedH s₂.vm := hW₂
    have hs₂ : s₂ = ((({ U with heap := s₂.heap, slotsUsed := s₂.slotsUsed } : State).setVm s₂.vm).setTop g).pushFrame (.throwing q) := by
      refine e3.trans ?_
      rw [hf₂, State.calling_eq h.top, State.setFrames_setFrames, State.pushFrame, State.frames_setTop _ hr', State.setTop_of_frames _ hr', State.setFrames_setFrames, hr]
      rfl
    have hsame : U.sameButNew ({ U with heap := s₂.heap, slotsUsed := s₂.slotsUsed } : State) L mc ms := by
      refine ⟨?_, q2, q3, q4, q5, q6⟩
      obtain ⟨t, ht, -⟩ := State.frames_cons hr
      show ({ U with heap := s₂.heap, slotsUsed := s₂.slotsUsed } : State) = { U.setFrames U.frames with heap := s₂.heap, slotsUsed := s₂.slotsUsed }
      rw [State.setFrames_self ht]
    subst hg
    refine Or.inr ⟨q, ⟨(({ U with heap := s₂.heap, slotsUsed := s₂.slotsUsed } : State).setVm s₂.vm), Ls ++ L, c0 + mc, s0 + ms⟩,
      ⟨X.admits, X.cas, X.clock, X.frames, X.room, X.hears, X.method, X.code, (X.here.setHeapUsed s₂.heap s₂.slotsUsed).setVm hW'.alike, X.tail, State.WarmedH.trans X.warmed hW', X.limits, X.bytes, X.same.trans (hsame.setVm s.vm)⟩,
      ⟨g, mk, s₂, L, E, ce, rfl, rfl, hx, hce, hcv, hcl, rfl, hL, rfl, rfl⟩, ?_⟩
    show Steps p.tables e below _ (((({ U with heap := s₂.heap, slotsUsed := s₂.slotsUsed } : State).setVm s₂.vm).setTop g).pushFrame (.throwing q))
    rw [← hs₂]
    exact hsteps
end Payer
section Calls
variable {p : Program} {l : Launch} {e : Env} {R : Room} {s : State} {m : MethodId} {args : Array Value} {below : List Frame} {meth : Method} {c : Code} {T : State} {locs : List Loc} {cells slots : Nat}
theorem vx_callV (X : Stand p l e R s m args below meth c T locs cells slots) (hexec : p.tables.exec = Jvm.exec) {own C : String} {index : Nat} {y : MethodName} {bytes : ByteArray} {maxL : Nat} {ret : Option FieldType}
    (hown : s.vm.findClass own = some m.cls) (hlink : (Cond.methodLink own index y).before args s = true) (hinst : (Cond.instanceMethod y).before args s = true) (hsel : (Cond.selects C y y).before args s = true)
    (hcode : (Cond.code y bytes maxL ret).before args s = true) (hy : y.cls ≠ "java/lang/invoke/MethodHandle" ∧ y.cls ≠ "java/lang/invoke/VarHandle")
    {W9 : Nat} {Pre : Pt → Array Value → Prop} {Post : Pt → Array Value → Option Value → Pt → Prop} {PostX : Pt → Array Value → Addr → Pt → Prop} (hK : vx_Back l R p e below s args y 3 W9 Pre Post PostX)
    {b : Addr} {cellB : Cell} (hcell : T.heap[b]? = some cellB) (hobj : cellB.vm.isStatics = false) (hcls : s.vm.findClass C = some cellB.cls)
    {g : JFrame} (hg : g.method = m) (hsize : g.locals.size = c.maxLocals) {argsL rest : List Value} (hlen : ∀ sig, parseMethodDescriptor y.desc = some sig → argsL.length = sig.parameters.length)
    (hstack : g.stack = argsL.reverse ++ .ref b :: rest) (hW : 2 * g.monitorRoom + (rest.map fun v => v.category).sum ≤ W9) (hdg : decode c.code g.pc = .ok (.invokevirtual index, 3))
    (hpre : ∀ vm₁, s.WarmedH vm₁ → Pre ⟨T.setVm vm₁, locs, cells, slots⟩ (Value.ref b :: argsL).toArray) :
    (∃ (v : Option Value) (vm₁ : Vm) (B : Pt), s.WarmedH vm₁ ∧ Stand p l e R s m args below meth c B.U B.locs B.cells B.slots ∧ Post ⟨T.setVm vm₁, locs, cells, slots⟩ (Value.ref b :: argsL).toArray v B ∧
      ∀ target, Steps p.tables e below (B.U.setTop { g with pc := g.pc + 3, stack := v.toList ++ rest }) target → Steps p.tables e below (T.setTop g) target) ∨
    (∃ (q : Addr) (vm₁ : Vm) (B : Pt), s.WarmedH vm₁ ∧ Stand p l e R s m args below meth c B.U B.locs B.cells B.slots ∧ PostX ⟨T.setVm vm₁, locs, cells, slots⟩ (Value.ref b :: argsL).toArray q B ∧
      Steps p.tables e below (T.setTop g) ((B.U.setTop { g with stack := rest }).pushFrame (.throwing q))) := by
  obtain ⟨mk, methM, hnamed, hmethM, hstM, habM⟩ := Cond.instanceMethod_spec hinst
  obtain ⟨methM', cM, hmethM', -, -, -, -, -, -, hsigM⟩ := Cond.code_spec hnamed hcode
  cases hmethM.symm.trans hmethM'
  obtain ⟨c2, r2, m2, q1, q2, q3, q4, kP, hkP, hkPi⟩ := Cond.selects_spec hsel
  cases hcls.symm.trans q1
  cases (State.methodFound?_of_named hnamed hy).symm.trans q2
  cases hnamed.symm.trans q3
  have hselP : selectMethod e.platform s.vm cellB.cls mk = .method mk := by rw [Launch.admits_selectMethod X.admits]; exact q4
  obtain ⟨vm₁, X₁, hstep₁⟩ := X.invokevirtual hexec hown hlink hnamed hmethM hstM hkP hkPi hy (a := b) (cell := cellB) hcell
    (fun z h => by rw [h] at hobj; cases hobj) hselP hmethM habM hkP hkPi (g := g) hg (argsL := argsL) (rest := rest) (hlen _ hsigM) hstack hdg
  rcases hK m meth c ⟨T.setVm vm₁, locs, cells, slots⟩ { g with stack := rest } (.invokevirtual index) mk (Value.ref b :: argsL).toArray X₁ hg hsize hdg hW (X₁.named hnamed) (hpre vm₁ X₁.warmed) with ⟨v, B, X', hpost, hsteps⟩ | ⟨q, B, X', hpost, hsteps⟩
  · exact Or.inl ⟨v, vm₁, B, X₁.warmed, X', hpost, fun target h => hstep₁ _ fun acts => by rw [doInvoke_state]; exact hsteps.trans h⟩
  · exact Or.inr ⟨q, vm₁, B, X₁.warmed, X', hpost, hstep₁ _ fun acts => by rw [doInvoke_state]; exact hsteps⟩
theorem vx_callS (X : Stand p l e R s m args below meth c T locs cells slots) (hexec : p.tables.exec = Jvm.exec) {own : String} {index : Nat} {y : MethodName} {bytes : ByteArray} {maxL : Nat} {ret : Option FieldType}
    (hown : s.vm.findClass own = some m.cls) (hlink : (Cond.methodLink own index y).before args s = true) (hstat : (Cond.static y).before args s = true) (hinit : (Cond.initialized y.cls).before args s = true)
    (hcode : (Cond.code y bytes maxL ret).before args s = true) (hy : y.cls ≠ "java/lang/invoke/MethodHandle" ∧ y.cls ≠ "java/lang/invoke/VarHandle")
    {W9 : Nat} {Pre : Pt → Array Value → Prop} {Post : Pt → Array Value → Option Value → Pt → Prop} {PostX : Pt → Array Value → Addr → Pt → Prop} (hK : vx_Back l R p e below s args y 3 W9 Pre Post PostX)
    {g : JFrame} (hg : g.method = m) (hsize : g.locals.size = c.maxLocals) {argsL rest : List Value} (hlen : ∀ sig, parseMethodDescriptor y.desc = some sig → argsL.length = sig.parameters.length)
    (hstack : g.stack = argsL.reverse ++ rest) (hW : 2 * g.monitorRoom + (rest.map fun v => v.category).sum ≤ W9) (hdg : decode c.code g.pc = .ok (.invokestatic index, 3))
    (hpre : ∀ vm₁, s.WarmedH vm₁ → Pre ⟨T.setVm vm₁, locs, cells, slots⟩ argsL.toArray) :
    (∃ (v : Option Value) (vm₁ : Vm) (B : Pt), s.WarmedH vm₁ ∧ Stand p l e R s m args below meth c B.U B.locs B.cells B.slots ∧ Post ⟨T.setVm vm₁, locs, cells, slots⟩ argsL.toArray v B ∧
      ∀ target, Steps p.tables e below (B.U.setTop { g with pc := g.pc + 3, stack := v.toList ++ rest }) target → Steps p.tables e below (T.setTop g) target) ∨
    (∃ (q : Addr) (vm₁ : Vm) (B : Pt), s.WarmedH vm₁ ∧ Stand p l e R s m args below meth c B.U B.locs B.cells B.slots ∧ PostX ⟨T.setVm vm₁, locs, cells, slots⟩ argsL.toArray q B ∧
      Steps p.tables e below (T.setTop g) ((B.U.setTop { g with stack := rest }).pushFrame (.throwing q))) := by
  obtain ⟨mk, hnamed⟩ := Cond.code_named hcode
  obtain ⟨methM, cM, hmethM, -, -, -, -, -, -, hsigM⟩ := Cond.code_spec hnamed hcode
  have hstatic : methM.isStatic = true := Cond.static_spec hnamed hmethM hstat
  obtain ⟨kP, hkP, -⟩ := className_of_methodNamed hnamed
  have hinitP : kP.init = .initialized := Cond.initialized_spec (findClass_of_methodNamed hnamed) hkP hinit
  obtain ⟨vm₁, X₁, hstep₁⟩ := X.invokestatic hexec hown hlink hnamed hmethM hstatic hkP hinitP hy (g := g) hg (argsL := argsL) (rest := rest) (hlen _ hsigM) hstack hdg
  rcases hK m meth c ⟨T.setVm vm₁, locs, cells, slots⟩ { g with stack := rest } (.invokestatic index) mk argsL.toArray X₁ hg hsize hdg hW (X₁.named hnamed) (hpre vm₁ X₁.warmed) with ⟨v, B, X', hpost, hsteps⟩ | ⟨q, B, X', hpost, hsteps⟩
  · exact Or.inl ⟨v, vm₁, B, X₁.warmed, X', hpost, fun target h => hstep₁ _ fun acts => by rw [doInvoke_state]; exact hsteps.trans h⟩
  · exact Or.inr ⟨q, vm₁, B, X₁.warmed, X', hpost, hstep₁ _ fun acts => by rw [doInvoke_state]; exact hsteps⟩
end Calls
theorem vx_cls {s : State} {T : State} {vm₁ : Vm} {E : String} {k : ClassId} (hW : s.WarmedH vm₁) (h : (T.setVm vm₁).vm.findClass E = some k) : s.vm.findClass E = some k := by
  have h1 : vm₁.findClass E = some k := h
  rw [hW.alike.findClass] at h1
  exact h1
/-- the method's frame g, with q thrown over it -/
def vx_W (p : Program) (l : Launch) (e : Env) (R : Room) (s : State) (m : MethodId) (args : Array Value) (below : List Frame) (meth : Method) (c : Code) (H : Heap) (locs : List Loc) (cells slots : Nat) (Q : State → Prop) (g : JFrame) (q : Addr) : Prop :=
  ∀ T : State, T.heap = H → Stand p l e R s m args below meth c T locs cells slots → ∃ t, Steps p.tables e below ((T.setTop g).pushFrame (.throwing q)) t ∧ Q t
def vx_Run (p : Program) (l : Launch) (e : Env) (R : Room) (s : State) (m : MethodId) (args : Array Value) (below : List Frame) (meth : Method) (c : Code) (H : Heap) (locs : List Loc) (cells slots mc ms : Nat) (g : JFrame) (rest : List Value) (Qa : State → Outcome → State → Prop) (XC : String → State → State → Prop) (free : Addr → Prop) : Prop :=
  ∀ T : State, T.heap = H → Stand p l e R s m args below meth c T locs cells slots →
    (∃ (v : Option Value) (st₀ t T' : State) (L : List Loc), st₀.heap = H ∧ Stand p l e R s m args below meth c T' (locs ++ L) (cells + mc) (slots + ms) ∧ (∀ q ∈ L, free q.base) ∧ T'.heap = t.heap ∧ T'.vm = t.vm ∧ Qa st₀ (.returned v) t ∧
      Goes p e below T g T' { g with pc := g.pc + 3, stack := v.toList ++ rest }) ∨
    (∃ (q : Addr) (st₀ t T' : State) (L : List Loc) (E : String) (ce : Cell), st₀.heap = H ∧ Stand p l e R s m args below meth c T' (locs ++ L) (cells + mc) (slots + ms) ∧ (∀ z ∈ L, free z.base) ∧ T'.heap = t.heap ∧ T'.vm = t.vm ∧ XC E st₀ t ∧ t.heap[q]? = some ce ∧ ce.vm = .none ∧ s.vm.findClass E = some ce.cls ∧
      Steps p.tables e below (T.setTop g) ((T'.setTop { g with stack := rest }).pushFrame (.throwing q)))
def vx_X {S : Type} (px : S → Prop) (B : String → S → State → Prop) (A : Nat → Prop) : String → State → State → Prop := fun E st t => ∃ u : S, px u ∧ B E u t ∧ va_F A st t
section Runs
variable {p : Program} {l : Launch} {e : Env} {R : Room} {s : State} {m : MethodId} {args : Array Value} {below : List Frame} {meth : Method} {c : Code} {H : Heap} {locs : List Loc} {cells slots : Nat}
variable {y : MethodName} {bytes cc : ByteArray} {maxL nL mc ms n index : Nat} {ret : Option FieldType} {ws : List Cond} {rm : Room} {Pc : Array Value → State → Prop} {Qc : Array Value → State → Outcome → State → Prop} {XC : String → State → State → Prop} {free : Addr → Prop} {Ts : List Cond} {own C : String} {b : Addr} {As rest : List Value} {g : JFrame}
theorem vx_callBack (cb : CallB R s args own index y bytes maxL ret ws rm mc ms n) (hM : vx_Met l y ws rm Pc Qc XC mc ms free) (hbl : FrameBlind Pc) : vx_Back l R p e below s args y 3 8 (PreOf R mc ms Pc) (PostOf Qc mc ms free) (vx_Post XC mc ms free) := by
  obtain ⟨hrc, hrs, hfr, hlo, hws, hcw, -, hini, -⟩ := cb
  exact vx_back (bytes := bytes) (maxL := maxL) (ret := ret) hM hbl hrc hrs hfr hlo hws hcw (fun a' U hW => word_at hW (Or.inl (by first | rfl | simp [Cond.onTables, Cond.keeps, Cond.steady])) hini)
theorem vx_runV (S : CallFix p m c cc nL s args Ts own) (hM : vx_Met l y ws rm Pc Qc XC mc ms free) (cw : CallW R s args own C index y bytes maxL ret ws rm mc ms n) (hp : PreV s H C b Pc As)
    (hg : g.method = m) (hn : As.length = n) (hsize : g.locals.size = nL) (hstack : g.stack = As.reverse ++ .ref b :: rest) (hW : 2 * g.monitorRoom + (rest.map fun v => v.category).sum ≤ 8) (hdg : decode cc g.pc = .ok (.invokevirtual index, 3)) (hf : cells + mc ≤ R.cells ∧ slots + ms ≤ R.slots) :
    vx_Run p l e R s m args below meth c H locs cells slots mc ms g rest (Qc (Value.ref b :: As).toArray) XC free := by
  have hK : vx_Back l R p e below s args y 3 8 (PreOf R mc ms Pc) (PostOf Qc mc ms free) (vx_Post XC mc ms free) := vx_callBack cw.1 hM hp.1
  obtain ⟨⟨-, -, -, -, -, -, hcode, -, hy, hlen, hl⟩, hin, hse⟩ := cw
  obtain ⟨hx, hb, hml, ho, -⟩ := S
  obtain ⟨-, ⟨cellB, hcB, hoB, hclB⟩, hPc⟩ := hp
  intro T hT X
  rcases vx_callV X hx (C := C) (bytes := bytes) (maxL := maxL) (ret := ret) ho hl hin hse hcode hy hK (by rw [hT]; exact hcB) hoB hclB hg (hsize.trans hml.symm) (argsL := As) (rest := rest) (fun sig h => hn.trans (hlen sig h)) hstack hW (by rw [hb]; exact hdg)
    (fun vm₁ hW₁ => ⟨hf.1, hf.2, hPc (T.setVm vm₁) hT hW₁⟩) with ⟨v, vm₁, ⟨U', l2, c2, s2⟩, hW₁, X', ⟨g', mk, t, L, e1, e2, hq, h1, hL, h2, h3⟩, st⟩ | ⟨q, vm₁, ⟨U', l2, c2, s2⟩, hW₁, X', ⟨g', mk, t, L, E, ce, e1, e2, hq, hce, hcv, hcl, h1, hL, h2, h3⟩, st⟩
  · dsimp only [Pt.U, Pt.locs, Pt.cells, Pt.slots] at X' e1 e2 h1 h2 h3 st
    subst h1; subst h2; subst h3
    exact Or.inl ⟨v, (T.setVm vm₁).calling g' mk (Value.ref b :: As).toArray, t, U', L, hT, X', hL, e1, e2, hq, st⟩
  · dsimp only [Pt.U, Pt.locs, Pt.cells, Pt.slots] at X' e1 e2 h1 h2 h3 st hcl
    subst h1; subst h2; subst h3
    exact Or.inr ⟨q, (T.setVm vm₁).calling g' mk (Value.ref b :: As).toArray, t, U', L, E, ce, hT, X', hL, e1, e2, hq, hce, hcv, vx_cls hW₁ hcl, st⟩
theorem vx_runS (S : CallFix p m c cc nL s args Ts own) (hM : vx_Met l y ws rm Pc Qc XC mc ms free) (cw : CallB R s args own index y bytes maxL ret ws rm mc ms n ∧ (Cond.static y).before args s = true) (hp : PreS s H Pc As)
    (hg : g.method = m) (hn : As.length = n) (hsize : g.locals.size = nL) (hstack : g.stack = As.reverse ++ rest) (hW : 2 * g.monitorRoom + (rest.map fun v => v.category).sum ≤ 8) (hdg : decode cc g.pc = .ok (.invokestatic index, 3)) (hf : cells + mc ≤ R.cells ∧ slots + ms ≤ R.slots) :
    vx_Run p l e R s m args below meth c H locs cells slots mc ms g rest (Qc As.toArray) XC free := by
  have hK : vx_Back l R p e below s args y 3 8 (PreOf R mc ms Pc) (PostOf Qc mc ms free) (vx_Post XC mc ms free) := vx_callBack cw.1 hM hp.1
  obtain ⟨⟨-, -, -, -, -, -, hcode, hini, hy, hlen, hl⟩, hstt⟩ := cw
  obtain ⟨hx, hb, hml, ho, -⟩ := S
  intro T hT X
  rcases vx_callS X hx (bytes := bytes) (maxL := maxL) (ret := ret) ho hl hstt hini hcode hy hK hg (hsize.trans hml.symm) (argsL := As) (rest := rest) (fun sig h => hn.trans (hlen sig h)) hstack hW (by rw [hb]; exact hdg)
    (fun vm₁ hW₁ => ⟨hf.1, hf.2, hp.2 (T.setVm vm₁) hT hW₁⟩) with ⟨v, vm₁, ⟨U', l2, c2, s2⟩, hW₁, X', ⟨g', mk, t, L, e1, e2, hq, h1, hL, h2, h3⟩, st⟩ | ⟨q, vm₁, ⟨U', l2, c2, s2⟩, hW₁, X', ⟨g', mk, t, L, E, ce, e1, e2, hq, hce, hcv, hcl, h1, hL, h2, h3⟩, st⟩
  · dsimp only [Pt.U, Pt.locs, Pt.cells, Pt.slots] at X' e1 e2 h1 h2 h3 st
    subst h1; subst h2; subst h3
    exact Or.inl ⟨v, (T.setVm vm₁).calling g' mk As.toArray, t, U', L, hT, X', hL, e1, e2, hq, st⟩
  · dsimp only [Pt.U, Pt.locs, Pt.cells, Pt.slots] at X' e1 e2 h1 h2 h3 st hcl
    subst h1; subst h2; subst h3
    exact Or.inr ⟨q, (T.setVm vm₁).calling g' mk As.toArray, t, U', L, E, ce, hT, X', hL, e1, e2, hq, hce, hcv, vx_cls hW₁ hcl, st⟩
end Runs
section Rows
variable {p : Program} {l : Launch} {e : Env} {R : Room} {s : State} {m : MethodId} {args : Array Value} {below : List Frame} {meth : Method} {c : Code} {H : Heap} {locs : List Loc} {cells slots : Nat} {Q : State → Prop}
variable {mc ms : Nat} {free : Addr → Prop} {A0 A1 : Nat → Prop} {H0 : Heap} {a : Array Value} {pc : Nat} {ls : Array Slot} {st0 rest : List Value}
theorem vx_keep {st₀ t T' : State} {L : List Loc} (h0 : st₀.heap = H) (e1 : T'.heap = t.heap) (hS : va_S A0 H0 H locs) (hA : ∀ q, q < H.size → A1 q → A0 q) (hf : ∀ q, free q → A0 q) (hL : ∀ q ∈ L, free q.base) (hF : va_F A1 st₀ t) :
    H.size ≤ T'.heap.size ∧ (∀ q : Nat, q < H.size → ¬ A1 q → T'.heap[q]? = H[q]?) ∧ va_S A0 H0 T'.heap (locs ++ L) := by
  obtain ⟨hz, hk⟩ := hF
  rw [h0] at hz hk
  exact ⟨by rw [e1]; exact hz, fun q h1 h2 => by rw [e1]; exact hk q h1 h2,
    ⟨Nat.le_trans hS.1 (by rw [e1]; exact hz), fun q h1 h2 => by rw [e1, hk q (Nat.lt_of_lt_of_le h1 hS.1) (fun z => h2 (hA q (Nat.lt_of_lt_of_le h1 hS.1) z))]; exact hS.2.1 q h1 h2, fun q hq => by
      rcases List.mem_append.mp hq with h | h
      · exact hS.2.2 q h
      · exact hf _ (hL q h)⟩⟩
theorem vx_calli {S SX : Type} {post : Int32 → S → Prop} {px : SX → Prop} {B : S → State → Prop} {BX : String → SX → State → Prop} {AX : Nat → Prop} (hr : vx_Run p l e R s m args below meth c H locs cells slots mc ms (F0 m pc ls st0) rest (va_Qi post B A1 a) (vx_X px BX AX) free) (hS : va_S A0 H0 H locs) (hA : ∀ q, q < H.size → A1 q → A0 q) (hf : ∀ q, free q → A0 q) (hAX : ∀ q, q < H.size → AX q → A0 q)
    (kx : ∀ (E : String) (ce : Cell) (q9 : Addr) (u : SX) (t : State) (H1 : Heap) (locs1 : List Loc), t.heap = H1 → s.vm.Alike t.vm → px u → BX E u t → H.size ≤ H1.size → (∀ q : Nat, q < H.size → ¬ AX q → H1[q]? = H[q]?) → va_S A0 H0 H1 locs1 → H1[q9]? = some ce → ce.vm = .none → s.vm.findClass E = some ce.cls → vx_W p l e R s m args below meth c H1 locs1 (cells + mc) (slots + ms) Q (F0 m pc ls rest) q9)
    (kk : ∀ (r : Int32) (u : S) (t : State) (H1 : Heap) (locs1 : List Loc), t.heap = H1 → s.vm.Alike t.vm → post r u → B u t → H.size ≤ H1.size → (∀ q : Nat, q < H.size → ¬ A1 q → H1[q]? = H[q]?) → va_S A0 H0 H1 locs1 → W p l e R s m args below meth c H1 locs1 (cells + mc) (slots + ms) Q (F0 m (pc + 3) ls (.int r :: rest))) : W p l e R s m args below meth c H locs cells slots Q (F0 m pc ls st0) := by
  intro T hT X
  rcases hr T hT X with ⟨v, st₀, t, T', L, h0, X', hL, e1, e2, ⟨⟨r, u, hv, hp, hb⟩, hF⟩, st⟩ | ⟨q, st₀, t, T', L, E, ce, h0, X', hL, e1, e2, ⟨u, hp, hb, hF⟩, hce, hcv, hcl, st⟩
  · cases hv
    obtain ⟨k1, k2, k3⟩ := vx_keep h0 e1 hS hA hf hL hF
    obtain ⟨t2, a1, b1⟩ := kk r u t T'.heap (locs ++ L) e1.symm (by rw [← e2]; exact X'.warmed.alike) hp hb k1 k2 k3 T' rfl X'
    exact ⟨t2, st t2 a1, b1⟩
  · obtain ⟨k1, k2, k3⟩ := vx_keep h0 e1 hS hAX hf hL hF
    obtain ⟨t2, a1, b1⟩ := kx E ce q u t T'.heap (locs ++ L) e1.symm (by rw [← e2]; exact X'.warmed.alike) hp hb k1 k2 k3 (by rw [e1]; exact hce) hcv hcl T' rfl X'
    exact ⟨t2, st.trans a1, b1⟩
theorem vx_calll {S SX : Type} {post : Int64 → S → Prop} {px : SX → Prop} {B : S → State → Prop} {BX : String → SX → State → Prop} {AX : Nat → Prop} (hr : vx_Run p l e R s m args below meth c H locs cells slots mc ms (F0 m pc ls st0) rest (va_Ql post B A1 a) (vx_X px BX AX) free) (hS : va_S A0 H0 H locs) (hA : ∀ q, q < H.size → A1 q → A0 q) (hf : ∀ q, free q → A0 q) (hAX : ∀ q, q < H.size → AX q → A0 q)
    (kx : ∀ (E : String) (ce : Cell) (q9 : Addr) (u : SX) (t : State) (H1 : Heap) (locs1 : List Loc), t.heap = H1 → s.vm.Alike t.vm → px u → BX E u t → H.size ≤ H1.size → (∀ q : Nat, q < H.size → ¬ AX q → H1[q]? = H[q]?) → va_S A0 H0 H1 locs1 → H1[q9]? = some ce → ce.vm = .none → s.vm.findClass E = some ce.cls → vx_W p l e R s m args below meth c H1 locs1 (cells + mc) (slots + ms) Q (F0 m pc ls rest) q9)
    (kk : ∀ (r : Int64) (u : S) (t : State) (H1 : Heap) (locs1 : List Loc), t.heap = H1 → s.vm.Alike t.vm → post r u → B u t → H.size ≤ H1.size → (∀ q : Nat, q < H.size → ¬ A1 q → H1[q]? = H[q]?) → va_S A0 H0 H1 locs1 → W p l e R s m args below meth c H1 locs1 (cells + mc) (slots + ms) Q (F0 m (pc + 3) ls (.long r :: rest))) : W p l e R s m args below meth c H locs cells slots Q (F0 m pc ls st0) := by
  intro T hT X
  rcases hr T hT X with ⟨v, st₀, t, T', L, h0, X', hL, e1, e2, ⟨⟨r, u, hv, hp, hb⟩, hF⟩, st⟩ | ⟨q, st₀, t, T', L, E, ce, h0, X', hL, e1, e2, ⟨u, hp, hb, hF⟩, hce, hcv, hcl, st⟩
  · cases hv
    obtain ⟨k1, k2, k3⟩ := vx_keep h0 e1 hS hA hf hL hF
    obtain ⟨t2, a1, b1⟩ := kk r u t T'.heap (locs ++ L) e1.symm (by rw [← e2]; exact X'.warmed.alike) hp hb k1 k2 k3 T' rfl X'
    exact ⟨t2, st t2 a1, b1⟩
  · obtain ⟨k1, k2, k3⟩ := vx_keep h0 e1 hS hAX hf hL hF
    obtain ⟨t2, a1, b1⟩ := kx E ce q u t T'.heap (locs ++ L) e1.symm (by rw [← e2]; exact X'.warmed.alike) hp hb k1 k2 k3 (by rw [e1]; exact hce) hcv hcl T' rfl X'
    exact ⟨t2, st.trans a1, b1⟩
theorem vx_callf {S SX : Type} {post : UInt32 → S → Prop} {px : SX → Prop} {B : S → State → Prop} {BX : String → SX → State → Prop} {AX : Nat → Prop} (hr : vx_Run p l e R s m args below meth c H locs cells slots mc ms (F0 m pc ls st0) rest (va_Qf post B A1 a) (vx_X px BX AX) free) (hS : va_S A0 H0 H locs) (hA : ∀ q, q < H.size → A1 q → A0 q) (hf : ∀ q, free q → A0 q) (hAX : ∀ q, q < H.size → AX q → A0 q)
    (kx : ∀ (E : String) (ce : Cell) (q9 : Addr) (u : SX) (t : State) (H1 : Heap) (locs1 : List Loc), t.heap = H1 → s.vm.Alike t.vm → px u → BX E u t → H.size ≤ H1.size → (∀ q : Nat, q < H.size → ¬ AX q → H1[q]? = H[q]?) → va_S A0 H0 H1 locs1 → H1[q9]? = some ce → ce.vm = .none → s.vm.findClass E = some ce.cls → vx_W p l e R s m args below meth c H1 locs1 (cells + mc) (slots + ms) Q (F0 m pc ls rest) q9)
    (kk : ∀ (r : UInt32) (u : S) (t : State) (H1 : Heap) (locs1 : List Loc), t.heap = H1 → s.vm.Alike t.vm → post r u → B u t → H.size ≤ H1.size → (∀ q : Nat, q < H.size → ¬ A1 q → H1[q]? = H[q]?) → va_S A0 H0 H1 locs1 → W p l e R s m args below meth c H1 locs1 (cells + mc) (slots + ms) Q (F0 m (pc + 3) ls (.float r :: rest))) : W p l e R s m args below meth c H locs cells slots Q (F0 m pc ls st0) := by
  intro T hT X
  rcases hr T hT X with ⟨v, st₀, t, T', L, h0, X', hL, e1, e2, ⟨⟨r, u, hv, hp, hb⟩, hF⟩, st⟩ | ⟨q, st₀, t, T', L, E, ce, h0, X', hL, e1, e2, ⟨u, hp, hb, hF⟩, hce, hcv, hcl, st⟩
  · cases hv
    obtain ⟨k1, k2, k3⟩ := vx_keep h0 e1 hS hA hf hL hF
    obtain ⟨t2, a1, b1⟩ := kk r u t T'.heap (locs ++ L) e1.symm (by rw [← e2]; exact X'.warmed.alike) hp hb k1 k2 k3 T' rfl X'
    exact ⟨t2, st t2 a1, b1⟩
  · obtain ⟨k1, k2, k3⟩ := vx_keep h0 e1 hS hAX hf hL hF
    obtain ⟨t2, a1, b1⟩ := kx E ce q u t T'.heap (locs ++ L) e1.symm (by rw [← e2]; exact X'.warmed.alike) hp hb k1 k2 k3 (by rw [e1]; exact hce) hcv hcl T' rfl X'
    exact ⟨t2, st.trans a1, b1⟩
theorem vx_calld {S SX : Type} {post : UInt64 → S → Prop} {px : SX → Prop} {B : S → State → Prop} {BX : String → SX → State → Prop} {AX : Nat → Prop} (hr : vx_Run p l e R s m args below meth c H locs cells slots mc ms (F0 m pc ls st0) rest (va_Qd post B A1 a) (vx_X px BX AX) free) (hS : va_S A0 H0 H locs) (hA : ∀ q, q < H.size → A1 q → A0 q) (hf : ∀ q, free q → A0 q) (hAX : ∀ q, q < H.size → AX q → A0 q)
    (kx : ∀ (E : String) (ce : Cell) (q9 : Addr) (u : SX) (t : State) (H1 : Heap) (locs1 : List Loc), t.heap = H1 → s.vm.Alike t.vm → px u → BX E u t → H.size ≤ H1.size → (∀ q : Nat, q < H.size → ¬ AX q → H1[q]? = H[q]?) → va_S A0 H0 H1 locs1 → H1[q9]? = some ce → ce.vm = .none → s.vm.findClass E = some ce.cls → vx_W p l e R s m args below meth c H1 locs1 (cells + mc) (slots + ms) Q (F0 m pc ls rest) q9)
    (kk : ∀ (r : UInt64) (u : S) (t : State) (H1 : Heap) (locs1 : List Loc), t.heap = H1 → s.vm.Alike t.vm → post r u → B u t → H.size ≤ H1.size → (∀ q : Nat, q < H.size → ¬ A1 q → H1[q]? = H[q]?) → va_S A0 H0 H1 locs1 → W p l e R s m args below meth c H1 locs1 (cells + mc) (slots + ms) Q (F0 m (pc + 3) ls (.double r :: rest))) : W p l e R s m args below meth c H locs cells slots Q (F0 m pc ls st0) := by
  intro T hT X
  rcases hr T hT X with ⟨v, st₀, t, T', L, h0, X', hL, e1, e2, ⟨⟨r, u, hv, hp, hb⟩, hF⟩, st⟩ | ⟨q, st₀, t, T', L, E, ce, h0, X', hL, e1, e2, ⟨u, hp, hb, hF⟩, hce, hcv, hcl, st⟩
  · cases hv
    obtain ⟨k1, k2, k3⟩ := vx_keep h0 e1 hS hA hf hL hF
    obtain ⟨t2, a1, b1⟩ := kk r u t T'.heap (locs ++ L) e1.symm (by rw [← e2]; exact X'.warmed.alike) hp hb k1 k2 k3 T' rfl X'
    exact ⟨t2, st t2 a1, b1⟩
  · obtain ⟨k1, k2, k3⟩ := vx_keep h0 e1 hS hAX hf hL hF
    obtain ⟨t2, a1, b1⟩ := kx E ce q u t T'.heap (locs ++ L) e1.symm (by rw [← e2]; exact X'.warmed.alike) hp hb k1 k2 k3 (by rw [e1]; exact hce) hcv hcl T' rfl X'
    exact ⟨t2, st.trans a1, b1⟩
theorem vx_callv {S SX : Type} {post : S → Prop} {px : SX → Prop} {B : S → State → Prop} {BX : String → SX → State → Prop} {AX : Nat → Prop} (hr : vx_Run p l e R s m args below meth c H locs cells slots mc ms (F0 m pc ls st0) rest (va_Qv post B A1 a) (vx_X px BX AX) free) (hS : va_S A0 H0 H locs) (hA : ∀ q, q < H.size → A1 q → A0 q) (hf : ∀ q, free q → A0 q) (hAX : ∀ q, q < H.size → AX q → A0 q)
    (kx : ∀ (E : String) (ce : Cell) (q9 : Addr) (u : SX) (t : State) (H1 : Heap) (locs1 : List Loc), t.heap = H1 → s.vm.Alike t.vm → px u → BX E u t → H.size ≤ H1.size → (∀ q : Nat, q < H.size → ¬ AX q → H1[q]? = H[q]?) → va_S A0 H0 H1 locs1 → H1[q9]? = some ce → ce.vm = .none → s.vm.findClass E = some ce.cls → vx_W p l e R s m args below meth c H1 locs1 (cells + mc) (slots + ms) Q (F0 m pc ls rest) q9)
    (kk : ∀ (u : S) (t : State) (H1 : Heap) (locs1 : List Loc), t.heap = H1 → s.vm.Alike t.vm → post u → B u t → H.size ≤ H1.size → (∀ q : Nat, q < H.size → ¬ A1 q → H1[q]? = H[q]?) → va_S A0 H0 H1 locs1 → W p l e R s m args below meth c H1 locs1 (cells + mc) (slots + ms) Q (F0 m (pc + 3) ls (rest))) : W p l e R s m args below meth c H locs cells slots Q (F0 m pc ls st0) := by
  intro T hT X
  rcases hr T hT X with ⟨v, st₀, t, T', L, h0, X', hL, e1, e2, ⟨⟨u, hv, hp, hb⟩, hF⟩, st⟩ | ⟨q, st₀, t, T', L, E, ce, h0, X', hL, e1, e2, ⟨u, hp, hb, hF⟩, hce, hcv, hcl, st⟩
  · cases hv
    obtain ⟨k1, k2, k3⟩ := vx_keep h0 e1 hS hA hf hL hF
    obtain ⟨t2, a1, b1⟩ := kk u t T'.heap (locs ++ L) e1.symm (by rw [← e2]; exact X'.warmed.alike) hp hb k1 k2 k3 T' rfl X'
    exact ⟨t2, st t2 a1, b1⟩
  · obtain ⟨k1, k2, k3⟩ := vx_keep h0 e1 hS hAX hf hL hF
    obtain ⟨t2, a1, b1⟩ := kx E ce q u t T'.heap (locs ++ L) e1.symm (by rw [← e2]; exact X'.warmed.alike) hp hb k1 k2 k3 (by rw [e1]; exact hce) hcv hcl T' rfl X'
    exact ⟨t2, st.trans a1, b1⟩
/-- caught by the row x of this method's table; the rows ahead don't take it -/
theorem vx_catch {own name : String} {E : String} {ce : Cell} {q : Addr} (hown : s.vm.findClass own = some m.cls) (pre : List ExceptionTableEntry) (x : ExceptionTableEntry) (suf : List ExceptionTableEntry) (hsplit : c.exceptionTable.toList = pre ++ x :: suf)
    (hpass : ∀ z ∈ pre, covers z pc = false ∨ (z.catchType ≠ 0 ∧ ∃ nm : String, (Cond.classLink own z.catchType nm).before args s = true ∧ va_Nc E nm s)) (hx : covers x pc = true) (h0 : x.catchType ≠ 0)
    (hlink : (Cond.classLink own x.catchType name).before args s = true) (hcast : (Cond.castable E name).before args s = true) (hcell : H[q]? = some ce) (hv : ce.vm = .none) (hcl : s.vm.findClass E = some ce.cls)
    (kk : W p l e R s m args below meth c H locs cells slots Q (F0 m x.handlerPc ls [.ref q])) : vx_W p l e R s m args below meth c H locs cells slots Q (F0 m pc ls rest) q := by
  intro T hT X
  have hpl : e.platform.magicAccessors = ({} : Platform).magicAccessors := by rw [X.admits.platform]
  obtain ⟨c3, c4, hc3, hc4, hasg⟩ := Cond.castable_spec hcast
  cases Option.some.inj (hc3.symm.trans hcl)
  obtain ⟨c5, hc5, hcl5⟩ := Cond.classLink_spec hown hlink e.platform hpl
  cases Option.some.inj (hc4.symm.trans hc5)
  obtain ⟨vm', X', st⟩ := X.thenCaughtThrough q (g := F0 m pc ls rest) rfl (Steps.refl _) (by rw [hT]; exact hcell) (by rw [hv]; rfl) (by obtain ⟨k9, h9, -⟩ := Vm.findClass_spec hcl; exact ⟨k9, h9⟩) pre x suf hsplit
    (fun z hz => by
      rcases hpass z hz with h | ⟨hz0, nm, hl1, hn1⟩
      · exact Or.inl h
      · obtain ⟨c6, hc6, hcl6⟩ := Cond.classLink_spec hown hl1 e.platform hpl
        obtain ⟨a8, b8, h1, h2, h3⟩ := hn1
        cases Option.some.inj (h1.symm.trans hcl)
        cases Option.some.inj (h2.symm.trans hc6)
        exact Or.inr ⟨hz0, _, hcl6, h3⟩) hx (Or.inr ⟨h0, c4, hcl5, hasg⟩)
  obtain ⟨t, a1, b1⟩ := kk (T.setVm vm') hT X'
  exact ⟨t, st.trans a1, b1⟩
end Rows
section Ends
variable {p : Program} {l : Launch} {e : Env} {R : Room} {s : State} {m : MethodId} {args : Array Value} {below : List Frame} {meth : Method} {c : Code} {H : Heap} {locs : List Loc} {cells slots : Nat} {Q : State → Prop}
variable {mc ms : Nat} {free : Addr → Prop} {A0 A1 : Nat → Prop} {H0 : Heap} {a : Array Value} {ls : Array Slot} {st0 rest : List Value}
variable {Qc : Array Value → State → Outcome → State → Prop} {XC : String → State → State → Prop}
/-- what a body that may throw owes at its end -/
def vx_MQ (below : List Frame) (Qc : Array Value → State → Outcome → State → Prop) (XC : String → State → State → Prop) (a : Array Value) (s : State) (mc ms : Nat) (free : Addr → Prop) : State → Prop := fun t =>
  ∃ o, t.status = .running ∧ Ended t below o ∧ vx_Q Qc XC mc ms free a s o t
theorem vx_ret {g : JFrame} {mc ms : Nat} (k : W p l e R s m args below meth c H locs cells slots (MQ below Qc args s mc ms free) g) : W p l e R s m args below meth c H locs cells slots (vx_MQ below Qc XC args s mc ms free) g := by
  intro T hT X
  obtain ⟨t, a1, o, b1, b2, b3, b4⟩ := k T hT X
  exact ⟨t, a1, o, b1, b2, Or.inl ⟨b3, b4⟩⟩
/-- not caught here: it goes on to the caller -/
theorem vx_widen {g : JFrame} {q : Addr} {k n : Nat} (h1 : cells ≤ k) (h2 : slots ≤ n) (kk : vx_W p l e R s m args below meth c H locs k n Q g q) : vx_W p l e R s m args below meth c H locs cells slots Q g q := fun T hT X => kk T hT (stand_widen X h1 h2)
theorem vx_out {pc : Nat} {E : String} {ce : Cell} {q : Addr} {mc ms : Nat} (hout : ∀ x ∈ c.exceptionTable.toList, covers x pc = false) (hlocks : meth.locks = false) (hcell : H[q]? = some ce) (hv : ce.vm = .none) (hcl : s.vm.findClass E = some ce.cls)
    (hx : ∀ t : State, t.heap = H → s.vm.Alike t.vm → XC E s t) (hf : ∀ z ∈ locs, free z.base) (hc : cells ≤ mc) (hs : slots ≤ ms) :
    vx_W p l e R s m args below meth c H locs cells slots (vx_MQ below Qc XC args s mc ms free) (F0 m pc ls rest) q := by
  intro T hT X
  obtain ⟨st1, hrun, hend, hW, hsm⟩ := X.leaveThrown q (g := F0 m pc ls rest) rfl rfl rfl hout hlocks
  have hcell9 : (T.setFrames (.throwing q :: below)).heap[q]? = some ce := by
    show T.heap[q]? = some ce
    rw [hT]; exact hcell
  exact ⟨_, st1, .threw q, hrun, hend, Or.inr ⟨q, rfl, E, ce, locs, hx _ hT hW.alike, hcell9, hv, hcl, hW, hsm.mono hc hs, hf⟩⟩
theorem vx_frame {U : State} {k n : Nat} (h : s.sameButNew ({ U with vm := s.vm } : State) locs k n) : s.heap.size ≤ U.heap.size ∧ ∀ q : Nat, q < s.heap.size → (∀ z ∈ locs, z.base ≠ q) → U.heap[q]? = s.heap[q]? := by
  obtain ⟨-, h2, -, -, -, h6⟩ := h
  refine ⟨h2, fun q hq hz => ?_⟩
  obtain ⟨c9, e1, e2, e3, e4⟩ := h6 q _ (Array.getElem?_eq_getElem hq)
  have hs : c9.slots = (s.heap[q]).slots := Array.ext_getElem? fun i => e4 i fun hm => hz _ hm rfl
  have h9 : c9 = s.heap[q] := by
    rw [hs] at e2
    exact e2
  have e5 : U.heap[q]? = some c9 := e1
  rw [e5, h9, Array.getElem?_eq_getElem hq]
/-- the words of a throw but the four that speak of the heap -/
def vx_no (w : Cond) : Bool := decide (w ≠ .isRef (.static Bundle.tN "UNASSIGNED_STACK" Bundle.steD)) && decide (w ≠ .isRef (.static Bundle.tN "SUPPRESSED_SENTINEL" Bundle.listD)) && decide (w ≠ .laysStatic Bundle.tN "UNASSIGNED_STACK" Bundle.steD) && decide (w ≠ .laysStatic Bundle.tN "SUPPRESSED_SENTINEL" Bundle.listD)
def vx_at0 (own : String) (ic : Nat) (X : String) (names : List String) : List Cond := (Bundle.ownAtoms0 own ic X names).filter vx_no
def vx_atS (own : String) (ic : Nat) (X : String) (names : List String) : List Cond := (Bundle.ownAtoms own ic X names).filter vx_no
/-- a word that the tables alone decide, or a good one -/
def vx_ot (w : Cond) : Bool := w.onTables || goodWord w
theorem vx_ot_at {args a' : Array Value} {s U : State} {w : Cond} (hW : s.WarmedH U.vm) (hvm : s.vm = U.vm) (hg : vx_ot w = true) (h : w.before args s = true) : w.before a' U = true := by
  simp only [vx_ot, Bool.or_eq_true] at hg
  rcases hg with hg | hg
  · exact va_tabs hg hvm h
  · exact word_at hW (good_of_word hg) h
/-- a list's words: the good ones out of the method's own list, the others by premises of their own -/
theorem vx_hat {args : Array Value} {s : State} {L B : List Cond} (h1 : ∀ w ∈ L.filter goodWord, w.before args s = true) (h2 : ∀ w ∈ L.filter (fun w => !goodWord w), w ∈ B) (h3 : ∀ w ∈ B, w.before args s = true) : ∀ w ∈ L, w.before args s = true := by
  intro w hw
  by_cases g : goodWord w = true
  · exact h1 w (List.mem_filter.mpr ⟨hw, g⟩)
  · refine h3 w (h2 w (List.mem_filter.mpr ⟨hw, ?_⟩))
    show (!goodWord w) = true
    cases hgw : goodWord w
    · rfl
    · exact absurd hgw g
theorem vx_c {args : Array Value} {s : State} {w : Cond} {B : List Cond} (h : w.before args s = true) (t : ∀ w ∈ B, w.before args s = true) : ∀ w' ∈ w :: B, w'.before args s = true := fun w' h' => (List.mem_cons.mp h').elim (fun e => by rw [e]; exact h) (t w')
theorem vx_n {args : Array Value} {s : State} : ∀ w ∈ ([] : List Cond), w.before args s = true := fun _ h => nomatch h
theorem vx_own {args : Array Value} {s : State} {L : List Cond} (h1 : ∀ w ∈ L.filter vx_no, w.before args s = true)
    (hU : (Cond.isRef (.static Bundle.tN "UNASSIGNED_STACK" Bundle.steD)).before args s = true) (hN : (Cond.isRef (.static Bundle.tN "SUPPRESSED_SENTINEL" Bundle.listD)).before args s = true)
    (lU : (Cond.laysStatic Bundle.tN "UNASSIGNED_STACK" Bundle.steD).before args s = true) (lN : (Cond.laysStatic Bundle.tN "SUPPRESSED_SENTINEL" Bundle.listD).before args s = true) : ∀ w ∈ L, w.before args s = true := by
  intro w hw
  by_cases e1 : w = .isRef (.static Bundle.tN "UNASSIGNED_STACK" Bundle.steD)
  · rw [e1]; exact hU
  · by_cases e2 : w = .isRef (.static Bundle.tN "SUPPRESSED_SENTINEL" Bundle.listD)
    · rw [e2]; exact hN
    · by_cases e3 : w = .laysStatic Bundle.tN "UNASSIGNED_STACK" Bundle.steD
      · rw [e3]; exact lU
      · by_cases e4 : w = .laysStatic Bundle.tN "SUPPRESSED_SENTINEL" Bundle.listD
        · rw [e4]; exact lN
        · exact h1 w (List.mem_filter.mpr ⟨hw, by unfold vx_no; rw [decide_eq_true e1, decide_eq_true e2, decide_eq_true e3, decide_eq_true e4]; rfl⟩)
/-- where a static field lies, its class's statics cell in H -/
def vx_L (C n d : String) (A : Nat → Prop) (U : State) (H : Heap) : Prop := ∃ (c : ClassId) (k : Class) (i : Nat) (f : Field) (a : Nat) (cell : Cell), U.vm.findClass C = some c ∧ U.fieldFound? C n d = some (c, k, i, f) ∧ f.isStatic = true ∧ k.statics = some a ∧ H[a]? = some cell ∧ cell.vm.isStatics = true ∧ cell.cls = c ∧ f.slot < cell.slots.size ∧ k.staticTypes[f.slot]? = some f.type ∧ ¬ A a
theorem vx_L.moved {C n d : String} {A : Nat → Prop} {u U : State} {H : Heap} (hvm : u.vm.Alike U.vm) (h : vx_L C n d A u H) : vx_L C n d A U H := by
  obtain ⟨c, k, i, f, a, cell, h1, h2, h3, h4, h5, h6, h7, h8, h9, h10⟩ := h
  obtain ⟨k', hi', he⟩ := State.fieldFound?_setVm hvm h2
  exact ⟨c, k', i, f, a, cell, by rw [hvm.findClass]; exact h1, hi', h3, by rw [he]; exact h4, h5, h6, h7, h8, by rw [he]; exact h9, h10⟩
theorem vx_L.kept {C n d : String} {A : Nat → Prop} {U : State} {H H1 : Heap} (h : vx_L C n d A U H) (hq : ∀ a : Nat, a < H.size → ¬ A a → H1[a]? = H[a]?) : vx_L C n d A U H1 := by
  obtain ⟨c, k, i, f, a, cell, h1, h2, h3, h4, h5, h6, h7, h8, h9, h10⟩ := h
  exact ⟨c, k, i, f, a, cell, h1, h2, h3, h4, by rw [hq a (Array.getElem?_eq_some_iff.mp h5).1 h10]; exact h5, h6, h7, h8, h9, h10⟩
theorem vx_L.narrow {C n d : String} {A B : Nat → Prop} {U : State} {H : Heap} (h : vx_L C n d A U H) (hAB : ∀ q, B q → A q) : vx_L C n d B U H := by
  obtain ⟨c, k, i, f, a, cell, h1, h2, h3, h4, h5, h6, h7, h8, h9, h10⟩ := h
  exact ⟨c, k, i, f, a, cell, h1, h2, h3, h4, h5, h6, h7, h8, h9, fun z => h10 (hAB _ z)⟩
theorem vx_L.word {C n d : String} {A : Nat → Prop} {s : State} {args : Array Value} (h : vx_L C n d A s s.heap) : (Cond.laysStatic C n d).before args s = true := by
  obtain ⟨c, k, i, f, a, cell, h1, h2, h3, h4, h5, h6, h7, h8, h9, -⟩ := h
  show (Cond.laysStatic C n d).holds args s none s [] = true
  exact Cond.laysStatic_of h1 h2 h3 h4 h5 h6 h7 h8 h9
/-- .. and what it holds: null or some reference -/
def vx_Zq (C n d : String) (A : Nat → Prop) (U : State) (H : Heap) : Prop := va_Zq C n d A U H ∧ vx_L C n d A U H
theorem vx_Zq.moved {C n d : String} {A : Nat → Prop} {u U : State} {H : Heap} (hvm : u.vm.Alike U.vm) (h : vx_Zq C n d A u H) : vx_Zq C n d A U H := ⟨va_Zq.moved hvm h.1, vx_L.moved hvm h.2⟩
theorem vx_Zq.kept {C n d : String} {A : Nat → Prop} {U : State} {H H1 : Heap} (h : vx_Zq C n d A U H) (hq : ∀ a : Nat, a < H.size → ¬ A a → H1[a]? = H[a]?) : vx_Zq C n d A U H1 := ⟨va_Zq.kept h.1 hq, vx_L.kept h.2 hq⟩
theorem vx_Zq.narrow {C n d : String} {A B : Nat → Prop} {U : State} {H : Heap} (h : vx_Zq C n d A U H) (hAB : ∀ q, B q → A q) : vx_Zq C n d B U H := ⟨va_Zq.narrow h.1 hAB, vx_L.narrow h.2 hAB⟩
theorem vx_Zqof {args : Array Value} {s : State} {C n d : String} {A : Nat → Prop} (hl : (Cond.laysStatic C n d).before args s = true) (hini : (Cond.initialized C).before args s = true) (h : (Cond.isRef (.static C n d)).before args s = true) (hA : ∀ a : Nat, a < s.heap.size → ¬ A a) : vx_Zq C n d A s s.heap := by
  refine ⟨va_Zqof hl hini h hA, ?_⟩
  obtain ⟨c, k, i, f, a, cell, h1, h2, h3, h4, h5, h6, h7, h8, h9⟩ := Cond.laysStatic_spec hl
  exact ⟨c, k, i, f, a, cell, h1, h2, h3, h4, h5, h6, h7, h8, h9, hA a (Array.getElem?_eq_some_iff.mp h5).1⟩
theorem vx_isRef {C n d : String} {v : Value} {A : Nat → Prop} {s : State} {args : Array Value} (h : va_Z C n d v A s s.heap) (hv : v.isRef = true) : (Cond.isRef (.static C n d)).before args s = true := by
  obtain ⟨cf, kf, fi, f, a, cell, h1, h2, h3, h4, h5, h6, h7, -⟩ := h
  have he : (Term.static C n d).eval args s none [] s = some v := by
    simp [Term.eval, State.fieldNamed?, h1, h2, h4, h5, h6, h7]
  simp only [Cond.before, Cond.holds, Cond.value, he]
  cases v <;> simp_all [Value.isRef]
theorem vx_isRefq {C n d : String} {A : Nat → Prop} {s : State} {args : Array Value} (h : va_Zq C n d A s s.heap) : (Cond.isRef (.static C n d)).before args s = true := by
  rcases h with h | ⟨t, h⟩
  · exact vx_isRef h rfl
  · exact vx_isRef h rfl
/-- the same frame, seen from here: as if the method were called anew in this heap -/
theorem vx_rebase {T : State} (X : Stand p l e R s m args below meth c T locs cells slots) {R' : Room} (hf : R'.frames ≤ R.frames) (hl : R'.locals ≤ R.locals) (hc : cells + R'.cells ≤ R.cells) (hs : slots + R'.slots ≤ R.slots) :
    Stand p l e R' ((T.setVm s.vm).setFrames (.invoking m args :: below)) m args below meth c T [] 0 0 := by
  have htop : (T.setVm s.vm).topJava?.isSome := X.here.top
  have hF : ((T.setVm s.vm).setFrames (.invoking m args :: below)).frames = .invoking m args :: below := State.frames_setFrames _ (State.cur_lt_of_top htop)
  obtain ⟨g₀, hg0⟩ := Option.isSome_iff_exists.mp htop
  obtain ⟨r, hr⟩ := State.topJava?_eq_some.mp hg0
  have hl9 : e.platform.stackLimits (T.setVm s.vm).me = e.platform.stackLimits s.me := X.limits
  have hb9 : (T.setVm s.vm).me.stackBytes = s.me.stackBytes := X.bytes
  refine ⟨X.admits, X.cas, X.clock, hF, ?_, X.hears, X.method, X.code, X.here, X.tail, X.warmed, ?_, ?_, ?_⟩
  · have h := X.room
    have hU : ((T.setVm s.vm).setFrames (.invoking m args :: below)).localsInUse = s.localsInUse := by
      rw [State.localsInUse_invoking hF (meth := meth) (c := c) X.method X.code, State.localsInUse_invoking X.frames X.method X.code]
    simp only [State.hasRoom, Bool.and_eq_true, decide_eq_true_eq] at h ⊢
    obtain ⟨⟨⟨⟨h1, h2, h3, h4, h5, h6⟩, h7⟩, h8⟩, h9⟩ := h
    rw [X.frames, List.length_cons] at h2 h3
    have q1 := X.heapSize
    have q2 := X.used
    simp only [hF, hU, List.length_cons, State.stackLimits_setFrames, State.stackBytes_setFrames, hl9, hb9]
    refine ⟨⟨⟨⟨by omega, by omega, by omega, by omega, by omega, h6⟩, ?_⟩, ?_⟩, X.book⟩
    · show T.heap.size + R'.cells ≤ e.platform.maxCells
      omega
    · show T.slotsUsed + R'.slots ≤ e.platform.maxSlots
      omega
  · rw [State.stackLimits_setFrames]; rfl
  · rw [State.stackBytes_setFrames]; rfl
  · refine ⟨?_, Nat.le_refl _, Nat.le_refl _, ?_, ?_, fun a c9 h9 => ⟨c9, h9, rfl, rfl, fun _ _ => rfl⟩⟩
    · obtain ⟨t, ht, -⟩ := State.frames_cons hr
      show T.setVm s.vm = { ((T.setVm s.vm).setFrames (.invoking m args :: below)).setFrames (T.setVm s.vm).frames with heap := T.heap, slotsUsed := T.slotsUsed }
      rw [State.setFrames_setFrames, State.setFrames_self ht]
      rfl
    · show T.slotsUsed = T.slotsUsed + ((T.heap.toList.drop T.heap.size).map (·.slots.size)).sum
      rw [List.drop_eq_nil_of_le (Nat.le_of_eq Array.length_toList)]
      rfl
    · show ((T.heap.toList.drop T.heap.size).map (·.slots.size)).sum ≤ 0
      rw [List.drop_eq_nil_of_le (Nat.le_of_eq Array.length_toList)]
      exact Nat.le_refl _
/-- 'throw new E()': new; dup; invokespecial; athrow -/
theorem vx_throw0 {cc : ByteArray} {pc : Nat} (hexec : p.tables.exec = Jvm.exec) (hb : c.code = cc) (hl : l.stackTraces = false) {own cls : String} {names : List String} {ik ic mc ms : Nat} {A : Nat → Prop}
    (hown : s.vm.findClass own = some m.cls) (hcls : Bundle.fit cls = true) (hnames : ∀ n ∈ names, Bundle.fit n = true)
    (hk : (Cond.classLink own ik cls).before args s = true) (hini : (Cond.initialized cls).before args s = true) (hat : ∀ w ∈ vx_at0 own ic cls names, w.before args s = true)
    (hgood : ∀ w ∈ Cond.classLink own ik cls :: Cond.initialized cls :: vx_at0 own ic cls names, vx_ot w = true)
    (hU : vx_Zq Bundle.tN "UNASSIGNED_STACK" Bundle.steD A s s.heap) (hN : vx_Zq Bundle.tN "SUPPRESSED_SENTINEL" Bundle.listD A s s.heap) (hS : va_S A s.heap H locs) (hsize : ls.size = c.maxLocals)
    (d0 : decode cc pc = .ok (.new ik, 3)) (d3 : decode cc (pc + 3) = .ok (.dup, 1)) (d4 : decode cc (pc + 4) = .ok (.invokespecial ic, 3)) (d7 : decode cc (pc + 7) = .ok (.athrow, 1))
    (hout : ∀ x ∈ c.exceptionTable.toList, covers x (pc + 7) = false)
    (hRframes : names.length + 3 < R.frames) (hRlocals : (rest.map fun v => v.category).sum + (13 * (names.length + 1) + 42) ≤ R.locals) (hRcells : cells + 1 ≤ R.cells) (hRslots : slots + 6 ≤ R.slots) (hlocks : meth.locks = false)
    (hx : ∀ t : State, s.vm.Alike t.vm → H.size ≤ t.heap.size → (∀ q : Nat, q < H.size → t.heap[q]? = H[q]?) → XC cls s t)
    (hf : ∀ z ∈ locs, free z.base) (hc : cells + 1 ≤ mc) (hs : slots + 6 ≤ ms) :
    W p l e R s m args below meth c H locs cells slots (vx_MQ below Qc XC args s mc ms free) (F0 m pc ls rest) := by
  intro T hT X
  have htr : e.platform.stackTraces = false := (show e.platform.stackTraces = l.stackTraces by rw [X.admits.platform]).trans hl
  have Y := vx_rebase X (R' := { frames := R.frames, locals := R.locals, cells := 1, slots := 6 }) (Nat.le_refl _) (Nat.le_refl _) hRcells hRslots
  obtain ⟨s', hA⟩ : ∃ z, z = (T.setVm s.vm).setFrames (.invoking m args :: below) := ⟨_, rfl⟩
  rw [← hA] at Y
  have hvm : s'.vm = s.vm := by rw [hA]; rfl
  have hhp : s'.heap = H := by rw [hA]; exact hT
  have hW0 : s.WarmedH s'.vm := by rw [hvm]; exact State.WarmedH.refl s
  have hat' : ∀ w ∈ vx_at0 own ic cls names, w.before args s' = true := fun w hw => vx_ot_at hW0 hvm.symm (hgood w (List.mem_cons_of_mem _ (List.mem_cons_of_mem _ hw))) (hat w hw)
  have hk' : (Cond.classLink own ik cls).before args s' = true := vx_ot_at hW0 hvm.symm (hgood _ List.mem_cons_self) hk
  have hini' : (Cond.initialized cls).before args s' = true := vx_ot_at hW0 hvm.symm (hgood _ (List.mem_cons_of_mem _ List.mem_cons_self)) hini
  have hU' : vx_Zq Bundle.tN "UNASSIGNED_STACK" Bundle.steD A s' s'.heap := by rw [hhp]; exact vx_Zq.moved hW0.alike (hU.kept hS.2.1)
  have hN' : vx_Zq Bundle.tN "SUPPRESSED_SENTINEL" Bundle.listD A s' s'.heap := by rw [hhp]; exact vx_Zq.moved hW0.alike (hN.kept hS.2.1)
  have h : ∀ w ∈ Bundle.ownAtoms0 own ic cls names, w.before args s' = true := vx_own hat' (vx_isRefq hU'.1) (vx_isRefq hN'.1) hU'.2.word hN'.2.word
  have hown' : s'.vm.findClass own = some m.cls := by rw [hvm]; exact hown
  have hins : (Cond.instantiable cls 6).before args s' = true := h _ (by simp [Bundle.ownAtoms0])
  obtain ⟨vm₁, cX, kX, hfX, hkX, -, -, X₁, st1⟩ := Y.newCold hexec (own := own) (C := cls) (index := ik) (n := 6) hown' hk' hins hini'
    (g := F0 m pc ls rest) rfl (by rw [hb]; exact d0) (Nat.le_refl _) (Nat.le_refl _)
  generalize hT1 : (T.setVm vm₁).pushCell { cls := cX, slots := kX.instanceTypes.map defaultValue, vm := .none } = T1 at X₁ st1
  have hcat : (Value.ref T.heap.size).category = 1 := rfl
  have hcellA : T1.heap[T.heap.size]? = some (freshCell cX kX) := by rw [← hT1]; exact State.heap_pushCell_size _ _
  have d3' : decode c.code (pc + 3) = .ok (.dup, 1) := by rw [hb]; exact d3
  obtain ⟨U, hsteps, hrun, hend, hW, hsame, ce, hce, hO⟩ := X₁.ctorThrow0 hexec htr (own := own) (cls := cls) (names := names) (ic := ic) hown' hcls hnames h (fun x hx => nomatch hx) hfX hkX hcellA (by rw [hhp, hT]; exact Nat.le_refl _)
    (g := { method := m, pc := pc + 4, locals := ls, stack := .ref T.heap.size :: .ref T.heap.size :: rest, locked := none }) rfl hsize rfl rfl (rest := rest) rfl
    (by rw [hb]; exact d4) (by rw [hb]; exact d7) hout hRframes (by simp only [List.map_cons, List.sum_cons, hcat]; omega) hlocks
  obtain ⟨f1, f2⟩ := vx_frame hsame
  rw [hhp] at f1 f2
  have hWs : s.WarmedH U.vm := State.WarmedH.trans hW0 hW
  have hcl : s.vm.findClass cls = some ce.cls := by
    have h9 := hO.cls
    rw [hvm] at h9
    exact h9
  have hall : s.sameButNew ({ U with vm := s.vm } : State) locs mc ms := by
    subst hA
    obtain ⟨e1, e2⟩ := hsame
    rw [State.setFrames_setFrames] at e1
    have h2 : (T.setVm s.vm).sameButNew ({ U with vm := s.vm } : State) [] (0 + 1) (0 + 6) := ⟨e1, e2⟩
    have h3 := X.same.trans h2
    rw [List.append_nil] at h3
    exact h3.mono hc hs
  refine ⟨U, ?_, .threw T.heap.size, hrun, hend, Or.inr ⟨T.heap.size, rfl, cls, ce, locs, hx U hWs.alike f1 (fun q hq => f2 q hq (fun z hz => nomatch hz)), hce, hO.vm, hcl, hWs, hall, hf⟩⟩
  refine st1 _ ?_
  show Steps p.tables e below (T1.setTop { method := m, pc := pc + 3, locals := ls, stack := .ref T.heap.size :: rest, locked := none }) _
  jvm_step X₁.here [X₁.here.top, hexec, d3', Value.category]
  exact hsteps
/-- 'throw new E("text")': new; dup; ldc; invokespecial; athrow -/
theorem vx_throwS {cc : ByteArray} {pc : Nat} (hexec : p.tables.exec = Jvm.exec) (hb : c.code = cc) (hl : l.stackTraces = false) {own cls text : String} {names : List String} {ik is ic mc ms sa : Nat} {A : Nat → Prop}
    (hown : s.vm.findClass own = some m.cls) (hcls : Bundle.fit cls = true) (hnames : ∀ n ∈ names, Bundle.fit n = true)
    (hk : (Cond.classLink own ik cls).before args s = true) (hini : (Cond.initialized cls).before args s = true) (hstr : vk_R own is text sa s) (hat : ∀ w ∈ vx_atS own ic cls names, w.before args s = true)
    (hgood : ∀ w ∈ Cond.classLink own ik cls :: Cond.initialized cls :: vx_atS own ic cls names, vx_ot w = true)
    (hU : vx_Zq Bundle.tN "UNASSIGNED_STACK" Bundle.steD A s s.heap) (hN : vx_Zq Bundle.tN "SUPPRESSED_SENTINEL" Bundle.listD A s s.heap) (hS : va_S A s.heap H locs) (hsize : ls.size = c.maxLocals)
    (d0 : decode cc pc = .ok (.new ik, 3)) (d3 : decode cc (pc + 3) = .ok (.dup, 1)) (d4 : decode cc (pc + 4) = .ok (.ldc is, 2)) (d6 : decode cc (pc + 6) = .ok (.invokespecial ic, 3)) (d9 : decode cc (pc + 9) = .ok (.athrow, 1))
    (hout : ∀ x ∈ c.exceptionTable.toList, covers x (pc + 9) = false)
    (hRframes : names.length + 3 < R.frames) (hRlocals : (rest.map fun v => v.category).sum + (13 * (names.length + 1) + 43) ≤ R.locals) (hRcells : cells + 1 ≤ R.cells) (hRslots : slots + 6 ≤ R.slots) (hlocks : meth.locks = false)
    (hx : ∀ t : State, s.vm.Alike t.vm → H.size ≤ t.heap.size → (∀ q : Nat, q < H.size → t.heap[q]? = H[q]?) → XC cls s t)
    (hf : ∀ z ∈ locs, free z.base) (hc : cells + 1 ≤ mc) (hs : slots + 6 ≤ ms) :
    W p l e R s m args below meth c H locs cells slots (vx_MQ below Qc XC args s mc ms free) (F0 m pc ls rest) := by
  intro T hT X
  have htr : e.platform.stackTraces = false := (show e.platform.stackTraces = l.stackTraces by rw [X.admits.platform]).trans hl
  have Y := vx_rebase X (R' := { frames := R.frames, locals := R.locals, cells := 1, slots := 6 }) (Nat.le_refl _) (Nat.le_refl _) hRcells hRslots
  obtain ⟨s', hA⟩ : ∃ z, z = (T.setVm s.vm).setFrames (.invoking m args :: below) := ⟨_, rfl⟩
  rw [← hA] at Y
  have hvm : s'.vm = s.vm := by rw [hA]; rfl
  have hhp : s'.heap = H := by rw [hA]; exact hT
  have hW0 : s.WarmedH s'.vm := by rw [hvm]; exact State.WarmedH.refl s
  have hat' : ∀ w ∈ vx_atS own ic cls names, w.before args s' = true := fun w hw => vx_ot_at hW0 hvm.symm (hgood w (List.mem_cons_of_mem _ (List.mem_cons_of_mem _ hw))) (hat w hw)
  have hk' : (Cond.classLink own ik cls).before args s' = true := vx_ot_at hW0 hvm.symm (hgood _ List.mem_cons_self) hk
  have hini' : (Cond.initialized cls).before args s' = true := vx_ot_at hW0 hvm.symm (hgood _ (List.mem_cons_of_mem _ List.mem_cons_self)) hini
  have hU' : vx_Zq Bundle.tN "UNASSIGNED_STACK" Bundle.steD A s' s'.heap := by rw [hhp]; exact vx_Zq.moved hW0.alike (hU.kept hS.2.1)
  have hN' : vx_Zq Bundle.tN "SUPPRESSED_SENTINEL" Bundle.listD A s' s'.heap := by rw [hhp]; exact vx_Zq.moved hW0.alike (hN.kept hS.2.1)
  have h : ∀ w ∈ Bundle.ownAtoms own ic cls names, w.before args s' = true := vx_own hat' (vx_isRefq hU'.1) (vx_isRefq hN'.1) hU'.2.word hN'.2.word
  have hown' : s'.vm.findClass own = some m.cls := by rw [hvm]; exact hown
  have hins : (Cond.instantiable cls 6).before args s' = true := h _ (by simp [Bundle.ownAtoms])
  obtain ⟨vm₁, cX, kX, hfX, hkX, -, -, X₁, st1⟩ := Y.newCold hexec (own := own) (C := cls) (index := ik) (n := 6) hown' hk' hins hini'
    (g := F0 m pc ls rest) rfl (by rw [hb]; exact d0) (Nat.le_refl _) (Nat.le_refl _)
  generalize hT1 : (T.setVm vm₁).pushCell { cls := cX, slots := kX.instanceTypes.map defaultValue, vm := .none } = T1 at X₁ st1
  have hcat : (Value.ref T.heap.size).category = 1 := rfl
  have hcellA : T1.heap[T.heap.size]? = some (freshCell cX kX) := by rw [← hT1]; exact State.heap_pushCell_size _ _
  have d3' : decode c.code (pc + 3) = .ok (.dup, 1) := by rw [hb]; exact d3
  have d4' : decode c.code (pc + 4) = .ok (.ldc is, 2) := by rw [hb]; exact d4
  have hstr' : vk_R own is text sa s' := vk_R.warm hW0 hstr
  obtain ⟨U, hsteps, hrun, hend, hW, hsame, ce, hce, hO⟩ := X₁.ctorThrowS hexec htr (own := own) (cls := cls) (names := names) (ic := ic) hown' hcls hnames h (fun x hx => nomatch hx) hfX hkX hcellA (by rw [hhp, hT]; exact Nat.le_refl _) (msg := .ref sa) rfl
    (g := { method := m, pc := pc + 6, locals := ls, stack := .ref sa :: .ref T.heap.size :: .ref T.heap.size :: rest, locked := none }) rfl hsize rfl rfl (rest := rest) rfl
    (by rw [hb]; exact d6) (by rw [hb]; exact d9) hout hRframes (by simp only [List.map_cons, List.sum_cons, hcat]; omega) hlocks
  obtain ⟨f1, f2⟩ := vx_frame hsame
  rw [hhp] at f1 f2
  have hWs : s.WarmedH U.vm := State.WarmedH.trans hW0 hW
  have hcl : s.vm.findClass cls = some ce.cls := by
    have h9 := hO.cls
    rw [hvm] at h9
    exact h9
  have hall : s.sameButNew ({ U with vm := s.vm } : State) locs mc ms := by
    subst hA
    obtain ⟨e1, e2⟩ := hsame
    rw [State.setFrames_setFrames] at e1
    have h2 : (T.setVm s.vm).sameButNew ({ U with vm := s.vm } : State) [] (0 + 1) (0 + 6) := ⟨e1, e2⟩
    have h3 := X.same.trans h2
    rw [List.append_nil] at h3
    exact h3.mono hc hs
  refine ⟨U, ?_, .threw T.heap.size, hrun, hend, Or.inr ⟨T.heap.size, rfl, cls, ce, locs, hx U hWs.alike f1 (fun q hq => f2 q hq (fun z hz => nomatch hz)), hce, hO.vm, hcl, hWs, hall, hf⟩⟩
  refine st1 _ ?_
  show Steps p.tables e below (T1.setTop { method := m, pc := pc + 3, locals := ls, stack := .ref T.heap.size :: rest, locked := none }) _
  jvm_step X₁.here [X₁.here.top, hexec, d3', Value.category]
  exact X₁.ldcString hexec (own := own) (text := text) (index := is) (a := sa) hown' hstr'.1 hstr'.2
    (g := { method := m, pc := pc + 4, locals := ls, stack := .ref T.heap.size :: .ref T.heap.size :: rest, locked := none }) rfl d4' _ hsteps
/-- 'throw new E("text")', the text by a wide index -/
theorem vx_throwSW {cc : ByteArray} {pc : Nat} (hexec : p.tables.exec = Jvm.exec) (hb : c.code = cc) (hl : l.stackTraces = false) {own cls text : String} {names : List String} {ik is ic mc ms sa : Nat} {A : Nat → Prop}
    (hown : s.vm.findClass own = some m.cls) (hcls : Bundle.fit cls = true) (hnames : ∀ n ∈ names, Bundle.fit n = true)
    (hk : (Cond.classLink own ik cls).before args s = true) (hini : (Cond.initialized cls).before args s = true) (hstr : vk_R own is text sa s) (hat : ∀ w ∈ vx_atS own ic cls names, w.before args s = true)
    (hgood : ∀ w ∈ Cond.classLink own ik cls :: Cond.initialized cls :: vx_atS own ic cls names, vx_ot w = true)
    (hU : vx_Zq Bundle.tN "UNASSIGNED_STACK" Bundle.steD A s s.heap) (hN : vx_Zq Bundle.tN "SUPPRESSED_SENTINEL" Bundle.listD A s s.heap) (hS : va_S A s.heap H locs) (hsize : ls.size = c.maxLocals)
    (d0 : decode cc pc = .ok (.new ik, 3)) (d3 : decode cc (pc + 3) = .ok (.dup, 1)) (d4 : decode cc (pc + 4) = .ok (.ldc_w is, 3)) (d7 : decode cc (pc + 7) = .ok (.invokespecial ic, 3)) (d10 : decode cc (pc + 10) = .ok (.athrow, 1))
    (hout : ∀ x ∈ c.exceptionTable.toList, covers x (pc + 10) = false)
    (hRframes : names.length + 3 < R.frames) (hRlocals : (rest.map fun v => v.category).sum + (13 * (names.length + 1) + 43) ≤ R.locals) (hRcells : cells + 1 ≤ R.cells) (hRslots : slots + 6 ≤ R.slots) (hlocks : meth.locks = false)
    (hx : ∀ t : State, s.vm.Alike t.vm → H.size ≤ t.heap.size → (∀ q : Nat, q < H.size → t.heap[q]? = H[q]?) → XC cls s t)
    (hf : ∀ z ∈ locs, free z.base) (hc : cells + 1 ≤ mc) (hs : slots + 6 ≤ ms) :
    W p l e R s m args below meth c H locs cells slots (vx_MQ below Qc XC args s mc ms free) (F0 m pc ls rest) := by
  intro T hT X
  have htr : e.platform.stackTraces = false := (show e.platform.stackTraces = l.stackTraces by rw [X.admits.platform]).trans hl
  have Y := vx_rebase X (R' := { frames := R.frames, locals := R.locals, cells := 1, slots := 6 }) (Nat.le_refl _) (Nat.le_refl _) hRcells hRslots
  obtain ⟨s', hA⟩ : ∃ z, z = (T.setVm s.vm).setFrames (.invoking m args :: below) := ⟨_, rfl⟩
  rw [← hA] at Y
  have hvm : s'.vm = s.vm := by rw [hA]; rfl
  have hhp : s'.heap = H := by rw [hA]; exact hT
  have hW0 : s.WarmedH s'.vm := by rw [hvm]; exact State.WarmedH.refl s
  have hat' : ∀ w ∈ vx_atS own ic cls names, w.before args s' = true := fun w hw => vx_ot_at hW0 hvm.symm (hgood w (List.mem_cons_of_mem _ (List.mem_cons_of_mem _ hw))) (hat w hw)
  have hk' : (Cond.classLink own ik cls).before args s' = true := vx_ot_at hW0 hvm.symm (hgood _ List.mem_cons_self) hk
  have hini' : (Cond.initialized cls).before args s' = true := vx_ot_at hW0 hvm.symm (hgood _ (List.mem_cons_of_mem _ List.mem_cons_self)) hini
  have hU' : vx_Zq Bundle.tN "UNASSIGNED_STACK" Bundle.steD A s' s'.heap := by rw [hhp]; exact vx_Zq.moved hW0.alike (hU.kept hS.2.1)
  have hN' : vx_Zq Bundle.tN "SUPPRESSED_SENTINEL" Bundle.listD A s' s'.heap := by rw [hhp]; exact vx_Zq.moved hW0.alike (hN.kept hS.2.1)
  have h : ∀ w ∈ Bundle.ownAtoms own ic cls names, w.before args s' = true := vx_own hat' (vx_isRefq hU'.1) (vx_isRefq hN'.1) hU'.2.word hN'.2.word
  have hown' : s'.vm.findClass own = some m.cls := by rw [hvm]; exact hown
  have hins : (Cond.instantiable cls 6).before args s' = true := h _ (by simp [Bundle.ownAtoms])
  obtain ⟨vm₁, cX, kX, hfX, hkX, -, -, X₁, st1⟩ := Y.newCold hexec (own := own) (C := cls) (index := ik) (n := 6) hown' hk' hins hini'
    (g := F0 m pc ls rest) rfl (by rw [hb]; exact d0) (Nat.le_refl _) (Nat.le_refl _)
  generalize hT1 : (T.setVm vm₁).pushCell { cls := cX, slots := kX.instanceTypes.map defaultValue, vm := .none } = T1 at X₁ st1
  have hcat : (Value.ref T.heap.size).category = 1 := rfl
  have hcellA : T1.heap[T.heap.size]? = some (freshCell cX kX) := by rw [← hT1]; exact State.heap_pushCell_size _ _
  have d3' : decode c.code (pc + 3) = .ok (.dup, 1) := by rw [hb]; exact d3
  have d4' : decode c.code (pc + 4) = .ok (.ldc_w is, 3) := by rw [hb]; exact d4
  have hstr' : vk_R own is text sa s' := vk_R.warm hW0 hstr
  obtain ⟨U, hsteps, hrun, hend, hW, hsame, ce, hce, hO⟩ := X₁.ctorThrowS hexec htr (own := own) (cls := cls) (names := names) (ic := ic) hown' hcls hnames h (fun x hx => nomatch hx) hfX hkX hcellA (by rw [hhp, hT]; exact Nat.le_refl _) (msg := .ref sa) rfl
    (g := { method := m, pc := pc + 7, locals := ls, stack := .ref sa :: .ref T.heap.size :: .ref T.heap.size :: rest, locked := none }) rfl hsize rfl rfl (rest := rest) rfl
    (by rw [hb]; exact d7) (by rw [hb]; exact d10) hout hRframes (by simp only [List.map_cons, List.sum_cons, hcat]; omega) hlocks
  obtain ⟨f1, f2⟩ := vx_frame hsame
  rw [hhp] at f1 f2
  have hWs : s.WarmedH U.vm := State.WarmedH.trans hW0 hW
  have hcl : s.vm.findClass cls = some ce.cls := by
    have h9 := hO.cls
    rw [hvm] at h9
    exact h9
  have hall : s.sameButNew ({ U with vm := s.vm } : State) locs mc ms := by
    subst hA
    obtain ⟨e1, e2⟩ := hsame
    rw [State.setFrames_setFrames] at e1
    have h2 : (T.setVm s.vm).sameButNew ({ U with vm := s.vm } : State) [] (0 + 1) (0 + 6) := ⟨e1, e2⟩
    have h3 := X.same.trans h2
    rw [List.append_nil] at h3
    exact h3.mono hc hs
  refine ⟨U, ?_, .threw T.heap.size, hrun, hend, Or.inr ⟨T.heap.size, rfl, cls, ce, locs, hx U hWs.alike f1 (fun q hq => f2 q hq (fun z hz => nomatch hz)), hce, hO.vm, hcl, hWs, hall, hf⟩⟩
  refine st1 _ ?_
  show Steps p.tables e below (T1.setTop { method := m, pc := pc + 3, locals := ls, stack := .ref T.heap.size :: rest, locked := none }) _
  jvm_step X₁.here [X₁.here.top, hexec, d3', Value.category]
  exact X₁.ldcStringW hexec (own := own) (text := text) (index := is) (a := sa) hown' hstr'.1 hstr'.2
    (g := { method := m, pc := pc + 4, locals := ls, stack := .ref T.heap.size :: .ref T.heap.size :: rest, locked := none }) rfl d4' _ hsteps
end Ends
section Bodies
variable {l : Launch}
theorem vx_ofW {y : MethodName} {ws ws' : List Cond} {rm : Room} {Pc : Array Value → State → Prop} {Qc : Array Value → State → Outcome → State → Prop} {XC : String → State → State → Prop} {mc ms : Nat} {free : Addr → Prop} {cc : ByteArray} {maxL : Nat} {ret : Option FieldType}
    (hy : plainName y.cls = true) (hw : ws = Cond.code y cc maxL ret :: ws')
    (body : ∀ p e s m args below meth c s₁, BodyLoose p l y (headSpec ws rm) cc maxL ret e s m args below meth c s₁ → c.maxLocals = maxL → (∀ x ∈ c.exceptionTable.toList, False) → Pc args s →
      W p l e (headSpec ws rm).room s m args below meth c s.heap [] 0 0 (vx_MQ below Qc XC args s mc ms free) (entryFrame m args maxL)) : vx_Met l y ws rm Pc Qc XC mc ms free := by
  refine MetFree.of_bodyS (code := cc) (maxLocals := maxL) (ret := ret) hy ?_ ?_
  · intro args s m h hn
    obtain ⟨meth, c, h1, h2, h3, h4, h5, h6, -, -⟩ := Cond.code_spec hn (atoms_spec (ws := ws) h _ (by rw [hw]; exact List.mem_cons_self))
    exact ⟨meth, c, h1, h2, h3, h4, h5, h6⟩
  · intro p e s m args below meth c s₁ B hml hP _
    have hh0 : s₁.heap = s.heap := by rw [B.state]; rfl
    have ht : ∀ x ∈ c.exceptionTable.toList, False := by
      obtain ⟨meth9, c9, h1, h2, -, -, -, -, h7, -⟩ := Cond.code_spec B.named (atoms_spec (ws := ws) B.pre _ (by rw [hw]; exact List.mem_cons_self))
      cases Option.some.inj (h1.symm.trans B.method)
      cases Option.some.inj (h2.symm.trans (Stand.of_body B).code)
      intro x hx
      rw [Array.isEmpty_iff.mp h7] at hx
      cases hx
    obtain ⟨t, a1, o, b1, b2, b3⟩ := body p e s m args below meth c s₁ B hml ht hP s₁ hh0 (Stand.of_body B)
    exact ⟨t, o, a1, b1, b2, b3⟩
/-- the table of a body with handlers -/
theorem vx_table {p : Program} {x y : MethodName} {S : Spec} {cc bytes : ByteArray} {maxL maxL' : Nat} {ret ret' : Option FieldType} {e : Env} {s s₁ : State} {m : MethodId} {args : Array Value} {below : List Frame} {meth : Method} {c : Code} {hh : List (Nat × Nat × Nat × Nat)}
    (B : BodyLoose p l y S cc maxL ret e s m args below meth c s₁) (h : (Cond.codeWith y bytes maxL' ret' hh).before args s = true) : c.exceptionTable.toList = tableOf hh := by
  obtain ⟨m9, meth9, c9, hn9, h1, h2, -, -, h6, -⟩ := Cond.codeWith_spec h
  cases Option.some.inj (hn9.symm.trans B.named)
  cases Option.some.inj (h1.symm.trans B.method)
  cases Option.some.inj (h2.symm.trans (Stand.of_body B).code)
  rw [← h6, table_eq]
end Bodies
end VXA
/-! ===== END ===== -/
/-! ===== BEGIN a static call of a method with an exception table ===== -/
section VXS
variable {p : Program} {l : Launch} {e : Env} {R : Room} {s : State} {m : MethodId} {args : Array Value} {below : List Frame} {meth : Method} {c : Code} {T : State} {H : Heap} {locs : List Loc} {cells slots : Nat}
abbrev vx_CSW (R : Room) (s : State) (args : Array Value) (own : String) (index : Nat) (y : MethodName) (bytes : ByteArray) (maxL : Nat) (ret : Option FieldType) (hh : List (Nat × Nat × Nat × Nat)) (ws : List Cond) (rm : Room) (mc ms n : Nat) : Prop :=
  (rm.cells = mc ∧ rm.slots = ms ∧ rm.frames + 1 ≤ R.frames ∧ 8 + (maxL + 11) + rm.locals ≤ R.locals ∧ (∀ w ∈ ws, ∀ (a' : Array Value) (U : State), s.WarmedH U.vm → w.before a' U = true) ∧ Cond.codeWith y bytes maxL ret hh ∈ ws) ∧
  (Cond.codeWith y bytes maxL ret hh).before args s = true ∧ (Cond.initialized y.cls).before args s = true ∧ (y.cls ≠ "java/lang/invoke/MethodHandle" ∧ y.cls ≠ "java/lang/invoke/VarHandle") ∧
  (∀ sig, parseMethodDescriptor y.desc = some sig → n = sig.parameters.length) ∧ (Cond.methodLink own index y).before args s = true ∧ (Cond.static y).before args s = true
theorem vx_cwSW {own : String} {index maxL mc ms : Nat} {y : MethodName} {bytes : ByteArray} {ret : Option FieldType} {hh : List (Nat × Nat × Nat × Nat)} {Ts ws ws' : List Cond} {rm : Room} (n : Nat) (ht : ∀ w ∈ Ts, w.before args s = true) (hT : GoodIn Ts (va_wsS own index y ws)) (hw : ws = Cond.codeWith y bytes maxL ret hh :: ws') (hrc : rm.cells = mc) (hrs : rm.slots = ms)
    (hd : y.cls ≠ "java/lang/invoke/MethodHandle" ∧ y.cls ≠ "java/lang/invoke/VarHandle" ∧ (parseMethodDescriptor y.desc).map (fun d => d.parameters.length) = some n) (hR : rm.frames + 1 ≤ R.frames ∧ 8 + (maxL + 11) + rm.locals ≤ R.locals) :
    vx_CSW R s args own index y bytes maxL ret hh ws rm mc ms n := by
  have ok : ∀ w ∈ va_wsS own index y ws, w.before args s = true := fun w h => ht w (hT w h).1
  have hG : GoodIn Ts ws := fun w h => hT w (by unfold va_wsS; exact List.mem_append_right _ h)
  have hc : Cond.codeWith y bytes maxL ret hh ∈ ws := by rw [hw]; exact List.mem_cons_self
  refine ⟨⟨hrc, hrs, hR.1, hR.2, pay_in ht hG, hc⟩, ht _ (hG _ hc).1, ok _ (by simp [va_wsS]), ⟨hd.1, hd.2.1⟩, fun sig h => ?_, ok _ (by simp [va_wsS]), ok _ (by simp [va_wsS])⟩
  have h2 := hd.2.2
  rw [h] at h2
  exact (Option.some.inj h2).symm
theorem vx_callSW (X : Stand p l e R s m args below meth c T locs cells slots) (hexec : p.tables.exec = Jvm.exec) {own : String} {index : Nat} {y : MethodName} {bytes : ByteArray} {maxL : Nat} {ret : Option FieldType} {hh : List (Nat × Nat × Nat × Nat)}
    (hown : s.vm.findClass own = some m.cls) (hlink : (Cond.methodLink own index y).before args s = true) (hstat : (Cond.static y).before args s = true) (hinit : (Cond.initialized y.cls).before args s = true)
    (hcode : (Cond.codeWith y bytes maxL ret hh).before args s = true) (hy : y.cls ≠ "java/lang/invoke/MethodHandle" ∧ y.cls ≠ "java/lang/invoke/VarHandle")
    {W9 : Nat} {Pre : Pt → Array Value → Prop} {Post : Pt → Array Value → Option Value → Pt → Prop} (hK : Back l R p e below s args y 3 W9 Pre Post)
    {g : JFrame} (hg : g.method = m) (hsize : g.locals.size = c.maxLocals) {argsL rest : List Value} (hlen : ∀ sig, parseMethodDescriptor y.desc = some sig → argsL.length = sig.parameters.length)
    (hstack : g.stack = argsL.reverse ++ rest) (hW : 2 * g.monitorRoom + (rest.map fun v => v.category).sum ≤ W9) (hdg : decode c.code g.pc = .ok (.invokestatic index, 3))
    (hpre : ∀ vm₁, s.WarmedH vm₁ → Pre ⟨T.setVm vm₁, locs, cells, slots⟩ argsL.toArray) :
    ∃ (v : Option Value) (vm₁ : Vm) (B : Pt), s.WarmedH vm₁ ∧ Stand p l e R s m args below meth c B.U B.locs B.cells B.slots ∧ Post ⟨T.setVm vm₁, locs, cells, slots⟩ argsL.toArray v B ∧
      ∀ target, Steps p.tables e below (B.U.setTop { g with pc := g.pc + 3, stack := v.toList ++ rest }) target → Steps p.tables e below (T.setTop g) target := by
  obtain ⟨mk, methM, cM, hnamed, hmethM, -, -, -, -, -, -, hsigM⟩ := Cond.codeWith_spec hcode
  have hstatic : methM.isStatic = true := Cond.static_spec hnamed hmethM hstat
  obtain ⟨kP, hkP, -⟩ := className_of_methodNamed hnamed
  have hinitP : kP.init = .initialized := Cond.initialized_spec (findClass_of_methodNamed hnamed) hkP hinit
  obtain ⟨vm₁, X₁, hstep₁⟩ := X.invokestatic hexec hown hlink hnamed hmethM hstatic hkP hinitP hy (g := g) hg (argsL := argsL) (rest := rest) (hlen _ hsigM) hstack hdg
  obtain ⟨v, B, X', hpost, hsteps⟩ := hK m meth c ⟨T.setVm vm₁, locs, cells, slots⟩ { g with stack := rest } (.invokestatic index) mk argsL.toArray X₁ hg hsize hdg hW (X₁.named hnamed) (hpre vm₁ X₁.warmed)
  exact ⟨v, vm₁, B, X₁.warmed, X', hpost, fun target h => hstep₁ _ fun acts => by rw [doInvoke_state]; exact hsteps.trans h⟩
theorem vx_runSW {y : MethodName} {bytes cc : ByteArray} {maxL nL mc ms n index : Nat} {ret : Option FieldType} {hh : List (Nat × Nat × Nat × Nat)} {ws : List Cond} {rm : Room} {Pc : Array Value → State → Prop} {Qc : Array Value → State → Outcome → State → Prop} {free : Addr → Prop} {Ts : List Cond} {own : String} {As rest : List Value} {g : JFrame}
    (S : CallFix p m c cc nL s args Ts own) (hM : Met l y ws rm Pc Qc mc ms free) (cw : vx_CSW R s args own index y bytes maxL ret hh ws rm mc ms n) (hp : PreS s H Pc As)
    (hg : g.method = m) (hn : As.length = n) (hsize : g.locals.size = nL) (hstack : g.stack = As.reverse ++ rest) (hW : 2 * g.monitorRoom + (rest.map fun v => v.category).sum ≤ 8) (hdg : decode cc g.pc = .ok (.invokestatic index, 3)) (hf : cells + mc ≤ R.cells ∧ slots + ms ≤ R.slots) :
    va_Run p l e R s m args below meth c H locs cells slots mc ms g rest (Qc As.toArray) (free) := by
  obtain ⟨⟨hrc, hrs, hfr, hlo, hws, hcw⟩, hcode, hini, hy, hlen, hl, hstt⟩ := cw
  have hK : Back l R p e below s args y 3 8 (PreOf R mc ms Pc) (PostOf Qc mc ms free) := va_backW (hh := hh) (bytes := bytes) (maxL := maxL) (ret := ret) hM hp.1 hrc hrs hfr hlo hws hcw (fun a' U hW => word_at hW (Or.inl (by first | rfl | simp [Cond.onTables, Cond.keeps, Cond.steady])) hini)
  obtain ⟨hx, hb, hml, ho, -⟩ := S
  intro T hT X
  obtain ⟨v, vm₁, ⟨U', l2, c2, s2⟩, hW₁, X', ⟨g', mk, t, L, e1, e2, hq, h1, hL, h2, h3⟩, st⟩ := vx_callSW X hx (hh := hh) (bytes := bytes) (maxL := maxL) (ret := ret) ho hl hstt hini hcode hy hK hg (hsize.trans hml.symm) (argsL := As) (rest := rest) (fun sig h => hn.trans (hlen sig h)) hstack hW (by rw [hb]; exact hdg)
    (fun vm₁ hW₁ => ⟨hf.1, hf.2, hp.2 (T.setVm vm₁) hT hW₁⟩)
  dsimp only [Pt.U, Pt.locs, Pt.cells, Pt.slots] at X' e1 e2 h1 h2 h3 st
  subst h1; subst h2; subst h3
  exact ⟨v, (T.setVm vm₁).calling g' mk As.toArray, t, U', L, hT, X', hL, e1, e2, hq, st⟩
/-- not caught here, past rows that name other classes: it goes on to the caller -/
theorem vx_outP {p : Program} {l : Launch} {e : Env} {R : Room} {s : State} {m : MethodId} {args : Array Value} {below : List Frame} {meth : Method} {c : Code} {H : Heap} {locs : List Loc} {cells slots : Nat} {free : Addr → Prop} {ls : Array Slot} {rest : List Value} {Qc : Array Value → State → Outcome → State → Prop} {XC : String → State → State → Prop}
    {pc : Nat} {own E : String} {ce : Cell} {q : Addr} {mc ms : Nat} (hown : s.vm.findClass own = some m.cls) (hlocks : meth.locks = false)
    (hpass : ∀ z ∈ c.exceptionTable.toList, covers z pc = false ∨ (z.catchType ≠ 0 ∧ ∃ nm : String, (Cond.classLink own z.catchType nm).before args s = true ∧ va_Nc E nm s)) (hcell : H[q]? = some ce) (hv : ce.vm = .none) (hcl : s.vm.findClass E = some ce.cls)
    (hx : ∀ t : State, t.heap = H → s.vm.Alike t.vm → XC E s t) (hf : ∀ z ∈ locs, free z.base) (hc : cells ≤ mc) (hs : slots ≤ ms) :
    vx_W p l e R s m args below meth c H locs cells slots (vx_MQ below Qc XC args s mc ms free) (F0 m pc ls rest) q := by
  intro T hT X
  have hpl : e.platform.magicAccessors = ({} : Platform).magicAccessors := by rw [X.admits.platform]
  obtain ⟨vm', hW', X', st⟩ := X.outThrough hlocks q (g := F0 m pc ls rest) rfl rfl rfl (cell := ce) (by rw [hT]; exact hcell) (by rw [hv]; rfl)
    (by obtain ⟨k9, h9, -⟩ := Vm.findClass_spec hcl; exact ⟨k9, h9⟩) (fun z hz => by
      rcases hpass z hz with h | ⟨hz0, nm, hl1, hn1⟩
      · exact Or.inl h
      · obtain ⟨c6, hc6, hcl6⟩ := Cond.classLink_spec hown hl1 e.platform hpl
        obtain ⟨a8, b8, h1, h2, h3⟩ := hn1
        cases Option.some.inj (h1.symm.trans hcl)
        cases Option.some.inj (h2.symm.trans hc6)
        exact Or.inr ⟨hz0, _, hcl6, h3⟩)
  obtain ⟨g₀, hfr⟩ := X'.frames_eq
  have hcell9 : ((T.setVm vm').setFrames (.throwing q :: below)).heap[q]? = some ce := by
    show T.heap[q]? = some ce
    rw [hT]; exact hcell
  have hend : Ended ((T.setVm vm').setFrames (.throwing q :: below)) below (.threw q) := State.frames_setFrames _ (State.cur_lt_of_frames hfr)
  refine ⟨(T.setVm vm').setFrames (.throwing q :: below), ?_, .threw q, X'.here.running, hend, Or.inr ⟨q, rfl, E, ce, locs, hx _ hT (X'.ends _).1.alike, hcell9, hv, hcl, (X'.ends _).1, (X'.ends _).2.mono hc hs, hf⟩⟩
  rw [X.pushThrowing_eq]
  exact st
/-- a thing of a world lies in the heap -/
theorem vx_lt {D : va_G} {cl : List vw_C} {ws : va_W} {H1 : Heap} (h : va_P D cl ws H1) {k : Nat} {q : Nat × va_E} (hk : ws[k]? = some q) : q.1 < H1.size := (h k q hk).lt
end VXS
/-! ===== END ===== -/
/-! ===== BEGIN methods with a table of their own: called by a name, returning or throwing ===== -/
section VXH
/-! vx_backW, vx_callVX, vx_callSX, vx_callVW, vx_runVW, vx_runVX, vx_runSX, vx_ofWH follow the same proofs as their sisters above (Free/Laws.lean, Shelf42/LK1.lean); vx_outP calls Shelf42/NT130.lean (outThrough). -/
section
variable {l : Launch} {R : Room} {p : Program} {e : Env} {below : List Frame} {s : State} {sargs : Array Value} {y : MethodName} {len W9 : Nat}
theorem vx_backW {ws : List Cond} {rm : Room} {Pc : Array Value → State → Prop} {Qc : Array Value → State → Outcome → State → Prop} {XC : String → State → State → Prop} {mc ms : Nat} {free : Addr → Prop} {bytes : ByteArray} {maxL : Nat} {ret : Option FieldType} {hh : List (Nat × Nat × Nat × Nat)}
    (hM : vx_Met l y ws rm Pc Qc XC mc ms free) (hblind : FrameBlind Pc) (hrc : rm.cells = mc) (hrs : rm.slots = ms)
    (hframes : rm.frames + 1 ≤ R.frames) (hlocals : W9 + (maxL + 11) + rm.locals ≤ R.locals)
    (hws : ∀ w ∈ ws, ∀ a' U, s.WarmedH U.vm → w.before a' U = true) (hcode : Cond.codeWith y bytes maxL ret hh ∈ ws) (hinit : ∀ a' U, s.WarmedH U.vm → (Cond.initialized y.cls).before a' U = true) :
    vx_Back l R p e below s sargs y len W9 (PreOf R mc ms Pc) (PostOf Qc mc ms free) (vx_Post XC mc ms free) := by
  intro m meth c A g ig mk a X hg hsize hdg hW hn hp
  have h1 : (headSpec ws rm).pre.before a A.U = true := atoms_intro fun w hw => hws w hw _ _ X.warmed
  have h2 : (Cond.codeWith y bytes maxL ret hh).before a A.U = true := hws _ hcode _ _ X.warmed
  have h3 : (Cond.initialized y.cls).before a A.U = true := hinit _ _ X.warmed
  have h4 : A.cells + (headSpec ws rm).room.cells ≤ R.cells := by rw [show (headSpec ws rm).room.cells = mc from hrc]; exact hp.1
  have h5 : A.slots + (headSpec ws rm).room.slots ≤ R.slots := by rw [show (headSpec ws rm).room.slots = ms from hrs]; exact hp.2.1
  have hPc : Pc a (A.U.calling g mk a) := hblind _ _ _ _ hp.2.2
  obtain ⟨U, Ls, c0, s0⟩ := A
  dsimp only [Pt.U, Pt.locs, Pt.cells, Pt.slots] at h1 h2 h3 h4 h5 X hn hPc ⊢
  obtain ⟨m9, methY, cY, hn9, hmY, hcY, -, hlY, -⟩ := Cond.codeWith_spec h2
  cases Option.some.inj (hn9.symm.trans hn)
  obtain ⟨kY, hkY, -⟩ := className_of_methodNamed hn
  have hinitY : kY.init = .initialized := Cond.initialized_spec (findClass_of_methodNamed hn) hkY h3
  have h : At U g.method c below := by rw [hg]; exact X.here
  have hlocals9 : W9 + (maxL + 11) + (headSpec ws rm).room.locals ≤ R.locals := hlocals
  have happ : (headSpec ws rm).appliesLoose y e.platform (U.calling g mk a) = true :=
    Spec.appliesLoose_calling (g := g) h hdg hn hkY hinitY
      (X.room_calling (g := g) (R' := (headSpec ws rm).room) hsize hmY hcY hframes (by rw [hlY]; omega) h4 h5) h1
  obtain ⟨mid, hmid⟩ := h.above
  have hfr : (U.setTop g).frames = (.java g :: mid) ++ below := by rw [State.frames_setTop' g h.top, hmid]; rfl
  obtain ⟨o, s₂, hsteps, -, hend, hq⟩ := Steps.callFree hM p X.admits X.cas X.clock (acts := []) hfr happ hPc trivial
  have hq' : vx_Q Qc XC mc ms free a (U.calling g mk a) o s₂ := hq
  rw [State.frames_setTop' g h.top] at hend
  obtain ⟨g₀, hg0⟩ := Option.isSome_iff_exists.mp h.top
  obtain ⟨r, hr⟩ := State.topJava?_eq_some.mp hg0
  have hr' : (({ U with heap := s₂.heap, slotsUsed := s₂.slotsUsed } : State).setVm s₂.vm).frames = .java g₀ :: r := hr
  rcases hq' with ⟨hqc, L, hfe, hL⟩ | ⟨q, rfl, E, ce, L, hx, hce, hcv, hcl, hW₂, hsm, hL⟩
  · obtain ⟨⟨v, rfl⟩, hW₂, e2, q2, q3, q4, q5, q6⟩ := id hfe
    have e3 : s₂ = ({ (U.calling g mk a).setFrames s₂.frames with heap := s₂.heap, slotsUsed := s₂.slotsUsed } : State).setVm s₂.vm := by
      have : s₂ = ({ s₂ with vm := (U.calling g mk a).vm } : State).setVm s₂.vm := rfl
      rw [e2] at this
      exact this
    obtain ⟨c₂, i₂, len₂, hc₂, hd₂, hf₂⟩ := hend
    have hW' : U.WarmedH s₂.vm := hW₂
    have hcc : c₂ = c := by
      have h1 : s₂.code? g.method = U.code? g.method := by
        rw [State.code?_eq, State.code?_eq, hW'.alike.method?]
      exact Option.some.inj (hc₂.symm.trans (h1.trans h.code))
    subst hcc
    have hlen : len₂ = len := by rw [hdg] at hd₂; cases hd₂; rfl
    subst hlen
    have hs₂ : s₂ = (({ U with heap := s₂.heap, slotsUsed := s₂.slotsUsed } : State).setVm s₂.vm).setTop { g with pc := g.pc + len₂, stack := v.toList ++ g.stack } := by
      refine e3.trans ?_
      rw [hf₂, State.calling_eq h.top, State.setFrames_setFrames, State.setTop_of_frames _ hr', hr]
      rfl
    have hsame : U.sameButNew ({ U with heap := s₂.heap, slotsUsed := s₂.slotsUsed } : State) L mc ms := by
      refine ⟨?_, q2, q3, q4, q5, q6⟩
      obtain ⟨t, ht, -⟩ := State.frames_cons hr
      show ({ U with heap := s₂.heap, slotsUsed := s₂.slotsUsed } : State) = { U.setFrames U.frames with heap := s₂.heap, slotsUsed := s₂.slotsUsed }
      rw [State.setFrames_self ht]
    subst hg
    refine Or.inl ⟨v, ⟨(({ U with heap := s₂.heap, slotsUsed := s₂.slotsUsed } : State).setVm s₂.vm), Ls ++ L, c0 + mc, s0 + ms⟩,
      ⟨X.admits, X.cas, X.clock, X.frames, X.room, X.hears, X.method, X.code, (X.here.setHeapUsed s₂.heap s₂.slotsUsed).setVm hW'.alike, X.tail, State.WarmedH.trans X.warmed hW', X.limits, X.bytes, X.same.trans (hsame.setVm s.vm)⟩,
      ⟨g, mk, s₂, L, rfl, rfl, hqc, rfl, hL, rfl, rfl⟩, ?_⟩
    show Steps p.tables e below _ ((({ U with heap := s₂.heap, slotsUsed := s₂.slotsUsed } : State).setVm s₂.vm).setTop { g with pc := g.pc + len₂, stack := v.toList ++ g.stack })
    rw [← hs₂]
    exact hsteps
  · obtain ⟨e2, q2, q3, q4, q5, q6⟩ := id hsm
    have e3 : s₂ = ({ (U.calling g mk a).setFrames s₂.frames with heap := s₂.heap, slotsUsed := s₂.slotsUsed } : State).setVm s₂.vm := by
      have : s₂ = ({ s₂ with vm := (U.calling g mk a).vm } : State).setVm s₂.vm := rfl
      rw [e2] at this
      exact this
    have hf₂ : s₂.frames = .throwing q :: .java g :: U.frames.tail := hend
    have hW' : U.WarmedH s₂.vm := hW₂
    have hs₂ : s₂ = ((({ U with heap := s₂.heap, slotsUsed := s₂.slotsUsed } : State).setVm s₂.vm).setTop g).pushFrame (.throwing q) := by
      refine e3.trans ?_
      rw [hf₂, State.calling_eq h.top, State.setFrames_setFrames, State.pushFrame, State.frames_setTop _ hr', State.setTop_of_frames _ hr', State.setFrames_setFrames, hr]
      rfl
    have hsame : U.sameButNew ({ U with heap := s₂.heap, slotsUsed := s₂.slotsUsed } : State) L mc ms := by
      refine ⟨?_, q2, q3, q4, q5, q6⟩
      obtain ⟨t, ht, -⟩ := State.frames_cons hr
      show ({ U with heap := s₂.heap, slotsUsed := s₂.slotsUsed } : State) = { U.setFrames U.frames with heap := s₂.heap, slotsUsed := s₂.slotsUsed }
      rw [State.setFrames_self ht]
    subst hg
    refine Or.inr ⟨q, ⟨(({ U with heap := s₂.heap, slotsUsed := s₂.slotsUsed } : State).setVm s₂.vm), Ls ++ L, c0 + mc, s0 + ms⟩,
      ⟨X.admits, X.cas, X.clock, X.frames, X.room, X.hears, X.method, X.code, (X.here.setHeapUsed s₂.heap s₂.slotsUsed).setVm hW'.alike, X.tail, State.WarmedH.trans X.warmed hW', X.limits, X.bytes, X.same.trans (hsame.setVm s.vm)⟩,
      ⟨g, mk, s₂, L, E, ce, rfl, rfl, hx, hce, hcv, hcl, rfl, hL, rfl, rfl⟩, ?_⟩
    show Steps p.tables e below _ (((({ U with heap := s₂.heap, slotsUsed := s₂.slotsUsed } : State).setVm s₂.vm).setTop g).pushFrame (.throwing q))
    rw [← hs₂]
    exact hsteps
end
variable {p : Program} {l : Launch} {e : Env} {R : Room} {s : State} {m : MethodId} {args : Array Value} {below : List Frame} {meth : Method} {c : Code} {T : State} {H : Heap} {locs : List Loc} {cells slots : Nat}
theorem vx_callVX (X : Stand p l e R s m args below meth c T locs cells slots) (hexec : p.tables.exec = Jvm.exec) {own C : String} {index : Nat} {y : MethodName} {bytes : ByteArray} {maxL : Nat} {ret : Option FieldType} {hh : List (Nat × Nat × Nat × Nat)}
    (hown : s.vm.findClass own = some m.cls) (hlink : (Cond.methodLink own index y).before args s = true) (hinst : (Cond.instanceMethod y).before args s = true) (hsel : (Cond.selects C y y).before args s = true)
    (hcode : (Cond.codeWith y bytes maxL ret hh).before args s = true) (hy : y.cls ≠ "java/lang/invoke/MethodHandle" ∧ y.cls ≠ "java/lang/invoke/VarHandle")
    {W9 : Nat} {Pre : Pt → Array Value → Prop} {Post : Pt → Array Value → Option Value → Pt → Prop} {PostX : Pt → Array Value → Addr → Pt → Prop} (hK : vx_Back l R p e below s args y 3 W9 Pre Post PostX)
    {b : Addr} {cellB : Cell} (hcell : T.heap[b]? = some cellB) (hobj : cellB.vm.isStatics = false) (hcls : s.vm.findClass C = some cellB.cls)
    {g : JFrame} (hg : g.method = m) (hsize : g.locals.size = c.maxLocals) {argsL rest : List Value} (hlen : ∀ sig, parseMethodDescriptor y.desc = some sig → argsL.length = sig.parameters.length)
    (hstack : g.stack = argsL.reverse ++ .ref b :: rest) (hW : 2 * g.monitorRoom + (rest.map fun v => v.category).sum ≤ W9) (hdg : decode c.code g.pc = .ok (.invokevirtual index, 3))
    (hpre : ∀ vm₁, s.WarmedH vm₁ → Pre ⟨T.setVm vm₁, locs, cells, slots⟩ (Value.ref b :: argsL).toArray) :
    (∃ (v : Option Value) (vm₁ : Vm) (B : Pt), s.WarmedH vm₁ ∧ Stand p l e R s m args below meth c B.U B.locs B.cells B.slots ∧ Post ⟨T.setVm vm₁, locs, cells, slots⟩ (Value.ref b :: argsL).toArray v B ∧
      ∀ target, Steps p.tables e below (B.U.setTop { g with pc := g.pc + 3, stack := v.toList ++ rest }) target → Steps p.tables e below (T.setTop g) target) ∨
    (∃ (q : Addr) (vm₁ : Vm) (B : Pt), s.WarmedH vm₁ ∧ Stand p l e R s m args below meth c B.U B.locs B.cells B.slots ∧ PostX ⟨T.setVm vm₁, locs, cells, slots⟩ (Value.ref b :: argsL).toArray q B ∧
      Steps p.tables e below (T.setTop g) ((B.U.setTop { g with stack := rest }).pushFrame (.throwing q))) := by
  obtain ⟨mk, methM, hnamed, hmethM, hstM, habM⟩ := Cond.instanceMethod_spec hinst
  obtain ⟨m8, methM', cM, hn8, hmethM', -, -, -, -, -, -, hsigM⟩ := Cond.codeWith_spec hcode
  cases Option.some.inj (hn8.symm.trans hnamed)
  cases hmethM.symm.trans hmethM'
  obtain ⟨c2, r2, m2, q1, q2, q3, q4, kP, hkP, hkPi⟩ := Cond.selects_spec hsel
  cases hcls.symm.trans q1
  cases (State.methodFound?_of_named hnamed hy).symm.trans q2
  cases hnamed.symm.trans q3
  have hselP : selectMethod e.platform s.vm cellB.cls mk = .method mk := by rw [Launch.admits_selectMethod X.admits]; exact q4
  obtain ⟨vm₁, X₁, hstep₁⟩ := X.invokevirtual hexec hown hlink hnamed hmethM hstM hkP hkPi hy (a := b) (cell := cellB) hcell
    (fun z h => by rw [h] at hobj; cases hobj) hselP hmethM habM hkP hkPi (g := g) hg (argsL := argsL) (rest := rest) (hlen _ hsigM) hstack hdg
  rcases hK m meth c ⟨T.setVm vm₁, locs, cells, slots⟩ { g with stack := rest } (.invokevirtual index) mk (Value.ref b :: argsL).toArray X₁ hg hsize hdg hW (X₁.named hnamed) (hpre vm₁ X₁.warmed) with ⟨v, B, X', hpost, hsteps⟩ | ⟨q, B, X', hpost, hsteps⟩
  · exact Or.inl ⟨v, vm₁, B, X₁.warmed, X', hpost, fun target h => hstep₁ _ fun acts => by rw [doInvoke_state]; exact hsteps.trans h⟩
  · exact Or.inr ⟨q, vm₁, B, X₁.warmed, X', hpost, hstep₁ _ fun acts => by rw [doInvoke_state]; exact hsteps⟩
theorem vx_callSX (X : Stand p l e R s m args below meth c T locs cells slots) (hexec : p.tables.exec = Jvm.exec) {own : String} {index : Nat} {y : MethodName} {bytes : ByteArray} {maxL : Nat} {ret : Option FieldType} {hh : List (Nat × Nat × Nat × Nat)}
    (hown : s.vm.findClass own = some m.cls) (hlink : (Cond.methodLink own index y).before args s = true) (hstat : (Cond.static y).before args s = true) (hinit : (Cond.initialized y.cls).before args s = true)
    (hcode : (Cond.codeWith y bytes maxL ret hh).before args s = true) (hy : y.cls ≠ "java/lang/invoke/MethodHandle" ∧ y.cls ≠ "java/lang/invoke/VarHandle")
    {W9 : Nat} {Pre : Pt → Array Value → Prop} {Post : Pt → Array Value → Option Value → Pt → Prop} {PostX : Pt → Array Value → Addr → Pt → Prop} (hK : vx_Back l R p e below s args y 3 W9 Pre Post PostX)
    {g : JFrame} (hg : g.method = m) (hsize : g.locals.size = c.maxLocals) {argsL rest : List Value} (hlen : ∀ sig, parseMethodDescriptor y.desc = some sig → argsL.length = sig.parameters.length)
    (hstack : g.stack = argsL.reverse ++ rest) (hW : 2 * g.monitorRoom + (rest.map fun v => v.category).sum ≤ W9) (hdg : decode c.code g.pc = .ok (.invokestatic index, 3))
    (hpre : ∀ vm₁, s.WarmedH vm₁ → Pre ⟨T.setVm vm₁, locs, cells, slots⟩ argsL.toArray) :
    (∃ (v : Option Value) (vm₁ : Vm) (B : Pt), s.WarmedH vm₁ ∧ Stand p l e R s m args below meth c B.U B.locs B.cells B.slots ∧ Post ⟨T.setVm vm₁, locs, cells, slots⟩ argsL.toArray v B ∧
      ∀ target, Steps p.tables e below (B.U.setTop { g with pc := g.pc + 3, stack := v.toList ++ rest }) target → Steps p.tables e below (T.setTop g) target) ∨
    (∃ (q : Addr) (vm₁ : Vm) (B : Pt), s.WarmedH vm₁ ∧ Stand p l e R s m args below meth c B.U B.locs B.cells B.slots ∧ PostX ⟨T.setVm vm₁, locs, cells, slots⟩ argsL.toArray q B ∧
      Steps p.tables e below (T.setTop g) ((B.U.setTop { g with stack := rest }).pushFrame (.throwing q))) := by
  obtain ⟨mk, methM, cM, hnamed, hmethM, -, -, -, -, -, -, hsigM⟩ := Cond.codeWith_spec hcode
  have hstatic : methM.isStatic = true := Cond.static_spec hnamed hmethM hstat
  obtain ⟨kP, hkP, -⟩ := className_of_methodNamed hnamed
  have hinitP : kP.init = .initialized := Cond.initialized_spec (findClass_of_methodNamed hnamed) hkP hinit
  obtain ⟨vm₁, X₁, hstep₁⟩ := X.invokestatic hexec hown hlink hnamed hmethM hstatic hkP hinitP hy (g := g) hg (argsL := argsL) (rest := rest) (hlen _ hsigM) hstack hdg
  rcases hK m meth c ⟨T.setVm vm₁, locs, cells, slots⟩ { g with stack := rest } (.invokestatic index) mk argsL.toArray X₁ hg hsize hdg hW (X₁.named hnamed) (hpre vm₁ X₁.warmed) with ⟨v, B, X', hpost, hsteps⟩ | ⟨q, B, X', hpost, hsteps⟩
  · exact Or.inl ⟨v, vm₁, B, X₁.warmed, X', hpost, fun target h => hstep₁ _ fun acts => by rw [doInvoke_state]; exact hsteps.trans h⟩
  · exact Or.inr ⟨q, vm₁, B, X₁.warmed, X', hpost, hstep₁ _ fun acts => by rw [doInvoke_state]; exact hsteps⟩
theorem vx_callVW (X : Stand p l e R s m args below meth c T locs cells slots) (hexec : p.tables.exec = Jvm.exec) {own C : String} {index : Nat} {y : MethodName} {bytes : ByteArray} {maxL : Nat} {ret : Option FieldType} {hh : List (Nat × Nat × Nat × Nat)}
    (hown : s.vm.findClass own = some m.cls) (hlink : (Cond.methodLink own index y).before args s = true) (hinst : (Cond.instanceMethod y).before args s = true) (hsel : (Cond.selects C y y).before args s = true)
    (hcode : (Cond.codeWith y bytes maxL ret hh).before args s = true) (hy : y.cls ≠ "java/lang/invoke/MethodHandle" ∧ y.cls ≠ "java/lang/invoke/VarHandle")
    {W9 : Nat} {Pre : Pt → Array Value → Prop} {Post : Pt → Array Value → Option Value → Pt → Prop} (hK : Back l R p e below s args y 3 W9 Pre Post)
    {b : Addr} {cellB : Cell} (hcell : T.heap[b]? = some cellB) (hobj : cellB.vm.isStatics = false) (hcls : s.vm.findClass C = some cellB.cls)
    {g : JFrame} (hg : g.method = m) (hsize : g.locals.size = c.maxLocals) {argsL rest : List Value} (hlen : ∀ sig, parseMethodDescriptor y.desc = some sig → argsL.length = sig.parameters.length)
    (hstack : g.stack = argsL.reverse ++ .ref b :: rest) (hW : 2 * g.monitorRoom + (rest.map fun v => v.category).sum ≤ W9) (hdg : decode c.code g.pc = .ok (.invokevirtual index, 3))
    (hpre : ∀ vm₁, s.WarmedH vm₁ → Pre ⟨T.setVm vm₁, locs, cells, slots⟩ (Value.ref b :: argsL).toArray) :
    ∃ (v : Option Value) (vm₁ : Vm) (B : Pt), s.WarmedH vm₁ ∧ Stand p l e R s m args below meth c B.U B.locs B.cells B.slots ∧ Post ⟨T.setVm vm₁, locs, cells, slots⟩ (Value.ref b :: argsL).toArray v B ∧
      ∀ target, Steps p.tables e below (B.U.setTop { g with pc := g.pc + 3, stack := v.toList ++ rest }) target → Steps p.tables e below (T.setTop g) target := by
  obtain ⟨mk, methM, hnamed, hmethM, hstM, habM⟩ := Cond.instanceMethod_spec hinst
  obtain ⟨m8, methM', cM, hn8, hmethM', -, -, -, -, -, -, hsigM⟩ := Cond.codeWith_spec hcode
  cases Option.some.inj (hn8.symm.trans hnamed)
  cases hmethM.symm.trans hmethM'
  obtain ⟨c2, r2, m2, q1, q2, q3, q4, kP, hkP, hkPi⟩ := Cond.selects_spec hsel
  cases hcls.symm.trans q1
  cases (State.methodFound?_of_named hnamed hy).symm.trans q2
  cases hnamed.symm.trans q3
  have hselP : selectMethod e.platform s.vm cellB.cls mk = .method mk := by rw [Launch.admits_selectMethod X.admits]; exact q4
  obtain ⟨vm₁, X₁, hstep₁⟩ := X.invokevirtual hexec hown hlink hnamed hmethM hstM hkP hkPi hy (a := b) (cell := cellB) hcell
    (fun z h => by rw [h] at hobj; cases hobj) hselP hmethM habM hkP hkPi (g := g) hg (argsL := argsL) (rest := rest) (hlen _ hsigM) hstack hdg
  obtain ⟨v, B, X', hpost, hsteps⟩ := hK m meth c ⟨T.setVm vm₁, locs, cells, slots⟩ { g with stack := rest } (.invokevirtual index) mk (Value.ref b :: argsL).toArray X₁ hg hsize hdg hW (X₁.named hnamed) (hpre vm₁ X₁.warmed)
  exact ⟨v, vm₁, B, X₁.warmed, X', hpost, fun target h => hstep₁ _ fun acts => by rw [doInvoke_state]; exact hsteps.trans h⟩
abbrev vx_CVW (R : Room) (s : State) (args : Array Value) (own C : String) (index : Nat) (y : MethodName) (bytes : ByteArray) (maxL : Nat) (ret : Option FieldType) (hh : List (Nat × Nat × Nat × Nat)) (ws : List Cond) (rm : Room) (mc ms n : Nat) : Prop :=
  (rm.cells = mc ∧ rm.slots = ms ∧ rm.frames + 1 ≤ R.frames ∧ 8 + (maxL + 11) + rm.locals ≤ R.locals ∧ (∀ w ∈ ws, ∀ (a' : Array Value) (U : State), s.WarmedH U.vm → w.before a' U = true) ∧ Cond.codeWith y bytes maxL ret hh ∈ ws) ∧
  (Cond.codeWith y bytes maxL ret hh).before args s = true ∧ (Cond.initialized y.cls).before args s = true ∧ (y.cls ≠ "java/lang/invoke/MethodHandle" ∧ y.cls ≠ "java/lang/invoke/VarHandle") ∧
  (∀ sig, parseMethodDescriptor y.desc = some sig → n = sig.parameters.length) ∧ (Cond.methodLink own index y).before args s = true ∧ (Cond.instanceMethod y).before args s = true ∧ (Cond.selects C y y).before args s = true
theorem vx_cwVW {own C : String} {index maxL mc ms : Nat} {y : MethodName} {bytes : ByteArray} {ret : Option FieldType} {hh : List (Nat × Nat × Nat × Nat)} {Ts ws ws' : List Cond} {rm : Room} (n : Nat) (ht : ∀ w ∈ Ts, w.before args s = true) (hT : GoodIn Ts (wsV own index C y ws)) (hw : ws = Cond.codeWith y bytes maxL ret hh :: ws') (hrc : rm.cells = mc) (hrs : rm.slots = ms)
    (hd : y.cls = C ∧ y.cls ≠ "java/lang/invoke/MethodHandle" ∧ y.cls ≠ "java/lang/invoke/VarHandle" ∧ (parseMethodDescriptor y.desc).map (fun d => d.parameters.length) = some n) (hR : rm.frames + 1 ≤ R.frames ∧ 8 + (maxL + 11) + rm.locals ≤ R.locals) :
    vx_CVW R s args own C index y bytes maxL ret hh ws rm mc ms n := by
  obtain ⟨hC, hd⟩ := hd
  subst hC
  have ok : ∀ w ∈ wsV own index y.cls y ws, w.before args s = true := fun w h => ht w (hT w h).1
  have hG : GoodIn Ts ws := fun w h => hT w (by unfold wsV; exact List.mem_append_right _ h)
  have hc : Cond.codeWith y bytes maxL ret hh ∈ ws := by rw [hw]; exact List.mem_cons_self
  refine ⟨⟨hrc, hrs, hR.1, hR.2, pay_in ht hG, hc⟩, ht _ (hG _ hc).1, ok _ (by simp [wsV]), ⟨hd.1, hd.2.1⟩, fun sig h => ?_, ok _ (by simp [wsV]), ok _ (by simp [wsV]), ok _ (by simp [wsV])⟩
  have h2 := hd.2.2
  rw [h] at h2
  exact (Option.some.inj h2).symm
theorem vx_runVW {y : MethodName} {bytes cc : ByteArray} {maxL nL mc ms n index : Nat} {ret : Option FieldType} {hh : List (Nat × Nat × Nat × Nat)} {ws : List Cond} {rm : Room} {Pc : Array Value → State → Prop} {Qc : Array Value → State → Outcome → State → Prop} {free : Addr → Prop} {Ts : List Cond} {own C : String} {b : Addr} {As rest : List Value} {g : JFrame}
    (S : CallFix p m c cc nL s args Ts own) (hM : Met l y ws rm Pc Qc mc ms free) (cw : vx_CVW R s args own C index y bytes maxL ret hh ws rm mc ms n) (hp : PreV s H C b Pc As)
    (hg : g.method = m) (hn : As.length = n) (hsize : g.locals.size = nL) (hstack : g.stack = As.reverse ++ .ref b :: rest) (hW : 2 * g.monitorRoom + (rest.map fun v => v.category).sum ≤ 8) (hdg : decode cc g.pc = .ok (.invokevirtual index, 3)) (hf : cells + mc ≤ R.cells ∧ slots + ms ≤ R.slots) :
    va_Run p l e R s m args below meth c H locs cells slots mc ms g rest (Qc (Value.ref b :: As).toArray) free := by
  obtain ⟨⟨hrc, hrs, hfr, hlo, hws, hcw⟩, hcode, hini, hy, hlen, hl, hin, hse⟩ := cw
  have hK : Back l R p e below s args y 3 8 (PreOf R mc ms Pc) (PostOf Qc mc ms free) := va_backW (hh := hh) (bytes := bytes) (maxL := maxL) (ret := ret) hM hp.1 hrc hrs hfr hlo hws hcw (fun a' U hW => word_at hW (Or.inl (by first | rfl | simp [Cond.onTables, Cond.keeps, Cond.steady])) hini)
  obtain ⟨hx, hb, hml, ho, -⟩ := S
  obtain ⟨-, ⟨cellB, hcB, hoB, hclB⟩, hPc⟩ := hp
  intro T hT X
  obtain ⟨v, vm₁, ⟨U', l2, c2, s2⟩, hW₁, X', ⟨g', mk, t, L, e1, e2, hq, h1, hL, h2, h3⟩, st⟩ := vx_callVW X hx (C := C) (hh := hh) (bytes := bytes) (maxL := maxL) (ret := ret) ho hl hin hse hcode hy hK (by rw [hT]; exact hcB) hoB hclB hg (hsize.trans hml.symm) (argsL := As) (rest := rest) (fun sig h => hn.trans (hlen sig h)) hstack hW (by rw [hb]; exact hdg)
    (fun vm₁ hW₁ => ⟨hf.1, hf.2, hPc (T.setVm vm₁) hT hW₁⟩)
  dsimp only [Pt.U, Pt.locs, Pt.cells, Pt.slots] at X' e1 e2 h1 h2 h3 st
  subst h1; subst h2; subst h3
  exact ⟨v, (T.setVm vm₁).calling g' mk (Value.ref b :: As).toArray, t, U', L, hT, X', hL, e1, e2, hq, st⟩
section
variable {y : MethodName} {bytes cc : ByteArray} {maxL nL mc ms n index : Nat} {ret : Option FieldType} {ws : List Cond} {rm : Room} {Pc : Array Value → State → Prop} {Qc : Array Value → State → Outcome → State → Prop} {XC : String → State → State → Prop} {free : Addr → Prop} {Ts : List Cond} {own C : String} {b : Addr} {As rest : List Value} {g : JFrame}
theorem vx_runVX {hh : List (Nat × Nat × Nat × Nat)} (S : CallFix p m c cc nL s args Ts own) (hM : vx_Met l y ws rm Pc Qc XC mc ms free) (cw : vx_CVW R s args own C index y bytes maxL ret hh ws rm mc ms n) (hp : PreV s H C b Pc As)
    (hg : g.method = m) (hn : As.length = n) (hsize : g.locals.size = nL) (hstack : g.stack = As.reverse ++ .ref b :: rest) (hW : 2 * g.monitorRoom + (rest.map fun v => v.category).sum ≤ 8) (hdg : decode cc g.pc = .ok (.invokevirtual index, 3)) (hf : cells + mc ≤ R.cells ∧ slots + ms ≤ R.slots) :
    vx_Run p l e R s m args below meth c H locs cells slots mc ms g rest (Qc (Value.ref b :: As).toArray) XC free := by
  obtain ⟨⟨hrc, hrs, hfr, hlo, hws, hcw⟩, hcode, hini, hy, hlen, hl, hin, hse⟩ := cw
  have hK : vx_Back l R p e below s args y 3 8 (PreOf R mc ms Pc) (PostOf Qc mc ms free) (vx_Post XC mc ms free) := vx_backW (hh := hh) (bytes := bytes) (maxL := maxL) (ret := ret) hM hp.1 hrc hrs hfr hlo hws hcw (fun a' U hW => word_at hW (Or.inl (by first | rfl | simp [Cond.onTables, Cond.keeps, Cond.steady])) hini)
  obtain ⟨hx, hb, hml, ho, -⟩ := S
  obtain ⟨-, ⟨cellB, hcB, hoB, hclB⟩, hPc⟩ := hp
  intro T hT X
  rcases vx_callVX X hx (C := C) (hh := hh) (bytes := bytes) (maxL := maxL) (ret := ret) ho hl hin hse hcode hy hK (by rw [hT]; exact hcB) hoB hclB hg (hsize.trans hml.symm) (argsL := As) (rest := rest) (fun sig h => hn.trans (hlen sig h)) hstack hW (by rw [hb]; exact hdg)
    (fun vm₁ hW₁ => ⟨hf.1, hf.2, hPc (T.setVm vm₁) hT hW₁⟩) with ⟨v, vm₁, ⟨U', l2, c2, s2⟩, hW₁, X', ⟨g', mk, t, L, e1, e2, hq, h1, hL, h2, h3⟩, st⟩ | ⟨q, vm₁, ⟨U', l2, c2, s2⟩, hW₁, X', ⟨g', mk, t, L, E, ce, e1, e2, hq, hce, hcv, hcl, h1, hL, h2, h3⟩, st⟩
  · dsimp only [Pt.U, Pt.locs, Pt.cells, Pt.slots] at X' e1 e2 h1 h2 h3 st
    subst h1; subst h2; subst h3
    exact Or.inl ⟨v, (T.setVm vm₁).calling g' mk (Value.ref b :: As).toArray, t, U', L, hT, X', hL, e1, e2, hq, st⟩
  · dsimp only [Pt.U, Pt.locs, Pt.cells, Pt.slots] at X' e1 e2 h1 h2 h3 st hcl
    subst h1; subst h2; subst h3
    exact Or.inr ⟨q, (T.setVm vm₁).calling g' mk (Value.ref b :: As).toArray, t, U', L, E, ce, hT, X', hL, e1, e2, hq, hce, hcv, vx_cls hW₁ hcl, st⟩
theorem vx_runSX {hh : List (Nat × Nat × Nat × Nat)} (S : CallFix p m c cc nL s args Ts own) (hM : vx_Met l y ws rm Pc Qc XC mc ms free) (cw : vx_CSW R s args own index y bytes maxL ret hh ws rm mc ms n) (hp : PreS s H Pc As)
    (hg : g.method = m) (hn : As.length = n) (hsize : g.locals.size = nL) (hstack : g.stack = As.reverse ++ rest) (hW : 2 * g.monitorRoom + (rest.map fun v => v.category).sum ≤ 8) (hdg : decode cc g.pc = .ok (.invokestatic index, 3)) (hf : cells + mc ≤ R.cells ∧ slots + ms ≤ R.slots) :
    vx_Run p l e R s m args below meth c H locs cells slots mc ms g rest (Qc As.toArray) XC free := by
  obtain ⟨⟨hrc, hrs, hfr, hlo, hws, hcw⟩, hcode, hini, hy, hlen, hl, hstt⟩ := cw
  have hK : vx_Back l R p e below s args y 3 8 (PreOf R mc ms Pc) (PostOf Qc mc ms free) (vx_Post XC mc ms free) := vx_backW (hh := hh) (bytes := bytes) (maxL := maxL) (ret := ret) hM hp.1 hrc hrs hfr hlo hws hcw (fun a' U hW => word_at hW (Or.inl (by first | rfl | simp [Cond.onTables, Cond.keeps, Cond.steady])) hini)
  obtain ⟨hx, hb, hml, ho, -⟩ := S
  intro T hT X
  rcases vx_callSX X hx (hh := hh) (bytes := bytes) (maxL := maxL) (ret := ret) ho hl hstt hini hcode hy hK hg (hsize.trans hml.symm) (argsL := As) (rest := rest) (fun sig h => hn.trans (hlen sig h)) hstack hW (by rw [hb]; exact hdg)
    (fun vm₁ hW₁ => ⟨hf.1, hf.2, hp.2 (T.setVm vm₁) hT hW₁⟩) with ⟨v, vm₁, ⟨U', l2, c2, s2⟩, hW₁, X', ⟨g', mk, t, L, e1, e2, hq, h1, hL, h2, h3⟩, st⟩ | ⟨q, vm₁, ⟨U', l2, c2, s2⟩, hW₁, X', ⟨g', mk, t, L, E, ce, e1, e2, hq, hce, hcv, hcl, h1, hL, h2, h3⟩, st⟩
  · dsimp only [Pt.U, Pt.locs, Pt.cells, Pt.slots] at X' e1 e2 h1 h2 h3 st
    subst h1; subst h2; subst h3
    exact Or.inl ⟨v, (T.setVm vm₁).calling g' mk As.toArray, t, U', L, hT, X', hL, e1, e2, hq, st⟩
  · dsimp only [Pt.U, Pt.locs, Pt.cells, Pt.slots] at X' e1 e2 h1 h2 h3 st hcl
    subst h1; subst h2; subst h3
    exact Or.inr ⟨q, (T.setVm vm₁).calling g' mk As.toArray, t, U', L, E, ce, hT, X', hL, e1, e2, hq, hce, hcv, vx_cls hW₁ hcl, st⟩
end
end VXH
theorem vx_ofWH {l : Launch} {y : MethodName} {ws ws' : List Cond} {rm : Room} {Pc : Array Value → State → Prop} {Qc : Array Value → State → Outcome → State → Prop} {XC : String → State → State → Prop} {mc ms : Nat} {free : Addr → Prop} {cc : ByteArray} {maxL : Nat} {ret : Option FieldType} {hh : List (Nat × Nat × Nat × Nat)}
    (hy : plainName y.cls = true) (hw : ws = Cond.codeWith y cc maxL ret hh :: ws')
    (body : ∀ p e s m args below meth c s₁, BodyLoose p l y (headSpec ws rm) cc maxL ret e s m args below meth c s₁ → c.maxLocals = maxL → Pc args s →
      W p l e (headSpec ws rm).room s m args below meth c s.heap [] 0 0 (vx_MQ below Qc XC args s mc ms free) (entryFrame m args maxL)) : vx_Met l y ws rm Pc Qc XC mc ms free := by
  refine MetFree.of_bodyS (code := cc) (maxLocals := maxL) (ret := ret) hy ?_ ?_
  · intro args s m h hn
    obtain ⟨m9, meth, c, hn9, h1, h2, h3, h4, -, h5, h6, -⟩ := Cond.codeWith_spec (atoms_spec (ws := ws) h _ (by rw [hw]; exact List.mem_cons_self))
    cases hn.symm.trans hn9
    exact ⟨meth, c, h1, h2, h3, h4, h5, h6⟩
  · intro p e s m args below meth c s₁ B hml hP _
    have hh0 : s₁.heap = s.heap := by rw [B.state]; rfl
    obtain ⟨t, a1, o, b1, b2, b3⟩ := body p e s m args below meth c s₁ B hml hP s₁ hh0 (Stand.of_body B)
    exact ⟨t, o, a1, b1, b2, b3⟩
/-! ===== END ===== -/
end
section
def RX0 : String := "DialWardens$Dials"
def TX0 : u_T := fun k => match k with
  | 0 => ("DialWardens$Dials", "trueTime", "I", false)
  | 1 => ("DialWardens$Dials", "minutes", "[I", true)
  | 2 => ("DialWardens$Dials", "drifts", "[I", true)
  | 3 => ("DialWardens$Dials", "brought", "[I", true)
  | 4 => ("DialWardens$Dials", "forward", "[I", true)
  | 5 => ("DialWardens$Dials", "back", "[I", true)
  | _ => ("DialWardens$Dials", "bells", "[I", true)
def tyX0 : Nat → FieldType := fun k => match k with
  | 0 => .int
  | 1 => .array .int
  | 2 => .array .int
  | 3 => .array .int
  | 4 => .array .int
  | 5 => .array .int
  | _ => .array .int
theorem nmX0 : ∀ a, a < 7 → ∀ b, b < 7 → a ≠ b → (TX0 a).2.1 ≠ (TX0 b).2.1 := by decide +kernel
theorem tyX0_ok : ∀ k, k < 7 → parseFieldDescriptor (TX0 k).2.2.1 = some (tyX0 k) := by decide +kernel
abbrev cX0_init : ByteArray := prog_2_method_1_code
def yX0_init : MethodName := ⟨RX0, "<init>", "()V"⟩
abbrev cX0_copyFrom : ByteArray := prog_2_method_2_code
def yX0_copyFrom : MethodName := ⟨RX0, "copyFrom", "(LDialWardens$Dials;)V"⟩
abbrev cX0_passTicks : ByteArray := prog_2_method_3_code
def yX0_passTicks : MethodName := ⟨RX0, "passTicks", "(I)I"⟩
abbrev cX0_passTick : ByteArray := prog_2_method_4_code
def yX0_passTick : MethodName := ⟨RX0, "passTick", "(I)I"⟩
abbrev cX0_afterTick : ByteArray := prog_2_method_5_code
def yX0_afterTick : MethodName := ⟨RX0, "afterTick", "(II)I"⟩
abbrev cX0_ring : ByteArray := prog_2_method_6_code
def yX0_ring : MethodName := ⟨RX0, "ring", "(III)I"⟩
abbrev cX0_moveTo : ByteArray := prog_2_method_7_code
def yX0_moveTo : MethodName := ⟨RX0, "moveTo", "(II)I"⟩
abbrev cX0_changeDrift : ByteArray := prog_2_method_8_code
def yX0_changeDrift : MethodName := ⟨RX0, "changeDrift", "(II)V"⟩
abbrev cX0_accountOf : ByteArray := prog_2_method_9_code
def yX0_accountOf : MethodName := ⟨RX0, "accountOf", "(I)I"⟩
abbrev cX0_errorOf : ByteArray := prog_2_method_10_code
def yX0_errorOf : MethodName := ⟨RX0, "errorOf", "(I)I"⟩
abbrev cX0_ticksToRing : ByteArray := prog_2_method_11_code
def yX0_ticksToRing : MethodName := ⟨RX0, "ticksToRing", "(I)I"⟩
def RX1 : String := "DialWardens$History"
def TX1 : u_T := fun k => match k with
  | 0 => ("DialWardens$History", "states", "[LDialWardens$State;", true)
  | _ => ("DialWardens$History", "size", "I", false)
def tyX1 : Nat → FieldType := fun k => match k with
  | 0 => .array (.object "DialWardens$State")
  | _ => .int
theorem nmX1 : ∀ a, a < 2 → ∀ b, b < 2 → a ≠ b → (TX1 a).2.1 ≠ (TX1 b).2.1 := by decide +kernel
theorem tyX1_ok : ∀ k, k < 2 → parseFieldDescriptor (TX1 k).2.2.1 = some (tyX1 k) := by decide +kernel
abbrev cX1_init : ByteArray := prog_3_method_1_code
def yX1_init : MethodName := ⟨RX1, "<init>", "()V"⟩
abbrev cX1_save : ByteArray := prog_3_method_2_code
def yX1_save : MethodName := ⟨RX1, "save", "(LDialWardens$State;)V"⟩
abbrev cX1_dropOldest : ByteArray := prog_3_method_3_code
def yX1_dropOldest : MethodName := ⟨RX1, "dropOldest", "()V"⟩
abbrev cX1_restore : ByteArray := prog_3_method_4_code
def yX1_restore : MethodName := ⟨RX1, "restore", "(LDialWardens$State;)V"⟩
def RX2 : String := "DialWardens$Orders"
def TX2 : u_T := fun k => match k with
  | 0 => ("DialWardens$Orders", "codes", "[I", true)
  | _ => ("DialWardens$Orders", "length", "I", false)
def tyX2 : Nat → FieldType := fun k => match k with
  | 0 => .array .int
  | _ => .int
theorem nmX2 : ∀ a, a < 2 → ∀ b, b < 2 → a ≠ b → (TX2 a).2.1 ≠ (TX2 b).2.1 := by decide +kernel
theorem tyX2_ok : ∀ k, k < 2 → parseFieldDescriptor (TX2 k).2.2.1 = some (tyX2 k) := by decide +kernel
abbrev cX2_init : ByteArray := prog_4_method_1_code
def yX2_init : MethodName := ⟨RX2, "<init>", "()V"⟩
abbrev cX2_add : ByteArray := prog_4_method_2_code
def yX2_add : MethodName := ⟨RX2, "add", "(I)V"⟩
abbrev cX2_empty : ByteArray := prog_4_method_3_code
def yX2_empty : MethodName := ⟨RX2, "empty", "()V"⟩
abbrev cX2_codeAt : ByteArray := prog_4_method_4_code
def yX2_codeAt : MethodName := ⟨RX2, "codeAt", "(I)I"⟩
abbrev cX2_errorPlace : ByteArray := prog_4_method_5_code
def yX2_errorPlace : MethodName := ⟨RX2, "errorPlace", "()I"⟩
abbrev cX2_areComplete : ByteArray := prog_4_method_6_code
def yX2_areComplete : MethodName := ⟨RX2, "areComplete", "()Z"⟩
abbrev cX2_dueAfter : ByteArray := prog_4_method_7_code
def yX2_dueAfter : MethodName := ⟨RX2, "dueAfter", "(II)I"⟩
abbrev cX2_dueAfterKind : ByteArray := prog_4_method_8_code
def yX2_dueAfterKind : MethodName := ⟨RX2, "dueAfterKind", "(I)I"⟩
abbrev cX2_dueAfterPart : ByteArray := prog_4_method_9_code
def yX2_dueAfterPart : MethodName := ⟨RX2, "dueAfterPart", "(I)I"⟩
abbrev cX2_isWithin : ByteArray := prog_4_method_10_code
def yX2_isWithin : MethodName := ⟨RX2, "isWithin", "(III)Z"⟩
abbrev cX2_isPartStart : ByteArray := prog_4_method_11_code
def yX2_isPartStart : MethodName := ⟨RX2, "isPartStart", "(I)Z"⟩
abbrev cX2_figureAt : ByteArray := prog_4_method_12_code
def yX2_figureAt : MethodName := ⟨RX2, "figureAt", "(I)I"⟩
abbrev cX2_ticksAt : ByteArray := prog_4_method_13_code
def yX2_ticksAt : MethodName := ⟨RX2, "ticksAt", "(I)I"⟩
abbrev cX2_driftAt : ByteArray := prog_4_method_14_code
def yX2_driftAt : MethodName := ⟨RX2, "driftAt", "(I)I"⟩
def RX3 : String := "DialWardens$Poll"
def TX3 : u_T := fun k => match k with
  | 0 => ("DialWardens$Poll", "words", "[I", true)
  | 1 => ("DialWardens$Poll", "weights", "[I", true)
  | _ => ("DialWardens$Poll", "order", "[I", true)
def tyX3 : Nat → FieldType := fun k => match k with
  | 0 => .array .int
  | 1 => .array .int
  | _ => .array .int
theorem nmX3 : ∀ a, a < 3 → ∀ b, b < 3 → a ≠ b → (TX3 a).2.1 ≠ (TX3 b).2.1 := by decide +kernel
theorem tyX3_ok : ∀ k, k < 3 → parseFieldDescriptor (TX3 k).2.2.1 = some (tyX3 k) := by decide +kernel
abbrev cX3_init : ByteArray := prog_5_method_1_code
def yX3_init : MethodName := ⟨RX3, "<init>", "()V"⟩
abbrev cX3_take : ByteArray := prog_5_method_2_code
def yX3_take : MethodName := ⟨RX3, "take", "(LDialWardens$State;)V"⟩
abbrev cX3_placeOf : ByteArray := prog_5_method_3_code
def yX3_placeOf : MethodName := ⟨RX3, "placeOf", "(I)I"⟩
abbrev cX3_middleByOrder : ByteArray := prog_5_method_4_code
def yX3_middleByOrder : MethodName := ⟨RX3, "middleByOrder", "()I"⟩
abbrev cX3_middleByAdding : ByteArray := prog_5_method_5_code
def yX3_middleByAdding : MethodName := ⟨RX3, "middleByAdding", "()I"⟩
abbrev cX3_weightBelow : ByteArray := prog_5_method_6_code
def yX3_weightBelow : MethodName := ⟨RX3, "weightBelow", "(I)I"⟩
abbrev cX3_weightAt : ByteArray := prog_5_method_7_code
def yX3_weightAt : MethodName := ⟨RX3, "weightAt", "(I)I"⟩
def RX4 : String := "DialWardens$State"
def TX4 : u_T := fun k => match k with
  | 0 => ("DialWardens$State", "dials", "LDialWardens$Dials;", true)
  | 1 => ("DialWardens$State", "wardens", "LDialWardens$Wardens;", true)
  | 2 => ("DialWardens$State", "settings", "[I", true)
  | 3 => ("DialWardens$State", "told", "I", false)
  | 4 => ("DialWardens$State", "votes", "I", false)
  | _ => ("DialWardens$State", "held", "I", false)
def tyX4 : Nat → FieldType := fun k => match k with
  | 0 => .object "DialWardens$Dials"
  | 1 => .object "DialWardens$Wardens"
  | 2 => .array .int
  | 3 => .int
  | 4 => .int
  | _ => .int
theorem nmX4 : ∀ a, a < 6 → ∀ b, b < 6 → a ≠ b → (TX4 a).2.1 ≠ (TX4 b).2.1 := by decide +kernel
theorem tyX4_ok : ∀ k, k < 6 → parseFieldDescriptor (TX4 k).2.2.1 = some (tyX4 k) := by decide +kernel
abbrev cX4_init : ByteArray := prog_6_method_1_code
def yX4_init : MethodName := ⟨RX4, "<init>", "()V"⟩
abbrev cX4_copyFrom : ByteArray := prog_6_method_2_code
def yX4_copyFrom : MethodName := ⟨RX4, "copyFrom", "(LDialWardens$State;)V"⟩
abbrev cX4_wordOf : ByteArray := prog_6_method_3_code
def yX4_wordOf : MethodName := ⟨RX4, "wordOf", "(I)I"⟩
abbrev cX4_hear : ByteArray := prog_6_method_4_code
def yX4_hear : MethodName := ⟨RX4, "hear", "(I)V"⟩
abbrev cX4_settleQuarrels : ByteArray := prog_6_method_5_code
def yX4_settleQuarrels : MethodName := ⟨RX4, "settleQuarrels", "([I)V"⟩
abbrev cX4_settleQuarrel : ByteArray := prog_6_method_6_code
def yX4_settleQuarrel : MethodName := ⟨RX4, "settleQuarrel", "([III)V"⟩
abbrev cX4_wordsQuarrel : ByteArray := prog_6_method_7_code
def yX4_wordsQuarrel : MethodName := ⟨RX4, "wordsQuarrel", "(II)Z"⟩
abbrev cX4_quarrelsBehind : ByteArray := prog_6_method_8_code
def yX4_quarrelsBehind : MethodName := ⟨RX4, "quarrelsBehind", "(I)Z"⟩
abbrev cX4_quarrels : ByteArray := prog_6_method_9_code
def yX4_quarrels : MethodName := ⟨RX4, "quarrels", "()I"⟩
abbrev cX4_ticksToQuarrel : ByteArray := prog_6_method_10_code
def yX4_ticksToQuarrel : MethodName := ⟨RX4, "ticksToQuarrel", "(I)I"⟩
abbrev cX4_isOff : ByteArray := prog_6_method_11_code
def yX4_isOff : MethodName := ⟨RX4, "isOff", "(I)Z"⟩
abbrev cX4_dialsOff : ByteArray := prog_6_method_12_code
def yX4_dialsOff : MethodName := ⟨RX4, "dialsOff", "()I"⟩
abbrev cX4_correctDials : ByteArray := prog_6_method_13_code
def yX4_correctDials : MethodName := ⟨RX4, "correctDials", "()I"⟩
abbrev cX4_nearestAllowed : ByteArray := prog_6_method_14_code
def yX4_nearestAllowed : MethodName := ⟨RX4, "nearestAllowed", "(I)I"⟩
def RX5 : String := "DialWardens$Wardens"
def TX5 : u_T := fun k => match k with
  | 0 => ("DialWardens$Wardens", "weights", "[I", true)
  | 1 => ("DialWardens$Wardens", "lies", "[I", true)
  | _ => ("DialWardens$Wardens", "losses", "[I", true)
def tyX5 : Nat → FieldType := fun k => match k with
  | 0 => .array .int
  | 1 => .array .int
  | _ => .array .int
theorem nmX5 : ∀ a, a < 3 → ∀ b, b < 3 → a ≠ b → (TX5 a).2.1 ≠ (TX5 b).2.1 := by decide +kernel
theorem tyX5_ok : ∀ k, k < 3 → parseFieldDescriptor (TX5 k).2.2.1 = some (tyX5 k) := by decide +kernel
abbrev cX5_init : ByteArray := prog_7_method_1_code
def yX5_init : MethodName := ⟨RX5, "<init>", "()V"⟩
abbrev cX5_copyFrom : ByteArray := prog_7_method_2_code
def yX5_copyFrom : MethodName := ⟨RX5, "copyFrom", "(LDialWardens$Wardens;)V"⟩
abbrev cX5_weightSum : ByteArray := prog_7_method_3_code
def yX5_weightSum : MethodName := ⟨RX5, "weightSum", "()I"⟩
abbrev cX5_wordFor : ByteArray := prog_7_method_4_code
def yX5_wordFor : MethodName := ⟨RX5, "wordFor", "(II)I"⟩
abbrev cX5_lessen : ByteArray := prog_7_method_5_code
def yX5_lessen : MethodName := ⟨RX5, "lessen", "(I)V"⟩
def RX6 : String := "DialWardens"
def TX6 : u_T := fun k => match k with
  | 0 => ("DialWardens", "now", "LDialWardens$State;", true)
  | 1 => ("DialWardens", "snapshot", "LDialWardens$State;", true)
  | 2 => ("DialWardens", "hasSnapshot", "Z", false)
  | 3 => ("DialWardens", "history", "LDialWardens$History;", true)
  | 4 => ("DialWardens", "orders", "LDialWardens$Orders;", true)
  | _ => ("DialWardens", "poll", "LDialWardens$Poll;", true)
def tyX6 : Nat → FieldType := fun k => match k with
  | 0 => .object "DialWardens$State"
  | 1 => .object "DialWardens$State"
  | 2 => .boolean
  | 3 => .object "DialWardens$History"
  | 4 => .object "DialWardens$Orders"
  | _ => .object "DialWardens$Poll"
theorem nmX6 : ∀ a, a < 6 → ∀ b, b < 6 → a ≠ b → (TX6 a).2.1 ≠ (TX6 b).2.1 := by decide +kernel
theorem tyX6_ok : ∀ k, k < 6 → parseFieldDescriptor (TX6 k).2.2.1 = some (tyX6 k) := by decide +kernel
abbrev cX6_init : ByteArray := prog_1_method_1_code
def yX6_init : MethodName := ⟨RX6, "<init>", "()V"⟩
abbrev cX6_tick : ByteArray := prog_1_method_2_code
def yX6_tick : MethodName := ⟨RX6, "tick", "(I)I"⟩
abbrev cX6_vote : ByteArray := prog_1_method_3_code
def yX6_vote : MethodName := ⟨RX6, "vote", "()I"⟩
abbrev cX6_correct : ByteArray := prog_1_method_4_code
def yX6_correct : MethodName := ⟨RX6, "correct", "()I"⟩
abbrev cX6_put : ByteArray := prog_1_method_5_code
def yX6_put : MethodName := ⟨RX6, "put", "(II)I"⟩
abbrev cX6_drift : ByteArray := prog_1_method_6_code
def yX6_drift : MethodName := ⟨RX6, "drift", "(II)I"⟩
abbrev cX6_warden : ByteArray := prog_1_method_7_code
def yX6_warden : MethodName := ⟨RX6, "warden", "(III)I"⟩
abbrev cX6_set : ByteArray := prog_1_method_8_code
def yX6_set : MethodName := ⟨RX6, "set", "(II)I"⟩
abbrev cX6_append : ByteArray := prog_1_method_9_code
def yX6_append : MethodName := ⟨RX6, "append", "(I)I"⟩
abbrev cX6_clearBuffer : ByteArray := prog_1_method_10_code
def yX6_clearBuffer : MethodName := ⟨RX6, "clearBuffer", "()I"⟩
abbrev cX6_firstError : ByteArray := prog_1_method_11_code
def yX6_firstError : MethodName := ⟨RX6, "firstError", "()I"⟩
abbrev cX6_obey : ByteArray := prog_1_method_12_code
def yX6_obey : MethodName := ⟨RX6, "obey", "()I"⟩
abbrev cX6_keep : ByteArray := prog_1_method_13_code
def yX6_keep : MethodName := ⟨RX6, "keep", "()I"⟩
abbrev cX6_goBack : ByteArray := prog_1_method_14_code
def yX6_goBack : MethodName := ⟨RX6, "goBack", "()I"⟩
abbrev cX6_undo : ByteArray := prog_1_method_15_code
def yX6_undo : MethodName := ⟨RX6, "undo", "()I"⟩
abbrev cX6_dial : ByteArray := prog_1_method_16_code
def yX6_dial : MethodName := ⟨RX6, "dial", "(II)I"⟩
abbrev cX6_says : ByteArray := prog_1_method_17_code
def yX6_says : MethodName := ⟨RX6, "says", "(II)I"⟩
abbrev cX6_count : ByteArray := prog_1_method_18_code
def yX6_count : MethodName := ⟨RX6, "count", "(I)I"⟩
abbrev cX6_setting : ByteArray := prog_1_method_19_code
def yX6_setting : MethodName := ⟨RX6, "setting", "(I)I"⟩
abbrev cX6_without : ByteArray := prog_1_method_20_code
def yX6_without : MethodName := ⟨RX6, "without", "(I)I"⟩
abbrev cX6_pivot : ByteArray := prog_1_method_21_code
def yX6_pivot : MethodName := ⟨RX6, "pivot", "()I"⟩
abbrev cX6_wins : ByteArray := prog_1_method_22_code
def yX6_wins : MethodName := ⟨RX6, "wins", "(I)I"⟩
abbrev cX6_quarrelIn : ByteArray := prog_1_method_23_code
def yX6_quarrelIn : MethodName := ⟨RX6, "quarrelIn", "(I)I"⟩
abbrev cX6_ringsIn : ByteArray := prog_1_method_24_code
def yX6_ringsIn : MethodName := ⟨RX6, "ringsIn", "(I)I"⟩
abbrev cX6_heldShare : ByteArray := prog_1_method_25_code
def yX6_heldShare : MethodName := ⟨RX6, "heldShare", "()D"⟩
abbrev cX6_meanError : ByteArray := prog_1_method_26_code
def yX6_meanError : MethodName := ⟨RX6, "meanError", "()F"⟩
abbrev cX6_digest : ByteArray := prog_1_method_27_code
def yX6_digest : MethodName := ⟨RX6, "digest", "()J"⟩
abbrev cX6_mustBeDial : ByteArray := prog_1_method_28_code
def yX6_mustBeDial : MethodName := ⟨RX6, "mustBeDial", "(I)V"⟩
abbrev cX6_mustBeSetting : ByteArray := prog_1_method_29_code
def yX6_mustBeSetting : MethodName := ⟨RX6, "mustBeSetting", "(I)V"⟩
abbrev cX6_dialBehind : ByteArray := prog_1_method_30_code
def yX6_dialBehind : MethodName := ⟨RX6, "dialBehind", "(I)I"⟩
abbrev cX6_dialBefore : ByteArray := prog_1_method_31_code
def yX6_dialBefore : MethodName := ⟨RX6, "dialBefore", "(I)I"⟩
abbrev cX6_distance : ByteArray := prog_1_method_32_code
def yX6_distance : MethodName := ⟨RX6, "distance", "(II)I"⟩
abbrev cX6_sum : ByteArray := prog_1_method_33_code
def yX6_sum : MethodName := ⟨RX6, "sum", "([I)I"⟩
abbrev cX6_copyRow : ByteArray := prog_1_method_34_code
def yX6_copyRow : MethodName := ⟨RX6, "copyRow", "([I[I)V"⟩
abbrev cX6_mixed : ByteArray := prog_1_method_35_code
def yX6_mixed : MethodName := ⟨RX6, "mixed", "(JJ)J"⟩
abbrev cX6_bitsOf : ByteArray := prog_1_method_36_code
def yX6_bitsOf : MethodName := ⟨RX6, "bitsOf", "(DII)J"⟩
abbrev cX6_mixedWithDial : ByteArray := prog_1_method_37_code
def yX6_mixedWithDial : MethodName := ⟨RX6, "mixedWithDial", "(JI)J"⟩
abbrev cX6_mixedWithWarden : ByteArray := prog_1_method_38_code
def yX6_mixedWithWarden : MethodName := ⟨RX6, "mixedWithWarden", "(JI)J"⟩
abbrev cX6_dialNumber : ByteArray := prog_1_method_39_code
def yX6_dialNumber : MethodName := ⟨RX6, "dialNumber", "(II)I"⟩
abbrev cX6_wardenNumber : ByteArray := prog_1_method_40_code
def yX6_wardenNumber : MethodName := ⟨RX6, "wardenNumber", "(II)I"⟩
abbrev cX6_townNumber : ByteArray := prog_1_method_41_code
def yX6_townNumber : MethodName := ⟨RX6, "townNumber", "(I)I"⟩
abbrev cX6_sumNumber : ByteArray := prog_1_method_42_code
def yX6_sumNumber : MethodName := ⟨RX6, "sumNumber", "(I)I"⟩
abbrev cX6_placeOf : ByteArray := prog_1_method_43_code
def yX6_placeOf : MethodName := ⟨RX6, "placeOf", "(I)I"⟩
abbrev cX6_middleNow : ByteArray := prog_1_method_44_code
def yX6_middleNow : MethodName := ⟨RX6, "middleNow", "()I"⟩
abbrev cX6_middleNowByAdding : ByteArray := prog_1_method_45_code
def yX6_middleNowByAdding : MethodName := ⟨RX6, "middleNowByAdding", "()I"⟩
abbrev cX6_middleIf : ByteArray := prog_1_method_46_code
def yX6_middleIf : MethodName := ⟨RX6, "middleIf", "(II)I"⟩
abbrev cX6_holdVote : ByteArray := prog_1_method_47_code
def yX6_holdVote : MethodName := ⟨RX6, "holdVote", "()V"⟩
abbrev cX6_obeyPart : ByteArray := prog_1_method_48_code
def yX6_obeyPart : MethodName := ⟨RX6, "obeyPart", "(I)Z"⟩
def RX7 : String := "DialWardensModel"
def TX7 : u_T := fun k => match k with
  | 0 => ("DialWardensModel", "s", "[I", true)
  | 1 => ("DialWardensModel", "aside", "[I", true)
  | 2 => ("DialWardensModel", "before", "[I", true)
  | 3 => ("DialWardensModel", "known", "I", false)
  | 4 => ("DialWardensModel", "kept", "[I", true)
  | 5 => ("DialWardensModel", "isKept", "Z", false)
  | 6 => ("DialWardensModel", "buffer", "[I", true)
  | 7 => ("DialWardensModel", "length", "I", false)
  | 8 => ("DialWardensModel", "thrown", "I", false)
  | 9 => ("DialWardensModel", "place", "I", false)
  | _ => ("DialWardensModel", "isWrong", "Z", false)
def tyX7 : Nat → FieldType := fun k => match k with
  | 0 => .array .int
  | 1 => .array .int
  | 2 => .array .int
  | 3 => .int
  | 4 => .array .int
  | 5 => .boolean
  | 6 => .array .int
  | 7 => .int
  | 8 => .int
  | 9 => .int
  | _ => .boolean
theorem nmX7 : ∀ a, a < 11 → ∀ b, b < 11 → a ≠ b → (TX7 a).2.1 ≠ (TX7 b).2.1 := by decide +kernel
theorem tyX7_ok : ∀ k, k < 11 → parseFieldDescriptor (TX7 k).2.2.1 = some (tyX7 k) := by decide +kernel
abbrev cX7_init : ByteArray := prog_9_method_1_code
def yX7_init : MethodName := ⟨RX7, "<init>", "()V"⟩
abbrev cX7_thrown : ByteArray := prog_9_method_2_code
def yX7_thrown : MethodName := ⟨RX7, "thrown", "()I"⟩
abbrev cX7_throwing : ByteArray := prog_9_method_3_code
def yX7_throwing : MethodName := ⟨RX7, "throwing", "(I)I"⟩
abbrev cX7_in : ByteArray := prog_9_method_4_code
def yX7_in : MethodName := ⟨RX7, "in", "(III)Z"⟩
abbrev cX7_isDial : ByteArray := prog_9_method_5_code
def yX7_isDial : MethodName := ⟨RX7, "isDial", "(I)Z"⟩
abbrev cX7_size : ByteArray := prog_9_method_6_code
def yX7_size : MethodName := ⟨RX7, "size", "(I)I"⟩
abbrev cX7_putAside : ByteArray := prog_9_method_7_code
def yX7_putAside : MethodName := ⟨RX7, "putAside", "()V"⟩
abbrev cX7_putBack : ByteArray := prog_9_method_8_code
def yX7_putBack : MethodName := ⟨RX7, "putBack", "()V"⟩
abbrev cX7_save : ByteArray := prog_9_method_9_code
def yX7_save : MethodName := ⟨RX7, "save", "()V"⟩
abbrev cX7_shows : ByteArray := prog_9_method_10_code
def yX7_shows : MethodName := ⟨RX7, "shows", "(II)I"⟩
abbrev cX7_moves : ByteArray := prog_9_method_11_code
def yX7_moves : MethodName := ⟨RX7, "moves", "(II)V"⟩
abbrev cX7_tickOnce : ByteArray := prog_9_method_12_code
def yX7_tickOnce : MethodName := ⟨RX7, "tickOnce", "()I"⟩
abbrev cX7_ticks : ByteArray := prog_9_method_13_code
def yX7_ticks : MethodName := ⟨RX7, "ticks", "(I)I"⟩
abbrev cX7_right : ByteArray := prog_9_method_14_code
def yX7_right : MethodName := ⟨RX7, "right", "(I)I"⟩
abbrev cX7_corrects : ByteArray := prog_9_method_15_code
def yX7_corrects : MethodName := ⟨RX7, "corrects", "()I"⟩
abbrev cX7_wrongDials : ByteArray := prog_9_method_16_code
def yX7_wrongDials : MethodName := ⟨RX7, "wrongDials", "()I"⟩
abbrev cX7_word : ByteArray := prog_9_method_17_code
def yX7_word : MethodName := ⟨RX7, "word", "(I)I"⟩
abbrev cX7_weights : ByteArray := prog_9_method_18_code
def yX7_weights : MethodName := ⟨RX7, "weights", "()I"⟩
abbrev cX7_middle : ByteArray := prog_9_method_19_code
def yX7_middle : MethodName := ⟨RX7, "middle", "()I"⟩
abbrev cX7_behind : ByteArray := prog_9_method_20_code
def yX7_behind : MethodName := ⟨RX7, "behind", "(I)I"⟩
abbrev cX7_quarrel : ByteArray := prog_9_method_21_code
def yX7_quarrel : MethodName := ⟨RX7, "quarrel", "(I)Z"⟩
abbrev cX7_quarrels : ByteArray := prog_9_method_22_code
def yX7_quarrels : MethodName := ⟨RX7, "quarrels", "()I"⟩
abbrev cX7_loses : ByteArray := prog_9_method_23_code
def yX7_loses : MethodName := ⟨RX7, "loses", "(I)V"⟩
abbrev cX7_votes : ByteArray := prog_9_method_24_code
def yX7_votes : MethodName := ⟨RX7, "votes", "()I"⟩
abbrev cX7_tick : ByteArray := prog_9_method_25_code
def yX7_tick : MethodName := ⟨RX7, "tick", "(I)I"⟩
abbrev cX7_vote : ByteArray := prog_9_method_26_code
def yX7_vote : MethodName := ⟨RX7, "vote", "()I"⟩
abbrev cX7_correct : ByteArray := prog_9_method_27_code
def yX7_correct : MethodName := ⟨RX7, "correct", "()I"⟩
abbrev cX7_put : ByteArray := prog_9_method_28_code
def yX7_put : MethodName := ⟨RX7, "put", "(II)I"⟩
abbrev cX7_drift : ByteArray := prog_9_method_29_code
def yX7_drift : MethodName := ⟨RX7, "drift", "(II)I"⟩
abbrev cX7_warden : ByteArray := prog_9_method_30_code
def yX7_warden : MethodName := ⟨RX7, "warden", "(III)I"⟩
abbrev cX7_set : ByteArray := prog_9_method_31_code
def yX7_set : MethodName := ⟨RX7, "set", "(II)I"⟩
abbrev cX7_append : ByteArray := prog_9_method_32_code
def yX7_append : MethodName := ⟨RX7, "append", "(I)I"⟩
abbrev cX7_clearBuffer : ByteArray := prog_9_method_33_code
def yX7_clearBuffer : MethodName := ⟨RX7, "clearBuffer", "()I"⟩
abbrev cX7_sign : ByteArray := prog_9_method_34_code
def yX7_sign : MethodName := ⟨RX7, "sign", "(II)I"⟩
abbrev cX7_isNext : ByteArray := prog_9_method_35_code
def yX7_isNext : MethodName := ⟨RX7, "isNext", "(II)Z"⟩
abbrev cX7_part : ByteArray := prog_9_method_36_code
def yX7_part : MethodName := ⟨RX7, "part", "(Z)Z"⟩
abbrev cX7_go : ByteArray := prog_9_method_37_code
def yX7_go : MethodName := ⟨RX7, "go", "(Z)I"⟩
abbrev cX7_firstError : ByteArray := prog_9_method_38_code
def yX7_firstError : MethodName := ⟨RX7, "firstError", "()I"⟩
abbrev cX7_obey : ByteArray := prog_9_method_39_code
def yX7_obey : MethodName := ⟨RX7, "obey", "()I"⟩
abbrev cX7_keep : ByteArray := prog_9_method_40_code
def yX7_keep : MethodName := ⟨RX7, "keep", "()I"⟩
abbrev cX7_goBack : ByteArray := prog_9_method_41_code
def yX7_goBack : MethodName := ⟨RX7, "goBack", "()I"⟩
abbrev cX7_undo : ByteArray := prog_9_method_42_code
def yX7_undo : MethodName := ⟨RX7, "undo", "()I"⟩
abbrev cX7_ofDial : ByteArray := prog_9_method_43_code
def yX7_ofDial : MethodName := ⟨RX7, "ofDial", "(II)I"⟩
abbrev cX7_dial : ByteArray := prog_9_method_44_code
def yX7_dial : MethodName := ⟨RX7, "dial", "(II)I"⟩
abbrev cX7_placeOf : ByteArray := prog_9_method_45_code
def yX7_placeOf : MethodName := ⟨RX7, "placeOf", "(I)I"⟩
abbrev cX7_ofWarden : ByteArray := prog_9_method_46_code
def yX7_ofWarden : MethodName := ⟨RX7, "ofWarden", "(II)I"⟩
abbrev cX7_says : ByteArray := prog_9_method_47_code
def yX7_says : MethodName := ⟨RX7, "says", "(II)I"⟩
abbrev cX7_all : ByteArray := prog_9_method_48_code
def yX7_all : MethodName := ⟨RX7, "all", "(I)I"⟩
abbrev cX7_number : ByteArray := prog_9_method_49_code
def yX7_number : MethodName := ⟨RX7, "number", "(I)I"⟩
abbrev cX7_count : ByteArray := prog_9_method_50_code
def yX7_count : MethodName := ⟨RX7, "count", "(I)I"⟩
abbrev cX7_setting : ByteArray := prog_9_method_51_code
def yX7_setting : MethodName := ⟨RX7, "setting", "(I)I"⟩
abbrev cX7_middleWith : ByteArray := prog_9_method_52_code
def yX7_middleWith : MethodName := ⟨RX7, "middleWith", "(II)I"⟩
abbrev cX7_without : ByteArray := prog_9_method_53_code
def yX7_without : MethodName := ⟨RX7, "without", "(I)I"⟩
abbrev cX7_matters : ByteArray := prog_9_method_54_code
def yX7_matters : MethodName := ⟨RX7, "matters", "()I"⟩
abbrev cX7_pivot : ByteArray := prog_9_method_55_code
def yX7_pivot : MethodName := ⟨RX7, "pivot", "()I"⟩
abbrev cX7_winning : ByteArray := prog_9_method_56_code
def yX7_winning : MethodName := ⟨RX7, "winning", "(I)I"⟩
abbrev cX7_wins : ByteArray := prog_9_method_57_code
def yX7_wins : MethodName := ⟨RX7, "wins", "(I)I"⟩
abbrev cX7_quarrelsIn : ByteArray := prog_9_method_58_code
def yX7_quarrelsIn : MethodName := ⟨RX7, "quarrelsIn", "(I)I"⟩
abbrev cX7_quarrelIn : ByteArray := prog_9_method_59_code
def yX7_quarrelIn : MethodName := ⟨RX7, "quarrelIn", "(I)I"⟩
abbrev cX7_bellIn : ByteArray := prog_9_method_60_code
def yX7_bellIn : MethodName := ⟨RX7, "bellIn", "(I)I"⟩
abbrev cX7_ringsIn : ByteArray := prog_9_method_61_code
def yX7_ringsIn : MethodName := ⟨RX7, "ringsIn", "(I)I"⟩
abbrev cX7_share : ByteArray := prog_9_method_62_code
def yX7_share : MethodName := ⟨RX7, "share", "()D"⟩
abbrev cX7_heldShare : ByteArray := prog_9_method_63_code
def yX7_heldShare : MethodName := ⟨RX7, "heldShare", "()D"⟩
abbrev cX7_mean : ByteArray := prog_9_method_64_code
def yX7_mean : MethodName := ⟨RX7, "mean", "()F"⟩
abbrev cX7_meanError : ByteArray := prog_9_method_65_code
def yX7_meanError : MethodName := ⟨RX7, "meanError", "()F"⟩
abbrev cX7_bits : ByteArray := prog_9_method_66_code
def yX7_bits : MethodName := ⟨RX7, "bits", "(DII)J"⟩
abbrev cX7_digest : ByteArray := prog_9_method_67_code
def yX7_digest : MethodName := ⟨RX7, "digest", "()J"⟩
def RJ0 : String := "java/lang/String"
def TJ0 : u_T := fun k => match k with
  | _ => ("", "", "", false)
def tyJ0 : Nat → FieldType := fun k => match k with
  | _ => .int
theorem nmJ0 : ∀ a, a < 0 → ∀ b, b < 0 → a ≠ b → (TJ0 a).2.1 ≠ (TJ0 b).2.1 := by decide +kernel
theorem tyJ0_ok : ∀ k, k < 0 → parseFieldDescriptor (TJ0 k).2.2.1 = some (tyJ0 k) := by decide +kernel
def RL : String := "DialWardensLaw"
abbrev cL_tick : ByteArray := method_3_code
def yL_tick : MethodName := ⟨RL, "tick", "(LDialWardens;I[J)I"⟩
abbrev cL_vote : ByteArray := method_4_code
def yL_vote : MethodName := ⟨RL, "vote", "(LDialWardens;[J)I"⟩
abbrev cL_put : ByteArray := method_5_code
def yL_put : MethodName := ⟨RL, "put", "(LDialWardens;II[J)I"⟩
abbrev cL_drift : ByteArray := method_6_code
def yL_drift : MethodName := ⟨RL, "drift", "(LDialWardens;II[J)I"⟩
abbrev cL_warden : ByteArray := method_7_code
def yL_warden : MethodName := ⟨RL, "warden", "(LDialWardens;III[J)I"⟩
abbrev cL_set : ByteArray := method_8_code
def yL_set : MethodName := ⟨RL, "set", "(LDialWardens;II[J)I"⟩
abbrev cL_append : ByteArray := method_9_code
def yL_append : MethodName := ⟨RL, "append", "(LDialWardens;I[J)I"⟩
abbrev cL_obey : ByteArray := method_10_code
def yL_obey : MethodName := ⟨RL, "obey", "(LDialWardens;[J)I"⟩
abbrev cL_goBack : ByteArray := method_11_code
def yL_goBack : MethodName := ⟨RL, "goBack", "(LDialWardens;[J)I"⟩
abbrev cL_undo : ByteArray := method_12_code
def yL_undo : MethodName := ⟨RL, "undo", "(LDialWardens;[J)I"⟩
abbrev cL_dial : ByteArray := method_13_code
def yL_dial : MethodName := ⟨RL, "dial", "(LDialWardens;II[J)I"⟩
abbrev cL_says : ByteArray := method_14_code
def yL_says : MethodName := ⟨RL, "says", "(LDialWardens;II[J)I"⟩
abbrev cL_count : ByteArray := method_15_code
def yL_count : MethodName := ⟨RL, "count", "(LDialWardens;I[J)I"⟩
abbrev cL_setting : ByteArray := method_16_code
def yL_setting : MethodName := ⟨RL, "setting", "(LDialWardens;I[J)I"⟩
abbrev cL_without : ByteArray := method_17_code
def yL_without : MethodName := ⟨RL, "without", "(LDialWardens;I[J)I"⟩
abbrev cL_wins : ByteArray := method_18_code
def yL_wins : MethodName := ⟨RL, "wins", "(LDialWardens;I[J)I"⟩
abbrev cL_quarrelIn : ByteArray := method_19_code
def yL_quarrelIn : MethodName := ⟨RL, "quarrelIn", "(LDialWardens;I[J)I"⟩
abbrev cL_ringsIn : ByteArray := method_20_code
def yL_ringsIn : MethodName := ⟨RL, "ringsIn", "(LDialWardens;I[J)I"⟩
abbrev cL_law : ByteArray := code
def yL_law : MethodName := ⟨RL, "law", "([I)Z"⟩
abbrev vwCl : List vw_C := [(RX0, TX0, 7), (RX1, TX1, 2), (RX2, TX2, 2), (RX3, TX3, 3), (RX4, TX4, 6), (RX5, TX5, 3), (RX6, TX6, 6), (RX7, TX7, 11)]
end
section
def wsA : List Cond := lw_tbl.filter goodWord
theorem wA {w : Cond} (i : Nat) (h : lw_tbl[i]? = some w) (g : goodWord w = true) : w ∈ wsA := List.mem_filter.mpr ⟨List.mem_of_getElem? h, g⟩
theorem tw0 : Cond.initialized "DialWardensLaw" ∈ wsA := wA 55 (by decide +kernel) (by decide +kernel)
theorem tw1 : Cond.initialized "DialWardens" ∈ wsA := wA 56 (by decide +kernel) (by decide +kernel)
theorem tw2 : Cond.initialized "DialWardens$State" ∈ wsA := wA 57 (by decide +kernel) (by decide +kernel)
theorem tw3 : Cond.initialized "DialWardens$Dials" ∈ wsA := wA 58 (by decide +kernel) (by decide +kernel)
theorem tw4 : Cond.initialized "DialWardens$Wardens" ∈ wsA := wA 59 (by decide +kernel) (by decide +kernel)
theorem tw5 : Cond.initialized "DialWardens$History" ∈ wsA := wA 60 (by decide +kernel) (by decide +kernel)
theorem tw6 : Cond.initialized "DialWardens$Orders" ∈ wsA := wA 61 (by decide +kernel) (by decide +kernel)
theorem tw7 : Cond.initialized "DialWardens$Poll" ∈ wsA := wA 62 (by decide +kernel) (by decide +kernel)
theorem tw8 : Cond.initialized "DialWardensModel" ∈ wsA := wA 63 (by decide +kernel) (by decide +kernel)
theorem tw9 : Cond.initialized "java/lang/Throwable" ∈ wsA := wA 64 (by decide +kernel) (by decide +kernel)
theorem tw10 : Cond.initialized "java/lang/Exception" ∈ wsA := wA 65 (by decide +kernel) (by decide +kernel)
theorem tw11 : Cond.initialized "java/lang/RuntimeException" ∈ wsA := wA 66 (by decide +kernel) (by decide +kernel)
theorem tw12 : Cond.initialized "java/lang/IllegalArgumentException" ∈ wsA := wA 67 (by decide +kernel) (by decide +kernel)
theorem tw13 : Cond.initialized "java/lang/IllegalStateException" ∈ wsA := wA 68 (by decide +kernel) (by decide +kernel)
theorem tw14 : Cond.initialized "java/lang/IndexOutOfBoundsException" ∈ wsA := wA 69 (by decide +kernel) (by decide +kernel)
theorem tw15 : Cond.classLink "DialWardensLaw" 8 "DialWardens" ∈ wsA := wA 70 (by decide +kernel) (by decide +kernel)
theorem tw16 : Cond.instantiable "DialWardens" 6 ∈ wsA := wA 71 (by decide +kernel) (by decide +kernel)
theorem tw17 : Cond.methodLink "DialWardensLaw" 73 yX6_init ∈ wsA := wA 72 (by decide +kernel) (by decide +kernel)
theorem tw18 : Cond.instanceMethod yX6_init ∈ wsA := wA 73 (by decide +kernel) (by decide +kernel)
theorem tw19 : Cond.code yX6_init cX6_init 1 (Option.none : Option Jvm.ClassFile.FieldType) ∈ wsA := wA 74 (by decide +kernel) (by decide +kernel)
theorem tw20 : Cond.methodLink "DialWardens" 1 ({ cls := "java/lang/Object", name := "<init>", desc := "()V" } : Jvm.MethodName) ∈ wsA := wA 75 (by decide +kernel) (by decide +kernel)
theorem tw21 : Cond.instanceMethod ({ cls := "java/lang/Object", name := "<init>", desc := "()V" } : Jvm.MethodName) ∈ wsA := wA 76 (by decide +kernel) (by decide +kernel)
theorem tw22 : Cond.code ({ cls := "java/lang/Object", name := "<init>", desc := "()V" } : Jvm.MethodName) object_method_1_code 1 (Option.none : Option Jvm.ClassFile.FieldType) ∈ wsA := wA 77 (by decide +kernel) (by decide +kernel)
theorem tw23 : Cond.classLink "DialWardens" 7 "DialWardens$State" ∈ wsA := wA 78 (by decide +kernel) (by decide +kernel)
theorem tw24 : Cond.instantiable "DialWardens$State" 6 ∈ wsA := wA 79 (by decide +kernel) (by decide +kernel)
theorem tw25 : Cond.methodLink "DialWardens" 9 yX4_init ∈ wsA := wA 80 (by decide +kernel) (by decide +kernel)
theorem tw26 : Cond.instanceMethod yX4_init ∈ wsA := wA 81 (by decide +kernel) (by decide +kernel)
theorem tw27 : Cond.code yX4_init cX4_init 1 (Option.none : Option Jvm.ClassFile.FieldType) ∈ wsA := wA 82 (by decide +kernel) (by decide +kernel)
theorem tw28 : Cond.methodLink "DialWardens$State" 3 ({ cls := "java/lang/Object", name := "<init>", desc := "()V" } : Jvm.MethodName) ∈ wsA := wA 83 (by decide +kernel) (by decide +kernel)
theorem tw29 : Cond.classLink "DialWardens$State" 9 "DialWardens$Dials" ∈ wsA := wA 84 (by decide +kernel) (by decide +kernel)
theorem tw30 : Cond.instantiable "DialWardens$Dials" 7 ∈ wsA := wA 85 (by decide +kernel) (by decide +kernel)
theorem tw32 : Cond.instanceMethod yX0_init ∈ wsA := wA 87 (by decide +kernel) (by decide +kernel)
theorem tw33 : Cond.code yX0_init cX0_init 1 (Option.none : Option Jvm.ClassFile.FieldType) ∈ wsA := wA 88 (by decide +kernel) (by decide +kernel)
theorem tw34 : Cond.methodLink "DialWardens$Dials" 3 ({ cls := "java/lang/Object", name := "<init>", desc := "()V" } : Jvm.MethodName) ∈ wsA := wA 89 (by decide +kernel) (by decide +kernel)
theorem tw35 : Cond.fieldLink "DialWardens$Dials" 30 "DialWardens$Dials" "trueTime" "I" ∈ wsA := wA 90 (by decide +kernel) (by decide +kernel)
theorem tw37 : Cond.fieldLink "DialWardens$Dials" 9 "DialWardens$Dials" "minutes" "[I" ∈ wsA := wA 92 (by decide +kernel) (by decide +kernel)
theorem tw40 : Cond.fieldLink "DialWardens$Dials" 15 "DialWardens$Dials" "drifts" "[I" ∈ wsA := wA 95 (by decide +kernel) (by decide +kernel)
theorem tw42 : Cond.fieldLink "DialWardens$Dials" 18 "DialWardens$Dials" "brought" "[I" ∈ wsA := wA 97 (by decide +kernel) (by decide +kernel)
theorem tw43 : Cond.fieldLink "DialWardens$Dials" 21 "DialWardens$Dials" "forward" "[I" ∈ wsA := wA 98 (by decide +kernel) (by decide +kernel)
theorem tw45 : Cond.fieldLink "DialWardens$Dials" 24 "DialWardens$Dials" "back" "[I" ∈ wsA := wA 100 (by decide +kernel) (by decide +kernel)
theorem tw47 : Cond.fieldLink "DialWardens$Dials" 27 "DialWardens$Dials" "bells" "[I" ∈ wsA := wA 102 (by decide +kernel) (by decide +kernel)
theorem tw64 : Cond.arrayClass Jvm.ClassFile.FieldType.int ∈ wsA := wA 119 (by decide +kernel) (by decide +kernel)
theorem tw65 : Cond.classLink "DialWardens$State" 18 "DialWardens$Wardens" ∈ wsA := wA 120 (by decide +kernel) (by decide +kernel)
theorem tw66 : Cond.instantiable "DialWardens$Wardens" 3 ∈ wsA := wA 121 (by decide +kernel) (by decide +kernel)
theorem tw67 : Cond.methodLink "DialWardens$State" 20 yX5_init ∈ wsA := wA 122 (by decide +kernel) (by decide +kernel)
theorem tw68 : Cond.instanceMethod yX5_init ∈ wsA := wA 123 (by decide +kernel) (by decide +kernel)
theorem tw69 : Cond.code yX5_init cX5_init 2 (Option.none : Option Jvm.ClassFile.FieldType) ∈ wsA := wA 124 (by decide +kernel) (by decide +kernel)
theorem tw70 : Cond.methodLink "DialWardens$Wardens" 3 ({ cls := "java/lang/Object", name := "<init>", desc := "()V" } : Jvm.MethodName) ∈ wsA := wA 125 (by decide +kernel) (by decide +kernel)
theorem tw71 : Cond.fieldLink "DialWardens$Wardens" 9 "DialWardens$Wardens" "weights" "[I" ∈ wsA := wA 126 (by decide +kernel) (by decide +kernel)
theorem tw74 : Cond.fieldLink "DialWardens$Wardens" 15 "DialWardens$Wardens" "lies" "[I" ∈ wsA := wA 129 (by decide +kernel) (by decide +kernel)
theorem tw76 : Cond.fieldLink "DialWardens$Wardens" 18 "DialWardens$Wardens" "losses" "[I" ∈ wsA := wA 131 (by decide +kernel) (by decide +kernel)
theorem tw85 : Cond.fieldLink "DialWardens$State" 12 "DialWardens$State" "dials" "LDialWardens$Dials;" ∈ wsA := wA 140 (by decide +kernel) (by decide +kernel)
theorem tw87 : Cond.fieldLink "DialWardens$State" 21 "DialWardens$State" "wardens" "LDialWardens$Wardens;" ∈ wsA := wA 142 (by decide +kernel) (by decide +kernel)
theorem tw90 : Cond.fieldLink "DialWardens$State" 25 "DialWardens$State" "settings" "[I" ∈ wsA := wA 145 (by decide +kernel) (by decide +kernel)
theorem tw92 : Cond.fieldLink "DialWardens$State" 40 "DialWardens$State" "told" "I" ∈ wsA := wA 147 (by decide +kernel) (by decide +kernel)
theorem tw94 : Cond.fieldLink "DialWardens$State" 44 "DialWardens$State" "votes" "I" ∈ wsA := wA 149 (by decide +kernel) (by decide +kernel)
theorem tw96 : Cond.fieldLink "DialWardens$State" 47 "DialWardens$State" "held" "I" ∈ wsA := wA 151 (by decide +kernel) (by decide +kernel)
theorem tw111 : Cond.classLink "DialWardens" 23 "DialWardens$History" ∈ wsA := wA 166 (by decide +kernel) (by decide +kernel)
theorem tw112 : Cond.instantiable "DialWardens$History" 2 ∈ wsA := wA 167 (by decide +kernel) (by decide +kernel)
theorem tw113 : Cond.methodLink "DialWardens" 25 yX1_init ∈ wsA := wA 168 (by decide +kernel) (by decide +kernel)
theorem tw114 : Cond.instanceMethod yX1_init ∈ wsA := wA 169 (by decide +kernel) (by decide +kernel)
theorem tw115 : Cond.code yX1_init cX1_init 2 (Option.none : Option Jvm.ClassFile.FieldType) ∈ wsA := wA 170 (by decide +kernel) (by decide +kernel)
theorem tw116 : Cond.methodLink "DialWardens$History" 3 ({ cls := "java/lang/Object", name := "<init>", desc := "()V" } : Jvm.MethodName) ∈ wsA := wA 171 (by decide +kernel) (by decide +kernel)
theorem tw117 : Cond.classLink "DialWardens$History" 9 "DialWardens$State" ∈ wsA := wA 172 (by decide +kernel) (by decide +kernel)
theorem tw119 : Cond.methodLink "DialWardens$History" 17 yX4_init ∈ wsA := wA 174 (by decide +kernel) (by decide +kernel)
theorem tw120 : Cond.fieldLink "DialWardens$History" 11 "DialWardens$History" "states" "[LDialWardens$State;" ∈ wsA := wA 175 (by decide +kernel) (by decide +kernel)
theorem tw121 : Cond.fieldLink "DialWardens$History" 18 "DialWardens$History" "size" "I" ∈ wsA := wA 176 (by decide +kernel) (by decide +kernel)
theorem tw128 : Cond.classLink "DialWardens" 30 "DialWardens$Orders" ∈ wsA := wA 183 (by decide +kernel) (by decide +kernel)
theorem tw129 : Cond.instantiable "DialWardens$Orders" 2 ∈ wsA := wA 184 (by decide +kernel) (by decide +kernel)
theorem tw131 : Cond.instanceMethod yX2_init ∈ wsA := wA 186 (by decide +kernel) (by decide +kernel)
theorem tw132 : Cond.code yX2_init cX2_init 1 (Option.none : Option Jvm.ClassFile.FieldType) ∈ wsA := wA 187 (by decide +kernel) (by decide +kernel)
theorem tw133 : Cond.methodLink "DialWardens$Orders" 3 ({ cls := "java/lang/Object", name := "<init>", desc := "()V" } : Jvm.MethodName) ∈ wsA := wA 188 (by decide +kernel) (by decide +kernel)
theorem tw134 : Cond.fieldLink "DialWardens$Orders" 9 "DialWardens$Orders" "codes" "[I" ∈ wsA := wA 189 (by decide +kernel) (by decide +kernel)
theorem tw135 : Cond.fieldLink "DialWardens$Orders" 15 "DialWardens$Orders" "length" "I" ∈ wsA := wA 190 (by decide +kernel) (by decide +kernel)
theorem tw142 : Cond.classLink "DialWardens" 37 "DialWardens$Poll" ∈ wsA := wA 197 (by decide +kernel) (by decide +kernel)
theorem tw143 : Cond.instantiable "DialWardens$Poll" 3 ∈ wsA := wA 198 (by decide +kernel) (by decide +kernel)
theorem tw145 : Cond.instanceMethod yX3_init ∈ wsA := wA 200 (by decide +kernel) (by decide +kernel)
theorem tw146 : Cond.code yX3_init cX3_init 1 (Option.none : Option Jvm.ClassFile.FieldType) ∈ wsA := wA 201 (by decide +kernel) (by decide +kernel)
theorem tw147 : Cond.methodLink "DialWardens$Poll" 3 ({ cls := "java/lang/Object", name := "<init>", desc := "()V" } : Jvm.MethodName) ∈ wsA := wA 202 (by decide +kernel) (by decide +kernel)
theorem tw148 : Cond.fieldLink "DialWardens$Poll" 9 "DialWardens$Poll" "words" "[I" ∈ wsA := wA 203 (by decide +kernel) (by decide +kernel)
theorem tw150 : Cond.fieldLink "DialWardens$Poll" 15 "DialWardens$Poll" "weights" "[I" ∈ wsA := wA 205 (by decide +kernel) (by decide +kernel)
theorem tw152 : Cond.fieldLink "DialWardens$Poll" 18 "DialWardens$Poll" "order" "[I" ∈ wsA := wA 207 (by decide +kernel) (by decide +kernel)
theorem tw160 : Cond.fieldLink "DialWardens" 10 "DialWardens" "now" "LDialWardens$State;" ∈ wsA := wA 215 (by decide +kernel) (by decide +kernel)
theorem tw161 : Cond.fieldLink "DialWardens" 16 "DialWardens" "snapshot" "LDialWardens$State;" ∈ wsA := wA 216 (by decide +kernel) (by decide +kernel)
theorem tw162 : Cond.fieldLink "DialWardens" 19 "DialWardens" "hasSnapshot" "Z" ∈ wsA := wA 217 (by decide +kernel) (by decide +kernel)
theorem tw163 : Cond.fieldLink "DialWardens" 26 "DialWardens" "history" "LDialWardens$History;" ∈ wsA := wA 218 (by decide +kernel) (by decide +kernel)
theorem tw164 : Cond.fieldLink "DialWardens" 33 "DialWardens" "orders" "LDialWardens$Orders;" ∈ wsA := wA 219 (by decide +kernel) (by decide +kernel)
theorem tw165 : Cond.fieldLink "DialWardens" 40 "DialWardens" "poll" "LDialWardens$Poll;" ∈ wsA := wA 220 (by decide +kernel) (by decide +kernel)
theorem tw179 : Cond.methodLink "DialWardensLaw" 90 yX6_correct ∈ wsA := wA 234 (by decide +kernel) (by decide +kernel)
theorem tw180 : Cond.instanceMethod yX6_correct ∈ wsA := wA 235 (by decide +kernel) (by decide +kernel)
theorem tw181 : Cond.selects "DialWardens" yX6_correct yX6_correct ∈ wsA := wA 236 (by decide +kernel) (by decide +kernel)
theorem tw182 : Cond.code yX6_correct cX6_correct 1 (Option.some Jvm.ClassFile.FieldType.int) ∈ wsA := wA 237 (by decide +kernel) (by decide +kernel)
theorem tw183 : Cond.methodLink "DialWardens" 51 yX1_save ∈ wsA := wA 238 (by decide +kernel) (by decide +kernel)
theorem tw184 : Cond.instanceMethod yX1_save ∈ wsA := wA 239 (by decide +kernel) (by decide +kernel)
theorem tw185 : Cond.selects "DialWardens$History" yX1_save yX1_save ∈ wsA := wA 240 (by decide +kernel) (by decide +kernel)
theorem tw186 : Cond.code yX1_save cX1_save 2 (Option.none : Option Jvm.ClassFile.FieldType) ∈ wsA := wA 241 (by decide +kernel) (by decide +kernel)
theorem tw187 : Cond.methodLink "DialWardens$History" 22 yX1_dropOldest ∈ wsA := wA 242 (by decide +kernel) (by decide +kernel)
theorem tw189 : Cond.instanceMethod yX1_dropOldest ∈ wsA := wA 244 (by decide +kernel) (by decide +kernel)
theorem tw190 : Cond.code yX1_dropOldest cX1_dropOldest 3 (Option.none : Option Jvm.ClassFile.FieldType) ∈ wsA := wA 245 (by decide +kernel) (by decide +kernel)
theorem tw191 : Cond.methodLink "DialWardens$History" 25 yX4_copyFrom ∈ wsA := wA 246 (by decide +kernel) (by decide +kernel)
theorem tw192 : Cond.instanceMethod yX4_copyFrom ∈ wsA := wA 247 (by decide +kernel) (by decide +kernel)
theorem tw193 : Cond.selects "DialWardens$State" yX4_copyFrom yX4_copyFrom ∈ wsA := wA 248 (by decide +kernel) (by decide +kernel)
theorem tw194 : Cond.code yX4_copyFrom cX4_copyFrom 2 (Option.none : Option Jvm.ClassFile.FieldType) ∈ wsA := wA 249 (by decide +kernel) (by decide +kernel)
theorem tw195 : Cond.methodLink "DialWardens$State" 29 yX0_copyFrom ∈ wsA := wA 250 (by decide +kernel) (by decide +kernel)
theorem tw196 : Cond.instanceMethod yX0_copyFrom ∈ wsA := wA 251 (by decide +kernel) (by decide +kernel)
theorem tw197 : Cond.selects "DialWardens$Dials" yX0_copyFrom yX0_copyFrom ∈ wsA := wA 252 (by decide +kernel) (by decide +kernel)
theorem tw198 : Cond.code yX0_copyFrom cX0_copyFrom 2 (Option.none : Option Jvm.ClassFile.FieldType) ∈ wsA := wA 253 (by decide +kernel) (by decide +kernel)
theorem tw200 : Cond.static yX6_copyRow ∈ wsA := wA 255 (by decide +kernel) (by decide +kernel)
theorem tw201 : Cond.code yX6_copyRow cX6_copyRow 3 (Option.none : Option Jvm.ClassFile.FieldType) ∈ wsA := wA 256 (by decide +kernel) (by decide +kernel)
theorem tw202 : Cond.methodLink "DialWardens$State" 33 yX5_copyFrom ∈ wsA := wA 257 (by decide +kernel) (by decide +kernel)
theorem tw203 : Cond.instanceMethod yX5_copyFrom ∈ wsA := wA 258 (by decide +kernel) (by decide +kernel)
theorem tw204 : Cond.selects "DialWardens$Wardens" yX5_copyFrom yX5_copyFrom ∈ wsA := wA 259 (by decide +kernel) (by decide +kernel)
theorem tw205 : Cond.code yX5_copyFrom cX5_copyFrom 2 (Option.none : Option Jvm.ClassFile.FieldType) ∈ wsA := wA 260 (by decide +kernel) (by decide +kernel)
theorem tw208 : Cond.methodLink "DialWardens" 87 yX4_correctDials ∈ wsA := wA 263 (by decide +kernel) (by decide +kernel)
theorem tw209 : Cond.instanceMethod yX4_correctDials ∈ wsA := wA 264 (by decide +kernel) (by decide +kernel)
theorem tw210 : Cond.selects "DialWardens$State" yX4_correctDials yX4_correctDials ∈ wsA := wA 265 (by decide +kernel) (by decide +kernel)
theorem tw211 : Cond.code yX4_correctDials cX4_correctDials 3 (Option.some Jvm.ClassFile.FieldType.int) ∈ wsA := wA 266 (by decide +kernel) (by decide +kernel)
theorem tw212 : Cond.methodLink "DialWardens$State" 86 yX4_isOff ∈ wsA := wA 267 (by decide +kernel) (by decide +kernel)
theorem tw213 : Cond.instanceMethod yX4_isOff ∈ wsA := wA 268 (by decide +kernel) (by decide +kernel)
theorem tw214 : Cond.selects "DialWardens$State" yX4_isOff yX4_isOff ∈ wsA := wA 269 (by decide +kernel) (by decide +kernel)
theorem tw215 : Cond.code yX4_isOff cX4_isOff 2 (Option.some Jvm.ClassFile.FieldType.boolean) ∈ wsA := wA 270 (by decide +kernel) (by decide +kernel)
theorem tw217 : Cond.static yX6_distance ∈ wsA := wA 272 (by decide +kernel) (by decide +kernel)
theorem tw218 : Cond.code yX6_distance cX6_distance 2 (Option.some Jvm.ClassFile.FieldType.int) ∈ wsA := wA 273 (by decide +kernel) (by decide +kernel)
theorem tw219 : Cond.methodLink "DialWardens$State" 89 yX4_nearestAllowed ∈ wsA := wA 274 (by decide +kernel) (by decide +kernel)
theorem tw221 : Cond.instanceMethod yX4_nearestAllowed ∈ wsA := wA 276 (by decide +kernel) (by decide +kernel)
theorem tw222 : Cond.code yX4_nearestAllowed cX4_nearestAllowed 3 (Option.some Jvm.ClassFile.FieldType.int) ∈ wsA := wA 277 (by decide +kernel) (by decide +kernel)
theorem tw223 : Cond.methodLink "DialWardens$State" 92 yX0_moveTo ∈ wsA := wA 278 (by decide +kernel) (by decide +kernel)
theorem tw224 : Cond.instanceMethod yX0_moveTo ∈ wsA := wA 279 (by decide +kernel) (by decide +kernel)
theorem tw225 : Cond.selects "DialWardens$Dials" yX0_moveTo yX0_moveTo ∈ wsA := wA 280 (by decide +kernel) (by decide +kernel)
theorem tw226 : Cond.code yX0_moveTo cX0_moveTo 4 (Option.some Jvm.ClassFile.FieldType.int) ∈ wsA := wA 281 (by decide +kernel) (by decide +kernel)
theorem tw227 : Cond.methodLink "DialWardens$Dials" 46 yX0_ring ∈ wsA := wA 282 (by decide +kernel) (by decide +kernel)
theorem tw229 : Cond.instanceMethod yX0_ring ∈ wsA := wA 284 (by decide +kernel) (by decide +kernel)
theorem tw230 : Cond.code yX0_ring cX0_ring 5 (Option.some Jvm.ClassFile.FieldType.int) ∈ wsA := wA 285 (by decide +kernel) (by decide +kernel)
theorem tw231 : Cond.methodLink "DialWardensLaw" 111 yX6_clearBuffer ∈ wsA := wA 286 (by decide +kernel) (by decide +kernel)
theorem tw232 : Cond.instanceMethod yX6_clearBuffer ∈ wsA := wA 287 (by decide +kernel) (by decide +kernel)
theorem tw233 : Cond.selects "DialWardens" yX6_clearBuffer yX6_clearBuffer ∈ wsA := wA 288 (by decide +kernel) (by decide +kernel)
theorem tw234 : Cond.code yX6_clearBuffer cX6_clearBuffer 2 (Option.some Jvm.ClassFile.FieldType.int) ∈ wsA := wA 289 (by decide +kernel) (by decide +kernel)
theorem tw235 : Cond.methodLink "DialWardens" 141 yX2_empty ∈ wsA := wA 290 (by decide +kernel) (by decide +kernel)
theorem tw236 : Cond.instanceMethod yX2_empty ∈ wsA := wA 291 (by decide +kernel) (by decide +kernel)
theorem tw237 : Cond.selects "DialWardens$Orders" yX2_empty yX2_empty ∈ wsA := wA 292 (by decide +kernel) (by decide +kernel)
theorem tw238 : Cond.code yX2_empty cX2_empty 1 (Option.none : Option Jvm.ClassFile.FieldType) ∈ wsA := wA 293 (by decide +kernel) (by decide +kernel)
theorem tw239 : Cond.methodLink "DialWardensLaw" 115 yX6_firstError ∈ wsA := wA 294 (by decide +kernel) (by decide +kernel)
theorem tw240 : Cond.instanceMethod yX6_firstError ∈ wsA := wA 295 (by decide +kernel) (by decide +kernel)
theorem tw241 : Cond.selects "DialWardens" yX6_firstError yX6_firstError ∈ wsA := wA 296 (by decide +kernel) (by decide +kernel)
theorem tw242 : Cond.code yX6_firstError cX6_firstError 1 (Option.some Jvm.ClassFile.FieldType.int) ∈ wsA := wA 297 (by decide +kernel) (by decide +kernel)
theorem tw243 : Cond.methodLink "DialWardens" 144 yX2_errorPlace ∈ wsA := wA 298 (by decide +kernel) (by decide +kernel)
theorem tw244 : Cond.instanceMethod yX2_errorPlace ∈ wsA := wA 299 (by decide +kernel) (by decide +kernel)
theorem tw245 : Cond.selects "DialWardens$Orders" yX2_errorPlace yX2_errorPlace ∈ wsA := wA 300 (by decide +kernel) (by decide +kernel)
theorem tw246 : Cond.code yX2_errorPlace cX2_errorPlace 3 (Option.some Jvm.ClassFile.FieldType.int) ∈ wsA := wA 301 (by decide +kernel) (by decide +kernel)
theorem tw247 : Cond.methodLink "DialWardens$Orders" 19 yX2_codeAt ∈ wsA := wA 302 (by decide +kernel) (by decide +kernel)
theorem tw248 : Cond.instanceMethod yX2_codeAt ∈ wsA := wA 303 (by decide +kernel) (by decide +kernel)
theorem tw249 : Cond.selects "DialWardens$Orders" yX2_codeAt yX2_codeAt ∈ wsA := wA 304 (by decide +kernel) (by decide +kernel)
theorem tw250 : Cond.code yX2_codeAt cX2_codeAt 2 (Option.some Jvm.ClassFile.FieldType.int) ∈ wsA := wA 305 (by decide +kernel) (by decide +kernel)
theorem tw251 : Cond.methodLink "DialWardens$Orders" 23 yX2_dueAfter ∈ wsA := wA 306 (by decide +kernel) (by decide +kernel)
theorem tw252 : Cond.static yX2_dueAfter ∈ wsA := wA 307 (by decide +kernel) (by decide +kernel)
theorem tw253 : Cond.code yX2_dueAfter cX2_dueAfter 2 (Option.some Jvm.ClassFile.FieldType.int) ∈ wsA := wA 308 (by decide +kernel) (by decide +kernel)
theorem tw254 : Cond.methodLink "DialWardens$Orders" 27 yX2_dueAfterKind ∈ wsA := wA 309 (by decide +kernel) (by decide +kernel)
theorem tw255 : Cond.static yX2_dueAfterKind ∈ wsA := wA 310 (by decide +kernel) (by decide +kernel)
theorem tw256 : Cond.code yX2_dueAfterKind cX2_dueAfterKind 1 (Option.some Jvm.ClassFile.FieldType.int) ∈ wsA := wA 311 (by decide +kernel) (by decide +kernel)
theorem tw257 : Cond.methodLink "DialWardens$Orders" 30 yX2_isWithin ∈ wsA := wA 312 (by decide +kernel) (by decide +kernel)
theorem tw258 : Cond.static yX2_isWithin ∈ wsA := wA 313 (by decide +kernel) (by decide +kernel)
theorem tw259 : Cond.code yX2_isWithin cX2_isWithin 3 (Option.some Jvm.ClassFile.FieldType.boolean) ∈ wsA := wA 314 (by decide +kernel) (by decide +kernel)
theorem tw260 : Cond.methodLink "DialWardens$Orders" 34 yX2_dueAfterPart ∈ wsA := wA 315 (by decide +kernel) (by decide +kernel)
theorem tw261 : Cond.static yX2_dueAfterPart ∈ wsA := wA 316 (by decide +kernel) (by decide +kernel)
theorem tw262 : Cond.code yX2_dueAfterPart cX2_dueAfterPart 1 (Option.some Jvm.ClassFile.FieldType.int) ∈ wsA := wA 317 (by decide +kernel) (by decide +kernel)
theorem tw263 : Cond.methodLink "DialWardensLaw" 122 yX6_keep ∈ wsA := wA 318 (by decide +kernel) (by decide +kernel)
theorem tw264 : Cond.instanceMethod yX6_keep ∈ wsA := wA 319 (by decide +kernel) (by decide +kernel)
theorem tw265 : Cond.selects "DialWardens" yX6_keep yX6_keep ∈ wsA := wA 320 (by decide +kernel) (by decide +kernel)
theorem tw266 : Cond.code yX6_keep cX6_keep 1 (Option.some Jvm.ClassFile.FieldType.int) ∈ wsA := wA 321 (by decide +kernel) (by decide +kernel)
theorem tw267 : Cond.methodLink "DialWardens" 160 yX4_copyFrom ∈ wsA := wA 322 (by decide +kernel) (by decide +kernel)
theorem tw268 : Cond.methodLink "DialWardensLaw" 147 yX6_pivot ∈ wsA := wA 323 (by decide +kernel) (by decide +kernel)
theorem tw269 : Cond.instanceMethod yX6_pivot ∈ wsA := wA 324 (by decide +kernel) (by decide +kernel)
theorem tw270 : Cond.selects "DialWardens" yX6_pivot yX6_pivot ∈ wsA := wA 325 (by decide +kernel) (by decide +kernel)
theorem tw271 : Cond.code yX6_pivot cX6_pivot 7 (Option.some Jvm.ClassFile.FieldType.int) ∈ wsA := wA 326 (by decide +kernel) (by decide +kernel)
theorem tw272 : Cond.methodLink "DialWardens" 190 yX6_middleNow ∈ wsA := wA 327 (by decide +kernel) (by decide +kernel)
theorem tw274 : Cond.instanceMethod yX6_middleNow ∈ wsA := wA 329 (by decide +kernel) (by decide +kernel)
theorem tw275 : Cond.code yX6_middleNow cX6_middleNow 1 (Option.some Jvm.ClassFile.FieldType.int) ∈ wsA := wA 330 (by decide +kernel) (by decide +kernel)
theorem tw276 : Cond.methodLink "DialWardens" 315 yX3_take ∈ wsA := wA 331 (by decide +kernel) (by decide +kernel)
theorem tw277 : Cond.instanceMethod yX3_take ∈ wsA := wA 332 (by decide +kernel) (by decide +kernel)
theorem tw278 : Cond.selects "DialWardens$Poll" yX3_take yX3_take ∈ wsA := wA 333 (by decide +kernel) (by decide +kernel)
theorem tw279 : Cond.code yX3_take cX3_take 3 (Option.none : Option Jvm.ClassFile.FieldType) ∈ wsA := wA 334 (by decide +kernel) (by decide +kernel)
theorem tw280 : Cond.methodLink "DialWardens$Poll" 21 yX4_wordOf ∈ wsA := wA 335 (by decide +kernel) (by decide +kernel)
theorem tw281 : Cond.instanceMethod yX4_wordOf ∈ wsA := wA 336 (by decide +kernel) (by decide +kernel)
theorem tw282 : Cond.selects "DialWardens$State" yX4_wordOf yX4_wordOf ∈ wsA := wA 337 (by decide +kernel) (by decide +kernel)
theorem tw283 : Cond.code yX4_wordOf cX4_wordOf 2 (Option.some Jvm.ClassFile.FieldType.int) ∈ wsA := wA 338 (by decide +kernel) (by decide +kernel)
theorem tw284 : Cond.methodLink "DialWardens$State" 53 yX5_wordFor ∈ wsA := wA 339 (by decide +kernel) (by decide +kernel)
theorem tw285 : Cond.instanceMethod yX5_wordFor ∈ wsA := wA 340 (by decide +kernel) (by decide +kernel)
theorem tw286 : Cond.selects "DialWardens$Wardens" yX5_wordFor yX5_wordFor ∈ wsA := wA 341 (by decide +kernel) (by decide +kernel)
theorem tw287 : Cond.code yX5_wordFor cX5_wordFor 4 (Option.some Jvm.ClassFile.FieldType.int) ∈ wsA := wA 342 (by decide +kernel) (by decide +kernel)
theorem tw288 : Cond.constant "DialWardens$Wardens" 29 (99999 : Int32) ∈ wsA := wA 343 (by decide +kernel) (by decide +kernel)
theorem tw289 : Cond.methodLink "DialWardens" 319 yX3_middleByOrder ∈ wsA := wA 344 (by decide +kernel) (by decide +kernel)
theorem tw290 : Cond.instanceMethod yX3_middleByOrder ∈ wsA := wA 345 (by decide +kernel) (by decide +kernel)
theorem tw291 : Cond.selects "DialWardens$Poll" yX3_middleByOrder yX3_middleByOrder ∈ wsA := wA 346 (by decide +kernel) (by decide +kernel)
theorem tw292 : Cond.code yX3_middleByOrder cX3_middleByOrder 7 (Option.some Jvm.ClassFile.FieldType.int) ∈ wsA := wA 347 (by decide +kernel) (by decide +kernel)
theorem tw293 : Cond.methodLink "DialWardens$Poll" 34 yX3_placeOf ∈ wsA := wA 348 (by decide +kernel) (by decide +kernel)
theorem tw294 : Cond.instanceMethod yX3_placeOf ∈ wsA := wA 349 (by decide +kernel) (by decide +kernel)
theorem tw295 : Cond.selects "DialWardens$Poll" yX3_placeOf yX3_placeOf ∈ wsA := wA 350 (by decide +kernel) (by decide +kernel)
theorem tw296 : Cond.code yX3_placeOf cX3_placeOf 4 (Option.some Jvm.ClassFile.FieldType.int) ∈ wsA := wA 351 (by decide +kernel) (by decide +kernel)
theorem tw298 : Cond.static yX6_sum ∈ wsA := wA 353 (by decide +kernel) (by decide +kernel)
theorem tw299 : Cond.code yX6_sum cX6_sum 6 (Option.some Jvm.ClassFile.FieldType.int) ∈ wsA := wA 354 (by decide +kernel) (by decide +kernel)
theorem tw300 : Cond.methodLink "DialWardens" 187 yX6_middleIf ∈ wsA := wA 355 (by decide +kernel) (by decide +kernel)
theorem tw302 : Cond.instanceMethod yX6_middleIf ∈ wsA := wA 357 (by decide +kernel) (by decide +kernel)
theorem tw303 : Cond.code yX6_middleIf cX6_middleIf 3 (Option.some Jvm.ClassFile.FieldType.int) ∈ wsA := wA 358 (by decide +kernel) (by decide +kernel)
theorem tw304 : Cond.methodLink "DialWardens" 193 yX6_distance ∈ wsA := wA 359 (by decide +kernel) (by decide +kernel)
theorem tw305 : Cond.methodLink "DialWardensLaw" 160 yX6_heldShare ∈ wsA := wA 360 (by decide +kernel) (by decide +kernel)
theorem tw306 : Cond.instanceMethod yX6_heldShare ∈ wsA := wA 361 (by decide +kernel) (by decide +kernel)
theorem tw307 : Cond.selects "DialWardens" yX6_heldShare yX6_heldShare ∈ wsA := wA 362 (by decide +kernel) (by decide +kernel)
theorem tw308 : Cond.code yX6_heldShare cX6_heldShare 1 (Option.some Jvm.ClassFile.FieldType.double) ∈ wsA := wA 363 (by decide +kernel) (by decide +kernel)
theorem tw309 : Cond.methodLink "DialWardensLaw" 165 yX6_meanError ∈ wsA := wA 364 (by decide +kernel) (by decide +kernel)
theorem tw310 : Cond.instanceMethod yX6_meanError ∈ wsA := wA 365 (by decide +kernel) (by decide +kernel)
theorem tw311 : Cond.selects "DialWardens" yX6_meanError yX6_meanError ∈ wsA := wA 366 (by decide +kernel) (by decide +kernel)
theorem tw312 : Cond.code yX6_meanError cX6_meanError 3 (Option.some Jvm.ClassFile.FieldType.float) ∈ wsA := wA 367 (by decide +kernel) (by decide +kernel)
theorem tw313 : Cond.methodLink "DialWardens" 211 yX0_errorOf ∈ wsA := wA 368 (by decide +kernel) (by decide +kernel)
theorem tw314 : Cond.instanceMethod yX0_errorOf ∈ wsA := wA 369 (by decide +kernel) (by decide +kernel)
theorem tw315 : Cond.selects "DialWardens$Dials" yX0_errorOf yX0_errorOf ∈ wsA := wA 370 (by decide +kernel) (by decide +kernel)
theorem tw316 : Cond.code yX0_errorOf cX0_errorOf 2 (Option.some Jvm.ClassFile.FieldType.int) ∈ wsA := wA 371 (by decide +kernel) (by decide +kernel)
theorem tw318 : Cond.constantFloat "DialWardens" 214 (1088421888 : UInt32) ∈ wsA := wA 373 (by decide +kernel) (by decide +kernel)
theorem tw319 : Cond.methodLink "DialWardensLaw" 170 yX6_digest ∈ wsA := wA 374 (by decide +kernel) (by decide +kernel)
theorem tw320 : Cond.instanceMethod yX6_digest ∈ wsA := wA 375 (by decide +kernel) (by decide +kernel)
theorem tw321 : Cond.selects "DialWardens" yX6_digest yX6_digest ∈ wsA := wA 376 (by decide +kernel) (by decide +kernel)
theorem tw322 : Cond.code yX6_digest cX6_digest 4 (Option.some Jvm.ClassFile.FieldType.long) ∈ wsA := wA 377 (by decide +kernel) (by decide +kernel)
theorem tw323 : Cond.constantLong "DialWardens" 215 (3863 : Int64) ∈ wsA := wA 378 (by decide +kernel) (by decide +kernel)
theorem tw324 : Cond.methodLink "DialWardens" 217 yX6_count ∈ wsA := wA 379 (by decide +kernel) (by decide +kernel)
theorem tw325 : Cond.instanceMethod yX6_count ∈ wsA := wA 380 (by decide +kernel) (by decide +kernel)
theorem tw326 : Cond.selects "DialWardens" yX6_count yX6_count ∈ wsA := wA 381 (by decide +kernel) (by decide +kernel)
theorem tw327 : Cond.code yX6_count cX6_count 2 (Option.some Jvm.ClassFile.FieldType.int) ∈ wsA := wA 382 (by decide +kernel) (by decide +kernel)
theorem tw328 : Cond.classLink "DialWardens" 44 "java/lang/IllegalArgumentException" ∈ wsA := wA 383 (by decide +kernel) (by decide +kernel)
theorem tw329 : Cond.instantiable "java/lang/IllegalArgumentException" 6 ∈ wsA := wA 384 (by decide +kernel) (by decide +kernel)
theorem tw337 : Cond.selects "java/lang/IllegalArgumentException" ({ cls := "java/lang/Throwable", name := "fillInStackTrace", desc := "(I)Ljava/lang/Throwable;" } : Jvm.MethodName) ({ cls := "java/lang/Throwable", name := "fillInStackTrace", desc := "(I)Ljava/lang/Throwable;" } : Jvm.MethodName) ∈ wsA := wA 392 (by decide +kernel) (by decide +kernel)
theorem tw338 : Cond.selects "java/lang/IllegalArgumentException" ({ cls := "java/lang/Throwable", name := "fillInStackTrace", desc := "()Ljava/lang/Throwable;" } : Jvm.MethodName) ({ cls := "java/lang/Throwable", name := "fillInStackTrace", desc := "()Ljava/lang/Throwable;" } : Jvm.MethodName) ∈ wsA := wA 393 (by decide +kernel) (by decide +kernel)
theorem tw349 : Cond.fieldLink "java/lang/Throwable" 198 "java/lang/Throwable" "backtrace" "Ljava/lang/Object;" ∈ wsA := wA 404 (by decide +kernel) (by decide +kernel)
theorem tw351 : Cond.instanceMethod ({ cls := "java/lang/Throwable", name := "<init>", desc := "()V" } : Jvm.MethodName) ∈ wsA := wA 406 (by decide +kernel) (by decide +kernel)
theorem tw352 : Cond.code ({ cls := "java/lang/Throwable", name := "<init>", desc := "()V" } : Jvm.MethodName) prog_16_method_1_code 1 (Option.none : Option Jvm.ClassFile.FieldType) ∈ wsA := wA 407 (by decide +kernel) (by decide +kernel)
theorem tw353 : Cond.methodLink "java/lang/Throwable" 1 ({ cls := "java/lang/Object", name := "<init>", desc := "()V" } : Jvm.MethodName) ∈ wsA := wA 408 (by decide +kernel) (by decide +kernel)
theorem tw354 : Cond.fieldLink "java/lang/Throwable" 13 "java/lang/Throwable" "UNASSIGNED_STACK" "[Ljava/lang/StackTraceElement;" ∈ wsA := wA 409 (by decide +kernel) (by decide +kernel)
theorem tw356 : Cond.fieldLink "java/lang/Throwable" 20 "java/lang/Throwable" "SUPPRESSED_SENTINEL" "Ljava/util/List;" ∈ wsA := wA 411 (by decide +kernel) (by decide +kernel)
theorem tw358 : Cond.methodLink "java/lang/Throwable" 27 ({ cls := "java/lang/Throwable", name := "fillInStackTrace", desc := "()Ljava/lang/Throwable;" } : Jvm.MethodName) ∈ wsA := wA 413 (by decide +kernel) (by decide +kernel)
theorem tw359 : Cond.instanceMethod ({ cls := "java/lang/Throwable", name := "fillInStackTrace", desc := "()Ljava/lang/Throwable;" } : Jvm.MethodName) ∈ wsA := wA 414 (by decide +kernel) (by decide +kernel)
theorem tw361 : Cond.selects "java/lang/IllegalStateException" ({ cls := "java/lang/Throwable", name := "fillInStackTrace", desc := "()Ljava/lang/Throwable;" } : Jvm.MethodName) ({ cls := "java/lang/Throwable", name := "fillInStackTrace", desc := "()Ljava/lang/Throwable;" } : Jvm.MethodName) ∈ wsA := wA 416 (by decide +kernel) (by decide +kernel)
theorem tw362 : Cond.selects "java/lang/IndexOutOfBoundsException" ({ cls := "java/lang/Throwable", name := "fillInStackTrace", desc := "()Ljava/lang/Throwable;" } : Jvm.MethodName) ({ cls := "java/lang/Throwable", name := "fillInStackTrace", desc := "()Ljava/lang/Throwable;" } : Jvm.MethodName) ∈ wsA := wA 417 (by decide +kernel) (by decide +kernel)
theorem tw364 : Cond.methodLink "java/lang/Throwable" 202 ({ cls := "java/lang/Throwable", name := "fillInStackTrace", desc := "(I)Ljava/lang/Throwable;" } : Jvm.MethodName) ∈ wsA := wA 419 (by decide +kernel) (by decide +kernel)
theorem tw366 : Cond.instanceMethod ({ cls := "java/lang/Throwable", name := "fillInStackTrace", desc := "(I)Ljava/lang/Throwable;" } : Jvm.MethodName) ∈ wsA := wA 421 (by decide +kernel) (by decide +kernel)
theorem tw367 : Cond.instantiable "java/lang/Throwable" 6 ∈ wsA := wA 422 (by decide +kernel) (by decide +kernel)
theorem tw370 : Cond.methodLink "DialWardens" 48 ({ cls := "java/lang/IllegalArgumentException", name := "<init>", desc := "(Ljava/lang/String;)V" } : Jvm.MethodName) ∈ wsA := wA 425 (by decide +kernel) (by decide +kernel)
theorem tw371 : Cond.instanceMethod ({ cls := "java/lang/IllegalArgumentException", name := "<init>", desc := "(Ljava/lang/String;)V" } : Jvm.MethodName) ∈ wsA := wA 426 (by decide +kernel) (by decide +kernel)
theorem tw372 : Cond.code ({ cls := "java/lang/IllegalArgumentException", name := "<init>", desc := "(Ljava/lang/String;)V" } : Jvm.MethodName) prog_11_method_2_code 2 (Option.none : Option Jvm.ClassFile.FieldType) ∈ wsA := wA 427 (by decide +kernel) (by decide +kernel)
theorem tw373 : Cond.methodLink "java/lang/IllegalArgumentException" 7 ({ cls := "java/lang/RuntimeException", name := "<init>", desc := "(Ljava/lang/String;)V" } : Jvm.MethodName) ∈ wsA := wA 428 (by decide +kernel) (by decide +kernel)
theorem tw374 : Cond.instanceMethod ({ cls := "java/lang/RuntimeException", name := "<init>", desc := "(Ljava/lang/String;)V" } : Jvm.MethodName) ∈ wsA := wA 429 (by decide +kernel) (by decide +kernel)
theorem tw375 : Cond.code ({ cls := "java/lang/RuntimeException", name := "<init>", desc := "(Ljava/lang/String;)V" } : Jvm.MethodName) prog_14_method_2_code 2 (Option.none : Option Jvm.ClassFile.FieldType) ∈ wsA := wA 430 (by decide +kernel) (by decide +kernel)
theorem tw376 : Cond.methodLink "java/lang/RuntimeException" 7 ({ cls := "java/lang/Exception", name := "<init>", desc := "(Ljava/lang/String;)V" } : Jvm.MethodName) ∈ wsA := wA 431 (by decide +kernel) (by decide +kernel)
theorem tw377 : Cond.instanceMethod ({ cls := "java/lang/Exception", name := "<init>", desc := "(Ljava/lang/String;)V" } : Jvm.MethodName) ∈ wsA := wA 432 (by decide +kernel) (by decide +kernel)
theorem tw378 : Cond.code ({ cls := "java/lang/Exception", name := "<init>", desc := "(Ljava/lang/String;)V" } : Jvm.MethodName) prog_10_method_2_code 2 (Option.none : Option Jvm.ClassFile.FieldType) ∈ wsA := wA 433 (by decide +kernel) (by decide +kernel)
theorem tw379 : Cond.methodLink "java/lang/Exception" 7 ({ cls := "java/lang/Throwable", name := "<init>", desc := "(Ljava/lang/String;)V" } : Jvm.MethodName) ∈ wsA := wA 434 (by decide +kernel) (by decide +kernel)
theorem tw380 : Cond.instanceMethod ({ cls := "java/lang/Throwable", name := "<init>", desc := "(Ljava/lang/String;)V" } : Jvm.MethodName) ∈ wsA := wA 435 (by decide +kernel) (by decide +kernel)
theorem tw381 : Cond.code ({ cls := "java/lang/Throwable", name := "<init>", desc := "(Ljava/lang/String;)V" } : Jvm.MethodName) prog_16_method_2_code 2 (Option.none : Option Jvm.ClassFile.FieldType) ∈ wsA := wA 436 (by decide +kernel) (by decide +kernel)
theorem tw383 : Cond.fieldLink "java/lang/Throwable" 31 "java/lang/Throwable" "detailMessage" "Ljava/lang/String;" ∈ wsA := wA 438 (by decide +kernel) (by decide +kernel)
theorem tw384 : Cond.fieldLink "java/lang/Throwable" 7 "java/lang/Throwable" "cause" "Ljava/lang/Throwable;" ∈ wsA := wA 439 (by decide +kernel) (by decide +kernel)
theorem tw385 : Cond.fieldLink "java/lang/Throwable" 17 "java/lang/Throwable" "stackTrace" "[Ljava/lang/StackTraceElement;" ∈ wsA := wA 440 (by decide +kernel) (by decide +kernel)
theorem tw386 : Cond.fieldLink "java/lang/Throwable" 24 "java/lang/Throwable" "suppressedExceptions" "Ljava/util/List;" ∈ wsA := wA 441 (by decide +kernel) (by decide +kernel)
theorem tw395 : Cond.arrayClass Jvm.ClassFile.FieldType.byte ∈ wsA := wA 450 (by decide +kernel) (by decide +kernel)
theorem tw396 : Cond.methodLink "DialWardens" 181 yX6_townNumber ∈ wsA := wA 451 (by decide +kernel) (by decide +kernel)
theorem tw398 : Cond.instanceMethod yX6_townNumber ∈ wsA := wA 453 (by decide +kernel) (by decide +kernel)
theorem tw399 : Cond.code yX6_townNumber cX6_townNumber 2 (Option.some Jvm.ClassFile.FieldType.int) ∈ wsA := wA 454 (by decide +kernel) (by decide +kernel)
theorem tw400 : Cond.methodLink "DialWardens" 296 yX6_middleNowByAdding ∈ wsA := wA 455 (by decide +kernel) (by decide +kernel)
theorem tw402 : Cond.instanceMethod yX6_middleNowByAdding ∈ wsA := wA 457 (by decide +kernel) (by decide +kernel)
theorem tw403 : Cond.code yX6_middleNowByAdding cX6_middleNowByAdding 1 (Option.some Jvm.ClassFile.FieldType.int) ∈ wsA := wA 458 (by decide +kernel) (by decide +kernel)
theorem tw404 : Cond.methodLink "DialWardens" 322 yX3_middleByAdding ∈ wsA := wA 459 (by decide +kernel) (by decide +kernel)
theorem tw405 : Cond.instanceMethod yX3_middleByAdding ∈ wsA := wA 460 (by decide +kernel) (by decide +kernel)
theorem tw406 : Cond.selects "DialWardens$Poll" yX3_middleByAdding yX3_middleByAdding ∈ wsA := wA 461 (by decide +kernel) (by decide +kernel)
theorem tw407 : Cond.code yX3_middleByAdding cX3_middleByAdding 5 (Option.some Jvm.ClassFile.FieldType.int) ∈ wsA := wA 462 (by decide +kernel) (by decide +kernel)
theorem tw408 : Cond.methodLink "DialWardens$Poll" 41 yX3_weightBelow ∈ wsA := wA 463 (by decide +kernel) (by decide +kernel)
theorem tw410 : Cond.instanceMethod yX3_weightBelow ∈ wsA := wA 465 (by decide +kernel) (by decide +kernel)
theorem tw411 : Cond.code yX3_weightBelow cX3_weightBelow 4 (Option.some Jvm.ClassFile.FieldType.int) ∈ wsA := wA 466 (by decide +kernel) (by decide +kernel)
theorem tw412 : Cond.methodLink "DialWardens$Poll" 44 yX3_weightAt ∈ wsA := wA 467 (by decide +kernel) (by decide +kernel)
theorem tw414 : Cond.instanceMethod yX3_weightAt ∈ wsA := wA 469 (by decide +kernel) (by decide +kernel)
theorem tw415 : Cond.code yX3_weightAt cX3_weightAt 4 (Option.some Jvm.ClassFile.FieldType.int) ∈ wsA := wA 470 (by decide +kernel) (by decide +kernel)
theorem tw416 : Cond.methodLink "DialWardens" 69 yX5_weightSum ∈ wsA := wA 471 (by decide +kernel) (by decide +kernel)
theorem tw417 : Cond.instanceMethod yX5_weightSum ∈ wsA := wA 472 (by decide +kernel) (by decide +kernel)
theorem tw418 : Cond.selects "DialWardens$Wardens" yX5_weightSum yX5_weightSum ∈ wsA := wA 473 (by decide +kernel) (by decide +kernel)
theorem tw419 : Cond.code yX5_weightSum cX5_weightSum 1 (Option.some Jvm.ClassFile.FieldType.int) ∈ wsA := wA 474 (by decide +kernel) (by decide +kernel)
theorem tw421 : Cond.methodLink "DialWardens" 299 yX4_quarrels ∈ wsA := wA 476 (by decide +kernel) (by decide +kernel)
theorem tw422 : Cond.instanceMethod yX4_quarrels ∈ wsA := wA 477 (by decide +kernel) (by decide +kernel)
theorem tw423 : Cond.selects "DialWardens$State" yX4_quarrels yX4_quarrels ∈ wsA := wA 478 (by decide +kernel) (by decide +kernel)
theorem tw424 : Cond.code yX4_quarrels cX4_quarrels 3 (Option.some Jvm.ClassFile.FieldType.int) ∈ wsA := wA 479 (by decide +kernel) (by decide +kernel)
theorem tw425 : Cond.methodLink "DialWardens$State" 79 yX4_quarrelsBehind ∈ wsA := wA 480 (by decide +kernel) (by decide +kernel)
theorem tw426 : Cond.instanceMethod yX4_quarrelsBehind ∈ wsA := wA 481 (by decide +kernel) (by decide +kernel)
theorem tw427 : Cond.selects "DialWardens$State" yX4_quarrelsBehind yX4_quarrelsBehind ∈ wsA := wA 482 (by decide +kernel) (by decide +kernel)
theorem tw428 : Cond.code yX4_quarrelsBehind cX4_quarrelsBehind 2 (Option.some Jvm.ClassFile.FieldType.boolean) ∈ wsA := wA 483 (by decide +kernel) (by decide +kernel)
theorem tw429 : Cond.methodLink "DialWardens$State" 76 yX4_wordOf ∈ wsA := wA 484 (by decide +kernel) (by decide +kernel)
theorem tw431 : Cond.static yX6_dialBehind ∈ wsA := wA 486 (by decide +kernel) (by decide +kernel)
theorem tw432 : Cond.code yX6_dialBehind cX6_dialBehind 1 (Option.some Jvm.ClassFile.FieldType.int) ∈ wsA := wA 487 (by decide +kernel) (by decide +kernel)
theorem tw433 : Cond.methodLink "DialWardens$State" 65 yX4_wordsQuarrel ∈ wsA := wA 488 (by decide +kernel) (by decide +kernel)
theorem tw435 : Cond.instanceMethod yX4_wordsQuarrel ∈ wsA := wA 490 (by decide +kernel) (by decide +kernel)
theorem tw436 : Cond.code yX4_wordsQuarrel cX4_wordsQuarrel 3 (Option.some Jvm.ClassFile.FieldType.boolean) ∈ wsA := wA 491 (by decide +kernel) (by decide +kernel)
theorem tw437 : Cond.methodLink "DialWardens" 184 yX6_sumNumber ∈ wsA := wA 492 (by decide +kernel) (by decide +kernel)
theorem tw439 : Cond.instanceMethod yX6_sumNumber ∈ wsA := wA 494 (by decide +kernel) (by decide +kernel)
theorem tw440 : Cond.code yX6_sumNumber cX6_sumNumber 2 (Option.some Jvm.ClassFile.FieldType.int) ∈ wsA := wA 495 (by decide +kernel) (by decide +kernel)
theorem tw441 : Cond.methodLink "DialWardens" 302 yX6_sum ∈ wsA := wA 496 (by decide +kernel) (by decide +kernel)
theorem tw442 : Cond.methodLink "DialWardens" 312 yX4_dialsOff ∈ wsA := wA 497 (by decide +kernel) (by decide +kernel)
theorem tw443 : Cond.instanceMethod yX4_dialsOff ∈ wsA := wA 498 (by decide +kernel) (by decide +kernel)
theorem tw444 : Cond.selects "DialWardens$State" yX4_dialsOff yX4_dialsOff ∈ wsA := wA 499 (by decide +kernel) (by decide +kernel)
theorem tw445 : Cond.code yX4_dialsOff cX4_dialsOff 3 (Option.some Jvm.ClassFile.FieldType.int) ∈ wsA := wA 500 (by decide +kernel) (by decide +kernel)
theorem tw446 : Cond.methodLink "DialWardens" 220 yX6_mixed ∈ wsA := wA 501 (by decide +kernel) (by decide +kernel)
theorem tw447 : Cond.static yX6_mixed ∈ wsA := wA 502 (by decide +kernel) (by decide +kernel)
theorem tw448 : Cond.code yX6_mixed cX6_mixed 4 (Option.some Jvm.ClassFile.FieldType.long) ∈ wsA := wA 503 (by decide +kernel) (by decide +kernel)
theorem tw449 : Cond.constantLong "DialWardens" 256 (31 : Int64) ∈ wsA := wA 504 (by decide +kernel) (by decide +kernel)
theorem tw450 : Cond.methodLink "DialWardens" 224 yX6_mixedWithDial ∈ wsA := wA 505 (by decide +kernel) (by decide +kernel)
theorem tw452 : Cond.instanceMethod yX6_mixedWithDial ∈ wsA := wA 507 (by decide +kernel) (by decide +kernel)
theorem tw453 : Cond.code yX6_mixedWithDial cX6_mixedWithDial 7 (Option.some Jvm.ClassFile.FieldType.long) ∈ wsA := wA 508 (by decide +kernel) (by decide +kernel)
theorem tw454 : Cond.methodLink "DialWardens" 175 yX6_dialNumber ∈ wsA := wA 509 (by decide +kernel) (by decide +kernel)
theorem tw456 : Cond.instanceMethod yX6_dialNumber ∈ wsA := wA 511 (by decide +kernel) (by decide +kernel)
theorem tw457 : Cond.code yX6_dialNumber cX6_dialNumber 3 (Option.some Jvm.ClassFile.FieldType.int) ∈ wsA := wA 512 (by decide +kernel) (by decide +kernel)
theorem tw458 : Cond.methodLink "DialWardens" 272 yX0_accountOf ∈ wsA := wA 513 (by decide +kernel) (by decide +kernel)
theorem tw459 : Cond.instanceMethod yX0_accountOf ∈ wsA := wA 514 (by decide +kernel) (by decide +kernel)
theorem tw460 : Cond.selects "DialWardens$Dials" yX0_accountOf yX0_accountOf ∈ wsA := wA 515 (by decide +kernel) (by decide +kernel)
theorem tw461 : Cond.code yX0_accountOf cX0_accountOf 2 (Option.some Jvm.ClassFile.FieldType.int) ∈ wsA := wA 516 (by decide +kernel) (by decide +kernel)
theorem tw462 : Cond.methodLink "DialWardens" 278 yX4_isOff ∈ wsA := wA 517 (by decide +kernel) (by decide +kernel)
theorem tw463 : Cond.methodLink "DialWardens" 260 yX6_quarrelIn ∈ wsA := wA 518 (by decide +kernel) (by decide +kernel)
theorem tw464 : Cond.instanceMethod yX6_quarrelIn ∈ wsA := wA 519 (by decide +kernel) (by decide +kernel)
theorem tw465 : Cond.selects "DialWardens" yX6_quarrelIn yX6_quarrelIn ∈ wsA := wA 520 (by decide +kernel) (by decide +kernel)
theorem tw466 : Cond.code yX6_quarrelIn cX6_quarrelIn 2 (Option.some Jvm.ClassFile.FieldType.int) ∈ wsA := wA 521 (by decide +kernel) (by decide +kernel)
theorem tw467 : Cond.methodLink "DialWardens" 90 yX6_mustBeDial ∈ wsA := wA 522 (by decide +kernel) (by decide +kernel)
theorem tw468 : Cond.static yX6_mustBeDial ∈ wsA := wA 523 (by decide +kernel) (by decide +kernel)
theorem tw469 : Cond.code yX6_mustBeDial cX6_mustBeDial 1 (Option.none : Option Jvm.ClassFile.FieldType) ∈ wsA := wA 524 (by decide +kernel) (by decide +kernel)
theorem tw470 : Cond.classLink "DialWardens" 249 "java/lang/IndexOutOfBoundsException" ∈ wsA := wA 525 (by decide +kernel) (by decide +kernel)
theorem tw471 : Cond.instantiable "java/lang/IndexOutOfBoundsException" 6 ∈ wsA := wA 526 (by decide +kernel) (by decide +kernel)
theorem tw473 : Cond.selects "java/lang/IndexOutOfBoundsException" ({ cls := "java/lang/Throwable", name := "fillInStackTrace", desc := "(I)Ljava/lang/Throwable;" } : Jvm.MethodName) ({ cls := "java/lang/Throwable", name := "fillInStackTrace", desc := "(I)Ljava/lang/Throwable;" } : Jvm.MethodName) ∈ wsA := wA 528 (by decide +kernel) (by decide +kernel)
theorem tw480 : Cond.methodLink "DialWardens" 253 ({ cls := "java/lang/IndexOutOfBoundsException", name := "<init>", desc := "(Ljava/lang/String;)V" } : Jvm.MethodName) ∈ wsA := wA 535 (by decide +kernel) (by decide +kernel)
theorem tw481 : Cond.instanceMethod ({ cls := "java/lang/IndexOutOfBoundsException", name := "<init>", desc := "(Ljava/lang/String;)V" } : Jvm.MethodName) ∈ wsA := wA 536 (by decide +kernel) (by decide +kernel)
theorem tw482 : Cond.code ({ cls := "java/lang/IndexOutOfBoundsException", name := "<init>", desc := "(Ljava/lang/String;)V" } : Jvm.MethodName) prog_13_method_2_code 2 (Option.none : Option Jvm.ClassFile.FieldType) ∈ wsA := wA 537 (by decide +kernel) (by decide +kernel)
theorem tw483 : Cond.methodLink "java/lang/IndexOutOfBoundsException" 7 ({ cls := "java/lang/RuntimeException", name := "<init>", desc := "(Ljava/lang/String;)V" } : Jvm.MethodName) ∈ wsA := wA 538 (by decide +kernel) (by decide +kernel)
theorem tw486 : Cond.methodLink "DialWardens" 199 yX4_ticksToQuarrel ∈ wsA := wA 541 (by decide +kernel) (by decide +kernel)
theorem tw487 : Cond.instanceMethod yX4_ticksToQuarrel ∈ wsA := wA 542 (by decide +kernel) (by decide +kernel)
theorem tw488 : Cond.selects "DialWardens$State" yX4_ticksToQuarrel yX4_ticksToQuarrel ∈ wsA := wA 543 (by decide +kernel) (by decide +kernel)
theorem tw489 : Cond.code yX4_ticksToQuarrel cX4_ticksToQuarrel 6 (Option.some Jvm.ClassFile.FieldType.int) ∈ wsA := wA 544 (by decide +kernel) (by decide +kernel)
theorem tw490 : Cond.methodLink "DialWardens$State" 83 yX0_afterTick ∈ wsA := wA 545 (by decide +kernel) (by decide +kernel)
theorem tw491 : Cond.instanceMethod yX0_afterTick ∈ wsA := wA 546 (by decide +kernel) (by decide +kernel)
theorem tw492 : Cond.selects "DialWardens$Dials" yX0_afterTick yX0_afterTick ∈ wsA := wA 547 (by decide +kernel) (by decide +kernel)
theorem tw493 : Cond.code yX0_afterTick cX0_afterTick 4 (Option.some Jvm.ClassFile.FieldType.int) ∈ wsA := wA 548 (by decide +kernel) (by decide +kernel)
theorem tw494 : Cond.constant "DialWardens$Dials" 50 (99999 : Int32) ∈ wsA := wA 549 (by decide +kernel) (by decide +kernel)
theorem tw495 : Cond.methodLink "DialWardens" 263 yX6_ringsIn ∈ wsA := wA 550 (by decide +kernel) (by decide +kernel)
theorem tw496 : Cond.instanceMethod yX6_ringsIn ∈ wsA := wA 551 (by decide +kernel) (by decide +kernel)
theorem tw497 : Cond.selects "DialWardens" yX6_ringsIn yX6_ringsIn ∈ wsA := wA 552 (by decide +kernel) (by decide +kernel)
theorem tw498 : Cond.code yX6_ringsIn cX6_ringsIn 2 (Option.some Jvm.ClassFile.FieldType.int) ∈ wsA := wA 553 (by decide +kernel) (by decide +kernel)
theorem tw499 : Cond.methodLink "DialWardens" 202 yX0_ticksToRing ∈ wsA := wA 554 (by decide +kernel) (by decide +kernel)
theorem tw500 : Cond.instanceMethod yX0_ticksToRing ∈ wsA := wA 555 (by decide +kernel) (by decide +kernel)
theorem tw501 : Cond.selects "DialWardens$Dials" yX0_ticksToRing yX0_ticksToRing ∈ wsA := wA 556 (by decide +kernel) (by decide +kernel)
theorem tw502 : Cond.code yX0_ticksToRing cX0_ticksToRing 5 (Option.some Jvm.ClassFile.FieldType.int) ∈ wsA := wA 557 (by decide +kernel) (by decide +kernel)
theorem tw503 : Cond.methodLink "DialWardens$Dials" 42 yX0_afterTick ∈ wsA := wA 558 (by decide +kernel) (by decide +kernel)
theorem tw504 : Cond.methodLink "DialWardens" 228 yX6_mixedWithWarden ∈ wsA := wA 559 (by decide +kernel) (by decide +kernel)
theorem tw506 : Cond.instanceMethod yX6_mixedWithWarden ∈ wsA := wA 561 (by decide +kernel) (by decide +kernel)
theorem tw507 : Cond.code yX6_mixedWithWarden cX6_mixedWithWarden 7 (Option.some Jvm.ClassFile.FieldType.long) ∈ wsA := wA 562 (by decide +kernel) (by decide +kernel)
theorem tw508 : Cond.methodLink "DialWardens" 178 yX6_wardenNumber ∈ wsA := wA 563 (by decide +kernel) (by decide +kernel)
theorem tw510 : Cond.instanceMethod yX6_wardenNumber ∈ wsA := wA 565 (by decide +kernel) (by decide +kernel)
theorem tw511 : Cond.code yX6_wardenNumber cX6_wardenNumber 3 (Option.some Jvm.ClassFile.FieldType.int) ∈ wsA := wA 566 (by decide +kernel) (by decide +kernel)
theorem tw512 : Cond.methodLink "DialWardens" 196 yX4_wordOf ∈ wsA := wA 567 (by decide +kernel) (by decide +kernel)
theorem tw513 : Cond.methodLink "DialWardens" 284 yX6_placeOf ∈ wsA := wA 568 (by decide +kernel) (by decide +kernel)
theorem tw515 : Cond.instanceMethod yX6_placeOf ∈ wsA := wA 570 (by decide +kernel) (by decide +kernel)
theorem tw516 : Cond.code yX6_placeOf cX6_placeOf 2 (Option.some Jvm.ClassFile.FieldType.int) ∈ wsA := wA 571 (by decide +kernel) (by decide +kernel)
theorem tw517 : Cond.methodLink "DialWardens" 318 yX3_placeOf ∈ wsA := wA 572 (by decide +kernel) (by decide +kernel)
theorem tw518 : Cond.methodLink "DialWardens" 287 yX4_quarrelsBehind ∈ wsA := wA 573 (by decide +kernel) (by decide +kernel)
theorem tw519 : Cond.methodLink "DialWardens" 290 yX6_dialBefore ∈ wsA := wA 574 (by decide +kernel) (by decide +kernel)
theorem tw520 : Cond.static yX6_dialBefore ∈ wsA := wA 575 (by decide +kernel) (by decide +kernel)
theorem tw521 : Cond.code yX6_dialBefore cX6_dialBefore 1 (Option.some Jvm.ClassFile.FieldType.int) ∈ wsA := wA 576 (by decide +kernel) (by decide +kernel)
theorem tw522 : Cond.methodLink "DialWardens" 266 yX6_without ∈ wsA := wA 577 (by decide +kernel) (by decide +kernel)
theorem tw523 : Cond.instanceMethod yX6_without ∈ wsA := wA 578 (by decide +kernel) (by decide +kernel)
theorem tw524 : Cond.selects "DialWardens" yX6_without yX6_without ∈ wsA := wA 579 (by decide +kernel) (by decide +kernel)
theorem tw525 : Cond.code yX6_without cX6_without 2 (Option.some Jvm.ClassFile.FieldType.int) ∈ wsA := wA 580 (by decide +kernel) (by decide +kernel)
theorem tw526 : Cond.methodLink "DialWardens" 269 yX6_wins ∈ wsA := wA 581 (by decide +kernel) (by decide +kernel)
theorem tw527 : Cond.instanceMethod yX6_wins ∈ wsA := wA 582 (by decide +kernel) (by decide +kernel)
theorem tw528 : Cond.selects "DialWardens" yX6_wins yX6_wins ∈ wsA := wA 583 (by decide +kernel) (by decide +kernel)
theorem tw529 : Cond.code yX6_wins cX6_wins 4 (Option.some Jvm.ClassFile.FieldType.int) ∈ wsA := wA 584 (by decide +kernel) (by decide +kernel)
theorem tw530 : Cond.methodLink "DialWardens" 231 yX6_pivot ∈ wsA := wA 585 (by decide +kernel) (by decide +kernel)
theorem tw531 : Cond.methodLink "DialWardens" 234 yX6_heldShare ∈ wsA := wA 586 (by decide +kernel) (by decide +kernel)
theorem tw532 : Cond.methodLink "DialWardens" 238 yX6_bitsOf ∈ wsA := wA 587 (by decide +kernel) (by decide +kernel)
theorem tw533 : Cond.static yX6_bitsOf ∈ wsA := wA 588 (by decide +kernel) (by decide +kernel)
theorem tw534 : Cond.code yX6_bitsOf cX6_bitsOf 9 (Option.some Jvm.ClassFile.FieldType.long) ∈ wsA := wA 589 (by decide +kernel) (by decide +kernel)
theorem tw535 : Cond.constantDouble "DialWardens" 258 (4611686018427387904 : UInt64) ∈ wsA := wA 590 (by decide +kernel) (by decide +kernel)
theorem tw536 : Cond.methodLink "DialWardens" 242 yX6_meanError ∈ wsA := wA 591 (by decide +kernel) (by decide +kernel)
theorem tw537 : Cond.methodLink "DialWardens" 246 yX2_codeAt ∈ wsA := wA 592 (by decide +kernel) (by decide +kernel)
theorem tw538 : Cond.methodLink "DialWardensLaw" 77 yL_tick ∈ wsA := wA 593 (by decide +kernel) (by decide +kernel)
theorem tw539 : Cond.static yL_tick ∈ wsA := wA 594 (by decide +kernel) (by decide +kernel)
theorem tw540 : Cond.codeWith yL_tick cL_tick 4 (Option.some Jvm.ClassFile.FieldType.int) [(0, 9, 12, 13)] ∈ wsA := wA 595 (by decide +kernel) (by decide +kernel)
theorem tw541 : Cond.classLink "DialWardensLaw" 13 "java/lang/IllegalArgumentException" ∈ wsA := wA 596 (by decide +kernel) (by decide +kernel)
theorem tw542 : Cond.methodLink "DialWardensLaw" 7 yX6_tick ∈ wsA := wA 597 (by decide +kernel) (by decide +kernel)
theorem tw543 : Cond.instanceMethod yX6_tick ∈ wsA := wA 598 (by decide +kernel) (by decide +kernel)
theorem tw544 : Cond.selects "DialWardens" yX6_tick yX6_tick ∈ wsA := wA 599 (by decide +kernel) (by decide +kernel)
theorem tw545 : Cond.code yX6_tick cX6_tick 2 (Option.some Jvm.ClassFile.FieldType.int) ∈ wsA := wA 600 (by decide +kernel) (by decide +kernel)
theorem tw547 : Cond.methodLink "DialWardens" 59 yX0_passTicks ∈ wsA := wA 602 (by decide +kernel) (by decide +kernel)
theorem tw548 : Cond.instanceMethod yX0_passTicks ∈ wsA := wA 603 (by decide +kernel) (by decide +kernel)
theorem tw549 : Cond.selects "DialWardens$Dials" yX0_passTicks yX0_passTicks ∈ wsA := wA 604 (by decide +kernel) (by decide +kernel)
theorem tw550 : Cond.code yX0_passTicks cX0_passTicks 5 (Option.some Jvm.ClassFile.FieldType.int) ∈ wsA := wA 605 (by decide +kernel) (by decide +kernel)
theorem tw551 : Cond.methodLink "DialWardens$Dials" 38 yX0_passTick ∈ wsA := wA 606 (by decide +kernel) (by decide +kernel)
theorem tw553 : Cond.instanceMethod yX0_passTick ∈ wsA := wA 608 (by decide +kernel) (by decide +kernel)
theorem tw554 : Cond.code yX0_passTick cX0_passTick 4 (Option.some Jvm.ClassFile.FieldType.int) ∈ wsA := wA 609 (by decide +kernel) (by decide +kernel)
theorem tw555 : Cond.methodLink "DialWardensLaw" 86 yL_vote ∈ wsA := wA 610 (by decide +kernel) (by decide +kernel)
theorem tw556 : Cond.static yL_vote ∈ wsA := wA 611 (by decide +kernel) (by decide +kernel)
theorem tw557 : Cond.codeWith yL_vote cL_vote 3 (Option.some Jvm.ClassFile.FieldType.int) [(0, 8, 11, 19)] ∈ wsA := wA 612 (by decide +kernel) (by decide +kernel)
theorem tw558 : Cond.classLink "DialWardensLaw" 19 "java/lang/IllegalStateException" ∈ wsA := wA 613 (by decide +kernel) (by decide +kernel)
theorem tw559 : Cond.methodLink "DialWardensLaw" 15 yX6_vote ∈ wsA := wA 614 (by decide +kernel) (by decide +kernel)
theorem tw560 : Cond.instanceMethod yX6_vote ∈ wsA := wA 615 (by decide +kernel) (by decide +kernel)
theorem tw561 : Cond.selects "DialWardens" yX6_vote yX6_vote ∈ wsA := wA 616 (by decide +kernel) (by decide +kernel)
theorem tw562 : Cond.code yX6_vote cX6_vote 1 (Option.some Jvm.ClassFile.FieldType.int) ∈ wsA := wA 617 (by decide +kernel) (by decide +kernel)
theorem tw563 : Cond.classLink "DialWardens" 75 "java/lang/IllegalStateException" ∈ wsA := wA 618 (by decide +kernel) (by decide +kernel)
theorem tw564 : Cond.instantiable "java/lang/IllegalStateException" 6 ∈ wsA := wA 619 (by decide +kernel) (by decide +kernel)
theorem tw566 : Cond.selects "java/lang/IllegalStateException" ({ cls := "java/lang/Throwable", name := "fillInStackTrace", desc := "(I)Ljava/lang/Throwable;" } : Jvm.MethodName) ({ cls := "java/lang/Throwable", name := "fillInStackTrace", desc := "(I)Ljava/lang/Throwable;" } : Jvm.MethodName) ∈ wsA := wA 621 (by decide +kernel) (by decide +kernel)
theorem tw573 : Cond.methodLink "DialWardens" 79 ({ cls := "java/lang/IllegalStateException", name := "<init>", desc := "(Ljava/lang/String;)V" } : Jvm.MethodName) ∈ wsA := wA 628 (by decide +kernel) (by decide +kernel)
theorem tw574 : Cond.instanceMethod ({ cls := "java/lang/IllegalStateException", name := "<init>", desc := "(Ljava/lang/String;)V" } : Jvm.MethodName) ∈ wsA := wA 629 (by decide +kernel) (by decide +kernel)
theorem tw575 : Cond.code ({ cls := "java/lang/IllegalStateException", name := "<init>", desc := "(Ljava/lang/String;)V" } : Jvm.MethodName) prog_12_method_2_code 2 (Option.none : Option Jvm.ClassFile.FieldType) ∈ wsA := wA 630 (by decide +kernel) (by decide +kernel)
theorem tw576 : Cond.methodLink "java/lang/IllegalStateException" 7 ({ cls := "java/lang/RuntimeException", name := "<init>", desc := "(Ljava/lang/String;)V" } : Jvm.MethodName) ∈ wsA := wA 631 (by decide +kernel) (by decide +kernel)
theorem tw579 : Cond.methodLink "DialWardens" 80 yX6_holdVote ∈ wsA := wA 634 (by decide +kernel) (by decide +kernel)
theorem tw581 : Cond.instanceMethod yX6_holdVote ∈ wsA := wA 636 (by decide +kernel) (by decide +kernel)
theorem tw582 : Cond.code yX6_holdVote cX6_holdVote 1 (Option.none : Option Jvm.ClassFile.FieldType) ∈ wsA := wA 637 (by decide +kernel) (by decide +kernel)
theorem tw583 : Cond.methodLink "DialWardens" 326 yX4_hear ∈ wsA := wA 638 (by decide +kernel) (by decide +kernel)
theorem tw584 : Cond.instanceMethod yX4_hear ∈ wsA := wA 639 (by decide +kernel) (by decide +kernel)
theorem tw585 : Cond.selects "DialWardens$State" yX4_hear yX4_hear ∈ wsA := wA 640 (by decide +kernel) (by decide +kernel)
theorem tw586 : Cond.code yX4_hear cX4_hear 2 (Option.none : Option Jvm.ClassFile.FieldType) ∈ wsA := wA 641 (by decide +kernel) (by decide +kernel)
theorem tw587 : Cond.methodLink "DialWardens" 332 yX4_settleQuarrels ∈ wsA := wA 642 (by decide +kernel) (by decide +kernel)
theorem tw588 : Cond.instanceMethod yX4_settleQuarrels ∈ wsA := wA 643 (by decide +kernel) (by decide +kernel)
theorem tw589 : Cond.selects "DialWardens$State" yX4_settleQuarrels yX4_settleQuarrels ∈ wsA := wA 644 (by decide +kernel) (by decide +kernel)
theorem tw590 : Cond.code yX4_settleQuarrels cX4_settleQuarrels 3 (Option.none : Option Jvm.ClassFile.FieldType) ∈ wsA := wA 645 (by decide +kernel) (by decide +kernel)
theorem tw591 : Cond.methodLink "DialWardens$State" 61 yX4_settleQuarrel ∈ wsA := wA 646 (by decide +kernel) (by decide +kernel)
theorem tw593 : Cond.instanceMethod yX4_settleQuarrel ∈ wsA := wA 648 (by decide +kernel) (by decide +kernel)
theorem tw594 : Cond.code yX4_settleQuarrel cX4_settleQuarrel 6 (Option.none : Option Jvm.ClassFile.FieldType) ∈ wsA := wA 649 (by decide +kernel) (by decide +kernel)
theorem tw595 : Cond.methodLink "DialWardens$State" 72 yX5_lessen ∈ wsA := wA 650 (by decide +kernel) (by decide +kernel)
theorem tw596 : Cond.instanceMethod yX5_lessen ∈ wsA := wA 651 (by decide +kernel) (by decide +kernel)
theorem tw597 : Cond.selects "DialWardens$Wardens" yX5_lessen yX5_lessen ∈ wsA := wA 652 (by decide +kernel) (by decide +kernel)
theorem tw598 : Cond.code yX5_lessen cX5_lessen 2 (Option.none : Option Jvm.ClassFile.FieldType) ∈ wsA := wA 653 (by decide +kernel) (by decide +kernel)
theorem tw599 : Cond.methodLink "DialWardensLaw" 94 yL_put ∈ wsA := wA 654 (by decide +kernel) (by decide +kernel)
theorem tw600 : Cond.static yL_put ∈ wsA := wA 655 (by decide +kernel) (by decide +kernel)
theorem tw601 : Cond.codeWith yL_put cL_put 5 (Option.some Jvm.ClassFile.FieldType.int) [(0, 10, 13, 25), (0, 10, 17, 13)] ∈ wsA := wA 656 (by decide +kernel) (by decide +kernel)
theorem tw602 : Cond.classLink "DialWardensLaw" 25 "java/lang/IndexOutOfBoundsException" ∈ wsA := wA 657 (by decide +kernel) (by decide +kernel)
theorem tw603 : Cond.methodLink "DialWardensLaw" 21 yX6_put ∈ wsA := wA 658 (by decide +kernel) (by decide +kernel)
theorem tw604 : Cond.instanceMethod yX6_put ∈ wsA := wA 659 (by decide +kernel) (by decide +kernel)
theorem tw605 : Cond.selects "DialWardens" yX6_put yX6_put ∈ wsA := wA 660 (by decide +kernel) (by decide +kernel)
theorem tw606 : Cond.code yX6_put cX6_put 4 (Option.some Jvm.ClassFile.FieldType.int) ∈ wsA := wA 661 (by decide +kernel) (by decide +kernel)
theorem tw607 : Cond.constant "DialWardens" 94 (99999 : Int32) ∈ wsA := wA 662 (by decide +kernel) (by decide +kernel)
theorem tw609 : Cond.methodLink "DialWardens" 100 yX0_moveTo ∈ wsA := wA 664 (by decide +kernel) (by decide +kernel)
theorem tw610 : Cond.methodLink "DialWardensLaw" 98 yL_drift ∈ wsA := wA 665 (by decide +kernel) (by decide +kernel)
theorem tw611 : Cond.static yL_drift ∈ wsA := wA 666 (by decide +kernel) (by decide +kernel)
theorem tw612 : Cond.codeWith yL_drift cL_drift 5 (Option.some Jvm.ClassFile.FieldType.int) [(0, 10, 13, 25), (0, 10, 17, 13)] ∈ wsA := wA 667 (by decide +kernel) (by decide +kernel)
theorem tw613 : Cond.methodLink "DialWardensLaw" 27 yX6_drift ∈ wsA := wA 668 (by decide +kernel) (by decide +kernel)
theorem tw614 : Cond.instanceMethod yX6_drift ∈ wsA := wA 669 (by decide +kernel) (by decide +kernel)
theorem tw615 : Cond.selects "DialWardens" yX6_drift yX6_drift ∈ wsA := wA 670 (by decide +kernel) (by decide +kernel)
theorem tw616 : Cond.code yX6_drift cX6_drift 4 (Option.some Jvm.ClassFile.FieldType.int) ∈ wsA := wA 671 (by decide +kernel) (by decide +kernel)
theorem tw618 : Cond.methodLink "DialWardens" 109 yX0_changeDrift ∈ wsA := wA 673 (by decide +kernel) (by decide +kernel)
theorem tw619 : Cond.instanceMethod yX0_changeDrift ∈ wsA := wA 674 (by decide +kernel) (by decide +kernel)
theorem tw620 : Cond.selects "DialWardens$Dials" yX0_changeDrift yX0_changeDrift ∈ wsA := wA 675 (by decide +kernel) (by decide +kernel)
theorem tw621 : Cond.code yX0_changeDrift cX0_changeDrift 3 (Option.none : Option Jvm.ClassFile.FieldType) ∈ wsA := wA 676 (by decide +kernel) (by decide +kernel)
theorem tw622 : Cond.methodLink "DialWardensLaw" 101 yL_warden ∈ wsA := wA 677 (by decide +kernel) (by decide +kernel)
theorem tw623 : Cond.static yL_warden ∈ wsA := wA 678 (by decide +kernel) (by decide +kernel)
theorem tw624 : Cond.codeWith yL_warden cL_warden 6 (Option.some Jvm.ClassFile.FieldType.int) [(0, 12, 15, 25), (0, 12, 19, 13)] ∈ wsA := wA 679 (by decide +kernel) (by decide +kernel)
theorem tw625 : Cond.methodLink "DialWardensLaw" 30 yX6_warden ∈ wsA := wA 680 (by decide +kernel) (by decide +kernel)
theorem tw626 : Cond.instanceMethod yX6_warden ∈ wsA := wA 681 (by decide +kernel) (by decide +kernel)
theorem tw627 : Cond.selects "DialWardens" yX6_warden yX6_warden ∈ wsA := wA 682 (by decide +kernel) (by decide +kernel)
theorem tw628 : Cond.code yX6_warden cX6_warden 5 (Option.some Jvm.ClassFile.FieldType.int) ∈ wsA := wA 683 (by decide +kernel) (by decide +kernel)
theorem tw631 : Cond.methodLink "DialWardensLaw" 105 yL_set ∈ wsA := wA 686 (by decide +kernel) (by decide +kernel)
theorem tw632 : Cond.static yL_set ∈ wsA := wA 687 (by decide +kernel) (by decide +kernel)
theorem tw633 : Cond.codeWith yL_set cL_set 5 (Option.some Jvm.ClassFile.FieldType.int) [(0, 10, 13, 25), (0, 10, 17, 13)] ∈ wsA := wA 688 (by decide +kernel) (by decide +kernel)
theorem tw634 : Cond.methodLink "DialWardensLaw" 34 yX6_set ∈ wsA := wA 689 (by decide +kernel) (by decide +kernel)
theorem tw635 : Cond.instanceMethod yX6_set ∈ wsA := wA 690 (by decide +kernel) (by decide +kernel)
theorem tw636 : Cond.selects "DialWardens" yX6_set yX6_set ∈ wsA := wA 691 (by decide +kernel) (by decide +kernel)
theorem tw637 : Cond.code yX6_set cX6_set 4 (Option.some Jvm.ClassFile.FieldType.int) ∈ wsA := wA 692 (by decide +kernel) (by decide +kernel)
theorem tw638 : Cond.methodLink "DialWardens" 123 yX6_mustBeSetting ∈ wsA := wA 693 (by decide +kernel) (by decide +kernel)
theorem tw639 : Cond.static yX6_mustBeSetting ∈ wsA := wA 694 (by decide +kernel) (by decide +kernel)
theorem tw640 : Cond.code yX6_mustBeSetting cX6_mustBeSetting 1 (Option.none : Option Jvm.ClassFile.FieldType) ∈ wsA := wA 695 (by decide +kernel) (by decide +kernel)
theorem tw643 : Cond.methodLink "DialWardensLaw" 108 yL_append ∈ wsA := wA 698 (by decide +kernel) (by decide +kernel)
theorem tw644 : Cond.static yL_append ∈ wsA := wA 699 (by decide +kernel) (by decide +kernel)
theorem tw645 : Cond.codeWith yL_append cL_append 4 (Option.some Jvm.ClassFile.FieldType.int) [(0, 9, 12, 13), (0, 9, 15, 19)] ∈ wsA := wA 700 (by decide +kernel) (by decide +kernel)
theorem tw646 : Cond.methodLink "DialWardensLaw" 37 yX6_append ∈ wsA := wA 701 (by decide +kernel) (by decide +kernel)
theorem tw647 : Cond.instanceMethod yX6_append ∈ wsA := wA 702 (by decide +kernel) (by decide +kernel)
theorem tw648 : Cond.selects "DialWardens" yX6_append yX6_append ∈ wsA := wA 703 (by decide +kernel) (by decide +kernel)
theorem tw649 : Cond.code yX6_append cX6_append 2 (Option.some Jvm.ClassFile.FieldType.int) ∈ wsA := wA 704 (by decide +kernel) (by decide +kernel)
theorem tw652 : Cond.methodLink "DialWardens" 138 yX2_add ∈ wsA := wA 707 (by decide +kernel) (by decide +kernel)
theorem tw653 : Cond.instanceMethod yX2_add ∈ wsA := wA 708 (by decide +kernel) (by decide +kernel)
theorem tw654 : Cond.selects "DialWardens$Orders" yX2_add yX2_add ∈ wsA := wA 709 (by decide +kernel) (by decide +kernel)
theorem tw655 : Cond.code yX2_add cX2_add 2 (Option.none : Option Jvm.ClassFile.FieldType) ∈ wsA := wA 710 (by decide +kernel) (by decide +kernel)
theorem tw656 : Cond.methodLink "DialWardensLaw" 119 yL_obey ∈ wsA := wA 711 (by decide +kernel) (by decide +kernel)
theorem tw657 : Cond.static yL_obey ∈ wsA := wA 712 (by decide +kernel) (by decide +kernel)
theorem tw658 : Cond.codeWith yL_obey cL_obey 3 (Option.some Jvm.ClassFile.FieldType.int) [(0, 8, 11, 13)] ∈ wsA := wA 713 (by decide +kernel) (by decide +kernel)
theorem tw659 : Cond.methodLink "DialWardensLaw" 40 yX6_obey ∈ wsA := wA 714 (by decide +kernel) (by decide +kernel)
theorem tw660 : Cond.instanceMethod yX6_obey ∈ wsA := wA 715 (by decide +kernel) (by decide +kernel)
theorem tw661 : Cond.selects "DialWardens" yX6_obey yX6_obey ∈ wsA := wA 716 (by decide +kernel) (by decide +kernel)
theorem tw662 : Cond.code yX6_obey cX6_obey 4 (Option.some Jvm.ClassFile.FieldType.int) ∈ wsA := wA 717 (by decide +kernel) (by decide +kernel)
theorem tw663 : Cond.methodLink "DialWardens" 147 yX2_areComplete ∈ wsA := wA 718 (by decide +kernel) (by decide +kernel)
theorem tw664 : Cond.instanceMethod yX2_areComplete ∈ wsA := wA 719 (by decide +kernel) (by decide +kernel)
theorem tw665 : Cond.selects "DialWardens$Orders" yX2_areComplete yX2_areComplete ∈ wsA := wA 720 (by decide +kernel) (by decide +kernel)
theorem tw666 : Cond.code yX2_areComplete cX2_areComplete 3 (Option.some Jvm.ClassFile.FieldType.boolean) ∈ wsA := wA 721 (by decide +kernel) (by decide +kernel)
theorem tw668 : Cond.methodLink "DialWardens" 153 yX2_isPartStart ∈ wsA := wA 723 (by decide +kernel) (by decide +kernel)
theorem tw669 : Cond.instanceMethod yX2_isPartStart ∈ wsA := wA 724 (by decide +kernel) (by decide +kernel)
theorem tw670 : Cond.selects "DialWardens$Orders" yX2_isPartStart yX2_isPartStart ∈ wsA := wA 725 (by decide +kernel) (by decide +kernel)
theorem tw671 : Cond.code yX2_isPartStart cX2_isPartStart 2 (Option.some Jvm.ClassFile.FieldType.boolean) ∈ wsA := wA 726 (by decide +kernel) (by decide +kernel)
theorem tw672 : Cond.methodLink "DialWardens" 157 yX6_obeyPart ∈ wsA := wA 727 (by decide +kernel) (by decide +kernel)
theorem tw674 : Cond.instanceMethod yX6_obeyPart ∈ wsA := wA 729 (by decide +kernel) (by decide +kernel)
theorem tw675 : Cond.code yX6_obeyPart cX6_obeyPart 2 (Option.some Jvm.ClassFile.FieldType.boolean) ∈ wsA := wA 730 (by decide +kernel) (by decide +kernel)
theorem tw676 : Cond.methodLink "DialWardens" 336 yX2_ticksAt ∈ wsA := wA 731 (by decide +kernel) (by decide +kernel)
theorem tw677 : Cond.instanceMethod yX2_ticksAt ∈ wsA := wA 732 (by decide +kernel) (by decide +kernel)
theorem tw678 : Cond.selects "DialWardens$Orders" yX2_ticksAt yX2_ticksAt ∈ wsA := wA 733 (by decide +kernel) (by decide +kernel)
theorem tw679 : Cond.code yX2_ticksAt cX2_ticksAt 3 (Option.some Jvm.ClassFile.FieldType.int) ∈ wsA := wA 734 (by decide +kernel) (by decide +kernel)
theorem tw680 : Cond.methodLink "DialWardens$Orders" 37 yX2_figureAt ∈ wsA := wA 735 (by decide +kernel) (by decide +kernel)
theorem tw681 : Cond.instanceMethod yX2_figureAt ∈ wsA := wA 736 (by decide +kernel) (by decide +kernel)
theorem tw682 : Cond.selects "DialWardens$Orders" yX2_figureAt yX2_figureAt ∈ wsA := wA 737 (by decide +kernel) (by decide +kernel)
theorem tw683 : Cond.code yX2_figureAt cX2_figureAt 2 (Option.some Jvm.ClassFile.FieldType.int) ∈ wsA := wA 738 (by decide +kernel) (by decide +kernel)
theorem tw684 : Cond.methodLink "DialWardens" 339 yX2_figureAt ∈ wsA := wA 739 (by decide +kernel) (by decide +kernel)
theorem tw685 : Cond.methodLink "DialWardens" 342 yX2_driftAt ∈ wsA := wA 740 (by decide +kernel) (by decide +kernel)
theorem tw686 : Cond.instanceMethod yX2_driftAt ∈ wsA := wA 741 (by decide +kernel) (by decide +kernel)
theorem tw687 : Cond.selects "DialWardens$Orders" yX2_driftAt yX2_driftAt ∈ wsA := wA 742 (by decide +kernel) (by decide +kernel)
theorem tw688 : Cond.code yX2_driftAt cX2_driftAt 3 (Option.some Jvm.ClassFile.FieldType.int) ∈ wsA := wA 743 (by decide +kernel) (by decide +kernel)
theorem tw689 : Cond.methodLink "DialWardensLaw" 126 yL_goBack ∈ wsA := wA 744 (by decide +kernel) (by decide +kernel)
theorem tw690 : Cond.static yL_goBack ∈ wsA := wA 745 (by decide +kernel) (by decide +kernel)
theorem tw691 : Cond.codeWith yL_goBack cL_goBack 3 (Option.some Jvm.ClassFile.FieldType.int) [(0, 8, 11, 19)] ∈ wsA := wA 746 (by decide +kernel) (by decide +kernel)
theorem tw692 : Cond.methodLink "DialWardensLaw" 43 yX6_goBack ∈ wsA := wA 747 (by decide +kernel) (by decide +kernel)
theorem tw693 : Cond.instanceMethod yX6_goBack ∈ wsA := wA 748 (by decide +kernel) (by decide +kernel)
theorem tw694 : Cond.selects "DialWardens" yX6_goBack yX6_goBack ∈ wsA := wA 749 (by decide +kernel) (by decide +kernel)
theorem tw695 : Cond.code yX6_goBack cX6_goBack 1 (Option.some Jvm.ClassFile.FieldType.int) ∈ wsA := wA 750 (by decide +kernel) (by decide +kernel)
theorem tw697 : Cond.methodLink "DialWardensLaw" 129 yL_undo ∈ wsA := wA 752 (by decide +kernel) (by decide +kernel)
theorem tw698 : Cond.static yL_undo ∈ wsA := wA 753 (by decide +kernel) (by decide +kernel)
theorem tw699 : Cond.codeWith yL_undo cL_undo 3 (Option.some Jvm.ClassFile.FieldType.int) [(0, 8, 11, 19)] ∈ wsA := wA 754 (by decide +kernel) (by decide +kernel)
theorem tw700 : Cond.methodLink "DialWardensLaw" 46 yX6_undo ∈ wsA := wA 755 (by decide +kernel) (by decide +kernel)
theorem tw701 : Cond.instanceMethod yX6_undo ∈ wsA := wA 756 (by decide +kernel) (by decide +kernel)
theorem tw702 : Cond.selects "DialWardens" yX6_undo yX6_undo ∈ wsA := wA 757 (by decide +kernel) (by decide +kernel)
theorem tw703 : Cond.code yX6_undo cX6_undo 1 (Option.some Jvm.ClassFile.FieldType.int) ∈ wsA := wA 758 (by decide +kernel) (by decide +kernel)
theorem tw705 : Cond.methodLink "DialWardens" 170 yX1_restore ∈ wsA := wA 760 (by decide +kernel) (by decide +kernel)
theorem tw706 : Cond.instanceMethod yX1_restore ∈ wsA := wA 761 (by decide +kernel) (by decide +kernel)
theorem tw707 : Cond.selects "DialWardens$History" yX1_restore yX1_restore ∈ wsA := wA 762 (by decide +kernel) (by decide +kernel)
theorem tw708 : Cond.code yX1_restore cX1_restore 2 (Option.none : Option Jvm.ClassFile.FieldType) ∈ wsA := wA 763 (by decide +kernel) (by decide +kernel)
theorem tw709 : Cond.methodLink "DialWardensLaw" 132 yL_dial ∈ wsA := wA 764 (by decide +kernel) (by decide +kernel)
theorem tw710 : Cond.static yL_dial ∈ wsA := wA 765 (by decide +kernel) (by decide +kernel)
theorem tw711 : Cond.codeWith yL_dial cL_dial 5 (Option.some Jvm.ClassFile.FieldType.int) [(0, 10, 13, 25), (0, 10, 17, 13)] ∈ wsA := wA 766 (by decide +kernel) (by decide +kernel)
theorem tw712 : Cond.methodLink "DialWardensLaw" 49 yX6_dial ∈ wsA := wA 767 (by decide +kernel) (by decide +kernel)
theorem tw713 : Cond.instanceMethod yX6_dial ∈ wsA := wA 768 (by decide +kernel) (by decide +kernel)
theorem tw714 : Cond.selects "DialWardens" yX6_dial yX6_dial ∈ wsA := wA 769 (by decide +kernel) (by decide +kernel)
theorem tw715 : Cond.code yX6_dial cX6_dial 3 (Option.some Jvm.ClassFile.FieldType.int) ∈ wsA := wA 770 (by decide +kernel) (by decide +kernel)
theorem tw716 : Cond.methodLink "DialWardensLaw" 135 yL_says ∈ wsA := wA 771 (by decide +kernel) (by decide +kernel)
theorem tw717 : Cond.static yL_says ∈ wsA := wA 772 (by decide +kernel) (by decide +kernel)
theorem tw718 : Cond.codeWith yL_says cL_says 5 (Option.some Jvm.ClassFile.FieldType.int) [(0, 10, 13, 25), (0, 10, 17, 13)] ∈ wsA := wA 773 (by decide +kernel) (by decide +kernel)
theorem tw719 : Cond.methodLink "DialWardensLaw" 52 yX6_says ∈ wsA := wA 774 (by decide +kernel) (by decide +kernel)
theorem tw720 : Cond.instanceMethod yX6_says ∈ wsA := wA 775 (by decide +kernel) (by decide +kernel)
theorem tw721 : Cond.selects "DialWardens" yX6_says yX6_says ∈ wsA := wA 776 (by decide +kernel) (by decide +kernel)
theorem tw722 : Cond.code yX6_says cX6_says 3 (Option.some Jvm.ClassFile.FieldType.int) ∈ wsA := wA 777 (by decide +kernel) (by decide +kernel)
theorem tw723 : Cond.methodLink "DialWardensLaw" 138 yL_count ∈ wsA := wA 778 (by decide +kernel) (by decide +kernel)
theorem tw724 : Cond.static yL_count ∈ wsA := wA 779 (by decide +kernel) (by decide +kernel)
theorem tw725 : Cond.codeWith yL_count cL_count 4 (Option.some Jvm.ClassFile.FieldType.int) [(0, 9, 12, 13)] ∈ wsA := wA 780 (by decide +kernel) (by decide +kernel)
theorem tw726 : Cond.methodLink "DialWardensLaw" 55 yX6_count ∈ wsA := wA 781 (by decide +kernel) (by decide +kernel)
theorem tw727 : Cond.methodLink "DialWardensLaw" 141 yL_setting ∈ wsA := wA 782 (by decide +kernel) (by decide +kernel)
theorem tw728 : Cond.static yL_setting ∈ wsA := wA 783 (by decide +kernel) (by decide +kernel)
theorem tw729 : Cond.codeWith yL_setting cL_setting 4 (Option.some Jvm.ClassFile.FieldType.int) [(0, 9, 12, 25)] ∈ wsA := wA 784 (by decide +kernel) (by decide +kernel)
theorem tw730 : Cond.methodLink "DialWardensLaw" 58 yX6_setting ∈ wsA := wA 785 (by decide +kernel) (by decide +kernel)
theorem tw731 : Cond.instanceMethod yX6_setting ∈ wsA := wA 786 (by decide +kernel) (by decide +kernel)
theorem tw732 : Cond.selects "DialWardens" yX6_setting yX6_setting ∈ wsA := wA 787 (by decide +kernel) (by decide +kernel)
theorem tw733 : Cond.code yX6_setting cX6_setting 2 (Option.some Jvm.ClassFile.FieldType.int) ∈ wsA := wA 788 (by decide +kernel) (by decide +kernel)
theorem tw734 : Cond.methodLink "DialWardensLaw" 144 yL_without ∈ wsA := wA 789 (by decide +kernel) (by decide +kernel)
theorem tw735 : Cond.static yL_without ∈ wsA := wA 790 (by decide +kernel) (by decide +kernel)
theorem tw736 : Cond.codeWith yL_without cL_without 4 (Option.some Jvm.ClassFile.FieldType.int) [(0, 9, 12, 25)] ∈ wsA := wA 791 (by decide +kernel) (by decide +kernel)
theorem tw737 : Cond.methodLink "DialWardensLaw" 61 yX6_without ∈ wsA := wA 792 (by decide +kernel) (by decide +kernel)
theorem tw738 : Cond.methodLink "DialWardensLaw" 151 yL_wins ∈ wsA := wA 793 (by decide +kernel) (by decide +kernel)
theorem tw739 : Cond.static yL_wins ∈ wsA := wA 794 (by decide +kernel) (by decide +kernel)
theorem tw740 : Cond.codeWith yL_wins cL_wins 4 (Option.some Jvm.ClassFile.FieldType.int) [(0, 9, 12, 25)] ∈ wsA := wA 795 (by decide +kernel) (by decide +kernel)
theorem tw741 : Cond.methodLink "DialWardensLaw" 64 yX6_wins ∈ wsA := wA 796 (by decide +kernel) (by decide +kernel)
theorem tw742 : Cond.methodLink "DialWardensLaw" 154 yL_quarrelIn ∈ wsA := wA 797 (by decide +kernel) (by decide +kernel)
theorem tw743 : Cond.static yL_quarrelIn ∈ wsA := wA 798 (by decide +kernel) (by decide +kernel)
theorem tw744 : Cond.codeWith yL_quarrelIn cL_quarrelIn 4 (Option.some Jvm.ClassFile.FieldType.int) [(0, 9, 12, 25)] ∈ wsA := wA 799 (by decide +kernel) (by decide +kernel)
theorem tw745 : Cond.methodLink "DialWardensLaw" 67 yX6_quarrelIn ∈ wsA := wA 800 (by decide +kernel) (by decide +kernel)
theorem tw746 : Cond.methodLink "DialWardensLaw" 157 yL_ringsIn ∈ wsA := wA 801 (by decide +kernel) (by decide +kernel)
theorem tw747 : Cond.static yL_ringsIn ∈ wsA := wA 802 (by decide +kernel) (by decide +kernel)
theorem tw748 : Cond.codeWith yL_ringsIn cL_ringsIn 4 (Option.some Jvm.ClassFile.FieldType.int) [(0, 9, 12, 25)] ∈ wsA := wA 803 (by decide +kernel) (by decide +kernel)
theorem tw749 : Cond.methodLink "DialWardensLaw" 70 yX6_ringsIn ∈ wsA := wA 804 (by decide +kernel) (by decide +kernel)
theorem tw750 : Cond.classLink "DialWardensLaw" 74 "DialWardensModel" ∈ wsA := wA 805 (by decide +kernel) (by decide +kernel)
theorem tw751 : Cond.instantiable "DialWardensModel" 11 ∈ wsA := wA 806 (by decide +kernel) (by decide +kernel)
theorem tw752 : Cond.methodLink "DialWardensLaw" 76 yX7_init ∈ wsA := wA 807 (by decide +kernel) (by decide +kernel)
theorem tw753 : Cond.instanceMethod yX7_init ∈ wsA := wA 808 (by decide +kernel) (by decide +kernel)
theorem tw754 : Cond.code yX7_init cX7_init 2 (Option.none : Option Jvm.ClassFile.FieldType) ∈ wsA := wA 809 (by decide +kernel) (by decide +kernel)
theorem tw755 : Cond.methodLink "DialWardensModel" 1 ({ cls := "java/lang/Object", name := "<init>", desc := "()V" } : Jvm.MethodName) ∈ wsA := wA 810 (by decide +kernel) (by decide +kernel)
theorem tw756 : Cond.fieldLink "DialWardensModel" 7 "DialWardensModel" "s" "[I" ∈ wsA := wA 811 (by decide +kernel) (by decide +kernel)
theorem tw757 : Cond.fieldLink "DialWardensModel" 13 "DialWardensModel" "aside" "[I" ∈ wsA := wA 812 (by decide +kernel) (by decide +kernel)
theorem tw758 : Cond.fieldLink "DialWardensModel" 16 "DialWardensModel" "before" "[I" ∈ wsA := wA 813 (by decide +kernel) (by decide +kernel)
theorem tw759 : Cond.fieldLink "DialWardensModel" 33 "DialWardensModel" "known" "I" ∈ wsA := wA 814 (by decide +kernel) (by decide +kernel)
theorem tw760 : Cond.fieldLink "DialWardensModel" 19 "DialWardensModel" "kept" "[I" ∈ wsA := wA 815 (by decide +kernel) (by decide +kernel)
theorem tw761 : Cond.fieldLink "DialWardensModel" 119 "DialWardensModel" "isKept" "Z" ∈ wsA := wA 816 (by decide +kernel) (by decide +kernel)
theorem tw762 : Cond.fieldLink "DialWardensModel" 22 "DialWardensModel" "buffer" "[I" ∈ wsA := wA 817 (by decide +kernel) (by decide +kernel)
theorem tw763 : Cond.fieldLink "DialWardensModel" 94 "DialWardensModel" "length" "I" ∈ wsA := wA 818 (by decide +kernel) (by decide +kernel)
theorem tw764 : Cond.fieldLink "DialWardensModel" 25 "DialWardensModel" "thrown" "I" ∈ wsA := wA 819 (by decide +kernel) (by decide +kernel)
theorem tw765 : Cond.fieldLink "DialWardensModel" 97 "DialWardensModel" "place" "I" ∈ wsA := wA 820 (by decide +kernel) (by decide +kernel)
theorem tw766 : Cond.fieldLink "DialWardensModel" 100 "DialWardensModel" "isWrong" "Z" ∈ wsA := wA 821 (by decide +kernel) (by decide +kernel)
theorem tw790 : Cond.methodLink "DialWardensLaw" 83 yX7_thrown ∈ wsA := wA 845 (by decide +kernel) (by decide +kernel)
theorem tw791 : Cond.instanceMethod yX7_thrown ∈ wsA := wA 846 (by decide +kernel) (by decide +kernel)
theorem tw792 : Cond.selects "DialWardensModel" yX7_thrown yX7_thrown ∈ wsA := wA 847 (by decide +kernel) (by decide +kernel)
theorem tw793 : Cond.code yX7_thrown cX7_thrown 1 (Option.some Jvm.ClassFile.FieldType.int) ∈ wsA := wA 848 (by decide +kernel) (by decide +kernel)
theorem tw794 : Cond.methodLink "DialWardensLaw" 82 yX7_tick ∈ wsA := wA 849 (by decide +kernel) (by decide +kernel)
theorem tw795 : Cond.instanceMethod yX7_tick ∈ wsA := wA 850 (by decide +kernel) (by decide +kernel)
theorem tw796 : Cond.selects "DialWardensModel" yX7_tick yX7_tick ∈ wsA := wA 851 (by decide +kernel) (by decide +kernel)
theorem tw797 : Cond.code yX7_tick cX7_tick 2 (Option.some Jvm.ClassFile.FieldType.int) ∈ wsA := wA 852 (by decide +kernel) (by decide +kernel)
theorem tw798 : Cond.methodLink "DialWardensModel" 29 yX7_in ∈ wsA := wA 853 (by decide +kernel) (by decide +kernel)
theorem tw799 : Cond.static yX7_in ∈ wsA := wA 854 (by decide +kernel) (by decide +kernel)
theorem tw800 : Cond.code yX7_in cX7_in 3 (Option.some Jvm.ClassFile.FieldType.boolean) ∈ wsA := wA 855 (by decide +kernel) (by decide +kernel)
theorem tw801 : Cond.methodLink "DialWardensModel" 76 yX7_throwing ∈ wsA := wA 856 (by decide +kernel) (by decide +kernel)
theorem tw803 : Cond.instanceMethod yX7_throwing ∈ wsA := wA 858 (by decide +kernel) (by decide +kernel)
theorem tw804 : Cond.code yX7_throwing cX7_throwing 2 (Option.some Jvm.ClassFile.FieldType.int) ∈ wsA := wA 859 (by decide +kernel) (by decide +kernel)
theorem tw805 : Cond.methodLink "DialWardensModel" 79 yX7_save ∈ wsA := wA 860 (by decide +kernel) (by decide +kernel)
theorem tw807 : Cond.instanceMethod yX7_save ∈ wsA := wA 862 (by decide +kernel) (by decide +kernel)
theorem tw808 : Cond.code yX7_save cX7_save 2 (Option.none : Option Jvm.ClassFile.FieldType) ∈ wsA := wA 863 (by decide +kernel) (by decide +kernel)
theorem tw809 : Cond.methodLink "DialWardensModel" 82 yX7_ticks ∈ wsA := wA 864 (by decide +kernel) (by decide +kernel)
theorem tw811 : Cond.instanceMethod yX7_ticks ∈ wsA := wA 866 (by decide +kernel) (by decide +kernel)
theorem tw812 : Cond.code yX7_ticks cX7_ticks 4 (Option.some Jvm.ClassFile.FieldType.int) ∈ wsA := wA 867 (by decide +kernel) (by decide +kernel)
theorem tw813 : Cond.methodLink "DialWardensModel" 41 yX7_tickOnce ∈ wsA := wA 868 (by decide +kernel) (by decide +kernel)
theorem tw815 : Cond.instanceMethod yX7_tickOnce ∈ wsA := wA 870 (by decide +kernel) (by decide +kernel)
theorem tw816 : Cond.code yX7_tickOnce cX7_tickOnce 5 (Option.some Jvm.ClassFile.FieldType.int) ∈ wsA := wA 871 (by decide +kernel) (by decide +kernel)
theorem tw817 : Cond.constant "DialWardensModel" 40 (99999 : Int32) ∈ wsA := wA 872 (by decide +kernel) (by decide +kernel)
theorem tw818 : Cond.methodLink "DialWardensModel" 36 yX7_shows ∈ wsA := wA 873 (by decide +kernel) (by decide +kernel)
theorem tw820 : Cond.instanceMethod yX7_shows ∈ wsA := wA 875 (by decide +kernel) (by decide +kernel)
theorem tw821 : Cond.code yX7_shows cX7_shows 5 (Option.some Jvm.ClassFile.FieldType.int) ∈ wsA := wA 876 (by decide +kernel) (by decide +kernel)
theorem tw822 : Cond.methodLink "DialWardensLaw" 89 yX7_vote ∈ wsA := wA 877 (by decide +kernel) (by decide +kernel)
theorem tw823 : Cond.instanceMethod yX7_vote ∈ wsA := wA 878 (by decide +kernel) (by decide +kernel)
theorem tw824 : Cond.selects "DialWardensModel" yX7_vote yX7_vote ∈ wsA := wA 879 (by decide +kernel) (by decide +kernel)
theorem tw825 : Cond.code yX7_vote cX7_vote 1 (Option.some Jvm.ClassFile.FieldType.int) ∈ wsA := wA 880 (by decide +kernel) (by decide +kernel)
theorem tw826 : Cond.methodLink "DialWardensModel" 59 yX7_weights ∈ wsA := wA 881 (by decide +kernel) (by decide +kernel)
theorem tw828 : Cond.instanceMethod yX7_weights ∈ wsA := wA 883 (by decide +kernel) (by decide +kernel)
theorem tw829 : Cond.code yX7_weights cX7_weights 3 (Option.some Jvm.ClassFile.FieldType.int) ∈ wsA := wA 884 (by decide +kernel) (by decide +kernel)
theorem tw830 : Cond.methodLink "DialWardensModel" 85 yX7_votes ∈ wsA := wA 885 (by decide +kernel) (by decide +kernel)
theorem tw832 : Cond.instanceMethod yX7_votes ∈ wsA := wA 887 (by decide +kernel) (by decide +kernel)
theorem tw833 : Cond.code yX7_votes cX7_votes 5 (Option.some Jvm.ClassFile.FieldType.int) ∈ wsA := wA 888 (by decide +kernel) (by decide +kernel)
theorem tw834 : Cond.methodLink "DialWardensModel" 69 yX7_middle ∈ wsA := wA 889 (by decide +kernel) (by decide +kernel)
theorem tw836 : Cond.instanceMethod yX7_middle ∈ wsA := wA 891 (by decide +kernel) (by decide +kernel)
theorem tw837 : Cond.code yX7_middle cX7_middle 5 (Option.some Jvm.ClassFile.FieldType.int) ∈ wsA := wA 892 (by decide +kernel) (by decide +kernel)
theorem tw838 : Cond.methodLink "DialWardensModel" 56 yX7_word ∈ wsA := wA 893 (by decide +kernel) (by decide +kernel)
theorem tw840 : Cond.instanceMethod yX7_word ∈ wsA := wA 895 (by decide +kernel) (by decide +kernel)
theorem tw841 : Cond.code yX7_word cX7_word 3 (Option.some Jvm.ClassFile.FieldType.int) ∈ wsA := wA 896 (by decide +kernel) (by decide +kernel)
theorem tw842 : Cond.methodLink "DialWardensModel" 65 yX7_quarrel ∈ wsA := wA 897 (by decide +kernel) (by decide +kernel)
theorem tw844 : Cond.instanceMethod yX7_quarrel ∈ wsA := wA 899 (by decide +kernel) (by decide +kernel)
theorem tw845 : Cond.code yX7_quarrel cX7_quarrel 2 (Option.some Jvm.ClassFile.FieldType.boolean) ∈ wsA := wA 900 (by decide +kernel) (by decide +kernel)
theorem tw846 : Cond.methodLink "DialWardensModel" 62 yX7_behind ∈ wsA := wA 901 (by decide +kernel) (by decide +kernel)
theorem tw847 : Cond.static yX7_behind ∈ wsA := wA 902 (by decide +kernel) (by decide +kernel)
theorem tw848 : Cond.code yX7_behind cX7_behind 1 (Option.some Jvm.ClassFile.FieldType.int) ∈ wsA := wA 903 (by decide +kernel) (by decide +kernel)
theorem tw849 : Cond.methodLink "DialWardensModel" 49 yX7_size ∈ wsA := wA 904 (by decide +kernel) (by decide +kernel)
theorem tw850 : Cond.static yX7_size ∈ wsA := wA 905 (by decide +kernel) (by decide +kernel)
theorem tw851 : Cond.code yX7_size cX7_size 1 (Option.some Jvm.ClassFile.FieldType.int) ∈ wsA := wA 906 (by decide +kernel) (by decide +kernel)
theorem tw852 : Cond.methodLink "DialWardensModel" 72 yX7_loses ∈ wsA := wA 907 (by decide +kernel) (by decide +kernel)
theorem tw854 : Cond.instanceMethod yX7_loses ∈ wsA := wA 909 (by decide +kernel) (by decide +kernel)
theorem tw855 : Cond.code yX7_loses cX7_loses 2 (Option.none : Option Jvm.ClassFile.FieldType) ∈ wsA := wA 910 (by decide +kernel) (by decide +kernel)
theorem tw856 : Cond.methodLink "DialWardensLaw" 93 yX7_correct ∈ wsA := wA 911 (by decide +kernel) (by decide +kernel)
theorem tw857 : Cond.instanceMethod yX7_correct ∈ wsA := wA 912 (by decide +kernel) (by decide +kernel)
theorem tw858 : Cond.selects "DialWardensModel" yX7_correct yX7_correct ∈ wsA := wA 913 (by decide +kernel) (by decide +kernel)
theorem tw859 : Cond.code yX7_correct cX7_correct 1 (Option.some Jvm.ClassFile.FieldType.int) ∈ wsA := wA 914 (by decide +kernel) (by decide +kernel)
theorem tw860 : Cond.methodLink "DialWardensModel" 88 yX7_corrects ∈ wsA := wA 915 (by decide +kernel) (by decide +kernel)
theorem tw862 : Cond.instanceMethod yX7_corrects ∈ wsA := wA 917 (by decide +kernel) (by decide +kernel)
theorem tw863 : Cond.code yX7_corrects cX7_corrects 4 (Option.some Jvm.ClassFile.FieldType.int) ∈ wsA := wA 918 (by decide +kernel) (by decide +kernel)
theorem tw864 : Cond.methodLink "DialWardensModel" 45 yX7_right ∈ wsA := wA 919 (by decide +kernel) (by decide +kernel)
theorem tw866 : Cond.instanceMethod yX7_right ∈ wsA := wA 921 (by decide +kernel) (by decide +kernel)
theorem tw867 : Cond.code yX7_right cX7_right 5 (Option.some Jvm.ClassFile.FieldType.int) ∈ wsA := wA 922 (by decide +kernel) (by decide +kernel)
theorem tw868 : Cond.methodLink "DialWardensModel" 52 yX7_moves ∈ wsA := wA 923 (by decide +kernel) (by decide +kernel)
theorem tw870 : Cond.instanceMethod yX7_moves ∈ wsA := wA 925 (by decide +kernel) (by decide +kernel)
theorem tw871 : Cond.code yX7_moves cX7_moves 5 (Option.none : Option Jvm.ClassFile.FieldType) ∈ wsA := wA 926 (by decide +kernel) (by decide +kernel)
theorem tw872 : Cond.methodLink "DialWardensLaw" 97 yX7_put ∈ wsA := wA 927 (by decide +kernel) (by decide +kernel)
theorem tw873 : Cond.instanceMethod yX7_put ∈ wsA := wA 928 (by decide +kernel) (by decide +kernel)
theorem tw874 : Cond.selects "DialWardensModel" yX7_put yX7_put ∈ wsA := wA 929 (by decide +kernel) (by decide +kernel)
theorem tw875 : Cond.code yX7_put cX7_put 4 (Option.some Jvm.ClassFile.FieldType.int) ∈ wsA := wA 930 (by decide +kernel) (by decide +kernel)
theorem tw876 : Cond.methodLink "DialWardensModel" 91 yX7_isDial ∈ wsA := wA 931 (by decide +kernel) (by decide +kernel)
theorem tw877 : Cond.static yX7_isDial ∈ wsA := wA 932 (by decide +kernel) (by decide +kernel)
theorem tw878 : Cond.code yX7_isDial cX7_isDial 1 (Option.some Jvm.ClassFile.FieldType.boolean) ∈ wsA := wA 933 (by decide +kernel) (by decide +kernel)
theorem tw879 : Cond.methodLink "DialWardensLaw" 100 yX7_drift ∈ wsA := wA 934 (by decide +kernel) (by decide +kernel)
theorem tw880 : Cond.instanceMethod yX7_drift ∈ wsA := wA 935 (by decide +kernel) (by decide +kernel)
theorem tw881 : Cond.selects "DialWardensModel" yX7_drift yX7_drift ∈ wsA := wA 936 (by decide +kernel) (by decide +kernel)
theorem tw882 : Cond.code yX7_drift cX7_drift 4 (Option.some Jvm.ClassFile.FieldType.int) ∈ wsA := wA 937 (by decide +kernel) (by decide +kernel)
theorem tw883 : Cond.methodLink "DialWardensLaw" 104 yX7_warden ∈ wsA := wA 938 (by decide +kernel) (by decide +kernel)
theorem tw884 : Cond.instanceMethod yX7_warden ∈ wsA := wA 939 (by decide +kernel) (by decide +kernel)
theorem tw885 : Cond.selects "DialWardensModel" yX7_warden yX7_warden ∈ wsA := wA 940 (by decide +kernel) (by decide +kernel)
theorem tw886 : Cond.code yX7_warden cX7_warden 5 (Option.some Jvm.ClassFile.FieldType.int) ∈ wsA := wA 941 (by decide +kernel) (by decide +kernel)
theorem tw887 : Cond.methodLink "DialWardensLaw" 107 yX7_set ∈ wsA := wA 942 (by decide +kernel) (by decide +kernel)
theorem tw888 : Cond.instanceMethod yX7_set ∈ wsA := wA 943 (by decide +kernel) (by decide +kernel)
theorem tw889 : Cond.selects "DialWardensModel" yX7_set yX7_set ∈ wsA := wA 944 (by decide +kernel) (by decide +kernel)
theorem tw890 : Cond.code yX7_set cX7_set 4 (Option.some Jvm.ClassFile.FieldType.int) ∈ wsA := wA 945 (by decide +kernel) (by decide +kernel)
theorem tw891 : Cond.methodLink "DialWardensLaw" 110 yX7_append ∈ wsA := wA 946 (by decide +kernel) (by decide +kernel)
theorem tw892 : Cond.instanceMethod yX7_append ∈ wsA := wA 947 (by decide +kernel) (by decide +kernel)
theorem tw893 : Cond.selects "DialWardensModel" yX7_append yX7_append ∈ wsA := wA 948 (by decide +kernel) (by decide +kernel)
theorem tw894 : Cond.code yX7_append cX7_append 2 (Option.some Jvm.ClassFile.FieldType.int) ∈ wsA := wA 949 (by decide +kernel) (by decide +kernel)
theorem tw895 : Cond.methodLink "DialWardensLaw" 114 yX7_clearBuffer ∈ wsA := wA 950 (by decide +kernel) (by decide +kernel)
theorem tw896 : Cond.instanceMethod yX7_clearBuffer ∈ wsA := wA 951 (by decide +kernel) (by decide +kernel)
theorem tw897 : Cond.selects "DialWardensModel" yX7_clearBuffer yX7_clearBuffer ∈ wsA := wA 952 (by decide +kernel) (by decide +kernel)
theorem tw898 : Cond.code yX7_clearBuffer cX7_clearBuffer 2 (Option.some Jvm.ClassFile.FieldType.int) ∈ wsA := wA 953 (by decide +kernel) (by decide +kernel)
theorem tw899 : Cond.methodLink "DialWardensLaw" 118 yX7_firstError ∈ wsA := wA 954 (by decide +kernel) (by decide +kernel)
theorem tw900 : Cond.instanceMethod yX7_firstError ∈ wsA := wA 955 (by decide +kernel) (by decide +kernel)
theorem tw901 : Cond.selects "DialWardensModel" yX7_firstError yX7_firstError ∈ wsA := wA 956 (by decide +kernel) (by decide +kernel)
theorem tw902 : Cond.code yX7_firstError cX7_firstError 2 (Option.some Jvm.ClassFile.FieldType.int) ∈ wsA := wA 957 (by decide +kernel) (by decide +kernel)
theorem tw903 : Cond.methodLink "DialWardensModel" 115 yX7_go ∈ wsA := wA 958 (by decide +kernel) (by decide +kernel)
theorem tw905 : Cond.instanceMethod yX7_go ∈ wsA := wA 960 (by decide +kernel) (by decide +kernel)
theorem tw906 : Cond.code yX7_go cX7_go 5 (Option.some Jvm.ClassFile.FieldType.int) ∈ wsA := wA 961 (by decide +kernel) (by decide +kernel)
theorem tw907 : Cond.methodLink "DialWardensModel" 111 yX7_part ∈ wsA := wA 962 (by decide +kernel) (by decide +kernel)
theorem tw909 : Cond.instanceMethod yX7_part ∈ wsA := wA 964 (by decide +kernel) (by decide +kernel)
theorem tw910 : Cond.code yX7_part cX7_part 7 (Option.some Jvm.ClassFile.FieldType.boolean) ∈ wsA := wA 965 (by decide +kernel) (by decide +kernel)
theorem tw911 : Cond.methodLink "DialWardensModel" 104 yX7_isNext ∈ wsA := wA 966 (by decide +kernel) (by decide +kernel)
theorem tw913 : Cond.instanceMethod yX7_isNext ∈ wsA := wA 968 (by decide +kernel) (by decide +kernel)
theorem tw914 : Cond.code yX7_isNext cX7_isNext 3 (Option.some Jvm.ClassFile.FieldType.boolean) ∈ wsA := wA 969 (by decide +kernel) (by decide +kernel)
theorem tw915 : Cond.methodLink "DialWardensModel" 108 yX7_sign ∈ wsA := wA 970 (by decide +kernel) (by decide +kernel)
theorem tw917 : Cond.instanceMethod yX7_sign ∈ wsA := wA 972 (by decide +kernel) (by decide +kernel)
theorem tw918 : Cond.code yX7_sign cX7_sign 4 (Option.some Jvm.ClassFile.FieldType.int) ∈ wsA := wA 973 (by decide +kernel) (by decide +kernel)
theorem tw919 : Cond.methodLink "DialWardensLaw" 121 yX7_obey ∈ wsA := wA 974 (by decide +kernel) (by decide +kernel)
theorem tw920 : Cond.instanceMethod yX7_obey ∈ wsA := wA 975 (by decide +kernel) (by decide +kernel)
theorem tw921 : Cond.selects "DialWardensModel" yX7_obey yX7_obey ∈ wsA := wA 976 (by decide +kernel) (by decide +kernel)
theorem tw922 : Cond.code yX7_obey cX7_obey 3 (Option.some Jvm.ClassFile.FieldType.int) ∈ wsA := wA 977 (by decide +kernel) (by decide +kernel)
theorem tw923 : Cond.methodLink "DialWardensLaw" 125 yX7_keep ∈ wsA := wA 978 (by decide +kernel) (by decide +kernel)
theorem tw924 : Cond.instanceMethod yX7_keep ∈ wsA := wA 979 (by decide +kernel) (by decide +kernel)
theorem tw925 : Cond.selects "DialWardensModel" yX7_keep yX7_keep ∈ wsA := wA 980 (by decide +kernel) (by decide +kernel)
theorem tw926 : Cond.code yX7_keep cX7_keep 2 (Option.some Jvm.ClassFile.FieldType.int) ∈ wsA := wA 981 (by decide +kernel) (by decide +kernel)
theorem tw927 : Cond.methodLink "DialWardensLaw" 128 yX7_goBack ∈ wsA := wA 982 (by decide +kernel) (by decide +kernel)
theorem tw928 : Cond.instanceMethod yX7_goBack ∈ wsA := wA 983 (by decide +kernel) (by decide +kernel)
theorem tw929 : Cond.selects "DialWardensModel" yX7_goBack yX7_goBack ∈ wsA := wA 984 (by decide +kernel) (by decide +kernel)
theorem tw930 : Cond.code yX7_goBack cX7_goBack 2 (Option.some Jvm.ClassFile.FieldType.int) ∈ wsA := wA 985 (by decide +kernel) (by decide +kernel)
theorem tw931 : Cond.methodLink "DialWardensLaw" 131 yX7_undo ∈ wsA := wA 986 (by decide +kernel) (by decide +kernel)
theorem tw932 : Cond.instanceMethod yX7_undo ∈ wsA := wA 987 (by decide +kernel) (by decide +kernel)
theorem tw933 : Cond.selects "DialWardensModel" yX7_undo yX7_undo ∈ wsA := wA 988 (by decide +kernel) (by decide +kernel)
theorem tw934 : Cond.code yX7_undo cX7_undo 2 (Option.some Jvm.ClassFile.FieldType.int) ∈ wsA := wA 989 (by decide +kernel) (by decide +kernel)
theorem tw935 : Cond.methodLink "DialWardensLaw" 134 yX7_dial ∈ wsA := wA 990 (by decide +kernel) (by decide +kernel)
theorem tw936 : Cond.instanceMethod yX7_dial ∈ wsA := wA 991 (by decide +kernel) (by decide +kernel)
theorem tw937 : Cond.selects "DialWardensModel" yX7_dial yX7_dial ∈ wsA := wA 992 (by decide +kernel) (by decide +kernel)
theorem tw938 : Cond.code yX7_dial cX7_dial 3 (Option.some Jvm.ClassFile.FieldType.int) ∈ wsA := wA 993 (by decide +kernel) (by decide +kernel)
theorem tw939 : Cond.methodLink "DialWardensModel" 122 yX7_ofDial ∈ wsA := wA 994 (by decide +kernel) (by decide +kernel)
theorem tw941 : Cond.instanceMethod yX7_ofDial ∈ wsA := wA 996 (by decide +kernel) (by decide +kernel)
theorem tw942 : Cond.code yX7_ofDial cX7_ofDial 3 (Option.some Jvm.ClassFile.FieldType.int) ∈ wsA := wA 997 (by decide +kernel) (by decide +kernel)
theorem tw943 : Cond.methodLink "DialWardensLaw" 137 yX7_says ∈ wsA := wA 998 (by decide +kernel) (by decide +kernel)
theorem tw944 : Cond.instanceMethod yX7_says ∈ wsA := wA 999 (by decide +kernel) (by decide +kernel)
theorem tw945 : Cond.selects "DialWardensModel" yX7_says yX7_says ∈ wsA := wA 1000 (by decide +kernel) (by decide +kernel)
theorem tw946 : Cond.code yX7_says cX7_says 3 (Option.some Jvm.ClassFile.FieldType.int) ∈ wsA := wA 1001 (by decide +kernel) (by decide +kernel)
theorem tw947 : Cond.methodLink "DialWardensModel" 128 yX7_ofWarden ∈ wsA := wA 1002 (by decide +kernel) (by decide +kernel)
theorem tw949 : Cond.instanceMethod yX7_ofWarden ∈ wsA := wA 1004 (by decide +kernel) (by decide +kernel)
theorem tw950 : Cond.code yX7_ofWarden cX7_ofWarden 3 (Option.some Jvm.ClassFile.FieldType.int) ∈ wsA := wA 1005 (by decide +kernel) (by decide +kernel)
theorem tw951 : Cond.methodLink "DialWardensModel" 125 yX7_placeOf ∈ wsA := wA 1006 (by decide +kernel) (by decide +kernel)
theorem tw953 : Cond.instanceMethod yX7_placeOf ∈ wsA := wA 1008 (by decide +kernel) (by decide +kernel)
theorem tw954 : Cond.code yX7_placeOf cX7_placeOf 4 (Option.some Jvm.ClassFile.FieldType.int) ∈ wsA := wA 1009 (by decide +kernel) (by decide +kernel)
theorem tw955 : Cond.methodLink "DialWardensLaw" 140 yX7_count ∈ wsA := wA 1010 (by decide +kernel) (by decide +kernel)
theorem tw956 : Cond.instanceMethod yX7_count ∈ wsA := wA 1011 (by decide +kernel) (by decide +kernel)
theorem tw957 : Cond.selects "DialWardensModel" yX7_count yX7_count ∈ wsA := wA 1012 (by decide +kernel) (by decide +kernel)
theorem tw958 : Cond.code yX7_count cX7_count 2 (Option.some Jvm.ClassFile.FieldType.int) ∈ wsA := wA 1013 (by decide +kernel) (by decide +kernel)
theorem tw959 : Cond.methodLink "DialWardensModel" 140 yX7_number ∈ wsA := wA 1014 (by decide +kernel) (by decide +kernel)
theorem tw961 : Cond.instanceMethod yX7_number ∈ wsA := wA 1016 (by decide +kernel) (by decide +kernel)
theorem tw962 : Cond.code yX7_number cX7_number 2 (Option.some Jvm.ClassFile.FieldType.int) ∈ wsA := wA 1017 (by decide +kernel) (by decide +kernel)
theorem tw963 : Cond.methodLink "DialWardensModel" 131 yX7_quarrels ∈ wsA := wA 1018 (by decide +kernel) (by decide +kernel)
theorem tw965 : Cond.instanceMethod yX7_quarrels ∈ wsA := wA 1020 (by decide +kernel) (by decide +kernel)
theorem tw966 : Cond.code yX7_quarrels cX7_quarrels 3 (Option.some Jvm.ClassFile.FieldType.int) ∈ wsA := wA 1021 (by decide +kernel) (by decide +kernel)
theorem tw967 : Cond.methodLink "DialWardensModel" 134 yX7_all ∈ wsA := wA 1022 (by decide +kernel) (by decide +kernel)
theorem tw969 : Cond.instanceMethod yX7_all ∈ wsA := wA 1024 (by decide +kernel) (by decide +kernel)
theorem tw970 : Cond.code yX7_all cX7_all 4 (Option.some Jvm.ClassFile.FieldType.int) ∈ wsA := wA 1025 (by decide +kernel) (by decide +kernel)
theorem tw971 : Cond.methodLink "DialWardensModel" 137 yX7_wrongDials ∈ wsA := wA 1026 (by decide +kernel) (by decide +kernel)
theorem tw973 : Cond.instanceMethod yX7_wrongDials ∈ wsA := wA 1028 (by decide +kernel) (by decide +kernel)
theorem tw974 : Cond.code yX7_wrongDials cX7_wrongDials 3 (Option.some Jvm.ClassFile.FieldType.int) ∈ wsA := wA 1029 (by decide +kernel) (by decide +kernel)
theorem tw975 : Cond.methodLink "DialWardensLaw" 143 yX7_setting ∈ wsA := wA 1030 (by decide +kernel) (by decide +kernel)
theorem tw976 : Cond.instanceMethod yX7_setting ∈ wsA := wA 1031 (by decide +kernel) (by decide +kernel)
theorem tw977 : Cond.selects "DialWardensModel" yX7_setting yX7_setting ∈ wsA := wA 1032 (by decide +kernel) (by decide +kernel)
theorem tw978 : Cond.code yX7_setting cX7_setting 2 (Option.some Jvm.ClassFile.FieldType.int) ∈ wsA := wA 1033 (by decide +kernel) (by decide +kernel)
theorem tw979 : Cond.methodLink "DialWardensLaw" 146 yX7_without ∈ wsA := wA 1034 (by decide +kernel) (by decide +kernel)
theorem tw980 : Cond.instanceMethod yX7_without ∈ wsA := wA 1035 (by decide +kernel) (by decide +kernel)
theorem tw981 : Cond.selects "DialWardensModel" yX7_without yX7_without ∈ wsA := wA 1036 (by decide +kernel) (by decide +kernel)
theorem tw982 : Cond.code yX7_without cX7_without 2 (Option.some Jvm.ClassFile.FieldType.int) ∈ wsA := wA 1037 (by decide +kernel) (by decide +kernel)
theorem tw983 : Cond.methodLink "DialWardensModel" 143 yX7_middleWith ∈ wsA := wA 1038 (by decide +kernel) (by decide +kernel)
theorem tw985 : Cond.instanceMethod yX7_middleWith ∈ wsA := wA 1040 (by decide +kernel) (by decide +kernel)
theorem tw986 : Cond.code yX7_middleWith cX7_middleWith 5 (Option.some Jvm.ClassFile.FieldType.int) ∈ wsA := wA 1041 (by decide +kernel) (by decide +kernel)
theorem tw987 : Cond.methodLink "DialWardensLaw" 150 yX7_pivot ∈ wsA := wA 1042 (by decide +kernel) (by decide +kernel)
theorem tw988 : Cond.instanceMethod yX7_pivot ∈ wsA := wA 1043 (by decide +kernel) (by decide +kernel)
theorem tw989 : Cond.selects "DialWardensModel" yX7_pivot yX7_pivot ∈ wsA := wA 1044 (by decide +kernel) (by decide +kernel)
theorem tw990 : Cond.code yX7_pivot cX7_pivot 1 (Option.some Jvm.ClassFile.FieldType.int) ∈ wsA := wA 1045 (by decide +kernel) (by decide +kernel)
theorem tw991 : Cond.methodLink "DialWardensModel" 146 yX7_matters ∈ wsA := wA 1046 (by decide +kernel) (by decide +kernel)
theorem tw993 : Cond.instanceMethod yX7_matters ∈ wsA := wA 1048 (by decide +kernel) (by decide +kernel)
theorem tw994 : Cond.code yX7_matters cX7_matters 7 (Option.some Jvm.ClassFile.FieldType.int) ∈ wsA := wA 1049 (by decide +kernel) (by decide +kernel)
theorem tw995 : Cond.methodLink "DialWardensLaw" 153 yX7_wins ∈ wsA := wA 1050 (by decide +kernel) (by decide +kernel)
theorem tw996 : Cond.instanceMethod yX7_wins ∈ wsA := wA 1051 (by decide +kernel) (by decide +kernel)
theorem tw997 : Cond.selects "DialWardensModel" yX7_wins yX7_wins ∈ wsA := wA 1052 (by decide +kernel) (by decide +kernel)
theorem tw998 : Cond.code yX7_wins cX7_wins 2 (Option.some Jvm.ClassFile.FieldType.int) ∈ wsA := wA 1053 (by decide +kernel) (by decide +kernel)
theorem tw999 : Cond.methodLink "DialWardensModel" 149 yX7_winning ∈ wsA := wA 1054 (by decide +kernel) (by decide +kernel)
theorem tw1001 : Cond.instanceMethod yX7_winning ∈ wsA := wA 1056 (by decide +kernel) (by decide +kernel)
theorem tw1002 : Cond.code yX7_winning cX7_winning 3 (Option.some Jvm.ClassFile.FieldType.int) ∈ wsA := wA 1057 (by decide +kernel) (by decide +kernel)
theorem tw1003 : Cond.methodLink "DialWardensLaw" 156 yX7_quarrelIn ∈ wsA := wA 1058 (by decide +kernel) (by decide +kernel)
theorem tw1004 : Cond.instanceMethod yX7_quarrelIn ∈ wsA := wA 1059 (by decide +kernel) (by decide +kernel)
theorem tw1005 : Cond.selects "DialWardensModel" yX7_quarrelIn yX7_quarrelIn ∈ wsA := wA 1060 (by decide +kernel) (by decide +kernel)
theorem tw1006 : Cond.code yX7_quarrelIn cX7_quarrelIn 2 (Option.some Jvm.ClassFile.FieldType.int) ∈ wsA := wA 1061 (by decide +kernel) (by decide +kernel)
theorem tw1007 : Cond.methodLink "DialWardensModel" 158 yX7_quarrelsIn ∈ wsA := wA 1062 (by decide +kernel) (by decide +kernel)
theorem tw1009 : Cond.instanceMethod yX7_quarrelsIn ∈ wsA := wA 1064 (by decide +kernel) (by decide +kernel)
theorem tw1010 : Cond.code yX7_quarrelsIn cX7_quarrelsIn 5 (Option.some Jvm.ClassFile.FieldType.int) ∈ wsA := wA 1065 (by decide +kernel) (by decide +kernel)
theorem tw1011 : Cond.methodLink "DialWardensModel" 152 yX7_putAside ∈ wsA := wA 1066 (by decide +kernel) (by decide +kernel)
theorem tw1013 : Cond.instanceMethod yX7_putAside ∈ wsA := wA 1068 (by decide +kernel) (by decide +kernel)
theorem tw1014 : Cond.code yX7_putAside cX7_putAside 2 (Option.none : Option Jvm.ClassFile.FieldType) ∈ wsA := wA 1069 (by decide +kernel) (by decide +kernel)
theorem tw1015 : Cond.methodLink "DialWardensModel" 155 yX7_putBack ∈ wsA := wA 1070 (by decide +kernel) (by decide +kernel)
theorem tw1017 : Cond.instanceMethod yX7_putBack ∈ wsA := wA 1072 (by decide +kernel) (by decide +kernel)
theorem tw1018 : Cond.code yX7_putBack cX7_putBack 2 (Option.none : Option Jvm.ClassFile.FieldType) ∈ wsA := wA 1073 (by decide +kernel) (by decide +kernel)
theorem tw1019 : Cond.methodLink "DialWardensLaw" 159 yX7_ringsIn ∈ wsA := wA 1074 (by decide +kernel) (by decide +kernel)
theorem tw1020 : Cond.instanceMethod yX7_ringsIn ∈ wsA := wA 1075 (by decide +kernel) (by decide +kernel)
theorem tw1021 : Cond.selects "DialWardensModel" yX7_ringsIn yX7_ringsIn ∈ wsA := wA 1076 (by decide +kernel) (by decide +kernel)
theorem tw1022 : Cond.code yX7_ringsIn cX7_ringsIn 2 (Option.some Jvm.ClassFile.FieldType.int) ∈ wsA := wA 1077 (by decide +kernel) (by decide +kernel)
theorem tw1023 : Cond.methodLink "DialWardensModel" 161 yX7_bellIn ∈ wsA := wA 1078 (by decide +kernel) (by decide +kernel)
theorem tw1025 : Cond.instanceMethod yX7_bellIn ∈ wsA := wA 1080 (by decide +kernel) (by decide +kernel)
theorem tw1026 : Cond.code yX7_bellIn cX7_bellIn 4 (Option.some Jvm.ClassFile.FieldType.int) ∈ wsA := wA 1081 (by decide +kernel) (by decide +kernel)
theorem tw1027 : Cond.methodLink "DialWardensLaw" 164 yX7_heldShare ∈ wsA := wA 1082 (by decide +kernel) (by decide +kernel)
theorem tw1028 : Cond.instanceMethod yX7_heldShare ∈ wsA := wA 1083 (by decide +kernel) (by decide +kernel)
theorem tw1029 : Cond.selects "DialWardensModel" yX7_heldShare yX7_heldShare ∈ wsA := wA 1084 (by decide +kernel) (by decide +kernel)
theorem tw1030 : Cond.code yX7_heldShare cX7_heldShare 1 (Option.some Jvm.ClassFile.FieldType.double) ∈ wsA := wA 1085 (by decide +kernel) (by decide +kernel)
theorem tw1031 : Cond.methodLink "DialWardensModel" 164 yX7_share ∈ wsA := wA 1086 (by decide +kernel) (by decide +kernel)
theorem tw1033 : Cond.instanceMethod yX7_share ∈ wsA := wA 1088 (by decide +kernel) (by decide +kernel)
theorem tw1034 : Cond.code yX7_share cX7_share 1 (Option.some Jvm.ClassFile.FieldType.double) ∈ wsA := wA 1089 (by decide +kernel) (by decide +kernel)
theorem tw1035 : Cond.methodLink "DialWardensLaw" 169 yX7_meanError ∈ wsA := wA 1090 (by decide +kernel) (by decide +kernel)
theorem tw1036 : Cond.instanceMethod yX7_meanError ∈ wsA := wA 1091 (by decide +kernel) (by decide +kernel)
theorem tw1037 : Cond.selects "DialWardensModel" yX7_meanError yX7_meanError ∈ wsA := wA 1092 (by decide +kernel) (by decide +kernel)
theorem tw1038 : Cond.code yX7_meanError cX7_meanError 1 (Option.some Jvm.ClassFile.FieldType.float) ∈ wsA := wA 1093 (by decide +kernel) (by decide +kernel)
theorem tw1039 : Cond.methodLink "DialWardensModel" 169 yX7_mean ∈ wsA := wA 1094 (by decide +kernel) (by decide +kernel)
theorem tw1041 : Cond.instanceMethod yX7_mean ∈ wsA := wA 1096 (by decide +kernel) (by decide +kernel)
theorem tw1042 : Cond.code yX7_mean cX7_mean 3 (Option.some Jvm.ClassFile.FieldType.float) ∈ wsA := wA 1097 (by decide +kernel) (by decide +kernel)
theorem tw1043 : Cond.constantFloat "DialWardensModel" 168 (1088421888 : UInt32) ∈ wsA := wA 1098 (by decide +kernel) (by decide +kernel)
theorem tw1044 : Cond.methodLink "DialWardensLaw" 174 yX7_digest ∈ wsA := wA 1099 (by decide +kernel) (by decide +kernel)
theorem tw1045 : Cond.instanceMethod yX7_digest ∈ wsA := wA 1100 (by decide +kernel) (by decide +kernel)
theorem tw1046 : Cond.selects "DialWardensModel" yX7_digest yX7_digest ∈ wsA := wA 1101 (by decide +kernel) (by decide +kernel)
theorem tw1047 : Cond.code yX7_digest cX7_digest 5 (Option.some Jvm.ClassFile.FieldType.long) ∈ wsA := wA 1102 (by decide +kernel) (by decide +kernel)
theorem tw1048 : Cond.constantLong "DialWardensModel" 175 (3863 : Int64) ∈ wsA := wA 1103 (by decide +kernel) (by decide +kernel)
theorem tw1049 : Cond.constantLong "DialWardensModel" 177 (31 : Int64) ∈ wsA := wA 1104 (by decide +kernel) (by decide +kernel)
theorem tw1050 : Cond.methodLink "DialWardensModel" 179 yX7_bits ∈ wsA := wA 1105 (by decide +kernel) (by decide +kernel)
theorem tw1051 : Cond.static yX7_bits ∈ wsA := wA 1106 (by decide +kernel) (by decide +kernel)
theorem tw1052 : Cond.code yX7_bits cX7_bits 10 (Option.some Jvm.ClassFile.FieldType.long) ∈ wsA := wA 1107 (by decide +kernel) (by decide +kernel)
theorem tw1053 : Cond.constantDouble "DialWardensModel" 173 (4611686018427387904 : UInt64) ∈ wsA := wA 1108 (by decide +kernel) (by decide +kernel)
theorem tw1054 : Cond.arrayClass Jvm.ClassFile.FieldType.long ∈ wsA := wA 1109 (by decide +kernel) (by decide +kernel)
theorem ts0 : Cond.selects "DialWardens$History" yX1_dropOldest yX1_dropOldest ∈ wsA := wA 0 (by decide +kernel) (by decide +kernel)
theorem ts1 : Cond.selects "DialWardens$State" yX4_nearestAllowed yX4_nearestAllowed ∈ wsA := wA 1 (by decide +kernel) (by decide +kernel)
theorem ts2 : Cond.selects "DialWardens$Dials" yX0_ring yX0_ring ∈ wsA := wA 2 (by decide +kernel) (by decide +kernel)
theorem ts3 : Cond.selects "DialWardens" yX6_middleNow yX6_middleNow ∈ wsA := wA 3 (by decide +kernel) (by decide +kernel)
theorem ts4 : Cond.selects "DialWardens" yX6_middleIf yX6_middleIf ∈ wsA := wA 4 (by decide +kernel) (by decide +kernel)
theorem ts6 : Cond.selects "DialWardens" yX6_townNumber yX6_townNumber ∈ wsA := wA 6 (by decide +kernel) (by decide +kernel)
theorem ts7 : Cond.selects "DialWardens" yX6_middleNowByAdding yX6_middleNowByAdding ∈ wsA := wA 7 (by decide +kernel) (by decide +kernel)
theorem ts8 : Cond.selects "DialWardens$Poll" yX3_weightBelow yX3_weightBelow ∈ wsA := wA 8 (by decide +kernel) (by decide +kernel)
theorem ts9 : Cond.selects "DialWardens$Poll" yX3_weightAt yX3_weightAt ∈ wsA := wA 9 (by decide +kernel) (by decide +kernel)
theorem ts10 : Cond.selects "DialWardens$State" yX4_wordsQuarrel yX4_wordsQuarrel ∈ wsA := wA 10 (by decide +kernel) (by decide +kernel)
theorem ts11 : Cond.selects "DialWardens" yX6_sumNumber yX6_sumNumber ∈ wsA := wA 11 (by decide +kernel) (by decide +kernel)
theorem ts12 : Cond.selects "DialWardens" yX6_mixedWithDial yX6_mixedWithDial ∈ wsA := wA 12 (by decide +kernel) (by decide +kernel)
theorem ts13 : Cond.selects "DialWardens" yX6_dialNumber yX6_dialNumber ∈ wsA := wA 13 (by decide +kernel) (by decide +kernel)
theorem ts14 : Cond.selects "DialWardens" yX6_mixedWithWarden yX6_mixedWithWarden ∈ wsA := wA 14 (by decide +kernel) (by decide +kernel)
theorem ts15 : Cond.selects "DialWardens" yX6_wardenNumber yX6_wardenNumber ∈ wsA := wA 15 (by decide +kernel) (by decide +kernel)
theorem ts16 : Cond.selects "DialWardens" yX6_placeOf yX6_placeOf ∈ wsA := wA 16 (by decide +kernel) (by decide +kernel)
theorem ts17 : Cond.selects "DialWardens$Dials" yX0_passTick yX0_passTick ∈ wsA := wA 17 (by decide +kernel) (by decide +kernel)
theorem ts18 : Cond.selects "DialWardens" yX6_holdVote yX6_holdVote ∈ wsA := wA 18 (by decide +kernel) (by decide +kernel)
theorem ts19 : Cond.selects "DialWardens$State" yX4_settleQuarrel yX4_settleQuarrel ∈ wsA := wA 19 (by decide +kernel) (by decide +kernel)
theorem ts20 : Cond.selects "DialWardens" yX6_obeyPart yX6_obeyPart ∈ wsA := wA 20 (by decide +kernel) (by decide +kernel)
theorem ts21 : Cond.selects "DialWardensModel" yX7_throwing yX7_throwing ∈ wsA := wA 21 (by decide +kernel) (by decide +kernel)
theorem ts22 : Cond.selects "DialWardensModel" yX7_save yX7_save ∈ wsA := wA 22 (by decide +kernel) (by decide +kernel)
theorem ts23 : Cond.selects "DialWardensModel" yX7_ticks yX7_ticks ∈ wsA := wA 23 (by decide +kernel) (by decide +kernel)
theorem ts24 : Cond.selects "DialWardensModel" yX7_tickOnce yX7_tickOnce ∈ wsA := wA 24 (by decide +kernel) (by decide +kernel)
theorem ts25 : Cond.selects "DialWardensModel" yX7_shows yX7_shows ∈ wsA := wA 25 (by decide +kernel) (by decide +kernel)
theorem ts26 : Cond.selects "DialWardensModel" yX7_weights yX7_weights ∈ wsA := wA 26 (by decide +kernel) (by decide +kernel)
theorem ts27 : Cond.selects "DialWardensModel" yX7_votes yX7_votes ∈ wsA := wA 27 (by decide +kernel) (by decide +kernel)
theorem ts28 : Cond.selects "DialWardensModel" yX7_middle yX7_middle ∈ wsA := wA 28 (by decide +kernel) (by decide +kernel)
theorem ts29 : Cond.selects "DialWardensModel" yX7_word yX7_word ∈ wsA := wA 29 (by decide +kernel) (by decide +kernel)
theorem ts30 : Cond.selects "DialWardensModel" yX7_quarrel yX7_quarrel ∈ wsA := wA 30 (by decide +kernel) (by decide +kernel)
theorem ts31 : Cond.selects "DialWardensModel" yX7_loses yX7_loses ∈ wsA := wA 31 (by decide +kernel) (by decide +kernel)
theorem ts32 : Cond.selects "DialWardensModel" yX7_corrects yX7_corrects ∈ wsA := wA 32 (by decide +kernel) (by decide +kernel)
theorem ts33 : Cond.selects "DialWardensModel" yX7_right yX7_right ∈ wsA := wA 33 (by decide +kernel) (by decide +kernel)
theorem ts34 : Cond.selects "DialWardensModel" yX7_moves yX7_moves ∈ wsA := wA 34 (by decide +kernel) (by decide +kernel)
theorem ts35 : Cond.selects "DialWardensModel" yX7_go yX7_go ∈ wsA := wA 35 (by decide +kernel) (by decide +kernel)
theorem ts36 : Cond.selects "DialWardensModel" yX7_part yX7_part ∈ wsA := wA 36 (by decide +kernel) (by decide +kernel)
theorem ts37 : Cond.selects "DialWardensModel" yX7_isNext yX7_isNext ∈ wsA := wA 37 (by decide +kernel) (by decide +kernel)
theorem ts38 : Cond.selects "DialWardensModel" yX7_sign yX7_sign ∈ wsA := wA 38 (by decide +kernel) (by decide +kernel)
theorem ts39 : Cond.selects "DialWardensModel" yX7_ofDial yX7_ofDial ∈ wsA := wA 39 (by decide +kernel) (by decide +kernel)
theorem ts40 : Cond.selects "DialWardensModel" yX7_ofWarden yX7_ofWarden ∈ wsA := wA 40 (by decide +kernel) (by decide +kernel)
theorem ts41 : Cond.selects "DialWardensModel" yX7_placeOf yX7_placeOf ∈ wsA := wA 41 (by decide +kernel) (by decide +kernel)
theorem ts42 : Cond.selects "DialWardensModel" yX7_number yX7_number ∈ wsA := wA 42 (by decide +kernel) (by decide +kernel)
theorem ts43 : Cond.selects "DialWardensModel" yX7_quarrels yX7_quarrels ∈ wsA := wA 43 (by decide +kernel) (by decide +kernel)
theorem ts44 : Cond.selects "DialWardensModel" yX7_all yX7_all ∈ wsA := wA 44 (by decide +kernel) (by decide +kernel)
theorem ts45 : Cond.selects "DialWardensModel" yX7_wrongDials yX7_wrongDials ∈ wsA := wA 45 (by decide +kernel) (by decide +kernel)
theorem ts46 : Cond.selects "DialWardensModel" yX7_middleWith yX7_middleWith ∈ wsA := wA 46 (by decide +kernel) (by decide +kernel)
theorem ts47 : Cond.selects "DialWardensModel" yX7_matters yX7_matters ∈ wsA := wA 47 (by decide +kernel) (by decide +kernel)
theorem ts48 : Cond.selects "DialWardensModel" yX7_winning yX7_winning ∈ wsA := wA 48 (by decide +kernel) (by decide +kernel)
theorem ts49 : Cond.selects "DialWardensModel" yX7_quarrelsIn yX7_quarrelsIn ∈ wsA := wA 49 (by decide +kernel) (by decide +kernel)
theorem ts50 : Cond.selects "DialWardensModel" yX7_putAside yX7_putAside ∈ wsA := wA 50 (by decide +kernel) (by decide +kernel)
theorem ts51 : Cond.selects "DialWardensModel" yX7_putBack yX7_putBack ∈ wsA := wA 51 (by decide +kernel) (by decide +kernel)
theorem ts52 : Cond.selects "DialWardensModel" yX7_bellIn yX7_bellIn ∈ wsA := wA 52 (by decide +kernel) (by decide +kernel)
theorem ts53 : Cond.selects "DialWardensModel" yX7_share yX7_share ∈ wsA := wA 53 (by decide +kernel) (by decide +kernel)
theorem ts54 : Cond.selects "DialWardensModel" yX7_mean yX7_mean ∈ wsA := wA 54 (by decide +kernel) (by decide +kernel)
theorem tlX0_0 : u_lay RX0 TX0 0 ∈ wsA := wA 104 (by decide +kernel) (by decide +kernel)
theorem tlX0_1 : u_lay RX0 TX0 1 ∈ wsA := wA 106 (by decide +kernel) (by decide +kernel)
theorem tlX0_2 : u_lay RX0 TX0 2 ∈ wsA := wA 108 (by decide +kernel) (by decide +kernel)
theorem tlX0_3 : u_lay RX0 TX0 3 ∈ wsA := wA 110 (by decide +kernel) (by decide +kernel)
theorem tlX0_4 : u_lay RX0 TX0 4 ∈ wsA := wA 112 (by decide +kernel) (by decide +kernel)
theorem tlX0_5 : u_lay RX0 TX0 5 ∈ wsA := wA 114 (by decide +kernel) (by decide +kernel)
theorem tlX0_6 : u_lay RX0 TX0 6 ∈ wsA := wA 116 (by decide +kernel) (by decide +kernel)
theorem inA0 : ∀ w ∈ u_ws RX0 TX0 7, w ∈ wsA := by
  intro w hw
  obtain ⟨k, hk, rfl⟩ := List.mem_map.mp hw
  have hk := List.mem_range.mp hk
  match k, hk with
  | 0, _ => exact tlX0_0
  | 1, _ => exact tlX0_1
  | 2, _ => exact tlX0_2
  | 3, _ => exact tlX0_3
  | 4, _ => exact tlX0_4
  | 5, _ => exact tlX0_5
  | 6, _ => exact tlX0_6
  | k + 7, hk => exact absurd hk (by omega)
theorem tlX1_0 : u_lay RX1 TX1 0 ∈ wsA := wA 178 (by decide +kernel) (by decide +kernel)
theorem tlX1_1 : u_lay RX1 TX1 1 ∈ wsA := wA 180 (by decide +kernel) (by decide +kernel)
theorem inA1 : ∀ w ∈ u_ws RX1 TX1 2, w ∈ wsA := by
  intro w hw
  obtain ⟨k, hk, rfl⟩ := List.mem_map.mp hw
  have hk := List.mem_range.mp hk
  match k, hk with
  | 0, _ => exact tlX1_0
  | 1, _ => exact tlX1_1
  | k + 2, hk => exact absurd hk (by omega)
theorem tlX2_0 : u_lay RX2 TX2 0 ∈ wsA := wA 192 (by decide +kernel) (by decide +kernel)
theorem tlX2_1 : u_lay RX2 TX2 1 ∈ wsA := wA 194 (by decide +kernel) (by decide +kernel)
theorem inA2 : ∀ w ∈ u_ws RX2 TX2 2, w ∈ wsA := by
  intro w hw
  obtain ⟨k, hk, rfl⟩ := List.mem_map.mp hw
  have hk := List.mem_range.mp hk
  match k, hk with
  | 0, _ => exact tlX2_0
  | 1, _ => exact tlX2_1
  | k + 2, hk => exact absurd hk (by omega)
theorem tlX3_0 : u_lay RX3 TX3 0 ∈ wsA := wA 208 (by decide +kernel) (by decide +kernel)
theorem tlX3_1 : u_lay RX3 TX3 1 ∈ wsA := wA 210 (by decide +kernel) (by decide +kernel)
theorem tlX3_2 : u_lay RX3 TX3 2 ∈ wsA := wA 212 (by decide +kernel) (by decide +kernel)
theorem inA3 : ∀ w ∈ u_ws RX3 TX3 3, w ∈ wsA := by
  intro w hw
  obtain ⟨k, hk, rfl⟩ := List.mem_map.mp hw
  have hk := List.mem_range.mp hk
  match k, hk with
  | 0, _ => exact tlX3_0
  | 1, _ => exact tlX3_1
  | 2, _ => exact tlX3_2
  | k + 3, hk => exact absurd hk (by omega)
theorem tlX4_0 : u_lay RX4 TX4 0 ∈ wsA := wA 153 (by decide +kernel) (by decide +kernel)
theorem tlX4_1 : u_lay RX4 TX4 1 ∈ wsA := wA 155 (by decide +kernel) (by decide +kernel)
theorem tlX4_2 : u_lay RX4 TX4 2 ∈ wsA := wA 157 (by decide +kernel) (by decide +kernel)
theorem tlX4_3 : u_lay RX4 TX4 3 ∈ wsA := wA 159 (by decide +kernel) (by decide +kernel)
theorem tlX4_4 : u_lay RX4 TX4 4 ∈ wsA := wA 161 (by decide +kernel) (by decide +kernel)
theorem tlX4_5 : u_lay RX4 TX4 5 ∈ wsA := wA 163 (by decide +kernel) (by decide +kernel)
theorem inA4 : ∀ w ∈ u_ws RX4 TX4 6, w ∈ wsA := by
  intro w hw
  obtain ⟨k, hk, rfl⟩ := List.mem_map.mp hw
  have hk := List.mem_range.mp hk
  match k, hk with
  | 0, _ => exact tlX4_0
  | 1, _ => exact tlX4_1
  | 2, _ => exact tlX4_2
  | 3, _ => exact tlX4_3
  | 4, _ => exact tlX4_4
  | 5, _ => exact tlX4_5
  | k + 6, hk => exact absurd hk (by omega)
theorem tlX5_0 : u_lay RX5 TX5 0 ∈ wsA := wA 133 (by decide +kernel) (by decide +kernel)
theorem tlX5_1 : u_lay RX5 TX5 1 ∈ wsA := wA 135 (by decide +kernel) (by decide +kernel)
theorem tlX5_2 : u_lay RX5 TX5 2 ∈ wsA := wA 137 (by decide +kernel) (by decide +kernel)
theorem inA5 : ∀ w ∈ u_ws RX5 TX5 3, w ∈ wsA := by
  intro w hw
  obtain ⟨k, hk, rfl⟩ := List.mem_map.mp hw
  have hk := List.mem_range.mp hk
  match k, hk with
  | 0, _ => exact tlX5_0
  | 1, _ => exact tlX5_1
  | 2, _ => exact tlX5_2
  | k + 3, hk => exact absurd hk (by omega)
theorem tlX6_0 : u_lay RX6 TX6 0 ∈ wsA := wA 221 (by decide +kernel) (by decide +kernel)
theorem tlX6_1 : u_lay RX6 TX6 1 ∈ wsA := wA 223 (by decide +kernel) (by decide +kernel)
theorem tlX6_2 : u_lay RX6 TX6 2 ∈ wsA := wA 225 (by decide +kernel) (by decide +kernel)
theorem tlX6_3 : u_lay RX6 TX6 3 ∈ wsA := wA 227 (by decide +kernel) (by decide +kernel)
theorem tlX6_4 : u_lay RX6 TX6 4 ∈ wsA := wA 229 (by decide +kernel) (by decide +kernel)
theorem tlX6_5 : u_lay RX6 TX6 5 ∈ wsA := wA 231 (by decide +kernel) (by decide +kernel)
theorem inA6 : ∀ w ∈ u_ws RX6 TX6 6, w ∈ wsA := by
  intro w hw
  obtain ⟨k, hk, rfl⟩ := List.mem_map.mp hw
  have hk := List.mem_range.mp hk
  match k, hk with
  | 0, _ => exact tlX6_0
  | 1, _ => exact tlX6_1
  | 2, _ => exact tlX6_2
  | 3, _ => exact tlX6_3
  | 4, _ => exact tlX6_4
  | 5, _ => exact tlX6_5
  | k + 6, hk => exact absurd hk (by omega)
theorem tlX7_0 : u_lay RX7 TX7 0 ∈ wsA := wA 822 (by decide +kernel) (by decide +kernel)
theorem tlX7_1 : u_lay RX7 TX7 1 ∈ wsA := wA 824 (by decide +kernel) (by decide +kernel)
theorem tlX7_2 : u_lay RX7 TX7 2 ∈ wsA := wA 826 (by decide +kernel) (by decide +kernel)
theorem tlX7_3 : u_lay RX7 TX7 3 ∈ wsA := wA 828 (by decide +kernel) (by decide +kernel)
theorem tlX7_4 : u_lay RX7 TX7 4 ∈ wsA := wA 830 (by decide +kernel) (by decide +kernel)
theorem tlX7_5 : u_lay RX7 TX7 5 ∈ wsA := wA 832 (by decide +kernel) (by decide +kernel)
theorem tlX7_6 : u_lay RX7 TX7 6 ∈ wsA := wA 834 (by decide +kernel) (by decide +kernel)
theorem tlX7_7 : u_lay RX7 TX7 7 ∈ wsA := wA 836 (by decide +kernel) (by decide +kernel)
theorem tlX7_8 : u_lay RX7 TX7 8 ∈ wsA := wA 838 (by decide +kernel) (by decide +kernel)
theorem tlX7_9 : u_lay RX7 TX7 9 ∈ wsA := wA 840 (by decide +kernel) (by decide +kernel)
theorem tlX7_10 : u_lay RX7 TX7 10 ∈ wsA := wA 842 (by decide +kernel) (by decide +kernel)
theorem inA7 : ∀ w ∈ u_ws RX7 TX7 11, w ∈ wsA := by
  intro w hw
  obtain ⟨k, hk, rfl⟩ := List.mem_map.mp hw
  have hk := List.mem_range.mp hk
  match k, hk with
  | 0, _ => exact tlX7_0
  | 1, _ => exact tlX7_1
  | 2, _ => exact tlX7_2
  | 3, _ => exact tlX7_3
  | 4, _ => exact tlX7_4
  | 5, _ => exact tlX7_5
  | 6, _ => exact tlX7_6
  | 7, _ => exact tlX7_7
  | 8, _ => exact tlX7_8
  | 9, _ => exact tlX7_9
  | 10, _ => exact tlX7_10
  | k + 11, hk => exact absurd hk (by omega)
def nestW : List Cond := [Cond.methodLinkNest "DialWardens$State" 11 yX0_init "DialWardens", Cond.fieldLinkNest "DialWardens" 293 "DialWardens$Dials" "trueTime" "I" "DialWardens", Cond.fieldLinkNest "DialWardens$State" 50 "DialWardens$Dials" "minutes" "[I" "DialWardens", Cond.fieldLinkNest "DialWardens" 97 "DialWardens$Dials" "minutes" "[I" "DialWardens", Cond.fieldLinkNest "DialWardens" 106 "DialWardens$Dials" "drifts" "[I" "DialWardens", Cond.fieldLinkNest "DialWardens" 306 "DialWardens$Dials" "forward" "[I" "DialWardens", Cond.fieldLinkNest "DialWardens" 309 "DialWardens$Dials" "back" "[I" "DialWardens", Cond.fieldLinkNest "DialWardens" 275 "DialWardens$Dials" "bells" "[I" "DialWardens", Cond.fieldLinkNest "DialWardens$Poll" 31 "DialWardens$Wardens" "weights" "[I" "DialWardens", Cond.fieldLinkNest "DialWardens" 117 "DialWardens$Wardens" "weights" "[I" "DialWardens", Cond.fieldLinkNest "DialWardens" 120 "DialWardens$Wardens" "lies" "[I" "DialWardens", Cond.fieldLinkNest "DialWardens" 281 "DialWardens$Wardens" "losses" "[I" "DialWardens", Cond.fieldLinkNest "DialWardens" 55 "DialWardens$State" "dials" "LDialWardens$Dials;" "DialWardens", Cond.fieldLinkNest "DialWardens$Poll" 27 "DialWardens$State" "wardens" "LDialWardens$Wardens;" "DialWardens", Cond.fieldLinkNest "DialWardens" 65 "DialWardens$State" "wardens" "LDialWardens$Wardens;" "DialWardens", Cond.fieldLinkNest "DialWardens" 128 "DialWardens$State" "settings" "[I" "DialWardens", Cond.fieldLinkNest "DialWardens" 83 "DialWardens$State" "told" "I" "DialWardens", Cond.fieldLinkNest "DialWardens" 205 "DialWardens$State" "votes" "I" "DialWardens", Cond.fieldLinkNest "DialWardens" 208 "DialWardens$State" "held" "I" "DialWardens", Cond.fieldLinkNest "DialWardens" 165 "DialWardens$History" "size" "I" "DialWardens", Cond.methodLinkNest "DialWardens" 32 yX2_init "DialWardens", Cond.fieldLinkNest "DialWardens" 133 "DialWardens$Orders" "length" "I" "DialWardens", Cond.methodLinkNest "DialWardens" 39 yX3_init "DialWardens", Cond.fieldLinkNest "DialWardens" 329 "DialWardens$Poll" "words" "[I" "DialWardens", Cond.fieldLinkNest "DialWardens" 325 "DialWardens$Poll" "weights" "[I" "DialWardens", Cond.methodLinkNest "DialWardens$Dials" 34 yX6_copyRow "DialWardens", Cond.methodLinkNest "DialWardens$Wardens" 21 yX6_copyRow "DialWardens", Cond.methodLinkNest "DialWardens$State" 36 yX6_copyRow "DialWardens", Cond.methodLinkNest "DialWardens$State" 69 yX6_distance "DialWardens", Cond.methodLinkNest "DialWardens$Poll" 37 yX6_sum "DialWardens", Cond.methodLinkNest "DialWardens$Dials" 51 yX6_distance "DialWardens", Cond.methodLinkNest "DialWardens$Wardens" 25 yX6_sum "DialWardens", Cond.methodLinkNest "DialWardens$State" 57 yX6_dialBehind "DialWardens"]
theorem nestW_tbl : ∀ w ∈ nestW, w ∈ lw_tbl := by
  unfold nestW
  refine List.forall_mem_cons.mpr ⟨List.mem_of_getElem? (i := 86) (by decide +kernel), List.forall_mem_cons.mpr ⟨List.mem_of_getElem? (i := 91) (by decide +kernel), List.forall_mem_cons.mpr ⟨List.mem_of_getElem? (i := 93) (by decide +kernel), List.forall_mem_cons.mpr ⟨List.mem_of_getElem? (i := 94) (by decide +kernel), List.forall_mem_cons.mpr ⟨List.mem_of_getElem? (i := 96) (by decide +kernel), List.forall_mem_cons.mpr ⟨List.mem_of_getElem? (i := 99) (by decide +kernel), List.forall_mem_cons.mpr ⟨List.mem_of_getElem? (i := 101) (by decide +kernel), List.forall_mem_cons.mpr ⟨List.mem_of_getElem? (i := 103) (by decide +kernel), List.forall_mem_cons.mpr ⟨List.mem_of_getElem? (i := 127) (by decide +kernel), List.forall_mem_cons.mpr ⟨List.mem_of_getElem? (i := 128) (by decide +kernel), List.forall_mem_cons.mpr ⟨List.mem_of_getElem? (i := 130) (by decide +kernel), List.forall_mem_cons.mpr ⟨List.mem_of_getElem? (i := 132) (by decide +kernel), List.forall_mem_cons.mpr ⟨List.mem_of_getElem? (i := 141) (by decide +kernel), List.forall_mem_cons.mpr ⟨List.mem_of_getElem? (i := 143) (by decide +kernel), List.forall_mem_cons.mpr ⟨List.mem_of_getElem? (i := 144) (by decide +kernel), List.forall_mem_cons.mpr ⟨List.mem_of_getElem? (i := 146) (by decide +kernel), List.forall_mem_cons.mpr ⟨List.mem_of_getElem? (i := 148) (by decide +kernel), List.forall_mem_cons.mpr ⟨List.mem_of_getElem? (i := 150) (by decide +kernel), List.forall_mem_cons.mpr ⟨List.mem_of_getElem? (i := 152) (by decide +kernel), List.forall_mem_cons.mpr ⟨List.mem_of_getElem? (i := 177) (by decide +kernel), List.forall_mem_cons.mpr ⟨List.mem_of_getElem? (i := 185) (by decide +kernel), List.forall_mem_cons.mpr ⟨List.mem_of_getElem? (i := 191) (by decide +kernel), List.forall_mem_cons.mpr ⟨List.mem_of_getElem? (i := 199) (by decide +kernel), List.forall_mem_cons.mpr ⟨List.mem_of_getElem? (i := 204) (by decide +kernel), List.forall_mem_cons.mpr ⟨List.mem_of_getElem? (i := 206) (by decide +kernel), List.forall_mem_cons.mpr ⟨List.mem_of_getElem? (i := 254) (by decide +kernel), List.forall_mem_cons.mpr ⟨List.mem_of_getElem? (i := 261) (by decide +kernel), List.forall_mem_cons.mpr ⟨List.mem_of_getElem? (i := 262) (by decide +kernel), List.forall_mem_cons.mpr ⟨List.mem_of_getElem? (i := 271) (by decide +kernel), List.forall_mem_cons.mpr ⟨List.mem_of_getElem? (i := 352) (by decide +kernel), List.forall_mem_cons.mpr ⟨List.mem_of_getElem? (i := 372) (by decide +kernel), List.forall_mem_cons.mpr ⟨List.mem_of_getElem? (i := 475) (by decide +kernel), List.forall_mem_cons.mpr ⟨List.mem_of_getElem? (i := 485) (by decide +kernel), fun _ h => absurd h List.not_mem_nil⟩⟩⟩⟩⟩⟩⟩⟩⟩⟩⟩⟩⟩⟩⟩⟩⟩⟩⟩⟩⟩⟩⟩⟩⟩⟩⟩⟩⟩⟩⟩⟩⟩
theorem nestW_keep : ∀ w ∈ nestW, (∃ a i b n d h, w = Cond.fieldLinkNest a i b n d h) ∨ (∃ a i x h, w = Cond.methodLinkNest a i x h) := by
  unfold nestW
  refine List.forall_mem_cons.mpr ⟨Or.inr ⟨_, _, _, _, rfl⟩, List.forall_mem_cons.mpr ⟨Or.inl ⟨_, _, _, _, _, _, rfl⟩, List.forall_mem_cons.mpr ⟨Or.inl ⟨_, _, _, _, _, _, rfl⟩, List.forall_mem_cons.mpr ⟨Or.inl ⟨_, _, _, _, _, _, rfl⟩, List.forall_mem_cons.mpr ⟨Or.inl ⟨_, _, _, _, _, _, rfl⟩, List.forall_mem_cons.mpr ⟨Or.inl ⟨_, _, _, _, _, _, rfl⟩, List.forall_mem_cons.mpr ⟨Or.inl ⟨_, _, _, _, _, _, rfl⟩, List.forall_mem_cons.mpr ⟨Or.inl ⟨_, _, _, _, _, _, rfl⟩, List.forall_mem_cons.mpr ⟨Or.inl ⟨_, _, _, _, _, _, rfl⟩, List.forall_mem_cons.mpr ⟨Or.inl ⟨_, _, _, _, _, _, rfl⟩, List.forall_mem_cons.mpr ⟨Or.inl ⟨_, _, _, _, _, _, rfl⟩, List.forall_mem_cons.mpr ⟨Or.inl ⟨_, _, _, _, _, _, rfl⟩, List.forall_mem_cons.mpr ⟨Or.inl ⟨_, _, _, _, _, _, rfl⟩, List.forall_mem_cons.mpr ⟨Or.inl ⟨_, _, _, _, _, _, rfl⟩, List.forall_mem_cons.mpr ⟨Or.inl ⟨_, _, _, _, _, _, rfl⟩, List.forall_mem_cons.mpr ⟨Or.inl ⟨_, _, _, _, _, _, rfl⟩, List.forall_mem_cons.mpr ⟨Or.inl ⟨_, _, _, _, _, _, rfl⟩, List.forall_mem_cons.mpr ⟨Or.inl ⟨_, _, _, _, _, _, rfl⟩, List.forall_mem_cons.mpr ⟨Or.inl ⟨_, _, _, _, _, _, rfl⟩, List.forall_mem_cons.mpr ⟨Or.inl ⟨_, _, _, _, _, _, rfl⟩, List.forall_mem_cons.mpr ⟨Or.inr ⟨_, _, _, _, rfl⟩, List.forall_mem_cons.mpr ⟨Or.inl ⟨_, _, _, _, _, _, rfl⟩, List.forall_mem_cons.mpr ⟨Or.inr ⟨_, _, _, _, rfl⟩, List.forall_mem_cons.mpr ⟨Or.inl ⟨_, _, _, _, _, _, rfl⟩, List.forall_mem_cons.mpr ⟨Or.inl ⟨_, _, _, _, _, _, rfl⟩, List.forall_mem_cons.mpr ⟨Or.inr ⟨_, _, _, _, rfl⟩, List.forall_mem_cons.mpr ⟨Or.inr ⟨_, _, _, _, rfl⟩, List.forall_mem_cons.mpr ⟨Or.inr ⟨_, _, _, _, rfl⟩, List.forall_mem_cons.mpr ⟨Or.inr ⟨_, _, _, _, rfl⟩, List.forall_mem_cons.mpr ⟨Or.inr ⟨_, _, _, _, rfl⟩, List.forall_mem_cons.mpr ⟨Or.inr ⟨_, _, _, _, rfl⟩, List.forall_mem_cons.mpr ⟨Or.inr ⟨_, _, _, _, rfl⟩, List.forall_mem_cons.mpr ⟨Or.inr ⟨_, _, _, _, rfl⟩, fun _ h => absurd h List.not_mem_nil⟩⟩⟩⟩⟩⟩⟩⟩⟩⟩⟩⟩⟩⟩⟩⟩⟩⟩⟩⟩⟩⟩⟩⟩⟩⟩⟩⟩⟩⟩⟩⟩⟩
theorem tn31 : Cond.methodLinkNest "DialWardens$State" 11 yX0_init "DialWardens" ∈ nestW := List.mem_of_getElem? (i := 0) rfl
theorem tn36 : Cond.fieldLinkNest "DialWardens" 293 "DialWardens$Dials" "trueTime" "I" "DialWardens" ∈ nestW := List.mem_of_getElem? (i := 1) rfl
theorem tn38 : Cond.fieldLinkNest "DialWardens$State" 50 "DialWardens$Dials" "minutes" "[I" "DialWardens" ∈ nestW := List.mem_of_getElem? (i := 2) rfl
theorem tn39 : Cond.fieldLinkNest "DialWardens" 97 "DialWardens$Dials" "minutes" "[I" "DialWardens" ∈ nestW := List.mem_of_getElem? (i := 3) rfl
theorem tn41 : Cond.fieldLinkNest "DialWardens" 106 "DialWardens$Dials" "drifts" "[I" "DialWardens" ∈ nestW := List.mem_of_getElem? (i := 4) rfl
theorem tn44 : Cond.fieldLinkNest "DialWardens" 306 "DialWardens$Dials" "forward" "[I" "DialWardens" ∈ nestW := List.mem_of_getElem? (i := 5) rfl
theorem tn46 : Cond.fieldLinkNest "DialWardens" 309 "DialWardens$Dials" "back" "[I" "DialWardens" ∈ nestW := List.mem_of_getElem? (i := 6) rfl
theorem tn48 : Cond.fieldLinkNest "DialWardens" 275 "DialWardens$Dials" "bells" "[I" "DialWardens" ∈ nestW := List.mem_of_getElem? (i := 7) rfl
theorem tn72 : Cond.fieldLinkNest "DialWardens$Poll" 31 "DialWardens$Wardens" "weights" "[I" "DialWardens" ∈ nestW := List.mem_of_getElem? (i := 8) rfl
theorem tn73 : Cond.fieldLinkNest "DialWardens" 117 "DialWardens$Wardens" "weights" "[I" "DialWardens" ∈ nestW := List.mem_of_getElem? (i := 9) rfl
theorem tn75 : Cond.fieldLinkNest "DialWardens" 120 "DialWardens$Wardens" "lies" "[I" "DialWardens" ∈ nestW := List.mem_of_getElem? (i := 10) rfl
theorem tn77 : Cond.fieldLinkNest "DialWardens" 281 "DialWardens$Wardens" "losses" "[I" "DialWardens" ∈ nestW := List.mem_of_getElem? (i := 11) rfl
theorem tn86 : Cond.fieldLinkNest "DialWardens" 55 "DialWardens$State" "dials" "LDialWardens$Dials;" "DialWardens" ∈ nestW := List.mem_of_getElem? (i := 12) rfl
theorem tn88 : Cond.fieldLinkNest "DialWardens$Poll" 27 "DialWardens$State" "wardens" "LDialWardens$Wardens;" "DialWardens" ∈ nestW := List.mem_of_getElem? (i := 13) rfl
theorem tn89 : Cond.fieldLinkNest "DialWardens" 65 "DialWardens$State" "wardens" "LDialWardens$Wardens;" "DialWardens" ∈ nestW := List.mem_of_getElem? (i := 14) rfl
theorem tn91 : Cond.fieldLinkNest "DialWardens" 128 "DialWardens$State" "settings" "[I" "DialWardens" ∈ nestW := List.mem_of_getElem? (i := 15) rfl
theorem tn93 : Cond.fieldLinkNest "DialWardens" 83 "DialWardens$State" "told" "I" "DialWardens" ∈ nestW := List.mem_of_getElem? (i := 16) rfl
theorem tn95 : Cond.fieldLinkNest "DialWardens" 205 "DialWardens$State" "votes" "I" "DialWardens" ∈ nestW := List.mem_of_getElem? (i := 17) rfl
theorem tn97 : Cond.fieldLinkNest "DialWardens" 208 "DialWardens$State" "held" "I" "DialWardens" ∈ nestW := List.mem_of_getElem? (i := 18) rfl
theorem tn122 : Cond.fieldLinkNest "DialWardens" 165 "DialWardens$History" "size" "I" "DialWardens" ∈ nestW := List.mem_of_getElem? (i := 19) rfl
theorem tn130 : Cond.methodLinkNest "DialWardens" 32 yX2_init "DialWardens" ∈ nestW := List.mem_of_getElem? (i := 20) rfl
theorem tn136 : Cond.fieldLinkNest "DialWardens" 133 "DialWardens$Orders" "length" "I" "DialWardens" ∈ nestW := List.mem_of_getElem? (i := 21) rfl
theorem tn144 : Cond.methodLinkNest "DialWardens" 39 yX3_init "DialWardens" ∈ nestW := List.mem_of_getElem? (i := 22) rfl
theorem tn149 : Cond.fieldLinkNest "DialWardens" 329 "DialWardens$Poll" "words" "[I" "DialWardens" ∈ nestW := List.mem_of_getElem? (i := 23) rfl
theorem tn151 : Cond.fieldLinkNest "DialWardens" 325 "DialWardens$Poll" "weights" "[I" "DialWardens" ∈ nestW := List.mem_of_getElem? (i := 24) rfl
theorem tn199 : Cond.methodLinkNest "DialWardens$Dials" 34 yX6_copyRow "DialWardens" ∈ nestW := List.mem_of_getElem? (i := 25) rfl
theorem tn206 : Cond.methodLinkNest "DialWardens$Wardens" 21 yX6_copyRow "DialWardens" ∈ nestW := List.mem_of_getElem? (i := 26) rfl
theorem tn207 : Cond.methodLinkNest "DialWardens$State" 36 yX6_copyRow "DialWardens" ∈ nestW := List.mem_of_getElem? (i := 27) rfl
theorem tn216 : Cond.methodLinkNest "DialWardens$State" 69 yX6_distance "DialWardens" ∈ nestW := List.mem_of_getElem? (i := 28) rfl
theorem tn297 : Cond.methodLinkNest "DialWardens$Poll" 37 yX6_sum "DialWardens" ∈ nestW := List.mem_of_getElem? (i := 29) rfl
theorem tn317 : Cond.methodLinkNest "DialWardens$Dials" 51 yX6_distance "DialWardens" ∈ nestW := List.mem_of_getElem? (i := 30) rfl
theorem tn420 : Cond.methodLinkNest "DialWardens$Wardens" 25 yX6_sum "DialWardens" ∈ nestW := List.mem_of_getElem? (i := 31) rfl
theorem tn430 : Cond.methodLinkNest "DialWardens$State" 57 yX6_dialBehind "DialWardens" ∈ nestW := List.mem_of_getElem? (i := 32) rfl
end
section
theorem dX0_init_0 : decode cX0_init 0 = .ok (.aload_n 0, 1) := by decide +kernel
theorem dX0_init_1 : decode cX0_init 1 = .ok (.invokespecial 3, 3) := by decide +kernel
theorem dX0_init_4 : decode cX0_init 4 = .ok (.aload_n 0, 1) := by decide +kernel
theorem dX0_init_5 : decode cX0_init 5 = .ok (.bipush 7, 2) := by decide +kernel
theorem dX0_init_7 : decode cX0_init 7 = .ok (.newarray .int, 2) := by decide +kernel
theorem dX0_init_9 : decode cX0_init 9 = .ok (.putfield 9, 3) := by decide +kernel
theorem dX0_init_12 : decode cX0_init 12 = .ok (.aload_n 0, 1) := by decide +kernel
theorem dX0_init_13 : decode cX0_init 13 = .ok (.bipush 7, 2) := by decide +kernel
theorem dX0_init_15 : decode cX0_init 15 = .ok (.newarray .int, 2) := by decide +kernel
theorem dX0_init_17 : decode cX0_init 17 = .ok (.putfield 15, 3) := by decide +kernel
theorem dX0_init_20 : decode cX0_init 20 = .ok (.aload_n 0, 1) := by decide +kernel
theorem dX0_init_21 : decode cX0_init 21 = .ok (.bipush 7, 2) := by decide +kernel
theorem dX0_init_23 : decode cX0_init 23 = .ok (.newarray .int, 2) := by decide +kernel
theorem dX0_init_25 : decode cX0_init 25 = .ok (.putfield 18, 3) := by decide +kernel
theorem dX0_init_28 : decode cX0_init 28 = .ok (.aload_n 0, 1) := by decide +kernel
theorem dX0_init_29 : decode cX0_init 29 = .ok (.bipush 7, 2) := by decide +kernel
theorem dX0_init_31 : decode cX0_init 31 = .ok (.newarray .int, 2) := by decide +kernel
theorem dX0_init_33 : decode cX0_init 33 = .ok (.putfield 21, 3) := by decide +kernel
theorem dX0_init_36 : decode cX0_init 36 = .ok (.aload_n 0, 1) := by decide +kernel
theorem dX0_init_37 : decode cX0_init 37 = .ok (.bipush 7, 2) := by decide +kernel
theorem dX0_init_39 : decode cX0_init 39 = .ok (.newarray .int, 2) := by decide +kernel
theorem dX0_init_41 : decode cX0_init 41 = .ok (.putfield 24, 3) := by decide +kernel
theorem dX0_init_44 : decode cX0_init 44 = .ok (.aload_n 0, 1) := by decide +kernel
theorem dX0_init_45 : decode cX0_init 45 = .ok (.bipush 7, 2) := by decide +kernel
theorem dX0_init_47 : decode cX0_init 47 = .ok (.newarray .int, 2) := by decide +kernel
theorem dX0_init_49 : decode cX0_init 49 = .ok (.putfield 27, 3) := by decide +kernel
theorem dX0_init_52 : decode cX0_init 52 = .ok (.return_, 1) := by decide +kernel
theorem dX0_copyFrom_0 : decode cX0_copyFrom 0 = .ok (.aload_n 0, 1) := by decide +kernel
theorem dX0_copyFrom_1 : decode cX0_copyFrom 1 = .ok (.aload_n 1, 1) := by decide +kernel
theorem dX0_copyFrom_2 : decode cX0_copyFrom 2 = .ok (.getfield 30, 3) := by decide +kernel
theorem dX0_copyFrom_5 : decode cX0_copyFrom 5 = .ok (.putfield 30, 3) := by decide +kernel
theorem dX0_copyFrom_8 : decode cX0_copyFrom 8 = .ok (.aload_n 1, 1) := by decide +kernel
theorem dX0_copyFrom_9 : decode cX0_copyFrom 9 = .ok (.getfield 9, 3) := by decide +kernel
theorem dX0_copyFrom_12 : decode cX0_copyFrom 12 = .ok (.aload_n 0, 1) := by decide +kernel
theorem dX0_copyFrom_13 : decode cX0_copyFrom 13 = .ok (.getfield 9, 3) := by decide +kernel
theorem dX0_copyFrom_16 : decode cX0_copyFrom 16 = .ok (.invokestatic 34, 3) := by decide +kernel
theorem dX0_copyFrom_19 : decode cX0_copyFrom 19 = .ok (.aload_n 1, 1) := by decide +kernel
theorem dX0_copyFrom_20 : decode cX0_copyFrom 20 = .ok (.getfield 15, 3) := by decide +kernel
theorem dX0_copyFrom_23 : decode cX0_copyFrom 23 = .ok (.aload_n 0, 1) := by decide +kernel
theorem dX0_copyFrom_24 : decode cX0_copyFrom 24 = .ok (.getfield 15, 3) := by decide +kernel
theorem dX0_copyFrom_27 : decode cX0_copyFrom 27 = .ok (.invokestatic 34, 3) := by decide +kernel
theorem dX0_copyFrom_30 : decode cX0_copyFrom 30 = .ok (.aload_n 1, 1) := by decide +kernel
theorem dX0_copyFrom_31 : decode cX0_copyFrom 31 = .ok (.getfield 18, 3) := by decide +kernel
theorem dX0_copyFrom_34 : decode cX0_copyFrom 34 = .ok (.aload_n 0, 1) := by decide +kernel
theorem dX0_copyFrom_35 : decode cX0_copyFrom 35 = .ok (.getfield 18, 3) := by decide +kernel
theorem dX0_copyFrom_38 : decode cX0_copyFrom 38 = .ok (.invokestatic 34, 3) := by decide +kernel
theorem dX0_copyFrom_41 : decode cX0_copyFrom 41 = .ok (.aload_n 1, 1) := by decide +kernel
theorem dX0_copyFrom_42 : decode cX0_copyFrom 42 = .ok (.getfield 21, 3) := by decide +kernel
theorem dX0_copyFrom_45 : decode cX0_copyFrom 45 = .ok (.aload_n 0, 1) := by decide +kernel
theorem dX0_copyFrom_46 : decode cX0_copyFrom 46 = .ok (.getfield 21, 3) := by decide +kernel
theorem dX0_copyFrom_49 : decode cX0_copyFrom 49 = .ok (.invokestatic 34, 3) := by decide +kernel
theorem dX0_copyFrom_52 : decode cX0_copyFrom 52 = .ok (.aload_n 1, 1) := by decide +kernel
theorem dX0_copyFrom_53 : decode cX0_copyFrom 53 = .ok (.getfield 24, 3) := by decide +kernel
theorem dX0_copyFrom_56 : decode cX0_copyFrom 56 = .ok (.aload_n 0, 1) := by decide +kernel
theorem dX0_copyFrom_57 : decode cX0_copyFrom 57 = .ok (.getfield 24, 3) := by decide +kernel
theorem dX0_copyFrom_60 : decode cX0_copyFrom 60 = .ok (.invokestatic 34, 3) := by decide +kernel
theorem dX0_copyFrom_63 : decode cX0_copyFrom 63 = .ok (.aload_n 1, 1) := by decide +kernel
theorem dX0_copyFrom_64 : decode cX0_copyFrom 64 = .ok (.getfield 27, 3) := by decide +kernel
theorem dX0_copyFrom_67 : decode cX0_copyFrom 67 = .ok (.aload_n 0, 1) := by decide +kernel
theorem dX0_copyFrom_68 : decode cX0_copyFrom 68 = .ok (.getfield 27, 3) := by decide +kernel
theorem dX0_copyFrom_71 : decode cX0_copyFrom 71 = .ok (.invokestatic 34, 3) := by decide +kernel
theorem dX0_copyFrom_74 : decode cX0_copyFrom 74 = .ok (.return_, 1) := by decide +kernel
theorem dX0_passTicks_0 : decode cX0_passTicks 0 = .ok (.iconst 0, 1) := by decide +kernel
theorem dX0_passTicks_1 : decode cX0_passTicks 1 = .ok (.istore_n 2, 1) := by decide +kernel
theorem dX0_passTicks_2 : decode cX0_passTicks 2 = .ok (.iconst 0, 1) := by decide +kernel
theorem dX0_passTicks_3 : decode cX0_passTicks 3 = .ok (.istore_n 3, 1) := by decide +kernel
theorem dX0_passTicks_4 : decode cX0_passTicks 4 = .ok (.iload_n 3, 1) := by decide +kernel
theorem dX0_passTicks_5 : decode cX0_passTicks 5 = .ok (.iload_n 1, 1) := by decide +kernel
theorem dX0_passTicks_6 : decode cX0_passTicks 6 = .ok (.if_icmp .ge 45, 3) := by decide +kernel
theorem dX0_passTicks_9 : decode cX0_passTicks 9 = .ok (.aload_n 0, 1) := by decide +kernel
theorem dX0_passTicks_10 : decode cX0_passTicks 10 = .ok (.dup, 1) := by decide +kernel
theorem dX0_passTicks_11 : decode cX0_passTicks 11 = .ok (.getfield 30, 3) := by decide +kernel
theorem dX0_passTicks_14 : decode cX0_passTicks 14 = .ok (.bipush 10, 2) := by decide +kernel
theorem dX0_passTicks_16 : decode cX0_passTicks 16 = .ok (.iadd, 1) := by decide +kernel
theorem dX0_passTicks_17 : decode cX0_passTicks 17 = .ok (.putfield 30, 3) := by decide +kernel
theorem dX0_passTicks_20 : decode cX0_passTicks 20 = .ok (.iconst 0, 1) := by decide +kernel
theorem dX0_passTicks_21 : decode cX0_passTicks 21 = .ok (.istore 4, 2) := by decide +kernel
theorem dX0_passTicks_23 : decode cX0_passTicks 23 = .ok (.iload 4, 2) := by decide +kernel
theorem dX0_passTicks_25 : decode cX0_passTicks 25 = .ok (.bipush 7, 2) := by decide +kernel
theorem dX0_passTicks_27 : decode cX0_passTicks 27 = .ok (.if_icmp .ge 18, 3) := by decide +kernel
theorem dX0_passTicks_30 : decode cX0_passTicks 30 = .ok (.iload_n 2, 1) := by decide +kernel
theorem dX0_passTicks_31 : decode cX0_passTicks 31 = .ok (.aload_n 0, 1) := by decide +kernel
theorem dX0_passTicks_32 : decode cX0_passTicks 32 = .ok (.iload 4, 2) := by decide +kernel
theorem dX0_passTicks_34 : decode cX0_passTicks 34 = .ok (.invokevirtual 38, 3) := by decide +kernel
theorem dX0_passTicks_37 : decode cX0_passTicks 37 = .ok (.iadd, 1) := by decide +kernel
theorem dX0_passTicks_38 : decode cX0_passTicks 38 = .ok (.istore_n 2, 1) := by decide +kernel
theorem dX0_passTicks_39 : decode cX0_passTicks 39 = .ok (.iinc 4 1, 3) := by decide +kernel
theorem dX0_passTicks_42 : decode cX0_passTicks 42 = .ok (.goto (-19), 3) := by decide +kernel
theorem dX0_passTicks_45 : decode cX0_passTicks 45 = .ok (.iinc 3 1, 3) := by decide +kernel
theorem dX0_passTicks_48 : decode cX0_passTicks 48 = .ok (.goto (-44), 3) := by decide +kernel
theorem dX0_passTicks_51 : decode cX0_passTicks 51 = .ok (.iload_n 2, 1) := by decide +kernel
theorem dX0_passTicks_52 : decode cX0_passTicks 52 = .ok (.ireturn, 1) := by decide +kernel
theorem dX0_passTick_0 : decode cX0_passTick 0 = .ok (.aload_n 0, 1) := by decide +kernel
theorem dX0_passTick_1 : decode cX0_passTick 1 = .ok (.getfield 9, 3) := by decide +kernel
theorem dX0_passTick_4 : decode cX0_passTick 4 = .ok (.iload_n 1, 1) := by decide +kernel
theorem dX0_passTick_5 : decode cX0_passTick 5 = .ok (.iaload, 1) := by decide +kernel
theorem dX0_passTick_6 : decode cX0_passTick 6 = .ok (.istore_n 2, 1) := by decide +kernel
theorem dX0_passTick_7 : decode cX0_passTick 7 = .ok (.aload_n 0, 1) := by decide +kernel
theorem dX0_passTick_8 : decode cX0_passTick 8 = .ok (.iload_n 1, 1) := by decide +kernel
theorem dX0_passTick_9 : decode cX0_passTick 9 = .ok (.iload_n 2, 1) := by decide +kernel
theorem dX0_passTick_10 : decode cX0_passTick 10 = .ok (.invokevirtual 42, 3) := by decide +kernel
theorem dX0_passTick_13 : decode cX0_passTick 13 = .ok (.istore_n 3, 1) := by decide +kernel
theorem dX0_passTick_14 : decode cX0_passTick 14 = .ok (.aload_n 0, 1) := by decide +kernel
theorem dX0_passTick_15 : decode cX0_passTick 15 = .ok (.getfield 9, 3) := by decide +kernel
theorem dX0_passTick_18 : decode cX0_passTick 18 = .ok (.iload_n 1, 1) := by decide +kernel
theorem dX0_passTick_19 : decode cX0_passTick 19 = .ok (.iload_n 3, 1) := by decide +kernel
theorem dX0_passTick_20 : decode cX0_passTick 20 = .ok (.iastore, 1) := by decide +kernel
theorem dX0_passTick_21 : decode cX0_passTick 21 = .ok (.aload_n 0, 1) := by decide +kernel
theorem dX0_passTick_22 : decode cX0_passTick 22 = .ok (.getfield 18, 3) := by decide +kernel
theorem dX0_passTick_25 : decode cX0_passTick 25 = .ok (.iload_n 1, 1) := by decide +kernel
theorem dX0_passTick_26 : decode cX0_passTick 26 = .ok (.dup2, 1) := by decide +kernel
theorem dX0_passTick_27 : decode cX0_passTick 27 = .ok (.iaload, 1) := by decide +kernel
theorem dX0_passTick_28 : decode cX0_passTick 28 = .ok (.iload_n 3, 1) := by decide +kernel
theorem dX0_passTick_29 : decode cX0_passTick 29 = .ok (.iload_n 2, 1) := by decide +kernel
theorem dX0_passTick_30 : decode cX0_passTick 30 = .ok (.isub, 1) := by decide +kernel
theorem dX0_passTick_31 : decode cX0_passTick 31 = .ok (.iadd, 1) := by decide +kernel
theorem dX0_passTick_32 : decode cX0_passTick 32 = .ok (.iastore, 1) := by decide +kernel
theorem dX0_passTick_33 : decode cX0_passTick 33 = .ok (.aload_n 0, 1) := by decide +kernel
theorem dX0_passTick_34 : decode cX0_passTick 34 = .ok (.iload_n 1, 1) := by decide +kernel
theorem dX0_passTick_35 : decode cX0_passTick 35 = .ok (.iload_n 2, 1) := by decide +kernel
theorem dX0_passTick_36 : decode cX0_passTick 36 = .ok (.iload_n 3, 1) := by decide +kernel
theorem dX0_passTick_37 : decode cX0_passTick 37 = .ok (.invokevirtual 46, 3) := by decide +kernel
theorem dX0_passTick_40 : decode cX0_passTick 40 = .ok (.ireturn, 1) := by decide +kernel
theorem dX0_afterTick_0 : decode cX0_afterTick 0 = .ok (.iload_n 2, 1) := by decide +kernel
theorem dX0_afterTick_1 : decode cX0_afterTick 1 = .ok (.bipush 10, 2) := by decide +kernel
theorem dX0_afterTick_3 : decode cX0_afterTick 3 = .ok (.iadd, 1) := by decide +kernel
theorem dX0_afterTick_4 : decode cX0_afterTick 4 = .ok (.aload_n 0, 1) := by decide +kernel
theorem dX0_afterTick_5 : decode cX0_afterTick 5 = .ok (.getfield 15, 3) := by decide +kernel
theorem dX0_afterTick_8 : decode cX0_afterTick 8 = .ok (.iload_n 1, 1) := by decide +kernel
theorem dX0_afterTick_9 : decode cX0_afterTick 9 = .ok (.iaload, 1) := by decide +kernel
theorem dX0_afterTick_10 : decode cX0_afterTick 10 = .ok (.iadd, 1) := by decide +kernel
theorem dX0_afterTick_11 : decode cX0_afterTick 11 = .ok (.istore_n 3, 1) := by decide +kernel
theorem dX0_afterTick_12 : decode cX0_afterTick 12 = .ok (.iload_n 3, 1) := by decide +kernel
theorem dX0_afterTick_13 : decode cX0_afterTick 13 = .ok (.ldc 50, 2) := by decide +kernel
theorem dX0_afterTick_15 : decode cX0_afterTick 15 = .ok (.if_icmp .le 8, 3) := by decide +kernel
theorem dX0_afterTick_18 : decode cX0_afterTick 18 = .ok (.ldc 50, 2) := by decide +kernel
theorem dX0_afterTick_20 : decode cX0_afterTick 20 = .ok (.goto 4, 3) := by decide +kernel
theorem dX0_afterTick_23 : decode cX0_afterTick 23 = .ok (.iload_n 3, 1) := by decide +kernel
theorem dX0_afterTick_24 : decode cX0_afterTick 24 = .ok (.ireturn, 1) := by decide +kernel
theorem dX0_ring_0 : decode cX0_ring 0 = .ok (.iload_n 3, 1) := by decide +kernel
theorem dX0_ring_1 : decode cX0_ring 1 = .ok (.bipush 60, 2) := by decide +kernel
theorem dX0_ring_3 : decode cX0_ring 3 = .ok (.idiv, 1) := by decide +kernel
theorem dX0_ring_4 : decode cX0_ring 4 = .ok (.iload_n 2, 1) := by decide +kernel
theorem dX0_ring_5 : decode cX0_ring 5 = .ok (.bipush 60, 2) := by decide +kernel
theorem dX0_ring_7 : decode cX0_ring 7 = .ok (.idiv, 1) := by decide +kernel
theorem dX0_ring_8 : decode cX0_ring 8 = .ok (.isub, 1) := by decide +kernel
theorem dX0_ring_9 : decode cX0_ring 9 = .ok (.istore 4, 2) := by decide +kernel
theorem dX0_ring_11 : decode cX0_ring 11 = .ok (.aload_n 0, 1) := by decide +kernel
theorem dX0_ring_12 : decode cX0_ring 12 = .ok (.getfield 27, 3) := by decide +kernel
theorem dX0_ring_15 : decode cX0_ring 15 = .ok (.iload_n 1, 1) := by decide +kernel
theorem dX0_ring_16 : decode cX0_ring 16 = .ok (.dup2, 1) := by decide +kernel
theorem dX0_ring_17 : decode cX0_ring 17 = .ok (.iaload, 1) := by decide +kernel
theorem dX0_ring_18 : decode cX0_ring 18 = .ok (.iload 4, 2) := by decide +kernel
theorem dX0_ring_20 : decode cX0_ring 20 = .ok (.iadd, 1) := by decide +kernel
theorem dX0_ring_21 : decode cX0_ring 21 = .ok (.iastore, 1) := by decide +kernel
theorem dX0_ring_22 : decode cX0_ring 22 = .ok (.iload 4, 2) := by decide +kernel
theorem dX0_ring_24 : decode cX0_ring 24 = .ok (.ireturn, 1) := by decide +kernel
theorem dX0_moveTo_0 : decode cX0_moveTo 0 = .ok (.aload_n 0, 1) := by decide +kernel
theorem dX0_moveTo_1 : decode cX0_moveTo 1 = .ok (.getfield 9, 3) := by decide +kernel
theorem dX0_moveTo_4 : decode cX0_moveTo 4 = .ok (.iload_n 1, 1) := by decide +kernel
theorem dX0_moveTo_5 : decode cX0_moveTo 5 = .ok (.iaload, 1) := by decide +kernel
theorem dX0_moveTo_6 : decode cX0_moveTo 6 = .ok (.istore_n 3, 1) := by decide +kernel
theorem dX0_moveTo_7 : decode cX0_moveTo 7 = .ok (.aload_n 0, 1) := by decide +kernel
theorem dX0_moveTo_8 : decode cX0_moveTo 8 = .ok (.getfield 9, 3) := by decide +kernel
theorem dX0_moveTo_11 : decode cX0_moveTo 11 = .ok (.iload_n 1, 1) := by decide +kernel
theorem dX0_moveTo_12 : decode cX0_moveTo 12 = .ok (.iload_n 2, 1) := by decide +kernel
theorem dX0_moveTo_13 : decode cX0_moveTo 13 = .ok (.iastore, 1) := by decide +kernel
theorem dX0_moveTo_14 : decode cX0_moveTo 14 = .ok (.iload_n 2, 1) := by decide +kernel
theorem dX0_moveTo_15 : decode cX0_moveTo 15 = .ok (.iload_n 3, 1) := by decide +kernel
theorem dX0_moveTo_16 : decode cX0_moveTo 16 = .ok (.if_icmp .ge 19, 3) := by decide +kernel
theorem dX0_moveTo_19 : decode cX0_moveTo 19 = .ok (.aload_n 0, 1) := by decide +kernel
theorem dX0_moveTo_20 : decode cX0_moveTo 20 = .ok (.getfield 24, 3) := by decide +kernel
theorem dX0_moveTo_23 : decode cX0_moveTo 23 = .ok (.iload_n 1, 1) := by decide +kernel
theorem dX0_moveTo_24 : decode cX0_moveTo 24 = .ok (.dup2, 1) := by decide +kernel
theorem dX0_moveTo_25 : decode cX0_moveTo 25 = .ok (.iaload, 1) := by decide +kernel
theorem dX0_moveTo_26 : decode cX0_moveTo 26 = .ok (.iload_n 3, 1) := by decide +kernel
theorem dX0_moveTo_27 : decode cX0_moveTo 27 = .ok (.iload_n 2, 1) := by decide +kernel
theorem dX0_moveTo_28 : decode cX0_moveTo 28 = .ok (.isub, 1) := by decide +kernel
theorem dX0_moveTo_29 : decode cX0_moveTo 29 = .ok (.iadd, 1) := by decide +kernel
theorem dX0_moveTo_30 : decode cX0_moveTo 30 = .ok (.iastore, 1) := by decide +kernel
theorem dX0_moveTo_31 : decode cX0_moveTo 31 = .ok (.iload_n 3, 1) := by decide +kernel
theorem dX0_moveTo_32 : decode cX0_moveTo 32 = .ok (.iload_n 2, 1) := by decide +kernel
theorem dX0_moveTo_33 : decode cX0_moveTo 33 = .ok (.isub, 1) := by decide +kernel
theorem dX0_moveTo_34 : decode cX0_moveTo 34 = .ok (.ireturn, 1) := by decide +kernel
theorem dX0_moveTo_35 : decode cX0_moveTo 35 = .ok (.aload_n 0, 1) := by decide +kernel
theorem dX0_moveTo_36 : decode cX0_moveTo 36 = .ok (.getfield 21, 3) := by decide +kernel
theorem dX0_moveTo_39 : decode cX0_moveTo 39 = .ok (.iload_n 1, 1) := by decide +kernel
theorem dX0_moveTo_40 : decode cX0_moveTo 40 = .ok (.dup2, 1) := by decide +kernel
theorem dX0_moveTo_41 : decode cX0_moveTo 41 = .ok (.iaload, 1) := by decide +kernel
theorem dX0_moveTo_42 : decode cX0_moveTo 42 = .ok (.iload_n 2, 1) := by decide +kernel
theorem dX0_moveTo_43 : decode cX0_moveTo 43 = .ok (.iload_n 3, 1) := by decide +kernel
theorem dX0_moveTo_44 : decode cX0_moveTo 44 = .ok (.isub, 1) := by decide +kernel
theorem dX0_moveTo_45 : decode cX0_moveTo 45 = .ok (.iadd, 1) := by decide +kernel
theorem dX0_moveTo_46 : decode cX0_moveTo 46 = .ok (.iastore, 1) := by decide +kernel
theorem dX0_moveTo_47 : decode cX0_moveTo 47 = .ok (.aload_n 0, 1) := by decide +kernel
theorem dX0_moveTo_48 : decode cX0_moveTo 48 = .ok (.iload_n 1, 1) := by decide +kernel
theorem dX0_moveTo_49 : decode cX0_moveTo 49 = .ok (.iload_n 3, 1) := by decide +kernel
theorem dX0_moveTo_50 : decode cX0_moveTo 50 = .ok (.iload_n 2, 1) := by decide +kernel
theorem dX0_moveTo_51 : decode cX0_moveTo 51 = .ok (.invokevirtual 46, 3) := by decide +kernel
theorem dX0_moveTo_54 : decode cX0_moveTo 54 = .ok (.pop, 1) := by decide +kernel
theorem dX0_moveTo_55 : decode cX0_moveTo 55 = .ok (.iload_n 2, 1) := by decide +kernel
theorem dX0_moveTo_56 : decode cX0_moveTo 56 = .ok (.iload_n 3, 1) := by decide +kernel
theorem dX0_moveTo_57 : decode cX0_moveTo 57 = .ok (.isub, 1) := by decide +kernel
theorem dX0_moveTo_58 : decode cX0_moveTo 58 = .ok (.ireturn, 1) := by decide +kernel
theorem dX0_changeDrift_0 : decode cX0_changeDrift 0 = .ok (.iload_n 1, 1) := by decide +kernel
theorem dX0_changeDrift_1 : decode cX0_changeDrift 1 = .ok (.ifCond .lt 16, 3) := by decide +kernel
theorem dX0_changeDrift_4 : decode cX0_changeDrift 4 = .ok (.iload_n 1, 1) := by decide +kernel
theorem dX0_changeDrift_5 : decode cX0_changeDrift 5 = .ok (.bipush 7, 2) := by decide +kernel
theorem dX0_changeDrift_7 : decode cX0_changeDrift 7 = .ok (.if_icmp .ge 10, 3) := by decide +kernel
theorem dX0_changeDrift_10 : decode cX0_changeDrift 10 = .ok (.aload_n 0, 1) := by decide +kernel
theorem dX0_changeDrift_11 : decode cX0_changeDrift 11 = .ok (.getfield 15, 3) := by decide +kernel
theorem dX0_changeDrift_14 : decode cX0_changeDrift 14 = .ok (.iload_n 1, 1) := by decide +kernel
theorem dX0_changeDrift_15 : decode cX0_changeDrift 15 = .ok (.iload_n 2, 1) := by decide +kernel
theorem dX0_changeDrift_16 : decode cX0_changeDrift 16 = .ok (.iastore, 1) := by decide +kernel
theorem dX0_changeDrift_17 : decode cX0_changeDrift 17 = .ok (.return_, 1) := by decide +kernel
theorem dX0_accountOf_0 : decode cX0_accountOf 0 = .ok (.aload_n 0, 1) := by decide +kernel
theorem dX0_accountOf_1 : decode cX0_accountOf 1 = .ok (.getfield 18, 3) := by decide +kernel
theorem dX0_accountOf_4 : decode cX0_accountOf 4 = .ok (.iload_n 1, 1) := by decide +kernel
theorem dX0_accountOf_5 : decode cX0_accountOf 5 = .ok (.iaload, 1) := by decide +kernel
theorem dX0_accountOf_6 : decode cX0_accountOf 6 = .ok (.aload_n 0, 1) := by decide +kernel
theorem dX0_accountOf_7 : decode cX0_accountOf 7 = .ok (.getfield 21, 3) := by decide +kernel
theorem dX0_accountOf_10 : decode cX0_accountOf 10 = .ok (.iload_n 1, 1) := by decide +kernel
theorem dX0_accountOf_11 : decode cX0_accountOf 11 = .ok (.iaload, 1) := by decide +kernel
theorem dX0_accountOf_12 : decode cX0_accountOf 12 = .ok (.iadd, 1) := by decide +kernel
theorem dX0_accountOf_13 : decode cX0_accountOf 13 = .ok (.aload_n 0, 1) := by decide +kernel
theorem dX0_accountOf_14 : decode cX0_accountOf 14 = .ok (.getfield 24, 3) := by decide +kernel
theorem dX0_accountOf_17 : decode cX0_accountOf 17 = .ok (.iload_n 1, 1) := by decide +kernel
theorem dX0_accountOf_18 : decode cX0_accountOf 18 = .ok (.iaload, 1) := by decide +kernel
theorem dX0_accountOf_19 : decode cX0_accountOf 19 = .ok (.isub, 1) := by decide +kernel
theorem dX0_accountOf_20 : decode cX0_accountOf 20 = .ok (.ireturn, 1) := by decide +kernel
theorem dX0_errorOf_0 : decode cX0_errorOf 0 = .ok (.aload_n 0, 1) := by decide +kernel
theorem dX0_errorOf_1 : decode cX0_errorOf 1 = .ok (.getfield 9, 3) := by decide +kernel
theorem dX0_errorOf_4 : decode cX0_errorOf 4 = .ok (.iload_n 1, 1) := by decide +kernel
theorem dX0_errorOf_5 : decode cX0_errorOf 5 = .ok (.iaload, 1) := by decide +kernel
theorem dX0_errorOf_6 : decode cX0_errorOf 6 = .ok (.aload_n 0, 1) := by decide +kernel
theorem dX0_errorOf_7 : decode cX0_errorOf 7 = .ok (.getfield 30, 3) := by decide +kernel
theorem dX0_errorOf_10 : decode cX0_errorOf 10 = .ok (.invokestatic 51, 3) := by decide +kernel
theorem dX0_errorOf_13 : decode cX0_errorOf 13 = .ok (.ireturn, 1) := by decide +kernel
theorem dX0_ticksToRing_0 : decode cX0_ticksToRing 0 = .ok (.aload_n 0, 1) := by decide +kernel
theorem dX0_ticksToRing_1 : decode cX0_ticksToRing 1 = .ok (.getfield 9, 3) := by decide +kernel
theorem dX0_ticksToRing_4 : decode cX0_ticksToRing 4 = .ok (.iload_n 1, 1) := by decide +kernel
theorem dX0_ticksToRing_5 : decode cX0_ticksToRing 5 = .ok (.iaload, 1) := by decide +kernel
theorem dX0_ticksToRing_6 : decode cX0_ticksToRing 6 = .ok (.bipush 60, 2) := by decide +kernel
theorem dX0_ticksToRing_8 : decode cX0_ticksToRing 8 = .ok (.idiv, 1) := by decide +kernel
theorem dX0_ticksToRing_9 : decode cX0_ticksToRing 9 = .ok (.istore_n 2, 1) := by decide +kernel
theorem dX0_ticksToRing_10 : decode cX0_ticksToRing 10 = .ok (.aload_n 0, 1) := by decide +kernel
theorem dX0_ticksToRing_11 : decode cX0_ticksToRing 11 = .ok (.getfield 9, 3) := by decide +kernel
theorem dX0_ticksToRing_14 : decode cX0_ticksToRing 14 = .ok (.iload_n 1, 1) := by decide +kernel
theorem dX0_ticksToRing_15 : decode cX0_ticksToRing 15 = .ok (.iaload, 1) := by decide +kernel
theorem dX0_ticksToRing_16 : decode cX0_ticksToRing 16 = .ok (.istore_n 3, 1) := by decide +kernel
theorem dX0_ticksToRing_17 : decode cX0_ticksToRing 17 = .ok (.iconst 1, 1) := by decide +kernel
theorem dX0_ticksToRing_18 : decode cX0_ticksToRing 18 = .ok (.istore 4, 2) := by decide +kernel
theorem dX0_ticksToRing_20 : decode cX0_ticksToRing 20 = .ok (.iload 4, 2) := by decide +kernel
theorem dX0_ticksToRing_22 : decode cX0_ticksToRing 22 = .ok (.sipush 200, 3) := by decide +kernel
theorem dX0_ticksToRing_25 : decode cX0_ticksToRing 25 = .ok (.if_icmp .gt 27, 3) := by decide +kernel
theorem dX0_ticksToRing_28 : decode cX0_ticksToRing 28 = .ok (.aload_n 0, 1) := by decide +kernel
theorem dX0_ticksToRing_29 : decode cX0_ticksToRing 29 = .ok (.iload_n 1, 1) := by decide +kernel
theorem dX0_ticksToRing_30 : decode cX0_ticksToRing 30 = .ok (.iload_n 3, 1) := by decide +kernel
theorem dX0_ticksToRing_31 : decode cX0_ticksToRing 31 = .ok (.invokevirtual 42, 3) := by decide +kernel
theorem dX0_ticksToRing_34 : decode cX0_ticksToRing 34 = .ok (.istore_n 3, 1) := by decide +kernel
theorem dX0_ticksToRing_35 : decode cX0_ticksToRing 35 = .ok (.iload_n 3, 1) := by decide +kernel
theorem dX0_ticksToRing_36 : decode cX0_ticksToRing 36 = .ok (.bipush 60, 2) := by decide +kernel
theorem dX0_ticksToRing_38 : decode cX0_ticksToRing 38 = .ok (.idiv, 1) := by decide +kernel
theorem dX0_ticksToRing_39 : decode cX0_ticksToRing 39 = .ok (.iload_n 2, 1) := by decide +kernel
theorem dX0_ticksToRing_40 : decode cX0_ticksToRing 40 = .ok (.if_icmp .le 6, 3) := by decide +kernel
theorem dX0_ticksToRing_43 : decode cX0_ticksToRing 43 = .ok (.iload 4, 2) := by decide +kernel
theorem dX0_ticksToRing_45 : decode cX0_ticksToRing 45 = .ok (.ireturn, 1) := by decide +kernel
theorem dX0_ticksToRing_46 : decode cX0_ticksToRing 46 = .ok (.iinc 4 1, 3) := by decide +kernel
theorem dX0_ticksToRing_49 : decode cX0_ticksToRing 49 = .ok (.goto (-29), 3) := by decide +kernel
theorem dX0_ticksToRing_52 : decode cX0_ticksToRing 52 = .ok (.iconst (-1), 1) := by decide +kernel
theorem dX0_ticksToRing_53 : decode cX0_ticksToRing 53 = .ok (.ireturn, 1) := by decide +kernel
theorem dX1_init_0 : decode cX1_init 0 = .ok (.aload_n 0, 1) := by decide +kernel
theorem dX1_init_1 : decode cX1_init 1 = .ok (.invokespecial 3, 3) := by decide +kernel
theorem dX1_init_4 : decode cX1_init 4 = .ok (.aload_n 0, 1) := by decide +kernel
theorem dX1_init_5 : decode cX1_init 5 = .ok (.bipush 6, 2) := by decide +kernel
theorem dX1_init_7 : decode cX1_init 7 = .ok (.anewarray 9, 3) := by decide +kernel
theorem dX1_init_10 : decode cX1_init 10 = .ok (.putfield 11, 3) := by decide +kernel
theorem dX1_init_13 : decode cX1_init 13 = .ok (.iconst 0, 1) := by decide +kernel
theorem dX1_init_14 : decode cX1_init 14 = .ok (.istore_n 1, 1) := by decide +kernel
theorem dX1_init_15 : decode cX1_init 15 = .ok (.iload_n 1, 1) := by decide +kernel
theorem dX1_init_16 : decode cX1_init 16 = .ok (.bipush 6, 2) := by decide +kernel
theorem dX1_init_18 : decode cX1_init 18 = .ok (.if_icmp .ge 22, 3) := by decide +kernel
theorem dX1_init_21 : decode cX1_init 21 = .ok (.aload_n 0, 1) := by decide +kernel
theorem dX1_init_22 : decode cX1_init 22 = .ok (.getfield 11, 3) := by decide +kernel
theorem dX1_init_25 : decode cX1_init 25 = .ok (.iload_n 1, 1) := by decide +kernel
theorem dX1_init_26 : decode cX1_init 26 = .ok (.new 9, 3) := by decide +kernel
theorem dX1_init_29 : decode cX1_init 29 = .ok (.dup, 1) := by decide +kernel
theorem dX1_init_30 : decode cX1_init 30 = .ok (.invokespecial 17, 3) := by decide +kernel
theorem dX1_init_33 : decode cX1_init 33 = .ok (.aastore, 1) := by decide +kernel
theorem dX1_init_34 : decode cX1_init 34 = .ok (.iinc 1 1, 3) := by decide +kernel
theorem dX1_init_37 : decode cX1_init 37 = .ok (.goto (-22), 3) := by decide +kernel
theorem dX1_init_40 : decode cX1_init 40 = .ok (.return_, 1) := by decide +kernel
theorem dX1_save_0 : decode cX1_save 0 = .ok (.aload_n 0, 1) := by decide +kernel
theorem dX1_save_1 : decode cX1_save 1 = .ok (.getfield 18, 3) := by decide +kernel
theorem dX1_save_4 : decode cX1_save 4 = .ok (.bipush 6, 2) := by decide +kernel
theorem dX1_save_6 : decode cX1_save 6 = .ok (.if_icmp .ne 7, 3) := by decide +kernel
theorem dX1_save_9 : decode cX1_save 9 = .ok (.aload_n 0, 1) := by decide +kernel
theorem dX1_save_10 : decode cX1_save 10 = .ok (.invokevirtual 22, 3) := by decide +kernel
theorem dX1_save_13 : decode cX1_save 13 = .ok (.aload_n 0, 1) := by decide +kernel
theorem dX1_save_14 : decode cX1_save 14 = .ok (.getfield 11, 3) := by decide +kernel
theorem dX1_save_17 : decode cX1_save 17 = .ok (.aload_n 0, 1) := by decide +kernel
theorem dX1_save_18 : decode cX1_save 18 = .ok (.getfield 18, 3) := by decide +kernel
theorem dX1_save_21 : decode cX1_save 21 = .ok (.aaload, 1) := by decide +kernel
theorem dX1_save_22 : decode cX1_save 22 = .ok (.aload_n 1, 1) := by decide +kernel
theorem dX1_save_23 : decode cX1_save 23 = .ok (.invokevirtual 25, 3) := by decide +kernel
theorem dX1_save_26 : decode cX1_save 26 = .ok (.aload_n 0, 1) := by decide +kernel
theorem dX1_save_27 : decode cX1_save 27 = .ok (.dup, 1) := by decide +kernel
theorem dX1_save_28 : decode cX1_save 28 = .ok (.getfield 18, 3) := by decide +kernel
theorem dX1_save_31 : decode cX1_save 31 = .ok (.iconst 1, 1) := by decide +kernel
theorem dX1_save_32 : decode cX1_save 32 = .ok (.iadd, 1) := by decide +kernel
theorem dX1_save_33 : decode cX1_save 33 = .ok (.putfield 18, 3) := by decide +kernel
theorem dX1_save_36 : decode cX1_save 36 = .ok (.return_, 1) := by decide +kernel
theorem dX1_dropOldest_0 : decode cX1_dropOldest 0 = .ok (.aload_n 0, 1) := by decide +kernel
theorem dX1_dropOldest_1 : decode cX1_dropOldest 1 = .ok (.getfield 11, 3) := by decide +kernel
theorem dX1_dropOldest_4 : decode cX1_dropOldest 4 = .ok (.iconst 0, 1) := by decide +kernel
theorem dX1_dropOldest_5 : decode cX1_dropOldest 5 = .ok (.aaload, 1) := by decide +kernel
theorem dX1_dropOldest_6 : decode cX1_dropOldest 6 = .ok (.astore_n 1, 1) := by decide +kernel
theorem dX1_dropOldest_7 : decode cX1_dropOldest 7 = .ok (.iconst 1, 1) := by decide +kernel
theorem dX1_dropOldest_8 : decode cX1_dropOldest 8 = .ok (.istore_n 2, 1) := by decide +kernel
theorem dX1_dropOldest_9 : decode cX1_dropOldest 9 = .ok (.iload_n 2, 1) := by decide +kernel
theorem dX1_dropOldest_10 : decode cX1_dropOldest 10 = .ok (.bipush 6, 2) := by decide +kernel
theorem dX1_dropOldest_12 : decode cX1_dropOldest 12 = .ok (.if_icmp .ge 23, 3) := by decide +kernel
theorem dX1_dropOldest_15 : decode cX1_dropOldest 15 = .ok (.aload_n 0, 1) := by decide +kernel
theorem dX1_dropOldest_16 : decode cX1_dropOldest 16 = .ok (.getfield 11, 3) := by decide +kernel
theorem dX1_dropOldest_19 : decode cX1_dropOldest 19 = .ok (.iload_n 2, 1) := by decide +kernel
theorem dX1_dropOldest_20 : decode cX1_dropOldest 20 = .ok (.iconst 1, 1) := by decide +kernel
theorem dX1_dropOldest_21 : decode cX1_dropOldest 21 = .ok (.isub, 1) := by decide +kernel
theorem dX1_dropOldest_22 : decode cX1_dropOldest 22 = .ok (.aload_n 0, 1) := by decide +kernel
theorem dX1_dropOldest_23 : decode cX1_dropOldest 23 = .ok (.getfield 11, 3) := by decide +kernel
theorem dX1_dropOldest_26 : decode cX1_dropOldest 26 = .ok (.iload_n 2, 1) := by decide +kernel
theorem dX1_dropOldest_27 : decode cX1_dropOldest 27 = .ok (.aaload, 1) := by decide +kernel
theorem dX1_dropOldest_28 : decode cX1_dropOldest 28 = .ok (.aastore, 1) := by decide +kernel
theorem dX1_dropOldest_29 : decode cX1_dropOldest 29 = .ok (.iinc 2 1, 3) := by decide +kernel
theorem dX1_dropOldest_32 : decode cX1_dropOldest 32 = .ok (.goto (-23), 3) := by decide +kernel
theorem dX1_dropOldest_35 : decode cX1_dropOldest 35 = .ok (.aload_n 0, 1) := by decide +kernel
theorem dX1_dropOldest_36 : decode cX1_dropOldest 36 = .ok (.getfield 11, 3) := by decide +kernel
theorem dX1_dropOldest_39 : decode cX1_dropOldest 39 = .ok (.iconst 5, 1) := by decide +kernel
theorem dX1_dropOldest_40 : decode cX1_dropOldest 40 = .ok (.aload_n 1, 1) := by decide +kernel
theorem dX1_dropOldest_41 : decode cX1_dropOldest 41 = .ok (.aastore, 1) := by decide +kernel
theorem dX1_dropOldest_42 : decode cX1_dropOldest 42 = .ok (.aload_n 0, 1) := by decide +kernel
theorem dX1_dropOldest_43 : decode cX1_dropOldest 43 = .ok (.dup, 1) := by decide +kernel
theorem dX1_dropOldest_44 : decode cX1_dropOldest 44 = .ok (.getfield 18, 3) := by decide +kernel
theorem dX1_dropOldest_47 : decode cX1_dropOldest 47 = .ok (.iconst 1, 1) := by decide +kernel
theorem dX1_dropOldest_48 : decode cX1_dropOldest 48 = .ok (.isub, 1) := by decide +kernel
theorem dX1_dropOldest_49 : decode cX1_dropOldest 49 = .ok (.putfield 18, 3) := by decide +kernel
theorem dX1_dropOldest_52 : decode cX1_dropOldest 52 = .ok (.return_, 1) := by decide +kernel
theorem dX1_restore_0 : decode cX1_restore 0 = .ok (.aload_n 0, 1) := by decide +kernel
theorem dX1_restore_1 : decode cX1_restore 1 = .ok (.getfield 18, 3) := by decide +kernel
theorem dX1_restore_4 : decode cX1_restore 4 = .ok (.ifCond .le 26, 3) := by decide +kernel
theorem dX1_restore_7 : decode cX1_restore 7 = .ok (.aload_n 0, 1) := by decide +kernel
theorem dX1_restore_8 : decode cX1_restore 8 = .ok (.dup, 1) := by decide +kernel
theorem dX1_restore_9 : decode cX1_restore 9 = .ok (.getfield 18, 3) := by decide +kernel
theorem dX1_restore_12 : decode cX1_restore 12 = .ok (.iconst 1, 1) := by decide +kernel
theorem dX1_restore_13 : decode cX1_restore 13 = .ok (.isub, 1) := by decide +kernel
theorem dX1_restore_14 : decode cX1_restore 14 = .ok (.putfield 18, 3) := by decide +kernel
theorem dX1_restore_17 : decode cX1_restore 17 = .ok (.aload_n 1, 1) := by decide +kernel
theorem dX1_restore_18 : decode cX1_restore 18 = .ok (.aload_n 0, 1) := by decide +kernel
theorem dX1_restore_19 : decode cX1_restore 19 = .ok (.getfield 11, 3) := by decide +kernel
theorem dX1_restore_22 : decode cX1_restore 22 = .ok (.aload_n 0, 1) := by decide +kernel
theorem dX1_restore_23 : decode cX1_restore 23 = .ok (.getfield 18, 3) := by decide +kernel
theorem dX1_restore_26 : decode cX1_restore 26 = .ok (.aaload, 1) := by decide +kernel
theorem dX1_restore_27 : decode cX1_restore 27 = .ok (.invokevirtual 25, 3) := by decide +kernel
theorem dX1_restore_30 : decode cX1_restore 30 = .ok (.return_, 1) := by decide +kernel
theorem dX2_init_0 : decode cX2_init 0 = .ok (.aload_n 0, 1) := by decide +kernel
theorem dX2_init_1 : decode cX2_init 1 = .ok (.invokespecial 3, 3) := by decide +kernel
theorem dX2_init_4 : decode cX2_init 4 = .ok (.aload_n 0, 1) := by decide +kernel
theorem dX2_init_5 : decode cX2_init 5 = .ok (.bipush 60, 2) := by decide +kernel
theorem dX2_init_7 : decode cX2_init 7 = .ok (.newarray .int, 2) := by decide +kernel
theorem dX2_init_9 : decode cX2_init 9 = .ok (.putfield 9, 3) := by decide +kernel
theorem dX2_init_12 : decode cX2_init 12 = .ok (.return_, 1) := by decide +kernel
theorem dX2_add_0 : decode cX2_add 0 = .ok (.aload_n 0, 1) := by decide +kernel
theorem dX2_add_1 : decode cX2_add 1 = .ok (.getfield 15, 3) := by decide +kernel
theorem dX2_add_4 : decode cX2_add 4 = .ok (.ifCond .lt 35, 3) := by decide +kernel
theorem dX2_add_7 : decode cX2_add 7 = .ok (.aload_n 0, 1) := by decide +kernel
theorem dX2_add_8 : decode cX2_add 8 = .ok (.getfield 15, 3) := by decide +kernel
theorem dX2_add_11 : decode cX2_add 11 = .ok (.aload_n 0, 1) := by decide +kernel
theorem dX2_add_12 : decode cX2_add 12 = .ok (.getfield 9, 3) := by decide +kernel
theorem dX2_add_15 : decode cX2_add 15 = .ok (.arraylength, 1) := by decide +kernel
theorem dX2_add_16 : decode cX2_add 16 = .ok (.if_icmp .ge 23, 3) := by decide +kernel
theorem dX2_add_19 : decode cX2_add 19 = .ok (.aload_n 0, 1) := by decide +kernel
theorem dX2_add_20 : decode cX2_add 20 = .ok (.getfield 9, 3) := by decide +kernel
theorem dX2_add_23 : decode cX2_add 23 = .ok (.aload_n 0, 1) := by decide +kernel
theorem dX2_add_24 : decode cX2_add 24 = .ok (.getfield 15, 3) := by decide +kernel
theorem dX2_add_27 : decode cX2_add 27 = .ok (.iload_n 1, 1) := by decide +kernel
theorem dX2_add_28 : decode cX2_add 28 = .ok (.iastore, 1) := by decide +kernel
theorem dX2_add_29 : decode cX2_add 29 = .ok (.aload_n 0, 1) := by decide +kernel
theorem dX2_add_30 : decode cX2_add 30 = .ok (.dup, 1) := by decide +kernel
theorem dX2_add_31 : decode cX2_add 31 = .ok (.getfield 15, 3) := by decide +kernel
theorem dX2_add_34 : decode cX2_add 34 = .ok (.iconst 1, 1) := by decide +kernel
theorem dX2_add_35 : decode cX2_add 35 = .ok (.iadd, 1) := by decide +kernel
theorem dX2_add_36 : decode cX2_add 36 = .ok (.putfield 15, 3) := by decide +kernel
theorem dX2_add_39 : decode cX2_add 39 = .ok (.return_, 1) := by decide +kernel
theorem dX2_empty_0 : decode cX2_empty 0 = .ok (.aload_n 0, 1) := by decide +kernel
theorem dX2_empty_1 : decode cX2_empty 1 = .ok (.iconst 0, 1) := by decide +kernel
theorem dX2_empty_2 : decode cX2_empty 2 = .ok (.putfield 15, 3) := by decide +kernel
theorem dX2_empty_5 : decode cX2_empty 5 = .ok (.return_, 1) := by decide +kernel
theorem dX2_codeAt_0 : decode cX2_codeAt 0 = .ok (.iload_n 1, 1) := by decide +kernel
theorem dX2_codeAt_1 : decode cX2_codeAt 1 = .ok (.ifCond .lt 29, 3) := by decide +kernel
theorem dX2_codeAt_4 : decode cX2_codeAt 4 = .ok (.iload_n 1, 1) := by decide +kernel
theorem dX2_codeAt_5 : decode cX2_codeAt 5 = .ok (.aload_n 0, 1) := by decide +kernel
theorem dX2_codeAt_6 : decode cX2_codeAt 6 = .ok (.getfield 15, 3) := by decide +kernel
theorem dX2_codeAt_9 : decode cX2_codeAt 9 = .ok (.if_icmp .ge 21, 3) := by decide +kernel
theorem dX2_codeAt_12 : decode cX2_codeAt 12 = .ok (.iload_n 1, 1) := by decide +kernel
theorem dX2_codeAt_13 : decode cX2_codeAt 13 = .ok (.aload_n 0, 1) := by decide +kernel
theorem dX2_codeAt_14 : decode cX2_codeAt 14 = .ok (.getfield 9, 3) := by decide +kernel
theorem dX2_codeAt_17 : decode cX2_codeAt 17 = .ok (.arraylength, 1) := by decide +kernel
theorem dX2_codeAt_18 : decode cX2_codeAt 18 = .ok (.if_icmp .ge 12, 3) := by decide +kernel
theorem dX2_codeAt_21 : decode cX2_codeAt 21 = .ok (.aload_n 0, 1) := by decide +kernel
theorem dX2_codeAt_22 : decode cX2_codeAt 22 = .ok (.getfield 9, 3) := by decide +kernel
theorem dX2_codeAt_25 : decode cX2_codeAt 25 = .ok (.iload_n 1, 1) := by decide +kernel
theorem dX2_codeAt_26 : decode cX2_codeAt 26 = .ok (.iaload, 1) := by decide +kernel
theorem dX2_codeAt_27 : decode cX2_codeAt 27 = .ok (.goto 4, 3) := by decide +kernel
theorem dX2_codeAt_30 : decode cX2_codeAt 30 = .ok (.iconst 0, 1) := by decide +kernel
theorem dX2_codeAt_31 : decode cX2_codeAt 31 = .ok (.ireturn, 1) := by decide +kernel
theorem dX2_errorPlace_0 : decode cX2_errorPlace 0 = .ok (.iconst 0, 1) := by decide +kernel
theorem dX2_errorPlace_1 : decode cX2_errorPlace 1 = .ok (.istore_n 1, 1) := by decide +kernel
theorem dX2_errorPlace_2 : decode cX2_errorPlace 2 = .ok (.iconst 0, 1) := by decide +kernel
theorem dX2_errorPlace_3 : decode cX2_errorPlace 3 = .ok (.istore_n 2, 1) := by decide +kernel
theorem dX2_errorPlace_4 : decode cX2_errorPlace 4 = .ok (.iload_n 2, 1) := by decide +kernel
theorem dX2_errorPlace_5 : decode cX2_errorPlace 5 = .ok (.aload_n 0, 1) := by decide +kernel
theorem dX2_errorPlace_6 : decode cX2_errorPlace 6 = .ok (.getfield 15, 3) := by decide +kernel
theorem dX2_errorPlace_9 : decode cX2_errorPlace 9 = .ok (.if_icmp .ge 26, 3) := by decide +kernel
theorem dX2_errorPlace_12 : decode cX2_errorPlace 12 = .ok (.iload_n 1, 1) := by decide +kernel
theorem dX2_errorPlace_13 : decode cX2_errorPlace 13 = .ok (.aload_n 0, 1) := by decide +kernel
theorem dX2_errorPlace_14 : decode cX2_errorPlace 14 = .ok (.iload_n 2, 1) := by decide +kernel
theorem dX2_errorPlace_15 : decode cX2_errorPlace 15 = .ok (.invokevirtual 19, 3) := by decide +kernel
theorem dX2_errorPlace_18 : decode cX2_errorPlace 18 = .ok (.invokestatic 23, 3) := by decide +kernel
theorem dX2_errorPlace_21 : decode cX2_errorPlace 21 = .ok (.istore_n 1, 1) := by decide +kernel
theorem dX2_errorPlace_22 : decode cX2_errorPlace 22 = .ok (.iload_n 1, 1) := by decide +kernel
theorem dX2_errorPlace_23 : decode cX2_errorPlace 23 = .ok (.iconst (-1), 1) := by decide +kernel
theorem dX2_errorPlace_24 : decode cX2_errorPlace 24 = .ok (.if_icmp .ne 5, 3) := by decide +kernel
theorem dX2_errorPlace_27 : decode cX2_errorPlace 27 = .ok (.iload_n 2, 1) := by decide +kernel
theorem dX2_errorPlace_28 : decode cX2_errorPlace 28 = .ok (.ireturn, 1) := by decide +kernel
theorem dX2_errorPlace_29 : decode cX2_errorPlace 29 = .ok (.iinc 2 1, 3) := by decide +kernel
theorem dX2_errorPlace_32 : decode cX2_errorPlace 32 = .ok (.goto (-28), 3) := by decide +kernel
theorem dX2_errorPlace_35 : decode cX2_errorPlace 35 = .ok (.aload_n 0, 1) := by decide +kernel
theorem dX2_errorPlace_36 : decode cX2_errorPlace 36 = .ok (.getfield 15, 3) := by decide +kernel
theorem dX2_errorPlace_39 : decode cX2_errorPlace 39 = .ok (.ireturn, 1) := by decide +kernel
theorem dX2_areComplete_0 : decode cX2_areComplete 0 = .ok (.iconst 0, 1) := by decide +kernel
theorem dX2_areComplete_1 : decode cX2_areComplete 1 = .ok (.istore_n 1, 1) := by decide +kernel
theorem dX2_areComplete_2 : decode cX2_areComplete 2 = .ok (.iconst 0, 1) := by decide +kernel
theorem dX2_areComplete_3 : decode cX2_areComplete 3 = .ok (.istore_n 2, 1) := by decide +kernel
theorem dX2_areComplete_4 : decode cX2_areComplete 4 = .ok (.iload_n 2, 1) := by decide +kernel
theorem dX2_areComplete_5 : decode cX2_areComplete 5 = .ok (.aload_n 0, 1) := by decide +kernel
theorem dX2_areComplete_6 : decode cX2_areComplete 6 = .ok (.getfield 15, 3) := by decide +kernel
theorem dX2_areComplete_9 : decode cX2_areComplete 9 = .ok (.if_icmp .ge 24, 3) := by decide +kernel
theorem dX2_areComplete_12 : decode cX2_areComplete 12 = .ok (.iload_n 1, 1) := by decide +kernel
theorem dX2_areComplete_13 : decode cX2_areComplete 13 = .ok (.iconst (-1), 1) := by decide +kernel
theorem dX2_areComplete_14 : decode cX2_areComplete 14 = .ok (.if_icmp .eq 19, 3) := by decide +kernel
theorem dX2_areComplete_17 : decode cX2_areComplete 17 = .ok (.iload_n 1, 1) := by decide +kernel
theorem dX2_areComplete_18 : decode cX2_areComplete 18 = .ok (.aload_n 0, 1) := by decide +kernel
theorem dX2_areComplete_19 : decode cX2_areComplete 19 = .ok (.iload_n 2, 1) := by decide +kernel
theorem dX2_areComplete_20 : decode cX2_areComplete 20 = .ok (.invokevirtual 19, 3) := by decide +kernel
theorem dX2_areComplete_23 : decode cX2_areComplete 23 = .ok (.invokestatic 23, 3) := by decide +kernel
theorem dX2_areComplete_26 : decode cX2_areComplete 26 = .ok (.istore_n 1, 1) := by decide +kernel
theorem dX2_areComplete_27 : decode cX2_areComplete 27 = .ok (.iinc 2 1, 3) := by decide +kernel
theorem dX2_areComplete_30 : decode cX2_areComplete 30 = .ok (.goto (-26), 3) := by decide +kernel
theorem dX2_areComplete_33 : decode cX2_areComplete 33 = .ok (.iload_n 1, 1) := by decide +kernel
theorem dX2_areComplete_34 : decode cX2_areComplete 34 = .ok (.iconst 2, 1) := by decide +kernel
theorem dX2_areComplete_35 : decode cX2_areComplete 35 = .ok (.if_icmp .eq 8, 3) := by decide +kernel
theorem dX2_areComplete_38 : decode cX2_areComplete 38 = .ok (.iload_n 1, 1) := by decide +kernel
theorem dX2_areComplete_39 : decode cX2_areComplete 39 = .ok (.iconst 3, 1) := by decide +kernel
theorem dX2_areComplete_40 : decode cX2_areComplete 40 = .ok (.if_icmp .ne 7, 3) := by decide +kernel
theorem dX2_areComplete_43 : decode cX2_areComplete 43 = .ok (.iconst 1, 1) := by decide +kernel
theorem dX2_areComplete_44 : decode cX2_areComplete 44 = .ok (.goto 4, 3) := by decide +kernel
theorem dX2_areComplete_47 : decode cX2_areComplete 47 = .ok (.iconst 0, 1) := by decide +kernel
theorem dX2_areComplete_48 : decode cX2_areComplete 48 = .ok (.ireturn, 1) := by decide +kernel
theorem dX2_dueAfter_0 : decode cX2_dueAfter 0 = .ok (.iload_n 0, 1) := by decide +kernel
theorem dX2_dueAfter_1 : decode cX2_dueAfter 1 = .ok (.tableswitch 143 0 6 #[43, 48, 65, 85, 90, 107, 126], 43) := by decide +kernel
theorem dX2_dueAfter_44 : decode cX2_dueAfter 44 = .ok (.iload_n 1, 1) := by decide +kernel
theorem dX2_dueAfter_45 : decode cX2_dueAfter 45 = .ok (.invokestatic 27, 3) := by decide +kernel
theorem dX2_dueAfter_48 : decode cX2_dueAfter 48 = .ok (.ireturn, 1) := by decide +kernel
theorem dX2_dueAfter_49 : decode cX2_dueAfter 49 = .ok (.iload_n 1, 1) := by decide +kernel
theorem dX2_dueAfter_50 : decode cX2_dueAfter 50 = .ok (.bipush 49, 2) := by decide +kernel
theorem dX2_dueAfter_52 : decode cX2_dueAfter 52 = .ok (.bipush 57, 2) := by decide +kernel
theorem dX2_dueAfter_54 : decode cX2_dueAfter 54 = .ok (.invokestatic 30, 3) := by decide +kernel
theorem dX2_dueAfter_57 : decode cX2_dueAfter 57 = .ok (.ifCond .eq 7, 3) := by decide +kernel
theorem dX2_dueAfter_60 : decode cX2_dueAfter 60 = .ok (.iconst 2, 1) := by decide +kernel
theorem dX2_dueAfter_61 : decode cX2_dueAfter 61 = .ok (.goto 4, 3) := by decide +kernel
theorem dX2_dueAfter_64 : decode cX2_dueAfter 64 = .ok (.iconst (-1), 1) := by decide +kernel
theorem dX2_dueAfter_65 : decode cX2_dueAfter 65 = .ok (.ireturn, 1) := by decide +kernel
theorem dX2_dueAfter_66 : decode cX2_dueAfter 66 = .ok (.iload_n 1, 1) := by decide +kernel
theorem dX2_dueAfter_67 : decode cX2_dueAfter 67 = .ok (.bipush 48, 2) := by decide +kernel
theorem dX2_dueAfter_69 : decode cX2_dueAfter 69 = .ok (.bipush 57, 2) := by decide +kernel
theorem dX2_dueAfter_71 : decode cX2_dueAfter 71 = .ok (.invokestatic 30, 3) := by decide +kernel
theorem dX2_dueAfter_74 : decode cX2_dueAfter 74 = .ok (.ifCond .eq 7, 3) := by decide +kernel
theorem dX2_dueAfter_77 : decode cX2_dueAfter 77 = .ok (.iconst 3, 1) := by decide +kernel
theorem dX2_dueAfter_78 : decode cX2_dueAfter 78 = .ok (.goto 7, 3) := by decide +kernel
theorem dX2_dueAfter_81 : decode cX2_dueAfter 81 = .ok (.iload_n 1, 1) := by decide +kernel
theorem dX2_dueAfter_82 : decode cX2_dueAfter 82 = .ok (.invokestatic 34, 3) := by decide +kernel
theorem dX2_dueAfter_85 : decode cX2_dueAfter 85 = .ok (.ireturn, 1) := by decide +kernel
theorem dX2_dueAfter_86 : decode cX2_dueAfter 86 = .ok (.iload_n 1, 1) := by decide +kernel
theorem dX2_dueAfter_87 : decode cX2_dueAfter 87 = .ok (.invokestatic 34, 3) := by decide +kernel
theorem dX2_dueAfter_90 : decode cX2_dueAfter 90 = .ok (.ireturn, 1) := by decide +kernel
theorem dX2_dueAfter_91 : decode cX2_dueAfter 91 = .ok (.iload_n 1, 1) := by decide +kernel
theorem dX2_dueAfter_92 : decode cX2_dueAfter 92 = .ok (.bipush 48, 2) := by decide +kernel
theorem dX2_dueAfter_94 : decode cX2_dueAfter 94 = .ok (.bipush 54, 2) := by decide +kernel
theorem dX2_dueAfter_96 : decode cX2_dueAfter 96 = .ok (.invokestatic 30, 3) := by decide +kernel
theorem dX2_dueAfter_99 : decode cX2_dueAfter 99 = .ok (.ifCond .eq 7, 3) := by decide +kernel
theorem dX2_dueAfter_102 : decode cX2_dueAfter 102 = .ok (.iconst 5, 1) := by decide +kernel
theorem dX2_dueAfter_103 : decode cX2_dueAfter 103 = .ok (.goto 4, 3) := by decide +kernel
theorem dX2_dueAfter_106 : decode cX2_dueAfter 106 = .ok (.iconst (-1), 1) := by decide +kernel
theorem dX2_dueAfter_107 : decode cX2_dueAfter 107 = .ok (.ireturn, 1) := by decide +kernel
theorem dX2_dueAfter_108 : decode cX2_dueAfter 108 = .ok (.iload_n 1, 1) := by decide +kernel
theorem dX2_dueAfter_109 : decode cX2_dueAfter 109 = .ok (.bipush 43, 2) := by decide +kernel
theorem dX2_dueAfter_111 : decode cX2_dueAfter 111 = .ok (.if_icmp .eq 9, 3) := by decide +kernel
theorem dX2_dueAfter_114 : decode cX2_dueAfter 114 = .ok (.iload_n 1, 1) := by decide +kernel
theorem dX2_dueAfter_115 : decode cX2_dueAfter 115 = .ok (.bipush 45, 2) := by decide +kernel
theorem dX2_dueAfter_117 : decode cX2_dueAfter 117 = .ok (.if_icmp .ne 8, 3) := by decide +kernel
theorem dX2_dueAfter_120 : decode cX2_dueAfter 120 = .ok (.bipush 6, 2) := by decide +kernel
theorem dX2_dueAfter_122 : decode cX2_dueAfter 122 = .ok (.goto 4, 3) := by decide +kernel
theorem dX2_dueAfter_125 : decode cX2_dueAfter 125 = .ok (.iconst (-1), 1) := by decide +kernel
theorem dX2_dueAfter_126 : decode cX2_dueAfter 126 = .ok (.ireturn, 1) := by decide +kernel
theorem dX2_dueAfter_127 : decode cX2_dueAfter 127 = .ok (.iload_n 1, 1) := by decide +kernel
theorem dX2_dueAfter_128 : decode cX2_dueAfter 128 = .ok (.bipush 48, 2) := by decide +kernel
theorem dX2_dueAfter_130 : decode cX2_dueAfter 130 = .ok (.bipush 53, 2) := by decide +kernel
theorem dX2_dueAfter_132 : decode cX2_dueAfter 132 = .ok (.invokestatic 30, 3) := by decide +kernel
theorem dX2_dueAfter_135 : decode cX2_dueAfter 135 = .ok (.ifCond .eq 7, 3) := by decide +kernel
theorem dX2_dueAfter_138 : decode cX2_dueAfter 138 = .ok (.iconst 3, 1) := by decide +kernel
theorem dX2_dueAfter_139 : decode cX2_dueAfter 139 = .ok (.goto 4, 3) := by decide +kernel
theorem dX2_dueAfter_142 : decode cX2_dueAfter 142 = .ok (.iconst (-1), 1) := by decide +kernel
theorem dX2_dueAfter_143 : decode cX2_dueAfter 143 = .ok (.ireturn, 1) := by decide +kernel
theorem dX2_dueAfter_144 : decode cX2_dueAfter 144 = .ok (.iconst (-1), 1) := by decide +kernel
theorem dX2_dueAfter_145 : decode cX2_dueAfter 145 = .ok (.ireturn, 1) := by decide +kernel
theorem dX2_dueAfterKind_0 : decode cX2_dueAfterKind 0 = .ok (.iload_n 0, 1) := by decide +kernel
theorem dX2_dueAfterKind_1 : decode cX2_dueAfterKind 1 = .ok (.lookupswitch 51 #[(99, 47), (100, 49), (116, 43), (118, 45)], 43) := by decide +kernel
theorem dX2_dueAfterKind_44 : decode cX2_dueAfterKind 44 = .ok (.iconst 1, 1) := by decide +kernel
theorem dX2_dueAfterKind_45 : decode cX2_dueAfterKind 45 = .ok (.ireturn, 1) := by decide +kernel
theorem dX2_dueAfterKind_46 : decode cX2_dueAfterKind 46 = .ok (.iconst 3, 1) := by decide +kernel
theorem dX2_dueAfterKind_47 : decode cX2_dueAfterKind 47 = .ok (.ireturn, 1) := by decide +kernel
theorem dX2_dueAfterKind_48 : decode cX2_dueAfterKind 48 = .ok (.iconst 3, 1) := by decide +kernel
theorem dX2_dueAfterKind_49 : decode cX2_dueAfterKind 49 = .ok (.ireturn, 1) := by decide +kernel
theorem dX2_dueAfterKind_50 : decode cX2_dueAfterKind 50 = .ok (.iconst 4, 1) := by decide +kernel
theorem dX2_dueAfterKind_51 : decode cX2_dueAfterKind 51 = .ok (.ireturn, 1) := by decide +kernel
theorem dX2_dueAfterKind_52 : decode cX2_dueAfterKind 52 = .ok (.iconst (-1), 1) := by decide +kernel
theorem dX2_dueAfterKind_53 : decode cX2_dueAfterKind 53 = .ok (.ireturn, 1) := by decide +kernel
theorem dX2_dueAfterPart_0 : decode cX2_dueAfterPart 0 = .ok (.iload_n 0, 1) := by decide +kernel
theorem dX2_dueAfterPart_1 : decode cX2_dueAfterPart 1 = .ok (.bipush 59, 2) := by decide +kernel
theorem dX2_dueAfterPart_3 : decode cX2_dueAfterPart 3 = .ok (.if_icmp .ne 7, 3) := by decide +kernel
theorem dX2_dueAfterPart_6 : decode cX2_dueAfterPart 6 = .ok (.iconst 0, 1) := by decide +kernel
theorem dX2_dueAfterPart_7 : decode cX2_dueAfterPart 7 = .ok (.goto 4, 3) := by decide +kernel
theorem dX2_dueAfterPart_10 : decode cX2_dueAfterPart 10 = .ok (.iconst (-1), 1) := by decide +kernel
theorem dX2_dueAfterPart_11 : decode cX2_dueAfterPart 11 = .ok (.ireturn, 1) := by decide +kernel
theorem dX2_isWithin_0 : decode cX2_isWithin 0 = .ok (.iload_n 0, 1) := by decide +kernel
theorem dX2_isWithin_1 : decode cX2_isWithin 1 = .ok (.iload_n 1, 1) := by decide +kernel
theorem dX2_isWithin_2 : decode cX2_isWithin 2 = .ok (.if_icmp .lt 12, 3) := by decide +kernel
theorem dX2_isWithin_5 : decode cX2_isWithin 5 = .ok (.iload_n 0, 1) := by decide +kernel
theorem dX2_isWithin_6 : decode cX2_isWithin 6 = .ok (.iload_n 2, 1) := by decide +kernel
theorem dX2_isWithin_7 : decode cX2_isWithin 7 = .ok (.if_icmp .gt 7, 3) := by decide +kernel
theorem dX2_isWithin_10 : decode cX2_isWithin 10 = .ok (.iconst 1, 1) := by decide +kernel
theorem dX2_isWithin_11 : decode cX2_isWithin 11 = .ok (.goto 4, 3) := by decide +kernel
theorem dX2_isWithin_14 : decode cX2_isWithin 14 = .ok (.iconst 0, 1) := by decide +kernel
theorem dX2_isWithin_15 : decode cX2_isWithin 15 = .ok (.ireturn, 1) := by decide +kernel
theorem dX2_isPartStart_0 : decode cX2_isPartStart 0 = .ok (.iload_n 1, 1) := by decide +kernel
theorem dX2_isPartStart_1 : decode cX2_isPartStart 1 = .ok (.ifCond .eq 15, 3) := by decide +kernel
theorem dX2_isPartStart_4 : decode cX2_isPartStart 4 = .ok (.aload_n 0, 1) := by decide +kernel
theorem dX2_isPartStart_5 : decode cX2_isPartStart 5 = .ok (.iload_n 1, 1) := by decide +kernel
theorem dX2_isPartStart_6 : decode cX2_isPartStart 6 = .ok (.iconst 1, 1) := by decide +kernel
theorem dX2_isPartStart_7 : decode cX2_isPartStart 7 = .ok (.isub, 1) := by decide +kernel
theorem dX2_isPartStart_8 : decode cX2_isPartStart 8 = .ok (.invokevirtual 19, 3) := by decide +kernel
theorem dX2_isPartStart_11 : decode cX2_isPartStart 11 = .ok (.bipush 59, 2) := by decide +kernel
theorem dX2_isPartStart_13 : decode cX2_isPartStart 13 = .ok (.if_icmp .ne 7, 3) := by decide +kernel
theorem dX2_isPartStart_16 : decode cX2_isPartStart 16 = .ok (.iconst 1, 1) := by decide +kernel
theorem dX2_isPartStart_17 : decode cX2_isPartStart 17 = .ok (.goto 4, 3) := by decide +kernel
theorem dX2_isPartStart_20 : decode cX2_isPartStart 20 = .ok (.iconst 0, 1) := by decide +kernel
theorem dX2_isPartStart_21 : decode cX2_isPartStart 21 = .ok (.ireturn, 1) := by decide +kernel
theorem dX2_figureAt_0 : decode cX2_figureAt 0 = .ok (.aload_n 0, 1) := by decide +kernel
theorem dX2_figureAt_1 : decode cX2_figureAt 1 = .ok (.iload_n 1, 1) := by decide +kernel
theorem dX2_figureAt_2 : decode cX2_figureAt 2 = .ok (.invokevirtual 19, 3) := by decide +kernel
theorem dX2_figureAt_5 : decode cX2_figureAt 5 = .ok (.bipush 48, 2) := by decide +kernel
theorem dX2_figureAt_7 : decode cX2_figureAt 7 = .ok (.isub, 1) := by decide +kernel
theorem dX2_figureAt_8 : decode cX2_figureAt 8 = .ok (.ireturn, 1) := by decide +kernel
theorem dX2_ticksAt_0 : decode cX2_ticksAt 0 = .ok (.aload_n 0, 1) := by decide +kernel
theorem dX2_ticksAt_1 : decode cX2_ticksAt 1 = .ok (.iload_n 1, 1) := by decide +kernel
theorem dX2_ticksAt_2 : decode cX2_ticksAt 2 = .ok (.invokevirtual 37, 3) := by decide +kernel
theorem dX2_ticksAt_5 : decode cX2_ticksAt 5 = .ok (.istore_n 2, 1) := by decide +kernel
theorem dX2_ticksAt_6 : decode cX2_ticksAt 6 = .ok (.aload_n 0, 1) := by decide +kernel
theorem dX2_ticksAt_7 : decode cX2_ticksAt 7 = .ok (.iload_n 1, 1) := by decide +kernel
theorem dX2_ticksAt_8 : decode cX2_ticksAt 8 = .ok (.iconst 1, 1) := by decide +kernel
theorem dX2_ticksAt_9 : decode cX2_ticksAt 9 = .ok (.iadd, 1) := by decide +kernel
theorem dX2_ticksAt_10 : decode cX2_ticksAt 10 = .ok (.invokevirtual 19, 3) := by decide +kernel
theorem dX2_ticksAt_13 : decode cX2_ticksAt 13 = .ok (.bipush 48, 2) := by decide +kernel
theorem dX2_ticksAt_15 : decode cX2_ticksAt 15 = .ok (.bipush 57, 2) := by decide +kernel
theorem dX2_ticksAt_17 : decode cX2_ticksAt 17 = .ok (.invokestatic 30, 3) := by decide +kernel
theorem dX2_ticksAt_20 : decode cX2_ticksAt 20 = .ok (.ifCond .eq 18, 3) := by decide +kernel
theorem dX2_ticksAt_23 : decode cX2_ticksAt 23 = .ok (.bipush 10, 2) := by decide +kernel
theorem dX2_ticksAt_25 : decode cX2_ticksAt 25 = .ok (.iload_n 2, 1) := by decide +kernel
theorem dX2_ticksAt_26 : decode cX2_ticksAt 26 = .ok (.imul, 1) := by decide +kernel
theorem dX2_ticksAt_27 : decode cX2_ticksAt 27 = .ok (.aload_n 0, 1) := by decide +kernel
theorem dX2_ticksAt_28 : decode cX2_ticksAt 28 = .ok (.iload_n 1, 1) := by decide +kernel
theorem dX2_ticksAt_29 : decode cX2_ticksAt 29 = .ok (.iconst 1, 1) := by decide +kernel
theorem dX2_ticksAt_30 : decode cX2_ticksAt 30 = .ok (.iadd, 1) := by decide +kernel
theorem dX2_ticksAt_31 : decode cX2_ticksAt 31 = .ok (.invokevirtual 37, 3) := by decide +kernel
theorem dX2_ticksAt_34 : decode cX2_ticksAt 34 = .ok (.iadd, 1) := by decide +kernel
theorem dX2_ticksAt_35 : decode cX2_ticksAt 35 = .ok (.goto 4, 3) := by decide +kernel
theorem dX2_ticksAt_38 : decode cX2_ticksAt 38 = .ok (.iload_n 2, 1) := by decide +kernel
theorem dX2_ticksAt_39 : decode cX2_ticksAt 39 = .ok (.ireturn, 1) := by decide +kernel
theorem dX2_driftAt_0 : decode cX2_driftAt 0 = .ok (.aload_n 0, 1) := by decide +kernel
theorem dX2_driftAt_1 : decode cX2_driftAt 1 = .ok (.iload_n 1, 1) := by decide +kernel
theorem dX2_driftAt_2 : decode cX2_driftAt 2 = .ok (.iconst 1, 1) := by decide +kernel
theorem dX2_driftAt_3 : decode cX2_driftAt 3 = .ok (.iadd, 1) := by decide +kernel
theorem dX2_driftAt_4 : decode cX2_driftAt 4 = .ok (.invokevirtual 37, 3) := by decide +kernel
theorem dX2_driftAt_7 : decode cX2_driftAt 7 = .ok (.istore_n 2, 1) := by decide +kernel
theorem dX2_driftAt_8 : decode cX2_driftAt 8 = .ok (.aload_n 0, 1) := by decide +kernel
theorem dX2_driftAt_9 : decode cX2_driftAt 9 = .ok (.iload_n 1, 1) := by decide +kernel
theorem dX2_driftAt_10 : decode cX2_driftAt 10 = .ok (.invokevirtual 19, 3) := by decide +kernel
theorem dX2_driftAt_13 : decode cX2_driftAt 13 = .ok (.bipush 45, 2) := by decide +kernel
theorem dX2_driftAt_15 : decode cX2_driftAt 15 = .ok (.if_icmp .ne 8, 3) := by decide +kernel
theorem dX2_driftAt_18 : decode cX2_driftAt 18 = .ok (.iload_n 2, 1) := by decide +kernel
theorem dX2_driftAt_19 : decode cX2_driftAt 19 = .ok (.ineg, 1) := by decide +kernel
theorem dX2_driftAt_20 : decode cX2_driftAt 20 = .ok (.goto 4, 3) := by decide +kernel
theorem dX2_driftAt_23 : decode cX2_driftAt 23 = .ok (.iload_n 2, 1) := by decide +kernel
theorem dX2_driftAt_24 : decode cX2_driftAt 24 = .ok (.ireturn, 1) := by decide +kernel
theorem dX3_init_0 : decode cX3_init 0 = .ok (.aload_n 0, 1) := by decide +kernel
theorem dX3_init_1 : decode cX3_init 1 = .ok (.invokespecial 3, 3) := by decide +kernel
theorem dX3_init_4 : decode cX3_init 4 = .ok (.aload_n 0, 1) := by decide +kernel
theorem dX3_init_5 : decode cX3_init 5 = .ok (.bipush 7, 2) := by decide +kernel
theorem dX3_init_7 : decode cX3_init 7 = .ok (.newarray .int, 2) := by decide +kernel
theorem dX3_init_9 : decode cX3_init 9 = .ok (.putfield 9, 3) := by decide +kernel
theorem dX3_init_12 : decode cX3_init 12 = .ok (.aload_n 0, 1) := by decide +kernel
theorem dX3_init_13 : decode cX3_init 13 = .ok (.bipush 7, 2) := by decide +kernel
theorem dX3_init_15 : decode cX3_init 15 = .ok (.newarray .int, 2) := by decide +kernel
theorem dX3_init_17 : decode cX3_init 17 = .ok (.putfield 15, 3) := by decide +kernel
theorem dX3_init_20 : decode cX3_init 20 = .ok (.aload_n 0, 1) := by decide +kernel
theorem dX3_init_21 : decode cX3_init 21 = .ok (.bipush 7, 2) := by decide +kernel
theorem dX3_init_23 : decode cX3_init 23 = .ok (.newarray .int, 2) := by decide +kernel
theorem dX3_init_25 : decode cX3_init 25 = .ok (.putfield 18, 3) := by decide +kernel
theorem dX3_init_28 : decode cX3_init 28 = .ok (.return_, 1) := by decide +kernel
theorem dX3_take_0 : decode cX3_take 0 = .ok (.iconst 0, 1) := by decide +kernel
theorem dX3_take_1 : decode cX3_take 1 = .ok (.istore_n 2, 1) := by decide +kernel
theorem dX3_take_2 : decode cX3_take 2 = .ok (.iload_n 2, 1) := by decide +kernel
theorem dX3_take_3 : decode cX3_take 3 = .ok (.bipush 7, 2) := by decide +kernel
theorem dX3_take_5 : decode cX3_take 5 = .ok (.if_icmp .ge 35, 3) := by decide +kernel
theorem dX3_take_8 : decode cX3_take 8 = .ok (.aload_n 0, 1) := by decide +kernel
theorem dX3_take_9 : decode cX3_take 9 = .ok (.getfield 9, 3) := by decide +kernel
theorem dX3_take_12 : decode cX3_take 12 = .ok (.iload_n 2, 1) := by decide +kernel
theorem dX3_take_13 : decode cX3_take 13 = .ok (.aload_n 1, 1) := by decide +kernel
theorem dX3_take_14 : decode cX3_take 14 = .ok (.iload_n 2, 1) := by decide +kernel
theorem dX3_take_15 : decode cX3_take 15 = .ok (.invokevirtual 21, 3) := by decide +kernel
theorem dX3_take_18 : decode cX3_take 18 = .ok (.iastore, 1) := by decide +kernel
theorem dX3_take_19 : decode cX3_take 19 = .ok (.aload_n 0, 1) := by decide +kernel
theorem dX3_take_20 : decode cX3_take 20 = .ok (.getfield 15, 3) := by decide +kernel
theorem dX3_take_23 : decode cX3_take 23 = .ok (.iload_n 2, 1) := by decide +kernel
theorem dX3_take_24 : decode cX3_take 24 = .ok (.aload_n 1, 1) := by decide +kernel
theorem dX3_take_25 : decode cX3_take 25 = .ok (.getfield 27, 3) := by decide +kernel
theorem dX3_take_28 : decode cX3_take 28 = .ok (.getfield 31, 3) := by decide +kernel
theorem dX3_take_31 : decode cX3_take 31 = .ok (.iload_n 2, 1) := by decide +kernel
theorem dX3_take_32 : decode cX3_take 32 = .ok (.iaload, 1) := by decide +kernel
theorem dX3_take_33 : decode cX3_take 33 = .ok (.iastore, 1) := by decide +kernel
theorem dX3_take_34 : decode cX3_take 34 = .ok (.iinc 2 1, 3) := by decide +kernel
theorem dX3_take_37 : decode cX3_take 37 = .ok (.goto (-35), 3) := by decide +kernel
theorem dX3_take_40 : decode cX3_take 40 = .ok (.return_, 1) := by decide +kernel
theorem dX3_placeOf_0 : decode cX3_placeOf 0 = .ok (.iconst 0, 1) := by decide +kernel
theorem dX3_placeOf_1 : decode cX3_placeOf 1 = .ok (.istore_n 2, 1) := by decide +kernel
theorem dX3_placeOf_2 : decode cX3_placeOf 2 = .ok (.iconst 0, 1) := by decide +kernel
theorem dX3_placeOf_3 : decode cX3_placeOf 3 = .ok (.istore_n 3, 1) := by decide +kernel
theorem dX3_placeOf_4 : decode cX3_placeOf 4 = .ok (.iload_n 3, 1) := by decide +kernel
theorem dX3_placeOf_5 : decode cX3_placeOf 5 = .ok (.bipush 7, 2) := by decide +kernel
theorem dX3_placeOf_7 : decode cX3_placeOf 7 = .ok (.if_icmp .ge 47, 3) := by decide +kernel
theorem dX3_placeOf_10 : decode cX3_placeOf 10 = .ok (.aload_n 0, 1) := by decide +kernel
theorem dX3_placeOf_11 : decode cX3_placeOf 11 = .ok (.getfield 9, 3) := by decide +kernel
theorem dX3_placeOf_14 : decode cX3_placeOf 14 = .ok (.iload_n 3, 1) := by decide +kernel
theorem dX3_placeOf_15 : decode cX3_placeOf 15 = .ok (.iaload, 1) := by decide +kernel
theorem dX3_placeOf_16 : decode cX3_placeOf 16 = .ok (.aload_n 0, 1) := by decide +kernel
theorem dX3_placeOf_17 : decode cX3_placeOf 17 = .ok (.getfield 9, 3) := by decide +kernel
theorem dX3_placeOf_20 : decode cX3_placeOf 20 = .ok (.iload_n 1, 1) := by decide +kernel
theorem dX3_placeOf_21 : decode cX3_placeOf 21 = .ok (.iaload, 1) := by decide +kernel
theorem dX3_placeOf_22 : decode cX3_placeOf 22 = .ok (.if_icmp .lt 23, 3) := by decide +kernel
theorem dX3_placeOf_25 : decode cX3_placeOf 25 = .ok (.aload_n 0, 1) := by decide +kernel
theorem dX3_placeOf_26 : decode cX3_placeOf 26 = .ok (.getfield 9, 3) := by decide +kernel
theorem dX3_placeOf_29 : decode cX3_placeOf 29 = .ok (.iload_n 3, 1) := by decide +kernel
theorem dX3_placeOf_30 : decode cX3_placeOf 30 = .ok (.iaload, 1) := by decide +kernel
theorem dX3_placeOf_31 : decode cX3_placeOf 31 = .ok (.aload_n 0, 1) := by decide +kernel
theorem dX3_placeOf_32 : decode cX3_placeOf 32 = .ok (.getfield 9, 3) := by decide +kernel
theorem dX3_placeOf_35 : decode cX3_placeOf 35 = .ok (.iload_n 1, 1) := by decide +kernel
theorem dX3_placeOf_36 : decode cX3_placeOf 36 = .ok (.iaload, 1) := by decide +kernel
theorem dX3_placeOf_37 : decode cX3_placeOf 37 = .ok (.if_icmp .ne 11, 3) := by decide +kernel
theorem dX3_placeOf_40 : decode cX3_placeOf 40 = .ok (.iload_n 3, 1) := by decide +kernel
theorem dX3_placeOf_41 : decode cX3_placeOf 41 = .ok (.iload_n 1, 1) := by decide +kernel
theorem dX3_placeOf_42 : decode cX3_placeOf 42 = .ok (.if_icmp .ge 6, 3) := by decide +kernel
theorem dX3_placeOf_45 : decode cX3_placeOf 45 = .ok (.iinc 2 1, 3) := by decide +kernel
theorem dX3_placeOf_48 : decode cX3_placeOf 48 = .ok (.iinc 3 1, 3) := by decide +kernel
theorem dX3_placeOf_51 : decode cX3_placeOf 51 = .ok (.goto (-47), 3) := by decide +kernel
theorem dX3_placeOf_54 : decode cX3_placeOf 54 = .ok (.iload_n 2, 1) := by decide +kernel
theorem dX3_placeOf_55 : decode cX3_placeOf 55 = .ok (.ireturn, 1) := by decide +kernel
theorem dX3_middleByOrder_0 : decode cX3_middleByOrder 0 = .ok (.iconst 0, 1) := by decide +kernel
theorem dX3_middleByOrder_1 : decode cX3_middleByOrder 1 = .ok (.istore_n 1, 1) := by decide +kernel
theorem dX3_middleByOrder_2 : decode cX3_middleByOrder 2 = .ok (.iload_n 1, 1) := by decide +kernel
theorem dX3_middleByOrder_3 : decode cX3_middleByOrder 3 = .ok (.bipush 7, 2) := by decide +kernel
theorem dX3_middleByOrder_5 : decode cX3_middleByOrder 5 = .ok (.if_icmp .ge 20, 3) := by decide +kernel
theorem dX3_middleByOrder_8 : decode cX3_middleByOrder 8 = .ok (.aload_n 0, 1) := by decide +kernel
theorem dX3_middleByOrder_9 : decode cX3_middleByOrder 9 = .ok (.getfield 18, 3) := by decide +kernel
theorem dX3_middleByOrder_12 : decode cX3_middleByOrder 12 = .ok (.aload_n 0, 1) := by decide +kernel
theorem dX3_middleByOrder_13 : decode cX3_middleByOrder 13 = .ok (.iload_n 1, 1) := by decide +kernel
theorem dX3_middleByOrder_14 : decode cX3_middleByOrder 14 = .ok (.invokevirtual 34, 3) := by decide +kernel
theorem dX3_middleByOrder_17 : decode cX3_middleByOrder 17 = .ok (.iload_n 1, 1) := by decide +kernel
theorem dX3_middleByOrder_18 : decode cX3_middleByOrder 18 = .ok (.iastore, 1) := by decide +kernel
theorem dX3_middleByOrder_19 : decode cX3_middleByOrder 19 = .ok (.iinc 1 1, 3) := by decide +kernel
theorem dX3_middleByOrder_22 : decode cX3_middleByOrder 22 = .ok (.goto (-20), 3) := by decide +kernel
theorem dX3_middleByOrder_25 : decode cX3_middleByOrder 25 = .ok (.aload_n 0, 1) := by decide +kernel
theorem dX3_middleByOrder_26 : decode cX3_middleByOrder 26 = .ok (.getfield 15, 3) := by decide +kernel
theorem dX3_middleByOrder_29 : decode cX3_middleByOrder 29 = .ok (.invokestatic 37, 3) := by decide +kernel
theorem dX3_middleByOrder_32 : decode cX3_middleByOrder 32 = .ok (.istore_n 1, 1) := by decide +kernel
theorem dX3_middleByOrder_33 : decode cX3_middleByOrder 33 = .ok (.iconst 0, 1) := by decide +kernel
theorem dX3_middleByOrder_34 : decode cX3_middleByOrder 34 = .ok (.istore_n 2, 1) := by decide +kernel
theorem dX3_middleByOrder_35 : decode cX3_middleByOrder 35 = .ok (.aload_n 0, 1) := by decide +kernel
theorem dX3_middleByOrder_36 : decode cX3_middleByOrder 36 = .ok (.getfield 18, 3) := by decide +kernel
theorem dX3_middleByOrder_39 : decode cX3_middleByOrder 39 = .ok (.astore_n 3, 1) := by decide +kernel
theorem dX3_middleByOrder_40 : decode cX3_middleByOrder 40 = .ok (.aload_n 3, 1) := by decide +kernel
theorem dX3_middleByOrder_41 : decode cX3_middleByOrder 41 = .ok (.arraylength, 1) := by decide +kernel
theorem dX3_middleByOrder_42 : decode cX3_middleByOrder 42 = .ok (.istore 4, 2) := by decide +kernel
theorem dX3_middleByOrder_44 : decode cX3_middleByOrder 44 = .ok (.iconst 0, 1) := by decide +kernel
theorem dX3_middleByOrder_45 : decode cX3_middleByOrder 45 = .ok (.istore 5, 2) := by decide +kernel
theorem dX3_middleByOrder_47 : decode cX3_middleByOrder 47 = .ok (.iload 5, 2) := by decide +kernel
theorem dX3_middleByOrder_49 : decode cX3_middleByOrder 49 = .ok (.iload 4, 2) := by decide +kernel
theorem dX3_middleByOrder_51 : decode cX3_middleByOrder 51 = .ok (.if_icmp .ge 50, 3) := by decide +kernel
theorem dX3_middleByOrder_54 : decode cX3_middleByOrder 54 = .ok (.aload_n 3, 1) := by decide +kernel
theorem dX3_middleByOrder_55 : decode cX3_middleByOrder 55 = .ok (.iload 5, 2) := by decide +kernel
theorem dX3_middleByOrder_57 : decode cX3_middleByOrder 57 = .ok (.iaload, 1) := by decide +kernel
theorem dX3_middleByOrder_58 : decode cX3_middleByOrder 58 = .ok (.istore 6, 2) := by decide +kernel
theorem dX3_middleByOrder_60 : decode cX3_middleByOrder 60 = .ok (.iload_n 2, 1) := by decide +kernel
theorem dX3_middleByOrder_61 : decode cX3_middleByOrder 61 = .ok (.aload_n 0, 1) := by decide +kernel
theorem dX3_middleByOrder_62 : decode cX3_middleByOrder 62 = .ok (.getfield 15, 3) := by decide +kernel
theorem dX3_middleByOrder_65 : decode cX3_middleByOrder 65 = .ok (.iload 6, 2) := by decide +kernel
theorem dX3_middleByOrder_67 : decode cX3_middleByOrder 67 = .ok (.iaload, 1) := by decide +kernel
theorem dX3_middleByOrder_68 : decode cX3_middleByOrder 68 = .ok (.iadd, 1) := by decide +kernel
theorem dX3_middleByOrder_69 : decode cX3_middleByOrder 69 = .ok (.istore_n 2, 1) := by decide +kernel
theorem dX3_middleByOrder_70 : decode cX3_middleByOrder 70 = .ok (.aload_n 0, 1) := by decide +kernel
theorem dX3_middleByOrder_71 : decode cX3_middleByOrder 71 = .ok (.getfield 15, 3) := by decide +kernel
theorem dX3_middleByOrder_74 : decode cX3_middleByOrder 74 = .ok (.iload 6, 2) := by decide +kernel
theorem dX3_middleByOrder_76 : decode cX3_middleByOrder 76 = .ok (.iaload, 1) := by decide +kernel
theorem dX3_middleByOrder_77 : decode cX3_middleByOrder 77 = .ok (.ifCond .le 18, 3) := by decide +kernel
theorem dX3_middleByOrder_80 : decode cX3_middleByOrder 80 = .ok (.iconst 2, 1) := by decide +kernel
theorem dX3_middleByOrder_81 : decode cX3_middleByOrder 81 = .ok (.iload_n 2, 1) := by decide +kernel
theorem dX3_middleByOrder_82 : decode cX3_middleByOrder 82 = .ok (.imul, 1) := by decide +kernel
theorem dX3_middleByOrder_83 : decode cX3_middleByOrder 83 = .ok (.iload_n 1, 1) := by decide +kernel
theorem dX3_middleByOrder_84 : decode cX3_middleByOrder 84 = .ok (.if_icmp .lt 11, 3) := by decide +kernel
theorem dX3_middleByOrder_87 : decode cX3_middleByOrder 87 = .ok (.aload_n 0, 1) := by decide +kernel
theorem dX3_middleByOrder_88 : decode cX3_middleByOrder 88 = .ok (.getfield 9, 3) := by decide +kernel
theorem dX3_middleByOrder_91 : decode cX3_middleByOrder 91 = .ok (.iload 6, 2) := by decide +kernel
theorem dX3_middleByOrder_93 : decode cX3_middleByOrder 93 = .ok (.iaload, 1) := by decide +kernel
theorem dX3_middleByOrder_94 : decode cX3_middleByOrder 94 = .ok (.ireturn, 1) := by decide +kernel
theorem dX3_middleByOrder_95 : decode cX3_middleByOrder 95 = .ok (.iinc 5 1, 3) := by decide +kernel
theorem dX3_middleByOrder_98 : decode cX3_middleByOrder 98 = .ok (.goto (-51), 3) := by decide +kernel
theorem dX3_middleByOrder_101 : decode cX3_middleByOrder 101 = .ok (.iconst (-1), 1) := by decide +kernel
theorem dX3_middleByOrder_102 : decode cX3_middleByOrder 102 = .ok (.ireturn, 1) := by decide +kernel
theorem dX3_middleByAdding_0 : decode cX3_middleByAdding 0 = .ok (.aload_n 0, 1) := by decide +kernel
theorem dX3_middleByAdding_1 : decode cX3_middleByAdding 1 = .ok (.getfield 15, 3) := by decide +kernel
theorem dX3_middleByAdding_4 : decode cX3_middleByAdding 4 = .ok (.invokestatic 37, 3) := by decide +kernel
theorem dX3_middleByAdding_7 : decode cX3_middleByAdding 7 = .ok (.istore_n 1, 1) := by decide +kernel
theorem dX3_middleByAdding_8 : decode cX3_middleByAdding 8 = .ok (.iconst 0, 1) := by decide +kernel
theorem dX3_middleByAdding_9 : decode cX3_middleByAdding 9 = .ok (.istore_n 2, 1) := by decide +kernel
theorem dX3_middleByAdding_10 : decode cX3_middleByAdding 10 = .ok (.iload_n 2, 1) := by decide +kernel
theorem dX3_middleByAdding_11 : decode cX3_middleByAdding 11 = .ok (.bipush 7, 2) := by decide +kernel
theorem dX3_middleByAdding_13 : decode cX3_middleByAdding 13 = .ok (.if_icmp .ge 65, 3) := by decide +kernel
theorem dX3_middleByAdding_16 : decode cX3_middleByAdding 16 = .ok (.aload_n 0, 1) := by decide +kernel
theorem dX3_middleByAdding_17 : decode cX3_middleByAdding 17 = .ok (.aload_n 0, 1) := by decide +kernel
theorem dX3_middleByAdding_18 : decode cX3_middleByAdding 18 = .ok (.getfield 9, 3) := by decide +kernel
theorem dX3_middleByAdding_21 : decode cX3_middleByAdding 21 = .ok (.iload_n 2, 1) := by decide +kernel
theorem dX3_middleByAdding_22 : decode cX3_middleByAdding 22 = .ok (.iaload, 1) := by decide +kernel
theorem dX3_middleByAdding_23 : decode cX3_middleByAdding 23 = .ok (.invokevirtual 41, 3) := by decide +kernel
theorem dX3_middleByAdding_26 : decode cX3_middleByAdding 26 = .ok (.istore_n 3, 1) := by decide +kernel
theorem dX3_middleByAdding_27 : decode cX3_middleByAdding 27 = .ok (.iload_n 3, 1) := by decide +kernel
theorem dX3_middleByAdding_28 : decode cX3_middleByAdding 28 = .ok (.aload_n 0, 1) := by decide +kernel
theorem dX3_middleByAdding_29 : decode cX3_middleByAdding 29 = .ok (.aload_n 0, 1) := by decide +kernel
theorem dX3_middleByAdding_30 : decode cX3_middleByAdding 30 = .ok (.getfield 9, 3) := by decide +kernel
theorem dX3_middleByAdding_33 : decode cX3_middleByAdding 33 = .ok (.iload_n 2, 1) := by decide +kernel
theorem dX3_middleByAdding_34 : decode cX3_middleByAdding 34 = .ok (.iaload, 1) := by decide +kernel
theorem dX3_middleByAdding_35 : decode cX3_middleByAdding 35 = .ok (.invokevirtual 44, 3) := by decide +kernel
theorem dX3_middleByAdding_38 : decode cX3_middleByAdding 38 = .ok (.iadd, 1) := by decide +kernel
theorem dX3_middleByAdding_39 : decode cX3_middleByAdding 39 = .ok (.istore 4, 2) := by decide +kernel
theorem dX3_middleByAdding_41 : decode cX3_middleByAdding 41 = .ok (.aload_n 0, 1) := by decide +kernel
theorem dX3_middleByAdding_42 : decode cX3_middleByAdding 42 = .ok (.getfield 15, 3) := by decide +kernel
theorem dX3_middleByAdding_45 : decode cX3_middleByAdding 45 = .ok (.iload_n 2, 1) := by decide +kernel
theorem dX3_middleByAdding_46 : decode cX3_middleByAdding 46 = .ok (.iaload, 1) := by decide +kernel
theorem dX3_middleByAdding_47 : decode cX3_middleByAdding 47 = .ok (.ifCond .le 25, 3) := by decide +kernel
theorem dX3_middleByAdding_50 : decode cX3_middleByAdding 50 = .ok (.iconst 2, 1) := by decide +kernel
theorem dX3_middleByAdding_51 : decode cX3_middleByAdding 51 = .ok (.iload_n 3, 1) := by decide +kernel
theorem dX3_middleByAdding_52 : decode cX3_middleByAdding 52 = .ok (.imul, 1) := by decide +kernel
theorem dX3_middleByAdding_53 : decode cX3_middleByAdding 53 = .ok (.iload_n 1, 1) := by decide +kernel
theorem dX3_middleByAdding_54 : decode cX3_middleByAdding 54 = .ok (.if_icmp .ge 18, 3) := by decide +kernel
theorem dX3_middleByAdding_57 : decode cX3_middleByAdding 57 = .ok (.iconst 2, 1) := by decide +kernel
theorem dX3_middleByAdding_58 : decode cX3_middleByAdding 58 = .ok (.iload 4, 2) := by decide +kernel
theorem dX3_middleByAdding_60 : decode cX3_middleByAdding 60 = .ok (.imul, 1) := by decide +kernel
theorem dX3_middleByAdding_61 : decode cX3_middleByAdding 61 = .ok (.iload_n 1, 1) := by decide +kernel
theorem dX3_middleByAdding_62 : decode cX3_middleByAdding 62 = .ok (.if_icmp .lt 10, 3) := by decide +kernel
theorem dX3_middleByAdding_65 : decode cX3_middleByAdding 65 = .ok (.aload_n 0, 1) := by decide +kernel
theorem dX3_middleByAdding_66 : decode cX3_middleByAdding 66 = .ok (.getfield 9, 3) := by decide +kernel
theorem dX3_middleByAdding_69 : decode cX3_middleByAdding 69 = .ok (.iload_n 2, 1) := by decide +kernel
theorem dX3_middleByAdding_70 : decode cX3_middleByAdding 70 = .ok (.iaload, 1) := by decide +kernel
theorem dX3_middleByAdding_71 : decode cX3_middleByAdding 71 = .ok (.ireturn, 1) := by decide +kernel
theorem dX3_middleByAdding_72 : decode cX3_middleByAdding 72 = .ok (.iinc 2 1, 3) := by decide +kernel
theorem dX3_middleByAdding_75 : decode cX3_middleByAdding 75 = .ok (.goto (-65), 3) := by decide +kernel
theorem dX3_middleByAdding_78 : decode cX3_middleByAdding 78 = .ok (.iconst (-1), 1) := by decide +kernel
theorem dX3_middleByAdding_79 : decode cX3_middleByAdding 79 = .ok (.ireturn, 1) := by decide +kernel
theorem dX3_weightBelow_0 : decode cX3_weightBelow 0 = .ok (.iconst 0, 1) := by decide +kernel
theorem dX3_weightBelow_1 : decode cX3_weightBelow 1 = .ok (.istore_n 2, 1) := by decide +kernel
theorem dX3_weightBelow_2 : decode cX3_weightBelow 2 = .ok (.iconst 0, 1) := by decide +kernel
theorem dX3_weightBelow_3 : decode cX3_weightBelow 3 = .ok (.istore_n 3, 1) := by decide +kernel
theorem dX3_weightBelow_4 : decode cX3_weightBelow 4 = .ok (.iload_n 3, 1) := by decide +kernel
theorem dX3_weightBelow_5 : decode cX3_weightBelow 5 = .ok (.bipush 7, 2) := by decide +kernel
theorem dX3_weightBelow_7 : decode cX3_weightBelow 7 = .ok (.if_icmp .ge 32, 3) := by decide +kernel
theorem dX3_weightBelow_10 : decode cX3_weightBelow 10 = .ok (.iload_n 2, 1) := by decide +kernel
theorem dX3_weightBelow_11 : decode cX3_weightBelow 11 = .ok (.aload_n 0, 1) := by decide +kernel
theorem dX3_weightBelow_12 : decode cX3_weightBelow 12 = .ok (.getfield 9, 3) := by decide +kernel
theorem dX3_weightBelow_15 : decode cX3_weightBelow 15 = .ok (.iload_n 3, 1) := by decide +kernel
theorem dX3_weightBelow_16 : decode cX3_weightBelow 16 = .ok (.iaload, 1) := by decide +kernel
theorem dX3_weightBelow_17 : decode cX3_weightBelow 17 = .ok (.iload_n 1, 1) := by decide +kernel
theorem dX3_weightBelow_18 : decode cX3_weightBelow 18 = .ok (.if_icmp .ge 12, 3) := by decide +kernel
theorem dX3_weightBelow_21 : decode cX3_weightBelow 21 = .ok (.aload_n 0, 1) := by decide +kernel
theorem dX3_weightBelow_22 : decode cX3_weightBelow 22 = .ok (.getfield 15, 3) := by decide +kernel
theorem dX3_weightBelow_25 : decode cX3_weightBelow 25 = .ok (.iload_n 3, 1) := by decide +kernel
theorem dX3_weightBelow_26 : decode cX3_weightBelow 26 = .ok (.iaload, 1) := by decide +kernel
theorem dX3_weightBelow_27 : decode cX3_weightBelow 27 = .ok (.goto 4, 3) := by decide +kernel
theorem dX3_weightBelow_30 : decode cX3_weightBelow 30 = .ok (.iconst 0, 1) := by decide +kernel
theorem dX3_weightBelow_31 : decode cX3_weightBelow 31 = .ok (.iadd, 1) := by decide +kernel
theorem dX3_weightBelow_32 : decode cX3_weightBelow 32 = .ok (.istore_n 2, 1) := by decide +kernel
theorem dX3_weightBelow_33 : decode cX3_weightBelow 33 = .ok (.iinc 3 1, 3) := by decide +kernel
theorem dX3_weightBelow_36 : decode cX3_weightBelow 36 = .ok (.goto (-32), 3) := by decide +kernel
theorem dX3_weightBelow_39 : decode cX3_weightBelow 39 = .ok (.iload_n 2, 1) := by decide +kernel
theorem dX3_weightBelow_40 : decode cX3_weightBelow 40 = .ok (.ireturn, 1) := by decide +kernel
theorem dX3_weightAt_0 : decode cX3_weightAt 0 = .ok (.iconst 0, 1) := by decide +kernel
theorem dX3_weightAt_1 : decode cX3_weightAt 1 = .ok (.istore_n 2, 1) := by decide +kernel
theorem dX3_weightAt_2 : decode cX3_weightAt 2 = .ok (.iconst 0, 1) := by decide +kernel
theorem dX3_weightAt_3 : decode cX3_weightAt 3 = .ok (.istore_n 3, 1) := by decide +kernel
theorem dX3_weightAt_4 : decode cX3_weightAt 4 = .ok (.iload_n 3, 1) := by decide +kernel
theorem dX3_weightAt_5 : decode cX3_weightAt 5 = .ok (.bipush 7, 2) := by decide +kernel
theorem dX3_weightAt_7 : decode cX3_weightAt 7 = .ok (.if_icmp .ge 32, 3) := by decide +kernel
theorem dX3_weightAt_10 : decode cX3_weightAt 10 = .ok (.iload_n 2, 1) := by decide +kernel
theorem dX3_weightAt_11 : decode cX3_weightAt 11 = .ok (.aload_n 0, 1) := by decide +kernel
theorem dX3_weightAt_12 : decode cX3_weightAt 12 = .ok (.getfield 9, 3) := by decide +kernel
theorem dX3_weightAt_15 : decode cX3_weightAt 15 = .ok (.iload_n 3, 1) := by decide +kernel
theorem dX3_weightAt_16 : decode cX3_weightAt 16 = .ok (.iaload, 1) := by decide +kernel
theorem dX3_weightAt_17 : decode cX3_weightAt 17 = .ok (.iload_n 1, 1) := by decide +kernel
theorem dX3_weightAt_18 : decode cX3_weightAt 18 = .ok (.if_icmp .ne 12, 3) := by decide +kernel
theorem dX3_weightAt_21 : decode cX3_weightAt 21 = .ok (.aload_n 0, 1) := by decide +kernel
theorem dX3_weightAt_22 : decode cX3_weightAt 22 = .ok (.getfield 15, 3) := by decide +kernel
theorem dX3_weightAt_25 : decode cX3_weightAt 25 = .ok (.iload_n 3, 1) := by decide +kernel
theorem dX3_weightAt_26 : decode cX3_weightAt 26 = .ok (.iaload, 1) := by decide +kernel
theorem dX3_weightAt_27 : decode cX3_weightAt 27 = .ok (.goto 4, 3) := by decide +kernel
theorem dX3_weightAt_30 : decode cX3_weightAt 30 = .ok (.iconst 0, 1) := by decide +kernel
theorem dX3_weightAt_31 : decode cX3_weightAt 31 = .ok (.iadd, 1) := by decide +kernel
theorem dX3_weightAt_32 : decode cX3_weightAt 32 = .ok (.istore_n 2, 1) := by decide +kernel
theorem dX3_weightAt_33 : decode cX3_weightAt 33 = .ok (.iinc 3 1, 3) := by decide +kernel
theorem dX3_weightAt_36 : decode cX3_weightAt 36 = .ok (.goto (-32), 3) := by decide +kernel
theorem dX3_weightAt_39 : decode cX3_weightAt 39 = .ok (.iload_n 2, 1) := by decide +kernel
theorem dX3_weightAt_40 : decode cX3_weightAt 40 = .ok (.ireturn, 1) := by decide +kernel
theorem dX4_init_0 : decode cX4_init 0 = .ok (.aload_n 0, 1) := by decide +kernel
theorem dX4_init_1 : decode cX4_init 1 = .ok (.invokespecial 3, 3) := by decide +kernel
theorem dX4_init_4 : decode cX4_init 4 = .ok (.aload_n 0, 1) := by decide +kernel
theorem dX4_init_5 : decode cX4_init 5 = .ok (.new 9, 3) := by decide +kernel
theorem dX4_init_8 : decode cX4_init 8 = .ok (.dup, 1) := by decide +kernel
theorem dX4_init_9 : decode cX4_init 9 = .ok (.invokespecial 11, 3) := by decide +kernel
theorem dX4_init_12 : decode cX4_init 12 = .ok (.putfield 12, 3) := by decide +kernel
theorem dX4_init_15 : decode cX4_init 15 = .ok (.aload_n 0, 1) := by decide +kernel
theorem dX4_init_16 : decode cX4_init 16 = .ok (.new 18, 3) := by decide +kernel
theorem dX4_init_19 : decode cX4_init 19 = .ok (.dup, 1) := by decide +kernel
theorem dX4_init_20 : decode cX4_init 20 = .ok (.invokespecial 20, 3) := by decide +kernel
theorem dX4_init_23 : decode cX4_init 23 = .ok (.putfield 21, 3) := by decide +kernel
theorem dX4_init_26 : decode cX4_init 26 = .ok (.aload_n 0, 1) := by decide +kernel
theorem dX4_init_27 : decode cX4_init 27 = .ok (.iconst 2, 1) := by decide +kernel
theorem dX4_init_28 : decode cX4_init 28 = .ok (.newarray .int, 2) := by decide +kernel
theorem dX4_init_30 : decode cX4_init 30 = .ok (.putfield 25, 3) := by decide +kernel
theorem dX4_init_33 : decode cX4_init 33 = .ok (.aload_n 0, 1) := by decide +kernel
theorem dX4_init_34 : decode cX4_init 34 = .ok (.getfield 25, 3) := by decide +kernel
theorem dX4_init_37 : decode cX4_init 37 = .ok (.iconst 0, 1) := by decide +kernel
theorem dX4_init_38 : decode cX4_init 38 = .ok (.bipush 15, 2) := by decide +kernel
theorem dX4_init_40 : decode cX4_init 40 = .ok (.iastore, 1) := by decide +kernel
theorem dX4_init_41 : decode cX4_init 41 = .ok (.aload_n 0, 1) := by decide +kernel
theorem dX4_init_42 : decode cX4_init 42 = .ok (.getfield 25, 3) := by decide +kernel
theorem dX4_init_45 : decode cX4_init 45 = .ok (.iconst 1, 1) := by decide +kernel
theorem dX4_init_46 : decode cX4_init 46 = .ok (.iconst 5, 1) := by decide +kernel
theorem dX4_init_47 : decode cX4_init 47 = .ok (.iastore, 1) := by decide +kernel
theorem dX4_init_48 : decode cX4_init 48 = .ok (.return_, 1) := by decide +kernel
theorem dX4_copyFrom_0 : decode cX4_copyFrom 0 = .ok (.aload_n 0, 1) := by decide +kernel
theorem dX4_copyFrom_1 : decode cX4_copyFrom 1 = .ok (.getfield 12, 3) := by decide +kernel
theorem dX4_copyFrom_4 : decode cX4_copyFrom 4 = .ok (.aload_n 1, 1) := by decide +kernel
theorem dX4_copyFrom_5 : decode cX4_copyFrom 5 = .ok (.getfield 12, 3) := by decide +kernel
theorem dX4_copyFrom_8 : decode cX4_copyFrom 8 = .ok (.invokevirtual 29, 3) := by decide +kernel
theorem dX4_copyFrom_11 : decode cX4_copyFrom 11 = .ok (.aload_n 0, 1) := by decide +kernel
theorem dX4_copyFrom_12 : decode cX4_copyFrom 12 = .ok (.getfield 21, 3) := by decide +kernel
theorem dX4_copyFrom_15 : decode cX4_copyFrom 15 = .ok (.aload_n 1, 1) := by decide +kernel
theorem dX4_copyFrom_16 : decode cX4_copyFrom 16 = .ok (.getfield 21, 3) := by decide +kernel
theorem dX4_copyFrom_19 : decode cX4_copyFrom 19 = .ok (.invokevirtual 33, 3) := by decide +kernel
theorem dX4_copyFrom_22 : decode cX4_copyFrom 22 = .ok (.aload_n 1, 1) := by decide +kernel
theorem dX4_copyFrom_23 : decode cX4_copyFrom 23 = .ok (.getfield 25, 3) := by decide +kernel
theorem dX4_copyFrom_26 : decode cX4_copyFrom 26 = .ok (.aload_n 0, 1) := by decide +kernel
theorem dX4_copyFrom_27 : decode cX4_copyFrom 27 = .ok (.getfield 25, 3) := by decide +kernel
theorem dX4_copyFrom_30 : decode cX4_copyFrom 30 = .ok (.invokestatic 36, 3) := by decide +kernel
theorem dX4_copyFrom_33 : decode cX4_copyFrom 33 = .ok (.aload_n 0, 1) := by decide +kernel
theorem dX4_copyFrom_34 : decode cX4_copyFrom 34 = .ok (.aload_n 1, 1) := by decide +kernel
theorem dX4_copyFrom_35 : decode cX4_copyFrom 35 = .ok (.getfield 40, 3) := by decide +kernel
theorem dX4_copyFrom_38 : decode cX4_copyFrom 38 = .ok (.putfield 40, 3) := by decide +kernel
theorem dX4_copyFrom_41 : decode cX4_copyFrom 41 = .ok (.aload_n 0, 1) := by decide +kernel
theorem dX4_copyFrom_42 : decode cX4_copyFrom 42 = .ok (.aload_n 1, 1) := by decide +kernel
theorem dX4_copyFrom_43 : decode cX4_copyFrom 43 = .ok (.getfield 44, 3) := by decide +kernel
theorem dX4_copyFrom_46 : decode cX4_copyFrom 46 = .ok (.putfield 44, 3) := by decide +kernel
theorem dX4_copyFrom_49 : decode cX4_copyFrom 49 = .ok (.aload_n 0, 1) := by decide +kernel
theorem dX4_copyFrom_50 : decode cX4_copyFrom 50 = .ok (.aload_n 1, 1) := by decide +kernel
theorem dX4_copyFrom_51 : decode cX4_copyFrom 51 = .ok (.getfield 47, 3) := by decide +kernel
theorem dX4_copyFrom_54 : decode cX4_copyFrom 54 = .ok (.putfield 47, 3) := by decide +kernel
theorem dX4_copyFrom_57 : decode cX4_copyFrom 57 = .ok (.return_, 1) := by decide +kernel
theorem dX4_wordOf_0 : decode cX4_wordOf 0 = .ok (.aload_n 0, 1) := by decide +kernel
theorem dX4_wordOf_1 : decode cX4_wordOf 1 = .ok (.getfield 21, 3) := by decide +kernel
theorem dX4_wordOf_4 : decode cX4_wordOf 4 = .ok (.iload_n 1, 1) := by decide +kernel
theorem dX4_wordOf_5 : decode cX4_wordOf 5 = .ok (.aload_n 0, 1) := by decide +kernel
theorem dX4_wordOf_6 : decode cX4_wordOf 6 = .ok (.getfield 12, 3) := by decide +kernel
theorem dX4_wordOf_9 : decode cX4_wordOf 9 = .ok (.getfield 50, 3) := by decide +kernel
theorem dX4_wordOf_12 : decode cX4_wordOf 12 = .ok (.iload_n 1, 1) := by decide +kernel
theorem dX4_wordOf_13 : decode cX4_wordOf 13 = .ok (.iaload, 1) := by decide +kernel
theorem dX4_wordOf_14 : decode cX4_wordOf 14 = .ok (.invokevirtual 53, 3) := by decide +kernel
theorem dX4_wordOf_17 : decode cX4_wordOf 17 = .ok (.ireturn, 1) := by decide +kernel
theorem dX4_hear_0 : decode cX4_hear 0 = .ok (.aload_n 0, 1) := by decide +kernel
theorem dX4_hear_1 : decode cX4_hear 1 = .ok (.dup, 1) := by decide +kernel
theorem dX4_hear_2 : decode cX4_hear 2 = .ok (.getfield 44, 3) := by decide +kernel
theorem dX4_hear_5 : decode cX4_hear 5 = .ok (.iconst 1, 1) := by decide +kernel
theorem dX4_hear_6 : decode cX4_hear 6 = .ok (.iadd, 1) := by decide +kernel
theorem dX4_hear_7 : decode cX4_hear 7 = .ok (.putfield 44, 3) := by decide +kernel
theorem dX4_hear_10 : decode cX4_hear 10 = .ok (.iload_n 1, 1) := by decide +kernel
theorem dX4_hear_11 : decode cX4_hear 11 = .ok (.aload_n 0, 1) := by decide +kernel
theorem dX4_hear_12 : decode cX4_hear 12 = .ok (.getfield 40, 3) := by decide +kernel
theorem dX4_hear_15 : decode cX4_hear 15 = .ok (.if_icmp .le 11, 3) := by decide +kernel
theorem dX4_hear_18 : decode cX4_hear 18 = .ok (.aload_n 0, 1) := by decide +kernel
theorem dX4_hear_19 : decode cX4_hear 19 = .ok (.iload_n 1, 1) := by decide +kernel
theorem dX4_hear_20 : decode cX4_hear 20 = .ok (.putfield 40, 3) := by decide +kernel
theorem dX4_hear_23 : decode cX4_hear 23 = .ok (.goto 13, 3) := by decide +kernel
theorem dX4_hear_26 : decode cX4_hear 26 = .ok (.aload_n 0, 1) := by decide +kernel
theorem dX4_hear_27 : decode cX4_hear 27 = .ok (.dup, 1) := by decide +kernel
theorem dX4_hear_28 : decode cX4_hear 28 = .ok (.getfield 47, 3) := by decide +kernel
theorem dX4_hear_31 : decode cX4_hear 31 = .ok (.iconst 1, 1) := by decide +kernel
theorem dX4_hear_32 : decode cX4_hear 32 = .ok (.iadd, 1) := by decide +kernel
theorem dX4_hear_33 : decode cX4_hear 33 = .ok (.putfield 47, 3) := by decide +kernel
theorem dX4_hear_36 : decode cX4_hear 36 = .ok (.return_, 1) := by decide +kernel
theorem dX4_settleQuarrels_0 : decode cX4_settleQuarrels 0 = .ok (.iconst 0, 1) := by decide +kernel
theorem dX4_settleQuarrels_1 : decode cX4_settleQuarrels 1 = .ok (.istore_n 2, 1) := by decide +kernel
theorem dX4_settleQuarrels_2 : decode cX4_settleQuarrels 2 = .ok (.iload_n 2, 1) := by decide +kernel
theorem dX4_settleQuarrels_3 : decode cX4_settleQuarrels 3 = .ok (.bipush 7, 2) := by decide +kernel
theorem dX4_settleQuarrels_5 : decode cX4_settleQuarrels 5 = .ok (.if_icmp .ge 19, 3) := by decide +kernel
theorem dX4_settleQuarrels_8 : decode cX4_settleQuarrels 8 = .ok (.aload_n 0, 1) := by decide +kernel
theorem dX4_settleQuarrels_9 : decode cX4_settleQuarrels 9 = .ok (.aload_n 1, 1) := by decide +kernel
theorem dX4_settleQuarrels_10 : decode cX4_settleQuarrels 10 = .ok (.iload_n 2, 1) := by decide +kernel
theorem dX4_settleQuarrels_11 : decode cX4_settleQuarrels 11 = .ok (.iload_n 2, 1) := by decide +kernel
theorem dX4_settleQuarrels_12 : decode cX4_settleQuarrels 12 = .ok (.invokestatic 57, 3) := by decide +kernel
theorem dX4_settleQuarrels_15 : decode cX4_settleQuarrels 15 = .ok (.invokevirtual 61, 3) := by decide +kernel
theorem dX4_settleQuarrels_18 : decode cX4_settleQuarrels 18 = .ok (.iinc 2 1, 3) := by decide +kernel
theorem dX4_settleQuarrels_21 : decode cX4_settleQuarrels 21 = .ok (.goto (-19), 3) := by decide +kernel
theorem dX4_settleQuarrels_24 : decode cX4_settleQuarrels 24 = .ok (.return_, 1) := by decide +kernel
theorem dX4_settleQuarrel_0 : decode cX4_settleQuarrel 0 = .ok (.aload_n 0, 1) := by decide +kernel
theorem dX4_settleQuarrel_1 : decode cX4_settleQuarrel 1 = .ok (.aload_n 1, 1) := by decide +kernel
theorem dX4_settleQuarrel_2 : decode cX4_settleQuarrel 2 = .ok (.iload_n 2, 1) := by decide +kernel
theorem dX4_settleQuarrel_3 : decode cX4_settleQuarrel 3 = .ok (.iaload, 1) := by decide +kernel
theorem dX4_settleQuarrel_4 : decode cX4_settleQuarrel 4 = .ok (.aload_n 1, 1) := by decide +kernel
theorem dX4_settleQuarrel_5 : decode cX4_settleQuarrel 5 = .ok (.iload_n 3, 1) := by decide +kernel
theorem dX4_settleQuarrel_6 : decode cX4_settleQuarrel 6 = .ok (.iaload, 1) := by decide +kernel
theorem dX4_settleQuarrel_7 : decode cX4_settleQuarrel 7 = .ok (.invokevirtual 65, 3) := by decide +kernel
theorem dX4_settleQuarrel_10 : decode cX4_settleQuarrel 10 = .ok (.ifCond .ne 4, 3) := by decide +kernel
theorem dX4_settleQuarrel_13 : decode cX4_settleQuarrel 13 = .ok (.return_, 1) := by decide +kernel
theorem dX4_settleQuarrel_14 : decode cX4_settleQuarrel 14 = .ok (.aload_n 1, 1) := by decide +kernel
theorem dX4_settleQuarrel_15 : decode cX4_settleQuarrel 15 = .ok (.iload_n 2, 1) := by decide +kernel
theorem dX4_settleQuarrel_16 : decode cX4_settleQuarrel 16 = .ok (.iaload, 1) := by decide +kernel
theorem dX4_settleQuarrel_17 : decode cX4_settleQuarrel 17 = .ok (.aload_n 0, 1) := by decide +kernel
theorem dX4_settleQuarrel_18 : decode cX4_settleQuarrel 18 = .ok (.getfield 40, 3) := by decide +kernel
theorem dX4_settleQuarrel_21 : decode cX4_settleQuarrel 21 = .ok (.invokestatic 69, 3) := by decide +kernel
theorem dX4_settleQuarrel_24 : decode cX4_settleQuarrel 24 = .ok (.istore 4, 2) := by decide +kernel
theorem dX4_settleQuarrel_26 : decode cX4_settleQuarrel 26 = .ok (.aload_n 1, 1) := by decide +kernel
theorem dX4_settleQuarrel_27 : decode cX4_settleQuarrel 27 = .ok (.iload_n 3, 1) := by decide +kernel
theorem dX4_settleQuarrel_28 : decode cX4_settleQuarrel 28 = .ok (.iaload, 1) := by decide +kernel
theorem dX4_settleQuarrel_29 : decode cX4_settleQuarrel 29 = .ok (.aload_n 0, 1) := by decide +kernel
theorem dX4_settleQuarrel_30 : decode cX4_settleQuarrel 30 = .ok (.getfield 40, 3) := by decide +kernel
theorem dX4_settleQuarrel_33 : decode cX4_settleQuarrel 33 = .ok (.invokestatic 69, 3) := by decide +kernel
theorem dX4_settleQuarrel_36 : decode cX4_settleQuarrel 36 = .ok (.istore 5, 2) := by decide +kernel
theorem dX4_settleQuarrel_38 : decode cX4_settleQuarrel 38 = .ok (.iload 4, 2) := by decide +kernel
theorem dX4_settleQuarrel_40 : decode cX4_settleQuarrel 40 = .ok (.iload 5, 2) := by decide +kernel
theorem dX4_settleQuarrel_42 : decode cX4_settleQuarrel 42 = .ok (.if_icmp .le 14, 3) := by decide +kernel
theorem dX4_settleQuarrel_45 : decode cX4_settleQuarrel 45 = .ok (.aload_n 0, 1) := by decide +kernel
theorem dX4_settleQuarrel_46 : decode cX4_settleQuarrel 46 = .ok (.getfield 21, 3) := by decide +kernel
theorem dX4_settleQuarrel_49 : decode cX4_settleQuarrel 49 = .ok (.iload_n 2, 1) := by decide +kernel
theorem dX4_settleQuarrel_50 : decode cX4_settleQuarrel 50 = .ok (.invokevirtual 72, 3) := by decide +kernel
theorem dX4_settleQuarrel_53 : decode cX4_settleQuarrel 53 = .ok (.goto 18, 3) := by decide +kernel
theorem dX4_settleQuarrel_56 : decode cX4_settleQuarrel 56 = .ok (.iload 5, 2) := by decide +kernel
theorem dX4_settleQuarrel_58 : decode cX4_settleQuarrel 58 = .ok (.iload 4, 2) := by decide +kernel
theorem dX4_settleQuarrel_60 : decode cX4_settleQuarrel 60 = .ok (.if_icmp .le 11, 3) := by decide +kernel
theorem dX4_settleQuarrel_63 : decode cX4_settleQuarrel 63 = .ok (.aload_n 0, 1) := by decide +kernel
theorem dX4_settleQuarrel_64 : decode cX4_settleQuarrel 64 = .ok (.getfield 21, 3) := by decide +kernel
theorem dX4_settleQuarrel_67 : decode cX4_settleQuarrel 67 = .ok (.iload_n 3, 1) := by decide +kernel
theorem dX4_settleQuarrel_68 : decode cX4_settleQuarrel 68 = .ok (.invokevirtual 72, 3) := by decide +kernel
theorem dX4_settleQuarrel_71 : decode cX4_settleQuarrel 71 = .ok (.return_, 1) := by decide +kernel
theorem dX4_wordsQuarrel_0 : decode cX4_wordsQuarrel 0 = .ok (.iload_n 1, 1) := by decide +kernel
theorem dX4_wordsQuarrel_1 : decode cX4_wordsQuarrel 1 = .ok (.iload_n 2, 1) := by decide +kernel
theorem dX4_wordsQuarrel_2 : decode cX4_wordsQuarrel 2 = .ok (.invokestatic 69, 3) := by decide +kernel
theorem dX4_wordsQuarrel_5 : decode cX4_wordsQuarrel 5 = .ok (.aload_n 0, 1) := by decide +kernel
theorem dX4_wordsQuarrel_6 : decode cX4_wordsQuarrel 6 = .ok (.getfield 25, 3) := by decide +kernel
theorem dX4_wordsQuarrel_9 : decode cX4_wordsQuarrel 9 = .ok (.iconst 0, 1) := by decide +kernel
theorem dX4_wordsQuarrel_10 : decode cX4_wordsQuarrel 10 = .ok (.iaload, 1) := by decide +kernel
theorem dX4_wordsQuarrel_11 : decode cX4_wordsQuarrel 11 = .ok (.if_icmp .le 7, 3) := by decide +kernel
theorem dX4_wordsQuarrel_14 : decode cX4_wordsQuarrel 14 = .ok (.iconst 1, 1) := by decide +kernel
theorem dX4_wordsQuarrel_15 : decode cX4_wordsQuarrel 15 = .ok (.goto 4, 3) := by decide +kernel
theorem dX4_wordsQuarrel_18 : decode cX4_wordsQuarrel 18 = .ok (.iconst 0, 1) := by decide +kernel
theorem dX4_wordsQuarrel_19 : decode cX4_wordsQuarrel 19 = .ok (.ireturn, 1) := by decide +kernel
theorem dX4_quarrelsBehind_0 : decode cX4_quarrelsBehind 0 = .ok (.aload_n 0, 1) := by decide +kernel
theorem dX4_quarrelsBehind_1 : decode cX4_quarrelsBehind 1 = .ok (.aload_n 0, 1) := by decide +kernel
theorem dX4_quarrelsBehind_2 : decode cX4_quarrelsBehind 2 = .ok (.iload_n 1, 1) := by decide +kernel
theorem dX4_quarrelsBehind_3 : decode cX4_quarrelsBehind 3 = .ok (.invokevirtual 76, 3) := by decide +kernel
theorem dX4_quarrelsBehind_6 : decode cX4_quarrelsBehind 6 = .ok (.aload_n 0, 1) := by decide +kernel
theorem dX4_quarrelsBehind_7 : decode cX4_quarrelsBehind 7 = .ok (.iload_n 1, 1) := by decide +kernel
theorem dX4_quarrelsBehind_8 : decode cX4_quarrelsBehind 8 = .ok (.invokestatic 57, 3) := by decide +kernel
theorem dX4_quarrelsBehind_11 : decode cX4_quarrelsBehind 11 = .ok (.invokevirtual 76, 3) := by decide +kernel
theorem dX4_quarrelsBehind_14 : decode cX4_quarrelsBehind 14 = .ok (.invokevirtual 65, 3) := by decide +kernel
theorem dX4_quarrelsBehind_17 : decode cX4_quarrelsBehind 17 = .ok (.ireturn, 1) := by decide +kernel
theorem dX4_quarrels_0 : decode cX4_quarrels 0 = .ok (.iconst 0, 1) := by decide +kernel
theorem dX4_quarrels_1 : decode cX4_quarrels 1 = .ok (.istore_n 1, 1) := by decide +kernel
theorem dX4_quarrels_2 : decode cX4_quarrels 2 = .ok (.iconst 0, 1) := by decide +kernel
theorem dX4_quarrels_3 : decode cX4_quarrels 3 = .ok (.istore_n 2, 1) := by decide +kernel
theorem dX4_quarrels_4 : decode cX4_quarrels 4 = .ok (.iload_n 2, 1) := by decide +kernel
theorem dX4_quarrels_5 : decode cX4_quarrels 5 = .ok (.bipush 7, 2) := by decide +kernel
theorem dX4_quarrels_7 : decode cX4_quarrels 7 = .ok (.if_icmp .ge 25, 3) := by decide +kernel
theorem dX4_quarrels_10 : decode cX4_quarrels 10 = .ok (.iload_n 1, 1) := by decide +kernel
theorem dX4_quarrels_11 : decode cX4_quarrels 11 = .ok (.aload_n 0, 1) := by decide +kernel
theorem dX4_quarrels_12 : decode cX4_quarrels 12 = .ok (.iload_n 2, 1) := by decide +kernel
theorem dX4_quarrels_13 : decode cX4_quarrels 13 = .ok (.invokevirtual 79, 3) := by decide +kernel
theorem dX4_quarrels_16 : decode cX4_quarrels 16 = .ok (.ifCond .eq 7, 3) := by decide +kernel
theorem dX4_quarrels_19 : decode cX4_quarrels 19 = .ok (.iconst 1, 1) := by decide +kernel
theorem dX4_quarrels_20 : decode cX4_quarrels 20 = .ok (.goto 4, 3) := by decide +kernel
theorem dX4_quarrels_23 : decode cX4_quarrels 23 = .ok (.iconst 0, 1) := by decide +kernel
theorem dX4_quarrels_24 : decode cX4_quarrels 24 = .ok (.iadd, 1) := by decide +kernel
theorem dX4_quarrels_25 : decode cX4_quarrels 25 = .ok (.istore_n 1, 1) := by decide +kernel
theorem dX4_quarrels_26 : decode cX4_quarrels 26 = .ok (.iinc 2 1, 3) := by decide +kernel
theorem dX4_quarrels_29 : decode cX4_quarrels 29 = .ok (.goto (-25), 3) := by decide +kernel
theorem dX4_quarrels_32 : decode cX4_quarrels 32 = .ok (.iload_n 1, 1) := by decide +kernel
theorem dX4_quarrels_33 : decode cX4_quarrels 33 = .ok (.ireturn, 1) := by decide +kernel
theorem dX4_ticksToQuarrel_0 : decode cX4_ticksToQuarrel 0 = .ok (.iload_n 1, 1) := by decide +kernel
theorem dX4_ticksToQuarrel_1 : decode cX4_ticksToQuarrel 1 = .ok (.invokestatic 57, 3) := by decide +kernel
theorem dX4_ticksToQuarrel_4 : decode cX4_ticksToQuarrel 4 = .ok (.istore_n 2, 1) := by decide +kernel
theorem dX4_ticksToQuarrel_5 : decode cX4_ticksToQuarrel 5 = .ok (.aload_n 0, 1) := by decide +kernel
theorem dX4_ticksToQuarrel_6 : decode cX4_ticksToQuarrel 6 = .ok (.getfield 12, 3) := by decide +kernel
theorem dX4_ticksToQuarrel_9 : decode cX4_ticksToQuarrel 9 = .ok (.getfield 50, 3) := by decide +kernel
theorem dX4_ticksToQuarrel_12 : decode cX4_ticksToQuarrel 12 = .ok (.iload_n 1, 1) := by decide +kernel
theorem dX4_ticksToQuarrel_13 : decode cX4_ticksToQuarrel 13 = .ok (.iaload, 1) := by decide +kernel
theorem dX4_ticksToQuarrel_14 : decode cX4_ticksToQuarrel 14 = .ok (.istore_n 3, 1) := by decide +kernel
theorem dX4_ticksToQuarrel_15 : decode cX4_ticksToQuarrel 15 = .ok (.aload_n 0, 1) := by decide +kernel
theorem dX4_ticksToQuarrel_16 : decode cX4_ticksToQuarrel 16 = .ok (.getfield 12, 3) := by decide +kernel
theorem dX4_ticksToQuarrel_19 : decode cX4_ticksToQuarrel 19 = .ok (.getfield 50, 3) := by decide +kernel
theorem dX4_ticksToQuarrel_22 : decode cX4_ticksToQuarrel 22 = .ok (.iload_n 2, 1) := by decide +kernel
theorem dX4_ticksToQuarrel_23 : decode cX4_ticksToQuarrel 23 = .ok (.iaload, 1) := by decide +kernel
theorem dX4_ticksToQuarrel_24 : decode cX4_ticksToQuarrel 24 = .ok (.istore 4, 2) := by decide +kernel
theorem dX4_ticksToQuarrel_26 : decode cX4_ticksToQuarrel 26 = .ok (.iconst 0, 1) := by decide +kernel
theorem dX4_ticksToQuarrel_27 : decode cX4_ticksToQuarrel 27 = .ok (.istore 5, 2) := by decide +kernel
theorem dX4_ticksToQuarrel_29 : decode cX4_ticksToQuarrel 29 = .ok (.iload 5, 2) := by decide +kernel
theorem dX4_ticksToQuarrel_31 : decode cX4_ticksToQuarrel 31 = .ok (.sipush 200, 3) := by decide +kernel
theorem dX4_ticksToQuarrel_34 : decode cX4_ticksToQuarrel 34 = .ok (.if_icmp .gt 60, 3) := by decide +kernel
theorem dX4_ticksToQuarrel_37 : decode cX4_ticksToQuarrel 37 = .ok (.aload_n 0, 1) := by decide +kernel
theorem dX4_ticksToQuarrel_38 : decode cX4_ticksToQuarrel 38 = .ok (.aload_n 0, 1) := by decide +kernel
theorem dX4_ticksToQuarrel_39 : decode cX4_ticksToQuarrel 39 = .ok (.getfield 21, 3) := by decide +kernel
theorem dX4_ticksToQuarrel_42 : decode cX4_ticksToQuarrel 42 = .ok (.iload_n 1, 1) := by decide +kernel
theorem dX4_ticksToQuarrel_43 : decode cX4_ticksToQuarrel 43 = .ok (.iload_n 3, 1) := by decide +kernel
theorem dX4_ticksToQuarrel_44 : decode cX4_ticksToQuarrel 44 = .ok (.invokevirtual 53, 3) := by decide +kernel
theorem dX4_ticksToQuarrel_47 : decode cX4_ticksToQuarrel 47 = .ok (.aload_n 0, 1) := by decide +kernel
theorem dX4_ticksToQuarrel_48 : decode cX4_ticksToQuarrel 48 = .ok (.getfield 21, 3) := by decide +kernel
theorem dX4_ticksToQuarrel_51 : decode cX4_ticksToQuarrel 51 = .ok (.iload_n 2, 1) := by decide +kernel
theorem dX4_ticksToQuarrel_52 : decode cX4_ticksToQuarrel 52 = .ok (.iload 4, 2) := by decide +kernel
theorem dX4_ticksToQuarrel_54 : decode cX4_ticksToQuarrel 54 = .ok (.invokevirtual 53, 3) := by decide +kernel
theorem dX4_ticksToQuarrel_57 : decode cX4_ticksToQuarrel 57 = .ok (.invokevirtual 65, 3) := by decide +kernel
theorem dX4_ticksToQuarrel_60 : decode cX4_ticksToQuarrel 60 = .ok (.ifCond .eq 6, 3) := by decide +kernel
theorem dX4_ticksToQuarrel_63 : decode cX4_ticksToQuarrel 63 = .ok (.iload 5, 2) := by decide +kernel
theorem dX4_ticksToQuarrel_65 : decode cX4_ticksToQuarrel 65 = .ok (.ireturn, 1) := by decide +kernel
theorem dX4_ticksToQuarrel_66 : decode cX4_ticksToQuarrel 66 = .ok (.aload_n 0, 1) := by decide +kernel
theorem dX4_ticksToQuarrel_67 : decode cX4_ticksToQuarrel 67 = .ok (.getfield 12, 3) := by decide +kernel
theorem dX4_ticksToQuarrel_70 : decode cX4_ticksToQuarrel 70 = .ok (.iload_n 1, 1) := by decide +kernel
theorem dX4_ticksToQuarrel_71 : decode cX4_ticksToQuarrel 71 = .ok (.iload_n 3, 1) := by decide +kernel
theorem dX4_ticksToQuarrel_72 : decode cX4_ticksToQuarrel 72 = .ok (.invokevirtual 83, 3) := by decide +kernel
theorem dX4_ticksToQuarrel_75 : decode cX4_ticksToQuarrel 75 = .ok (.istore_n 3, 1) := by decide +kernel
theorem dX4_ticksToQuarrel_76 : decode cX4_ticksToQuarrel 76 = .ok (.aload_n 0, 1) := by decide +kernel
theorem dX4_ticksToQuarrel_77 : decode cX4_ticksToQuarrel 77 = .ok (.getfield 12, 3) := by decide +kernel
theorem dX4_ticksToQuarrel_80 : decode cX4_ticksToQuarrel 80 = .ok (.iload_n 2, 1) := by decide +kernel
theorem dX4_ticksToQuarrel_81 : decode cX4_ticksToQuarrel 81 = .ok (.iload 4, 2) := by decide +kernel
theorem dX4_ticksToQuarrel_83 : decode cX4_ticksToQuarrel 83 = .ok (.invokevirtual 83, 3) := by decide +kernel
theorem dX4_ticksToQuarrel_86 : decode cX4_ticksToQuarrel 86 = .ok (.istore 4, 2) := by decide +kernel
theorem dX4_ticksToQuarrel_88 : decode cX4_ticksToQuarrel 88 = .ok (.iinc 5 1, 3) := by decide +kernel
theorem dX4_ticksToQuarrel_91 : decode cX4_ticksToQuarrel 91 = .ok (.goto (-62), 3) := by decide +kernel
theorem dX4_ticksToQuarrel_94 : decode cX4_ticksToQuarrel 94 = .ok (.iconst (-1), 1) := by decide +kernel
theorem dX4_ticksToQuarrel_95 : decode cX4_ticksToQuarrel 95 = .ok (.ireturn, 1) := by decide +kernel
theorem dX4_isOff_0 : decode cX4_isOff 0 = .ok (.aload_n 0, 1) := by decide +kernel
theorem dX4_isOff_1 : decode cX4_isOff 1 = .ok (.getfield 12, 3) := by decide +kernel
theorem dX4_isOff_4 : decode cX4_isOff 4 = .ok (.getfield 50, 3) := by decide +kernel
theorem dX4_isOff_7 : decode cX4_isOff 7 = .ok (.iload_n 1, 1) := by decide +kernel
theorem dX4_isOff_8 : decode cX4_isOff 8 = .ok (.iaload, 1) := by decide +kernel
theorem dX4_isOff_9 : decode cX4_isOff 9 = .ok (.aload_n 0, 1) := by decide +kernel
theorem dX4_isOff_10 : decode cX4_isOff 10 = .ok (.getfield 40, 3) := by decide +kernel
theorem dX4_isOff_13 : decode cX4_isOff 13 = .ok (.invokestatic 69, 3) := by decide +kernel
theorem dX4_isOff_16 : decode cX4_isOff 16 = .ok (.aload_n 0, 1) := by decide +kernel
theorem dX4_isOff_17 : decode cX4_isOff 17 = .ok (.getfield 25, 3) := by decide +kernel
theorem dX4_isOff_20 : decode cX4_isOff 20 = .ok (.iconst 1, 1) := by decide +kernel
theorem dX4_isOff_21 : decode cX4_isOff 21 = .ok (.iaload, 1) := by decide +kernel
theorem dX4_isOff_22 : decode cX4_isOff 22 = .ok (.if_icmp .le 7, 3) := by decide +kernel
theorem dX4_isOff_25 : decode cX4_isOff 25 = .ok (.iconst 1, 1) := by decide +kernel
theorem dX4_isOff_26 : decode cX4_isOff 26 = .ok (.goto 4, 3) := by decide +kernel
theorem dX4_isOff_29 : decode cX4_isOff 29 = .ok (.iconst 0, 1) := by decide +kernel
theorem dX4_isOff_30 : decode cX4_isOff 30 = .ok (.ireturn, 1) := by decide +kernel
theorem dX4_dialsOff_0 : decode cX4_dialsOff 0 = .ok (.iconst 0, 1) := by decide +kernel
theorem dX4_dialsOff_1 : decode cX4_dialsOff 1 = .ok (.istore_n 1, 1) := by decide +kernel
theorem dX4_dialsOff_2 : decode cX4_dialsOff 2 = .ok (.iconst 0, 1) := by decide +kernel
theorem dX4_dialsOff_3 : decode cX4_dialsOff 3 = .ok (.istore_n 2, 1) := by decide +kernel
theorem dX4_dialsOff_4 : decode cX4_dialsOff 4 = .ok (.iload_n 2, 1) := by decide +kernel
theorem dX4_dialsOff_5 : decode cX4_dialsOff 5 = .ok (.bipush 7, 2) := by decide +kernel
theorem dX4_dialsOff_7 : decode cX4_dialsOff 7 = .ok (.if_icmp .ge 25, 3) := by decide +kernel
theorem dX4_dialsOff_10 : decode cX4_dialsOff 10 = .ok (.iload_n 1, 1) := by decide +kernel
theorem dX4_dialsOff_11 : decode cX4_dialsOff 11 = .ok (.aload_n 0, 1) := by decide +kernel
theorem dX4_dialsOff_12 : decode cX4_dialsOff 12 = .ok (.iload_n 2, 1) := by decide +kernel
theorem dX4_dialsOff_13 : decode cX4_dialsOff 13 = .ok (.invokevirtual 86, 3) := by decide +kernel
theorem dX4_dialsOff_16 : decode cX4_dialsOff 16 = .ok (.ifCond .eq 7, 3) := by decide +kernel
theorem dX4_dialsOff_19 : decode cX4_dialsOff 19 = .ok (.iconst 1, 1) := by decide +kernel
theorem dX4_dialsOff_20 : decode cX4_dialsOff 20 = .ok (.goto 4, 3) := by decide +kernel
theorem dX4_dialsOff_23 : decode cX4_dialsOff 23 = .ok (.iconst 0, 1) := by decide +kernel
theorem dX4_dialsOff_24 : decode cX4_dialsOff 24 = .ok (.iadd, 1) := by decide +kernel
theorem dX4_dialsOff_25 : decode cX4_dialsOff 25 = .ok (.istore_n 1, 1) := by decide +kernel
theorem dX4_dialsOff_26 : decode cX4_dialsOff 26 = .ok (.iinc 2 1, 3) := by decide +kernel
theorem dX4_dialsOff_29 : decode cX4_dialsOff 29 = .ok (.goto (-25), 3) := by decide +kernel
theorem dX4_dialsOff_32 : decode cX4_dialsOff 32 = .ok (.iload_n 1, 1) := by decide +kernel
theorem dX4_dialsOff_33 : decode cX4_dialsOff 33 = .ok (.ireturn, 1) := by decide +kernel
theorem dX4_correctDials_0 : decode cX4_correctDials 0 = .ok (.iconst 0, 1) := by decide +kernel
theorem dX4_correctDials_1 : decode cX4_correctDials 1 = .ok (.istore_n 1, 1) := by decide +kernel
theorem dX4_correctDials_2 : decode cX4_correctDials 2 = .ok (.iconst 0, 1) := by decide +kernel
theorem dX4_correctDials_3 : decode cX4_correctDials 3 = .ok (.istore_n 2, 1) := by decide +kernel
theorem dX4_correctDials_4 : decode cX4_correctDials 4 = .ok (.iload_n 2, 1) := by decide +kernel
theorem dX4_correctDials_5 : decode cX4_correctDials 5 = .ok (.bipush 7, 2) := by decide +kernel
theorem dX4_correctDials_7 : decode cX4_correctDials 7 = .ok (.if_icmp .ge 33, 3) := by decide +kernel
theorem dX4_correctDials_10 : decode cX4_correctDials 10 = .ok (.aload_n 0, 1) := by decide +kernel
theorem dX4_correctDials_11 : decode cX4_correctDials 11 = .ok (.iload_n 2, 1) := by decide +kernel
theorem dX4_correctDials_12 : decode cX4_correctDials 12 = .ok (.invokevirtual 86, 3) := by decide +kernel
theorem dX4_correctDials_15 : decode cX4_correctDials 15 = .ok (.ifCond .eq 19, 3) := by decide +kernel
theorem dX4_correctDials_18 : decode cX4_correctDials 18 = .ok (.iload_n 1, 1) := by decide +kernel
theorem dX4_correctDials_19 : decode cX4_correctDials 19 = .ok (.aload_n 0, 1) := by decide +kernel
theorem dX4_correctDials_20 : decode cX4_correctDials 20 = .ok (.getfield 12, 3) := by decide +kernel
theorem dX4_correctDials_23 : decode cX4_correctDials 23 = .ok (.iload_n 2, 1) := by decide +kernel
theorem dX4_correctDials_24 : decode cX4_correctDials 24 = .ok (.aload_n 0, 1) := by decide +kernel
theorem dX4_correctDials_25 : decode cX4_correctDials 25 = .ok (.iload_n 2, 1) := by decide +kernel
theorem dX4_correctDials_26 : decode cX4_correctDials 26 = .ok (.invokevirtual 89, 3) := by decide +kernel
theorem dX4_correctDials_29 : decode cX4_correctDials 29 = .ok (.invokevirtual 92, 3) := by decide +kernel
theorem dX4_correctDials_32 : decode cX4_correctDials 32 = .ok (.iadd, 1) := by decide +kernel
theorem dX4_correctDials_33 : decode cX4_correctDials 33 = .ok (.istore_n 1, 1) := by decide +kernel
theorem dX4_correctDials_34 : decode cX4_correctDials 34 = .ok (.iinc 2 1, 3) := by decide +kernel
theorem dX4_correctDials_37 : decode cX4_correctDials 37 = .ok (.goto (-33), 3) := by decide +kernel
theorem dX4_correctDials_40 : decode cX4_correctDials 40 = .ok (.iload_n 1, 1) := by decide +kernel
theorem dX4_correctDials_41 : decode cX4_correctDials 41 = .ok (.ireturn, 1) := by decide +kernel
theorem dX4_nearestAllowed_0 : decode cX4_nearestAllowed 0 = .ok (.aload_n 0, 1) := by decide +kernel
theorem dX4_nearestAllowed_1 : decode cX4_nearestAllowed 1 = .ok (.getfield 25, 3) := by decide +kernel
theorem dX4_nearestAllowed_4 : decode cX4_nearestAllowed 4 = .ok (.iconst 1, 1) := by decide +kernel
theorem dX4_nearestAllowed_5 : decode cX4_nearestAllowed 5 = .ok (.iaload, 1) := by decide +kernel
theorem dX4_nearestAllowed_6 : decode cX4_nearestAllowed 6 = .ok (.istore_n 2, 1) := by decide +kernel
theorem dX4_nearestAllowed_7 : decode cX4_nearestAllowed 7 = .ok (.aload_n 0, 1) := by decide +kernel
theorem dX4_nearestAllowed_8 : decode cX4_nearestAllowed 8 = .ok (.getfield 12, 3) := by decide +kernel
theorem dX4_nearestAllowed_11 : decode cX4_nearestAllowed 11 = .ok (.getfield 50, 3) := by decide +kernel
theorem dX4_nearestAllowed_14 : decode cX4_nearestAllowed 14 = .ok (.iload_n 1, 1) := by decide +kernel
theorem dX4_nearestAllowed_15 : decode cX4_nearestAllowed 15 = .ok (.iaload, 1) := by decide +kernel
theorem dX4_nearestAllowed_16 : decode cX4_nearestAllowed 16 = .ok (.aload_n 0, 1) := by decide +kernel
theorem dX4_nearestAllowed_17 : decode cX4_nearestAllowed 17 = .ok (.getfield 40, 3) := by decide +kernel
theorem dX4_nearestAllowed_20 : decode cX4_nearestAllowed 20 = .ok (.if_icmp .ge 12, 3) := by decide +kernel
theorem dX4_nearestAllowed_23 : decode cX4_nearestAllowed 23 = .ok (.aload_n 0, 1) := by decide +kernel
theorem dX4_nearestAllowed_24 : decode cX4_nearestAllowed 24 = .ok (.getfield 40, 3) := by decide +kernel
theorem dX4_nearestAllowed_27 : decode cX4_nearestAllowed 27 = .ok (.iload_n 2, 1) := by decide +kernel
theorem dX4_nearestAllowed_28 : decode cX4_nearestAllowed 28 = .ok (.isub, 1) := by decide +kernel
theorem dX4_nearestAllowed_29 : decode cX4_nearestAllowed 29 = .ok (.goto 9, 3) := by decide +kernel
theorem dX4_nearestAllowed_32 : decode cX4_nearestAllowed 32 = .ok (.aload_n 0, 1) := by decide +kernel
theorem dX4_nearestAllowed_33 : decode cX4_nearestAllowed 33 = .ok (.getfield 40, 3) := by decide +kernel
theorem dX4_nearestAllowed_36 : decode cX4_nearestAllowed 36 = .ok (.iload_n 2, 1) := by decide +kernel
theorem dX4_nearestAllowed_37 : decode cX4_nearestAllowed 37 = .ok (.iadd, 1) := by decide +kernel
theorem dX4_nearestAllowed_38 : decode cX4_nearestAllowed 38 = .ok (.ireturn, 1) := by decide +kernel
theorem dX5_init_0 : decode cX5_init 0 = .ok (.aload_n 0, 1) := by decide +kernel
theorem dX5_init_1 : decode cX5_init 1 = .ok (.invokespecial 3, 3) := by decide +kernel
theorem dX5_init_4 : decode cX5_init 4 = .ok (.aload_n 0, 1) := by decide +kernel
theorem dX5_init_5 : decode cX5_init 5 = .ok (.bipush 7, 2) := by decide +kernel
theorem dX5_init_7 : decode cX5_init 7 = .ok (.newarray .int, 2) := by decide +kernel
theorem dX5_init_9 : decode cX5_init 9 = .ok (.putfield 9, 3) := by decide +kernel
theorem dX5_init_12 : decode cX5_init 12 = .ok (.aload_n 0, 1) := by decide +kernel
theorem dX5_init_13 : decode cX5_init 13 = .ok (.bipush 7, 2) := by decide +kernel
theorem dX5_init_15 : decode cX5_init 15 = .ok (.newarray .int, 2) := by decide +kernel
theorem dX5_init_17 : decode cX5_init 17 = .ok (.putfield 15, 3) := by decide +kernel
theorem dX5_init_20 : decode cX5_init 20 = .ok (.aload_n 0, 1) := by decide +kernel
theorem dX5_init_21 : decode cX5_init 21 = .ok (.bipush 7, 2) := by decide +kernel
theorem dX5_init_23 : decode cX5_init 23 = .ok (.newarray .int, 2) := by decide +kernel
theorem dX5_init_25 : decode cX5_init 25 = .ok (.putfield 18, 3) := by decide +kernel
theorem dX5_init_28 : decode cX5_init 28 = .ok (.iconst 0, 1) := by decide +kernel
theorem dX5_init_29 : decode cX5_init 29 = .ok (.istore_n 1, 1) := by decide +kernel
theorem dX5_init_30 : decode cX5_init 30 = .ok (.iload_n 1, 1) := by decide +kernel
theorem dX5_init_31 : decode cX5_init 31 = .ok (.bipush 7, 2) := by decide +kernel
theorem dX5_init_33 : decode cX5_init 33 = .ok (.if_icmp .ge 16, 3) := by decide +kernel
theorem dX5_init_36 : decode cX5_init 36 = .ok (.aload_n 0, 1) := by decide +kernel
theorem dX5_init_37 : decode cX5_init 37 = .ok (.getfield 9, 3) := by decide +kernel
theorem dX5_init_40 : decode cX5_init 40 = .ok (.iload_n 1, 1) := by decide +kernel
theorem dX5_init_41 : decode cX5_init 41 = .ok (.iconst 3, 1) := by decide +kernel
theorem dX5_init_42 : decode cX5_init 42 = .ok (.iastore, 1) := by decide +kernel
theorem dX5_init_43 : decode cX5_init 43 = .ok (.iinc 1 1, 3) := by decide +kernel
theorem dX5_init_46 : decode cX5_init 46 = .ok (.goto (-16), 3) := by decide +kernel
theorem dX5_init_49 : decode cX5_init 49 = .ok (.return_, 1) := by decide +kernel
theorem dX5_copyFrom_0 : decode cX5_copyFrom 0 = .ok (.aload_n 1, 1) := by decide +kernel
theorem dX5_copyFrom_1 : decode cX5_copyFrom 1 = .ok (.getfield 9, 3) := by decide +kernel
theorem dX5_copyFrom_4 : decode cX5_copyFrom 4 = .ok (.aload_n 0, 1) := by decide +kernel
theorem dX5_copyFrom_5 : decode cX5_copyFrom 5 = .ok (.getfield 9, 3) := by decide +kernel
theorem dX5_copyFrom_8 : decode cX5_copyFrom 8 = .ok (.invokestatic 21, 3) := by decide +kernel
theorem dX5_copyFrom_11 : decode cX5_copyFrom 11 = .ok (.aload_n 1, 1) := by decide +kernel
theorem dX5_copyFrom_12 : decode cX5_copyFrom 12 = .ok (.getfield 15, 3) := by decide +kernel
theorem dX5_copyFrom_15 : decode cX5_copyFrom 15 = .ok (.aload_n 0, 1) := by decide +kernel
theorem dX5_copyFrom_16 : decode cX5_copyFrom 16 = .ok (.getfield 15, 3) := by decide +kernel
theorem dX5_copyFrom_19 : decode cX5_copyFrom 19 = .ok (.invokestatic 21, 3) := by decide +kernel
theorem dX5_copyFrom_22 : decode cX5_copyFrom 22 = .ok (.aload_n 1, 1) := by decide +kernel
theorem dX5_copyFrom_23 : decode cX5_copyFrom 23 = .ok (.getfield 18, 3) := by decide +kernel
theorem dX5_copyFrom_26 : decode cX5_copyFrom 26 = .ok (.aload_n 0, 1) := by decide +kernel
theorem dX5_copyFrom_27 : decode cX5_copyFrom 27 = .ok (.getfield 18, 3) := by decide +kernel
theorem dX5_copyFrom_30 : decode cX5_copyFrom 30 = .ok (.invokestatic 21, 3) := by decide +kernel
theorem dX5_copyFrom_33 : decode cX5_copyFrom 33 = .ok (.return_, 1) := by decide +kernel
theorem dX5_weightSum_0 : decode cX5_weightSum 0 = .ok (.aload_n 0, 1) := by decide +kernel
theorem dX5_weightSum_1 : decode cX5_weightSum 1 = .ok (.getfield 9, 3) := by decide +kernel
theorem dX5_weightSum_4 : decode cX5_weightSum 4 = .ok (.invokestatic 25, 3) := by decide +kernel
theorem dX5_weightSum_7 : decode cX5_weightSum 7 = .ok (.ireturn, 1) := by decide +kernel
theorem dX5_wordFor_0 : decode cX5_wordFor 0 = .ok (.iload_n 2, 1) := by decide +kernel
theorem dX5_wordFor_1 : decode cX5_wordFor 1 = .ok (.aload_n 0, 1) := by decide +kernel
theorem dX5_wordFor_2 : decode cX5_wordFor 2 = .ok (.getfield 15, 3) := by decide +kernel
theorem dX5_wordFor_5 : decode cX5_wordFor 5 = .ok (.iload_n 1, 1) := by decide +kernel
theorem dX5_wordFor_6 : decode cX5_wordFor 6 = .ok (.iaload, 1) := by decide +kernel
theorem dX5_wordFor_7 : decode cX5_wordFor 7 = .ok (.iadd, 1) := by decide +kernel
theorem dX5_wordFor_8 : decode cX5_wordFor 8 = .ok (.istore_n 3, 1) := by decide +kernel
theorem dX5_wordFor_9 : decode cX5_wordFor 9 = .ok (.iload_n 3, 1) := by decide +kernel
theorem dX5_wordFor_10 : decode cX5_wordFor 10 = .ok (.ifCond .ge 5, 3) := by decide +kernel
theorem dX5_wordFor_13 : decode cX5_wordFor 13 = .ok (.iconst 0, 1) := by decide +kernel
theorem dX5_wordFor_14 : decode cX5_wordFor 14 = .ok (.ireturn, 1) := by decide +kernel
theorem dX5_wordFor_15 : decode cX5_wordFor 15 = .ok (.iload_n 3, 1) := by decide +kernel
theorem dX5_wordFor_16 : decode cX5_wordFor 16 = .ok (.ldc 29, 2) := by decide +kernel
theorem dX5_wordFor_18 : decode cX5_wordFor 18 = .ok (.if_icmp .le 8, 3) := by decide +kernel
theorem dX5_wordFor_21 : decode cX5_wordFor 21 = .ok (.ldc 29, 2) := by decide +kernel
theorem dX5_wordFor_23 : decode cX5_wordFor 23 = .ok (.goto 4, 3) := by decide +kernel
theorem dX5_wordFor_26 : decode cX5_wordFor 26 = .ok (.iload_n 3, 1) := by decide +kernel
theorem dX5_wordFor_27 : decode cX5_wordFor 27 = .ok (.ireturn, 1) := by decide +kernel
theorem dX5_lessen_0 : decode cX5_lessen 0 = .ok (.aload_n 0, 1) := by decide +kernel
theorem dX5_lessen_1 : decode cX5_lessen 1 = .ok (.getfield 9, 3) := by decide +kernel
theorem dX5_lessen_4 : decode cX5_lessen 4 = .ok (.iload_n 1, 1) := by decide +kernel
theorem dX5_lessen_5 : decode cX5_lessen 5 = .ok (.iaload, 1) := by decide +kernel
theorem dX5_lessen_6 : decode cX5_lessen 6 = .ok (.ifCond .le 23, 3) := by decide +kernel
theorem dX5_lessen_9 : decode cX5_lessen 9 = .ok (.aload_n 0, 1) := by decide +kernel
theorem dX5_lessen_10 : decode cX5_lessen 10 = .ok (.getfield 9, 3) := by decide +kernel
theorem dX5_lessen_13 : decode cX5_lessen 13 = .ok (.iload_n 1, 1) := by decide +kernel
theorem dX5_lessen_14 : decode cX5_lessen 14 = .ok (.dup2, 1) := by decide +kernel
theorem dX5_lessen_15 : decode cX5_lessen 15 = .ok (.iaload, 1) := by decide +kernel
theorem dX5_lessen_16 : decode cX5_lessen 16 = .ok (.iconst 1, 1) := by decide +kernel
theorem dX5_lessen_17 : decode cX5_lessen 17 = .ok (.isub, 1) := by decide +kernel
theorem dX5_lessen_18 : decode cX5_lessen 18 = .ok (.iastore, 1) := by decide +kernel
theorem dX5_lessen_19 : decode cX5_lessen 19 = .ok (.aload_n 0, 1) := by decide +kernel
theorem dX5_lessen_20 : decode cX5_lessen 20 = .ok (.getfield 18, 3) := by decide +kernel
theorem dX5_lessen_23 : decode cX5_lessen 23 = .ok (.iload_n 1, 1) := by decide +kernel
theorem dX5_lessen_24 : decode cX5_lessen 24 = .ok (.dup2, 1) := by decide +kernel
theorem dX5_lessen_25 : decode cX5_lessen 25 = .ok (.iaload, 1) := by decide +kernel
theorem dX5_lessen_26 : decode cX5_lessen 26 = .ok (.iconst 1, 1) := by decide +kernel
theorem dX5_lessen_27 : decode cX5_lessen 27 = .ok (.iadd, 1) := by decide +kernel
theorem dX5_lessen_28 : decode cX5_lessen 28 = .ok (.iastore, 1) := by decide +kernel
theorem dX5_lessen_29 : decode cX5_lessen 29 = .ok (.return_, 1) := by decide +kernel
theorem dX6_init_0 : decode cX6_init 0 = .ok (.aload_n 0, 1) := by decide +kernel
theorem dX6_init_1 : decode cX6_init 1 = .ok (.invokespecial 1, 3) := by decide +kernel
theorem dX6_init_4 : decode cX6_init 4 = .ok (.aload_n 0, 1) := by decide +kernel
theorem dX6_init_5 : decode cX6_init 5 = .ok (.new 7, 3) := by decide +kernel
theorem dX6_init_8 : decode cX6_init 8 = .ok (.dup, 1) := by decide +kernel
theorem dX6_init_9 : decode cX6_init 9 = .ok (.invokespecial 9, 3) := by decide +kernel
theorem dX6_init_12 : decode cX6_init 12 = .ok (.putfield 10, 3) := by decide +kernel
theorem dX6_init_15 : decode cX6_init 15 = .ok (.aload_n 0, 1) := by decide +kernel
theorem dX6_init_16 : decode cX6_init 16 = .ok (.new 7, 3) := by decide +kernel
theorem dX6_init_19 : decode cX6_init 19 = .ok (.dup, 1) := by decide +kernel
theorem dX6_init_20 : decode cX6_init 20 = .ok (.invokespecial 9, 3) := by decide +kernel
theorem dX6_init_23 : decode cX6_init 23 = .ok (.putfield 16, 3) := by decide +kernel
theorem dX6_init_26 : decode cX6_init 26 = .ok (.aload_n 0, 1) := by decide +kernel
theorem dX6_init_27 : decode cX6_init 27 = .ok (.iconst 0, 1) := by decide +kernel
theorem dX6_init_28 : decode cX6_init 28 = .ok (.putfield 19, 3) := by decide +kernel
theorem dX6_init_31 : decode cX6_init 31 = .ok (.aload_n 0, 1) := by decide +kernel
theorem dX6_init_32 : decode cX6_init 32 = .ok (.new 23, 3) := by decide +kernel
theorem dX6_init_35 : decode cX6_init 35 = .ok (.dup, 1) := by decide +kernel
theorem dX6_init_36 : decode cX6_init 36 = .ok (.invokespecial 25, 3) := by decide +kernel
theorem dX6_init_39 : decode cX6_init 39 = .ok (.putfield 26, 3) := by decide +kernel
theorem dX6_init_42 : decode cX6_init 42 = .ok (.aload_n 0, 1) := by decide +kernel
theorem dX6_init_43 : decode cX6_init 43 = .ok (.new 30, 3) := by decide +kernel
theorem dX6_init_46 : decode cX6_init 46 = .ok (.dup, 1) := by decide +kernel
theorem dX6_init_47 : decode cX6_init 47 = .ok (.invokespecial 32, 3) := by decide +kernel
theorem dX6_init_50 : decode cX6_init 50 = .ok (.putfield 33, 3) := by decide +kernel
theorem dX6_init_53 : decode cX6_init 53 = .ok (.aload_n 0, 1) := by decide +kernel
theorem dX6_init_54 : decode cX6_init 54 = .ok (.new 37, 3) := by decide +kernel
theorem dX6_init_57 : decode cX6_init 57 = .ok (.dup, 1) := by decide +kernel
theorem dX6_init_58 : decode cX6_init 58 = .ok (.invokespecial 39, 3) := by decide +kernel
theorem dX6_init_61 : decode cX6_init 61 = .ok (.putfield 40, 3) := by decide +kernel
theorem dX6_init_64 : decode cX6_init 64 = .ok (.return_, 1) := by decide +kernel
theorem dX6_tick_0 : decode cX6_tick 0 = .ok (.iload_n 1, 1) := by decide +kernel
theorem dX6_tick_1 : decode cX6_tick 1 = .ok (.iconst 1, 1) := by decide +kernel
theorem dX6_tick_2 : decode cX6_tick 2 = .ok (.if_icmp .lt 9, 3) := by decide +kernel
theorem dX6_tick_5 : decode cX6_tick 5 = .ok (.iload_n 1, 1) := by decide +kernel
theorem dX6_tick_6 : decode cX6_tick 6 = .ok (.bipush 99, 2) := by decide +kernel
theorem dX6_tick_8 : decode cX6_tick 8 = .ok (.if_icmp .le 13, 3) := by decide +kernel
theorem dX6_tick_11 : decode cX6_tick 11 = .ok (.new 44, 3) := by decide +kernel
theorem dX6_tick_14 : decode cX6_tick 14 = .ok (.dup, 1) := by decide +kernel
theorem dX6_tick_15 : decode cX6_tick 15 = .ok (.ldc 46, 2) := by decide +kernel
theorem dX6_tick_17 : decode cX6_tick 17 = .ok (.invokespecial 48, 3) := by decide +kernel
theorem dX6_tick_20 : decode cX6_tick 20 = .ok (.athrow, 1) := by decide +kernel
theorem dX6_tick_21 : decode cX6_tick 21 = .ok (.aload_n 0, 1) := by decide +kernel
theorem dX6_tick_22 : decode cX6_tick 22 = .ok (.getfield 26, 3) := by decide +kernel
theorem dX6_tick_25 : decode cX6_tick 25 = .ok (.aload_n 0, 1) := by decide +kernel
theorem dX6_tick_26 : decode cX6_tick 26 = .ok (.getfield 10, 3) := by decide +kernel
theorem dX6_tick_29 : decode cX6_tick 29 = .ok (.invokevirtual 51, 3) := by decide +kernel
theorem dX6_tick_32 : decode cX6_tick 32 = .ok (.aload_n 0, 1) := by decide +kernel
theorem dX6_tick_33 : decode cX6_tick 33 = .ok (.getfield 10, 3) := by decide +kernel
theorem dX6_tick_36 : decode cX6_tick 36 = .ok (.getfield 55, 3) := by decide +kernel
theorem dX6_tick_39 : decode cX6_tick 39 = .ok (.iload_n 1, 1) := by decide +kernel
theorem dX6_tick_40 : decode cX6_tick 40 = .ok (.invokevirtual 59, 3) := by decide +kernel
theorem dX6_tick_43 : decode cX6_tick 43 = .ok (.ireturn, 1) := by decide +kernel
theorem dX6_vote_0 : decode cX6_vote 0 = .ok (.aload_n 0, 1) := by decide +kernel
theorem dX6_vote_1 : decode cX6_vote 1 = .ok (.getfield 10, 3) := by decide +kernel
theorem dX6_vote_4 : decode cX6_vote 4 = .ok (.getfield 65, 3) := by decide +kernel
theorem dX6_vote_7 : decode cX6_vote 7 = .ok (.invokevirtual 69, 3) := by decide +kernel
theorem dX6_vote_10 : decode cX6_vote 10 = .ok (.ifCond .ne 13, 3) := by decide +kernel
theorem dX6_vote_13 : decode cX6_vote 13 = .ok (.new 75, 3) := by decide +kernel
theorem dX6_vote_16 : decode cX6_vote 16 = .ok (.dup, 1) := by decide +kernel
theorem dX6_vote_17 : decode cX6_vote 17 = .ok (.ldc 77, 2) := by decide +kernel
theorem dX6_vote_19 : decode cX6_vote 19 = .ok (.invokespecial 79, 3) := by decide +kernel
theorem dX6_vote_22 : decode cX6_vote 22 = .ok (.athrow, 1) := by decide +kernel
theorem dX6_vote_23 : decode cX6_vote 23 = .ok (.aload_n 0, 1) := by decide +kernel
theorem dX6_vote_24 : decode cX6_vote 24 = .ok (.getfield 26, 3) := by decide +kernel
theorem dX6_vote_27 : decode cX6_vote 27 = .ok (.aload_n 0, 1) := by decide +kernel
theorem dX6_vote_28 : decode cX6_vote 28 = .ok (.getfield 10, 3) := by decide +kernel
theorem dX6_vote_31 : decode cX6_vote 31 = .ok (.invokevirtual 51, 3) := by decide +kernel
theorem dX6_vote_34 : decode cX6_vote 34 = .ok (.aload_n 0, 1) := by decide +kernel
theorem dX6_vote_35 : decode cX6_vote 35 = .ok (.invokevirtual 80, 3) := by decide +kernel
theorem dX6_vote_38 : decode cX6_vote 38 = .ok (.aload_n 0, 1) := by decide +kernel
theorem dX6_vote_39 : decode cX6_vote 39 = .ok (.getfield 10, 3) := by decide +kernel
theorem dX6_vote_42 : decode cX6_vote 42 = .ok (.getfield 83, 3) := by decide +kernel
theorem dX6_vote_45 : decode cX6_vote 45 = .ok (.ireturn, 1) := by decide +kernel
theorem dX6_correct_0 : decode cX6_correct 0 = .ok (.aload_n 0, 1) := by decide +kernel
theorem dX6_correct_1 : decode cX6_correct 1 = .ok (.getfield 26, 3) := by decide +kernel
theorem dX6_correct_4 : decode cX6_correct 4 = .ok (.aload_n 0, 1) := by decide +kernel
theorem dX6_correct_5 : decode cX6_correct 5 = .ok (.getfield 10, 3) := by decide +kernel
theorem dX6_correct_8 : decode cX6_correct 8 = .ok (.invokevirtual 51, 3) := by decide +kernel
theorem dX6_correct_11 : decode cX6_correct 11 = .ok (.aload_n 0, 1) := by decide +kernel
theorem dX6_correct_12 : decode cX6_correct 12 = .ok (.getfield 10, 3) := by decide +kernel
theorem dX6_correct_15 : decode cX6_correct 15 = .ok (.invokevirtual 87, 3) := by decide +kernel
theorem dX6_correct_18 : decode cX6_correct 18 = .ok (.ireturn, 1) := by decide +kernel
theorem dX6_put_0 : decode cX6_put 0 = .ok (.iload_n 1, 1) := by decide +kernel
theorem dX6_put_1 : decode cX6_put 1 = .ok (.invokestatic 90, 3) := by decide +kernel
theorem dX6_put_4 : decode cX6_put 4 = .ok (.iload_n 2, 1) := by decide +kernel
theorem dX6_put_5 : decode cX6_put 5 = .ok (.ifCond .lt 9, 3) := by decide +kernel
theorem dX6_put_8 : decode cX6_put 8 = .ok (.iload_n 2, 1) := by decide +kernel
theorem dX6_put_9 : decode cX6_put 9 = .ok (.ldc 94, 2) := by decide +kernel
theorem dX6_put_11 : decode cX6_put 11 = .ok (.if_icmp .le 13, 3) := by decide +kernel
theorem dX6_put_14 : decode cX6_put 14 = .ok (.new 44, 3) := by decide +kernel
theorem dX6_put_17 : decode cX6_put 17 = .ok (.dup, 1) := by decide +kernel
theorem dX6_put_18 : decode cX6_put 18 = .ok (.ldc 95, 2) := by decide +kernel
theorem dX6_put_20 : decode cX6_put 20 = .ok (.invokespecial 48, 3) := by decide +kernel
theorem dX6_put_23 : decode cX6_put 23 = .ok (.athrow, 1) := by decide +kernel
theorem dX6_put_24 : decode cX6_put 24 = .ok (.aload_n 0, 1) := by decide +kernel
theorem dX6_put_25 : decode cX6_put 25 = .ok (.getfield 26, 3) := by decide +kernel
theorem dX6_put_28 : decode cX6_put 28 = .ok (.aload_n 0, 1) := by decide +kernel
theorem dX6_put_29 : decode cX6_put 29 = .ok (.getfield 10, 3) := by decide +kernel
theorem dX6_put_32 : decode cX6_put 32 = .ok (.invokevirtual 51, 3) := by decide +kernel
theorem dX6_put_35 : decode cX6_put 35 = .ok (.aload_n 0, 1) := by decide +kernel
theorem dX6_put_36 : decode cX6_put 36 = .ok (.getfield 10, 3) := by decide +kernel
theorem dX6_put_39 : decode cX6_put 39 = .ok (.getfield 55, 3) := by decide +kernel
theorem dX6_put_42 : decode cX6_put 42 = .ok (.getfield 97, 3) := by decide +kernel
theorem dX6_put_45 : decode cX6_put 45 = .ok (.iload_n 1, 1) := by decide +kernel
theorem dX6_put_46 : decode cX6_put 46 = .ok (.iaload, 1) := by decide +kernel
theorem dX6_put_47 : decode cX6_put 47 = .ok (.istore_n 3, 1) := by decide +kernel
theorem dX6_put_48 : decode cX6_put 48 = .ok (.aload_n 0, 1) := by decide +kernel
theorem dX6_put_49 : decode cX6_put 49 = .ok (.getfield 10, 3) := by decide +kernel
theorem dX6_put_52 : decode cX6_put 52 = .ok (.getfield 55, 3) := by decide +kernel
theorem dX6_put_55 : decode cX6_put 55 = .ok (.iload_n 1, 1) := by decide +kernel
theorem dX6_put_56 : decode cX6_put 56 = .ok (.iload_n 2, 1) := by decide +kernel
theorem dX6_put_57 : decode cX6_put 57 = .ok (.invokevirtual 100, 3) := by decide +kernel
theorem dX6_put_60 : decode cX6_put 60 = .ok (.pop, 1) := by decide +kernel
theorem dX6_put_61 : decode cX6_put 61 = .ok (.iload_n 3, 1) := by decide +kernel
theorem dX6_put_62 : decode cX6_put 62 = .ok (.ireturn, 1) := by decide +kernel
theorem dX6_drift_0 : decode cX6_drift 0 = .ok (.iload_n 1, 1) := by decide +kernel
theorem dX6_drift_1 : decode cX6_drift 1 = .ok (.invokestatic 90, 3) := by decide +kernel
theorem dX6_drift_4 : decode cX6_drift 4 = .ok (.iload_n 2, 1) := by decide +kernel
theorem dX6_drift_5 : decode cX6_drift 5 = .ok (.bipush (-5), 2) := by decide +kernel
theorem dX6_drift_7 : decode cX6_drift 7 = .ok (.if_icmp .lt 8, 3) := by decide +kernel
theorem dX6_drift_10 : decode cX6_drift 10 = .ok (.iload_n 2, 1) := by decide +kernel
theorem dX6_drift_11 : decode cX6_drift 11 = .ok (.iconst 5, 1) := by decide +kernel
theorem dX6_drift_12 : decode cX6_drift 12 = .ok (.if_icmp .le 13, 3) := by decide +kernel
theorem dX6_drift_15 : decode cX6_drift 15 = .ok (.new 44, 3) := by decide +kernel
theorem dX6_drift_18 : decode cX6_drift 18 = .ok (.dup, 1) := by decide +kernel
theorem dX6_drift_19 : decode cX6_drift 19 = .ok (.ldc 104, 2) := by decide +kernel
theorem dX6_drift_21 : decode cX6_drift 21 = .ok (.invokespecial 48, 3) := by decide +kernel
theorem dX6_drift_24 : decode cX6_drift 24 = .ok (.athrow, 1) := by decide +kernel
theorem dX6_drift_25 : decode cX6_drift 25 = .ok (.aload_n 0, 1) := by decide +kernel
theorem dX6_drift_26 : decode cX6_drift 26 = .ok (.getfield 26, 3) := by decide +kernel
theorem dX6_drift_29 : decode cX6_drift 29 = .ok (.aload_n 0, 1) := by decide +kernel
theorem dX6_drift_30 : decode cX6_drift 30 = .ok (.getfield 10, 3) := by decide +kernel
theorem dX6_drift_33 : decode cX6_drift 33 = .ok (.invokevirtual 51, 3) := by decide +kernel
theorem dX6_drift_36 : decode cX6_drift 36 = .ok (.aload_n 0, 1) := by decide +kernel
theorem dX6_drift_37 : decode cX6_drift 37 = .ok (.getfield 10, 3) := by decide +kernel
theorem dX6_drift_40 : decode cX6_drift 40 = .ok (.getfield 55, 3) := by decide +kernel
theorem dX6_drift_43 : decode cX6_drift 43 = .ok (.getfield 106, 3) := by decide +kernel
theorem dX6_drift_46 : decode cX6_drift 46 = .ok (.iload_n 1, 1) := by decide +kernel
theorem dX6_drift_47 : decode cX6_drift 47 = .ok (.iaload, 1) := by decide +kernel
theorem dX6_drift_48 : decode cX6_drift 48 = .ok (.istore_n 3, 1) := by decide +kernel
theorem dX6_drift_49 : decode cX6_drift 49 = .ok (.aload_n 0, 1) := by decide +kernel
theorem dX6_drift_50 : decode cX6_drift 50 = .ok (.getfield 10, 3) := by decide +kernel
theorem dX6_drift_53 : decode cX6_drift 53 = .ok (.getfield 55, 3) := by decide +kernel
theorem dX6_drift_56 : decode cX6_drift 56 = .ok (.iload_n 1, 1) := by decide +kernel
theorem dX6_drift_57 : decode cX6_drift 57 = .ok (.iload_n 2, 1) := by decide +kernel
theorem dX6_drift_58 : decode cX6_drift 58 = .ok (.invokevirtual 109, 3) := by decide +kernel
theorem dX6_drift_61 : decode cX6_drift 61 = .ok (.iload_n 3, 1) := by decide +kernel
theorem dX6_drift_62 : decode cX6_drift 62 = .ok (.ireturn, 1) := by decide +kernel
theorem dX6_warden_0 : decode cX6_warden 0 = .ok (.iload_n 1, 1) := by decide +kernel
theorem dX6_warden_1 : decode cX6_warden 1 = .ok (.invokestatic 90, 3) := by decide +kernel
theorem dX6_warden_4 : decode cX6_warden 4 = .ok (.iload_n 2, 1) := by decide +kernel
theorem dX6_warden_5 : decode cX6_warden 5 = .ok (.ifCond .lt 9, 3) := by decide +kernel
theorem dX6_warden_8 : decode cX6_warden 8 = .ok (.iload_n 2, 1) := by decide +kernel
theorem dX6_warden_9 : decode cX6_warden 9 = .ok (.bipush 9, 2) := by decide +kernel
theorem dX6_warden_11 : decode cX6_warden 11 = .ok (.if_icmp .le 13, 3) := by decide +kernel
theorem dX6_warden_14 : decode cX6_warden 14 = .ok (.new 44, 3) := by decide +kernel
theorem dX6_warden_17 : decode cX6_warden 17 = .ok (.dup, 1) := by decide +kernel
theorem dX6_warden_18 : decode cX6_warden 18 = .ok (.ldc 113, 2) := by decide +kernel
theorem dX6_warden_20 : decode cX6_warden 20 = .ok (.invokespecial 48, 3) := by decide +kernel
theorem dX6_warden_23 : decode cX6_warden 23 = .ok (.athrow, 1) := by decide +kernel
theorem dX6_warden_24 : decode cX6_warden 24 = .ok (.iload_n 3, 1) := by decide +kernel
theorem dX6_warden_25 : decode cX6_warden 25 = .ok (.bipush (-60), 2) := by decide +kernel
theorem dX6_warden_27 : decode cX6_warden 27 = .ok (.if_icmp .lt 9, 3) := by decide +kernel
theorem dX6_warden_30 : decode cX6_warden 30 = .ok (.iload_n 3, 1) := by decide +kernel
theorem dX6_warden_31 : decode cX6_warden 31 = .ok (.bipush 60, 2) := by decide +kernel
theorem dX6_warden_33 : decode cX6_warden 33 = .ok (.if_icmp .le 13, 3) := by decide +kernel
theorem dX6_warden_36 : decode cX6_warden 36 = .ok (.new 44, 3) := by decide +kernel
theorem dX6_warden_39 : decode cX6_warden 39 = .ok (.dup, 1) := by decide +kernel
theorem dX6_warden_40 : decode cX6_warden 40 = .ok (.ldc 115, 2) := by decide +kernel
theorem dX6_warden_42 : decode cX6_warden 42 = .ok (.invokespecial 48, 3) := by decide +kernel
theorem dX6_warden_45 : decode cX6_warden 45 = .ok (.athrow, 1) := by decide +kernel
theorem dX6_warden_46 : decode cX6_warden 46 = .ok (.aload_n 0, 1) := by decide +kernel
theorem dX6_warden_47 : decode cX6_warden 47 = .ok (.getfield 26, 3) := by decide +kernel
theorem dX6_warden_50 : decode cX6_warden 50 = .ok (.aload_n 0, 1) := by decide +kernel
theorem dX6_warden_51 : decode cX6_warden 51 = .ok (.getfield 10, 3) := by decide +kernel
theorem dX6_warden_54 : decode cX6_warden 54 = .ok (.invokevirtual 51, 3) := by decide +kernel
theorem dX6_warden_57 : decode cX6_warden 57 = .ok (.aload_n 0, 1) := by decide +kernel
theorem dX6_warden_58 : decode cX6_warden 58 = .ok (.getfield 10, 3) := by decide +kernel
theorem dX6_warden_61 : decode cX6_warden 61 = .ok (.getfield 65, 3) := by decide +kernel
theorem dX6_warden_64 : decode cX6_warden 64 = .ok (.getfield 117, 3) := by decide +kernel
theorem dX6_warden_67 : decode cX6_warden 67 = .ok (.iload_n 1, 1) := by decide +kernel
theorem dX6_warden_68 : decode cX6_warden 68 = .ok (.iaload, 1) := by decide +kernel
theorem dX6_warden_69 : decode cX6_warden 69 = .ok (.istore 4, 2) := by decide +kernel
theorem dX6_warden_71 : decode cX6_warden 71 = .ok (.aload_n 0, 1) := by decide +kernel
theorem dX6_warden_72 : decode cX6_warden 72 = .ok (.getfield 10, 3) := by decide +kernel
theorem dX6_warden_75 : decode cX6_warden 75 = .ok (.getfield 65, 3) := by decide +kernel
theorem dX6_warden_78 : decode cX6_warden 78 = .ok (.getfield 117, 3) := by decide +kernel
theorem dX6_warden_81 : decode cX6_warden 81 = .ok (.iload_n 1, 1) := by decide +kernel
theorem dX6_warden_82 : decode cX6_warden 82 = .ok (.iload_n 2, 1) := by decide +kernel
theorem dX6_warden_83 : decode cX6_warden 83 = .ok (.iastore, 1) := by decide +kernel
theorem dX6_warden_84 : decode cX6_warden 84 = .ok (.aload_n 0, 1) := by decide +kernel
theorem dX6_warden_85 : decode cX6_warden 85 = .ok (.getfield 10, 3) := by decide +kernel
theorem dX6_warden_88 : decode cX6_warden 88 = .ok (.getfield 65, 3) := by decide +kernel
theorem dX6_warden_91 : decode cX6_warden 91 = .ok (.getfield 120, 3) := by decide +kernel
theorem dX6_warden_94 : decode cX6_warden 94 = .ok (.iload_n 1, 1) := by decide +kernel
theorem dX6_warden_95 : decode cX6_warden 95 = .ok (.iload_n 3, 1) := by decide +kernel
theorem dX6_warden_96 : decode cX6_warden 96 = .ok (.iastore, 1) := by decide +kernel
theorem dX6_warden_97 : decode cX6_warden 97 = .ok (.iload 4, 2) := by decide +kernel
theorem dX6_warden_99 : decode cX6_warden 99 = .ok (.ireturn, 1) := by decide +kernel
theorem dX6_set_0 : decode cX6_set 0 = .ok (.iload_n 1, 1) := by decide +kernel
theorem dX6_set_1 : decode cX6_set 1 = .ok (.invokestatic 123, 3) := by decide +kernel
theorem dX6_set_4 : decode cX6_set 4 = .ok (.iload_n 2, 1) := by decide +kernel
theorem dX6_set_5 : decode cX6_set 5 = .ok (.ifCond .lt 9, 3) := by decide +kernel
theorem dX6_set_8 : decode cX6_set 8 = .ok (.iload_n 2, 1) := by decide +kernel
theorem dX6_set_9 : decode cX6_set 9 = .ok (.bipush 99, 2) := by decide +kernel
theorem dX6_set_11 : decode cX6_set 11 = .ok (.if_icmp .le 13, 3) := by decide +kernel
theorem dX6_set_14 : decode cX6_set 14 = .ok (.new 44, 3) := by decide +kernel
theorem dX6_set_17 : decode cX6_set 17 = .ok (.dup, 1) := by decide +kernel
theorem dX6_set_18 : decode cX6_set 18 = .ok (.ldc 126, 2) := by decide +kernel
theorem dX6_set_20 : decode cX6_set 20 = .ok (.invokespecial 48, 3) := by decide +kernel
theorem dX6_set_23 : decode cX6_set 23 = .ok (.athrow, 1) := by decide +kernel
theorem dX6_set_24 : decode cX6_set 24 = .ok (.aload_n 0, 1) := by decide +kernel
theorem dX6_set_25 : decode cX6_set 25 = .ok (.getfield 26, 3) := by decide +kernel
theorem dX6_set_28 : decode cX6_set 28 = .ok (.aload_n 0, 1) := by decide +kernel
theorem dX6_set_29 : decode cX6_set 29 = .ok (.getfield 10, 3) := by decide +kernel
theorem dX6_set_32 : decode cX6_set 32 = .ok (.invokevirtual 51, 3) := by decide +kernel
theorem dX6_set_35 : decode cX6_set 35 = .ok (.aload_n 0, 1) := by decide +kernel
theorem dX6_set_36 : decode cX6_set 36 = .ok (.getfield 10, 3) := by decide +kernel
theorem dX6_set_39 : decode cX6_set 39 = .ok (.getfield 128, 3) := by decide +kernel
theorem dX6_set_42 : decode cX6_set 42 = .ok (.iload_n 1, 1) := by decide +kernel
theorem dX6_set_43 : decode cX6_set 43 = .ok (.iaload, 1) := by decide +kernel
theorem dX6_set_44 : decode cX6_set 44 = .ok (.istore_n 3, 1) := by decide +kernel
theorem dX6_set_45 : decode cX6_set 45 = .ok (.aload_n 0, 1) := by decide +kernel
theorem dX6_set_46 : decode cX6_set 46 = .ok (.getfield 10, 3) := by decide +kernel
theorem dX6_set_49 : decode cX6_set 49 = .ok (.getfield 128, 3) := by decide +kernel
theorem dX6_set_52 : decode cX6_set 52 = .ok (.iload_n 1, 1) := by decide +kernel
theorem dX6_set_53 : decode cX6_set 53 = .ok (.iload_n 2, 1) := by decide +kernel
theorem dX6_set_54 : decode cX6_set 54 = .ok (.iastore, 1) := by decide +kernel
theorem dX6_set_55 : decode cX6_set 55 = .ok (.iload_n 3, 1) := by decide +kernel
theorem dX6_set_56 : decode cX6_set 56 = .ok (.ireturn, 1) := by decide +kernel
theorem dX6_append_0 : decode cX6_append 0 = .ok (.iload_n 1, 1) := by decide +kernel
theorem dX6_append_1 : decode cX6_append 1 = .ok (.bipush 33, 2) := by decide +kernel
theorem dX6_append_3 : decode cX6_append 3 = .ok (.if_icmp .lt 9, 3) := by decide +kernel
theorem dX6_append_6 : decode cX6_append 6 = .ok (.iload_n 1, 1) := by decide +kernel
theorem dX6_append_7 : decode cX6_append 7 = .ok (.bipush 126, 2) := by decide +kernel
theorem dX6_append_9 : decode cX6_append 9 = .ok (.if_icmp .le 13, 3) := by decide +kernel
theorem dX6_append_12 : decode cX6_append 12 = .ok (.new 44, 3) := by decide +kernel
theorem dX6_append_15 : decode cX6_append 15 = .ok (.dup, 1) := by decide +kernel
theorem dX6_append_16 : decode cX6_append 16 = .ok (.ldc 131, 2) := by decide +kernel
theorem dX6_append_18 : decode cX6_append 18 = .ok (.invokespecial 48, 3) := by decide +kernel
theorem dX6_append_21 : decode cX6_append 21 = .ok (.athrow, 1) := by decide +kernel
theorem dX6_append_22 : decode cX6_append 22 = .ok (.aload_n 0, 1) := by decide +kernel
theorem dX6_append_23 : decode cX6_append 23 = .ok (.getfield 33, 3) := by decide +kernel
theorem dX6_append_26 : decode cX6_append 26 = .ok (.getfield 133, 3) := by decide +kernel
theorem dX6_append_29 : decode cX6_append 29 = .ok (.bipush 60, 2) := by decide +kernel
theorem dX6_append_31 : decode cX6_append 31 = .ok (.if_icmp .lt 13, 3) := by decide +kernel
theorem dX6_append_34 : decode cX6_append 34 = .ok (.new 75, 3) := by decide +kernel
theorem dX6_append_37 : decode cX6_append 37 = .ok (.dup, 1) := by decide +kernel
theorem dX6_append_38 : decode cX6_append 38 = .ok (.ldc 136, 2) := by decide +kernel
theorem dX6_append_40 : decode cX6_append 40 = .ok (.invokespecial 79, 3) := by decide +kernel
theorem dX6_append_43 : decode cX6_append 43 = .ok (.athrow, 1) := by decide +kernel
theorem dX6_append_44 : decode cX6_append 44 = .ok (.aload_n 0, 1) := by decide +kernel
theorem dX6_append_45 : decode cX6_append 45 = .ok (.getfield 33, 3) := by decide +kernel
theorem dX6_append_48 : decode cX6_append 48 = .ok (.iload_n 1, 1) := by decide +kernel
theorem dX6_append_49 : decode cX6_append 49 = .ok (.invokevirtual 138, 3) := by decide +kernel
theorem dX6_append_52 : decode cX6_append 52 = .ok (.aload_n 0, 1) := by decide +kernel
theorem dX6_append_53 : decode cX6_append 53 = .ok (.getfield 33, 3) := by decide +kernel
theorem dX6_append_56 : decode cX6_append 56 = .ok (.getfield 133, 3) := by decide +kernel
theorem dX6_append_59 : decode cX6_append 59 = .ok (.ireturn, 1) := by decide +kernel
theorem dX6_clearBuffer_0 : decode cX6_clearBuffer 0 = .ok (.aload_n 0, 1) := by decide +kernel
theorem dX6_clearBuffer_1 : decode cX6_clearBuffer 1 = .ok (.getfield 33, 3) := by decide +kernel
theorem dX6_clearBuffer_4 : decode cX6_clearBuffer 4 = .ok (.getfield 133, 3) := by decide +kernel
theorem dX6_clearBuffer_7 : decode cX6_clearBuffer 7 = .ok (.istore_n 1, 1) := by decide +kernel
theorem dX6_clearBuffer_8 : decode cX6_clearBuffer 8 = .ok (.aload_n 0, 1) := by decide +kernel
theorem dX6_clearBuffer_9 : decode cX6_clearBuffer 9 = .ok (.getfield 33, 3) := by decide +kernel
theorem dX6_clearBuffer_12 : decode cX6_clearBuffer 12 = .ok (.invokevirtual 141, 3) := by decide +kernel
theorem dX6_clearBuffer_15 : decode cX6_clearBuffer 15 = .ok (.iload_n 1, 1) := by decide +kernel
theorem dX6_clearBuffer_16 : decode cX6_clearBuffer 16 = .ok (.ireturn, 1) := by decide +kernel
theorem dX6_firstError_0 : decode cX6_firstError 0 = .ok (.aload_n 0, 1) := by decide +kernel
theorem dX6_firstError_1 : decode cX6_firstError 1 = .ok (.getfield 33, 3) := by decide +kernel
theorem dX6_firstError_4 : decode cX6_firstError 4 = .ok (.invokevirtual 144, 3) := by decide +kernel
theorem dX6_firstError_7 : decode cX6_firstError 7 = .ok (.ireturn, 1) := by decide +kernel
theorem dX6_obey_0 : decode cX6_obey 0 = .ok (.aload_n 0, 1) := by decide +kernel
theorem dX6_obey_1 : decode cX6_obey 1 = .ok (.getfield 33, 3) := by decide +kernel
theorem dX6_obey_4 : decode cX6_obey 4 = .ok (.invokevirtual 147, 3) := by decide +kernel
theorem dX6_obey_7 : decode cX6_obey 7 = .ok (.ifCond .ne 13, 3) := by decide +kernel
theorem dX6_obey_10 : decode cX6_obey 10 = .ok (.new 44, 3) := by decide +kernel
theorem dX6_obey_13 : decode cX6_obey 13 = .ok (.dup, 1) := by decide +kernel
theorem dX6_obey_14 : decode cX6_obey 14 = .ok (.ldc 151, 2) := by decide +kernel
theorem dX6_obey_16 : decode cX6_obey 16 = .ok (.invokespecial 48, 3) := by decide +kernel
theorem dX6_obey_19 : decode cX6_obey 19 = .ok (.athrow, 1) := by decide +kernel
theorem dX6_obey_20 : decode cX6_obey 20 = .ok (.aload_n 0, 1) := by decide +kernel
theorem dX6_obey_21 : decode cX6_obey 21 = .ok (.getfield 26, 3) := by decide +kernel
theorem dX6_obey_24 : decode cX6_obey 24 = .ok (.aload_n 0, 1) := by decide +kernel
theorem dX6_obey_25 : decode cX6_obey 25 = .ok (.getfield 10, 3) := by decide +kernel
theorem dX6_obey_28 : decode cX6_obey 28 = .ok (.invokevirtual 51, 3) := by decide +kernel
theorem dX6_obey_31 : decode cX6_obey 31 = .ok (.iconst 0, 1) := by decide +kernel
theorem dX6_obey_32 : decode cX6_obey 32 = .ok (.istore_n 1, 1) := by decide +kernel
theorem dX6_obey_33 : decode cX6_obey 33 = .ok (.iconst 1, 1) := by decide +kernel
theorem dX6_obey_34 : decode cX6_obey 34 = .ok (.istore_n 2, 1) := by decide +kernel
theorem dX6_obey_35 : decode cX6_obey 35 = .ok (.iconst 0, 1) := by decide +kernel
theorem dX6_obey_36 : decode cX6_obey 36 = .ok (.istore_n 3, 1) := by decide +kernel
theorem dX6_obey_37 : decode cX6_obey 37 = .ok (.iload_n 3, 1) := by decide +kernel
theorem dX6_obey_38 : decode cX6_obey 38 = .ok (.aload_n 0, 1) := by decide +kernel
theorem dX6_obey_39 : decode cX6_obey 39 = .ok (.getfield 33, 3) := by decide +kernel
theorem dX6_obey_42 : decode cX6_obey 42 = .ok (.getfield 133, 3) := by decide +kernel
theorem dX6_obey_45 : decode cX6_obey 45 = .ok (.if_icmp .ge 42, 3) := by decide +kernel
theorem dX6_obey_48 : decode cX6_obey 48 = .ok (.iload_n 2, 1) := by decide +kernel
theorem dX6_obey_49 : decode cX6_obey 49 = .ok (.ifCond .eq 38, 3) := by decide +kernel
theorem dX6_obey_52 : decode cX6_obey 52 = .ok (.aload_n 0, 1) := by decide +kernel
theorem dX6_obey_53 : decode cX6_obey 53 = .ok (.getfield 33, 3) := by decide +kernel
theorem dX6_obey_56 : decode cX6_obey 56 = .ok (.iload_n 3, 1) := by decide +kernel
theorem dX6_obey_57 : decode cX6_obey 57 = .ok (.invokevirtual 153, 3) := by decide +kernel
theorem dX6_obey_60 : decode cX6_obey 60 = .ok (.ifCond .eq 21, 3) := by decide +kernel
theorem dX6_obey_63 : decode cX6_obey 63 = .ok (.aload_n 0, 1) := by decide +kernel
theorem dX6_obey_64 : decode cX6_obey 64 = .ok (.iload_n 3, 1) := by decide +kernel
theorem dX6_obey_65 : decode cX6_obey 65 = .ok (.invokevirtual 157, 3) := by decide +kernel
theorem dX6_obey_68 : decode cX6_obey 68 = .ok (.istore_n 2, 1) := by decide +kernel
theorem dX6_obey_69 : decode cX6_obey 69 = .ok (.iload_n 1, 1) := by decide +kernel
theorem dX6_obey_70 : decode cX6_obey 70 = .ok (.iload_n 2, 1) := by decide +kernel
theorem dX6_obey_71 : decode cX6_obey 71 = .ok (.ifCond .eq 7, 3) := by decide +kernel
theorem dX6_obey_74 : decode cX6_obey 74 = .ok (.iconst 1, 1) := by decide +kernel
theorem dX6_obey_75 : decode cX6_obey 75 = .ok (.goto 4, 3) := by decide +kernel
theorem dX6_obey_78 : decode cX6_obey 78 = .ok (.iconst 0, 1) := by decide +kernel
theorem dX6_obey_79 : decode cX6_obey 79 = .ok (.iadd, 1) := by decide +kernel
theorem dX6_obey_80 : decode cX6_obey 80 = .ok (.istore_n 1, 1) := by decide +kernel
theorem dX6_obey_81 : decode cX6_obey 81 = .ok (.iinc 3 1, 3) := by decide +kernel
theorem dX6_obey_84 : decode cX6_obey 84 = .ok (.goto (-47), 3) := by decide +kernel
theorem dX6_obey_87 : decode cX6_obey 87 = .ok (.aload_n 0, 1) := by decide +kernel
theorem dX6_obey_88 : decode cX6_obey 88 = .ok (.getfield 33, 3) := by decide +kernel
theorem dX6_obey_91 : decode cX6_obey 91 = .ok (.invokevirtual 141, 3) := by decide +kernel
theorem dX6_obey_94 : decode cX6_obey 94 = .ok (.iload_n 1, 1) := by decide +kernel
theorem dX6_obey_95 : decode cX6_obey 95 = .ok (.ireturn, 1) := by decide +kernel
theorem dX6_keep_0 : decode cX6_keep 0 = .ok (.aload_n 0, 1) := by decide +kernel
theorem dX6_keep_1 : decode cX6_keep 1 = .ok (.getfield 16, 3) := by decide +kernel
theorem dX6_keep_4 : decode cX6_keep 4 = .ok (.aload_n 0, 1) := by decide +kernel
theorem dX6_keep_5 : decode cX6_keep 5 = .ok (.getfield 10, 3) := by decide +kernel
theorem dX6_keep_8 : decode cX6_keep 8 = .ok (.invokevirtual 160, 3) := by decide +kernel
theorem dX6_keep_11 : decode cX6_keep 11 = .ok (.aload_n 0, 1) := by decide +kernel
theorem dX6_keep_12 : decode cX6_keep 12 = .ok (.iconst 1, 1) := by decide +kernel
theorem dX6_keep_13 : decode cX6_keep 13 = .ok (.putfield 19, 3) := by decide +kernel
theorem dX6_keep_16 : decode cX6_keep 16 = .ok (.aload_n 0, 1) := by decide +kernel
theorem dX6_keep_17 : decode cX6_keep 17 = .ok (.getfield 10, 3) := by decide +kernel
theorem dX6_keep_20 : decode cX6_keep 20 = .ok (.getfield 83, 3) := by decide +kernel
theorem dX6_keep_23 : decode cX6_keep 23 = .ok (.ireturn, 1) := by decide +kernel
theorem dX6_goBack_0 : decode cX6_goBack 0 = .ok (.aload_n 0, 1) := by decide +kernel
theorem dX6_goBack_1 : decode cX6_goBack 1 = .ok (.getfield 19, 3) := by decide +kernel
theorem dX6_goBack_4 : decode cX6_goBack 4 = .ok (.ifCond .ne 13, 3) := by decide +kernel
theorem dX6_goBack_7 : decode cX6_goBack 7 = .ok (.new 75, 3) := by decide +kernel
theorem dX6_goBack_10 : decode cX6_goBack 10 = .ok (.dup, 1) := by decide +kernel
theorem dX6_goBack_11 : decode cX6_goBack 11 = .ok (.ldc 163, 2) := by decide +kernel
theorem dX6_goBack_13 : decode cX6_goBack 13 = .ok (.invokespecial 79, 3) := by decide +kernel
theorem dX6_goBack_16 : decode cX6_goBack 16 = .ok (.athrow, 1) := by decide +kernel
theorem dX6_goBack_17 : decode cX6_goBack 17 = .ok (.aload_n 0, 1) := by decide +kernel
theorem dX6_goBack_18 : decode cX6_goBack 18 = .ok (.getfield 26, 3) := by decide +kernel
theorem dX6_goBack_21 : decode cX6_goBack 21 = .ok (.aload_n 0, 1) := by decide +kernel
theorem dX6_goBack_22 : decode cX6_goBack 22 = .ok (.getfield 10, 3) := by decide +kernel
theorem dX6_goBack_25 : decode cX6_goBack 25 = .ok (.invokevirtual 51, 3) := by decide +kernel
theorem dX6_goBack_28 : decode cX6_goBack 28 = .ok (.aload_n 0, 1) := by decide +kernel
theorem dX6_goBack_29 : decode cX6_goBack 29 = .ok (.getfield 10, 3) := by decide +kernel
theorem dX6_goBack_32 : decode cX6_goBack 32 = .ok (.aload_n 0, 1) := by decide +kernel
theorem dX6_goBack_33 : decode cX6_goBack 33 = .ok (.getfield 16, 3) := by decide +kernel
theorem dX6_goBack_36 : decode cX6_goBack 36 = .ok (.invokevirtual 160, 3) := by decide +kernel
theorem dX6_goBack_39 : decode cX6_goBack 39 = .ok (.aload_n 0, 1) := by decide +kernel
theorem dX6_goBack_40 : decode cX6_goBack 40 = .ok (.getfield 10, 3) := by decide +kernel
theorem dX6_goBack_43 : decode cX6_goBack 43 = .ok (.getfield 83, 3) := by decide +kernel
theorem dX6_goBack_46 : decode cX6_goBack 46 = .ok (.ireturn, 1) := by decide +kernel
theorem dX6_undo_0 : decode cX6_undo 0 = .ok (.aload_n 0, 1) := by decide +kernel
theorem dX6_undo_1 : decode cX6_undo 1 = .ok (.getfield 26, 3) := by decide +kernel
theorem dX6_undo_4 : decode cX6_undo 4 = .ok (.getfield 165, 3) := by decide +kernel
theorem dX6_undo_7 : decode cX6_undo 7 = .ok (.ifCond .ne 13, 3) := by decide +kernel
theorem dX6_undo_10 : decode cX6_undo 10 = .ok (.new 75, 3) := by decide +kernel
theorem dX6_undo_13 : decode cX6_undo 13 = .ok (.dup, 1) := by decide +kernel
theorem dX6_undo_14 : decode cX6_undo 14 = .ok (.ldc 168, 2) := by decide +kernel
theorem dX6_undo_16 : decode cX6_undo 16 = .ok (.invokespecial 79, 3) := by decide +kernel
theorem dX6_undo_19 : decode cX6_undo 19 = .ok (.athrow, 1) := by decide +kernel
theorem dX6_undo_20 : decode cX6_undo 20 = .ok (.aload_n 0, 1) := by decide +kernel
theorem dX6_undo_21 : decode cX6_undo 21 = .ok (.getfield 26, 3) := by decide +kernel
theorem dX6_undo_24 : decode cX6_undo 24 = .ok (.aload_n 0, 1) := by decide +kernel
theorem dX6_undo_25 : decode cX6_undo 25 = .ok (.getfield 10, 3) := by decide +kernel
theorem dX6_undo_28 : decode cX6_undo 28 = .ok (.invokevirtual 170, 3) := by decide +kernel
theorem dX6_undo_31 : decode cX6_undo 31 = .ok (.aload_n 0, 1) := by decide +kernel
theorem dX6_undo_32 : decode cX6_undo 32 = .ok (.getfield 26, 3) := by decide +kernel
theorem dX6_undo_35 : decode cX6_undo 35 = .ok (.getfield 165, 3) := by decide +kernel
theorem dX6_undo_38 : decode cX6_undo 38 = .ok (.ireturn, 1) := by decide +kernel
theorem dX6_dial_0 : decode cX6_dial 0 = .ok (.iload_n 1, 1) := by decide +kernel
theorem dX6_dial_1 : decode cX6_dial 1 = .ok (.invokestatic 90, 3) := by decide +kernel
theorem dX6_dial_4 : decode cX6_dial 4 = .ok (.iload_n 2, 1) := by decide +kernel
theorem dX6_dial_5 : decode cX6_dial 5 = .ok (.ifCond .lt 9, 3) := by decide +kernel
theorem dX6_dial_8 : decode cX6_dial 8 = .ok (.iload_n 2, 1) := by decide +kernel
theorem dX6_dial_9 : decode cX6_dial 9 = .ok (.bipush 7, 2) := by decide +kernel
theorem dX6_dial_11 : decode cX6_dial 11 = .ok (.if_icmp .lt 13, 3) := by decide +kernel
theorem dX6_dial_14 : decode cX6_dial 14 = .ok (.new 44, 3) := by decide +kernel
theorem dX6_dial_17 : decode cX6_dial 17 = .ok (.dup, 1) := by decide +kernel
theorem dX6_dial_18 : decode cX6_dial 18 = .ok (.ldc 173, 2) := by decide +kernel
theorem dX6_dial_20 : decode cX6_dial 20 = .ok (.invokespecial 48, 3) := by decide +kernel
theorem dX6_dial_23 : decode cX6_dial 23 = .ok (.athrow, 1) := by decide +kernel
theorem dX6_dial_24 : decode cX6_dial 24 = .ok (.aload_n 0, 1) := by decide +kernel
theorem dX6_dial_25 : decode cX6_dial 25 = .ok (.iload_n 1, 1) := by decide +kernel
theorem dX6_dial_26 : decode cX6_dial 26 = .ok (.iload_n 2, 1) := by decide +kernel
theorem dX6_dial_27 : decode cX6_dial 27 = .ok (.invokevirtual 175, 3) := by decide +kernel
theorem dX6_dial_30 : decode cX6_dial 30 = .ok (.ireturn, 1) := by decide +kernel
theorem dX6_says_0 : decode cX6_says 0 = .ok (.iload_n 1, 1) := by decide +kernel
theorem dX6_says_1 : decode cX6_says 1 = .ok (.invokestatic 90, 3) := by decide +kernel
theorem dX6_says_4 : decode cX6_says 4 = .ok (.iload_n 2, 1) := by decide +kernel
theorem dX6_says_5 : decode cX6_says 5 = .ok (.ifCond .lt 9, 3) := by decide +kernel
theorem dX6_says_8 : decode cX6_says 8 = .ok (.iload_n 2, 1) := by decide +kernel
theorem dX6_says_9 : decode cX6_says 9 = .ok (.bipush 6, 2) := by decide +kernel
theorem dX6_says_11 : decode cX6_says 11 = .ok (.if_icmp .lt 13, 3) := by decide +kernel
theorem dX6_says_14 : decode cX6_says 14 = .ok (.new 44, 3) := by decide +kernel
theorem dX6_says_17 : decode cX6_says 17 = .ok (.dup, 1) := by decide +kernel
theorem dX6_says_18 : decode cX6_says 18 = .ok (.ldc 173, 2) := by decide +kernel
theorem dX6_says_20 : decode cX6_says 20 = .ok (.invokespecial 48, 3) := by decide +kernel
theorem dX6_says_23 : decode cX6_says 23 = .ok (.athrow, 1) := by decide +kernel
theorem dX6_says_24 : decode cX6_says 24 = .ok (.aload_n 0, 1) := by decide +kernel
theorem dX6_says_25 : decode cX6_says 25 = .ok (.iload_n 1, 1) := by decide +kernel
theorem dX6_says_26 : decode cX6_says 26 = .ok (.iload_n 2, 1) := by decide +kernel
theorem dX6_says_27 : decode cX6_says 27 = .ok (.invokevirtual 178, 3) := by decide +kernel
theorem dX6_says_30 : decode cX6_says 30 = .ok (.ireturn, 1) := by decide +kernel
theorem dX6_count_0 : decode cX6_count 0 = .ok (.iload_n 1, 1) := by decide +kernel
theorem dX6_count_1 : decode cX6_count 1 = .ok (.ifCond .lt 9, 3) := by decide +kernel
theorem dX6_count_4 : decode cX6_count 4 = .ok (.iload_n 1, 1) := by decide +kernel
theorem dX6_count_5 : decode cX6_count 5 = .ok (.bipush 14, 2) := by decide +kernel
theorem dX6_count_7 : decode cX6_count 7 = .ok (.if_icmp .lt 13, 3) := by decide +kernel
theorem dX6_count_10 : decode cX6_count 10 = .ok (.new 44, 3) := by decide +kernel
theorem dX6_count_13 : decode cX6_count 13 = .ok (.dup, 1) := by decide +kernel
theorem dX6_count_14 : decode cX6_count 14 = .ok (.ldc 173, 2) := by decide +kernel
theorem dX6_count_16 : decode cX6_count 16 = .ok (.invokespecial 48, 3) := by decide +kernel
theorem dX6_count_19 : decode cX6_count 19 = .ok (.athrow, 1) := by decide +kernel
theorem dX6_count_20 : decode cX6_count 20 = .ok (.iload_n 1, 1) := by decide +kernel
theorem dX6_count_21 : decode cX6_count 21 = .ok (.bipush 7, 2) := by decide +kernel
theorem dX6_count_23 : decode cX6_count 23 = .ok (.if_icmp .ge 11, 3) := by decide +kernel
theorem dX6_count_26 : decode cX6_count 26 = .ok (.aload_n 0, 1) := by decide +kernel
theorem dX6_count_27 : decode cX6_count 27 = .ok (.iload_n 1, 1) := by decide +kernel
theorem dX6_count_28 : decode cX6_count 28 = .ok (.invokevirtual 181, 3) := by decide +kernel
theorem dX6_count_31 : decode cX6_count 31 = .ok (.goto 8, 3) := by decide +kernel
theorem dX6_count_34 : decode cX6_count 34 = .ok (.aload_n 0, 1) := by decide +kernel
theorem dX6_count_35 : decode cX6_count 35 = .ok (.iload_n 1, 1) := by decide +kernel
theorem dX6_count_36 : decode cX6_count 36 = .ok (.invokevirtual 184, 3) := by decide +kernel
theorem dX6_count_39 : decode cX6_count 39 = .ok (.ireturn, 1) := by decide +kernel
theorem dX6_setting_0 : decode cX6_setting 0 = .ok (.iload_n 1, 1) := by decide +kernel
theorem dX6_setting_1 : decode cX6_setting 1 = .ok (.invokestatic 123, 3) := by decide +kernel
theorem dX6_setting_4 : decode cX6_setting 4 = .ok (.aload_n 0, 1) := by decide +kernel
theorem dX6_setting_5 : decode cX6_setting 5 = .ok (.getfield 10, 3) := by decide +kernel
theorem dX6_setting_8 : decode cX6_setting 8 = .ok (.getfield 128, 3) := by decide +kernel
theorem dX6_setting_11 : decode cX6_setting 11 = .ok (.iload_n 1, 1) := by decide +kernel
theorem dX6_setting_12 : decode cX6_setting 12 = .ok (.iaload, 1) := by decide +kernel
theorem dX6_setting_13 : decode cX6_setting 13 = .ok (.ireturn, 1) := by decide +kernel
theorem dX6_without_0 : decode cX6_without 0 = .ok (.iload_n 1, 1) := by decide +kernel
theorem dX6_without_1 : decode cX6_without 1 = .ok (.invokestatic 90, 3) := by decide +kernel
theorem dX6_without_4 : decode cX6_without 4 = .ok (.aload_n 0, 1) := by decide +kernel
theorem dX6_without_5 : decode cX6_without 5 = .ok (.iload_n 1, 1) := by decide +kernel
theorem dX6_without_6 : decode cX6_without 6 = .ok (.iconst 0, 1) := by decide +kernel
theorem dX6_without_7 : decode cX6_without 7 = .ok (.invokevirtual 187, 3) := by decide +kernel
theorem dX6_without_10 : decode cX6_without 10 = .ok (.ireturn, 1) := by decide +kernel
theorem dX6_pivot_0 : decode cX6_pivot 0 = .ok (.aload_n 0, 1) := by decide +kernel
theorem dX6_pivot_1 : decode cX6_pivot 1 = .ok (.invokevirtual 190, 3) := by decide +kernel
theorem dX6_pivot_4 : decode cX6_pivot 4 = .ok (.istore_n 1, 1) := by decide +kernel
theorem dX6_pivot_5 : decode cX6_pivot 5 = .ok (.iload_n 1, 1) := by decide +kernel
theorem dX6_pivot_6 : decode cX6_pivot 6 = .ok (.iconst (-1), 1) := by decide +kernel
theorem dX6_pivot_7 : decode cX6_pivot 7 = .ok (.if_icmp .ne 5, 3) := by decide +kernel
theorem dX6_pivot_10 : decode cX6_pivot 10 = .ok (.iconst (-1), 1) := by decide +kernel
theorem dX6_pivot_11 : decode cX6_pivot 11 = .ok (.ireturn, 1) := by decide +kernel
theorem dX6_pivot_12 : decode cX6_pivot 12 = .ok (.iconst (-1), 1) := by decide +kernel
theorem dX6_pivot_13 : decode cX6_pivot 13 = .ok (.istore_n 2, 1) := by decide +kernel
theorem dX6_pivot_14 : decode cX6_pivot 14 = .ok (.iconst (-1), 1) := by decide +kernel
theorem dX6_pivot_15 : decode cX6_pivot 15 = .ok (.istore_n 3, 1) := by decide +kernel
theorem dX6_pivot_16 : decode cX6_pivot 16 = .ok (.iconst 0, 1) := by decide +kernel
theorem dX6_pivot_17 : decode cX6_pivot 17 = .ok (.istore 4, 2) := by decide +kernel
theorem dX6_pivot_19 : decode cX6_pivot 19 = .ok (.iload 4, 2) := by decide +kernel
theorem dX6_pivot_21 : decode cX6_pivot 21 = .ok (.bipush 7, 2) := by decide +kernel
theorem dX6_pivot_23 : decode cX6_pivot 23 = .ok (.if_icmp .ge 44, 3) := by decide +kernel
theorem dX6_pivot_26 : decode cX6_pivot 26 = .ok (.aload_n 0, 1) := by decide +kernel
theorem dX6_pivot_27 : decode cX6_pivot 27 = .ok (.iload 4, 2) := by decide +kernel
theorem dX6_pivot_29 : decode cX6_pivot 29 = .ok (.iconst 0, 1) := by decide +kernel
theorem dX6_pivot_30 : decode cX6_pivot 30 = .ok (.invokevirtual 187, 3) := by decide +kernel
theorem dX6_pivot_33 : decode cX6_pivot 33 = .ok (.istore 5, 2) := by decide +kernel
theorem dX6_pivot_35 : decode cX6_pivot 35 = .ok (.iload 5, 2) := by decide +kernel
theorem dX6_pivot_37 : decode cX6_pivot 37 = .ok (.iload_n 1, 1) := by decide +kernel
theorem dX6_pivot_38 : decode cX6_pivot 38 = .ok (.invokestatic 193, 3) := by decide +kernel
theorem dX6_pivot_41 : decode cX6_pivot 41 = .ok (.istore 6, 2) := by decide +kernel
theorem dX6_pivot_43 : decode cX6_pivot 43 = .ok (.iload 5, 2) := by decide +kernel
theorem dX6_pivot_45 : decode cX6_pivot 45 = .ok (.iconst (-1), 1) := by decide +kernel
theorem dX6_pivot_46 : decode cX6_pivot 46 = .ok (.if_icmp .eq 15, 3) := by decide +kernel
theorem dX6_pivot_49 : decode cX6_pivot 49 = .ok (.iload 6, 2) := by decide +kernel
theorem dX6_pivot_51 : decode cX6_pivot 51 = .ok (.iload_n 3, 1) := by decide +kernel
theorem dX6_pivot_52 : decode cX6_pivot 52 = .ok (.if_icmp .le 9, 3) := by decide +kernel
theorem dX6_pivot_55 : decode cX6_pivot 55 = .ok (.iload 6, 2) := by decide +kernel
theorem dX6_pivot_57 : decode cX6_pivot 57 = .ok (.istore_n 3, 1) := by decide +kernel
theorem dX6_pivot_58 : decode cX6_pivot 58 = .ok (.iload 4, 2) := by decide +kernel
theorem dX6_pivot_60 : decode cX6_pivot 60 = .ok (.istore_n 2, 1) := by decide +kernel
theorem dX6_pivot_61 : decode cX6_pivot 61 = .ok (.iinc 4 1, 3) := by decide +kernel
theorem dX6_pivot_64 : decode cX6_pivot 64 = .ok (.goto (-45), 3) := by decide +kernel
theorem dX6_pivot_67 : decode cX6_pivot 67 = .ok (.iload_n 2, 1) := by decide +kernel
theorem dX6_pivot_68 : decode cX6_pivot 68 = .ok (.ireturn, 1) := by decide +kernel
theorem dX6_wins_0 : decode cX6_wins 0 = .ok (.iload_n 1, 1) := by decide +kernel
theorem dX6_wins_1 : decode cX6_wins 1 = .ok (.invokestatic 90, 3) := by decide +kernel
theorem dX6_wins_4 : decode cX6_wins 4 = .ok (.aload_n 0, 1) := by decide +kernel
theorem dX6_wins_5 : decode cX6_wins 5 = .ok (.getfield 10, 3) := by decide +kernel
theorem dX6_wins_8 : decode cX6_wins 8 = .ok (.iload_n 1, 1) := by decide +kernel
theorem dX6_wins_9 : decode cX6_wins 9 = .ok (.invokevirtual 196, 3) := by decide +kernel
theorem dX6_wins_12 : decode cX6_wins 12 = .ok (.istore_n 2, 1) := by decide +kernel
theorem dX6_wins_13 : decode cX6_wins 13 = .ok (.iconst 1, 1) := by decide +kernel
theorem dX6_wins_14 : decode cX6_wins 14 = .ok (.istore_n 3, 1) := by decide +kernel
theorem dX6_wins_15 : decode cX6_wins 15 = .ok (.iload_n 3, 1) := by decide +kernel
theorem dX6_wins_16 : decode cX6_wins 16 = .ok (.bipush 9, 2) := by decide +kernel
theorem dX6_wins_18 : decode cX6_wins 18 = .ok (.if_icmp .gt 21, 3) := by decide +kernel
theorem dX6_wins_21 : decode cX6_wins 21 = .ok (.aload_n 0, 1) := by decide +kernel
theorem dX6_wins_22 : decode cX6_wins 22 = .ok (.iload_n 1, 1) := by decide +kernel
theorem dX6_wins_23 : decode cX6_wins 23 = .ok (.iload_n 3, 1) := by decide +kernel
theorem dX6_wins_24 : decode cX6_wins 24 = .ok (.invokevirtual 187, 3) := by decide +kernel
theorem dX6_wins_27 : decode cX6_wins 27 = .ok (.iload_n 2, 1) := by decide +kernel
theorem dX6_wins_28 : decode cX6_wins 28 = .ok (.if_icmp .ne 5, 3) := by decide +kernel
theorem dX6_wins_31 : decode cX6_wins 31 = .ok (.iload_n 3, 1) := by decide +kernel
theorem dX6_wins_32 : decode cX6_wins 32 = .ok (.ireturn, 1) := by decide +kernel
theorem dX6_wins_33 : decode cX6_wins 33 = .ok (.iinc 3 1, 3) := by decide +kernel
theorem dX6_wins_36 : decode cX6_wins 36 = .ok (.goto (-21), 3) := by decide +kernel
theorem dX6_wins_39 : decode cX6_wins 39 = .ok (.iconst (-1), 1) := by decide +kernel
theorem dX6_wins_40 : decode cX6_wins 40 = .ok (.ireturn, 1) := by decide +kernel
theorem dX6_quarrelIn_0 : decode cX6_quarrelIn 0 = .ok (.iload_n 1, 1) := by decide +kernel
theorem dX6_quarrelIn_1 : decode cX6_quarrelIn 1 = .ok (.invokestatic 90, 3) := by decide +kernel
theorem dX6_quarrelIn_4 : decode cX6_quarrelIn 4 = .ok (.aload_n 0, 1) := by decide +kernel
theorem dX6_quarrelIn_5 : decode cX6_quarrelIn 5 = .ok (.getfield 10, 3) := by decide +kernel
theorem dX6_quarrelIn_8 : decode cX6_quarrelIn 8 = .ok (.iload_n 1, 1) := by decide +kernel
theorem dX6_quarrelIn_9 : decode cX6_quarrelIn 9 = .ok (.invokevirtual 199, 3) := by decide +kernel
theorem dX6_quarrelIn_12 : decode cX6_quarrelIn 12 = .ok (.ireturn, 1) := by decide +kernel
theorem dX6_ringsIn_0 : decode cX6_ringsIn 0 = .ok (.iload_n 1, 1) := by decide +kernel
theorem dX6_ringsIn_1 : decode cX6_ringsIn 1 = .ok (.invokestatic 90, 3) := by decide +kernel
theorem dX6_ringsIn_4 : decode cX6_ringsIn 4 = .ok (.aload_n 0, 1) := by decide +kernel
theorem dX6_ringsIn_5 : decode cX6_ringsIn 5 = .ok (.getfield 10, 3) := by decide +kernel
theorem dX6_ringsIn_8 : decode cX6_ringsIn 8 = .ok (.getfield 55, 3) := by decide +kernel
theorem dX6_ringsIn_11 : decode cX6_ringsIn 11 = .ok (.iload_n 1, 1) := by decide +kernel
theorem dX6_ringsIn_12 : decode cX6_ringsIn 12 = .ok (.invokevirtual 202, 3) := by decide +kernel
theorem dX6_ringsIn_15 : decode cX6_ringsIn 15 = .ok (.ireturn, 1) := by decide +kernel
theorem dX6_heldShare_0 : decode cX6_heldShare 0 = .ok (.aload_n 0, 1) := by decide +kernel
theorem dX6_heldShare_1 : decode cX6_heldShare 1 = .ok (.getfield 10, 3) := by decide +kernel
theorem dX6_heldShare_4 : decode cX6_heldShare 4 = .ok (.getfield 205, 3) := by decide +kernel
theorem dX6_heldShare_7 : decode cX6_heldShare 7 = .ok (.ifCond .ne 5, 3) := by decide +kernel
theorem dX6_heldShare_10 : decode cX6_heldShare 10 = .ok (.dconst 0, 1) := by decide +kernel
theorem dX6_heldShare_11 : decode cX6_heldShare 11 = .ok (.dreturn, 1) := by decide +kernel
theorem dX6_heldShare_12 : decode cX6_heldShare 12 = .ok (.aload_n 0, 1) := by decide +kernel
theorem dX6_heldShare_13 : decode cX6_heldShare 13 = .ok (.getfield 10, 3) := by decide +kernel
theorem dX6_heldShare_16 : decode cX6_heldShare 16 = .ok (.getfield 208, 3) := by decide +kernel
theorem dX6_heldShare_19 : decode cX6_heldShare 19 = .ok (.i2d, 1) := by decide +kernel
theorem dX6_heldShare_20 : decode cX6_heldShare 20 = .ok (.aload_n 0, 1) := by decide +kernel
theorem dX6_heldShare_21 : decode cX6_heldShare 21 = .ok (.getfield 10, 3) := by decide +kernel
theorem dX6_heldShare_24 : decode cX6_heldShare 24 = .ok (.getfield 205, 3) := by decide +kernel
theorem dX6_heldShare_27 : decode cX6_heldShare 27 = .ok (.i2d, 1) := by decide +kernel
theorem dX6_heldShare_28 : decode cX6_heldShare 28 = .ok (.ddiv, 1) := by decide +kernel
theorem dX6_heldShare_29 : decode cX6_heldShare 29 = .ok (.dreturn, 1) := by decide +kernel
theorem dX6_meanError_0 : decode cX6_meanError 0 = .ok (.iconst 0, 1) := by decide +kernel
theorem dX6_meanError_1 : decode cX6_meanError 1 = .ok (.istore_n 1, 1) := by decide +kernel
theorem dX6_meanError_2 : decode cX6_meanError 2 = .ok (.iconst 0, 1) := by decide +kernel
theorem dX6_meanError_3 : decode cX6_meanError 3 = .ok (.istore_n 2, 1) := by decide +kernel
theorem dX6_meanError_4 : decode cX6_meanError 4 = .ok (.iload_n 2, 1) := by decide +kernel
theorem dX6_meanError_5 : decode cX6_meanError 5 = .ok (.bipush 7, 2) := by decide +kernel
theorem dX6_meanError_7 : decode cX6_meanError 7 = .ok (.if_icmp .ge 23, 3) := by decide +kernel
theorem dX6_meanError_10 : decode cX6_meanError 10 = .ok (.iload_n 1, 1) := by decide +kernel
theorem dX6_meanError_11 : decode cX6_meanError 11 = .ok (.aload_n 0, 1) := by decide +kernel
theorem dX6_meanError_12 : decode cX6_meanError 12 = .ok (.getfield 10, 3) := by decide +kernel
theorem dX6_meanError_15 : decode cX6_meanError 15 = .ok (.getfield 55, 3) := by decide +kernel
theorem dX6_meanError_18 : decode cX6_meanError 18 = .ok (.iload_n 2, 1) := by decide +kernel
theorem dX6_meanError_19 : decode cX6_meanError 19 = .ok (.invokevirtual 211, 3) := by decide +kernel
theorem dX6_meanError_22 : decode cX6_meanError 22 = .ok (.iadd, 1) := by decide +kernel
theorem dX6_meanError_23 : decode cX6_meanError 23 = .ok (.istore_n 1, 1) := by decide +kernel
theorem dX6_meanError_24 : decode cX6_meanError 24 = .ok (.iinc 2 1, 3) := by decide +kernel
theorem dX6_meanError_27 : decode cX6_meanError 27 = .ok (.goto (-23), 3) := by decide +kernel
theorem dX6_meanError_30 : decode cX6_meanError 30 = .ok (.iload_n 1, 1) := by decide +kernel
theorem dX6_meanError_31 : decode cX6_meanError 31 = .ok (.i2f, 1) := by decide +kernel
theorem dX6_meanError_32 : decode cX6_meanError 32 = .ok (.ldc 214, 2) := by decide +kernel
theorem dX6_meanError_34 : decode cX6_meanError 34 = .ok (.fdiv, 1) := by decide +kernel
theorem dX6_meanError_35 : decode cX6_meanError 35 = .ok (.freturn, 1) := by decide +kernel
theorem dX6_digest_0 : decode cX6_digest 0 = .ok (.ldc2_w 215, 3) := by decide +kernel
theorem dX6_digest_3 : decode cX6_digest 3 = .ok (.lstore_n 1, 1) := by decide +kernel
theorem dX6_digest_4 : decode cX6_digest 4 = .ok (.iconst 0, 1) := by decide +kernel
theorem dX6_digest_5 : decode cX6_digest 5 = .ok (.istore_n 3, 1) := by decide +kernel
theorem dX6_digest_6 : decode cX6_digest 6 = .ok (.iload_n 3, 1) := by decide +kernel
theorem dX6_digest_7 : decode cX6_digest 7 = .ok (.bipush 14, 2) := by decide +kernel
theorem dX6_digest_9 : decode cX6_digest 9 = .ok (.if_icmp .ge 20, 3) := by decide +kernel
theorem dX6_digest_12 : decode cX6_digest 12 = .ok (.lload_n 1, 1) := by decide +kernel
theorem dX6_digest_13 : decode cX6_digest 13 = .ok (.aload_n 0, 1) := by decide +kernel
theorem dX6_digest_14 : decode cX6_digest 14 = .ok (.iload_n 3, 1) := by decide +kernel
theorem dX6_digest_15 : decode cX6_digest 15 = .ok (.invokevirtual 217, 3) := by decide +kernel
theorem dX6_digest_18 : decode cX6_digest 18 = .ok (.i2l, 1) := by decide +kernel
theorem dX6_digest_19 : decode cX6_digest 19 = .ok (.invokestatic 220, 3) := by decide +kernel
theorem dX6_digest_22 : decode cX6_digest 22 = .ok (.lstore_n 1, 1) := by decide +kernel
theorem dX6_digest_23 : decode cX6_digest 23 = .ok (.iinc 3 1, 3) := by decide +kernel
theorem dX6_digest_26 : decode cX6_digest 26 = .ok (.goto (-20), 3) := by decide +kernel
theorem dX6_digest_29 : decode cX6_digest 29 = .ok (.iconst 0, 1) := by decide +kernel
theorem dX6_digest_30 : decode cX6_digest 30 = .ok (.istore_n 3, 1) := by decide +kernel
theorem dX6_digest_31 : decode cX6_digest 31 = .ok (.iload_n 3, 1) := by decide +kernel
theorem dX6_digest_32 : decode cX6_digest 32 = .ok (.iconst 2, 1) := by decide +kernel
theorem dX6_digest_33 : decode cX6_digest 33 = .ok (.if_icmp .ge 24, 3) := by decide +kernel
theorem dX6_digest_36 : decode cX6_digest 36 = .ok (.lload_n 1, 1) := by decide +kernel
theorem dX6_digest_37 : decode cX6_digest 37 = .ok (.aload_n 0, 1) := by decide +kernel
theorem dX6_digest_38 : decode cX6_digest 38 = .ok (.getfield 10, 3) := by decide +kernel
theorem dX6_digest_41 : decode cX6_digest 41 = .ok (.getfield 128, 3) := by decide +kernel
theorem dX6_digest_44 : decode cX6_digest 44 = .ok (.iload_n 3, 1) := by decide +kernel
theorem dX6_digest_45 : decode cX6_digest 45 = .ok (.iaload, 1) := by decide +kernel
theorem dX6_digest_46 : decode cX6_digest 46 = .ok (.i2l, 1) := by decide +kernel
theorem dX6_digest_47 : decode cX6_digest 47 = .ok (.invokestatic 220, 3) := by decide +kernel
theorem dX6_digest_50 : decode cX6_digest 50 = .ok (.lstore_n 1, 1) := by decide +kernel
theorem dX6_digest_51 : decode cX6_digest 51 = .ok (.iinc 3 1, 3) := by decide +kernel
theorem dX6_digest_54 : decode cX6_digest 54 = .ok (.goto (-23), 3) := by decide +kernel
theorem dX6_digest_57 : decode cX6_digest 57 = .ok (.iconst 0, 1) := by decide +kernel
theorem dX6_digest_58 : decode cX6_digest 58 = .ok (.istore_n 3, 1) := by decide +kernel
theorem dX6_digest_59 : decode cX6_digest 59 = .ok (.iload_n 3, 1) := by decide +kernel
theorem dX6_digest_60 : decode cX6_digest 60 = .ok (.bipush 7, 2) := by decide +kernel
theorem dX6_digest_62 : decode cX6_digest 62 = .ok (.if_icmp .ge 16, 3) := by decide +kernel
theorem dX6_digest_65 : decode cX6_digest 65 = .ok (.aload_n 0, 1) := by decide +kernel
theorem dX6_digest_66 : decode cX6_digest 66 = .ok (.lload_n 1, 1) := by decide +kernel
theorem dX6_digest_67 : decode cX6_digest 67 = .ok (.iload_n 3, 1) := by decide +kernel
theorem dX6_digest_68 : decode cX6_digest 68 = .ok (.invokevirtual 224, 3) := by decide +kernel
theorem dX6_digest_71 : decode cX6_digest 71 = .ok (.lstore_n 1, 1) := by decide +kernel
theorem dX6_digest_72 : decode cX6_digest 72 = .ok (.iinc 3 1, 3) := by decide +kernel
theorem dX6_digest_75 : decode cX6_digest 75 = .ok (.goto (-16), 3) := by decide +kernel
theorem dX6_digest_78 : decode cX6_digest 78 = .ok (.iconst 0, 1) := by decide +kernel
theorem dX6_digest_79 : decode cX6_digest 79 = .ok (.istore_n 3, 1) := by decide +kernel
theorem dX6_digest_80 : decode cX6_digest 80 = .ok (.iload_n 3, 1) := by decide +kernel
theorem dX6_digest_81 : decode cX6_digest 81 = .ok (.bipush 7, 2) := by decide +kernel
theorem dX6_digest_83 : decode cX6_digest 83 = .ok (.if_icmp .ge 16, 3) := by decide +kernel
theorem dX6_digest_86 : decode cX6_digest 86 = .ok (.aload_n 0, 1) := by decide +kernel
theorem dX6_digest_87 : decode cX6_digest 87 = .ok (.lload_n 1, 1) := by decide +kernel
theorem dX6_digest_88 : decode cX6_digest 88 = .ok (.iload_n 3, 1) := by decide +kernel
theorem dX6_digest_89 : decode cX6_digest 89 = .ok (.invokevirtual 228, 3) := by decide +kernel
theorem dX6_digest_92 : decode cX6_digest 92 = .ok (.lstore_n 1, 1) := by decide +kernel
theorem dX6_digest_93 : decode cX6_digest 93 = .ok (.iinc 3 1, 3) := by decide +kernel
theorem dX6_digest_96 : decode cX6_digest 96 = .ok (.goto (-16), 3) := by decide +kernel
theorem dX6_digest_99 : decode cX6_digest 99 = .ok (.lload_n 1, 1) := by decide +kernel
theorem dX6_digest_100 : decode cX6_digest 100 = .ok (.aload_n 0, 1) := by decide +kernel
theorem dX6_digest_101 : decode cX6_digest 101 = .ok (.invokevirtual 231, 3) := by decide +kernel
theorem dX6_digest_104 : decode cX6_digest 104 = .ok (.i2l, 1) := by decide +kernel
theorem dX6_digest_105 : decode cX6_digest 105 = .ok (.invokestatic 220, 3) := by decide +kernel
theorem dX6_digest_108 : decode cX6_digest 108 = .ok (.lstore_n 1, 1) := by decide +kernel
theorem dX6_digest_109 : decode cX6_digest 109 = .ok (.lload_n 1, 1) := by decide +kernel
theorem dX6_digest_110 : decode cX6_digest 110 = .ok (.aload_n 0, 1) := by decide +kernel
theorem dX6_digest_111 : decode cX6_digest 111 = .ok (.invokevirtual 234, 3) := by decide +kernel
theorem dX6_digest_114 : decode cX6_digest 114 = .ok (.bipush 52, 2) := by decide +kernel
theorem dX6_digest_116 : decode cX6_digest 116 = .ok (.sipush 1023, 3) := by decide +kernel
theorem dX6_digest_119 : decode cX6_digest 119 = .ok (.invokestatic 238, 3) := by decide +kernel
theorem dX6_digest_122 : decode cX6_digest 122 = .ok (.invokestatic 220, 3) := by decide +kernel
theorem dX6_digest_125 : decode cX6_digest 125 = .ok (.lstore_n 1, 1) := by decide +kernel
theorem dX6_digest_126 : decode cX6_digest 126 = .ok (.lload_n 1, 1) := by decide +kernel
theorem dX6_digest_127 : decode cX6_digest 127 = .ok (.aload_n 0, 1) := by decide +kernel
theorem dX6_digest_128 : decode cX6_digest 128 = .ok (.invokevirtual 242, 3) := by decide +kernel
theorem dX6_digest_131 : decode cX6_digest 131 = .ok (.f2d, 1) := by decide +kernel
theorem dX6_digest_132 : decode cX6_digest 132 = .ok (.bipush 23, 2) := by decide +kernel
theorem dX6_digest_134 : decode cX6_digest 134 = .ok (.bipush 127, 2) := by decide +kernel
theorem dX6_digest_136 : decode cX6_digest 136 = .ok (.invokestatic 238, 3) := by decide +kernel
theorem dX6_digest_139 : decode cX6_digest 139 = .ok (.invokestatic 220, 3) := by decide +kernel
theorem dX6_digest_142 : decode cX6_digest 142 = .ok (.lstore_n 1, 1) := by decide +kernel
theorem dX6_digest_143 : decode cX6_digest 143 = .ok (.lload_n 1, 1) := by decide +kernel
theorem dX6_digest_144 : decode cX6_digest 144 = .ok (.aload_n 0, 1) := by decide +kernel
theorem dX6_digest_145 : decode cX6_digest 145 = .ok (.getfield 19, 3) := by decide +kernel
theorem dX6_digest_148 : decode cX6_digest 148 = .ok (.ifCond .eq 7, 3) := by decide +kernel
theorem dX6_digest_151 : decode cX6_digest 151 = .ok (.lconst 1, 1) := by decide +kernel
theorem dX6_digest_152 : decode cX6_digest 152 = .ok (.goto 4, 3) := by decide +kernel
theorem dX6_digest_155 : decode cX6_digest 155 = .ok (.lconst 0, 1) := by decide +kernel
theorem dX6_digest_156 : decode cX6_digest 156 = .ok (.invokestatic 220, 3) := by decide +kernel
theorem dX6_digest_159 : decode cX6_digest 159 = .ok (.lstore_n 1, 1) := by decide +kernel
theorem dX6_digest_160 : decode cX6_digest 160 = .ok (.lload_n 1, 1) := by decide +kernel
theorem dX6_digest_161 : decode cX6_digest 161 = .ok (.aload_n 0, 1) := by decide +kernel
theorem dX6_digest_162 : decode cX6_digest 162 = .ok (.getfield 33, 3) := by decide +kernel
theorem dX6_digest_165 : decode cX6_digest 165 = .ok (.getfield 133, 3) := by decide +kernel
theorem dX6_digest_168 : decode cX6_digest 168 = .ok (.i2l, 1) := by decide +kernel
theorem dX6_digest_169 : decode cX6_digest 169 = .ok (.invokestatic 220, 3) := by decide +kernel
theorem dX6_digest_172 : decode cX6_digest 172 = .ok (.lstore_n 1, 1) := by decide +kernel
theorem dX6_digest_173 : decode cX6_digest 173 = .ok (.iconst 0, 1) := by decide +kernel
theorem dX6_digest_174 : decode cX6_digest 174 = .ok (.istore_n 3, 1) := by decide +kernel
theorem dX6_digest_175 : decode cX6_digest 175 = .ok (.iload_n 3, 1) := by decide +kernel
theorem dX6_digest_176 : decode cX6_digest 176 = .ok (.aload_n 0, 1) := by decide +kernel
theorem dX6_digest_177 : decode cX6_digest 177 = .ok (.getfield 33, 3) := by decide +kernel
theorem dX6_digest_180 : decode cX6_digest 180 = .ok (.getfield 133, 3) := by decide +kernel
theorem dX6_digest_183 : decode cX6_digest 183 = .ok (.if_icmp .ge 23, 3) := by decide +kernel
theorem dX6_digest_186 : decode cX6_digest 186 = .ok (.lload_n 1, 1) := by decide +kernel
theorem dX6_digest_187 : decode cX6_digest 187 = .ok (.aload_n 0, 1) := by decide +kernel
theorem dX6_digest_188 : decode cX6_digest 188 = .ok (.getfield 33, 3) := by decide +kernel
theorem dX6_digest_191 : decode cX6_digest 191 = .ok (.iload_n 3, 1) := by decide +kernel
theorem dX6_digest_192 : decode cX6_digest 192 = .ok (.invokevirtual 246, 3) := by decide +kernel
theorem dX6_digest_195 : decode cX6_digest 195 = .ok (.i2l, 1) := by decide +kernel
theorem dX6_digest_196 : decode cX6_digest 196 = .ok (.invokestatic 220, 3) := by decide +kernel
theorem dX6_digest_199 : decode cX6_digest 199 = .ok (.lstore_n 1, 1) := by decide +kernel
theorem dX6_digest_200 : decode cX6_digest 200 = .ok (.iinc 3 1, 3) := by decide +kernel
theorem dX6_digest_203 : decode cX6_digest 203 = .ok (.goto (-28), 3) := by decide +kernel
theorem dX6_digest_206 : decode cX6_digest 206 = .ok (.lload_n 1, 1) := by decide +kernel
theorem dX6_digest_207 : decode cX6_digest 207 = .ok (.lreturn, 1) := by decide +kernel
theorem dX6_mustBeDial_0 : decode cX6_mustBeDial 0 = .ok (.iload_n 0, 1) := by decide +kernel
theorem dX6_mustBeDial_1 : decode cX6_mustBeDial 1 = .ok (.ifCond .lt 9, 3) := by decide +kernel
theorem dX6_mustBeDial_4 : decode cX6_mustBeDial 4 = .ok (.iload_n 0, 1) := by decide +kernel
theorem dX6_mustBeDial_5 : decode cX6_mustBeDial 5 = .ok (.bipush 7, 2) := by decide +kernel
theorem dX6_mustBeDial_7 : decode cX6_mustBeDial 7 = .ok (.if_icmp .lt 13, 3) := by decide +kernel
theorem dX6_mustBeDial_10 : decode cX6_mustBeDial 10 = .ok (.new 249, 3) := by decide +kernel
theorem dX6_mustBeDial_13 : decode cX6_mustBeDial 13 = .ok (.dup, 1) := by decide +kernel
theorem dX6_mustBeDial_14 : decode cX6_mustBeDial 14 = .ok (.ldc 251, 2) := by decide +kernel
theorem dX6_mustBeDial_16 : decode cX6_mustBeDial 16 = .ok (.invokespecial 253, 3) := by decide +kernel
theorem dX6_mustBeDial_19 : decode cX6_mustBeDial 19 = .ok (.athrow, 1) := by decide +kernel
theorem dX6_mustBeDial_20 : decode cX6_mustBeDial 20 = .ok (.return_, 1) := by decide +kernel
theorem dX6_mustBeSetting_0 : decode cX6_mustBeSetting 0 = .ok (.iload_n 0, 1) := by decide +kernel
theorem dX6_mustBeSetting_1 : decode cX6_mustBeSetting 1 = .ok (.ifCond .lt 8, 3) := by decide +kernel
theorem dX6_mustBeSetting_4 : decode cX6_mustBeSetting 4 = .ok (.iload_n 0, 1) := by decide +kernel
theorem dX6_mustBeSetting_5 : decode cX6_mustBeSetting 5 = .ok (.iconst 2, 1) := by decide +kernel
theorem dX6_mustBeSetting_6 : decode cX6_mustBeSetting 6 = .ok (.if_icmp .lt 13, 3) := by decide +kernel
theorem dX6_mustBeSetting_9 : decode cX6_mustBeSetting 9 = .ok (.new 249, 3) := by decide +kernel
theorem dX6_mustBeSetting_12 : decode cX6_mustBeSetting 12 = .ok (.dup, 1) := by decide +kernel
theorem dX6_mustBeSetting_13 : decode cX6_mustBeSetting 13 = .ok (.ldc 254, 2) := by decide +kernel
theorem dX6_mustBeSetting_15 : decode cX6_mustBeSetting 15 = .ok (.invokespecial 253, 3) := by decide +kernel
theorem dX6_mustBeSetting_18 : decode cX6_mustBeSetting 18 = .ok (.athrow, 1) := by decide +kernel
theorem dX6_mustBeSetting_19 : decode cX6_mustBeSetting 19 = .ok (.return_, 1) := by decide +kernel
theorem dX6_dialBehind_0 : decode cX6_dialBehind 0 = .ok (.iload_n 0, 1) := by decide +kernel
theorem dX6_dialBehind_1 : decode cX6_dialBehind 1 = .ok (.iconst 1, 1) := by decide +kernel
theorem dX6_dialBehind_2 : decode cX6_dialBehind 2 = .ok (.iadd, 1) := by decide +kernel
theorem dX6_dialBehind_3 : decode cX6_dialBehind 3 = .ok (.bipush 7, 2) := by decide +kernel
theorem dX6_dialBehind_5 : decode cX6_dialBehind 5 = .ok (.if_icmp .ge 9, 3) := by decide +kernel
theorem dX6_dialBehind_8 : decode cX6_dialBehind 8 = .ok (.iload_n 0, 1) := by decide +kernel
theorem dX6_dialBehind_9 : decode cX6_dialBehind 9 = .ok (.iconst 1, 1) := by decide +kernel
theorem dX6_dialBehind_10 : decode cX6_dialBehind 10 = .ok (.iadd, 1) := by decide +kernel
theorem dX6_dialBehind_11 : decode cX6_dialBehind 11 = .ok (.goto 4, 3) := by decide +kernel
theorem dX6_dialBehind_14 : decode cX6_dialBehind 14 = .ok (.iconst 0, 1) := by decide +kernel
theorem dX6_dialBehind_15 : decode cX6_dialBehind 15 = .ok (.ireturn, 1) := by decide +kernel
theorem dX6_dialBefore_0 : decode cX6_dialBefore 0 = .ok (.iload_n 0, 1) := by decide +kernel
theorem dX6_dialBefore_1 : decode cX6_dialBefore 1 = .ok (.ifCond .le 9, 3) := by decide +kernel
theorem dX6_dialBefore_4 : decode cX6_dialBefore 4 = .ok (.iload_n 0, 1) := by decide +kernel
theorem dX6_dialBefore_5 : decode cX6_dialBefore 5 = .ok (.iconst 1, 1) := by decide +kernel
theorem dX6_dialBefore_6 : decode cX6_dialBefore 6 = .ok (.isub, 1) := by decide +kernel
theorem dX6_dialBefore_7 : decode cX6_dialBefore 7 = .ok (.goto 5, 3) := by decide +kernel
theorem dX6_dialBefore_10 : decode cX6_dialBefore 10 = .ok (.bipush 6, 2) := by decide +kernel
theorem dX6_dialBefore_12 : decode cX6_dialBefore 12 = .ok (.ireturn, 1) := by decide +kernel
theorem dX6_distance_0 : decode cX6_distance 0 = .ok (.iload_n 0, 1) := by decide +kernel
theorem dX6_distance_1 : decode cX6_distance 1 = .ok (.iload_n 1, 1) := by decide +kernel
theorem dX6_distance_2 : decode cX6_distance 2 = .ok (.if_icmp .ge 9, 3) := by decide +kernel
theorem dX6_distance_5 : decode cX6_distance 5 = .ok (.iload_n 1, 1) := by decide +kernel
theorem dX6_distance_6 : decode cX6_distance 6 = .ok (.iload_n 0, 1) := by decide +kernel
theorem dX6_distance_7 : decode cX6_distance 7 = .ok (.isub, 1) := by decide +kernel
theorem dX6_distance_8 : decode cX6_distance 8 = .ok (.goto 6, 3) := by decide +kernel
theorem dX6_distance_11 : decode cX6_distance 11 = .ok (.iload_n 0, 1) := by decide +kernel
theorem dX6_distance_12 : decode cX6_distance 12 = .ok (.iload_n 1, 1) := by decide +kernel
theorem dX6_distance_13 : decode cX6_distance 13 = .ok (.isub, 1) := by decide +kernel
theorem dX6_distance_14 : decode cX6_distance 14 = .ok (.ireturn, 1) := by decide +kernel
theorem dX6_sum_0 : decode cX6_sum 0 = .ok (.iconst 0, 1) := by decide +kernel
theorem dX6_sum_1 : decode cX6_sum 1 = .ok (.istore_n 1, 1) := by decide +kernel
theorem dX6_sum_2 : decode cX6_sum 2 = .ok (.aload_n 0, 1) := by decide +kernel
theorem dX6_sum_3 : decode cX6_sum 3 = .ok (.astore_n 2, 1) := by decide +kernel
theorem dX6_sum_4 : decode cX6_sum 4 = .ok (.aload_n 2, 1) := by decide +kernel
theorem dX6_sum_5 : decode cX6_sum 5 = .ok (.arraylength, 1) := by decide +kernel
theorem dX6_sum_6 : decode cX6_sum 6 = .ok (.istore_n 3, 1) := by decide +kernel
theorem dX6_sum_7 : decode cX6_sum 7 = .ok (.iconst 0, 1) := by decide +kernel
theorem dX6_sum_8 : decode cX6_sum 8 = .ok (.istore 4, 2) := by decide +kernel
theorem dX6_sum_10 : decode cX6_sum 10 = .ok (.iload 4, 2) := by decide +kernel
theorem dX6_sum_12 : decode cX6_sum 12 = .ok (.iload_n 3, 1) := by decide +kernel
theorem dX6_sum_13 : decode cX6_sum 13 = .ok (.if_icmp .ge 20, 3) := by decide +kernel
theorem dX6_sum_16 : decode cX6_sum 16 = .ok (.aload_n 2, 1) := by decide +kernel
theorem dX6_sum_17 : decode cX6_sum 17 = .ok (.iload 4, 2) := by decide +kernel
theorem dX6_sum_19 : decode cX6_sum 19 = .ok (.iaload, 1) := by decide +kernel
theorem dX6_sum_20 : decode cX6_sum 20 = .ok (.istore 5, 2) := by decide +kernel
theorem dX6_sum_22 : decode cX6_sum 22 = .ok (.iload_n 1, 1) := by decide +kernel
theorem dX6_sum_23 : decode cX6_sum 23 = .ok (.iload 5, 2) := by decide +kernel
theorem dX6_sum_25 : decode cX6_sum 25 = .ok (.iadd, 1) := by decide +kernel
theorem dX6_sum_26 : decode cX6_sum 26 = .ok (.istore_n 1, 1) := by decide +kernel
theorem dX6_sum_27 : decode cX6_sum 27 = .ok (.iinc 4 1, 3) := by decide +kernel
theorem dX6_sum_30 : decode cX6_sum 30 = .ok (.goto (-20), 3) := by decide +kernel
theorem dX6_sum_33 : decode cX6_sum 33 = .ok (.iload_n 1, 1) := by decide +kernel
theorem dX6_sum_34 : decode cX6_sum 34 = .ok (.ireturn, 1) := by decide +kernel
theorem dX6_copyRow_0 : decode cX6_copyRow 0 = .ok (.iconst 0, 1) := by decide +kernel
theorem dX6_copyRow_1 : decode cX6_copyRow 1 = .ok (.istore_n 2, 1) := by decide +kernel
theorem dX6_copyRow_2 : decode cX6_copyRow 2 = .ok (.iload_n 2, 1) := by decide +kernel
theorem dX6_copyRow_3 : decode cX6_copyRow 3 = .ok (.aload_n 1, 1) := by decide +kernel
theorem dX6_copyRow_4 : decode cX6_copyRow 4 = .ok (.arraylength, 1) := by decide +kernel
theorem dX6_copyRow_5 : decode cX6_copyRow 5 = .ok (.if_icmp .ge 21, 3) := by decide +kernel
theorem dX6_copyRow_8 : decode cX6_copyRow 8 = .ok (.iload_n 2, 1) := by decide +kernel
theorem dX6_copyRow_9 : decode cX6_copyRow 9 = .ok (.aload_n 0, 1) := by decide +kernel
theorem dX6_copyRow_10 : decode cX6_copyRow 10 = .ok (.arraylength, 1) := by decide +kernel
theorem dX6_copyRow_11 : decode cX6_copyRow 11 = .ok (.if_icmp .ge 15, 3) := by decide +kernel
theorem dX6_copyRow_14 : decode cX6_copyRow 14 = .ok (.aload_n 1, 1) := by decide +kernel
theorem dX6_copyRow_15 : decode cX6_copyRow 15 = .ok (.iload_n 2, 1) := by decide +kernel
theorem dX6_copyRow_16 : decode cX6_copyRow 16 = .ok (.aload_n 0, 1) := by decide +kernel
theorem dX6_copyRow_17 : decode cX6_copyRow 17 = .ok (.iload_n 2, 1) := by decide +kernel
theorem dX6_copyRow_18 : decode cX6_copyRow 18 = .ok (.iaload, 1) := by decide +kernel
theorem dX6_copyRow_19 : decode cX6_copyRow 19 = .ok (.iastore, 1) := by decide +kernel
theorem dX6_copyRow_20 : decode cX6_copyRow 20 = .ok (.iinc 2 1, 3) := by decide +kernel
theorem dX6_copyRow_23 : decode cX6_copyRow 23 = .ok (.goto (-21), 3) := by decide +kernel
theorem dX6_copyRow_26 : decode cX6_copyRow 26 = .ok (.return_, 1) := by decide +kernel
theorem dX6_mixed_0 : decode cX6_mixed 0 = .ok (.ldc2_w 256, 3) := by decide +kernel
theorem dX6_mixed_3 : decode cX6_mixed 3 = .ok (.lload_n 0, 1) := by decide +kernel
theorem dX6_mixed_4 : decode cX6_mixed 4 = .ok (.lmul, 1) := by decide +kernel
theorem dX6_mixed_5 : decode cX6_mixed 5 = .ok (.lload_n 2, 1) := by decide +kernel
theorem dX6_mixed_6 : decode cX6_mixed 6 = .ok (.ladd, 1) := by decide +kernel
theorem dX6_mixed_7 : decode cX6_mixed 7 = .ok (.lreturn, 1) := by decide +kernel
theorem dX6_bitsOf_0 : decode cX6_bitsOf 0 = .ok (.dload_n 0, 1) := by decide +kernel
theorem dX6_bitsOf_1 : decode cX6_bitsOf 1 = .ok (.dconst 0, 1) := by decide +kernel
theorem dX6_bitsOf_2 : decode cX6_bitsOf 2 = .ok (.dcmp .g, 1) := by decide +kernel
theorem dX6_bitsOf_3 : decode cX6_bitsOf 3 = .ok (.ifCond .gt 5, 3) := by decide +kernel
theorem dX6_bitsOf_6 : decode cX6_bitsOf 6 = .ok (.lconst 0, 1) := by decide +kernel
theorem dX6_bitsOf_7 : decode cX6_bitsOf 7 = .ok (.lreturn, 1) := by decide +kernel
theorem dX6_bitsOf_8 : decode cX6_bitsOf 8 = .ok (.dload_n 0, 1) := by decide +kernel
theorem dX6_bitsOf_9 : decode cX6_bitsOf 9 = .ok (.dstore 4, 2) := by decide +kernel
theorem dX6_bitsOf_11 : decode cX6_bitsOf 11 = .ok (.iconst 0, 1) := by decide +kernel
theorem dX6_bitsOf_12 : decode cX6_bitsOf 12 = .ok (.istore 6, 2) := by decide +kernel
theorem dX6_bitsOf_14 : decode cX6_bitsOf 14 = .ok (.iconst 0, 1) := by decide +kernel
theorem dX6_bitsOf_15 : decode cX6_bitsOf 15 = .ok (.istore 7, 2) := by decide +kernel
theorem dX6_bitsOf_17 : decode cX6_bitsOf 17 = .ok (.iload 7, 2) := by decide +kernel
theorem dX6_bitsOf_19 : decode cX6_bitsOf 19 = .ok (.sipush 1100, 3) := by decide +kernel
theorem dX6_bitsOf_22 : decode cX6_bitsOf 22 = .ok (.if_icmp .ge 27, 3) := by decide +kernel
theorem dX6_bitsOf_25 : decode cX6_bitsOf 25 = .ok (.dload 4, 2) := by decide +kernel
theorem dX6_bitsOf_27 : decode cX6_bitsOf 27 = .ok (.dconst 1, 1) := by decide +kernel
theorem dX6_bitsOf_28 : decode cX6_bitsOf 28 = .ok (.dcmp .g, 1) := by decide +kernel
theorem dX6_bitsOf_29 : decode cX6_bitsOf 29 = .ok (.ifCond .ge 20, 3) := by decide +kernel
theorem dX6_bitsOf_32 : decode cX6_bitsOf 32 = .ok (.dload 4, 2) := by decide +kernel
theorem dX6_bitsOf_34 : decode cX6_bitsOf 34 = .ok (.ldc2_w 258, 3) := by decide +kernel
theorem dX6_bitsOf_37 : decode cX6_bitsOf 37 = .ok (.dmul, 1) := by decide +kernel
theorem dX6_bitsOf_38 : decode cX6_bitsOf 38 = .ok (.dstore 4, 2) := by decide +kernel
theorem dX6_bitsOf_40 : decode cX6_bitsOf 40 = .ok (.iinc 6 (-1), 3) := by decide +kernel
theorem dX6_bitsOf_43 : decode cX6_bitsOf 43 = .ok (.iinc 7 1, 3) := by decide +kernel
theorem dX6_bitsOf_46 : decode cX6_bitsOf 46 = .ok (.goto (-29), 3) := by decide +kernel
theorem dX6_bitsOf_49 : decode cX6_bitsOf 49 = .ok (.iconst 0, 1) := by decide +kernel
theorem dX6_bitsOf_50 : decode cX6_bitsOf 50 = .ok (.istore 7, 2) := by decide +kernel
theorem dX6_bitsOf_52 : decode cX6_bitsOf 52 = .ok (.iload 7, 2) := by decide +kernel
theorem dX6_bitsOf_54 : decode cX6_bitsOf 54 = .ok (.sipush 1100, 3) := by decide +kernel
theorem dX6_bitsOf_57 : decode cX6_bitsOf 57 = .ok (.if_icmp .ge 29, 3) := by decide +kernel
theorem dX6_bitsOf_60 : decode cX6_bitsOf 60 = .ok (.dload 4, 2) := by decide +kernel
theorem dX6_bitsOf_62 : decode cX6_bitsOf 62 = .ok (.ldc2_w 258, 3) := by decide +kernel
theorem dX6_bitsOf_65 : decode cX6_bitsOf 65 = .ok (.dcmp .l, 1) := by decide +kernel
theorem dX6_bitsOf_66 : decode cX6_bitsOf 66 = .ok (.ifCond .lt 20, 3) := by decide +kernel
theorem dX6_bitsOf_69 : decode cX6_bitsOf 69 = .ok (.dload 4, 2) := by decide +kernel
theorem dX6_bitsOf_71 : decode cX6_bitsOf 71 = .ok (.ldc2_w 258, 3) := by decide +kernel
theorem dX6_bitsOf_74 : decode cX6_bitsOf 74 = .ok (.ddiv, 1) := by decide +kernel
theorem dX6_bitsOf_75 : decode cX6_bitsOf 75 = .ok (.dstore 4, 2) := by decide +kernel
theorem dX6_bitsOf_77 : decode cX6_bitsOf 77 = .ok (.iinc 6 1, 3) := by decide +kernel
theorem dX6_bitsOf_80 : decode cX6_bitsOf 80 = .ok (.iinc 7 1, 3) := by decide +kernel
theorem dX6_bitsOf_83 : decode cX6_bitsOf 83 = .ok (.goto (-31), 3) := by decide +kernel
theorem dX6_bitsOf_86 : decode cX6_bitsOf 86 = .ok (.lconst 1, 1) := by decide +kernel
theorem dX6_bitsOf_87 : decode cX6_bitsOf 87 = .ok (.iload_n 2, 1) := by decide +kernel
theorem dX6_bitsOf_88 : decode cX6_bitsOf 88 = .ok (.lshl, 1) := by decide +kernel
theorem dX6_bitsOf_89 : decode cX6_bitsOf 89 = .ok (.lstore 7, 2) := by decide +kernel
theorem dX6_bitsOf_91 : decode cX6_bitsOf 91 = .ok (.iload 6, 2) := by decide +kernel
theorem dX6_bitsOf_93 : decode cX6_bitsOf 93 = .ok (.iload_n 3, 1) := by decide +kernel
theorem dX6_bitsOf_94 : decode cX6_bitsOf 94 = .ok (.iadd, 1) := by decide +kernel
theorem dX6_bitsOf_95 : decode cX6_bitsOf 95 = .ok (.i2l, 1) := by decide +kernel
theorem dX6_bitsOf_96 : decode cX6_bitsOf 96 = .ok (.lload 7, 2) := by decide +kernel
theorem dX6_bitsOf_98 : decode cX6_bitsOf 98 = .ok (.lmul, 1) := by decide +kernel
theorem dX6_bitsOf_99 : decode cX6_bitsOf 99 = .ok (.dload 4, 2) := by decide +kernel
theorem dX6_bitsOf_101 : decode cX6_bitsOf 101 = .ok (.dconst 1, 1) := by decide +kernel
theorem dX6_bitsOf_102 : decode cX6_bitsOf 102 = .ok (.dsub, 1) := by decide +kernel
theorem dX6_bitsOf_103 : decode cX6_bitsOf 103 = .ok (.lload 7, 2) := by decide +kernel
theorem dX6_bitsOf_105 : decode cX6_bitsOf 105 = .ok (.l2d, 1) := by decide +kernel
theorem dX6_bitsOf_106 : decode cX6_bitsOf 106 = .ok (.dmul, 1) := by decide +kernel
theorem dX6_bitsOf_107 : decode cX6_bitsOf 107 = .ok (.d2l, 1) := by decide +kernel
theorem dX6_bitsOf_108 : decode cX6_bitsOf 108 = .ok (.ladd, 1) := by decide +kernel
theorem dX6_bitsOf_109 : decode cX6_bitsOf 109 = .ok (.lreturn, 1) := by decide +kernel
theorem dX6_mixedWithDial_0 : decode cX6_mixedWithDial 0 = .ok (.lload_n 1, 1) := by decide +kernel
theorem dX6_mixedWithDial_1 : decode cX6_mixedWithDial 1 = .ok (.lstore 4, 2) := by decide +kernel
theorem dX6_mixedWithDial_3 : decode cX6_mixedWithDial 3 = .ok (.iconst 0, 1) := by decide +kernel
theorem dX6_mixedWithDial_4 : decode cX6_mixedWithDial 4 = .ok (.istore 6, 2) := by decide +kernel
theorem dX6_mixedWithDial_6 : decode cX6_mixedWithDial 6 = .ok (.iload 6, 2) := by decide +kernel
theorem dX6_mixedWithDial_8 : decode cX6_mixedWithDial 8 = .ok (.bipush 7, 2) := by decide +kernel
theorem dX6_mixedWithDial_10 : decode cX6_mixedWithDial 10 = .ok (.if_icmp .ge 24, 3) := by decide +kernel
theorem dX6_mixedWithDial_13 : decode cX6_mixedWithDial 13 = .ok (.lload 4, 2) := by decide +kernel
theorem dX6_mixedWithDial_15 : decode cX6_mixedWithDial 15 = .ok (.aload_n 0, 1) := by decide +kernel
theorem dX6_mixedWithDial_16 : decode cX6_mixedWithDial 16 = .ok (.iload_n 3, 1) := by decide +kernel
theorem dX6_mixedWithDial_17 : decode cX6_mixedWithDial 17 = .ok (.iload 6, 2) := by decide +kernel
theorem dX6_mixedWithDial_19 : decode cX6_mixedWithDial 19 = .ok (.invokevirtual 175, 3) := by decide +kernel
theorem dX6_mixedWithDial_22 : decode cX6_mixedWithDial 22 = .ok (.i2l, 1) := by decide +kernel
theorem dX6_mixedWithDial_23 : decode cX6_mixedWithDial 23 = .ok (.invokestatic 220, 3) := by decide +kernel
theorem dX6_mixedWithDial_26 : decode cX6_mixedWithDial 26 = .ok (.lstore 4, 2) := by decide +kernel
theorem dX6_mixedWithDial_28 : decode cX6_mixedWithDial 28 = .ok (.iinc 6 1, 3) := by decide +kernel
theorem dX6_mixedWithDial_31 : decode cX6_mixedWithDial 31 = .ok (.goto (-25), 3) := by decide +kernel
theorem dX6_mixedWithDial_34 : decode cX6_mixedWithDial 34 = .ok (.lload 4, 2) := by decide +kernel
theorem dX6_mixedWithDial_36 : decode cX6_mixedWithDial 36 = .ok (.aload_n 0, 1) := by decide +kernel
theorem dX6_mixedWithDial_37 : decode cX6_mixedWithDial 37 = .ok (.iload_n 3, 1) := by decide +kernel
theorem dX6_mixedWithDial_38 : decode cX6_mixedWithDial 38 = .ok (.invokevirtual 260, 3) := by decide +kernel
theorem dX6_mixedWithDial_41 : decode cX6_mixedWithDial 41 = .ok (.i2l, 1) := by decide +kernel
theorem dX6_mixedWithDial_42 : decode cX6_mixedWithDial 42 = .ok (.invokestatic 220, 3) := by decide +kernel
theorem dX6_mixedWithDial_45 : decode cX6_mixedWithDial 45 = .ok (.lstore 4, 2) := by decide +kernel
theorem dX6_mixedWithDial_47 : decode cX6_mixedWithDial 47 = .ok (.lload 4, 2) := by decide +kernel
theorem dX6_mixedWithDial_49 : decode cX6_mixedWithDial 49 = .ok (.aload_n 0, 1) := by decide +kernel
theorem dX6_mixedWithDial_50 : decode cX6_mixedWithDial 50 = .ok (.iload_n 3, 1) := by decide +kernel
theorem dX6_mixedWithDial_51 : decode cX6_mixedWithDial 51 = .ok (.invokevirtual 263, 3) := by decide +kernel
theorem dX6_mixedWithDial_54 : decode cX6_mixedWithDial 54 = .ok (.i2l, 1) := by decide +kernel
theorem dX6_mixedWithDial_55 : decode cX6_mixedWithDial 55 = .ok (.invokestatic 220, 3) := by decide +kernel
theorem dX6_mixedWithDial_58 : decode cX6_mixedWithDial 58 = .ok (.lreturn, 1) := by decide +kernel
theorem dX6_mixedWithWarden_0 : decode cX6_mixedWithWarden 0 = .ok (.lload_n 1, 1) := by decide +kernel
theorem dX6_mixedWithWarden_1 : decode cX6_mixedWithWarden 1 = .ok (.lstore 4, 2) := by decide +kernel
theorem dX6_mixedWithWarden_3 : decode cX6_mixedWithWarden 3 = .ok (.iconst 0, 1) := by decide +kernel
theorem dX6_mixedWithWarden_4 : decode cX6_mixedWithWarden 4 = .ok (.istore 6, 2) := by decide +kernel
theorem dX6_mixedWithWarden_6 : decode cX6_mixedWithWarden 6 = .ok (.iload 6, 2) := by decide +kernel
theorem dX6_mixedWithWarden_8 : decode cX6_mixedWithWarden 8 = .ok (.bipush 6, 2) := by decide +kernel
theorem dX6_mixedWithWarden_10 : decode cX6_mixedWithWarden 10 = .ok (.if_icmp .ge 24, 3) := by decide +kernel
theorem dX6_mixedWithWarden_13 : decode cX6_mixedWithWarden 13 = .ok (.lload 4, 2) := by decide +kernel
theorem dX6_mixedWithWarden_15 : decode cX6_mixedWithWarden 15 = .ok (.aload_n 0, 1) := by decide +kernel
theorem dX6_mixedWithWarden_16 : decode cX6_mixedWithWarden 16 = .ok (.iload_n 3, 1) := by decide +kernel
theorem dX6_mixedWithWarden_17 : decode cX6_mixedWithWarden 17 = .ok (.iload 6, 2) := by decide +kernel
theorem dX6_mixedWithWarden_19 : decode cX6_mixedWithWarden 19 = .ok (.invokevirtual 178, 3) := by decide +kernel
theorem dX6_mixedWithWarden_22 : decode cX6_mixedWithWarden 22 = .ok (.i2l, 1) := by decide +kernel
theorem dX6_mixedWithWarden_23 : decode cX6_mixedWithWarden 23 = .ok (.invokestatic 220, 3) := by decide +kernel
theorem dX6_mixedWithWarden_26 : decode cX6_mixedWithWarden 26 = .ok (.lstore 4, 2) := by decide +kernel
theorem dX6_mixedWithWarden_28 : decode cX6_mixedWithWarden 28 = .ok (.iinc 6 1, 3) := by decide +kernel
theorem dX6_mixedWithWarden_31 : decode cX6_mixedWithWarden 31 = .ok (.goto (-25), 3) := by decide +kernel
theorem dX6_mixedWithWarden_34 : decode cX6_mixedWithWarden 34 = .ok (.lload 4, 2) := by decide +kernel
theorem dX6_mixedWithWarden_36 : decode cX6_mixedWithWarden 36 = .ok (.aload_n 0, 1) := by decide +kernel
theorem dX6_mixedWithWarden_37 : decode cX6_mixedWithWarden 37 = .ok (.iload_n 3, 1) := by decide +kernel
theorem dX6_mixedWithWarden_38 : decode cX6_mixedWithWarden 38 = .ok (.invokevirtual 266, 3) := by decide +kernel
theorem dX6_mixedWithWarden_41 : decode cX6_mixedWithWarden 41 = .ok (.i2l, 1) := by decide +kernel
theorem dX6_mixedWithWarden_42 : decode cX6_mixedWithWarden 42 = .ok (.invokestatic 220, 3) := by decide +kernel
theorem dX6_mixedWithWarden_45 : decode cX6_mixedWithWarden 45 = .ok (.lstore 4, 2) := by decide +kernel
theorem dX6_mixedWithWarden_47 : decode cX6_mixedWithWarden 47 = .ok (.lload 4, 2) := by decide +kernel
theorem dX6_mixedWithWarden_49 : decode cX6_mixedWithWarden 49 = .ok (.aload_n 0, 1) := by decide +kernel
theorem dX6_mixedWithWarden_50 : decode cX6_mixedWithWarden 50 = .ok (.iload_n 3, 1) := by decide +kernel
theorem dX6_mixedWithWarden_51 : decode cX6_mixedWithWarden 51 = .ok (.invokevirtual 269, 3) := by decide +kernel
theorem dX6_mixedWithWarden_54 : decode cX6_mixedWithWarden 54 = .ok (.i2l, 1) := by decide +kernel
theorem dX6_mixedWithWarden_55 : decode cX6_mixedWithWarden 55 = .ok (.invokestatic 220, 3) := by decide +kernel
theorem dX6_mixedWithWarden_58 : decode cX6_mixedWithWarden 58 = .ok (.lreturn, 1) := by decide +kernel
theorem dX6_dialNumber_0 : decode cX6_dialNumber 0 = .ok (.iload_n 2, 1) := by decide +kernel
theorem dX6_dialNumber_1 : decode cX6_dialNumber 1 = .ok (.tableswitch 118 0 5 #[39, 52, 64, 77, 93, 106], 39) := by decide +kernel
theorem dX6_dialNumber_40 : decode cX6_dialNumber 40 = .ok (.aload_n 0, 1) := by decide +kernel
theorem dX6_dialNumber_41 : decode cX6_dialNumber 41 = .ok (.getfield 10, 3) := by decide +kernel
theorem dX6_dialNumber_44 : decode cX6_dialNumber 44 = .ok (.getfield 55, 3) := by decide +kernel
theorem dX6_dialNumber_47 : decode cX6_dialNumber 47 = .ok (.getfield 97, 3) := by decide +kernel
theorem dX6_dialNumber_50 : decode cX6_dialNumber 50 = .ok (.iload_n 1, 1) := by decide +kernel
theorem dX6_dialNumber_51 : decode cX6_dialNumber 51 = .ok (.iaload, 1) := by decide +kernel
theorem dX6_dialNumber_52 : decode cX6_dialNumber 52 = .ok (.ireturn, 1) := by decide +kernel
theorem dX6_dialNumber_53 : decode cX6_dialNumber 53 = .ok (.aload_n 0, 1) := by decide +kernel
theorem dX6_dialNumber_54 : decode cX6_dialNumber 54 = .ok (.getfield 10, 3) := by decide +kernel
theorem dX6_dialNumber_57 : decode cX6_dialNumber 57 = .ok (.getfield 55, 3) := by decide +kernel
theorem dX6_dialNumber_60 : decode cX6_dialNumber 60 = .ok (.iload_n 1, 1) := by decide +kernel
theorem dX6_dialNumber_61 : decode cX6_dialNumber 61 = .ok (.invokevirtual 272, 3) := by decide +kernel
theorem dX6_dialNumber_64 : decode cX6_dialNumber 64 = .ok (.ireturn, 1) := by decide +kernel
theorem dX6_dialNumber_65 : decode cX6_dialNumber 65 = .ok (.aload_n 0, 1) := by decide +kernel
theorem dX6_dialNumber_66 : decode cX6_dialNumber 66 = .ok (.getfield 10, 3) := by decide +kernel
theorem dX6_dialNumber_69 : decode cX6_dialNumber 69 = .ok (.getfield 55, 3) := by decide +kernel
theorem dX6_dialNumber_72 : decode cX6_dialNumber 72 = .ok (.getfield 106, 3) := by decide +kernel
theorem dX6_dialNumber_75 : decode cX6_dialNumber 75 = .ok (.iload_n 1, 1) := by decide +kernel
theorem dX6_dialNumber_76 : decode cX6_dialNumber 76 = .ok (.iaload, 1) := by decide +kernel
theorem dX6_dialNumber_77 : decode cX6_dialNumber 77 = .ok (.ireturn, 1) := by decide +kernel
theorem dX6_dialNumber_78 : decode cX6_dialNumber 78 = .ok (.aload_n 0, 1) := by decide +kernel
theorem dX6_dialNumber_79 : decode cX6_dialNumber 79 = .ok (.getfield 10, 3) := by decide +kernel
theorem dX6_dialNumber_82 : decode cX6_dialNumber 82 = .ok (.getfield 55, 3) := by decide +kernel
theorem dX6_dialNumber_85 : decode cX6_dialNumber 85 = .ok (.getfield 97, 3) := by decide +kernel
theorem dX6_dialNumber_88 : decode cX6_dialNumber 88 = .ok (.iload_n 1, 1) := by decide +kernel
theorem dX6_dialNumber_89 : decode cX6_dialNumber 89 = .ok (.iaload, 1) := by decide +kernel
theorem dX6_dialNumber_90 : decode cX6_dialNumber 90 = .ok (.bipush 60, 2) := by decide +kernel
theorem dX6_dialNumber_92 : decode cX6_dialNumber 92 = .ok (.idiv, 1) := by decide +kernel
theorem dX6_dialNumber_93 : decode cX6_dialNumber 93 = .ok (.ireturn, 1) := by decide +kernel
theorem dX6_dialNumber_94 : decode cX6_dialNumber 94 = .ok (.aload_n 0, 1) := by decide +kernel
theorem dX6_dialNumber_95 : decode cX6_dialNumber 95 = .ok (.getfield 10, 3) := by decide +kernel
theorem dX6_dialNumber_98 : decode cX6_dialNumber 98 = .ok (.getfield 55, 3) := by decide +kernel
theorem dX6_dialNumber_101 : decode cX6_dialNumber 101 = .ok (.getfield 275, 3) := by decide +kernel
theorem dX6_dialNumber_104 : decode cX6_dialNumber 104 = .ok (.iload_n 1, 1) := by decide +kernel
theorem dX6_dialNumber_105 : decode cX6_dialNumber 105 = .ok (.iaload, 1) := by decide +kernel
theorem dX6_dialNumber_106 : decode cX6_dialNumber 106 = .ok (.ireturn, 1) := by decide +kernel
theorem dX6_dialNumber_107 : decode cX6_dialNumber 107 = .ok (.aload_n 0, 1) := by decide +kernel
theorem dX6_dialNumber_108 : decode cX6_dialNumber 108 = .ok (.getfield 10, 3) := by decide +kernel
theorem dX6_dialNumber_111 : decode cX6_dialNumber 111 = .ok (.getfield 55, 3) := by decide +kernel
theorem dX6_dialNumber_114 : decode cX6_dialNumber 114 = .ok (.iload_n 1, 1) := by decide +kernel
theorem dX6_dialNumber_115 : decode cX6_dialNumber 115 = .ok (.invokevirtual 211, 3) := by decide +kernel
theorem dX6_dialNumber_118 : decode cX6_dialNumber 118 = .ok (.ireturn, 1) := by decide +kernel
theorem dX6_dialNumber_119 : decode cX6_dialNumber 119 = .ok (.aload_n 0, 1) := by decide +kernel
theorem dX6_dialNumber_120 : decode cX6_dialNumber 120 = .ok (.getfield 10, 3) := by decide +kernel
theorem dX6_dialNumber_123 : decode cX6_dialNumber 123 = .ok (.iload_n 1, 1) := by decide +kernel
theorem dX6_dialNumber_124 : decode cX6_dialNumber 124 = .ok (.invokevirtual 278, 3) := by decide +kernel
theorem dX6_dialNumber_127 : decode cX6_dialNumber 127 = .ok (.ifCond .eq 7, 3) := by decide +kernel
theorem dX6_dialNumber_130 : decode cX6_dialNumber 130 = .ok (.iconst 1, 1) := by decide +kernel
theorem dX6_dialNumber_131 : decode cX6_dialNumber 131 = .ok (.goto 4, 3) := by decide +kernel
theorem dX6_dialNumber_134 : decode cX6_dialNumber 134 = .ok (.iconst 0, 1) := by decide +kernel
theorem dX6_dialNumber_135 : decode cX6_dialNumber 135 = .ok (.ireturn, 1) := by decide +kernel
theorem dX6_wardenNumber_0 : decode cX6_wardenNumber 0 = .ok (.iload_n 2, 1) := by decide +kernel
theorem dX6_wardenNumber_1 : decode cX6_wardenNumber 1 = .ok (.tableswitch 89 0 4 #[35, 48, 61, 70, 83], 35) := by decide +kernel
theorem dX6_wardenNumber_36 : decode cX6_wardenNumber 36 = .ok (.aload_n 0, 1) := by decide +kernel
theorem dX6_wardenNumber_37 : decode cX6_wardenNumber 37 = .ok (.getfield 10, 3) := by decide +kernel
theorem dX6_wardenNumber_40 : decode cX6_wardenNumber 40 = .ok (.getfield 65, 3) := by decide +kernel
theorem dX6_wardenNumber_43 : decode cX6_wardenNumber 43 = .ok (.getfield 117, 3) := by decide +kernel
theorem dX6_wardenNumber_46 : decode cX6_wardenNumber 46 = .ok (.iload_n 1, 1) := by decide +kernel
theorem dX6_wardenNumber_47 : decode cX6_wardenNumber 47 = .ok (.iaload, 1) := by decide +kernel
theorem dX6_wardenNumber_48 : decode cX6_wardenNumber 48 = .ok (.ireturn, 1) := by decide +kernel
theorem dX6_wardenNumber_49 : decode cX6_wardenNumber 49 = .ok (.aload_n 0, 1) := by decide +kernel
theorem dX6_wardenNumber_50 : decode cX6_wardenNumber 50 = .ok (.getfield 10, 3) := by decide +kernel
theorem dX6_wardenNumber_53 : decode cX6_wardenNumber 53 = .ok (.getfield 65, 3) := by decide +kernel
theorem dX6_wardenNumber_56 : decode cX6_wardenNumber 56 = .ok (.getfield 120, 3) := by decide +kernel
theorem dX6_wardenNumber_59 : decode cX6_wardenNumber 59 = .ok (.iload_n 1, 1) := by decide +kernel
theorem dX6_wardenNumber_60 : decode cX6_wardenNumber 60 = .ok (.iaload, 1) := by decide +kernel
theorem dX6_wardenNumber_61 : decode cX6_wardenNumber 61 = .ok (.ireturn, 1) := by decide +kernel
theorem dX6_wardenNumber_62 : decode cX6_wardenNumber 62 = .ok (.aload_n 0, 1) := by decide +kernel
theorem dX6_wardenNumber_63 : decode cX6_wardenNumber 63 = .ok (.getfield 10, 3) := by decide +kernel
theorem dX6_wardenNumber_66 : decode cX6_wardenNumber 66 = .ok (.iload_n 1, 1) := by decide +kernel
theorem dX6_wardenNumber_67 : decode cX6_wardenNumber 67 = .ok (.invokevirtual 196, 3) := by decide +kernel
theorem dX6_wardenNumber_70 : decode cX6_wardenNumber 70 = .ok (.ireturn, 1) := by decide +kernel
theorem dX6_wardenNumber_71 : decode cX6_wardenNumber 71 = .ok (.aload_n 0, 1) := by decide +kernel
theorem dX6_wardenNumber_72 : decode cX6_wardenNumber 72 = .ok (.getfield 10, 3) := by decide +kernel
theorem dX6_wardenNumber_75 : decode cX6_wardenNumber 75 = .ok (.getfield 65, 3) := by decide +kernel
theorem dX6_wardenNumber_78 : decode cX6_wardenNumber 78 = .ok (.getfield 281, 3) := by decide +kernel
theorem dX6_wardenNumber_81 : decode cX6_wardenNumber 81 = .ok (.iload_n 1, 1) := by decide +kernel
theorem dX6_wardenNumber_82 : decode cX6_wardenNumber 82 = .ok (.iaload, 1) := by decide +kernel
theorem dX6_wardenNumber_83 : decode cX6_wardenNumber 83 = .ok (.ireturn, 1) := by decide +kernel
theorem dX6_wardenNumber_84 : decode cX6_wardenNumber 84 = .ok (.aload_n 0, 1) := by decide +kernel
theorem dX6_wardenNumber_85 : decode cX6_wardenNumber 85 = .ok (.iload_n 1, 1) := by decide +kernel
theorem dX6_wardenNumber_86 : decode cX6_wardenNumber 86 = .ok (.invokevirtual 284, 3) := by decide +kernel
theorem dX6_wardenNumber_89 : decode cX6_wardenNumber 89 = .ok (.ireturn, 1) := by decide +kernel
theorem dX6_wardenNumber_90 : decode cX6_wardenNumber 90 = .ok (.aload_n 0, 1) := by decide +kernel
theorem dX6_wardenNumber_91 : decode cX6_wardenNumber 91 = .ok (.getfield 10, 3) := by decide +kernel
theorem dX6_wardenNumber_94 : decode cX6_wardenNumber 94 = .ok (.iload_n 1, 1) := by decide +kernel
theorem dX6_wardenNumber_95 : decode cX6_wardenNumber 95 = .ok (.invokevirtual 287, 3) := by decide +kernel
theorem dX6_wardenNumber_98 : decode cX6_wardenNumber 98 = .ok (.ifCond .eq 7, 3) := by decide +kernel
theorem dX6_wardenNumber_101 : decode cX6_wardenNumber 101 = .ok (.iconst 1, 1) := by decide +kernel
theorem dX6_wardenNumber_102 : decode cX6_wardenNumber 102 = .ok (.goto 4, 3) := by decide +kernel
theorem dX6_wardenNumber_105 : decode cX6_wardenNumber 105 = .ok (.iconst 0, 1) := by decide +kernel
theorem dX6_wardenNumber_106 : decode cX6_wardenNumber 106 = .ok (.aload_n 0, 1) := by decide +kernel
theorem dX6_wardenNumber_107 : decode cX6_wardenNumber 107 = .ok (.getfield 10, 3) := by decide +kernel
theorem dX6_wardenNumber_110 : decode cX6_wardenNumber 110 = .ok (.iload_n 1, 1) := by decide +kernel
theorem dX6_wardenNumber_111 : decode cX6_wardenNumber 111 = .ok (.invokestatic 290, 3) := by decide +kernel
theorem dX6_wardenNumber_114 : decode cX6_wardenNumber 114 = .ok (.invokevirtual 287, 3) := by decide +kernel
theorem dX6_wardenNumber_117 : decode cX6_wardenNumber 117 = .ok (.ifCond .eq 7, 3) := by decide +kernel
theorem dX6_wardenNumber_120 : decode cX6_wardenNumber 120 = .ok (.iconst 1, 1) := by decide +kernel
theorem dX6_wardenNumber_121 : decode cX6_wardenNumber 121 = .ok (.goto 4, 3) := by decide +kernel
theorem dX6_wardenNumber_124 : decode cX6_wardenNumber 124 = .ok (.iconst 0, 1) := by decide +kernel
theorem dX6_wardenNumber_125 : decode cX6_wardenNumber 125 = .ok (.iadd, 1) := by decide +kernel
theorem dX6_wardenNumber_126 : decode cX6_wardenNumber 126 = .ok (.ireturn, 1) := by decide +kernel
theorem dX6_townNumber_0 : decode cX6_townNumber 0 = .ok (.iload_n 1, 1) := by decide +kernel
theorem dX6_townNumber_1 : decode cX6_townNumber 1 = .ok (.tableswitch 87 0 5 #[39, 50, 58, 63, 68, 79], 39) := by decide +kernel
theorem dX6_townNumber_40 : decode cX6_townNumber 40 = .ok (.aload_n 0, 1) := by decide +kernel
theorem dX6_townNumber_41 : decode cX6_townNumber 41 = .ok (.getfield 10, 3) := by decide +kernel
theorem dX6_townNumber_44 : decode cX6_townNumber 44 = .ok (.getfield 55, 3) := by decide +kernel
theorem dX6_townNumber_47 : decode cX6_townNumber 47 = .ok (.getfield 293, 3) := by decide +kernel
theorem dX6_townNumber_50 : decode cX6_townNumber 50 = .ok (.ireturn, 1) := by decide +kernel
theorem dX6_townNumber_51 : decode cX6_townNumber 51 = .ok (.aload_n 0, 1) := by decide +kernel
theorem dX6_townNumber_52 : decode cX6_townNumber 52 = .ok (.getfield 10, 3) := by decide +kernel
theorem dX6_townNumber_55 : decode cX6_townNumber 55 = .ok (.getfield 83, 3) := by decide +kernel
theorem dX6_townNumber_58 : decode cX6_townNumber 58 = .ok (.ireturn, 1) := by decide +kernel
theorem dX6_townNumber_59 : decode cX6_townNumber 59 = .ok (.aload_n 0, 1) := by decide +kernel
theorem dX6_townNumber_60 : decode cX6_townNumber 60 = .ok (.invokevirtual 190, 3) := by decide +kernel
theorem dX6_townNumber_63 : decode cX6_townNumber 63 = .ok (.ireturn, 1) := by decide +kernel
theorem dX6_townNumber_64 : decode cX6_townNumber 64 = .ok (.aload_n 0, 1) := by decide +kernel
theorem dX6_townNumber_65 : decode cX6_townNumber 65 = .ok (.invokevirtual 296, 3) := by decide +kernel
theorem dX6_townNumber_68 : decode cX6_townNumber 68 = .ok (.ireturn, 1) := by decide +kernel
theorem dX6_townNumber_69 : decode cX6_townNumber 69 = .ok (.aload_n 0, 1) := by decide +kernel
theorem dX6_townNumber_70 : decode cX6_townNumber 70 = .ok (.getfield 10, 3) := by decide +kernel
theorem dX6_townNumber_73 : decode cX6_townNumber 73 = .ok (.getfield 65, 3) := by decide +kernel
theorem dX6_townNumber_76 : decode cX6_townNumber 76 = .ok (.invokevirtual 69, 3) := by decide +kernel
theorem dX6_townNumber_79 : decode cX6_townNumber 79 = .ok (.ireturn, 1) := by decide +kernel
theorem dX6_townNumber_80 : decode cX6_townNumber 80 = .ok (.aload_n 0, 1) := by decide +kernel
theorem dX6_townNumber_81 : decode cX6_townNumber 81 = .ok (.getfield 10, 3) := by decide +kernel
theorem dX6_townNumber_84 : decode cX6_townNumber 84 = .ok (.invokevirtual 299, 3) := by decide +kernel
theorem dX6_townNumber_87 : decode cX6_townNumber 87 = .ok (.ireturn, 1) := by decide +kernel
theorem dX6_townNumber_88 : decode cX6_townNumber 88 = .ok (.aload_n 0, 1) := by decide +kernel
theorem dX6_townNumber_89 : decode cX6_townNumber 89 = .ok (.getfield 10, 3) := by decide +kernel
theorem dX6_townNumber_92 : decode cX6_townNumber 92 = .ok (.getfield 205, 3) := by decide +kernel
theorem dX6_townNumber_95 : decode cX6_townNumber 95 = .ok (.ireturn, 1) := by decide +kernel
theorem dX6_sumNumber_0 : decode cX6_sumNumber 0 = .ok (.iload_n 1, 1) := by decide +kernel
theorem dX6_sumNumber_1 : decode cX6_sumNumber 1 = .ok (.tableswitch 118 7 12 #[39, 47, 61, 75, 89, 97], 39) := by decide +kernel
theorem dX6_sumNumber_40 : decode cX6_sumNumber 40 = .ok (.aload_n 0, 1) := by decide +kernel
theorem dX6_sumNumber_41 : decode cX6_sumNumber 41 = .ok (.getfield 10, 3) := by decide +kernel
theorem dX6_sumNumber_44 : decode cX6_sumNumber 44 = .ok (.getfield 208, 3) := by decide +kernel
theorem dX6_sumNumber_47 : decode cX6_sumNumber 47 = .ok (.ireturn, 1) := by decide +kernel
theorem dX6_sumNumber_48 : decode cX6_sumNumber 48 = .ok (.aload_n 0, 1) := by decide +kernel
theorem dX6_sumNumber_49 : decode cX6_sumNumber 49 = .ok (.getfield 10, 3) := by decide +kernel
theorem dX6_sumNumber_52 : decode cX6_sumNumber 52 = .ok (.getfield 55, 3) := by decide +kernel
theorem dX6_sumNumber_55 : decode cX6_sumNumber 55 = .ok (.getfield 275, 3) := by decide +kernel
theorem dX6_sumNumber_58 : decode cX6_sumNumber 58 = .ok (.invokestatic 302, 3) := by decide +kernel
theorem dX6_sumNumber_61 : decode cX6_sumNumber 61 = .ok (.ireturn, 1) := by decide +kernel
theorem dX6_sumNumber_62 : decode cX6_sumNumber 62 = .ok (.aload_n 0, 1) := by decide +kernel
theorem dX6_sumNumber_63 : decode cX6_sumNumber 63 = .ok (.getfield 10, 3) := by decide +kernel
theorem dX6_sumNumber_66 : decode cX6_sumNumber 66 = .ok (.getfield 55, 3) := by decide +kernel
theorem dX6_sumNumber_69 : decode cX6_sumNumber 69 = .ok (.getfield 306, 3) := by decide +kernel
theorem dX6_sumNumber_72 : decode cX6_sumNumber 72 = .ok (.invokestatic 302, 3) := by decide +kernel
theorem dX6_sumNumber_75 : decode cX6_sumNumber 75 = .ok (.ireturn, 1) := by decide +kernel
theorem dX6_sumNumber_76 : decode cX6_sumNumber 76 = .ok (.aload_n 0, 1) := by decide +kernel
theorem dX6_sumNumber_77 : decode cX6_sumNumber 77 = .ok (.getfield 10, 3) := by decide +kernel
theorem dX6_sumNumber_80 : decode cX6_sumNumber 80 = .ok (.getfield 55, 3) := by decide +kernel
theorem dX6_sumNumber_83 : decode cX6_sumNumber 83 = .ok (.getfield 309, 3) := by decide +kernel
theorem dX6_sumNumber_86 : decode cX6_sumNumber 86 = .ok (.invokestatic 302, 3) := by decide +kernel
theorem dX6_sumNumber_89 : decode cX6_sumNumber 89 = .ok (.ireturn, 1) := by decide +kernel
theorem dX6_sumNumber_90 : decode cX6_sumNumber 90 = .ok (.aload_n 0, 1) := by decide +kernel
theorem dX6_sumNumber_91 : decode cX6_sumNumber 91 = .ok (.getfield 10, 3) := by decide +kernel
theorem dX6_sumNumber_94 : decode cX6_sumNumber 94 = .ok (.invokevirtual 312, 3) := by decide +kernel
theorem dX6_sumNumber_97 : decode cX6_sumNumber 97 = .ok (.ireturn, 1) := by decide +kernel
theorem dX6_sumNumber_98 : decode cX6_sumNumber 98 = .ok (.aload_n 0, 1) := by decide +kernel
theorem dX6_sumNumber_99 : decode cX6_sumNumber 99 = .ok (.getfield 10, 3) := by decide +kernel
theorem dX6_sumNumber_102 : decode cX6_sumNumber 102 = .ok (.getfield 83, 3) := by decide +kernel
theorem dX6_sumNumber_105 : decode cX6_sumNumber 105 = .ok (.aload_n 0, 1) := by decide +kernel
theorem dX6_sumNumber_106 : decode cX6_sumNumber 106 = .ok (.getfield 10, 3) := by decide +kernel
theorem dX6_sumNumber_109 : decode cX6_sumNumber 109 = .ok (.getfield 55, 3) := by decide +kernel
theorem dX6_sumNumber_112 : decode cX6_sumNumber 112 = .ok (.getfield 293, 3) := by decide +kernel
theorem dX6_sumNumber_115 : decode cX6_sumNumber 115 = .ok (.invokestatic 193, 3) := by decide +kernel
theorem dX6_sumNumber_118 : decode cX6_sumNumber 118 = .ok (.ireturn, 1) := by decide +kernel
theorem dX6_sumNumber_119 : decode cX6_sumNumber 119 = .ok (.aload_n 0, 1) := by decide +kernel
theorem dX6_sumNumber_120 : decode cX6_sumNumber 120 = .ok (.getfield 26, 3) := by decide +kernel
theorem dX6_sumNumber_123 : decode cX6_sumNumber 123 = .ok (.getfield 165, 3) := by decide +kernel
theorem dX6_sumNumber_126 : decode cX6_sumNumber 126 = .ok (.ireturn, 1) := by decide +kernel
theorem dX6_placeOf_0 : decode cX6_placeOf 0 = .ok (.aload_n 0, 1) := by decide +kernel
theorem dX6_placeOf_1 : decode cX6_placeOf 1 = .ok (.getfield 40, 3) := by decide +kernel
theorem dX6_placeOf_4 : decode cX6_placeOf 4 = .ok (.aload_n 0, 1) := by decide +kernel
theorem dX6_placeOf_5 : decode cX6_placeOf 5 = .ok (.getfield 10, 3) := by decide +kernel
theorem dX6_placeOf_8 : decode cX6_placeOf 8 = .ok (.invokevirtual 315, 3) := by decide +kernel
theorem dX6_placeOf_11 : decode cX6_placeOf 11 = .ok (.aload_n 0, 1) := by decide +kernel
theorem dX6_placeOf_12 : decode cX6_placeOf 12 = .ok (.getfield 40, 3) := by decide +kernel
theorem dX6_placeOf_15 : decode cX6_placeOf 15 = .ok (.iload_n 1, 1) := by decide +kernel
theorem dX6_placeOf_16 : decode cX6_placeOf 16 = .ok (.invokevirtual 318, 3) := by decide +kernel
theorem dX6_placeOf_19 : decode cX6_placeOf 19 = .ok (.ireturn, 1) := by decide +kernel
theorem dX6_middleNow_0 : decode cX6_middleNow 0 = .ok (.aload_n 0, 1) := by decide +kernel
theorem dX6_middleNow_1 : decode cX6_middleNow 1 = .ok (.getfield 40, 3) := by decide +kernel
theorem dX6_middleNow_4 : decode cX6_middleNow 4 = .ok (.aload_n 0, 1) := by decide +kernel
theorem dX6_middleNow_5 : decode cX6_middleNow 5 = .ok (.getfield 10, 3) := by decide +kernel
theorem dX6_middleNow_8 : decode cX6_middleNow 8 = .ok (.invokevirtual 315, 3) := by decide +kernel
theorem dX6_middleNow_11 : decode cX6_middleNow 11 = .ok (.aload_n 0, 1) := by decide +kernel
theorem dX6_middleNow_12 : decode cX6_middleNow 12 = .ok (.getfield 40, 3) := by decide +kernel
theorem dX6_middleNow_15 : decode cX6_middleNow 15 = .ok (.invokevirtual 319, 3) := by decide +kernel
theorem dX6_middleNow_18 : decode cX6_middleNow 18 = .ok (.ireturn, 1) := by decide +kernel
theorem dX6_middleNowByAdding_0 : decode cX6_middleNowByAdding 0 = .ok (.aload_n 0, 1) := by decide +kernel
theorem dX6_middleNowByAdding_1 : decode cX6_middleNowByAdding 1 = .ok (.getfield 40, 3) := by decide +kernel
theorem dX6_middleNowByAdding_4 : decode cX6_middleNowByAdding 4 = .ok (.aload_n 0, 1) := by decide +kernel
theorem dX6_middleNowByAdding_5 : decode cX6_middleNowByAdding 5 = .ok (.getfield 10, 3) := by decide +kernel
theorem dX6_middleNowByAdding_8 : decode cX6_middleNowByAdding 8 = .ok (.invokevirtual 315, 3) := by decide +kernel
theorem dX6_middleNowByAdding_11 : decode cX6_middleNowByAdding 11 = .ok (.aload_n 0, 1) := by decide +kernel
theorem dX6_middleNowByAdding_12 : decode cX6_middleNowByAdding 12 = .ok (.getfield 40, 3) := by decide +kernel
theorem dX6_middleNowByAdding_15 : decode cX6_middleNowByAdding 15 = .ok (.invokevirtual 322, 3) := by decide +kernel
theorem dX6_middleNowByAdding_18 : decode cX6_middleNowByAdding 18 = .ok (.ireturn, 1) := by decide +kernel
theorem dX6_middleIf_0 : decode cX6_middleIf 0 = .ok (.aload_n 0, 1) := by decide +kernel
theorem dX6_middleIf_1 : decode cX6_middleIf 1 = .ok (.getfield 40, 3) := by decide +kernel
theorem dX6_middleIf_4 : decode cX6_middleIf 4 = .ok (.aload_n 0, 1) := by decide +kernel
theorem dX6_middleIf_5 : decode cX6_middleIf 5 = .ok (.getfield 10, 3) := by decide +kernel
theorem dX6_middleIf_8 : decode cX6_middleIf 8 = .ok (.invokevirtual 315, 3) := by decide +kernel
theorem dX6_middleIf_11 : decode cX6_middleIf 11 = .ok (.aload_n 0, 1) := by decide +kernel
theorem dX6_middleIf_12 : decode cX6_middleIf 12 = .ok (.getfield 40, 3) := by decide +kernel
theorem dX6_middleIf_15 : decode cX6_middleIf 15 = .ok (.getfield 325, 3) := by decide +kernel
theorem dX6_middleIf_18 : decode cX6_middleIf 18 = .ok (.iload_n 1, 1) := by decide +kernel
theorem dX6_middleIf_19 : decode cX6_middleIf 19 = .ok (.iload_n 2, 1) := by decide +kernel
theorem dX6_middleIf_20 : decode cX6_middleIf 20 = .ok (.iastore, 1) := by decide +kernel
theorem dX6_middleIf_21 : decode cX6_middleIf 21 = .ok (.aload_n 0, 1) := by decide +kernel
theorem dX6_middleIf_22 : decode cX6_middleIf 22 = .ok (.getfield 40, 3) := by decide +kernel
theorem dX6_middleIf_25 : decode cX6_middleIf 25 = .ok (.invokevirtual 319, 3) := by decide +kernel
theorem dX6_middleIf_28 : decode cX6_middleIf 28 = .ok (.ireturn, 1) := by decide +kernel
theorem dX6_holdVote_0 : decode cX6_holdVote 0 = .ok (.aload_n 0, 1) := by decide +kernel
theorem dX6_holdVote_1 : decode cX6_holdVote 1 = .ok (.getfield 10, 3) := by decide +kernel
theorem dX6_holdVote_4 : decode cX6_holdVote 4 = .ok (.aload_n 0, 1) := by decide +kernel
theorem dX6_holdVote_5 : decode cX6_holdVote 5 = .ok (.invokevirtual 190, 3) := by decide +kernel
theorem dX6_holdVote_8 : decode cX6_holdVote 8 = .ok (.invokevirtual 326, 3) := by decide +kernel
theorem dX6_holdVote_11 : decode cX6_holdVote 11 = .ok (.aload_n 0, 1) := by decide +kernel
theorem dX6_holdVote_12 : decode cX6_holdVote 12 = .ok (.getfield 10, 3) := by decide +kernel
theorem dX6_holdVote_15 : decode cX6_holdVote 15 = .ok (.aload_n 0, 1) := by decide +kernel
theorem dX6_holdVote_16 : decode cX6_holdVote 16 = .ok (.getfield 40, 3) := by decide +kernel
theorem dX6_holdVote_19 : decode cX6_holdVote 19 = .ok (.getfield 329, 3) := by decide +kernel
theorem dX6_holdVote_22 : decode cX6_holdVote 22 = .ok (.invokevirtual 332, 3) := by decide +kernel
theorem dX6_holdVote_25 : decode cX6_holdVote 25 = .ok (.return_, 1) := by decide +kernel
theorem dX6_obeyPart_0 : decode cX6_obeyPart 0 = .ok (.aload_n 0, 1) := by decide +kernel
theorem dX6_obeyPart_1 : decode cX6_obeyPart 1 = .ok (.getfield 33, 3) := by decide +kernel
theorem dX6_obeyPart_4 : decode cX6_obeyPart 4 = .ok (.iload_n 1, 1) := by decide +kernel
theorem dX6_obeyPart_5 : decode cX6_obeyPart 5 = .ok (.invokevirtual 246, 3) := by decide +kernel
theorem dX6_obeyPart_8 : decode cX6_obeyPart 8 = .ok (.lookupswitch 90 #[(99, 80), (116, 36), (118, 59)], 36) := by decide +kernel
theorem dX6_obeyPart_44 : decode cX6_obeyPart 44 = .ok (.aload_n 0, 1) := by decide +kernel
theorem dX6_obeyPart_45 : decode cX6_obeyPart 45 = .ok (.getfield 10, 3) := by decide +kernel
theorem dX6_obeyPart_48 : decode cX6_obeyPart 48 = .ok (.getfield 55, 3) := by decide +kernel
theorem dX6_obeyPart_51 : decode cX6_obeyPart 51 = .ok (.aload_n 0, 1) := by decide +kernel
theorem dX6_obeyPart_52 : decode cX6_obeyPart 52 = .ok (.getfield 33, 3) := by decide +kernel
theorem dX6_obeyPart_55 : decode cX6_obeyPart 55 = .ok (.iload_n 1, 1) := by decide +kernel
theorem dX6_obeyPart_56 : decode cX6_obeyPart 56 = .ok (.iconst 1, 1) := by decide +kernel
theorem dX6_obeyPart_57 : decode cX6_obeyPart 57 = .ok (.iadd, 1) := by decide +kernel
theorem dX6_obeyPart_58 : decode cX6_obeyPart 58 = .ok (.invokevirtual 336, 3) := by decide +kernel
theorem dX6_obeyPart_61 : decode cX6_obeyPart 61 = .ok (.invokevirtual 59, 3) := by decide +kernel
theorem dX6_obeyPart_64 : decode cX6_obeyPart 64 = .ok (.pop, 1) := by decide +kernel
theorem dX6_obeyPart_65 : decode cX6_obeyPart 65 = .ok (.iconst 1, 1) := by decide +kernel
theorem dX6_obeyPart_66 : decode cX6_obeyPart 66 = .ok (.ireturn, 1) := by decide +kernel
theorem dX6_obeyPart_67 : decode cX6_obeyPart 67 = .ok (.aload_n 0, 1) := by decide +kernel
theorem dX6_obeyPart_68 : decode cX6_obeyPart 68 = .ok (.getfield 10, 3) := by decide +kernel
theorem dX6_obeyPart_71 : decode cX6_obeyPart 71 = .ok (.getfield 65, 3) := by decide +kernel
theorem dX6_obeyPart_74 : decode cX6_obeyPart 74 = .ok (.invokevirtual 69, 3) := by decide +kernel
theorem dX6_obeyPart_77 : decode cX6_obeyPart 77 = .ok (.ifCond .ne 5, 3) := by decide +kernel
theorem dX6_obeyPart_80 : decode cX6_obeyPart 80 = .ok (.iconst 0, 1) := by decide +kernel
theorem dX6_obeyPart_81 : decode cX6_obeyPart 81 = .ok (.ireturn, 1) := by decide +kernel
theorem dX6_obeyPart_82 : decode cX6_obeyPart 82 = .ok (.aload_n 0, 1) := by decide +kernel
theorem dX6_obeyPart_83 : decode cX6_obeyPart 83 = .ok (.invokevirtual 80, 3) := by decide +kernel
theorem dX6_obeyPart_86 : decode cX6_obeyPart 86 = .ok (.iconst 1, 1) := by decide +kernel
theorem dX6_obeyPart_87 : decode cX6_obeyPart 87 = .ok (.ireturn, 1) := by decide +kernel
theorem dX6_obeyPart_88 : decode cX6_obeyPart 88 = .ok (.aload_n 0, 1) := by decide +kernel
theorem dX6_obeyPart_89 : decode cX6_obeyPart 89 = .ok (.getfield 10, 3) := by decide +kernel
theorem dX6_obeyPart_92 : decode cX6_obeyPart 92 = .ok (.invokevirtual 87, 3) := by decide +kernel
theorem dX6_obeyPart_95 : decode cX6_obeyPart 95 = .ok (.pop, 1) := by decide +kernel
theorem dX6_obeyPart_96 : decode cX6_obeyPart 96 = .ok (.iconst 1, 1) := by decide +kernel
theorem dX6_obeyPart_97 : decode cX6_obeyPart 97 = .ok (.ireturn, 1) := by decide +kernel
theorem dX6_obeyPart_98 : decode cX6_obeyPart 98 = .ok (.aload_n 0, 1) := by decide +kernel
theorem dX6_obeyPart_99 : decode cX6_obeyPart 99 = .ok (.getfield 10, 3) := by decide +kernel
theorem dX6_obeyPart_102 : decode cX6_obeyPart 102 = .ok (.getfield 55, 3) := by decide +kernel
theorem dX6_obeyPart_105 : decode cX6_obeyPart 105 = .ok (.aload_n 0, 1) := by decide +kernel
theorem dX6_obeyPart_106 : decode cX6_obeyPart 106 = .ok (.getfield 33, 3) := by decide +kernel
theorem dX6_obeyPart_109 : decode cX6_obeyPart 109 = .ok (.iload_n 1, 1) := by decide +kernel
theorem dX6_obeyPart_110 : decode cX6_obeyPart 110 = .ok (.iconst 1, 1) := by decide +kernel
theorem dX6_obeyPart_111 : decode cX6_obeyPart 111 = .ok (.iadd, 1) := by decide +kernel
theorem dX6_obeyPart_112 : decode cX6_obeyPart 112 = .ok (.invokevirtual 339, 3) := by decide +kernel
theorem dX6_obeyPart_115 : decode cX6_obeyPart 115 = .ok (.aload_n 0, 1) := by decide +kernel
theorem dX6_obeyPart_116 : decode cX6_obeyPart 116 = .ok (.getfield 33, 3) := by decide +kernel
theorem dX6_obeyPart_119 : decode cX6_obeyPart 119 = .ok (.iload_n 1, 1) := by decide +kernel
theorem dX6_obeyPart_120 : decode cX6_obeyPart 120 = .ok (.iconst 2, 1) := by decide +kernel
theorem dX6_obeyPart_121 : decode cX6_obeyPart 121 = .ok (.iadd, 1) := by decide +kernel
theorem dX6_obeyPart_122 : decode cX6_obeyPart 122 = .ok (.invokevirtual 342, 3) := by decide +kernel
theorem dX6_obeyPart_125 : decode cX6_obeyPart 125 = .ok (.invokevirtual 109, 3) := by decide +kernel
theorem dX6_obeyPart_128 : decode cX6_obeyPart 128 = .ok (.iconst 1, 1) := by decide +kernel
theorem dX6_obeyPart_129 : decode cX6_obeyPart 129 = .ok (.ireturn, 1) := by decide +kernel
theorem dX7_init_0 : decode cX7_init 0 = .ok (.aload_n 0, 1) := by decide +kernel
theorem dX7_init_1 : decode cX7_init 1 = .ok (.invokespecial 1, 3) := by decide +kernel
theorem dX7_init_4 : decode cX7_init 4 = .ok (.aload_n 0, 1) := by decide +kernel
theorem dX7_init_5 : decode cX7_init 5 = .ok (.bipush 69, 2) := by decide +kernel
theorem dX7_init_7 : decode cX7_init 7 = .ok (.newarray .int, 2) := by decide +kernel
theorem dX7_init_9 : decode cX7_init 9 = .ok (.putfield 7, 3) := by decide +kernel
theorem dX7_init_12 : decode cX7_init 12 = .ok (.aload_n 0, 1) := by decide +kernel
theorem dX7_init_13 : decode cX7_init 13 = .ok (.bipush 69, 2) := by decide +kernel
theorem dX7_init_15 : decode cX7_init 15 = .ok (.newarray .int, 2) := by decide +kernel
theorem dX7_init_17 : decode cX7_init 17 = .ok (.putfield 13, 3) := by decide +kernel
theorem dX7_init_20 : decode cX7_init 20 = .ok (.aload_n 0, 1) := by decide +kernel
theorem dX7_init_21 : decode cX7_init 21 = .ok (.sipush 414, 3) := by decide +kernel
theorem dX7_init_24 : decode cX7_init 24 = .ok (.newarray .int, 2) := by decide +kernel
theorem dX7_init_26 : decode cX7_init 26 = .ok (.putfield 16, 3) := by decide +kernel
theorem dX7_init_29 : decode cX7_init 29 = .ok (.aload_n 0, 1) := by decide +kernel
theorem dX7_init_30 : decode cX7_init 30 = .ok (.bipush 69, 2) := by decide +kernel
theorem dX7_init_32 : decode cX7_init 32 = .ok (.newarray .int, 2) := by decide +kernel
theorem dX7_init_34 : decode cX7_init 34 = .ok (.putfield 19, 3) := by decide +kernel
theorem dX7_init_37 : decode cX7_init 37 = .ok (.aload_n 0, 1) := by decide +kernel
theorem dX7_init_38 : decode cX7_init 38 = .ok (.bipush 60, 2) := by decide +kernel
theorem dX7_init_40 : decode cX7_init 40 = .ok (.newarray .int, 2) := by decide +kernel
theorem dX7_init_42 : decode cX7_init 42 = .ok (.putfield 22, 3) := by decide +kernel
theorem dX7_init_45 : decode cX7_init 45 = .ok (.aload_n 0, 1) := by decide +kernel
theorem dX7_init_46 : decode cX7_init 46 = .ok (.getfield 7, 3) := by decide +kernel
theorem dX7_init_49 : decode cX7_init 49 = .ok (.iconst 2, 1) := by decide +kernel
theorem dX7_init_50 : decode cX7_init 50 = .ok (.bipush 15, 2) := by decide +kernel
theorem dX7_init_52 : decode cX7_init 52 = .ok (.iastore, 1) := by decide +kernel
theorem dX7_init_53 : decode cX7_init 53 = .ok (.aload_n 0, 1) := by decide +kernel
theorem dX7_init_54 : decode cX7_init 54 = .ok (.getfield 7, 3) := by decide +kernel
theorem dX7_init_57 : decode cX7_init 57 = .ok (.iconst 3, 1) := by decide +kernel
theorem dX7_init_58 : decode cX7_init 58 = .ok (.iconst 5, 1) := by decide +kernel
theorem dX7_init_59 : decode cX7_init 59 = .ok (.iastore, 1) := by decide +kernel
theorem dX7_init_60 : decode cX7_init 60 = .ok (.iconst 0, 1) := by decide +kernel
theorem dX7_init_61 : decode cX7_init 61 = .ok (.istore_n 1, 1) := by decide +kernel
theorem dX7_init_62 : decode cX7_init 62 = .ok (.iload_n 1, 1) := by decide +kernel
theorem dX7_init_63 : decode cX7_init 63 = .ok (.bipush 7, 2) := by decide +kernel
theorem dX7_init_65 : decode cX7_init 65 = .ok (.if_icmp .ge 19, 3) := by decide +kernel
theorem dX7_init_68 : decode cX7_init 68 = .ok (.aload_n 0, 1) := by decide +kernel
theorem dX7_init_69 : decode cX7_init 69 = .ok (.getfield 7, 3) := by decide +kernel
theorem dX7_init_72 : decode cX7_init 72 = .ok (.bipush 48, 2) := by decide +kernel
theorem dX7_init_74 : decode cX7_init 74 = .ok (.iload_n 1, 1) := by decide +kernel
theorem dX7_init_75 : decode cX7_init 75 = .ok (.iadd, 1) := by decide +kernel
theorem dX7_init_76 : decode cX7_init 76 = .ok (.iconst 3, 1) := by decide +kernel
theorem dX7_init_77 : decode cX7_init 77 = .ok (.iastore, 1) := by decide +kernel
theorem dX7_init_78 : decode cX7_init 78 = .ok (.iinc 1 1, 3) := by decide +kernel
theorem dX7_init_81 : decode cX7_init 81 = .ok (.goto (-19), 3) := by decide +kernel
theorem dX7_init_84 : decode cX7_init 84 = .ok (.return_, 1) := by decide +kernel
theorem dX7_thrown_0 : decode cX7_thrown 0 = .ok (.aload_n 0, 1) := by decide +kernel
theorem dX7_thrown_1 : decode cX7_thrown 1 = .ok (.getfield 25, 3) := by decide +kernel
theorem dX7_thrown_4 : decode cX7_thrown 4 = .ok (.ireturn, 1) := by decide +kernel
theorem dX7_throwing_0 : decode cX7_throwing 0 = .ok (.aload_n 0, 1) := by decide +kernel
theorem dX7_throwing_1 : decode cX7_throwing 1 = .ok (.iload_n 1, 1) := by decide +kernel
theorem dX7_throwing_2 : decode cX7_throwing 2 = .ok (.putfield 25, 3) := by decide +kernel
theorem dX7_throwing_5 : decode cX7_throwing 5 = .ok (.iconst 0, 1) := by decide +kernel
theorem dX7_throwing_6 : decode cX7_throwing 6 = .ok (.ireturn, 1) := by decide +kernel
theorem dX7_in_0 : decode cX7_in 0 = .ok (.iload_n 0, 1) := by decide +kernel
theorem dX7_in_1 : decode cX7_in 1 = .ok (.iload_n 1, 1) := by decide +kernel
theorem dX7_in_2 : decode cX7_in 2 = .ok (.if_icmp .lt 12, 3) := by decide +kernel
theorem dX7_in_5 : decode cX7_in 5 = .ok (.iload_n 0, 1) := by decide +kernel
theorem dX7_in_6 : decode cX7_in 6 = .ok (.iload_n 2, 1) := by decide +kernel
theorem dX7_in_7 : decode cX7_in 7 = .ok (.if_icmp .gt 7, 3) := by decide +kernel
theorem dX7_in_10 : decode cX7_in 10 = .ok (.iconst 1, 1) := by decide +kernel
theorem dX7_in_11 : decode cX7_in 11 = .ok (.goto 4, 3) := by decide +kernel
theorem dX7_in_14 : decode cX7_in 14 = .ok (.iconst 0, 1) := by decide +kernel
theorem dX7_in_15 : decode cX7_in 15 = .ok (.ireturn, 1) := by decide +kernel
theorem dX7_isDial_0 : decode cX7_isDial 0 = .ok (.iload_n 0, 1) := by decide +kernel
theorem dX7_isDial_1 : decode cX7_isDial 1 = .ok (.iconst 0, 1) := by decide +kernel
theorem dX7_isDial_2 : decode cX7_isDial 2 = .ok (.bipush 6, 2) := by decide +kernel
theorem dX7_isDial_4 : decode cX7_isDial 4 = .ok (.invokestatic 29, 3) := by decide +kernel
theorem dX7_isDial_7 : decode cX7_isDial 7 = .ok (.ireturn, 1) := by decide +kernel
theorem dX7_size_0 : decode cX7_size 0 = .ok (.iload_n 0, 1) := by decide +kernel
theorem dX7_size_1 : decode cX7_size 1 = .ok (.ifCond .ge 8, 3) := by decide +kernel
theorem dX7_size_4 : decode cX7_size 4 = .ok (.iload_n 0, 1) := by decide +kernel
theorem dX7_size_5 : decode cX7_size 5 = .ok (.ineg, 1) := by decide +kernel
theorem dX7_size_6 : decode cX7_size 6 = .ok (.goto 4, 3) := by decide +kernel
theorem dX7_size_9 : decode cX7_size 9 = .ok (.iload_n 0, 1) := by decide +kernel
theorem dX7_size_10 : decode cX7_size 10 = .ok (.ireturn, 1) := by decide +kernel
theorem dX7_putAside_0 : decode cX7_putAside 0 = .ok (.iconst 0, 1) := by decide +kernel
theorem dX7_putAside_1 : decode cX7_putAside 1 = .ok (.istore_n 1, 1) := by decide +kernel
theorem dX7_putAside_2 : decode cX7_putAside 2 = .ok (.iload_n 1, 1) := by decide +kernel
theorem dX7_putAside_3 : decode cX7_putAside 3 = .ok (.bipush 69, 2) := by decide +kernel
theorem dX7_putAside_5 : decode cX7_putAside 5 = .ok (.if_icmp .ge 21, 3) := by decide +kernel
theorem dX7_putAside_8 : decode cX7_putAside 8 = .ok (.aload_n 0, 1) := by decide +kernel
theorem dX7_putAside_9 : decode cX7_putAside 9 = .ok (.getfield 13, 3) := by decide +kernel
theorem dX7_putAside_12 : decode cX7_putAside 12 = .ok (.iload_n 1, 1) := by decide +kernel
theorem dX7_putAside_13 : decode cX7_putAside 13 = .ok (.aload_n 0, 1) := by decide +kernel
theorem dX7_putAside_14 : decode cX7_putAside 14 = .ok (.getfield 7, 3) := by decide +kernel
theorem dX7_putAside_17 : decode cX7_putAside 17 = .ok (.iload_n 1, 1) := by decide +kernel
theorem dX7_putAside_18 : decode cX7_putAside 18 = .ok (.iaload, 1) := by decide +kernel
theorem dX7_putAside_19 : decode cX7_putAside 19 = .ok (.iastore, 1) := by decide +kernel
theorem dX7_putAside_20 : decode cX7_putAside 20 = .ok (.iinc 1 1, 3) := by decide +kernel
theorem dX7_putAside_23 : decode cX7_putAside 23 = .ok (.goto (-21), 3) := by decide +kernel
theorem dX7_putAside_26 : decode cX7_putAside 26 = .ok (.return_, 1) := by decide +kernel
theorem dX7_putBack_0 : decode cX7_putBack 0 = .ok (.iconst 0, 1) := by decide +kernel
theorem dX7_putBack_1 : decode cX7_putBack 1 = .ok (.istore_n 1, 1) := by decide +kernel
theorem dX7_putBack_2 : decode cX7_putBack 2 = .ok (.iload_n 1, 1) := by decide +kernel
theorem dX7_putBack_3 : decode cX7_putBack 3 = .ok (.bipush 69, 2) := by decide +kernel
theorem dX7_putBack_5 : decode cX7_putBack 5 = .ok (.if_icmp .ge 21, 3) := by decide +kernel
theorem dX7_putBack_8 : decode cX7_putBack 8 = .ok (.aload_n 0, 1) := by decide +kernel
theorem dX7_putBack_9 : decode cX7_putBack 9 = .ok (.getfield 7, 3) := by decide +kernel
theorem dX7_putBack_12 : decode cX7_putBack 12 = .ok (.iload_n 1, 1) := by decide +kernel
theorem dX7_putBack_13 : decode cX7_putBack 13 = .ok (.aload_n 0, 1) := by decide +kernel
theorem dX7_putBack_14 : decode cX7_putBack 14 = .ok (.getfield 13, 3) := by decide +kernel
theorem dX7_putBack_17 : decode cX7_putBack 17 = .ok (.iload_n 1, 1) := by decide +kernel
theorem dX7_putBack_18 : decode cX7_putBack 18 = .ok (.iaload, 1) := by decide +kernel
theorem dX7_putBack_19 : decode cX7_putBack 19 = .ok (.iastore, 1) := by decide +kernel
theorem dX7_putBack_20 : decode cX7_putBack 20 = .ok (.iinc 1 1, 3) := by decide +kernel
theorem dX7_putBack_23 : decode cX7_putBack 23 = .ok (.goto (-21), 3) := by decide +kernel
theorem dX7_putBack_26 : decode cX7_putBack 26 = .ok (.return_, 1) := by decide +kernel
theorem dX7_save_0 : decode cX7_save 0 = .ok (.aload_n 0, 1) := by decide +kernel
theorem dX7_save_1 : decode cX7_save 1 = .ok (.getfield 33, 3) := by decide +kernel
theorem dX7_save_4 : decode cX7_save 4 = .ok (.bipush 6, 2) := by decide +kernel
theorem dX7_save_6 : decode cX7_save 6 = .ok (.if_icmp .ne 43, 3) := by decide +kernel
theorem dX7_save_9 : decode cX7_save 9 = .ok (.iconst 0, 1) := by decide +kernel
theorem dX7_save_10 : decode cX7_save 10 = .ok (.istore_n 1, 1) := by decide +kernel
theorem dX7_save_11 : decode cX7_save 11 = .ok (.iload_n 1, 1) := by decide +kernel
theorem dX7_save_12 : decode cX7_save 12 = .ok (.sipush 345, 3) := by decide +kernel
theorem dX7_save_15 : decode cX7_save 15 = .ok (.if_icmp .ge 24, 3) := by decide +kernel
theorem dX7_save_18 : decode cX7_save 18 = .ok (.aload_n 0, 1) := by decide +kernel
theorem dX7_save_19 : decode cX7_save 19 = .ok (.getfield 16, 3) := by decide +kernel
theorem dX7_save_22 : decode cX7_save 22 = .ok (.iload_n 1, 1) := by decide +kernel
theorem dX7_save_23 : decode cX7_save 23 = .ok (.aload_n 0, 1) := by decide +kernel
theorem dX7_save_24 : decode cX7_save 24 = .ok (.getfield 16, 3) := by decide +kernel
theorem dX7_save_27 : decode cX7_save 27 = .ok (.bipush 69, 2) := by decide +kernel
theorem dX7_save_29 : decode cX7_save 29 = .ok (.iload_n 1, 1) := by decide +kernel
theorem dX7_save_30 : decode cX7_save 30 = .ok (.iadd, 1) := by decide +kernel
theorem dX7_save_31 : decode cX7_save 31 = .ok (.iaload, 1) := by decide +kernel
theorem dX7_save_32 : decode cX7_save 32 = .ok (.iastore, 1) := by decide +kernel
theorem dX7_save_33 : decode cX7_save 33 = .ok (.iinc 1 1, 3) := by decide +kernel
theorem dX7_save_36 : decode cX7_save 36 = .ok (.goto (-25), 3) := by decide +kernel
theorem dX7_save_39 : decode cX7_save 39 = .ok (.aload_n 0, 1) := by decide +kernel
theorem dX7_save_40 : decode cX7_save 40 = .ok (.dup, 1) := by decide +kernel
theorem dX7_save_41 : decode cX7_save 41 = .ok (.getfield 33, 3) := by decide +kernel
theorem dX7_save_44 : decode cX7_save 44 = .ok (.iconst 1, 1) := by decide +kernel
theorem dX7_save_45 : decode cX7_save 45 = .ok (.isub, 1) := by decide +kernel
theorem dX7_save_46 : decode cX7_save 46 = .ok (.putfield 33, 3) := by decide +kernel
theorem dX7_save_49 : decode cX7_save 49 = .ok (.iconst 0, 1) := by decide +kernel
theorem dX7_save_50 : decode cX7_save 50 = .ok (.istore_n 1, 1) := by decide +kernel
theorem dX7_save_51 : decode cX7_save 51 = .ok (.iload_n 1, 1) := by decide +kernel
theorem dX7_save_52 : decode cX7_save 52 = .ok (.bipush 69, 2) := by decide +kernel
theorem dX7_save_54 : decode cX7_save 54 = .ok (.if_icmp .ge 29, 3) := by decide +kernel
theorem dX7_save_57 : decode cX7_save 57 = .ok (.aload_n 0, 1) := by decide +kernel
theorem dX7_save_58 : decode cX7_save 58 = .ok (.getfield 16, 3) := by decide +kernel
theorem dX7_save_61 : decode cX7_save 61 = .ok (.bipush 69, 2) := by decide +kernel
theorem dX7_save_63 : decode cX7_save 63 = .ok (.aload_n 0, 1) := by decide +kernel
theorem dX7_save_64 : decode cX7_save 64 = .ok (.getfield 33, 3) := by decide +kernel
theorem dX7_save_67 : decode cX7_save 67 = .ok (.imul, 1) := by decide +kernel
theorem dX7_save_68 : decode cX7_save 68 = .ok (.iload_n 1, 1) := by decide +kernel
theorem dX7_save_69 : decode cX7_save 69 = .ok (.iadd, 1) := by decide +kernel
theorem dX7_save_70 : decode cX7_save 70 = .ok (.aload_n 0, 1) := by decide +kernel
theorem dX7_save_71 : decode cX7_save 71 = .ok (.getfield 7, 3) := by decide +kernel
theorem dX7_save_74 : decode cX7_save 74 = .ok (.iload_n 1, 1) := by decide +kernel
theorem dX7_save_75 : decode cX7_save 75 = .ok (.iaload, 1) := by decide +kernel
theorem dX7_save_76 : decode cX7_save 76 = .ok (.iastore, 1) := by decide +kernel
theorem dX7_save_77 : decode cX7_save 77 = .ok (.iinc 1 1, 3) := by decide +kernel
theorem dX7_save_80 : decode cX7_save 80 = .ok (.goto (-29), 3) := by decide +kernel
theorem dX7_save_83 : decode cX7_save 83 = .ok (.aload_n 0, 1) := by decide +kernel
theorem dX7_save_84 : decode cX7_save 84 = .ok (.dup, 1) := by decide +kernel
theorem dX7_save_85 : decode cX7_save 85 = .ok (.getfield 33, 3) := by decide +kernel
theorem dX7_save_88 : decode cX7_save 88 = .ok (.iconst 1, 1) := by decide +kernel
theorem dX7_save_89 : decode cX7_save 89 = .ok (.iadd, 1) := by decide +kernel
theorem dX7_save_90 : decode cX7_save 90 = .ok (.putfield 33, 3) := by decide +kernel
theorem dX7_save_93 : decode cX7_save 93 = .ok (.return_, 1) := by decide +kernel
theorem dX7_shows_0 : decode cX7_shows 0 = .ok (.aload_n 0, 1) := by decide +kernel
theorem dX7_shows_1 : decode cX7_shows 1 = .ok (.getfield 7, 3) := by decide +kernel
theorem dX7_shows_4 : decode cX7_shows 4 = .ok (.bipush 6, 2) := by decide +kernel
theorem dX7_shows_6 : decode cX7_shows 6 = .ok (.iload_n 1, 1) := by decide +kernel
theorem dX7_shows_7 : decode cX7_shows 7 = .ok (.iadd, 1) := by decide +kernel
theorem dX7_shows_8 : decode cX7_shows 8 = .ok (.iaload, 1) := by decide +kernel
theorem dX7_shows_9 : decode cX7_shows 9 = .ok (.istore_n 3, 1) := by decide +kernel
theorem dX7_shows_10 : decode cX7_shows 10 = .ok (.iload_n 2, 1) := by decide +kernel
theorem dX7_shows_11 : decode cX7_shows 11 = .ok (.iload_n 3, 1) := by decide +kernel
theorem dX7_shows_12 : decode cX7_shows 12 = .ok (.if_icmp .le 15, 3) := by decide +kernel
theorem dX7_shows_15 : decode cX7_shows 15 = .ok (.iload_n 2, 1) := by decide +kernel
theorem dX7_shows_16 : decode cX7_shows 16 = .ok (.bipush 60, 2) := by decide +kernel
theorem dX7_shows_18 : decode cX7_shows 18 = .ok (.idiv, 1) := by decide +kernel
theorem dX7_shows_19 : decode cX7_shows 19 = .ok (.iload_n 3, 1) := by decide +kernel
theorem dX7_shows_20 : decode cX7_shows 20 = .ok (.bipush 60, 2) := by decide +kernel
theorem dX7_shows_22 : decode cX7_shows 22 = .ok (.idiv, 1) := by decide +kernel
theorem dX7_shows_23 : decode cX7_shows 23 = .ok (.isub, 1) := by decide +kernel
theorem dX7_shows_24 : decode cX7_shows 24 = .ok (.goto 4, 3) := by decide +kernel
theorem dX7_shows_27 : decode cX7_shows 27 = .ok (.iconst 0, 1) := by decide +kernel
theorem dX7_shows_28 : decode cX7_shows 28 = .ok (.istore 4, 2) := by decide +kernel
theorem dX7_shows_30 : decode cX7_shows 30 = .ok (.aload_n 0, 1) := by decide +kernel
theorem dX7_shows_31 : decode cX7_shows 31 = .ok (.getfield 7, 3) := by decide +kernel
theorem dX7_shows_34 : decode cX7_shows 34 = .ok (.bipush 6, 2) := by decide +kernel
theorem dX7_shows_36 : decode cX7_shows 36 = .ok (.iload_n 1, 1) := by decide +kernel
theorem dX7_shows_37 : decode cX7_shows 37 = .ok (.iadd, 1) := by decide +kernel
theorem dX7_shows_38 : decode cX7_shows 38 = .ok (.iload_n 2, 1) := by decide +kernel
theorem dX7_shows_39 : decode cX7_shows 39 = .ok (.iastore, 1) := by decide +kernel
theorem dX7_shows_40 : decode cX7_shows 40 = .ok (.aload_n 0, 1) := by decide +kernel
theorem dX7_shows_41 : decode cX7_shows 41 = .ok (.getfield 7, 3) := by decide +kernel
theorem dX7_shows_44 : decode cX7_shows 44 = .ok (.bipush 20, 2) := by decide +kernel
theorem dX7_shows_46 : decode cX7_shows 46 = .ok (.iload_n 1, 1) := by decide +kernel
theorem dX7_shows_47 : decode cX7_shows 47 = .ok (.iadd, 1) := by decide +kernel
theorem dX7_shows_48 : decode cX7_shows 48 = .ok (.dup2, 1) := by decide +kernel
theorem dX7_shows_49 : decode cX7_shows 49 = .ok (.iaload, 1) := by decide +kernel
theorem dX7_shows_50 : decode cX7_shows 50 = .ok (.iload 4, 2) := by decide +kernel
theorem dX7_shows_52 : decode cX7_shows 52 = .ok (.iadd, 1) := by decide +kernel
theorem dX7_shows_53 : decode cX7_shows 53 = .ok (.iastore, 1) := by decide +kernel
theorem dX7_shows_54 : decode cX7_shows 54 = .ok (.iload 4, 2) := by decide +kernel
theorem dX7_shows_56 : decode cX7_shows 56 = .ok (.ireturn, 1) := by decide +kernel
theorem dX7_moves_0 : decode cX7_moves 0 = .ok (.aload_n 0, 1) := by decide +kernel
theorem dX7_moves_1 : decode cX7_moves 1 = .ok (.getfield 7, 3) := by decide +kernel
theorem dX7_moves_4 : decode cX7_moves 4 = .ok (.bipush 6, 2) := by decide +kernel
theorem dX7_moves_6 : decode cX7_moves 6 = .ok (.iload_n 1, 1) := by decide +kernel
theorem dX7_moves_7 : decode cX7_moves 7 = .ok (.iadd, 1) := by decide +kernel
theorem dX7_moves_8 : decode cX7_moves 8 = .ok (.iaload, 1) := by decide +kernel
theorem dX7_moves_9 : decode cX7_moves 9 = .ok (.istore_n 3, 1) := by decide +kernel
theorem dX7_moves_10 : decode cX7_moves 10 = .ok (.aload_n 0, 1) := by decide +kernel
theorem dX7_moves_11 : decode cX7_moves 11 = .ok (.iload_n 1, 1) := by decide +kernel
theorem dX7_moves_12 : decode cX7_moves 12 = .ok (.iload_n 2, 1) := by decide +kernel
theorem dX7_moves_13 : decode cX7_moves 13 = .ok (.invokevirtual 36, 3) := by decide +kernel
theorem dX7_moves_16 : decode cX7_moves 16 = .ok (.istore 4, 2) := by decide +kernel
theorem dX7_moves_18 : decode cX7_moves 18 = .ok (.aload_n 0, 1) := by decide +kernel
theorem dX7_moves_19 : decode cX7_moves 19 = .ok (.getfield 7, 3) := by decide +kernel
theorem dX7_moves_22 : decode cX7_moves 22 = .ok (.bipush 34, 2) := by decide +kernel
theorem dX7_moves_24 : decode cX7_moves 24 = .ok (.iload_n 1, 1) := by decide +kernel
theorem dX7_moves_25 : decode cX7_moves 25 = .ok (.iadd, 1) := by decide +kernel
theorem dX7_moves_26 : decode cX7_moves 26 = .ok (.dup2, 1) := by decide +kernel
theorem dX7_moves_27 : decode cX7_moves 27 = .ok (.iaload, 1) := by decide +kernel
theorem dX7_moves_28 : decode cX7_moves 28 = .ok (.iload_n 2, 1) := by decide +kernel
theorem dX7_moves_29 : decode cX7_moves 29 = .ok (.iload_n 3, 1) := by decide +kernel
theorem dX7_moves_30 : decode cX7_moves 30 = .ok (.if_icmp .le 9, 3) := by decide +kernel
theorem dX7_moves_33 : decode cX7_moves 33 = .ok (.iload_n 2, 1) := by decide +kernel
theorem dX7_moves_34 : decode cX7_moves 34 = .ok (.iload_n 3, 1) := by decide +kernel
theorem dX7_moves_35 : decode cX7_moves 35 = .ok (.isub, 1) := by decide +kernel
theorem dX7_moves_36 : decode cX7_moves 36 = .ok (.goto 4, 3) := by decide +kernel
theorem dX7_moves_39 : decode cX7_moves 39 = .ok (.iconst 0, 1) := by decide +kernel
theorem dX7_moves_40 : decode cX7_moves 40 = .ok (.iadd, 1) := by decide +kernel
theorem dX7_moves_41 : decode cX7_moves 41 = .ok (.iastore, 1) := by decide +kernel
theorem dX7_moves_42 : decode cX7_moves 42 = .ok (.aload_n 0, 1) := by decide +kernel
theorem dX7_moves_43 : decode cX7_moves 43 = .ok (.getfield 7, 3) := by decide +kernel
theorem dX7_moves_46 : decode cX7_moves 46 = .ok (.bipush 41, 2) := by decide +kernel
theorem dX7_moves_48 : decode cX7_moves 48 = .ok (.iload_n 1, 1) := by decide +kernel
theorem dX7_moves_49 : decode cX7_moves 49 = .ok (.iadd, 1) := by decide +kernel
theorem dX7_moves_50 : decode cX7_moves 50 = .ok (.dup2, 1) := by decide +kernel
theorem dX7_moves_51 : decode cX7_moves 51 = .ok (.iaload, 1) := by decide +kernel
theorem dX7_moves_52 : decode cX7_moves 52 = .ok (.iload_n 2, 1) := by decide +kernel
theorem dX7_moves_53 : decode cX7_moves 53 = .ok (.iload_n 3, 1) := by decide +kernel
theorem dX7_moves_54 : decode cX7_moves 54 = .ok (.if_icmp .ge 9, 3) := by decide +kernel
theorem dX7_moves_57 : decode cX7_moves 57 = .ok (.iload_n 3, 1) := by decide +kernel
theorem dX7_moves_58 : decode cX7_moves 58 = .ok (.iload_n 2, 1) := by decide +kernel
theorem dX7_moves_59 : decode cX7_moves 59 = .ok (.isub, 1) := by decide +kernel
theorem dX7_moves_60 : decode cX7_moves 60 = .ok (.goto 4, 3) := by decide +kernel
theorem dX7_moves_63 : decode cX7_moves 63 = .ok (.iconst 0, 1) := by decide +kernel
theorem dX7_moves_64 : decode cX7_moves 64 = .ok (.iadd, 1) := by decide +kernel
theorem dX7_moves_65 : decode cX7_moves 65 = .ok (.iastore, 1) := by decide +kernel
theorem dX7_moves_66 : decode cX7_moves 66 = .ok (.return_, 1) := by decide +kernel
theorem dX7_tickOnce_0 : decode cX7_tickOnce 0 = .ok (.iconst 0, 1) := by decide +kernel
theorem dX7_tickOnce_1 : decode cX7_tickOnce 1 = .ok (.istore_n 1, 1) := by decide +kernel
theorem dX7_tickOnce_2 : decode cX7_tickOnce 2 = .ok (.aload_n 0, 1) := by decide +kernel
theorem dX7_tickOnce_3 : decode cX7_tickOnce 3 = .ok (.getfield 7, 3) := by decide +kernel
theorem dX7_tickOnce_6 : decode cX7_tickOnce 6 = .ok (.iconst 0, 1) := by decide +kernel
theorem dX7_tickOnce_7 : decode cX7_tickOnce 7 = .ok (.dup2, 1) := by decide +kernel
theorem dX7_tickOnce_8 : decode cX7_tickOnce 8 = .ok (.iaload, 1) := by decide +kernel
theorem dX7_tickOnce_9 : decode cX7_tickOnce 9 = .ok (.bipush 10, 2) := by decide +kernel
theorem dX7_tickOnce_11 : decode cX7_tickOnce 11 = .ok (.iadd, 1) := by decide +kernel
theorem dX7_tickOnce_12 : decode cX7_tickOnce 12 = .ok (.iastore, 1) := by decide +kernel
theorem dX7_tickOnce_13 : decode cX7_tickOnce 13 = .ok (.iconst 0, 1) := by decide +kernel
theorem dX7_tickOnce_14 : decode cX7_tickOnce 14 = .ok (.istore_n 2, 1) := by decide +kernel
theorem dX7_tickOnce_15 : decode cX7_tickOnce 15 = .ok (.iload_n 2, 1) := by decide +kernel
theorem dX7_tickOnce_16 : decode cX7_tickOnce 16 = .ok (.bipush 7, 2) := by decide +kernel
theorem dX7_tickOnce_18 : decode cX7_tickOnce 18 = .ok (.if_icmp .ge 77, 3) := by decide +kernel
theorem dX7_tickOnce_21 : decode cX7_tickOnce 21 = .ok (.aload_n 0, 1) := by decide +kernel
theorem dX7_tickOnce_22 : decode cX7_tickOnce 22 = .ok (.getfield 7, 3) := by decide +kernel
theorem dX7_tickOnce_25 : decode cX7_tickOnce 25 = .ok (.bipush 6, 2) := by decide +kernel
theorem dX7_tickOnce_27 : decode cX7_tickOnce 27 = .ok (.iload_n 2, 1) := by decide +kernel
theorem dX7_tickOnce_28 : decode cX7_tickOnce 28 = .ok (.iadd, 1) := by decide +kernel
theorem dX7_tickOnce_29 : decode cX7_tickOnce 29 = .ok (.iaload, 1) := by decide +kernel
theorem dX7_tickOnce_30 : decode cX7_tickOnce 30 = .ok (.istore_n 3, 1) := by decide +kernel
theorem dX7_tickOnce_31 : decode cX7_tickOnce 31 = .ok (.iload_n 3, 1) := by decide +kernel
theorem dX7_tickOnce_32 : decode cX7_tickOnce 32 = .ok (.bipush 10, 2) := by decide +kernel
theorem dX7_tickOnce_34 : decode cX7_tickOnce 34 = .ok (.iadd, 1) := by decide +kernel
theorem dX7_tickOnce_35 : decode cX7_tickOnce 35 = .ok (.aload_n 0, 1) := by decide +kernel
theorem dX7_tickOnce_36 : decode cX7_tickOnce 36 = .ok (.getfield 7, 3) := by decide +kernel
theorem dX7_tickOnce_39 : decode cX7_tickOnce 39 = .ok (.bipush 13, 2) := by decide +kernel
theorem dX7_tickOnce_41 : decode cX7_tickOnce 41 = .ok (.iload_n 2, 1) := by decide +kernel
theorem dX7_tickOnce_42 : decode cX7_tickOnce 42 = .ok (.iadd, 1) := by decide +kernel
theorem dX7_tickOnce_43 : decode cX7_tickOnce 43 = .ok (.iaload, 1) := by decide +kernel
theorem dX7_tickOnce_44 : decode cX7_tickOnce 44 = .ok (.iadd, 1) := by decide +kernel
theorem dX7_tickOnce_45 : decode cX7_tickOnce 45 = .ok (.istore 4, 2) := by decide +kernel
theorem dX7_tickOnce_47 : decode cX7_tickOnce 47 = .ok (.iload 4, 2) := by decide +kernel
theorem dX7_tickOnce_49 : decode cX7_tickOnce 49 = .ok (.ldc 40, 2) := by decide +kernel
theorem dX7_tickOnce_51 : decode cX7_tickOnce 51 = .ok (.if_icmp .le 8, 3) := by decide +kernel
theorem dX7_tickOnce_54 : decode cX7_tickOnce 54 = .ok (.ldc 40, 2) := by decide +kernel
theorem dX7_tickOnce_56 : decode cX7_tickOnce 56 = .ok (.goto 5, 3) := by decide +kernel
theorem dX7_tickOnce_59 : decode cX7_tickOnce 59 = .ok (.iload 4, 2) := by decide +kernel
theorem dX7_tickOnce_61 : decode cX7_tickOnce 61 = .ok (.istore 4, 2) := by decide +kernel
theorem dX7_tickOnce_63 : decode cX7_tickOnce 63 = .ok (.aload_n 0, 1) := by decide +kernel
theorem dX7_tickOnce_64 : decode cX7_tickOnce 64 = .ok (.getfield 7, 3) := by decide +kernel
theorem dX7_tickOnce_67 : decode cX7_tickOnce 67 = .ok (.bipush 27, 2) := by decide +kernel
theorem dX7_tickOnce_69 : decode cX7_tickOnce 69 = .ok (.iload_n 2, 1) := by decide +kernel
theorem dX7_tickOnce_70 : decode cX7_tickOnce 70 = .ok (.iadd, 1) := by decide +kernel
theorem dX7_tickOnce_71 : decode cX7_tickOnce 71 = .ok (.dup2, 1) := by decide +kernel
theorem dX7_tickOnce_72 : decode cX7_tickOnce 72 = .ok (.iaload, 1) := by decide +kernel
theorem dX7_tickOnce_73 : decode cX7_tickOnce 73 = .ok (.iload 4, 2) := by decide +kernel
theorem dX7_tickOnce_75 : decode cX7_tickOnce 75 = .ok (.iload_n 3, 1) := by decide +kernel
theorem dX7_tickOnce_76 : decode cX7_tickOnce 76 = .ok (.isub, 1) := by decide +kernel
theorem dX7_tickOnce_77 : decode cX7_tickOnce 77 = .ok (.iadd, 1) := by decide +kernel
theorem dX7_tickOnce_78 : decode cX7_tickOnce 78 = .ok (.iastore, 1) := by decide +kernel
theorem dX7_tickOnce_79 : decode cX7_tickOnce 79 = .ok (.iload_n 1, 1) := by decide +kernel
theorem dX7_tickOnce_80 : decode cX7_tickOnce 80 = .ok (.aload_n 0, 1) := by decide +kernel
theorem dX7_tickOnce_81 : decode cX7_tickOnce 81 = .ok (.iload_n 2, 1) := by decide +kernel
theorem dX7_tickOnce_82 : decode cX7_tickOnce 82 = .ok (.iload 4, 2) := by decide +kernel
theorem dX7_tickOnce_84 : decode cX7_tickOnce 84 = .ok (.invokevirtual 36, 3) := by decide +kernel
theorem dX7_tickOnce_87 : decode cX7_tickOnce 87 = .ok (.iadd, 1) := by decide +kernel
theorem dX7_tickOnce_88 : decode cX7_tickOnce 88 = .ok (.istore_n 1, 1) := by decide +kernel
theorem dX7_tickOnce_89 : decode cX7_tickOnce 89 = .ok (.iinc 2 1, 3) := by decide +kernel
theorem dX7_tickOnce_92 : decode cX7_tickOnce 92 = .ok (.goto (-77), 3) := by decide +kernel
theorem dX7_tickOnce_95 : decode cX7_tickOnce 95 = .ok (.iload_n 1, 1) := by decide +kernel
theorem dX7_tickOnce_96 : decode cX7_tickOnce 96 = .ok (.ireturn, 1) := by decide +kernel
theorem dX7_ticks_0 : decode cX7_ticks 0 = .ok (.iconst 0, 1) := by decide +kernel
theorem dX7_ticks_1 : decode cX7_ticks 1 = .ok (.istore_n 2, 1) := by decide +kernel
theorem dX7_ticks_2 : decode cX7_ticks 2 = .ok (.iconst 0, 1) := by decide +kernel
theorem dX7_ticks_3 : decode cX7_ticks 3 = .ok (.istore_n 3, 1) := by decide +kernel
theorem dX7_ticks_4 : decode cX7_ticks 4 = .ok (.iload_n 3, 1) := by decide +kernel
theorem dX7_ticks_5 : decode cX7_ticks 5 = .ok (.iload_n 1, 1) := by decide +kernel
theorem dX7_ticks_6 : decode cX7_ticks 6 = .ok (.if_icmp .ge 16, 3) := by decide +kernel
theorem dX7_ticks_9 : decode cX7_ticks 9 = .ok (.iload_n 2, 1) := by decide +kernel
theorem dX7_ticks_10 : decode cX7_ticks 10 = .ok (.aload_n 0, 1) := by decide +kernel
theorem dX7_ticks_11 : decode cX7_ticks 11 = .ok (.invokevirtual 41, 3) := by decide +kernel
theorem dX7_ticks_14 : decode cX7_ticks 14 = .ok (.iadd, 1) := by decide +kernel
theorem dX7_ticks_15 : decode cX7_ticks 15 = .ok (.istore_n 2, 1) := by decide +kernel
theorem dX7_ticks_16 : decode cX7_ticks 16 = .ok (.iinc 3 1, 3) := by decide +kernel
theorem dX7_ticks_19 : decode cX7_ticks 19 = .ok (.goto (-15), 3) := by decide +kernel
theorem dX7_ticks_22 : decode cX7_ticks 22 = .ok (.iload_n 2, 1) := by decide +kernel
theorem dX7_ticks_23 : decode cX7_ticks 23 = .ok (.ireturn, 1) := by decide +kernel
theorem dX7_right_0 : decode cX7_right 0 = .ok (.aload_n 0, 1) := by decide +kernel
theorem dX7_right_1 : decode cX7_right 1 = .ok (.getfield 7, 3) := by decide +kernel
theorem dX7_right_4 : decode cX7_right 4 = .ok (.iconst 1, 1) := by decide +kernel
theorem dX7_right_5 : decode cX7_right 5 = .ok (.iaload, 1) := by decide +kernel
theorem dX7_right_6 : decode cX7_right 6 = .ok (.aload_n 0, 1) := by decide +kernel
theorem dX7_right_7 : decode cX7_right 7 = .ok (.getfield 7, 3) := by decide +kernel
theorem dX7_right_10 : decode cX7_right 10 = .ok (.iconst 3, 1) := by decide +kernel
theorem dX7_right_11 : decode cX7_right 11 = .ok (.iaload, 1) := by decide +kernel
theorem dX7_right_12 : decode cX7_right 12 = .ok (.isub, 1) := by decide +kernel
theorem dX7_right_13 : decode cX7_right 13 = .ok (.istore_n 2, 1) := by decide +kernel
theorem dX7_right_14 : decode cX7_right 14 = .ok (.aload_n 0, 1) := by decide +kernel
theorem dX7_right_15 : decode cX7_right 15 = .ok (.getfield 7, 3) := by decide +kernel
theorem dX7_right_18 : decode cX7_right 18 = .ok (.iconst 1, 1) := by decide +kernel
theorem dX7_right_19 : decode cX7_right 19 = .ok (.iaload, 1) := by decide +kernel
theorem dX7_right_20 : decode cX7_right 20 = .ok (.aload_n 0, 1) := by decide +kernel
theorem dX7_right_21 : decode cX7_right 21 = .ok (.getfield 7, 3) := by decide +kernel
theorem dX7_right_24 : decode cX7_right 24 = .ok (.iconst 3, 1) := by decide +kernel
theorem dX7_right_25 : decode cX7_right 25 = .ok (.iaload, 1) := by decide +kernel
theorem dX7_right_26 : decode cX7_right 26 = .ok (.iadd, 1) := by decide +kernel
theorem dX7_right_27 : decode cX7_right 27 = .ok (.istore_n 3, 1) := by decide +kernel
theorem dX7_right_28 : decode cX7_right 28 = .ok (.aload_n 0, 1) := by decide +kernel
theorem dX7_right_29 : decode cX7_right 29 = .ok (.getfield 7, 3) := by decide +kernel
theorem dX7_right_32 : decode cX7_right 32 = .ok (.bipush 6, 2) := by decide +kernel
theorem dX7_right_34 : decode cX7_right 34 = .ok (.iload_n 1, 1) := by decide +kernel
theorem dX7_right_35 : decode cX7_right 35 = .ok (.iadd, 1) := by decide +kernel
theorem dX7_right_36 : decode cX7_right 36 = .ok (.iaload, 1) := by decide +kernel
theorem dX7_right_37 : decode cX7_right 37 = .ok (.istore 4, 2) := by decide +kernel
theorem dX7_right_39 : decode cX7_right 39 = .ok (.iload 4, 2) := by decide +kernel
theorem dX7_right_41 : decode cX7_right 41 = .ok (.iload_n 2, 1) := by decide +kernel
theorem dX7_right_42 : decode cX7_right 42 = .ok (.if_icmp .ge 7, 3) := by decide +kernel
theorem dX7_right_45 : decode cX7_right 45 = .ok (.iload_n 2, 1) := by decide +kernel
theorem dX7_right_46 : decode cX7_right 46 = .ok (.goto 15, 3) := by decide +kernel
theorem dX7_right_49 : decode cX7_right 49 = .ok (.iload 4, 2) := by decide +kernel
theorem dX7_right_51 : decode cX7_right 51 = .ok (.iload_n 3, 1) := by decide +kernel
theorem dX7_right_52 : decode cX7_right 52 = .ok (.if_icmp .le 7, 3) := by decide +kernel
theorem dX7_right_55 : decode cX7_right 55 = .ok (.iload_n 3, 1) := by decide +kernel
theorem dX7_right_56 : decode cX7_right 56 = .ok (.goto 5, 3) := by decide +kernel
theorem dX7_right_59 : decode cX7_right 59 = .ok (.iload 4, 2) := by decide +kernel
theorem dX7_right_61 : decode cX7_right 61 = .ok (.ireturn, 1) := by decide +kernel
theorem dX7_corrects_0 : decode cX7_corrects 0 = .ok (.iconst 0, 1) := by decide +kernel
theorem dX7_corrects_1 : decode cX7_corrects 1 = .ok (.istore_n 1, 1) := by decide +kernel
theorem dX7_corrects_2 : decode cX7_corrects 2 = .ok (.iconst 0, 1) := by decide +kernel
theorem dX7_corrects_3 : decode cX7_corrects 3 = .ok (.istore_n 2, 1) := by decide +kernel
theorem dX7_corrects_4 : decode cX7_corrects 4 = .ok (.iload_n 2, 1) := by decide +kernel
theorem dX7_corrects_5 : decode cX7_corrects 5 = .ok (.bipush 7, 2) := by decide +kernel
theorem dX7_corrects_7 : decode cX7_corrects 7 = .ok (.if_icmp .ge 38, 3) := by decide +kernel
theorem dX7_corrects_10 : decode cX7_corrects 10 = .ok (.aload_n 0, 1) := by decide +kernel
theorem dX7_corrects_11 : decode cX7_corrects 11 = .ok (.iload_n 2, 1) := by decide +kernel
theorem dX7_corrects_12 : decode cX7_corrects 12 = .ok (.invokevirtual 45, 3) := by decide +kernel
theorem dX7_corrects_15 : decode cX7_corrects 15 = .ok (.istore_n 3, 1) := by decide +kernel
theorem dX7_corrects_16 : decode cX7_corrects 16 = .ok (.iload_n 1, 1) := by decide +kernel
theorem dX7_corrects_17 : decode cX7_corrects 17 = .ok (.iload_n 3, 1) := by decide +kernel
theorem dX7_corrects_18 : decode cX7_corrects 18 = .ok (.aload_n 0, 1) := by decide +kernel
theorem dX7_corrects_19 : decode cX7_corrects 19 = .ok (.getfield 7, 3) := by decide +kernel
theorem dX7_corrects_22 : decode cX7_corrects 22 = .ok (.bipush 6, 2) := by decide +kernel
theorem dX7_corrects_24 : decode cX7_corrects 24 = .ok (.iload_n 2, 1) := by decide +kernel
theorem dX7_corrects_25 : decode cX7_corrects 25 = .ok (.iadd, 1) := by decide +kernel
theorem dX7_corrects_26 : decode cX7_corrects 26 = .ok (.iaload, 1) := by decide +kernel
theorem dX7_corrects_27 : decode cX7_corrects 27 = .ok (.isub, 1) := by decide +kernel
theorem dX7_corrects_28 : decode cX7_corrects 28 = .ok (.invokestatic 49, 3) := by decide +kernel
theorem dX7_corrects_31 : decode cX7_corrects 31 = .ok (.iadd, 1) := by decide +kernel
theorem dX7_corrects_32 : decode cX7_corrects 32 = .ok (.istore_n 1, 1) := by decide +kernel
theorem dX7_corrects_33 : decode cX7_corrects 33 = .ok (.aload_n 0, 1) := by decide +kernel
theorem dX7_corrects_34 : decode cX7_corrects 34 = .ok (.iload_n 2, 1) := by decide +kernel
theorem dX7_corrects_35 : decode cX7_corrects 35 = .ok (.iload_n 3, 1) := by decide +kernel
theorem dX7_corrects_36 : decode cX7_corrects 36 = .ok (.invokevirtual 52, 3) := by decide +kernel
theorem dX7_corrects_39 : decode cX7_corrects 39 = .ok (.iinc 2 1, 3) := by decide +kernel
theorem dX7_corrects_42 : decode cX7_corrects 42 = .ok (.goto (-38), 3) := by decide +kernel
theorem dX7_corrects_45 : decode cX7_corrects 45 = .ok (.iload_n 1, 1) := by decide +kernel
theorem dX7_corrects_46 : decode cX7_corrects 46 = .ok (.ireturn, 1) := by decide +kernel
theorem dX7_wrongDials_0 : decode cX7_wrongDials 0 = .ok (.iconst 0, 1) := by decide +kernel
theorem dX7_wrongDials_1 : decode cX7_wrongDials 1 = .ok (.istore_n 1, 1) := by decide +kernel
theorem dX7_wrongDials_2 : decode cX7_wrongDials 2 = .ok (.iconst 0, 1) := by decide +kernel
theorem dX7_wrongDials_3 : decode cX7_wrongDials 3 = .ok (.istore_n 2, 1) := by decide +kernel
theorem dX7_wrongDials_4 : decode cX7_wrongDials 4 = .ok (.iload_n 2, 1) := by decide +kernel
theorem dX7_wrongDials_5 : decode cX7_wrongDials 5 = .ok (.bipush 7, 2) := by decide +kernel
theorem dX7_wrongDials_7 : decode cX7_wrongDials 7 = .ok (.if_icmp .ge 34, 3) := by decide +kernel
theorem dX7_wrongDials_10 : decode cX7_wrongDials 10 = .ok (.iload_n 1, 1) := by decide +kernel
theorem dX7_wrongDials_11 : decode cX7_wrongDials 11 = .ok (.aload_n 0, 1) := by decide +kernel
theorem dX7_wrongDials_12 : decode cX7_wrongDials 12 = .ok (.iload_n 2, 1) := by decide +kernel
theorem dX7_wrongDials_13 : decode cX7_wrongDials 13 = .ok (.invokevirtual 45, 3) := by decide +kernel
theorem dX7_wrongDials_16 : decode cX7_wrongDials 16 = .ok (.aload_n 0, 1) := by decide +kernel
theorem dX7_wrongDials_17 : decode cX7_wrongDials 17 = .ok (.getfield 7, 3) := by decide +kernel
theorem dX7_wrongDials_20 : decode cX7_wrongDials 20 = .ok (.bipush 6, 2) := by decide +kernel
theorem dX7_wrongDials_22 : decode cX7_wrongDials 22 = .ok (.iload_n 2, 1) := by decide +kernel
theorem dX7_wrongDials_23 : decode cX7_wrongDials 23 = .ok (.iadd, 1) := by decide +kernel
theorem dX7_wrongDials_24 : decode cX7_wrongDials 24 = .ok (.iaload, 1) := by decide +kernel
theorem dX7_wrongDials_25 : decode cX7_wrongDials 25 = .ok (.if_icmp .ne 7, 3) := by decide +kernel
theorem dX7_wrongDials_28 : decode cX7_wrongDials 28 = .ok (.iconst 0, 1) := by decide +kernel
theorem dX7_wrongDials_29 : decode cX7_wrongDials 29 = .ok (.goto 4, 3) := by decide +kernel
theorem dX7_wrongDials_32 : decode cX7_wrongDials 32 = .ok (.iconst 1, 1) := by decide +kernel
theorem dX7_wrongDials_33 : decode cX7_wrongDials 33 = .ok (.iadd, 1) := by decide +kernel
theorem dX7_wrongDials_34 : decode cX7_wrongDials 34 = .ok (.istore_n 1, 1) := by decide +kernel
theorem dX7_wrongDials_35 : decode cX7_wrongDials 35 = .ok (.iinc 2 1, 3) := by decide +kernel
theorem dX7_wrongDials_38 : decode cX7_wrongDials 38 = .ok (.goto (-34), 3) := by decide +kernel
theorem dX7_wrongDials_41 : decode cX7_wrongDials 41 = .ok (.iload_n 1, 1) := by decide +kernel
theorem dX7_wrongDials_42 : decode cX7_wrongDials 42 = .ok (.ireturn, 1) := by decide +kernel
theorem dX7_word_0 : decode cX7_word 0 = .ok (.aload_n 0, 1) := by decide +kernel
theorem dX7_word_1 : decode cX7_word 1 = .ok (.getfield 7, 3) := by decide +kernel
theorem dX7_word_4 : decode cX7_word 4 = .ok (.bipush 6, 2) := by decide +kernel
theorem dX7_word_6 : decode cX7_word 6 = .ok (.iload_n 1, 1) := by decide +kernel
theorem dX7_word_7 : decode cX7_word 7 = .ok (.iadd, 1) := by decide +kernel
theorem dX7_word_8 : decode cX7_word 8 = .ok (.iaload, 1) := by decide +kernel
theorem dX7_word_9 : decode cX7_word 9 = .ok (.aload_n 0, 1) := by decide +kernel
theorem dX7_word_10 : decode cX7_word 10 = .ok (.getfield 7, 3) := by decide +kernel
theorem dX7_word_13 : decode cX7_word 13 = .ok (.bipush 55, 2) := by decide +kernel
theorem dX7_word_15 : decode cX7_word 15 = .ok (.iload_n 1, 1) := by decide +kernel
theorem dX7_word_16 : decode cX7_word 16 = .ok (.iadd, 1) := by decide +kernel
theorem dX7_word_17 : decode cX7_word 17 = .ok (.iaload, 1) := by decide +kernel
theorem dX7_word_18 : decode cX7_word 18 = .ok (.iadd, 1) := by decide +kernel
theorem dX7_word_19 : decode cX7_word 19 = .ok (.istore_n 2, 1) := by decide +kernel
theorem dX7_word_20 : decode cX7_word 20 = .ok (.iload_n 2, 1) := by decide +kernel
theorem dX7_word_21 : decode cX7_word 21 = .ok (.ifCond .ge 7, 3) := by decide +kernel
theorem dX7_word_24 : decode cX7_word 24 = .ok (.iconst 0, 1) := by decide +kernel
theorem dX7_word_25 : decode cX7_word 25 = .ok (.goto 15, 3) := by decide +kernel
theorem dX7_word_28 : decode cX7_word 28 = .ok (.iload_n 2, 1) := by decide +kernel
theorem dX7_word_29 : decode cX7_word 29 = .ok (.ldc 40, 2) := by decide +kernel
theorem dX7_word_31 : decode cX7_word 31 = .ok (.if_icmp .le 8, 3) := by decide +kernel
theorem dX7_word_34 : decode cX7_word 34 = .ok (.ldc 40, 2) := by decide +kernel
theorem dX7_word_36 : decode cX7_word 36 = .ok (.goto 4, 3) := by decide +kernel
theorem dX7_word_39 : decode cX7_word 39 = .ok (.iload_n 2, 1) := by decide +kernel
theorem dX7_word_40 : decode cX7_word 40 = .ok (.ireturn, 1) := by decide +kernel
theorem dX7_weights_0 : decode cX7_weights 0 = .ok (.iconst 0, 1) := by decide +kernel
theorem dX7_weights_1 : decode cX7_weights 1 = .ok (.istore_n 1, 1) := by decide +kernel
theorem dX7_weights_2 : decode cX7_weights 2 = .ok (.iconst 0, 1) := by decide +kernel
theorem dX7_weights_3 : decode cX7_weights 3 = .ok (.istore_n 2, 1) := by decide +kernel
theorem dX7_weights_4 : decode cX7_weights 4 = .ok (.iload_n 2, 1) := by decide +kernel
theorem dX7_weights_5 : decode cX7_weights 5 = .ok (.bipush 7, 2) := by decide +kernel
theorem dX7_weights_7 : decode cX7_weights 7 = .ok (.if_icmp .ge 21, 3) := by decide +kernel
theorem dX7_weights_10 : decode cX7_weights 10 = .ok (.iload_n 1, 1) := by decide +kernel
theorem dX7_weights_11 : decode cX7_weights 11 = .ok (.aload_n 0, 1) := by decide +kernel
theorem dX7_weights_12 : decode cX7_weights 12 = .ok (.getfield 7, 3) := by decide +kernel
theorem dX7_weights_15 : decode cX7_weights 15 = .ok (.bipush 48, 2) := by decide +kernel
theorem dX7_weights_17 : decode cX7_weights 17 = .ok (.iload_n 2, 1) := by decide +kernel
theorem dX7_weights_18 : decode cX7_weights 18 = .ok (.iadd, 1) := by decide +kernel
theorem dX7_weights_19 : decode cX7_weights 19 = .ok (.iaload, 1) := by decide +kernel
theorem dX7_weights_20 : decode cX7_weights 20 = .ok (.iadd, 1) := by decide +kernel
theorem dX7_weights_21 : decode cX7_weights 21 = .ok (.istore_n 1, 1) := by decide +kernel
theorem dX7_weights_22 : decode cX7_weights 22 = .ok (.iinc 2 1, 3) := by decide +kernel
theorem dX7_weights_25 : decode cX7_weights 25 = .ok (.goto (-21), 3) := by decide +kernel
theorem dX7_weights_28 : decode cX7_weights 28 = .ok (.iload_n 1, 1) := by decide +kernel
theorem dX7_weights_29 : decode cX7_weights 29 = .ok (.ireturn, 1) := by decide +kernel
theorem dX7_middle_0 : decode cX7_middle 0 = .ok (.iconst (-1), 1) := by decide +kernel
theorem dX7_middle_1 : decode cX7_middle 1 = .ok (.istore_n 1, 1) := by decide +kernel
theorem dX7_middle_2 : decode cX7_middle 2 = .ok (.iconst 0, 1) := by decide +kernel
theorem dX7_middle_3 : decode cX7_middle 3 = .ok (.istore_n 2, 1) := by decide +kernel
theorem dX7_middle_4 : decode cX7_middle 4 = .ok (.iload_n 2, 1) := by decide +kernel
theorem dX7_middle_5 : decode cX7_middle 5 = .ok (.bipush 7, 2) := by decide +kernel
theorem dX7_middle_7 : decode cX7_middle 7 = .ok (.if_icmp .ge 116, 3) := by decide +kernel
theorem dX7_middle_10 : decode cX7_middle 10 = .ok (.iconst 0, 1) := by decide +kernel
theorem dX7_middle_11 : decode cX7_middle 11 = .ok (.istore_n 3, 1) := by decide +kernel
theorem dX7_middle_12 : decode cX7_middle 12 = .ok (.iconst 0, 1) := by decide +kernel
theorem dX7_middle_13 : decode cX7_middle 13 = .ok (.istore 4, 2) := by decide +kernel
theorem dX7_middle_15 : decode cX7_middle 15 = .ok (.iload 4, 2) := by decide +kernel
theorem dX7_middle_17 : decode cX7_middle 17 = .ok (.bipush 7, 2) := by decide +kernel
theorem dX7_middle_19 : decode cX7_middle 19 = .ok (.if_icmp .ge 40, 3) := by decide +kernel
theorem dX7_middle_22 : decode cX7_middle 22 = .ok (.iload_n 3, 1) := by decide +kernel
theorem dX7_middle_23 : decode cX7_middle 23 = .ok (.aload_n 0, 1) := by decide +kernel
theorem dX7_middle_24 : decode cX7_middle 24 = .ok (.iload 4, 2) := by decide +kernel
theorem dX7_middle_26 : decode cX7_middle 26 = .ok (.invokevirtual 56, 3) := by decide +kernel
theorem dX7_middle_29 : decode cX7_middle 29 = .ok (.aload_n 0, 1) := by decide +kernel
theorem dX7_middle_30 : decode cX7_middle 30 = .ok (.iload_n 2, 1) := by decide +kernel
theorem dX7_middle_31 : decode cX7_middle 31 = .ok (.invokevirtual 56, 3) := by decide +kernel
theorem dX7_middle_34 : decode cX7_middle 34 = .ok (.if_icmp .gt 16, 3) := by decide +kernel
theorem dX7_middle_37 : decode cX7_middle 37 = .ok (.aload_n 0, 1) := by decide +kernel
theorem dX7_middle_38 : decode cX7_middle 38 = .ok (.getfield 7, 3) := by decide +kernel
theorem dX7_middle_41 : decode cX7_middle 41 = .ok (.bipush 48, 2) := by decide +kernel
theorem dX7_middle_43 : decode cX7_middle 43 = .ok (.iload 4, 2) := by decide +kernel
theorem dX7_middle_45 : decode cX7_middle 45 = .ok (.iadd, 1) := by decide +kernel
theorem dX7_middle_46 : decode cX7_middle 46 = .ok (.iaload, 1) := by decide +kernel
theorem dX7_middle_47 : decode cX7_middle 47 = .ok (.goto 4, 3) := by decide +kernel
theorem dX7_middle_50 : decode cX7_middle 50 = .ok (.iconst 0, 1) := by decide +kernel
theorem dX7_middle_51 : decode cX7_middle 51 = .ok (.iadd, 1) := by decide +kernel
theorem dX7_middle_52 : decode cX7_middle 52 = .ok (.istore_n 3, 1) := by decide +kernel
theorem dX7_middle_53 : decode cX7_middle 53 = .ok (.iinc 4 1, 3) := by decide +kernel
theorem dX7_middle_56 : decode cX7_middle 56 = .ok (.goto (-41), 3) := by decide +kernel
theorem dX7_middle_59 : decode cX7_middle 59 = .ok (.aload_n 0, 1) := by decide +kernel
theorem dX7_middle_60 : decode cX7_middle 60 = .ok (.getfield 7, 3) := by decide +kernel
theorem dX7_middle_63 : decode cX7_middle 63 = .ok (.bipush 48, 2) := by decide +kernel
theorem dX7_middle_65 : decode cX7_middle 65 = .ok (.iload_n 2, 1) := by decide +kernel
theorem dX7_middle_66 : decode cX7_middle 66 = .ok (.iadd, 1) := by decide +kernel
theorem dX7_middle_67 : decode cX7_middle 67 = .ok (.iaload, 1) := by decide +kernel
theorem dX7_middle_68 : decode cX7_middle 68 = .ok (.ifCond .le 17, 3) := by decide +kernel
theorem dX7_middle_71 : decode cX7_middle 71 = .ok (.iconst 2, 1) := by decide +kernel
theorem dX7_middle_72 : decode cX7_middle 72 = .ok (.iload_n 3, 1) := by decide +kernel
theorem dX7_middle_73 : decode cX7_middle 73 = .ok (.imul, 1) := by decide +kernel
theorem dX7_middle_74 : decode cX7_middle 74 = .ok (.aload_n 0, 1) := by decide +kernel
theorem dX7_middle_75 : decode cX7_middle 75 = .ok (.invokevirtual 59, 3) := by decide +kernel
theorem dX7_middle_78 : decode cX7_middle 78 = .ok (.if_icmp .lt 7, 3) := by decide +kernel
theorem dX7_middle_81 : decode cX7_middle 81 = .ok (.iconst 1, 1) := by decide +kernel
theorem dX7_middle_82 : decode cX7_middle 82 = .ok (.goto 4, 3) := by decide +kernel
theorem dX7_middle_85 : decode cX7_middle 85 = .ok (.iconst 0, 1) := by decide +kernel
theorem dX7_middle_86 : decode cX7_middle 86 = .ok (.istore 4, 2) := by decide +kernel
theorem dX7_middle_88 : decode cX7_middle 88 = .ok (.iload 4, 2) := by decide +kernel
theorem dX7_middle_90 : decode cX7_middle 90 = .ok (.ifCond .eq 25, 3) := by decide +kernel
theorem dX7_middle_93 : decode cX7_middle 93 = .ok (.iload_n 1, 1) := by decide +kernel
theorem dX7_middle_94 : decode cX7_middle 94 = .ok (.iconst (-1), 1) := by decide +kernel
theorem dX7_middle_95 : decode cX7_middle 95 = .ok (.if_icmp .eq 12, 3) := by decide +kernel
theorem dX7_middle_98 : decode cX7_middle 98 = .ok (.aload_n 0, 1) := by decide +kernel
theorem dX7_middle_99 : decode cX7_middle 99 = .ok (.iload_n 2, 1) := by decide +kernel
theorem dX7_middle_100 : decode cX7_middle 100 = .ok (.invokevirtual 56, 3) := by decide +kernel
theorem dX7_middle_103 : decode cX7_middle 103 = .ok (.iload_n 1, 1) := by decide +kernel
theorem dX7_middle_104 : decode cX7_middle 104 = .ok (.if_icmp .ge 11, 3) := by decide +kernel
theorem dX7_middle_107 : decode cX7_middle 107 = .ok (.aload_n 0, 1) := by decide +kernel
theorem dX7_middle_108 : decode cX7_middle 108 = .ok (.iload_n 2, 1) := by decide +kernel
theorem dX7_middle_109 : decode cX7_middle 109 = .ok (.invokevirtual 56, 3) := by decide +kernel
theorem dX7_middle_112 : decode cX7_middle 112 = .ok (.goto 4, 3) := by decide +kernel
theorem dX7_middle_115 : decode cX7_middle 115 = .ok (.iload_n 1, 1) := by decide +kernel
theorem dX7_middle_116 : decode cX7_middle 116 = .ok (.istore_n 1, 1) := by decide +kernel
theorem dX7_middle_117 : decode cX7_middle 117 = .ok (.iinc 2 1, 3) := by decide +kernel
theorem dX7_middle_120 : decode cX7_middle 120 = .ok (.goto (-116), 3) := by decide +kernel
theorem dX7_middle_123 : decode cX7_middle 123 = .ok (.iload_n 1, 1) := by decide +kernel
theorem dX7_middle_124 : decode cX7_middle 124 = .ok (.ireturn, 1) := by decide +kernel
theorem dX7_behind_0 : decode cX7_behind 0 = .ok (.iload_n 0, 1) := by decide +kernel
theorem dX7_behind_1 : decode cX7_behind 1 = .ok (.iconst 1, 1) := by decide +kernel
theorem dX7_behind_2 : decode cX7_behind 2 = .ok (.iadd, 1) := by decide +kernel
theorem dX7_behind_3 : decode cX7_behind 3 = .ok (.bipush 7, 2) := by decide +kernel
theorem dX7_behind_5 : decode cX7_behind 5 = .ok (.irem, 1) := by decide +kernel
theorem dX7_behind_6 : decode cX7_behind 6 = .ok (.ireturn, 1) := by decide +kernel
theorem dX7_quarrel_0 : decode cX7_quarrel 0 = .ok (.aload_n 0, 1) := by decide +kernel
theorem dX7_quarrel_1 : decode cX7_quarrel 1 = .ok (.iload_n 1, 1) := by decide +kernel
theorem dX7_quarrel_2 : decode cX7_quarrel 2 = .ok (.invokevirtual 56, 3) := by decide +kernel
theorem dX7_quarrel_5 : decode cX7_quarrel 5 = .ok (.aload_n 0, 1) := by decide +kernel
theorem dX7_quarrel_6 : decode cX7_quarrel 6 = .ok (.iload_n 1, 1) := by decide +kernel
theorem dX7_quarrel_7 : decode cX7_quarrel 7 = .ok (.invokestatic 62, 3) := by decide +kernel
theorem dX7_quarrel_10 : decode cX7_quarrel 10 = .ok (.invokevirtual 56, 3) := by decide +kernel
theorem dX7_quarrel_13 : decode cX7_quarrel 13 = .ok (.isub, 1) := by decide +kernel
theorem dX7_quarrel_14 : decode cX7_quarrel 14 = .ok (.invokestatic 49, 3) := by decide +kernel
theorem dX7_quarrel_17 : decode cX7_quarrel 17 = .ok (.aload_n 0, 1) := by decide +kernel
theorem dX7_quarrel_18 : decode cX7_quarrel 18 = .ok (.getfield 7, 3) := by decide +kernel
theorem dX7_quarrel_21 : decode cX7_quarrel 21 = .ok (.iconst 2, 1) := by decide +kernel
theorem dX7_quarrel_22 : decode cX7_quarrel 22 = .ok (.iaload, 1) := by decide +kernel
theorem dX7_quarrel_23 : decode cX7_quarrel 23 = .ok (.if_icmp .le 7, 3) := by decide +kernel
theorem dX7_quarrel_26 : decode cX7_quarrel 26 = .ok (.iconst 1, 1) := by decide +kernel
theorem dX7_quarrel_27 : decode cX7_quarrel 27 = .ok (.goto 4, 3) := by decide +kernel
theorem dX7_quarrel_30 : decode cX7_quarrel 30 = .ok (.iconst 0, 1) := by decide +kernel
theorem dX7_quarrel_31 : decode cX7_quarrel 31 = .ok (.ireturn, 1) := by decide +kernel
theorem dX7_quarrels_0 : decode cX7_quarrels 0 = .ok (.iconst 0, 1) := by decide +kernel
theorem dX7_quarrels_1 : decode cX7_quarrels 1 = .ok (.istore_n 1, 1) := by decide +kernel
theorem dX7_quarrels_2 : decode cX7_quarrels 2 = .ok (.iconst 0, 1) := by decide +kernel
theorem dX7_quarrels_3 : decode cX7_quarrels 3 = .ok (.istore_n 2, 1) := by decide +kernel
theorem dX7_quarrels_4 : decode cX7_quarrels 4 = .ok (.iload_n 2, 1) := by decide +kernel
theorem dX7_quarrels_5 : decode cX7_quarrels 5 = .ok (.bipush 7, 2) := by decide +kernel
theorem dX7_quarrels_7 : decode cX7_quarrels 7 = .ok (.if_icmp .ge 25, 3) := by decide +kernel
theorem dX7_quarrels_10 : decode cX7_quarrels 10 = .ok (.iload_n 1, 1) := by decide +kernel
theorem dX7_quarrels_11 : decode cX7_quarrels 11 = .ok (.aload_n 0, 1) := by decide +kernel
theorem dX7_quarrels_12 : decode cX7_quarrels 12 = .ok (.iload_n 2, 1) := by decide +kernel
theorem dX7_quarrels_13 : decode cX7_quarrels 13 = .ok (.invokevirtual 65, 3) := by decide +kernel
theorem dX7_quarrels_16 : decode cX7_quarrels 16 = .ok (.ifCond .eq 7, 3) := by decide +kernel
theorem dX7_quarrels_19 : decode cX7_quarrels 19 = .ok (.iconst 1, 1) := by decide +kernel
theorem dX7_quarrels_20 : decode cX7_quarrels 20 = .ok (.goto 4, 3) := by decide +kernel
theorem dX7_quarrels_23 : decode cX7_quarrels 23 = .ok (.iconst 0, 1) := by decide +kernel
theorem dX7_quarrels_24 : decode cX7_quarrels 24 = .ok (.iadd, 1) := by decide +kernel
theorem dX7_quarrels_25 : decode cX7_quarrels 25 = .ok (.istore_n 1, 1) := by decide +kernel
theorem dX7_quarrels_26 : decode cX7_quarrels 26 = .ok (.iinc 2 1, 3) := by decide +kernel
theorem dX7_quarrels_29 : decode cX7_quarrels 29 = .ok (.goto (-25), 3) := by decide +kernel
theorem dX7_quarrels_32 : decode cX7_quarrels 32 = .ok (.iload_n 1, 1) := by decide +kernel
theorem dX7_quarrels_33 : decode cX7_quarrels 33 = .ok (.ireturn, 1) := by decide +kernel
theorem dX7_loses_0 : decode cX7_loses 0 = .ok (.aload_n 0, 1) := by decide +kernel
theorem dX7_loses_1 : decode cX7_loses 1 = .ok (.getfield 7, 3) := by decide +kernel
theorem dX7_loses_4 : decode cX7_loses 4 = .ok (.bipush 48, 2) := by decide +kernel
theorem dX7_loses_6 : decode cX7_loses 6 = .ok (.iload_n 1, 1) := by decide +kernel
theorem dX7_loses_7 : decode cX7_loses 7 = .ok (.iadd, 1) := by decide +kernel
theorem dX7_loses_8 : decode cX7_loses 8 = .ok (.iaload, 1) := by decide +kernel
theorem dX7_loses_9 : decode cX7_loses 9 = .ok (.ifCond .le 29, 3) := by decide +kernel
theorem dX7_loses_12 : decode cX7_loses 12 = .ok (.aload_n 0, 1) := by decide +kernel
theorem dX7_loses_13 : decode cX7_loses 13 = .ok (.getfield 7, 3) := by decide +kernel
theorem dX7_loses_16 : decode cX7_loses 16 = .ok (.bipush 48, 2) := by decide +kernel
theorem dX7_loses_18 : decode cX7_loses 18 = .ok (.iload_n 1, 1) := by decide +kernel
theorem dX7_loses_19 : decode cX7_loses 19 = .ok (.iadd, 1) := by decide +kernel
theorem dX7_loses_20 : decode cX7_loses 20 = .ok (.dup2, 1) := by decide +kernel
theorem dX7_loses_21 : decode cX7_loses 21 = .ok (.iaload, 1) := by decide +kernel
theorem dX7_loses_22 : decode cX7_loses 22 = .ok (.iconst 1, 1) := by decide +kernel
theorem dX7_loses_23 : decode cX7_loses 23 = .ok (.isub, 1) := by decide +kernel
theorem dX7_loses_24 : decode cX7_loses 24 = .ok (.iastore, 1) := by decide +kernel
theorem dX7_loses_25 : decode cX7_loses 25 = .ok (.aload_n 0, 1) := by decide +kernel
theorem dX7_loses_26 : decode cX7_loses 26 = .ok (.getfield 7, 3) := by decide +kernel
theorem dX7_loses_29 : decode cX7_loses 29 = .ok (.bipush 62, 2) := by decide +kernel
theorem dX7_loses_31 : decode cX7_loses 31 = .ok (.iload_n 1, 1) := by decide +kernel
theorem dX7_loses_32 : decode cX7_loses 32 = .ok (.iadd, 1) := by decide +kernel
theorem dX7_loses_33 : decode cX7_loses 33 = .ok (.dup2, 1) := by decide +kernel
theorem dX7_loses_34 : decode cX7_loses 34 = .ok (.iaload, 1) := by decide +kernel
theorem dX7_loses_35 : decode cX7_loses 35 = .ok (.iconst 1, 1) := by decide +kernel
theorem dX7_loses_36 : decode cX7_loses 36 = .ok (.iadd, 1) := by decide +kernel
theorem dX7_loses_37 : decode cX7_loses 37 = .ok (.iastore, 1) := by decide +kernel
theorem dX7_loses_38 : decode cX7_loses 38 = .ok (.return_, 1) := by decide +kernel
theorem dX7_votes_0 : decode cX7_votes 0 = .ok (.aload_n 0, 1) := by decide +kernel
theorem dX7_votes_1 : decode cX7_votes 1 = .ok (.invokevirtual 69, 3) := by decide +kernel
theorem dX7_votes_4 : decode cX7_votes 4 = .ok (.istore_n 1, 1) := by decide +kernel
theorem dX7_votes_5 : decode cX7_votes 5 = .ok (.aload_n 0, 1) := by decide +kernel
theorem dX7_votes_6 : decode cX7_votes 6 = .ok (.getfield 7, 3) := by decide +kernel
theorem dX7_votes_9 : decode cX7_votes 9 = .ok (.iconst 4, 1) := by decide +kernel
theorem dX7_votes_10 : decode cX7_votes 10 = .ok (.dup2, 1) := by decide +kernel
theorem dX7_votes_11 : decode cX7_votes 11 = .ok (.iaload, 1) := by decide +kernel
theorem dX7_votes_12 : decode cX7_votes 12 = .ok (.iconst 1, 1) := by decide +kernel
theorem dX7_votes_13 : decode cX7_votes 13 = .ok (.iadd, 1) := by decide +kernel
theorem dX7_votes_14 : decode cX7_votes 14 = .ok (.iastore, 1) := by decide +kernel
theorem dX7_votes_15 : decode cX7_votes 15 = .ok (.aload_n 0, 1) := by decide +kernel
theorem dX7_votes_16 : decode cX7_votes 16 = .ok (.getfield 7, 3) := by decide +kernel
theorem dX7_votes_19 : decode cX7_votes 19 = .ok (.iconst 5, 1) := by decide +kernel
theorem dX7_votes_20 : decode cX7_votes 20 = .ok (.dup2, 1) := by decide +kernel
theorem dX7_votes_21 : decode cX7_votes 21 = .ok (.iaload, 1) := by decide +kernel
theorem dX7_votes_22 : decode cX7_votes 22 = .ok (.iload_n 1, 1) := by decide +kernel
theorem dX7_votes_23 : decode cX7_votes 23 = .ok (.aload_n 0, 1) := by decide +kernel
theorem dX7_votes_24 : decode cX7_votes 24 = .ok (.getfield 7, 3) := by decide +kernel
theorem dX7_votes_27 : decode cX7_votes 27 = .ok (.iconst 1, 1) := by decide +kernel
theorem dX7_votes_28 : decode cX7_votes 28 = .ok (.iaload, 1) := by decide +kernel
theorem dX7_votes_29 : decode cX7_votes 29 = .ok (.if_icmp .le 7, 3) := by decide +kernel
theorem dX7_votes_32 : decode cX7_votes 32 = .ok (.iconst 0, 1) := by decide +kernel
theorem dX7_votes_33 : decode cX7_votes 33 = .ok (.goto 4, 3) := by decide +kernel
theorem dX7_votes_36 : decode cX7_votes 36 = .ok (.iconst 1, 1) := by decide +kernel
theorem dX7_votes_37 : decode cX7_votes 37 = .ok (.iadd, 1) := by decide +kernel
theorem dX7_votes_38 : decode cX7_votes 38 = .ok (.iastore, 1) := by decide +kernel
theorem dX7_votes_39 : decode cX7_votes 39 = .ok (.aload_n 0, 1) := by decide +kernel
theorem dX7_votes_40 : decode cX7_votes 40 = .ok (.getfield 7, 3) := by decide +kernel
theorem dX7_votes_43 : decode cX7_votes 43 = .ok (.iconst 1, 1) := by decide +kernel
theorem dX7_votes_44 : decode cX7_votes 44 = .ok (.iload_n 1, 1) := by decide +kernel
theorem dX7_votes_45 : decode cX7_votes 45 = .ok (.aload_n 0, 1) := by decide +kernel
theorem dX7_votes_46 : decode cX7_votes 46 = .ok (.getfield 7, 3) := by decide +kernel
theorem dX7_votes_49 : decode cX7_votes 49 = .ok (.iconst 1, 1) := by decide +kernel
theorem dX7_votes_50 : decode cX7_votes 50 = .ok (.iaload, 1) := by decide +kernel
theorem dX7_votes_51 : decode cX7_votes 51 = .ok (.if_icmp .le 7, 3) := by decide +kernel
theorem dX7_votes_54 : decode cX7_votes 54 = .ok (.iload_n 1, 1) := by decide +kernel
theorem dX7_votes_55 : decode cX7_votes 55 = .ok (.goto 9, 3) := by decide +kernel
theorem dX7_votes_58 : decode cX7_votes 58 = .ok (.aload_n 0, 1) := by decide +kernel
theorem dX7_votes_59 : decode cX7_votes 59 = .ok (.getfield 7, 3) := by decide +kernel
theorem dX7_votes_62 : decode cX7_votes 62 = .ok (.iconst 1, 1) := by decide +kernel
theorem dX7_votes_63 : decode cX7_votes 63 = .ok (.iaload, 1) := by decide +kernel
theorem dX7_votes_64 : decode cX7_votes 64 = .ok (.iastore, 1) := by decide +kernel
theorem dX7_votes_65 : decode cX7_votes 65 = .ok (.iconst 0, 1) := by decide +kernel
theorem dX7_votes_66 : decode cX7_votes 66 = .ok (.istore_n 2, 1) := by decide +kernel
theorem dX7_votes_67 : decode cX7_votes 67 = .ok (.iload_n 2, 1) := by decide +kernel
theorem dX7_votes_68 : decode cX7_votes 68 = .ok (.bipush 7, 2) := by decide +kernel
theorem dX7_votes_70 : decode cX7_votes 70 = .ok (.if_icmp .ge 77, 3) := by decide +kernel
theorem dX7_votes_73 : decode cX7_votes 73 = .ok (.aload_n 0, 1) := by decide +kernel
theorem dX7_votes_74 : decode cX7_votes 74 = .ok (.iload_n 2, 1) := by decide +kernel
theorem dX7_votes_75 : decode cX7_votes 75 = .ok (.invokevirtual 65, 3) := by decide +kernel
theorem dX7_votes_78 : decode cX7_votes 78 = .ok (.ifCond .eq 63, 3) := by decide +kernel
theorem dX7_votes_81 : decode cX7_votes 81 = .ok (.aload_n 0, 1) := by decide +kernel
theorem dX7_votes_82 : decode cX7_votes 82 = .ok (.iload_n 2, 1) := by decide +kernel
theorem dX7_votes_83 : decode cX7_votes 83 = .ok (.invokevirtual 56, 3) := by decide +kernel
theorem dX7_votes_86 : decode cX7_votes 86 = .ok (.aload_n 0, 1) := by decide +kernel
theorem dX7_votes_87 : decode cX7_votes 87 = .ok (.getfield 7, 3) := by decide +kernel
theorem dX7_votes_90 : decode cX7_votes 90 = .ok (.iconst 1, 1) := by decide +kernel
theorem dX7_votes_91 : decode cX7_votes 91 = .ok (.iaload, 1) := by decide +kernel
theorem dX7_votes_92 : decode cX7_votes 92 = .ok (.isub, 1) := by decide +kernel
theorem dX7_votes_93 : decode cX7_votes 93 = .ok (.invokestatic 49, 3) := by decide +kernel
theorem dX7_votes_96 : decode cX7_votes 96 = .ok (.istore_n 3, 1) := by decide +kernel
theorem dX7_votes_97 : decode cX7_votes 97 = .ok (.aload_n 0, 1) := by decide +kernel
theorem dX7_votes_98 : decode cX7_votes 98 = .ok (.iload_n 2, 1) := by decide +kernel
theorem dX7_votes_99 : decode cX7_votes 99 = .ok (.invokestatic 62, 3) := by decide +kernel
theorem dX7_votes_102 : decode cX7_votes 102 = .ok (.invokevirtual 56, 3) := by decide +kernel
theorem dX7_votes_105 : decode cX7_votes 105 = .ok (.aload_n 0, 1) := by decide +kernel
theorem dX7_votes_106 : decode cX7_votes 106 = .ok (.getfield 7, 3) := by decide +kernel
theorem dX7_votes_109 : decode cX7_votes 109 = .ok (.iconst 1, 1) := by decide +kernel
theorem dX7_votes_110 : decode cX7_votes 110 = .ok (.iaload, 1) := by decide +kernel
theorem dX7_votes_111 : decode cX7_votes 111 = .ok (.isub, 1) := by decide +kernel
theorem dX7_votes_112 : decode cX7_votes 112 = .ok (.invokestatic 49, 3) := by decide +kernel
theorem dX7_votes_115 : decode cX7_votes 115 = .ok (.istore 4, 2) := by decide +kernel
theorem dX7_votes_117 : decode cX7_votes 117 = .ok (.iload_n 3, 1) := by decide +kernel
theorem dX7_votes_118 : decode cX7_votes 118 = .ok (.iload 4, 2) := by decide +kernel
theorem dX7_votes_120 : decode cX7_votes 120 = .ok (.if_icmp .eq 21, 3) := by decide +kernel
theorem dX7_votes_123 : decode cX7_votes 123 = .ok (.aload_n 0, 1) := by decide +kernel
theorem dX7_votes_124 : decode cX7_votes 124 = .ok (.iload_n 3, 1) := by decide +kernel
theorem dX7_votes_125 : decode cX7_votes 125 = .ok (.iload 4, 2) := by decide +kernel
theorem dX7_votes_127 : decode cX7_votes 127 = .ok (.if_icmp .le 7, 3) := by decide +kernel
theorem dX7_votes_130 : decode cX7_votes 130 = .ok (.iload_n 2, 1) := by decide +kernel
theorem dX7_votes_131 : decode cX7_votes 131 = .ok (.goto 7, 3) := by decide +kernel
theorem dX7_votes_134 : decode cX7_votes 134 = .ok (.iload_n 2, 1) := by decide +kernel
theorem dX7_votes_135 : decode cX7_votes 135 = .ok (.invokestatic 62, 3) := by decide +kernel
theorem dX7_votes_138 : decode cX7_votes 138 = .ok (.invokevirtual 72, 3) := by decide +kernel
theorem dX7_votes_141 : decode cX7_votes 141 = .ok (.iinc 2 1, 3) := by decide +kernel
theorem dX7_votes_144 : decode cX7_votes 144 = .ok (.goto (-77), 3) := by decide +kernel
theorem dX7_votes_147 : decode cX7_votes 147 = .ok (.aload_n 0, 1) := by decide +kernel
theorem dX7_votes_148 : decode cX7_votes 148 = .ok (.getfield 7, 3) := by decide +kernel
theorem dX7_votes_151 : decode cX7_votes 151 = .ok (.iconst 1, 1) := by decide +kernel
theorem dX7_votes_152 : decode cX7_votes 152 = .ok (.iaload, 1) := by decide +kernel
theorem dX7_votes_153 : decode cX7_votes 153 = .ok (.ireturn, 1) := by decide +kernel
theorem dX7_tick_0 : decode cX7_tick 0 = .ok (.aload_n 0, 1) := by decide +kernel
theorem dX7_tick_1 : decode cX7_tick 1 = .ok (.iconst 0, 1) := by decide +kernel
theorem dX7_tick_2 : decode cX7_tick 2 = .ok (.putfield 25, 3) := by decide +kernel
theorem dX7_tick_5 : decode cX7_tick 5 = .ok (.iload_n 1, 1) := by decide +kernel
theorem dX7_tick_6 : decode cX7_tick 6 = .ok (.iconst 1, 1) := by decide +kernel
theorem dX7_tick_7 : decode cX7_tick 7 = .ok (.bipush 99, 2) := by decide +kernel
theorem dX7_tick_9 : decode cX7_tick 9 = .ok (.invokestatic 29, 3) := by decide +kernel
theorem dX7_tick_12 : decode cX7_tick 12 = .ok (.ifCond .ne 9, 3) := by decide +kernel
theorem dX7_tick_15 : decode cX7_tick 15 = .ok (.aload_n 0, 1) := by decide +kernel
theorem dX7_tick_16 : decode cX7_tick 16 = .ok (.iconst 1, 1) := by decide +kernel
theorem dX7_tick_17 : decode cX7_tick 17 = .ok (.invokevirtual 76, 3) := by decide +kernel
theorem dX7_tick_20 : decode cX7_tick 20 = .ok (.ireturn, 1) := by decide +kernel
theorem dX7_tick_21 : decode cX7_tick 21 = .ok (.aload_n 0, 1) := by decide +kernel
theorem dX7_tick_22 : decode cX7_tick 22 = .ok (.invokevirtual 79, 3) := by decide +kernel
theorem dX7_tick_25 : decode cX7_tick 25 = .ok (.aload_n 0, 1) := by decide +kernel
theorem dX7_tick_26 : decode cX7_tick 26 = .ok (.iload_n 1, 1) := by decide +kernel
theorem dX7_tick_27 : decode cX7_tick 27 = .ok (.invokevirtual 82, 3) := by decide +kernel
theorem dX7_tick_30 : decode cX7_tick 30 = .ok (.ireturn, 1) := by decide +kernel
theorem dX7_vote_0 : decode cX7_vote 0 = .ok (.aload_n 0, 1) := by decide +kernel
theorem dX7_vote_1 : decode cX7_vote 1 = .ok (.iconst 0, 1) := by decide +kernel
theorem dX7_vote_2 : decode cX7_vote 2 = .ok (.putfield 25, 3) := by decide +kernel
theorem dX7_vote_5 : decode cX7_vote 5 = .ok (.aload_n 0, 1) := by decide +kernel
theorem dX7_vote_6 : decode cX7_vote 6 = .ok (.invokevirtual 59, 3) := by decide +kernel
theorem dX7_vote_9 : decode cX7_vote 9 = .ok (.ifCond .ne 9, 3) := by decide +kernel
theorem dX7_vote_12 : decode cX7_vote 12 = .ok (.aload_n 0, 1) := by decide +kernel
theorem dX7_vote_13 : decode cX7_vote 13 = .ok (.iconst 1, 1) := by decide +kernel
theorem dX7_vote_14 : decode cX7_vote 14 = .ok (.invokevirtual 76, 3) := by decide +kernel
theorem dX7_vote_17 : decode cX7_vote 17 = .ok (.ireturn, 1) := by decide +kernel
theorem dX7_vote_18 : decode cX7_vote 18 = .ok (.aload_n 0, 1) := by decide +kernel
theorem dX7_vote_19 : decode cX7_vote 19 = .ok (.invokevirtual 79, 3) := by decide +kernel
theorem dX7_vote_22 : decode cX7_vote 22 = .ok (.aload_n 0, 1) := by decide +kernel
theorem dX7_vote_23 : decode cX7_vote 23 = .ok (.invokevirtual 85, 3) := by decide +kernel
theorem dX7_vote_26 : decode cX7_vote 26 = .ok (.ireturn, 1) := by decide +kernel
theorem dX7_correct_0 : decode cX7_correct 0 = .ok (.aload_n 0, 1) := by decide +kernel
theorem dX7_correct_1 : decode cX7_correct 1 = .ok (.iconst 0, 1) := by decide +kernel
theorem dX7_correct_2 : decode cX7_correct 2 = .ok (.putfield 25, 3) := by decide +kernel
theorem dX7_correct_5 : decode cX7_correct 5 = .ok (.aload_n 0, 1) := by decide +kernel
theorem dX7_correct_6 : decode cX7_correct 6 = .ok (.invokevirtual 79, 3) := by decide +kernel
theorem dX7_correct_9 : decode cX7_correct 9 = .ok (.aload_n 0, 1) := by decide +kernel
theorem dX7_correct_10 : decode cX7_correct 10 = .ok (.invokevirtual 88, 3) := by decide +kernel
theorem dX7_correct_13 : decode cX7_correct 13 = .ok (.ireturn, 1) := by decide +kernel
theorem dX7_put_0 : decode cX7_put 0 = .ok (.aload_n 0, 1) := by decide +kernel
theorem dX7_put_1 : decode cX7_put 1 = .ok (.iconst 0, 1) := by decide +kernel
theorem dX7_put_2 : decode cX7_put 2 = .ok (.putfield 25, 3) := by decide +kernel
theorem dX7_put_5 : decode cX7_put 5 = .ok (.iload_n 1, 1) := by decide +kernel
theorem dX7_put_6 : decode cX7_put 6 = .ok (.invokestatic 91, 3) := by decide +kernel
theorem dX7_put_9 : decode cX7_put 9 = .ok (.ifCond .ne 9, 3) := by decide +kernel
theorem dX7_put_12 : decode cX7_put 12 = .ok (.aload_n 0, 1) := by decide +kernel
theorem dX7_put_13 : decode cX7_put 13 = .ok (.iconst 1, 1) := by decide +kernel
theorem dX7_put_14 : decode cX7_put 14 = .ok (.invokevirtual 76, 3) := by decide +kernel
theorem dX7_put_17 : decode cX7_put 17 = .ok (.ireturn, 1) := by decide +kernel
theorem dX7_put_18 : decode cX7_put 18 = .ok (.iload_n 2, 1) := by decide +kernel
theorem dX7_put_19 : decode cX7_put 19 = .ok (.iconst 0, 1) := by decide +kernel
theorem dX7_put_20 : decode cX7_put 20 = .ok (.ldc 40, 2) := by decide +kernel
theorem dX7_put_22 : decode cX7_put 22 = .ok (.invokestatic 29, 3) := by decide +kernel
theorem dX7_put_25 : decode cX7_put 25 = .ok (.ifCond .ne 9, 3) := by decide +kernel
theorem dX7_put_28 : decode cX7_put 28 = .ok (.aload_n 0, 1) := by decide +kernel
theorem dX7_put_29 : decode cX7_put 29 = .ok (.iconst 2, 1) := by decide +kernel
theorem dX7_put_30 : decode cX7_put 30 = .ok (.invokevirtual 76, 3) := by decide +kernel
theorem dX7_put_33 : decode cX7_put 33 = .ok (.ireturn, 1) := by decide +kernel
theorem dX7_put_34 : decode cX7_put 34 = .ok (.aload_n 0, 1) := by decide +kernel
theorem dX7_put_35 : decode cX7_put 35 = .ok (.invokevirtual 79, 3) := by decide +kernel
theorem dX7_put_38 : decode cX7_put 38 = .ok (.aload_n 0, 1) := by decide +kernel
theorem dX7_put_39 : decode cX7_put 39 = .ok (.getfield 7, 3) := by decide +kernel
theorem dX7_put_42 : decode cX7_put 42 = .ok (.bipush 6, 2) := by decide +kernel
theorem dX7_put_44 : decode cX7_put 44 = .ok (.iload_n 1, 1) := by decide +kernel
theorem dX7_put_45 : decode cX7_put 45 = .ok (.iadd, 1) := by decide +kernel
theorem dX7_put_46 : decode cX7_put 46 = .ok (.iaload, 1) := by decide +kernel
theorem dX7_put_47 : decode cX7_put 47 = .ok (.istore_n 3, 1) := by decide +kernel
theorem dX7_put_48 : decode cX7_put 48 = .ok (.aload_n 0, 1) := by decide +kernel
theorem dX7_put_49 : decode cX7_put 49 = .ok (.iload_n 1, 1) := by decide +kernel
theorem dX7_put_50 : decode cX7_put 50 = .ok (.iload_n 2, 1) := by decide +kernel
theorem dX7_put_51 : decode cX7_put 51 = .ok (.invokevirtual 52, 3) := by decide +kernel
theorem dX7_put_54 : decode cX7_put 54 = .ok (.iload_n 3, 1) := by decide +kernel
theorem dX7_put_55 : decode cX7_put 55 = .ok (.ireturn, 1) := by decide +kernel
theorem dX7_drift_0 : decode cX7_drift 0 = .ok (.aload_n 0, 1) := by decide +kernel
theorem dX7_drift_1 : decode cX7_drift 1 = .ok (.iconst 0, 1) := by decide +kernel
theorem dX7_drift_2 : decode cX7_drift 2 = .ok (.putfield 25, 3) := by decide +kernel
theorem dX7_drift_5 : decode cX7_drift 5 = .ok (.iload_n 1, 1) := by decide +kernel
theorem dX7_drift_6 : decode cX7_drift 6 = .ok (.invokestatic 91, 3) := by decide +kernel
theorem dX7_drift_9 : decode cX7_drift 9 = .ok (.ifCond .ne 9, 3) := by decide +kernel
theorem dX7_drift_12 : decode cX7_drift 12 = .ok (.aload_n 0, 1) := by decide +kernel
theorem dX7_drift_13 : decode cX7_drift 13 = .ok (.iconst 1, 1) := by decide +kernel
theorem dX7_drift_14 : decode cX7_drift 14 = .ok (.invokevirtual 76, 3) := by decide +kernel
theorem dX7_drift_17 : decode cX7_drift 17 = .ok (.ireturn, 1) := by decide +kernel
theorem dX7_drift_18 : decode cX7_drift 18 = .ok (.iload_n 2, 1) := by decide +kernel
theorem dX7_drift_19 : decode cX7_drift 19 = .ok (.bipush (-5), 2) := by decide +kernel
theorem dX7_drift_21 : decode cX7_drift 21 = .ok (.iconst 5, 1) := by decide +kernel
theorem dX7_drift_22 : decode cX7_drift 22 = .ok (.invokestatic 29, 3) := by decide +kernel
theorem dX7_drift_25 : decode cX7_drift 25 = .ok (.ifCond .ne 9, 3) := by decide +kernel
theorem dX7_drift_28 : decode cX7_drift 28 = .ok (.aload_n 0, 1) := by decide +kernel
theorem dX7_drift_29 : decode cX7_drift 29 = .ok (.iconst 2, 1) := by decide +kernel
theorem dX7_drift_30 : decode cX7_drift 30 = .ok (.invokevirtual 76, 3) := by decide +kernel
theorem dX7_drift_33 : decode cX7_drift 33 = .ok (.ireturn, 1) := by decide +kernel
theorem dX7_drift_34 : decode cX7_drift 34 = .ok (.aload_n 0, 1) := by decide +kernel
theorem dX7_drift_35 : decode cX7_drift 35 = .ok (.invokevirtual 79, 3) := by decide +kernel
theorem dX7_drift_38 : decode cX7_drift 38 = .ok (.aload_n 0, 1) := by decide +kernel
theorem dX7_drift_39 : decode cX7_drift 39 = .ok (.getfield 7, 3) := by decide +kernel
theorem dX7_drift_42 : decode cX7_drift 42 = .ok (.bipush 13, 2) := by decide +kernel
theorem dX7_drift_44 : decode cX7_drift 44 = .ok (.iload_n 1, 1) := by decide +kernel
theorem dX7_drift_45 : decode cX7_drift 45 = .ok (.iadd, 1) := by decide +kernel
theorem dX7_drift_46 : decode cX7_drift 46 = .ok (.iaload, 1) := by decide +kernel
theorem dX7_drift_47 : decode cX7_drift 47 = .ok (.istore_n 3, 1) := by decide +kernel
theorem dX7_drift_48 : decode cX7_drift 48 = .ok (.aload_n 0, 1) := by decide +kernel
theorem dX7_drift_49 : decode cX7_drift 49 = .ok (.getfield 7, 3) := by decide +kernel
theorem dX7_drift_52 : decode cX7_drift 52 = .ok (.bipush 13, 2) := by decide +kernel
theorem dX7_drift_54 : decode cX7_drift 54 = .ok (.iload_n 1, 1) := by decide +kernel
theorem dX7_drift_55 : decode cX7_drift 55 = .ok (.iadd, 1) := by decide +kernel
theorem dX7_drift_56 : decode cX7_drift 56 = .ok (.iload_n 2, 1) := by decide +kernel
theorem dX7_drift_57 : decode cX7_drift 57 = .ok (.iastore, 1) := by decide +kernel
theorem dX7_drift_58 : decode cX7_drift 58 = .ok (.iload_n 3, 1) := by decide +kernel
theorem dX7_drift_59 : decode cX7_drift 59 = .ok (.ireturn, 1) := by decide +kernel
theorem dX7_warden_0 : decode cX7_warden 0 = .ok (.aload_n 0, 1) := by decide +kernel
theorem dX7_warden_1 : decode cX7_warden 1 = .ok (.iconst 0, 1) := by decide +kernel
theorem dX7_warden_2 : decode cX7_warden 2 = .ok (.putfield 25, 3) := by decide +kernel
theorem dX7_warden_5 : decode cX7_warden 5 = .ok (.iload_n 1, 1) := by decide +kernel
theorem dX7_warden_6 : decode cX7_warden 6 = .ok (.invokestatic 91, 3) := by decide +kernel
theorem dX7_warden_9 : decode cX7_warden 9 = .ok (.ifCond .ne 9, 3) := by decide +kernel
theorem dX7_warden_12 : decode cX7_warden 12 = .ok (.aload_n 0, 1) := by decide +kernel
theorem dX7_warden_13 : decode cX7_warden 13 = .ok (.iconst 1, 1) := by decide +kernel
theorem dX7_warden_14 : decode cX7_warden 14 = .ok (.invokevirtual 76, 3) := by decide +kernel
theorem dX7_warden_17 : decode cX7_warden 17 = .ok (.ireturn, 1) := by decide +kernel
theorem dX7_warden_18 : decode cX7_warden 18 = .ok (.iload_n 2, 1) := by decide +kernel
theorem dX7_warden_19 : decode cX7_warden 19 = .ok (.iconst 0, 1) := by decide +kernel
theorem dX7_warden_20 : decode cX7_warden 20 = .ok (.bipush 9, 2) := by decide +kernel
theorem dX7_warden_22 : decode cX7_warden 22 = .ok (.invokestatic 29, 3) := by decide +kernel
theorem dX7_warden_25 : decode cX7_warden 25 = .ok (.ifCond .eq 14, 3) := by decide +kernel
theorem dX7_warden_28 : decode cX7_warden 28 = .ok (.iload_n 3, 1) := by decide +kernel
theorem dX7_warden_29 : decode cX7_warden 29 = .ok (.bipush (-60), 2) := by decide +kernel
theorem dX7_warden_31 : decode cX7_warden 31 = .ok (.bipush 60, 2) := by decide +kernel
theorem dX7_warden_33 : decode cX7_warden 33 = .ok (.invokestatic 29, 3) := by decide +kernel
theorem dX7_warden_36 : decode cX7_warden 36 = .ok (.ifCond .ne 9, 3) := by decide +kernel
theorem dX7_warden_39 : decode cX7_warden 39 = .ok (.aload_n 0, 1) := by decide +kernel
theorem dX7_warden_40 : decode cX7_warden 40 = .ok (.iconst 2, 1) := by decide +kernel
theorem dX7_warden_41 : decode cX7_warden 41 = .ok (.invokevirtual 76, 3) := by decide +kernel
theorem dX7_warden_44 : decode cX7_warden 44 = .ok (.ireturn, 1) := by decide +kernel
theorem dX7_warden_45 : decode cX7_warden 45 = .ok (.aload_n 0, 1) := by decide +kernel
theorem dX7_warden_46 : decode cX7_warden 46 = .ok (.invokevirtual 79, 3) := by decide +kernel
theorem dX7_warden_49 : decode cX7_warden 49 = .ok (.aload_n 0, 1) := by decide +kernel
theorem dX7_warden_50 : decode cX7_warden 50 = .ok (.getfield 7, 3) := by decide +kernel
theorem dX7_warden_53 : decode cX7_warden 53 = .ok (.bipush 48, 2) := by decide +kernel
theorem dX7_warden_55 : decode cX7_warden 55 = .ok (.iload_n 1, 1) := by decide +kernel
theorem dX7_warden_56 : decode cX7_warden 56 = .ok (.iadd, 1) := by decide +kernel
theorem dX7_warden_57 : decode cX7_warden 57 = .ok (.iaload, 1) := by decide +kernel
theorem dX7_warden_58 : decode cX7_warden 58 = .ok (.istore 4, 2) := by decide +kernel
theorem dX7_warden_60 : decode cX7_warden 60 = .ok (.aload_n 0, 1) := by decide +kernel
theorem dX7_warden_61 : decode cX7_warden 61 = .ok (.getfield 7, 3) := by decide +kernel
theorem dX7_warden_64 : decode cX7_warden 64 = .ok (.bipush 48, 2) := by decide +kernel
theorem dX7_warden_66 : decode cX7_warden 66 = .ok (.iload_n 1, 1) := by decide +kernel
theorem dX7_warden_67 : decode cX7_warden 67 = .ok (.iadd, 1) := by decide +kernel
theorem dX7_warden_68 : decode cX7_warden 68 = .ok (.iload_n 2, 1) := by decide +kernel
theorem dX7_warden_69 : decode cX7_warden 69 = .ok (.iastore, 1) := by decide +kernel
theorem dX7_warden_70 : decode cX7_warden 70 = .ok (.aload_n 0, 1) := by decide +kernel
theorem dX7_warden_71 : decode cX7_warden 71 = .ok (.getfield 7, 3) := by decide +kernel
theorem dX7_warden_74 : decode cX7_warden 74 = .ok (.bipush 55, 2) := by decide +kernel
theorem dX7_warden_76 : decode cX7_warden 76 = .ok (.iload_n 1, 1) := by decide +kernel
theorem dX7_warden_77 : decode cX7_warden 77 = .ok (.iadd, 1) := by decide +kernel
theorem dX7_warden_78 : decode cX7_warden 78 = .ok (.iload_n 3, 1) := by decide +kernel
theorem dX7_warden_79 : decode cX7_warden 79 = .ok (.iastore, 1) := by decide +kernel
theorem dX7_warden_80 : decode cX7_warden 80 = .ok (.iload 4, 2) := by decide +kernel
theorem dX7_warden_82 : decode cX7_warden 82 = .ok (.ireturn, 1) := by decide +kernel
theorem dX7_set_0 : decode cX7_set 0 = .ok (.aload_n 0, 1) := by decide +kernel
theorem dX7_set_1 : decode cX7_set 1 = .ok (.iconst 0, 1) := by decide +kernel
theorem dX7_set_2 : decode cX7_set 2 = .ok (.putfield 25, 3) := by decide +kernel
theorem dX7_set_5 : decode cX7_set 5 = .ok (.iload_n 1, 1) := by decide +kernel
theorem dX7_set_6 : decode cX7_set 6 = .ok (.iconst 0, 1) := by decide +kernel
theorem dX7_set_7 : decode cX7_set 7 = .ok (.iconst 1, 1) := by decide +kernel
theorem dX7_set_8 : decode cX7_set 8 = .ok (.invokestatic 29, 3) := by decide +kernel
theorem dX7_set_11 : decode cX7_set 11 = .ok (.ifCond .ne 9, 3) := by decide +kernel
theorem dX7_set_14 : decode cX7_set 14 = .ok (.aload_n 0, 1) := by decide +kernel
theorem dX7_set_15 : decode cX7_set 15 = .ok (.iconst 1, 1) := by decide +kernel
theorem dX7_set_16 : decode cX7_set 16 = .ok (.invokevirtual 76, 3) := by decide +kernel
theorem dX7_set_19 : decode cX7_set 19 = .ok (.ireturn, 1) := by decide +kernel
theorem dX7_set_20 : decode cX7_set 20 = .ok (.iload_n 2, 1) := by decide +kernel
theorem dX7_set_21 : decode cX7_set 21 = .ok (.iconst 0, 1) := by decide +kernel
theorem dX7_set_22 : decode cX7_set 22 = .ok (.bipush 99, 2) := by decide +kernel
theorem dX7_set_24 : decode cX7_set 24 = .ok (.invokestatic 29, 3) := by decide +kernel
theorem dX7_set_27 : decode cX7_set 27 = .ok (.ifCond .ne 9, 3) := by decide +kernel
theorem dX7_set_30 : decode cX7_set 30 = .ok (.aload_n 0, 1) := by decide +kernel
theorem dX7_set_31 : decode cX7_set 31 = .ok (.iconst 2, 1) := by decide +kernel
theorem dX7_set_32 : decode cX7_set 32 = .ok (.invokevirtual 76, 3) := by decide +kernel
theorem dX7_set_35 : decode cX7_set 35 = .ok (.ireturn, 1) := by decide +kernel
theorem dX7_set_36 : decode cX7_set 36 = .ok (.aload_n 0, 1) := by decide +kernel
theorem dX7_set_37 : decode cX7_set 37 = .ok (.invokevirtual 79, 3) := by decide +kernel
theorem dX7_set_40 : decode cX7_set 40 = .ok (.aload_n 0, 1) := by decide +kernel
theorem dX7_set_41 : decode cX7_set 41 = .ok (.getfield 7, 3) := by decide +kernel
theorem dX7_set_44 : decode cX7_set 44 = .ok (.iconst 2, 1) := by decide +kernel
theorem dX7_set_45 : decode cX7_set 45 = .ok (.iload_n 1, 1) := by decide +kernel
theorem dX7_set_46 : decode cX7_set 46 = .ok (.iadd, 1) := by decide +kernel
theorem dX7_set_47 : decode cX7_set 47 = .ok (.iaload, 1) := by decide +kernel
theorem dX7_set_48 : decode cX7_set 48 = .ok (.istore_n 3, 1) := by decide +kernel
theorem dX7_set_49 : decode cX7_set 49 = .ok (.aload_n 0, 1) := by decide +kernel
theorem dX7_set_50 : decode cX7_set 50 = .ok (.getfield 7, 3) := by decide +kernel
theorem dX7_set_53 : decode cX7_set 53 = .ok (.iconst 2, 1) := by decide +kernel
theorem dX7_set_54 : decode cX7_set 54 = .ok (.iload_n 1, 1) := by decide +kernel
theorem dX7_set_55 : decode cX7_set 55 = .ok (.iadd, 1) := by decide +kernel
theorem dX7_set_56 : decode cX7_set 56 = .ok (.iload_n 2, 1) := by decide +kernel
theorem dX7_set_57 : decode cX7_set 57 = .ok (.iastore, 1) := by decide +kernel
theorem dX7_set_58 : decode cX7_set 58 = .ok (.iload_n 3, 1) := by decide +kernel
theorem dX7_set_59 : decode cX7_set 59 = .ok (.ireturn, 1) := by decide +kernel
theorem dX7_append_0 : decode cX7_append 0 = .ok (.aload_n 0, 1) := by decide +kernel
theorem dX7_append_1 : decode cX7_append 1 = .ok (.iconst 0, 1) := by decide +kernel
theorem dX7_append_2 : decode cX7_append 2 = .ok (.putfield 25, 3) := by decide +kernel
theorem dX7_append_5 : decode cX7_append 5 = .ok (.iload_n 1, 1) := by decide +kernel
theorem dX7_append_6 : decode cX7_append 6 = .ok (.bipush 33, 2) := by decide +kernel
theorem dX7_append_8 : decode cX7_append 8 = .ok (.bipush 126, 2) := by decide +kernel
theorem dX7_append_10 : decode cX7_append 10 = .ok (.invokestatic 29, 3) := by decide +kernel
theorem dX7_append_13 : decode cX7_append 13 = .ok (.ifCond .ne 9, 3) := by decide +kernel
theorem dX7_append_16 : decode cX7_append 16 = .ok (.aload_n 0, 1) := by decide +kernel
theorem dX7_append_17 : decode cX7_append 17 = .ok (.iconst 1, 1) := by decide +kernel
theorem dX7_append_18 : decode cX7_append 18 = .ok (.invokevirtual 76, 3) := by decide +kernel
theorem dX7_append_21 : decode cX7_append 21 = .ok (.ireturn, 1) := by decide +kernel
theorem dX7_append_22 : decode cX7_append 22 = .ok (.aload_n 0, 1) := by decide +kernel
theorem dX7_append_23 : decode cX7_append 23 = .ok (.getfield 94, 3) := by decide +kernel
theorem dX7_append_26 : decode cX7_append 26 = .ok (.bipush 60, 2) := by decide +kernel
theorem dX7_append_28 : decode cX7_append 28 = .ok (.if_icmp .ne 9, 3) := by decide +kernel
theorem dX7_append_31 : decode cX7_append 31 = .ok (.aload_n 0, 1) := by decide +kernel
theorem dX7_append_32 : decode cX7_append 32 = .ok (.iconst 2, 1) := by decide +kernel
theorem dX7_append_33 : decode cX7_append 33 = .ok (.invokevirtual 76, 3) := by decide +kernel
theorem dX7_append_36 : decode cX7_append 36 = .ok (.ireturn, 1) := by decide +kernel
theorem dX7_append_37 : decode cX7_append 37 = .ok (.aload_n 0, 1) := by decide +kernel
theorem dX7_append_38 : decode cX7_append 38 = .ok (.getfield 22, 3) := by decide +kernel
theorem dX7_append_41 : decode cX7_append 41 = .ok (.aload_n 0, 1) := by decide +kernel
theorem dX7_append_42 : decode cX7_append 42 = .ok (.getfield 94, 3) := by decide +kernel
theorem dX7_append_45 : decode cX7_append 45 = .ok (.iload_n 1, 1) := by decide +kernel
theorem dX7_append_46 : decode cX7_append 46 = .ok (.iastore, 1) := by decide +kernel
theorem dX7_append_47 : decode cX7_append 47 = .ok (.aload_n 0, 1) := by decide +kernel
theorem dX7_append_48 : decode cX7_append 48 = .ok (.dup, 1) := by decide +kernel
theorem dX7_append_49 : decode cX7_append 49 = .ok (.getfield 94, 3) := by decide +kernel
theorem dX7_append_52 : decode cX7_append 52 = .ok (.iconst 1, 1) := by decide +kernel
theorem dX7_append_53 : decode cX7_append 53 = .ok (.iadd, 1) := by decide +kernel
theorem dX7_append_54 : decode cX7_append 54 = .ok (.putfield 94, 3) := by decide +kernel
theorem dX7_append_57 : decode cX7_append 57 = .ok (.aload_n 0, 1) := by decide +kernel
theorem dX7_append_58 : decode cX7_append 58 = .ok (.getfield 94, 3) := by decide +kernel
theorem dX7_append_61 : decode cX7_append 61 = .ok (.ireturn, 1) := by decide +kernel
theorem dX7_clearBuffer_0 : decode cX7_clearBuffer 0 = .ok (.aload_n 0, 1) := by decide +kernel
theorem dX7_clearBuffer_1 : decode cX7_clearBuffer 1 = .ok (.iconst 0, 1) := by decide +kernel
theorem dX7_clearBuffer_2 : decode cX7_clearBuffer 2 = .ok (.putfield 25, 3) := by decide +kernel
theorem dX7_clearBuffer_5 : decode cX7_clearBuffer 5 = .ok (.aload_n 0, 1) := by decide +kernel
theorem dX7_clearBuffer_6 : decode cX7_clearBuffer 6 = .ok (.getfield 94, 3) := by decide +kernel
theorem dX7_clearBuffer_9 : decode cX7_clearBuffer 9 = .ok (.istore_n 1, 1) := by decide +kernel
theorem dX7_clearBuffer_10 : decode cX7_clearBuffer 10 = .ok (.aload_n 0, 1) := by decide +kernel
theorem dX7_clearBuffer_11 : decode cX7_clearBuffer 11 = .ok (.iconst 0, 1) := by decide +kernel
theorem dX7_clearBuffer_12 : decode cX7_clearBuffer 12 = .ok (.putfield 94, 3) := by decide +kernel
theorem dX7_clearBuffer_15 : decode cX7_clearBuffer 15 = .ok (.iload_n 1, 1) := by decide +kernel
theorem dX7_clearBuffer_16 : decode cX7_clearBuffer 16 = .ok (.ireturn, 1) := by decide +kernel
theorem dX7_sign_0 : decode cX7_sign 0 = .ok (.aload_n 0, 1) := by decide +kernel
theorem dX7_sign_1 : decode cX7_sign 1 = .ok (.getfield 97, 3) := by decide +kernel
theorem dX7_sign_4 : decode cX7_sign 4 = .ok (.aload_n 0, 1) := by decide +kernel
theorem dX7_sign_5 : decode cX7_sign 5 = .ok (.getfield 94, 3) := by decide +kernel
theorem dX7_sign_8 : decode cX7_sign 8 = .ok (.if_icmp .ge 15, 3) := by decide +kernel
theorem dX7_sign_11 : decode cX7_sign 11 = .ok (.aload_n 0, 1) := by decide +kernel
theorem dX7_sign_12 : decode cX7_sign 12 = .ok (.getfield 22, 3) := by decide +kernel
theorem dX7_sign_15 : decode cX7_sign 15 = .ok (.aload_n 0, 1) := by decide +kernel
theorem dX7_sign_16 : decode cX7_sign 16 = .ok (.getfield 97, 3) := by decide +kernel
theorem dX7_sign_19 : decode cX7_sign 19 = .ok (.iaload, 1) := by decide +kernel
theorem dX7_sign_20 : decode cX7_sign 20 = .ok (.goto 4, 3) := by decide +kernel
theorem dX7_sign_23 : decode cX7_sign 23 = .ok (.iconst 0, 1) := by decide +kernel
theorem dX7_sign_24 : decode cX7_sign 24 = .ok (.istore_n 3, 1) := by decide +kernel
theorem dX7_sign_25 : decode cX7_sign 25 = .ok (.aload_n 0, 1) := by decide +kernel
theorem dX7_sign_26 : decode cX7_sign 26 = .ok (.aload_n 0, 1) := by decide +kernel
theorem dX7_sign_27 : decode cX7_sign 27 = .ok (.getfield 100, 3) := by decide +kernel
theorem dX7_sign_30 : decode cX7_sign 30 = .ok (.ifCond .ne 23, 3) := by decide +kernel
theorem dX7_sign_33 : decode cX7_sign 33 = .ok (.aload_n 0, 1) := by decide +kernel
theorem dX7_sign_34 : decode cX7_sign 34 = .ok (.getfield 97, 3) := by decide +kernel
theorem dX7_sign_37 : decode cX7_sign 37 = .ok (.aload_n 0, 1) := by decide +kernel
theorem dX7_sign_38 : decode cX7_sign 38 = .ok (.getfield 94, 3) := by decide +kernel
theorem dX7_sign_41 : decode cX7_sign 41 = .ok (.if_icmp .ge 12, 3) := by decide +kernel
theorem dX7_sign_44 : decode cX7_sign 44 = .ok (.iload_n 3, 1) := by decide +kernel
theorem dX7_sign_45 : decode cX7_sign 45 = .ok (.iload_n 1, 1) := by decide +kernel
theorem dX7_sign_46 : decode cX7_sign 46 = .ok (.iload_n 2, 1) := by decide +kernel
theorem dX7_sign_47 : decode cX7_sign 47 = .ok (.invokestatic 29, 3) := by decide +kernel
theorem dX7_sign_50 : decode cX7_sign 50 = .ok (.ifCond .ne 7, 3) := by decide +kernel
theorem dX7_sign_53 : decode cX7_sign 53 = .ok (.iconst 1, 1) := by decide +kernel
theorem dX7_sign_54 : decode cX7_sign 54 = .ok (.goto 4, 3) := by decide +kernel
theorem dX7_sign_57 : decode cX7_sign 57 = .ok (.iconst 0, 1) := by decide +kernel
theorem dX7_sign_58 : decode cX7_sign 58 = .ok (.putfield 100, 3) := by decide +kernel
theorem dX7_sign_61 : decode cX7_sign 61 = .ok (.aload_n 0, 1) := by decide +kernel
theorem dX7_sign_62 : decode cX7_sign 62 = .ok (.dup, 1) := by decide +kernel
theorem dX7_sign_63 : decode cX7_sign 63 = .ok (.getfield 97, 3) := by decide +kernel
theorem dX7_sign_66 : decode cX7_sign 66 = .ok (.aload_n 0, 1) := by decide +kernel
theorem dX7_sign_67 : decode cX7_sign 67 = .ok (.getfield 100, 3) := by decide +kernel
theorem dX7_sign_70 : decode cX7_sign 70 = .ok (.ifCond .eq 7, 3) := by decide +kernel
theorem dX7_sign_73 : decode cX7_sign 73 = .ok (.iconst 0, 1) := by decide +kernel
theorem dX7_sign_74 : decode cX7_sign 74 = .ok (.goto 4, 3) := by decide +kernel
theorem dX7_sign_77 : decode cX7_sign 77 = .ok (.iconst 1, 1) := by decide +kernel
theorem dX7_sign_78 : decode cX7_sign 78 = .ok (.iadd, 1) := by decide +kernel
theorem dX7_sign_79 : decode cX7_sign 79 = .ok (.putfield 97, 3) := by decide +kernel
theorem dX7_sign_82 : decode cX7_sign 82 = .ok (.iload_n 3, 1) := by decide +kernel
theorem dX7_sign_83 : decode cX7_sign 83 = .ok (.ireturn, 1) := by decide +kernel
theorem dX7_isNext_0 : decode cX7_isNext 0 = .ok (.aload_n 0, 1) := by decide +kernel
theorem dX7_isNext_1 : decode cX7_isNext 1 = .ok (.getfield 100, 3) := by decide +kernel
theorem dX7_isNext_4 : decode cX7_isNext 4 = .ok (.ifCond .ne 35, 3) := by decide +kernel
theorem dX7_isNext_7 : decode cX7_isNext 7 = .ok (.aload_n 0, 1) := by decide +kernel
theorem dX7_isNext_8 : decode cX7_isNext 8 = .ok (.getfield 97, 3) := by decide +kernel
theorem dX7_isNext_11 : decode cX7_isNext 11 = .ok (.aload_n 0, 1) := by decide +kernel
theorem dX7_isNext_12 : decode cX7_isNext 12 = .ok (.getfield 94, 3) := by decide +kernel
theorem dX7_isNext_15 : decode cX7_isNext 15 = .ok (.if_icmp .ge 24, 3) := by decide +kernel
theorem dX7_isNext_18 : decode cX7_isNext 18 = .ok (.aload_n 0, 1) := by decide +kernel
theorem dX7_isNext_19 : decode cX7_isNext 19 = .ok (.getfield 22, 3) := by decide +kernel
theorem dX7_isNext_22 : decode cX7_isNext 22 = .ok (.aload_n 0, 1) := by decide +kernel
theorem dX7_isNext_23 : decode cX7_isNext 23 = .ok (.getfield 97, 3) := by decide +kernel
theorem dX7_isNext_26 : decode cX7_isNext 26 = .ok (.iaload, 1) := by decide +kernel
theorem dX7_isNext_27 : decode cX7_isNext 27 = .ok (.iload_n 1, 1) := by decide +kernel
theorem dX7_isNext_28 : decode cX7_isNext 28 = .ok (.iload_n 2, 1) := by decide +kernel
theorem dX7_isNext_29 : decode cX7_isNext 29 = .ok (.invokestatic 29, 3) := by decide +kernel
theorem dX7_isNext_32 : decode cX7_isNext 32 = .ok (.ifCond .eq 7, 3) := by decide +kernel
theorem dX7_isNext_35 : decode cX7_isNext 35 = .ok (.iconst 1, 1) := by decide +kernel
theorem dX7_isNext_36 : decode cX7_isNext 36 = .ok (.goto 4, 3) := by decide +kernel
theorem dX7_isNext_39 : decode cX7_isNext 39 = .ok (.iconst 0, 1) := by decide +kernel
theorem dX7_isNext_40 : decode cX7_isNext 40 = .ok (.ireturn, 1) := by decide +kernel
theorem dX7_part_0 : decode cX7_part 0 = .ok (.aload_n 0, 1) := by decide +kernel
theorem dX7_part_1 : decode cX7_part 1 = .ok (.bipush 116, 2) := by decide +kernel
theorem dX7_part_3 : decode cX7_part 3 = .ok (.bipush 116, 2) := by decide +kernel
theorem dX7_part_5 : decode cX7_part 5 = .ok (.invokevirtual 104, 3) := by decide +kernel
theorem dX7_part_8 : decode cX7_part 8 = .ok (.ifCond .eq 80, 3) := by decide +kernel
theorem dX7_part_11 : decode cX7_part 11 = .ok (.aload_n 0, 1) := by decide +kernel
theorem dX7_part_12 : decode cX7_part 12 = .ok (.dup, 1) := by decide +kernel
theorem dX7_part_13 : decode cX7_part 13 = .ok (.getfield 97, 3) := by decide +kernel
theorem dX7_part_16 : decode cX7_part 16 = .ok (.iconst 1, 1) := by decide +kernel
theorem dX7_part_17 : decode cX7_part 17 = .ok (.iadd, 1) := by decide +kernel
theorem dX7_part_18 : decode cX7_part 18 = .ok (.putfield 97, 3) := by decide +kernel
theorem dX7_part_21 : decode cX7_part 21 = .ok (.aload_n 0, 1) := by decide +kernel
theorem dX7_part_22 : decode cX7_part 22 = .ok (.bipush 49, 2) := by decide +kernel
theorem dX7_part_24 : decode cX7_part 24 = .ok (.bipush 57, 2) := by decide +kernel
theorem dX7_part_26 : decode cX7_part 26 = .ok (.invokevirtual 108, 3) := by decide +kernel
theorem dX7_part_29 : decode cX7_part 29 = .ok (.bipush 48, 2) := by decide +kernel
theorem dX7_part_31 : decode cX7_part 31 = .ok (.isub, 1) := by decide +kernel
theorem dX7_part_32 : decode cX7_part 32 = .ok (.istore_n 2, 1) := by decide +kernel
theorem dX7_part_33 : decode cX7_part 33 = .ok (.aload_n 0, 1) := by decide +kernel
theorem dX7_part_34 : decode cX7_part 34 = .ok (.bipush 48, 2) := by decide +kernel
theorem dX7_part_36 : decode cX7_part 36 = .ok (.bipush 57, 2) := by decide +kernel
theorem dX7_part_38 : decode cX7_part 38 = .ok (.invokevirtual 104, 3) := by decide +kernel
theorem dX7_part_41 : decode cX7_part 41 = .ok (.ifCond .eq 31, 3) := by decide +kernel
theorem dX7_part_44 : decode cX7_part 44 = .ok (.bipush 10, 2) := by decide +kernel
theorem dX7_part_46 : decode cX7_part 46 = .ok (.iload_n 2, 1) := by decide +kernel
theorem dX7_part_47 : decode cX7_part 47 = .ok (.imul, 1) := by decide +kernel
theorem dX7_part_48 : decode cX7_part 48 = .ok (.aload_n 0, 1) := by decide +kernel
theorem dX7_part_49 : decode cX7_part 49 = .ok (.getfield 22, 3) := by decide +kernel
theorem dX7_part_52 : decode cX7_part 52 = .ok (.aload_n 0, 1) := by decide +kernel
theorem dX7_part_53 : decode cX7_part 53 = .ok (.getfield 97, 3) := by decide +kernel
theorem dX7_part_56 : decode cX7_part 56 = .ok (.iaload, 1) := by decide +kernel
theorem dX7_part_57 : decode cX7_part 57 = .ok (.iadd, 1) := by decide +kernel
theorem dX7_part_58 : decode cX7_part 58 = .ok (.bipush 48, 2) := by decide +kernel
theorem dX7_part_60 : decode cX7_part 60 = .ok (.isub, 1) := by decide +kernel
theorem dX7_part_61 : decode cX7_part 61 = .ok (.istore_n 2, 1) := by decide +kernel
theorem dX7_part_62 : decode cX7_part 62 = .ok (.aload_n 0, 1) := by decide +kernel
theorem dX7_part_63 : decode cX7_part 63 = .ok (.dup, 1) := by decide +kernel
theorem dX7_part_64 : decode cX7_part 64 = .ok (.getfield 97, 3) := by decide +kernel
theorem dX7_part_67 : decode cX7_part 67 = .ok (.iconst 1, 1) := by decide +kernel
theorem dX7_part_68 : decode cX7_part 68 = .ok (.iadd, 1) := by decide +kernel
theorem dX7_part_69 : decode cX7_part 69 = .ok (.putfield 97, 3) := by decide +kernel
theorem dX7_part_72 : decode cX7_part 72 = .ok (.iload_n 1, 1) := by decide +kernel
theorem dX7_part_73 : decode cX7_part 73 = .ok (.ifCond .eq 11, 3) := by decide +kernel
theorem dX7_part_76 : decode cX7_part 76 = .ok (.aload_n 0, 1) := by decide +kernel
theorem dX7_part_77 : decode cX7_part 77 = .ok (.iload_n 2, 1) := by decide +kernel
theorem dX7_part_78 : decode cX7_part 78 = .ok (.invokevirtual 82, 3) := by decide +kernel
theorem dX7_part_81 : decode cX7_part 81 = .ok (.goto 4, 3) := by decide +kernel
theorem dX7_part_84 : decode cX7_part 84 = .ok (.iconst 0, 1) := by decide +kernel
theorem dX7_part_85 : decode cX7_part 85 = .ok (.istore_n 3, 1) := by decide +kernel
theorem dX7_part_86 : decode cX7_part 86 = .ok (.iconst 1, 1) := by decide +kernel
theorem dX7_part_87 : decode cX7_part 87 = .ok (.ireturn, 1) := by decide +kernel
theorem dX7_part_88 : decode cX7_part 88 = .ok (.aload_n 0, 1) := by decide +kernel
theorem dX7_part_89 : decode cX7_part 89 = .ok (.bipush 118, 2) := by decide +kernel
theorem dX7_part_91 : decode cX7_part 91 = .ok (.bipush 118, 2) := by decide +kernel
theorem dX7_part_93 : decode cX7_part 93 = .ok (.invokevirtual 104, 3) := by decide +kernel
theorem dX7_part_96 : decode cX7_part 96 = .ok (.ifCond .eq 57, 3) := by decide +kernel
theorem dX7_part_99 : decode cX7_part 99 = .ok (.aload_n 0, 1) := by decide +kernel
theorem dX7_part_100 : decode cX7_part 100 = .ok (.dup, 1) := by decide +kernel
theorem dX7_part_101 : decode cX7_part 101 = .ok (.getfield 97, 3) := by decide +kernel
theorem dX7_part_104 : decode cX7_part 104 = .ok (.iconst 1, 1) := by decide +kernel
theorem dX7_part_105 : decode cX7_part 105 = .ok (.iadd, 1) := by decide +kernel
theorem dX7_part_106 : decode cX7_part 106 = .ok (.putfield 97, 3) := by decide +kernel
theorem dX7_part_109 : decode cX7_part 109 = .ok (.aload_n 0, 1) := by decide +kernel
theorem dX7_part_110 : decode cX7_part 110 = .ok (.invokevirtual 59, 3) := by decide +kernel
theorem dX7_part_113 : decode cX7_part 113 = .ok (.ifCond .le 7, 3) := by decide +kernel
theorem dX7_part_116 : decode cX7_part 116 = .ok (.iconst 1, 1) := by decide +kernel
theorem dX7_part_117 : decode cX7_part 117 = .ok (.goto 4, 3) := by decide +kernel
theorem dX7_part_120 : decode cX7_part 120 = .ok (.iconst 0, 1) := by decide +kernel
theorem dX7_part_121 : decode cX7_part 121 = .ok (.istore_n 2, 1) := by decide +kernel
theorem dX7_part_122 : decode cX7_part 122 = .ok (.iload_n 1, 1) := by decide +kernel
theorem dX7_part_123 : decode cX7_part 123 = .ok (.ifCond .eq 14, 3) := by decide +kernel
theorem dX7_part_126 : decode cX7_part 126 = .ok (.iload_n 2, 1) := by decide +kernel
theorem dX7_part_127 : decode cX7_part 127 = .ok (.ifCond .eq 10, 3) := by decide +kernel
theorem dX7_part_130 : decode cX7_part 130 = .ok (.aload_n 0, 1) := by decide +kernel
theorem dX7_part_131 : decode cX7_part 131 = .ok (.invokevirtual 85, 3) := by decide +kernel
theorem dX7_part_134 : decode cX7_part 134 = .ok (.goto 4, 3) := by decide +kernel
theorem dX7_part_137 : decode cX7_part 137 = .ok (.iconst 0, 1) := by decide +kernel
theorem dX7_part_138 : decode cX7_part 138 = .ok (.istore_n 3, 1) := by decide +kernel
theorem dX7_part_139 : decode cX7_part 139 = .ok (.iload_n 1, 1) := by decide +kernel
theorem dX7_part_140 : decode cX7_part 140 = .ok (.ifCond .eq 7, 3) := by decide +kernel
theorem dX7_part_143 : decode cX7_part 143 = .ok (.iload_n 2, 1) := by decide +kernel
theorem dX7_part_144 : decode cX7_part 144 = .ok (.ifCond .eq 7, 3) := by decide +kernel
theorem dX7_part_147 : decode cX7_part 147 = .ok (.iconst 1, 1) := by decide +kernel
theorem dX7_part_148 : decode cX7_part 148 = .ok (.goto 4, 3) := by decide +kernel
theorem dX7_part_151 : decode cX7_part 151 = .ok (.iconst 0, 1) := by decide +kernel
theorem dX7_part_152 : decode cX7_part 152 = .ok (.ireturn, 1) := by decide +kernel
theorem dX7_part_153 : decode cX7_part 153 = .ok (.aload_n 0, 1) := by decide +kernel
theorem dX7_part_154 : decode cX7_part 154 = .ok (.bipush 99, 2) := by decide +kernel
theorem dX7_part_156 : decode cX7_part 156 = .ok (.bipush 99, 2) := by decide +kernel
theorem dX7_part_158 : decode cX7_part 158 = .ok (.invokevirtual 104, 3) := by decide +kernel
theorem dX7_part_161 : decode cX7_part 161 = .ok (.ifCond .eq 28, 3) := by decide +kernel
theorem dX7_part_164 : decode cX7_part 164 = .ok (.aload_n 0, 1) := by decide +kernel
theorem dX7_part_165 : decode cX7_part 165 = .ok (.dup, 1) := by decide +kernel
theorem dX7_part_166 : decode cX7_part 166 = .ok (.getfield 97, 3) := by decide +kernel
theorem dX7_part_169 : decode cX7_part 169 = .ok (.iconst 1, 1) := by decide +kernel
theorem dX7_part_170 : decode cX7_part 170 = .ok (.iadd, 1) := by decide +kernel
theorem dX7_part_171 : decode cX7_part 171 = .ok (.putfield 97, 3) := by decide +kernel
theorem dX7_part_174 : decode cX7_part 174 = .ok (.iload_n 1, 1) := by decide +kernel
theorem dX7_part_175 : decode cX7_part 175 = .ok (.ifCond .eq 10, 3) := by decide +kernel
theorem dX7_part_178 : decode cX7_part 178 = .ok (.aload_n 0, 1) := by decide +kernel
theorem dX7_part_179 : decode cX7_part 179 = .ok (.invokevirtual 88, 3) := by decide +kernel
theorem dX7_part_182 : decode cX7_part 182 = .ok (.goto 4, 3) := by decide +kernel
theorem dX7_part_185 : decode cX7_part 185 = .ok (.iconst 0, 1) := by decide +kernel
theorem dX7_part_186 : decode cX7_part 186 = .ok (.istore_n 2, 1) := by decide +kernel
theorem dX7_part_187 : decode cX7_part 187 = .ok (.iconst 1, 1) := by decide +kernel
theorem dX7_part_188 : decode cX7_part 188 = .ok (.ireturn, 1) := by decide +kernel
theorem dX7_part_189 : decode cX7_part 189 = .ok (.aload_n 0, 1) := by decide +kernel
theorem dX7_part_190 : decode cX7_part 190 = .ok (.bipush 100, 2) := by decide +kernel
theorem dX7_part_192 : decode cX7_part 192 = .ok (.bipush 100, 2) := by decide +kernel
theorem dX7_part_194 : decode cX7_part 194 = .ok (.invokevirtual 108, 3) := by decide +kernel
theorem dX7_part_197 : decode cX7_part 197 = .ok (.istore_n 2, 1) := by decide +kernel
theorem dX7_part_198 : decode cX7_part 198 = .ok (.aload_n 0, 1) := by decide +kernel
theorem dX7_part_199 : decode cX7_part 199 = .ok (.bipush 48, 2) := by decide +kernel
theorem dX7_part_201 : decode cX7_part 201 = .ok (.bipush 54, 2) := by decide +kernel
theorem dX7_part_203 : decode cX7_part 203 = .ok (.invokevirtual 108, 3) := by decide +kernel
theorem dX7_part_206 : decode cX7_part 206 = .ok (.bipush 48, 2) := by decide +kernel
theorem dX7_part_208 : decode cX7_part 208 = .ok (.isub, 1) := by decide +kernel
theorem dX7_part_209 : decode cX7_part 209 = .ok (.istore_n 3, 1) := by decide +kernel
theorem dX7_part_210 : decode cX7_part 210 = .ok (.aload_n 0, 1) := by decide +kernel
theorem dX7_part_211 : decode cX7_part 211 = .ok (.bipush 45, 2) := by decide +kernel
theorem dX7_part_213 : decode cX7_part 213 = .ok (.bipush 45, 2) := by decide +kernel
theorem dX7_part_215 : decode cX7_part 215 = .ok (.invokevirtual 104, 3) := by decide +kernel
theorem dX7_part_218 : decode cX7_part 218 = .ok (.istore 4, 2) := by decide +kernel
theorem dX7_part_220 : decode cX7_part 220 = .ok (.iload 4, 2) := by decide +kernel
theorem dX7_part_222 : decode cX7_part 222 = .ok (.ifCond .eq 14, 3) := by decide +kernel
theorem dX7_part_225 : decode cX7_part 225 = .ok (.aload_n 0, 1) := by decide +kernel
theorem dX7_part_226 : decode cX7_part 226 = .ok (.bipush 45, 2) := by decide +kernel
theorem dX7_part_228 : decode cX7_part 228 = .ok (.bipush 45, 2) := by decide +kernel
theorem dX7_part_230 : decode cX7_part 230 = .ok (.invokevirtual 108, 3) := by decide +kernel
theorem dX7_part_233 : decode cX7_part 233 = .ok (.goto 11, 3) := by decide +kernel
theorem dX7_part_236 : decode cX7_part 236 = .ok (.aload_n 0, 1) := by decide +kernel
theorem dX7_part_237 : decode cX7_part 237 = .ok (.bipush 43, 2) := by decide +kernel
theorem dX7_part_239 : decode cX7_part 239 = .ok (.bipush 43, 2) := by decide +kernel
theorem dX7_part_241 : decode cX7_part 241 = .ok (.invokevirtual 108, 3) := by decide +kernel
theorem dX7_part_244 : decode cX7_part 244 = .ok (.istore 5, 2) := by decide +kernel
theorem dX7_part_246 : decode cX7_part 246 = .ok (.aload_n 0, 1) := by decide +kernel
theorem dX7_part_247 : decode cX7_part 247 = .ok (.bipush 48, 2) := by decide +kernel
theorem dX7_part_249 : decode cX7_part 249 = .ok (.bipush 53, 2) := by decide +kernel
theorem dX7_part_251 : decode cX7_part 251 = .ok (.invokevirtual 108, 3) := by decide +kernel
theorem dX7_part_254 : decode cX7_part 254 = .ok (.bipush 48, 2) := by decide +kernel
theorem dX7_part_256 : decode cX7_part 256 = .ok (.isub, 1) := by decide +kernel
theorem dX7_part_257 : decode cX7_part 257 = .ok (.istore 6, 2) := by decide +kernel
theorem dX7_part_259 : decode cX7_part 259 = .ok (.iload_n 1, 1) := by decide +kernel
theorem dX7_part_260 : decode cX7_part 260 = .ok (.ifCond .eq 25, 3) := by decide +kernel
theorem dX7_part_263 : decode cX7_part 263 = .ok (.aload_n 0, 1) := by decide +kernel
theorem dX7_part_264 : decode cX7_part 264 = .ok (.getfield 7, 3) := by decide +kernel
theorem dX7_part_267 : decode cX7_part 267 = .ok (.bipush 13, 2) := by decide +kernel
theorem dX7_part_269 : decode cX7_part 269 = .ok (.iload_n 3, 1) := by decide +kernel
theorem dX7_part_270 : decode cX7_part 270 = .ok (.iadd, 1) := by decide +kernel
theorem dX7_part_271 : decode cX7_part 271 = .ok (.iload 4, 2) := by decide +kernel
theorem dX7_part_273 : decode cX7_part 273 = .ok (.ifCond .eq 9, 3) := by decide +kernel
theorem dX7_part_276 : decode cX7_part 276 = .ok (.iload 6, 2) := by decide +kernel
theorem dX7_part_278 : decode cX7_part 278 = .ok (.ineg, 1) := by decide +kernel
theorem dX7_part_279 : decode cX7_part 279 = .ok (.goto 5, 3) := by decide +kernel
theorem dX7_part_282 : decode cX7_part 282 = .ok (.iload 6, 2) := by decide +kernel
theorem dX7_part_284 : decode cX7_part 284 = .ok (.iastore, 1) := by decide +kernel
theorem dX7_part_285 : decode cX7_part 285 = .ok (.iconst 1, 1) := by decide +kernel
theorem dX7_part_286 : decode cX7_part 286 = .ok (.ireturn, 1) := by decide +kernel
theorem dX7_go_0 : decode cX7_go 0 = .ok (.aload_n 0, 1) := by decide +kernel
theorem dX7_go_1 : decode cX7_go 1 = .ok (.iconst 0, 1) := by decide +kernel
theorem dX7_go_2 : decode cX7_go 2 = .ok (.putfield 97, 3) := by decide +kernel
theorem dX7_go_5 : decode cX7_go 5 = .ok (.aload_n 0, 1) := by decide +kernel
theorem dX7_go_6 : decode cX7_go 6 = .ok (.iconst 0, 1) := by decide +kernel
theorem dX7_go_7 : decode cX7_go 7 = .ok (.putfield 100, 3) := by decide +kernel
theorem dX7_go_10 : decode cX7_go 10 = .ok (.iconst 0, 1) := by decide +kernel
theorem dX7_go_11 : decode cX7_go 11 = .ok (.istore_n 2, 1) := by decide +kernel
theorem dX7_go_12 : decode cX7_go 12 = .ok (.iconst 1, 1) := by decide +kernel
theorem dX7_go_13 : decode cX7_go 13 = .ok (.istore_n 3, 1) := by decide +kernel
theorem dX7_go_14 : decode cX7_go 14 = .ok (.iload_n 3, 1) := by decide +kernel
theorem dX7_go_15 : decode cX7_go 15 = .ok (.ifCond .eq 70, 3) := by decide +kernel
theorem dX7_go_18 : decode cX7_go 18 = .ok (.aload_n 0, 1) := by decide +kernel
theorem dX7_go_19 : decode cX7_go 19 = .ok (.iload_n 1, 1) := by decide +kernel
theorem dX7_go_20 : decode cX7_go 20 = .ok (.invokevirtual 111, 3) := by decide +kernel
theorem dX7_go_23 : decode cX7_go 23 = .ok (.ifCond .ne 5, 3) := by decide +kernel
theorem dX7_go_26 : decode cX7_go 26 = .ok (.iload_n 2, 1) := by decide +kernel
theorem dX7_go_27 : decode cX7_go 27 = .ok (.ireturn, 1) := by decide +kernel
theorem dX7_go_28 : decode cX7_go 28 = .ok (.iinc 2 1, 3) := by decide +kernel
theorem dX7_go_31 : decode cX7_go 31 = .ok (.aload_n 0, 1) := by decide +kernel
theorem dX7_go_32 : decode cX7_go 32 = .ok (.getfield 100, 3) := by decide +kernel
theorem dX7_go_35 : decode cX7_go 35 = .ok (.ifCond .ne 18, 3) := by decide +kernel
theorem dX7_go_38 : decode cX7_go 38 = .ok (.aload_n 0, 1) := by decide +kernel
theorem dX7_go_39 : decode cX7_go 39 = .ok (.getfield 97, 3) := by decide +kernel
theorem dX7_go_42 : decode cX7_go 42 = .ok (.aload_n 0, 1) := by decide +kernel
theorem dX7_go_43 : decode cX7_go 43 = .ok (.getfield 94, 3) := by decide +kernel
theorem dX7_go_46 : decode cX7_go 46 = .ok (.if_icmp .ge 7, 3) := by decide +kernel
theorem dX7_go_49 : decode cX7_go 49 = .ok (.iconst 1, 1) := by decide +kernel
theorem dX7_go_50 : decode cX7_go 50 = .ok (.goto 4, 3) := by decide +kernel
theorem dX7_go_53 : decode cX7_go 53 = .ok (.iconst 0, 1) := by decide +kernel
theorem dX7_go_54 : decode cX7_go 54 = .ok (.istore_n 3, 1) := by decide +kernel
theorem dX7_go_55 : decode cX7_go 55 = .ok (.iload_n 3, 1) := by decide +kernel
theorem dX7_go_56 : decode cX7_go 56 = .ok (.ifCond .eq (-42), 3) := by decide +kernel
theorem dX7_go_59 : decode cX7_go 59 = .ok (.aload_n 0, 1) := by decide +kernel
theorem dX7_go_60 : decode cX7_go 60 = .ok (.bipush 59, 2) := by decide +kernel
theorem dX7_go_62 : decode cX7_go 62 = .ok (.bipush 59, 2) := by decide +kernel
theorem dX7_go_64 : decode cX7_go 64 = .ok (.invokevirtual 108, 3) := by decide +kernel
theorem dX7_go_67 : decode cX7_go 67 = .ok (.istore 4, 2) := by decide +kernel
theorem dX7_go_69 : decode cX7_go 69 = .ok (.aload_n 0, 1) := by decide +kernel
theorem dX7_go_70 : decode cX7_go 70 = .ok (.getfield 100, 3) := by decide +kernel
theorem dX7_go_73 : decode cX7_go 73 = .ok (.ifCond .ne 7, 3) := by decide +kernel
theorem dX7_go_76 : decode cX7_go 76 = .ok (.iconst 1, 1) := by decide +kernel
theorem dX7_go_77 : decode cX7_go 77 = .ok (.goto 4, 3) := by decide +kernel
theorem dX7_go_80 : decode cX7_go 80 = .ok (.iconst 0, 1) := by decide +kernel
theorem dX7_go_81 : decode cX7_go 81 = .ok (.istore_n 3, 1) := by decide +kernel
theorem dX7_go_82 : decode cX7_go 82 = .ok (.goto (-68), 3) := by decide +kernel
theorem dX7_go_85 : decode cX7_go 85 = .ok (.iload_n 2, 1) := by decide +kernel
theorem dX7_go_86 : decode cX7_go 86 = .ok (.ireturn, 1) := by decide +kernel
theorem dX7_firstError_0 : decode cX7_firstError 0 = .ok (.aload_n 0, 1) := by decide +kernel
theorem dX7_firstError_1 : decode cX7_firstError 1 = .ok (.iconst 0, 1) := by decide +kernel
theorem dX7_firstError_2 : decode cX7_firstError 2 = .ok (.putfield 25, 3) := by decide +kernel
theorem dX7_firstError_5 : decode cX7_firstError 5 = .ok (.aload_n 0, 1) := by decide +kernel
theorem dX7_firstError_6 : decode cX7_firstError 6 = .ok (.iconst 0, 1) := by decide +kernel
theorem dX7_firstError_7 : decode cX7_firstError 7 = .ok (.invokevirtual 115, 3) := by decide +kernel
theorem dX7_firstError_10 : decode cX7_firstError 10 = .ok (.istore_n 1, 1) := by decide +kernel
theorem dX7_firstError_11 : decode cX7_firstError 11 = .ok (.aload_n 0, 1) := by decide +kernel
theorem dX7_firstError_12 : decode cX7_firstError 12 = .ok (.getfield 100, 3) := by decide +kernel
theorem dX7_firstError_15 : decode cX7_firstError 15 = .ok (.ifCond .eq 10, 3) := by decide +kernel
theorem dX7_firstError_18 : decode cX7_firstError 18 = .ok (.aload_n 0, 1) := by decide +kernel
theorem dX7_firstError_19 : decode cX7_firstError 19 = .ok (.getfield 97, 3) := by decide +kernel
theorem dX7_firstError_22 : decode cX7_firstError 22 = .ok (.goto 7, 3) := by decide +kernel
theorem dX7_firstError_25 : decode cX7_firstError 25 = .ok (.aload_n 0, 1) := by decide +kernel
theorem dX7_firstError_26 : decode cX7_firstError 26 = .ok (.getfield 94, 3) := by decide +kernel
theorem dX7_firstError_29 : decode cX7_firstError 29 = .ok (.ireturn, 1) := by decide +kernel
theorem dX7_obey_0 : decode cX7_obey 0 = .ok (.aload_n 0, 1) := by decide +kernel
theorem dX7_obey_1 : decode cX7_obey 1 = .ok (.iconst 0, 1) := by decide +kernel
theorem dX7_obey_2 : decode cX7_obey 2 = .ok (.putfield 25, 3) := by decide +kernel
theorem dX7_obey_5 : decode cX7_obey 5 = .ok (.aload_n 0, 1) := by decide +kernel
theorem dX7_obey_6 : decode cX7_obey 6 = .ok (.iconst 0, 1) := by decide +kernel
theorem dX7_obey_7 : decode cX7_obey 7 = .ok (.invokevirtual 115, 3) := by decide +kernel
theorem dX7_obey_10 : decode cX7_obey 10 = .ok (.istore_n 1, 1) := by decide +kernel
theorem dX7_obey_11 : decode cX7_obey 11 = .ok (.aload_n 0, 1) := by decide +kernel
theorem dX7_obey_12 : decode cX7_obey 12 = .ok (.getfield 100, 3) := by decide +kernel
theorem dX7_obey_15 : decode cX7_obey 15 = .ok (.ifCond .eq 9, 3) := by decide +kernel
theorem dX7_obey_18 : decode cX7_obey 18 = .ok (.aload_n 0, 1) := by decide +kernel
theorem dX7_obey_19 : decode cX7_obey 19 = .ok (.iconst 1, 1) := by decide +kernel
theorem dX7_obey_20 : decode cX7_obey 20 = .ok (.invokevirtual 76, 3) := by decide +kernel
theorem dX7_obey_23 : decode cX7_obey 23 = .ok (.ireturn, 1) := by decide +kernel
theorem dX7_obey_24 : decode cX7_obey 24 = .ok (.aload_n 0, 1) := by decide +kernel
theorem dX7_obey_25 : decode cX7_obey 25 = .ok (.invokevirtual 79, 3) := by decide +kernel
theorem dX7_obey_28 : decode cX7_obey 28 = .ok (.aload_n 0, 1) := by decide +kernel
theorem dX7_obey_29 : decode cX7_obey 29 = .ok (.iconst 1, 1) := by decide +kernel
theorem dX7_obey_30 : decode cX7_obey 30 = .ok (.invokevirtual 115, 3) := by decide +kernel
theorem dX7_obey_33 : decode cX7_obey 33 = .ok (.istore_n 2, 1) := by decide +kernel
theorem dX7_obey_34 : decode cX7_obey 34 = .ok (.aload_n 0, 1) := by decide +kernel
theorem dX7_obey_35 : decode cX7_obey 35 = .ok (.iconst 0, 1) := by decide +kernel
theorem dX7_obey_36 : decode cX7_obey 36 = .ok (.putfield 94, 3) := by decide +kernel
theorem dX7_obey_39 : decode cX7_obey 39 = .ok (.iload_n 2, 1) := by decide +kernel
theorem dX7_obey_40 : decode cX7_obey 40 = .ok (.ireturn, 1) := by decide +kernel
theorem dX7_keep_0 : decode cX7_keep 0 = .ok (.aload_n 0, 1) := by decide +kernel
theorem dX7_keep_1 : decode cX7_keep 1 = .ok (.iconst 0, 1) := by decide +kernel
theorem dX7_keep_2 : decode cX7_keep 2 = .ok (.putfield 25, 3) := by decide +kernel
theorem dX7_keep_5 : decode cX7_keep 5 = .ok (.iconst 0, 1) := by decide +kernel
theorem dX7_keep_6 : decode cX7_keep 6 = .ok (.istore_n 1, 1) := by decide +kernel
theorem dX7_keep_7 : decode cX7_keep 7 = .ok (.iload_n 1, 1) := by decide +kernel
theorem dX7_keep_8 : decode cX7_keep 8 = .ok (.bipush 69, 2) := by decide +kernel
theorem dX7_keep_10 : decode cX7_keep 10 = .ok (.if_icmp .ge 21, 3) := by decide +kernel
theorem dX7_keep_13 : decode cX7_keep 13 = .ok (.aload_n 0, 1) := by decide +kernel
theorem dX7_keep_14 : decode cX7_keep 14 = .ok (.getfield 19, 3) := by decide +kernel
theorem dX7_keep_17 : decode cX7_keep 17 = .ok (.iload_n 1, 1) := by decide +kernel
theorem dX7_keep_18 : decode cX7_keep 18 = .ok (.aload_n 0, 1) := by decide +kernel
theorem dX7_keep_19 : decode cX7_keep 19 = .ok (.getfield 7, 3) := by decide +kernel
theorem dX7_keep_22 : decode cX7_keep 22 = .ok (.iload_n 1, 1) := by decide +kernel
theorem dX7_keep_23 : decode cX7_keep 23 = .ok (.iaload, 1) := by decide +kernel
theorem dX7_keep_24 : decode cX7_keep 24 = .ok (.iastore, 1) := by decide +kernel
theorem dX7_keep_25 : decode cX7_keep 25 = .ok (.iinc 1 1, 3) := by decide +kernel
theorem dX7_keep_28 : decode cX7_keep 28 = .ok (.goto (-21), 3) := by decide +kernel
theorem dX7_keep_31 : decode cX7_keep 31 = .ok (.aload_n 0, 1) := by decide +kernel
theorem dX7_keep_32 : decode cX7_keep 32 = .ok (.iconst 1, 1) := by decide +kernel
theorem dX7_keep_33 : decode cX7_keep 33 = .ok (.putfield 119, 3) := by decide +kernel
theorem dX7_keep_36 : decode cX7_keep 36 = .ok (.aload_n 0, 1) := by decide +kernel
theorem dX7_keep_37 : decode cX7_keep 37 = .ok (.getfield 7, 3) := by decide +kernel
theorem dX7_keep_40 : decode cX7_keep 40 = .ok (.iconst 1, 1) := by decide +kernel
theorem dX7_keep_41 : decode cX7_keep 41 = .ok (.iaload, 1) := by decide +kernel
theorem dX7_keep_42 : decode cX7_keep 42 = .ok (.ireturn, 1) := by decide +kernel
theorem dX7_goBack_0 : decode cX7_goBack 0 = .ok (.aload_n 0, 1) := by decide +kernel
theorem dX7_goBack_1 : decode cX7_goBack 1 = .ok (.iconst 0, 1) := by decide +kernel
theorem dX7_goBack_2 : decode cX7_goBack 2 = .ok (.putfield 25, 3) := by decide +kernel
theorem dX7_goBack_5 : decode cX7_goBack 5 = .ok (.aload_n 0, 1) := by decide +kernel
theorem dX7_goBack_6 : decode cX7_goBack 6 = .ok (.getfield 119, 3) := by decide +kernel
theorem dX7_goBack_9 : decode cX7_goBack 9 = .ok (.ifCond .ne 9, 3) := by decide +kernel
theorem dX7_goBack_12 : decode cX7_goBack 12 = .ok (.aload_n 0, 1) := by decide +kernel
theorem dX7_goBack_13 : decode cX7_goBack 13 = .ok (.iconst 1, 1) := by decide +kernel
theorem dX7_goBack_14 : decode cX7_goBack 14 = .ok (.invokevirtual 76, 3) := by decide +kernel
theorem dX7_goBack_17 : decode cX7_goBack 17 = .ok (.ireturn, 1) := by decide +kernel
theorem dX7_goBack_18 : decode cX7_goBack 18 = .ok (.aload_n 0, 1) := by decide +kernel
theorem dX7_goBack_19 : decode cX7_goBack 19 = .ok (.invokevirtual 79, 3) := by decide +kernel
theorem dX7_goBack_22 : decode cX7_goBack 22 = .ok (.iconst 0, 1) := by decide +kernel
theorem dX7_goBack_23 : decode cX7_goBack 23 = .ok (.istore_n 1, 1) := by decide +kernel
theorem dX7_goBack_24 : decode cX7_goBack 24 = .ok (.iload_n 1, 1) := by decide +kernel
theorem dX7_goBack_25 : decode cX7_goBack 25 = .ok (.bipush 69, 2) := by decide +kernel
theorem dX7_goBack_27 : decode cX7_goBack 27 = .ok (.if_icmp .ge 21, 3) := by decide +kernel
theorem dX7_goBack_30 : decode cX7_goBack 30 = .ok (.aload_n 0, 1) := by decide +kernel
theorem dX7_goBack_31 : decode cX7_goBack 31 = .ok (.getfield 7, 3) := by decide +kernel
theorem dX7_goBack_34 : decode cX7_goBack 34 = .ok (.iload_n 1, 1) := by decide +kernel
theorem dX7_goBack_35 : decode cX7_goBack 35 = .ok (.aload_n 0, 1) := by decide +kernel
theorem dX7_goBack_36 : decode cX7_goBack 36 = .ok (.getfield 19, 3) := by decide +kernel
theorem dX7_goBack_39 : decode cX7_goBack 39 = .ok (.iload_n 1, 1) := by decide +kernel
theorem dX7_goBack_40 : decode cX7_goBack 40 = .ok (.iaload, 1) := by decide +kernel
theorem dX7_goBack_41 : decode cX7_goBack 41 = .ok (.iastore, 1) := by decide +kernel
theorem dX7_goBack_42 : decode cX7_goBack 42 = .ok (.iinc 1 1, 3) := by decide +kernel
theorem dX7_goBack_45 : decode cX7_goBack 45 = .ok (.goto (-21), 3) := by decide +kernel
theorem dX7_goBack_48 : decode cX7_goBack 48 = .ok (.aload_n 0, 1) := by decide +kernel
theorem dX7_goBack_49 : decode cX7_goBack 49 = .ok (.getfield 7, 3) := by decide +kernel
theorem dX7_goBack_52 : decode cX7_goBack 52 = .ok (.iconst 1, 1) := by decide +kernel
theorem dX7_goBack_53 : decode cX7_goBack 53 = .ok (.iaload, 1) := by decide +kernel
theorem dX7_goBack_54 : decode cX7_goBack 54 = .ok (.ireturn, 1) := by decide +kernel
theorem dX7_undo_0 : decode cX7_undo 0 = .ok (.aload_n 0, 1) := by decide +kernel
theorem dX7_undo_1 : decode cX7_undo 1 = .ok (.iconst 0, 1) := by decide +kernel
theorem dX7_undo_2 : decode cX7_undo 2 = .ok (.putfield 25, 3) := by decide +kernel
theorem dX7_undo_5 : decode cX7_undo 5 = .ok (.aload_n 0, 1) := by decide +kernel
theorem dX7_undo_6 : decode cX7_undo 6 = .ok (.getfield 33, 3) := by decide +kernel
theorem dX7_undo_9 : decode cX7_undo 9 = .ok (.ifCond .ne 9, 3) := by decide +kernel
theorem dX7_undo_12 : decode cX7_undo 12 = .ok (.aload_n 0, 1) := by decide +kernel
theorem dX7_undo_13 : decode cX7_undo 13 = .ok (.iconst 1, 1) := by decide +kernel
theorem dX7_undo_14 : decode cX7_undo 14 = .ok (.invokevirtual 76, 3) := by decide +kernel
theorem dX7_undo_17 : decode cX7_undo 17 = .ok (.ireturn, 1) := by decide +kernel
theorem dX7_undo_18 : decode cX7_undo 18 = .ok (.aload_n 0, 1) := by decide +kernel
theorem dX7_undo_19 : decode cX7_undo 19 = .ok (.dup, 1) := by decide +kernel
theorem dX7_undo_20 : decode cX7_undo 20 = .ok (.getfield 33, 3) := by decide +kernel
theorem dX7_undo_23 : decode cX7_undo 23 = .ok (.iconst 1, 1) := by decide +kernel
theorem dX7_undo_24 : decode cX7_undo 24 = .ok (.isub, 1) := by decide +kernel
theorem dX7_undo_25 : decode cX7_undo 25 = .ok (.putfield 33, 3) := by decide +kernel
theorem dX7_undo_28 : decode cX7_undo 28 = .ok (.iconst 0, 1) := by decide +kernel
theorem dX7_undo_29 : decode cX7_undo 29 = .ok (.istore_n 1, 1) := by decide +kernel
theorem dX7_undo_30 : decode cX7_undo 30 = .ok (.iload_n 1, 1) := by decide +kernel
theorem dX7_undo_31 : decode cX7_undo 31 = .ok (.bipush 69, 2) := by decide +kernel
theorem dX7_undo_33 : decode cX7_undo 33 = .ok (.if_icmp .ge 29, 3) := by decide +kernel
theorem dX7_undo_36 : decode cX7_undo 36 = .ok (.aload_n 0, 1) := by decide +kernel
theorem dX7_undo_37 : decode cX7_undo 37 = .ok (.getfield 7, 3) := by decide +kernel
theorem dX7_undo_40 : decode cX7_undo 40 = .ok (.iload_n 1, 1) := by decide +kernel
theorem dX7_undo_41 : decode cX7_undo 41 = .ok (.aload_n 0, 1) := by decide +kernel
theorem dX7_undo_42 : decode cX7_undo 42 = .ok (.getfield 16, 3) := by decide +kernel
theorem dX7_undo_45 : decode cX7_undo 45 = .ok (.bipush 69, 2) := by decide +kernel
theorem dX7_undo_47 : decode cX7_undo 47 = .ok (.aload_n 0, 1) := by decide +kernel
theorem dX7_undo_48 : decode cX7_undo 48 = .ok (.getfield 33, 3) := by decide +kernel
theorem dX7_undo_51 : decode cX7_undo 51 = .ok (.imul, 1) := by decide +kernel
theorem dX7_undo_52 : decode cX7_undo 52 = .ok (.iload_n 1, 1) := by decide +kernel
theorem dX7_undo_53 : decode cX7_undo 53 = .ok (.iadd, 1) := by decide +kernel
theorem dX7_undo_54 : decode cX7_undo 54 = .ok (.iaload, 1) := by decide +kernel
theorem dX7_undo_55 : decode cX7_undo 55 = .ok (.iastore, 1) := by decide +kernel
theorem dX7_undo_56 : decode cX7_undo 56 = .ok (.iinc 1 1, 3) := by decide +kernel
theorem dX7_undo_59 : decode cX7_undo 59 = .ok (.goto (-29), 3) := by decide +kernel
theorem dX7_undo_62 : decode cX7_undo 62 = .ok (.aload_n 0, 1) := by decide +kernel
theorem dX7_undo_63 : decode cX7_undo 63 = .ok (.getfield 33, 3) := by decide +kernel
theorem dX7_undo_66 : decode cX7_undo 66 = .ok (.ireturn, 1) := by decide +kernel
theorem dX7_ofDial_0 : decode cX7_ofDial 0 = .ok (.iload_n 2, 1) := by decide +kernel
theorem dX7_ofDial_1 : decode cX7_ofDial 1 = .ok (.tableswitch 132 0 5 #[39, 49, 79, 89, 102, 112], 39) := by decide +kernel
theorem dX7_ofDial_40 : decode cX7_ofDial 40 = .ok (.aload_n 0, 1) := by decide +kernel
theorem dX7_ofDial_41 : decode cX7_ofDial 41 = .ok (.getfield 7, 3) := by decide +kernel
theorem dX7_ofDial_44 : decode cX7_ofDial 44 = .ok (.bipush 6, 2) := by decide +kernel
theorem dX7_ofDial_46 : decode cX7_ofDial 46 = .ok (.iload_n 1, 1) := by decide +kernel
theorem dX7_ofDial_47 : decode cX7_ofDial 47 = .ok (.iadd, 1) := by decide +kernel
theorem dX7_ofDial_48 : decode cX7_ofDial 48 = .ok (.iaload, 1) := by decide +kernel
theorem dX7_ofDial_49 : decode cX7_ofDial 49 = .ok (.ireturn, 1) := by decide +kernel
theorem dX7_ofDial_50 : decode cX7_ofDial 50 = .ok (.aload_n 0, 1) := by decide +kernel
theorem dX7_ofDial_51 : decode cX7_ofDial 51 = .ok (.getfield 7, 3) := by decide +kernel
theorem dX7_ofDial_54 : decode cX7_ofDial 54 = .ok (.bipush 27, 2) := by decide +kernel
theorem dX7_ofDial_56 : decode cX7_ofDial 56 = .ok (.iload_n 1, 1) := by decide +kernel
theorem dX7_ofDial_57 : decode cX7_ofDial 57 = .ok (.iadd, 1) := by decide +kernel
theorem dX7_ofDial_58 : decode cX7_ofDial 58 = .ok (.iaload, 1) := by decide +kernel
theorem dX7_ofDial_59 : decode cX7_ofDial 59 = .ok (.aload_n 0, 1) := by decide +kernel
theorem dX7_ofDial_60 : decode cX7_ofDial 60 = .ok (.getfield 7, 3) := by decide +kernel
theorem dX7_ofDial_63 : decode cX7_ofDial 63 = .ok (.bipush 34, 2) := by decide +kernel
theorem dX7_ofDial_65 : decode cX7_ofDial 65 = .ok (.iload_n 1, 1) := by decide +kernel
theorem dX7_ofDial_66 : decode cX7_ofDial 66 = .ok (.iadd, 1) := by decide +kernel
theorem dX7_ofDial_67 : decode cX7_ofDial 67 = .ok (.iaload, 1) := by decide +kernel
theorem dX7_ofDial_68 : decode cX7_ofDial 68 = .ok (.iadd, 1) := by decide +kernel
theorem dX7_ofDial_69 : decode cX7_ofDial 69 = .ok (.aload_n 0, 1) := by decide +kernel
theorem dX7_ofDial_70 : decode cX7_ofDial 70 = .ok (.getfield 7, 3) := by decide +kernel
theorem dX7_ofDial_73 : decode cX7_ofDial 73 = .ok (.bipush 41, 2) := by decide +kernel
theorem dX7_ofDial_75 : decode cX7_ofDial 75 = .ok (.iload_n 1, 1) := by decide +kernel
theorem dX7_ofDial_76 : decode cX7_ofDial 76 = .ok (.iadd, 1) := by decide +kernel
theorem dX7_ofDial_77 : decode cX7_ofDial 77 = .ok (.iaload, 1) := by decide +kernel
theorem dX7_ofDial_78 : decode cX7_ofDial 78 = .ok (.isub, 1) := by decide +kernel
theorem dX7_ofDial_79 : decode cX7_ofDial 79 = .ok (.ireturn, 1) := by decide +kernel
theorem dX7_ofDial_80 : decode cX7_ofDial 80 = .ok (.aload_n 0, 1) := by decide +kernel
theorem dX7_ofDial_81 : decode cX7_ofDial 81 = .ok (.getfield 7, 3) := by decide +kernel
theorem dX7_ofDial_84 : decode cX7_ofDial 84 = .ok (.bipush 13, 2) := by decide +kernel
theorem dX7_ofDial_86 : decode cX7_ofDial 86 = .ok (.iload_n 1, 1) := by decide +kernel
theorem dX7_ofDial_87 : decode cX7_ofDial 87 = .ok (.iadd, 1) := by decide +kernel
theorem dX7_ofDial_88 : decode cX7_ofDial 88 = .ok (.iaload, 1) := by decide +kernel
theorem dX7_ofDial_89 : decode cX7_ofDial 89 = .ok (.ireturn, 1) := by decide +kernel
theorem dX7_ofDial_90 : decode cX7_ofDial 90 = .ok (.aload_n 0, 1) := by decide +kernel
theorem dX7_ofDial_91 : decode cX7_ofDial 91 = .ok (.getfield 7, 3) := by decide +kernel
theorem dX7_ofDial_94 : decode cX7_ofDial 94 = .ok (.bipush 6, 2) := by decide +kernel
theorem dX7_ofDial_96 : decode cX7_ofDial 96 = .ok (.iload_n 1, 1) := by decide +kernel
theorem dX7_ofDial_97 : decode cX7_ofDial 97 = .ok (.iadd, 1) := by decide +kernel
theorem dX7_ofDial_98 : decode cX7_ofDial 98 = .ok (.iaload, 1) := by decide +kernel
theorem dX7_ofDial_99 : decode cX7_ofDial 99 = .ok (.bipush 60, 2) := by decide +kernel
theorem dX7_ofDial_101 : decode cX7_ofDial 101 = .ok (.idiv, 1) := by decide +kernel
theorem dX7_ofDial_102 : decode cX7_ofDial 102 = .ok (.ireturn, 1) := by decide +kernel
theorem dX7_ofDial_103 : decode cX7_ofDial 103 = .ok (.aload_n 0, 1) := by decide +kernel
theorem dX7_ofDial_104 : decode cX7_ofDial 104 = .ok (.getfield 7, 3) := by decide +kernel
theorem dX7_ofDial_107 : decode cX7_ofDial 107 = .ok (.bipush 20, 2) := by decide +kernel
theorem dX7_ofDial_109 : decode cX7_ofDial 109 = .ok (.iload_n 1, 1) := by decide +kernel
theorem dX7_ofDial_110 : decode cX7_ofDial 110 = .ok (.iadd, 1) := by decide +kernel
theorem dX7_ofDial_111 : decode cX7_ofDial 111 = .ok (.iaload, 1) := by decide +kernel
theorem dX7_ofDial_112 : decode cX7_ofDial 112 = .ok (.ireturn, 1) := by decide +kernel
theorem dX7_ofDial_113 : decode cX7_ofDial 113 = .ok (.aload_n 0, 1) := by decide +kernel
theorem dX7_ofDial_114 : decode cX7_ofDial 114 = .ok (.getfield 7, 3) := by decide +kernel
theorem dX7_ofDial_117 : decode cX7_ofDial 117 = .ok (.bipush 6, 2) := by decide +kernel
theorem dX7_ofDial_119 : decode cX7_ofDial 119 = .ok (.iload_n 1, 1) := by decide +kernel
theorem dX7_ofDial_120 : decode cX7_ofDial 120 = .ok (.iadd, 1) := by decide +kernel
theorem dX7_ofDial_121 : decode cX7_ofDial 121 = .ok (.iaload, 1) := by decide +kernel
theorem dX7_ofDial_122 : decode cX7_ofDial 122 = .ok (.aload_n 0, 1) := by decide +kernel
theorem dX7_ofDial_123 : decode cX7_ofDial 123 = .ok (.getfield 7, 3) := by decide +kernel
theorem dX7_ofDial_126 : decode cX7_ofDial 126 = .ok (.iconst 0, 1) := by decide +kernel
theorem dX7_ofDial_127 : decode cX7_ofDial 127 = .ok (.iaload, 1) := by decide +kernel
theorem dX7_ofDial_128 : decode cX7_ofDial 128 = .ok (.isub, 1) := by decide +kernel
theorem dX7_ofDial_129 : decode cX7_ofDial 129 = .ok (.invokestatic 49, 3) := by decide +kernel
theorem dX7_ofDial_132 : decode cX7_ofDial 132 = .ok (.ireturn, 1) := by decide +kernel
theorem dX7_ofDial_133 : decode cX7_ofDial 133 = .ok (.aload_n 0, 1) := by decide +kernel
theorem dX7_ofDial_134 : decode cX7_ofDial 134 = .ok (.iload_n 1, 1) := by decide +kernel
theorem dX7_ofDial_135 : decode cX7_ofDial 135 = .ok (.invokevirtual 45, 3) := by decide +kernel
theorem dX7_ofDial_138 : decode cX7_ofDial 138 = .ok (.aload_n 0, 1) := by decide +kernel
theorem dX7_ofDial_139 : decode cX7_ofDial 139 = .ok (.getfield 7, 3) := by decide +kernel
theorem dX7_ofDial_142 : decode cX7_ofDial 142 = .ok (.bipush 6, 2) := by decide +kernel
theorem dX7_ofDial_144 : decode cX7_ofDial 144 = .ok (.iload_n 1, 1) := by decide +kernel
theorem dX7_ofDial_145 : decode cX7_ofDial 145 = .ok (.iadd, 1) := by decide +kernel
theorem dX7_ofDial_146 : decode cX7_ofDial 146 = .ok (.iaload, 1) := by decide +kernel
theorem dX7_ofDial_147 : decode cX7_ofDial 147 = .ok (.if_icmp .ne 7, 3) := by decide +kernel
theorem dX7_ofDial_150 : decode cX7_ofDial 150 = .ok (.iconst 0, 1) := by decide +kernel
theorem dX7_ofDial_151 : decode cX7_ofDial 151 = .ok (.goto 4, 3) := by decide +kernel
theorem dX7_ofDial_154 : decode cX7_ofDial 154 = .ok (.iconst 1, 1) := by decide +kernel
theorem dX7_ofDial_155 : decode cX7_ofDial 155 = .ok (.ireturn, 1) := by decide +kernel
theorem dX7_dial_0 : decode cX7_dial 0 = .ok (.aload_n 0, 1) := by decide +kernel
theorem dX7_dial_1 : decode cX7_dial 1 = .ok (.iconst 0, 1) := by decide +kernel
theorem dX7_dial_2 : decode cX7_dial 2 = .ok (.putfield 25, 3) := by decide +kernel
theorem dX7_dial_5 : decode cX7_dial 5 = .ok (.iload_n 1, 1) := by decide +kernel
theorem dX7_dial_6 : decode cX7_dial 6 = .ok (.invokestatic 91, 3) := by decide +kernel
theorem dX7_dial_9 : decode cX7_dial 9 = .ok (.ifCond .ne 11, 3) := by decide +kernel
theorem dX7_dial_12 : decode cX7_dial 12 = .ok (.aload_n 0, 1) := by decide +kernel
theorem dX7_dial_13 : decode cX7_dial 13 = .ok (.iconst 1, 1) := by decide +kernel
theorem dX7_dial_14 : decode cX7_dial 14 = .ok (.invokevirtual 76, 3) := by decide +kernel
theorem dX7_dial_17 : decode cX7_dial 17 = .ok (.goto 27, 3) := by decide +kernel
theorem dX7_dial_20 : decode cX7_dial 20 = .ok (.iload_n 2, 1) := by decide +kernel
theorem dX7_dial_21 : decode cX7_dial 21 = .ok (.iconst 0, 1) := by decide +kernel
theorem dX7_dial_22 : decode cX7_dial 22 = .ok (.bipush 6, 2) := by decide +kernel
theorem dX7_dial_24 : decode cX7_dial 24 = .ok (.invokestatic 29, 3) := by decide +kernel
theorem dX7_dial_27 : decode cX7_dial 27 = .ok (.ifCond .eq 12, 3) := by decide +kernel
theorem dX7_dial_30 : decode cX7_dial 30 = .ok (.aload_n 0, 1) := by decide +kernel
theorem dX7_dial_31 : decode cX7_dial 31 = .ok (.iload_n 1, 1) := by decide +kernel
theorem dX7_dial_32 : decode cX7_dial 32 = .ok (.iload_n 2, 1) := by decide +kernel
theorem dX7_dial_33 : decode cX7_dial 33 = .ok (.invokevirtual 122, 3) := by decide +kernel
theorem dX7_dial_36 : decode cX7_dial 36 = .ok (.goto 8, 3) := by decide +kernel
theorem dX7_dial_39 : decode cX7_dial 39 = .ok (.aload_n 0, 1) := by decide +kernel
theorem dX7_dial_40 : decode cX7_dial 40 = .ok (.iconst 2, 1) := by decide +kernel
theorem dX7_dial_41 : decode cX7_dial 41 = .ok (.invokevirtual 76, 3) := by decide +kernel
theorem dX7_dial_44 : decode cX7_dial 44 = .ok (.ireturn, 1) := by decide +kernel
theorem dX7_placeOf_0 : decode cX7_placeOf 0 = .ok (.iconst 0, 1) := by decide +kernel
theorem dX7_placeOf_1 : decode cX7_placeOf 1 = .ok (.istore_n 2, 1) := by decide +kernel
theorem dX7_placeOf_2 : decode cX7_placeOf 2 = .ok (.iconst 0, 1) := by decide +kernel
theorem dX7_placeOf_3 : decode cX7_placeOf 3 = .ok (.istore_n 3, 1) := by decide +kernel
theorem dX7_placeOf_4 : decode cX7_placeOf 4 = .ok (.iload_n 3, 1) := by decide +kernel
theorem dX7_placeOf_5 : decode cX7_placeOf 5 = .ok (.bipush 7, 2) := by decide +kernel
theorem dX7_placeOf_7 : decode cX7_placeOf 7 = .ok (.if_icmp .ge 48, 3) := by decide +kernel
theorem dX7_placeOf_10 : decode cX7_placeOf 10 = .ok (.iload_n 2, 1) := by decide +kernel
theorem dX7_placeOf_11 : decode cX7_placeOf 11 = .ok (.aload_n 0, 1) := by decide +kernel
theorem dX7_placeOf_12 : decode cX7_placeOf 12 = .ok (.iload_n 3, 1) := by decide +kernel
theorem dX7_placeOf_13 : decode cX7_placeOf 13 = .ok (.invokevirtual 56, 3) := by decide +kernel
theorem dX7_placeOf_16 : decode cX7_placeOf 16 = .ok (.aload_n 0, 1) := by decide +kernel
theorem dX7_placeOf_17 : decode cX7_placeOf 17 = .ok (.iload_n 1, 1) := by decide +kernel
theorem dX7_placeOf_18 : decode cX7_placeOf 18 = .ok (.invokevirtual 56, 3) := by decide +kernel
theorem dX7_placeOf_21 : decode cX7_placeOf 21 = .ok (.if_icmp .lt 21, 3) := by decide +kernel
theorem dX7_placeOf_24 : decode cX7_placeOf 24 = .ok (.aload_n 0, 1) := by decide +kernel
theorem dX7_placeOf_25 : decode cX7_placeOf 25 = .ok (.iload_n 3, 1) := by decide +kernel
theorem dX7_placeOf_26 : decode cX7_placeOf 26 = .ok (.invokevirtual 56, 3) := by decide +kernel
theorem dX7_placeOf_29 : decode cX7_placeOf 29 = .ok (.aload_n 0, 1) := by decide +kernel
theorem dX7_placeOf_30 : decode cX7_placeOf 30 = .ok (.iload_n 1, 1) := by decide +kernel
theorem dX7_placeOf_31 : decode cX7_placeOf 31 = .ok (.invokevirtual 56, 3) := by decide +kernel
theorem dX7_placeOf_34 : decode cX7_placeOf 34 = .ok (.if_icmp .ne 12, 3) := by decide +kernel
theorem dX7_placeOf_37 : decode cX7_placeOf 37 = .ok (.iload_n 3, 1) := by decide +kernel
theorem dX7_placeOf_38 : decode cX7_placeOf 38 = .ok (.iload_n 1, 1) := by decide +kernel
theorem dX7_placeOf_39 : decode cX7_placeOf 39 = .ok (.if_icmp .ge 7, 3) := by decide +kernel
theorem dX7_placeOf_42 : decode cX7_placeOf 42 = .ok (.iconst 1, 1) := by decide +kernel
theorem dX7_placeOf_43 : decode cX7_placeOf 43 = .ok (.goto 4, 3) := by decide +kernel
theorem dX7_placeOf_46 : decode cX7_placeOf 46 = .ok (.iconst 0, 1) := by decide +kernel
theorem dX7_placeOf_47 : decode cX7_placeOf 47 = .ok (.iadd, 1) := by decide +kernel
theorem dX7_placeOf_48 : decode cX7_placeOf 48 = .ok (.istore_n 2, 1) := by decide +kernel
theorem dX7_placeOf_49 : decode cX7_placeOf 49 = .ok (.iinc 3 1, 3) := by decide +kernel
theorem dX7_placeOf_52 : decode cX7_placeOf 52 = .ok (.goto (-48), 3) := by decide +kernel
theorem dX7_placeOf_55 : decode cX7_placeOf 55 = .ok (.iload_n 2, 1) := by decide +kernel
theorem dX7_placeOf_56 : decode cX7_placeOf 56 = .ok (.ireturn, 1) := by decide +kernel
theorem dX7_ofWarden_0 : decode cX7_ofWarden 0 = .ok (.iload_n 2, 1) := by decide +kernel
theorem dX7_ofWarden_1 : decode cX7_ofWarden 1 = .ok (.tableswitch 77 0 4 #[35, 45, 55, 61, 71], 35) := by decide +kernel
theorem dX7_ofWarden_36 : decode cX7_ofWarden 36 = .ok (.aload_n 0, 1) := by decide +kernel
theorem dX7_ofWarden_37 : decode cX7_ofWarden 37 = .ok (.getfield 7, 3) := by decide +kernel
theorem dX7_ofWarden_40 : decode cX7_ofWarden 40 = .ok (.bipush 48, 2) := by decide +kernel
theorem dX7_ofWarden_42 : decode cX7_ofWarden 42 = .ok (.iload_n 1, 1) := by decide +kernel
theorem dX7_ofWarden_43 : decode cX7_ofWarden 43 = .ok (.iadd, 1) := by decide +kernel
theorem dX7_ofWarden_44 : decode cX7_ofWarden 44 = .ok (.iaload, 1) := by decide +kernel
theorem dX7_ofWarden_45 : decode cX7_ofWarden 45 = .ok (.ireturn, 1) := by decide +kernel
theorem dX7_ofWarden_46 : decode cX7_ofWarden 46 = .ok (.aload_n 0, 1) := by decide +kernel
theorem dX7_ofWarden_47 : decode cX7_ofWarden 47 = .ok (.getfield 7, 3) := by decide +kernel
theorem dX7_ofWarden_50 : decode cX7_ofWarden 50 = .ok (.bipush 55, 2) := by decide +kernel
theorem dX7_ofWarden_52 : decode cX7_ofWarden 52 = .ok (.iload_n 1, 1) := by decide +kernel
theorem dX7_ofWarden_53 : decode cX7_ofWarden 53 = .ok (.iadd, 1) := by decide +kernel
theorem dX7_ofWarden_54 : decode cX7_ofWarden 54 = .ok (.iaload, 1) := by decide +kernel
theorem dX7_ofWarden_55 : decode cX7_ofWarden 55 = .ok (.ireturn, 1) := by decide +kernel
theorem dX7_ofWarden_56 : decode cX7_ofWarden 56 = .ok (.aload_n 0, 1) := by decide +kernel
theorem dX7_ofWarden_57 : decode cX7_ofWarden 57 = .ok (.iload_n 1, 1) := by decide +kernel
theorem dX7_ofWarden_58 : decode cX7_ofWarden 58 = .ok (.invokevirtual 56, 3) := by decide +kernel
theorem dX7_ofWarden_61 : decode cX7_ofWarden 61 = .ok (.ireturn, 1) := by decide +kernel
theorem dX7_ofWarden_62 : decode cX7_ofWarden 62 = .ok (.aload_n 0, 1) := by decide +kernel
theorem dX7_ofWarden_63 : decode cX7_ofWarden 63 = .ok (.getfield 7, 3) := by decide +kernel
theorem dX7_ofWarden_66 : decode cX7_ofWarden 66 = .ok (.bipush 62, 2) := by decide +kernel
theorem dX7_ofWarden_68 : decode cX7_ofWarden 68 = .ok (.iload_n 1, 1) := by decide +kernel
theorem dX7_ofWarden_69 : decode cX7_ofWarden 69 = .ok (.iadd, 1) := by decide +kernel
theorem dX7_ofWarden_70 : decode cX7_ofWarden 70 = .ok (.iaload, 1) := by decide +kernel
theorem dX7_ofWarden_71 : decode cX7_ofWarden 71 = .ok (.ireturn, 1) := by decide +kernel
theorem dX7_ofWarden_72 : decode cX7_ofWarden 72 = .ok (.aload_n 0, 1) := by decide +kernel
theorem dX7_ofWarden_73 : decode cX7_ofWarden 73 = .ok (.iload_n 1, 1) := by decide +kernel
theorem dX7_ofWarden_74 : decode cX7_ofWarden 74 = .ok (.invokevirtual 125, 3) := by decide +kernel
theorem dX7_ofWarden_77 : decode cX7_ofWarden 77 = .ok (.ireturn, 1) := by decide +kernel
theorem dX7_ofWarden_78 : decode cX7_ofWarden 78 = .ok (.aload_n 0, 1) := by decide +kernel
theorem dX7_ofWarden_79 : decode cX7_ofWarden 79 = .ok (.iload_n 1, 1) := by decide +kernel
theorem dX7_ofWarden_80 : decode cX7_ofWarden 80 = .ok (.invokevirtual 65, 3) := by decide +kernel
theorem dX7_ofWarden_83 : decode cX7_ofWarden 83 = .ok (.ifCond .eq 7, 3) := by decide +kernel
theorem dX7_ofWarden_86 : decode cX7_ofWarden 86 = .ok (.iconst 1, 1) := by decide +kernel
theorem dX7_ofWarden_87 : decode cX7_ofWarden 87 = .ok (.goto 4, 3) := by decide +kernel
theorem dX7_ofWarden_90 : decode cX7_ofWarden 90 = .ok (.iconst 0, 1) := by decide +kernel
theorem dX7_ofWarden_91 : decode cX7_ofWarden 91 = .ok (.aload_n 0, 1) := by decide +kernel
theorem dX7_ofWarden_92 : decode cX7_ofWarden 92 = .ok (.iload_n 1, 1) := by decide +kernel
theorem dX7_ofWarden_93 : decode cX7_ofWarden 93 = .ok (.bipush 7, 2) := by decide +kernel
theorem dX7_ofWarden_95 : decode cX7_ofWarden 95 = .ok (.iadd, 1) := by decide +kernel
theorem dX7_ofWarden_96 : decode cX7_ofWarden 96 = .ok (.iconst 1, 1) := by decide +kernel
theorem dX7_ofWarden_97 : decode cX7_ofWarden 97 = .ok (.isub, 1) := by decide +kernel
theorem dX7_ofWarden_98 : decode cX7_ofWarden 98 = .ok (.bipush 7, 2) := by decide +kernel
theorem dX7_ofWarden_100 : decode cX7_ofWarden 100 = .ok (.irem, 1) := by decide +kernel
theorem dX7_ofWarden_101 : decode cX7_ofWarden 101 = .ok (.invokevirtual 65, 3) := by decide +kernel
theorem dX7_ofWarden_104 : decode cX7_ofWarden 104 = .ok (.ifCond .eq 7, 3) := by decide +kernel
theorem dX7_ofWarden_107 : decode cX7_ofWarden 107 = .ok (.iconst 1, 1) := by decide +kernel
theorem dX7_ofWarden_108 : decode cX7_ofWarden 108 = .ok (.goto 4, 3) := by decide +kernel
theorem dX7_ofWarden_111 : decode cX7_ofWarden 111 = .ok (.iconst 0, 1) := by decide +kernel
theorem dX7_ofWarden_112 : decode cX7_ofWarden 112 = .ok (.iadd, 1) := by decide +kernel
theorem dX7_ofWarden_113 : decode cX7_ofWarden 113 = .ok (.ireturn, 1) := by decide +kernel
theorem dX7_says_0 : decode cX7_says 0 = .ok (.aload_n 0, 1) := by decide +kernel
theorem dX7_says_1 : decode cX7_says 1 = .ok (.iconst 0, 1) := by decide +kernel
theorem dX7_says_2 : decode cX7_says 2 = .ok (.putfield 25, 3) := by decide +kernel
theorem dX7_says_5 : decode cX7_says 5 = .ok (.iload_n 1, 1) := by decide +kernel
theorem dX7_says_6 : decode cX7_says 6 = .ok (.invokestatic 91, 3) := by decide +kernel
theorem dX7_says_9 : decode cX7_says 9 = .ok (.ifCond .ne 11, 3) := by decide +kernel
theorem dX7_says_12 : decode cX7_says 12 = .ok (.aload_n 0, 1) := by decide +kernel
theorem dX7_says_13 : decode cX7_says 13 = .ok (.iconst 1, 1) := by decide +kernel
theorem dX7_says_14 : decode cX7_says 14 = .ok (.invokevirtual 76, 3) := by decide +kernel
theorem dX7_says_17 : decode cX7_says 17 = .ok (.goto 26, 3) := by decide +kernel
theorem dX7_says_20 : decode cX7_says 20 = .ok (.iload_n 2, 1) := by decide +kernel
theorem dX7_says_21 : decode cX7_says 21 = .ok (.iconst 0, 1) := by decide +kernel
theorem dX7_says_22 : decode cX7_says 22 = .ok (.iconst 5, 1) := by decide +kernel
theorem dX7_says_23 : decode cX7_says 23 = .ok (.invokestatic 29, 3) := by decide +kernel
theorem dX7_says_26 : decode cX7_says 26 = .ok (.ifCond .eq 12, 3) := by decide +kernel
theorem dX7_says_29 : decode cX7_says 29 = .ok (.aload_n 0, 1) := by decide +kernel
theorem dX7_says_30 : decode cX7_says 30 = .ok (.iload_n 1, 1) := by decide +kernel
theorem dX7_says_31 : decode cX7_says 31 = .ok (.iload_n 2, 1) := by decide +kernel
theorem dX7_says_32 : decode cX7_says 32 = .ok (.invokevirtual 128, 3) := by decide +kernel
theorem dX7_says_35 : decode cX7_says 35 = .ok (.goto 8, 3) := by decide +kernel
theorem dX7_says_38 : decode cX7_says 38 = .ok (.aload_n 0, 1) := by decide +kernel
theorem dX7_says_39 : decode cX7_says 39 = .ok (.iconst 2, 1) := by decide +kernel
theorem dX7_says_40 : decode cX7_says 40 = .ok (.invokevirtual 76, 3) := by decide +kernel
theorem dX7_says_43 : decode cX7_says 43 = .ok (.ireturn, 1) := by decide +kernel
theorem dX7_all_0 : decode cX7_all 0 = .ok (.iconst 0, 1) := by decide +kernel
theorem dX7_all_1 : decode cX7_all 1 = .ok (.istore_n 2, 1) := by decide +kernel
theorem dX7_all_2 : decode cX7_all 2 = .ok (.iconst 0, 1) := by decide +kernel
theorem dX7_all_3 : decode cX7_all 3 = .ok (.istore_n 3, 1) := by decide +kernel
theorem dX7_all_4 : decode cX7_all 4 = .ok (.iload_n 3, 1) := by decide +kernel
theorem dX7_all_5 : decode cX7_all 5 = .ok (.bipush 7, 2) := by decide +kernel
theorem dX7_all_7 : decode cX7_all 7 = .ok (.if_icmp .ge 20, 3) := by decide +kernel
theorem dX7_all_10 : decode cX7_all 10 = .ok (.iload_n 2, 1) := by decide +kernel
theorem dX7_all_11 : decode cX7_all 11 = .ok (.aload_n 0, 1) := by decide +kernel
theorem dX7_all_12 : decode cX7_all 12 = .ok (.getfield 7, 3) := by decide +kernel
theorem dX7_all_15 : decode cX7_all 15 = .ok (.iload_n 1, 1) := by decide +kernel
theorem dX7_all_16 : decode cX7_all 16 = .ok (.iload_n 3, 1) := by decide +kernel
theorem dX7_all_17 : decode cX7_all 17 = .ok (.iadd, 1) := by decide +kernel
theorem dX7_all_18 : decode cX7_all 18 = .ok (.iaload, 1) := by decide +kernel
theorem dX7_all_19 : decode cX7_all 19 = .ok (.iadd, 1) := by decide +kernel
theorem dX7_all_20 : decode cX7_all 20 = .ok (.istore_n 2, 1) := by decide +kernel
theorem dX7_all_21 : decode cX7_all 21 = .ok (.iinc 3 1, 3) := by decide +kernel
theorem dX7_all_24 : decode cX7_all 24 = .ok (.goto (-20), 3) := by decide +kernel
theorem dX7_all_27 : decode cX7_all 27 = .ok (.iload_n 2, 1) := by decide +kernel
theorem dX7_all_28 : decode cX7_all 28 = .ok (.ireturn, 1) := by decide +kernel
theorem dX7_number_0 : decode cX7_number 0 = .ok (.iload_n 1, 1) := by decide +kernel
theorem dX7_number_1 : decode cX7_number 1 = .ok (.tableswitch 153 0 12 #[67, 74, 81, 81, 86, 91, 96, 103, 110, 117, 124, 131, 136], 67) := by decide +kernel
theorem dX7_number_68 : decode cX7_number 68 = .ok (.aload_n 0, 1) := by decide +kernel
theorem dX7_number_69 : decode cX7_number 69 = .ok (.getfield 7, 3) := by decide +kernel
theorem dX7_number_72 : decode cX7_number 72 = .ok (.iconst 0, 1) := by decide +kernel
theorem dX7_number_73 : decode cX7_number 73 = .ok (.iaload, 1) := by decide +kernel
theorem dX7_number_74 : decode cX7_number 74 = .ok (.ireturn, 1) := by decide +kernel
theorem dX7_number_75 : decode cX7_number 75 = .ok (.aload_n 0, 1) := by decide +kernel
theorem dX7_number_76 : decode cX7_number 76 = .ok (.getfield 7, 3) := by decide +kernel
theorem dX7_number_79 : decode cX7_number 79 = .ok (.iconst 1, 1) := by decide +kernel
theorem dX7_number_80 : decode cX7_number 80 = .ok (.iaload, 1) := by decide +kernel
theorem dX7_number_81 : decode cX7_number 81 = .ok (.ireturn, 1) := by decide +kernel
theorem dX7_number_82 : decode cX7_number 82 = .ok (.aload_n 0, 1) := by decide +kernel
theorem dX7_number_83 : decode cX7_number 83 = .ok (.invokevirtual 69, 3) := by decide +kernel
theorem dX7_number_86 : decode cX7_number 86 = .ok (.ireturn, 1) := by decide +kernel
theorem dX7_number_87 : decode cX7_number 87 = .ok (.aload_n 0, 1) := by decide +kernel
theorem dX7_number_88 : decode cX7_number 88 = .ok (.invokevirtual 59, 3) := by decide +kernel
theorem dX7_number_91 : decode cX7_number 91 = .ok (.ireturn, 1) := by decide +kernel
theorem dX7_number_92 : decode cX7_number 92 = .ok (.aload_n 0, 1) := by decide +kernel
theorem dX7_number_93 : decode cX7_number 93 = .ok (.invokevirtual 131, 3) := by decide +kernel
theorem dX7_number_96 : decode cX7_number 96 = .ok (.ireturn, 1) := by decide +kernel
theorem dX7_number_97 : decode cX7_number 97 = .ok (.aload_n 0, 1) := by decide +kernel
theorem dX7_number_98 : decode cX7_number 98 = .ok (.getfield 7, 3) := by decide +kernel
theorem dX7_number_101 : decode cX7_number 101 = .ok (.iconst 4, 1) := by decide +kernel
theorem dX7_number_102 : decode cX7_number 102 = .ok (.iaload, 1) := by decide +kernel
theorem dX7_number_103 : decode cX7_number 103 = .ok (.ireturn, 1) := by decide +kernel
theorem dX7_number_104 : decode cX7_number 104 = .ok (.aload_n 0, 1) := by decide +kernel
theorem dX7_number_105 : decode cX7_number 105 = .ok (.getfield 7, 3) := by decide +kernel
theorem dX7_number_108 : decode cX7_number 108 = .ok (.iconst 5, 1) := by decide +kernel
theorem dX7_number_109 : decode cX7_number 109 = .ok (.iaload, 1) := by decide +kernel
theorem dX7_number_110 : decode cX7_number 110 = .ok (.ireturn, 1) := by decide +kernel
theorem dX7_number_111 : decode cX7_number 111 = .ok (.aload_n 0, 1) := by decide +kernel
theorem dX7_number_112 : decode cX7_number 112 = .ok (.bipush 20, 2) := by decide +kernel
theorem dX7_number_114 : decode cX7_number 114 = .ok (.invokevirtual 134, 3) := by decide +kernel
theorem dX7_number_117 : decode cX7_number 117 = .ok (.ireturn, 1) := by decide +kernel
theorem dX7_number_118 : decode cX7_number 118 = .ok (.aload_n 0, 1) := by decide +kernel
theorem dX7_number_119 : decode cX7_number 119 = .ok (.bipush 34, 2) := by decide +kernel
theorem dX7_number_121 : decode cX7_number 121 = .ok (.invokevirtual 134, 3) := by decide +kernel
theorem dX7_number_124 : decode cX7_number 124 = .ok (.ireturn, 1) := by decide +kernel
theorem dX7_number_125 : decode cX7_number 125 = .ok (.aload_n 0, 1) := by decide +kernel
theorem dX7_number_126 : decode cX7_number 126 = .ok (.bipush 41, 2) := by decide +kernel
theorem dX7_number_128 : decode cX7_number 128 = .ok (.invokevirtual 134, 3) := by decide +kernel
theorem dX7_number_131 : decode cX7_number 131 = .ok (.ireturn, 1) := by decide +kernel
theorem dX7_number_132 : decode cX7_number 132 = .ok (.aload_n 0, 1) := by decide +kernel
theorem dX7_number_133 : decode cX7_number 133 = .ok (.invokevirtual 137, 3) := by decide +kernel
theorem dX7_number_136 : decode cX7_number 136 = .ok (.ireturn, 1) := by decide +kernel
theorem dX7_number_137 : decode cX7_number 137 = .ok (.aload_n 0, 1) := by decide +kernel
theorem dX7_number_138 : decode cX7_number 138 = .ok (.getfield 7, 3) := by decide +kernel
theorem dX7_number_141 : decode cX7_number 141 = .ok (.iconst 1, 1) := by decide +kernel
theorem dX7_number_142 : decode cX7_number 142 = .ok (.iaload, 1) := by decide +kernel
theorem dX7_number_143 : decode cX7_number 143 = .ok (.aload_n 0, 1) := by decide +kernel
theorem dX7_number_144 : decode cX7_number 144 = .ok (.getfield 7, 3) := by decide +kernel
theorem dX7_number_147 : decode cX7_number 147 = .ok (.iconst 0, 1) := by decide +kernel
theorem dX7_number_148 : decode cX7_number 148 = .ok (.iaload, 1) := by decide +kernel
theorem dX7_number_149 : decode cX7_number 149 = .ok (.isub, 1) := by decide +kernel
theorem dX7_number_150 : decode cX7_number 150 = .ok (.invokestatic 49, 3) := by decide +kernel
theorem dX7_number_153 : decode cX7_number 153 = .ok (.ireturn, 1) := by decide +kernel
theorem dX7_number_154 : decode cX7_number 154 = .ok (.aload_n 0, 1) := by decide +kernel
theorem dX7_number_155 : decode cX7_number 155 = .ok (.getfield 33, 3) := by decide +kernel
theorem dX7_number_158 : decode cX7_number 158 = .ok (.ireturn, 1) := by decide +kernel
theorem dX7_count_0 : decode cX7_count 0 = .ok (.aload_n 0, 1) := by decide +kernel
theorem dX7_count_1 : decode cX7_count 1 = .ok (.iconst 0, 1) := by decide +kernel
theorem dX7_count_2 : decode cX7_count 2 = .ok (.putfield 25, 3) := by decide +kernel
theorem dX7_count_5 : decode cX7_count 5 = .ok (.iload_n 1, 1) := by decide +kernel
theorem dX7_count_6 : decode cX7_count 6 = .ok (.iconst 0, 1) := by decide +kernel
theorem dX7_count_7 : decode cX7_count 7 = .ok (.bipush 13, 2) := by decide +kernel
theorem dX7_count_9 : decode cX7_count 9 = .ok (.invokestatic 29, 3) := by decide +kernel
theorem dX7_count_12 : decode cX7_count 12 = .ok (.ifCond .eq 11, 3) := by decide +kernel
theorem dX7_count_15 : decode cX7_count 15 = .ok (.aload_n 0, 1) := by decide +kernel
theorem dX7_count_16 : decode cX7_count 16 = .ok (.iload_n 1, 1) := by decide +kernel
theorem dX7_count_17 : decode cX7_count 17 = .ok (.invokevirtual 140, 3) := by decide +kernel
theorem dX7_count_20 : decode cX7_count 20 = .ok (.goto 8, 3) := by decide +kernel
theorem dX7_count_23 : decode cX7_count 23 = .ok (.aload_n 0, 1) := by decide +kernel
theorem dX7_count_24 : decode cX7_count 24 = .ok (.iconst 1, 1) := by decide +kernel
theorem dX7_count_25 : decode cX7_count 25 = .ok (.invokevirtual 76, 3) := by decide +kernel
theorem dX7_count_28 : decode cX7_count 28 = .ok (.ireturn, 1) := by decide +kernel
theorem dX7_setting_0 : decode cX7_setting 0 = .ok (.aload_n 0, 1) := by decide +kernel
theorem dX7_setting_1 : decode cX7_setting 1 = .ok (.iconst 0, 1) := by decide +kernel
theorem dX7_setting_2 : decode cX7_setting 2 = .ok (.putfield 25, 3) := by decide +kernel
theorem dX7_setting_5 : decode cX7_setting 5 = .ok (.iload_n 1, 1) := by decide +kernel
theorem dX7_setting_6 : decode cX7_setting 6 = .ok (.iconst 0, 1) := by decide +kernel
theorem dX7_setting_7 : decode cX7_setting 7 = .ok (.iconst 1, 1) := by decide +kernel
theorem dX7_setting_8 : decode cX7_setting 8 = .ok (.invokestatic 29, 3) := by decide +kernel
theorem dX7_setting_11 : decode cX7_setting 11 = .ok (.ifCond .eq 14, 3) := by decide +kernel
theorem dX7_setting_14 : decode cX7_setting 14 = .ok (.aload_n 0, 1) := by decide +kernel
theorem dX7_setting_15 : decode cX7_setting 15 = .ok (.getfield 7, 3) := by decide +kernel
theorem dX7_setting_18 : decode cX7_setting 18 = .ok (.iconst 2, 1) := by decide +kernel
theorem dX7_setting_19 : decode cX7_setting 19 = .ok (.iload_n 1, 1) := by decide +kernel
theorem dX7_setting_20 : decode cX7_setting 20 = .ok (.iadd, 1) := by decide +kernel
theorem dX7_setting_21 : decode cX7_setting 21 = .ok (.iaload, 1) := by decide +kernel
theorem dX7_setting_22 : decode cX7_setting 22 = .ok (.goto 8, 3) := by decide +kernel
theorem dX7_setting_25 : decode cX7_setting 25 = .ok (.aload_n 0, 1) := by decide +kernel
theorem dX7_setting_26 : decode cX7_setting 26 = .ok (.iconst 1, 1) := by decide +kernel
theorem dX7_setting_27 : decode cX7_setting 27 = .ok (.invokevirtual 76, 3) := by decide +kernel
theorem dX7_setting_30 : decode cX7_setting 30 = .ok (.ireturn, 1) := by decide +kernel
theorem dX7_middleWith_0 : decode cX7_middleWith 0 = .ok (.aload_n 0, 1) := by decide +kernel
theorem dX7_middleWith_1 : decode cX7_middleWith 1 = .ok (.getfield 7, 3) := by decide +kernel
theorem dX7_middleWith_4 : decode cX7_middleWith 4 = .ok (.bipush 48, 2) := by decide +kernel
theorem dX7_middleWith_6 : decode cX7_middleWith 6 = .ok (.iload_n 1, 1) := by decide +kernel
theorem dX7_middleWith_7 : decode cX7_middleWith 7 = .ok (.iadd, 1) := by decide +kernel
theorem dX7_middleWith_8 : decode cX7_middleWith 8 = .ok (.iaload, 1) := by decide +kernel
theorem dX7_middleWith_9 : decode cX7_middleWith 9 = .ok (.istore_n 3, 1) := by decide +kernel
theorem dX7_middleWith_10 : decode cX7_middleWith 10 = .ok (.aload_n 0, 1) := by decide +kernel
theorem dX7_middleWith_11 : decode cX7_middleWith 11 = .ok (.getfield 7, 3) := by decide +kernel
theorem dX7_middleWith_14 : decode cX7_middleWith 14 = .ok (.bipush 48, 2) := by decide +kernel
theorem dX7_middleWith_16 : decode cX7_middleWith 16 = .ok (.iload_n 1, 1) := by decide +kernel
theorem dX7_middleWith_17 : decode cX7_middleWith 17 = .ok (.iadd, 1) := by decide +kernel
theorem dX7_middleWith_18 : decode cX7_middleWith 18 = .ok (.iload_n 2, 1) := by decide +kernel
theorem dX7_middleWith_19 : decode cX7_middleWith 19 = .ok (.iastore, 1) := by decide +kernel
theorem dX7_middleWith_20 : decode cX7_middleWith 20 = .ok (.aload_n 0, 1) := by decide +kernel
theorem dX7_middleWith_21 : decode cX7_middleWith 21 = .ok (.invokevirtual 69, 3) := by decide +kernel
theorem dX7_middleWith_24 : decode cX7_middleWith 24 = .ok (.istore 4, 2) := by decide +kernel
theorem dX7_middleWith_26 : decode cX7_middleWith 26 = .ok (.aload_n 0, 1) := by decide +kernel
theorem dX7_middleWith_27 : decode cX7_middleWith 27 = .ok (.getfield 7, 3) := by decide +kernel
theorem dX7_middleWith_30 : decode cX7_middleWith 30 = .ok (.bipush 48, 2) := by decide +kernel
theorem dX7_middleWith_32 : decode cX7_middleWith 32 = .ok (.iload_n 1, 1) := by decide +kernel
theorem dX7_middleWith_33 : decode cX7_middleWith 33 = .ok (.iadd, 1) := by decide +kernel
theorem dX7_middleWith_34 : decode cX7_middleWith 34 = .ok (.iload_n 3, 1) := by decide +kernel
theorem dX7_middleWith_35 : decode cX7_middleWith 35 = .ok (.iastore, 1) := by decide +kernel
theorem dX7_middleWith_36 : decode cX7_middleWith 36 = .ok (.iload 4, 2) := by decide +kernel
theorem dX7_middleWith_38 : decode cX7_middleWith 38 = .ok (.ireturn, 1) := by decide +kernel
theorem dX7_without_0 : decode cX7_without 0 = .ok (.aload_n 0, 1) := by decide +kernel
theorem dX7_without_1 : decode cX7_without 1 = .ok (.iconst 0, 1) := by decide +kernel
theorem dX7_without_2 : decode cX7_without 2 = .ok (.putfield 25, 3) := by decide +kernel
theorem dX7_without_5 : decode cX7_without 5 = .ok (.iload_n 1, 1) := by decide +kernel
theorem dX7_without_6 : decode cX7_without 6 = .ok (.invokestatic 91, 3) := by decide +kernel
theorem dX7_without_9 : decode cX7_without 9 = .ok (.ifCond .eq 12, 3) := by decide +kernel
theorem dX7_without_12 : decode cX7_without 12 = .ok (.aload_n 0, 1) := by decide +kernel
theorem dX7_without_13 : decode cX7_without 13 = .ok (.iload_n 1, 1) := by decide +kernel
theorem dX7_without_14 : decode cX7_without 14 = .ok (.iconst 0, 1) := by decide +kernel
theorem dX7_without_15 : decode cX7_without 15 = .ok (.invokevirtual 143, 3) := by decide +kernel
theorem dX7_without_18 : decode cX7_without 18 = .ok (.goto 8, 3) := by decide +kernel
theorem dX7_without_21 : decode cX7_without 21 = .ok (.aload_n 0, 1) := by decide +kernel
theorem dX7_without_22 : decode cX7_without 22 = .ok (.iconst 1, 1) := by decide +kernel
theorem dX7_without_23 : decode cX7_without 23 = .ok (.invokevirtual 76, 3) := by decide +kernel
theorem dX7_without_26 : decode cX7_without 26 = .ok (.ireturn, 1) := by decide +kernel
theorem dX7_matters_0 : decode cX7_matters 0 = .ok (.aload_n 0, 1) := by decide +kernel
theorem dX7_matters_1 : decode cX7_matters 1 = .ok (.invokevirtual 69, 3) := by decide +kernel
theorem dX7_matters_4 : decode cX7_matters 4 = .ok (.istore_n 1, 1) := by decide +kernel
theorem dX7_matters_5 : decode cX7_matters 5 = .ok (.iconst (-1), 1) := by decide +kernel
theorem dX7_matters_6 : decode cX7_matters 6 = .ok (.istore_n 2, 1) := by decide +kernel
theorem dX7_matters_7 : decode cX7_matters 7 = .ok (.iconst (-1), 1) := by decide +kernel
theorem dX7_matters_8 : decode cX7_matters 8 = .ok (.istore_n 3, 1) := by decide +kernel
theorem dX7_matters_9 : decode cX7_matters 9 = .ok (.iconst 0, 1) := by decide +kernel
theorem dX7_matters_10 : decode cX7_matters 10 = .ok (.istore 4, 2) := by decide +kernel
theorem dX7_matters_12 : decode cX7_matters 12 = .ok (.iload 4, 2) := by decide +kernel
theorem dX7_matters_14 : decode cX7_matters 14 = .ok (.bipush 7, 2) := by decide +kernel
theorem dX7_matters_16 : decode cX7_matters 16 = .ok (.if_icmp .ge 76, 3) := by decide +kernel
theorem dX7_matters_19 : decode cX7_matters 19 = .ok (.iload_n 1, 1) := by decide +kernel
theorem dX7_matters_20 : decode cX7_matters 20 = .ok (.iconst (-1), 1) := by decide +kernel
theorem dX7_matters_21 : decode cX7_matters 21 = .ok (.if_icmp .eq 71, 3) := by decide +kernel
theorem dX7_matters_24 : decode cX7_matters 24 = .ok (.aload_n 0, 1) := by decide +kernel
theorem dX7_matters_25 : decode cX7_matters 25 = .ok (.iload 4, 2) := by decide +kernel
theorem dX7_matters_27 : decode cX7_matters 27 = .ok (.iconst 0, 1) := by decide +kernel
theorem dX7_matters_28 : decode cX7_matters 28 = .ok (.invokevirtual 143, 3) := by decide +kernel
theorem dX7_matters_31 : decode cX7_matters 31 = .ok (.istore 5, 2) := by decide +kernel
theorem dX7_matters_33 : decode cX7_matters 33 = .ok (.iload 5, 2) := by decide +kernel
theorem dX7_matters_35 : decode cX7_matters 35 = .ok (.iconst (-1), 1) := by decide +kernel
theorem dX7_matters_36 : decode cX7_matters 36 = .ok (.if_icmp .eq 18, 3) := by decide +kernel
theorem dX7_matters_39 : decode cX7_matters 39 = .ok (.iload 5, 2) := by decide +kernel
theorem dX7_matters_41 : decode cX7_matters 41 = .ok (.iload_n 1, 1) := by decide +kernel
theorem dX7_matters_42 : decode cX7_matters 42 = .ok (.isub, 1) := by decide +kernel
theorem dX7_matters_43 : decode cX7_matters 43 = .ok (.invokestatic 49, 3) := by decide +kernel
theorem dX7_matters_46 : decode cX7_matters 46 = .ok (.iload_n 3, 1) := by decide +kernel
theorem dX7_matters_47 : decode cX7_matters 47 = .ok (.if_icmp .le 7, 3) := by decide +kernel
theorem dX7_matters_50 : decode cX7_matters 50 = .ok (.iconst 1, 1) := by decide +kernel
theorem dX7_matters_51 : decode cX7_matters 51 = .ok (.goto 4, 3) := by decide +kernel
theorem dX7_matters_54 : decode cX7_matters 54 = .ok (.iconst 0, 1) := by decide +kernel
theorem dX7_matters_55 : decode cX7_matters 55 = .ok (.istore 6, 2) := by decide +kernel
theorem dX7_matters_57 : decode cX7_matters 57 = .ok (.iload 6, 2) := by decide +kernel
theorem dX7_matters_59 : decode cX7_matters 59 = .ok (.ifCond .eq 8, 3) := by decide +kernel
theorem dX7_matters_62 : decode cX7_matters 62 = .ok (.iload 4, 2) := by decide +kernel
theorem dX7_matters_64 : decode cX7_matters 64 = .ok (.goto 4, 3) := by decide +kernel
theorem dX7_matters_67 : decode cX7_matters 67 = .ok (.iload_n 2, 1) := by decide +kernel
theorem dX7_matters_68 : decode cX7_matters 68 = .ok (.istore_n 2, 1) := by decide +kernel
theorem dX7_matters_69 : decode cX7_matters 69 = .ok (.iload 6, 2) := by decide +kernel
theorem dX7_matters_71 : decode cX7_matters 71 = .ok (.ifCond .eq 13, 3) := by decide +kernel
theorem dX7_matters_74 : decode cX7_matters 74 = .ok (.iload 5, 2) := by decide +kernel
theorem dX7_matters_76 : decode cX7_matters 76 = .ok (.iload_n 1, 1) := by decide +kernel
theorem dX7_matters_77 : decode cX7_matters 77 = .ok (.isub, 1) := by decide +kernel
theorem dX7_matters_78 : decode cX7_matters 78 = .ok (.invokestatic 49, 3) := by decide +kernel
theorem dX7_matters_81 : decode cX7_matters 81 = .ok (.goto 4, 3) := by decide +kernel
theorem dX7_matters_84 : decode cX7_matters 84 = .ok (.iload_n 3, 1) := by decide +kernel
theorem dX7_matters_85 : decode cX7_matters 85 = .ok (.istore_n 3, 1) := by decide +kernel
theorem dX7_matters_86 : decode cX7_matters 86 = .ok (.iinc 4 1, 3) := by decide +kernel
theorem dX7_matters_89 : decode cX7_matters 89 = .ok (.goto (-77), 3) := by decide +kernel
theorem dX7_matters_92 : decode cX7_matters 92 = .ok (.iload_n 2, 1) := by decide +kernel
theorem dX7_matters_93 : decode cX7_matters 93 = .ok (.ireturn, 1) := by decide +kernel
theorem dX7_pivot_0 : decode cX7_pivot 0 = .ok (.aload_n 0, 1) := by decide +kernel
theorem dX7_pivot_1 : decode cX7_pivot 1 = .ok (.iconst 0, 1) := by decide +kernel
theorem dX7_pivot_2 : decode cX7_pivot 2 = .ok (.putfield 25, 3) := by decide +kernel
theorem dX7_pivot_5 : decode cX7_pivot 5 = .ok (.aload_n 0, 1) := by decide +kernel
theorem dX7_pivot_6 : decode cX7_pivot 6 = .ok (.invokevirtual 146, 3) := by decide +kernel
theorem dX7_pivot_9 : decode cX7_pivot 9 = .ok (.ireturn, 1) := by decide +kernel
theorem dX7_winning_0 : decode cX7_winning 0 = .ok (.iconst 1, 1) := by decide +kernel
theorem dX7_winning_1 : decode cX7_winning 1 = .ok (.istore_n 2, 1) := by decide +kernel
theorem dX7_winning_2 : decode cX7_winning 2 = .ok (.iload_n 2, 1) := by decide +kernel
theorem dX7_winning_3 : decode cX7_winning 3 = .ok (.bipush 9, 2) := by decide +kernel
theorem dX7_winning_5 : decode cX7_winning 5 = .ok (.if_icmp .gt 25, 3) := by decide +kernel
theorem dX7_winning_8 : decode cX7_winning 8 = .ok (.aload_n 0, 1) := by decide +kernel
theorem dX7_winning_9 : decode cX7_winning 9 = .ok (.iload_n 1, 1) := by decide +kernel
theorem dX7_winning_10 : decode cX7_winning 10 = .ok (.iload_n 2, 1) := by decide +kernel
theorem dX7_winning_11 : decode cX7_winning 11 = .ok (.invokevirtual 143, 3) := by decide +kernel
theorem dX7_winning_14 : decode cX7_winning 14 = .ok (.aload_n 0, 1) := by decide +kernel
theorem dX7_winning_15 : decode cX7_winning 15 = .ok (.iload_n 1, 1) := by decide +kernel
theorem dX7_winning_16 : decode cX7_winning 16 = .ok (.invokevirtual 56, 3) := by decide +kernel
theorem dX7_winning_19 : decode cX7_winning 19 = .ok (.if_icmp .ne 5, 3) := by decide +kernel
theorem dX7_winning_22 : decode cX7_winning 22 = .ok (.iload_n 2, 1) := by decide +kernel
theorem dX7_winning_23 : decode cX7_winning 23 = .ok (.ireturn, 1) := by decide +kernel
theorem dX7_winning_24 : decode cX7_winning 24 = .ok (.iinc 2 1, 3) := by decide +kernel
theorem dX7_winning_27 : decode cX7_winning 27 = .ok (.goto (-25), 3) := by decide +kernel
theorem dX7_winning_30 : decode cX7_winning 30 = .ok (.iconst (-1), 1) := by decide +kernel
theorem dX7_winning_31 : decode cX7_winning 31 = .ok (.ireturn, 1) := by decide +kernel
theorem dX7_wins_0 : decode cX7_wins 0 = .ok (.aload_n 0, 1) := by decide +kernel
theorem dX7_wins_1 : decode cX7_wins 1 = .ok (.iconst 0, 1) := by decide +kernel
theorem dX7_wins_2 : decode cX7_wins 2 = .ok (.putfield 25, 3) := by decide +kernel
theorem dX7_wins_5 : decode cX7_wins 5 = .ok (.iload_n 1, 1) := by decide +kernel
theorem dX7_wins_6 : decode cX7_wins 6 = .ok (.invokestatic 91, 3) := by decide +kernel
theorem dX7_wins_9 : decode cX7_wins 9 = .ok (.ifCond .eq 11, 3) := by decide +kernel
theorem dX7_wins_12 : decode cX7_wins 12 = .ok (.aload_n 0, 1) := by decide +kernel
theorem dX7_wins_13 : decode cX7_wins 13 = .ok (.iload_n 1, 1) := by decide +kernel
theorem dX7_wins_14 : decode cX7_wins 14 = .ok (.invokevirtual 149, 3) := by decide +kernel
theorem dX7_wins_17 : decode cX7_wins 17 = .ok (.goto 8, 3) := by decide +kernel
theorem dX7_wins_20 : decode cX7_wins 20 = .ok (.aload_n 0, 1) := by decide +kernel
theorem dX7_wins_21 : decode cX7_wins 21 = .ok (.iconst 1, 1) := by decide +kernel
theorem dX7_wins_22 : decode cX7_wins 22 = .ok (.invokevirtual 76, 3) := by decide +kernel
theorem dX7_wins_25 : decode cX7_wins 25 = .ok (.ireturn, 1) := by decide +kernel
theorem dX7_quarrelsIn_0 : decode cX7_quarrelsIn 0 = .ok (.aload_n 0, 1) := by decide +kernel
theorem dX7_quarrelsIn_1 : decode cX7_quarrelsIn 1 = .ok (.invokevirtual 152, 3) := by decide +kernel
theorem dX7_quarrelsIn_4 : decode cX7_quarrelsIn 4 = .ok (.aload_n 0, 1) := by decide +kernel
theorem dX7_quarrelsIn_5 : decode cX7_quarrelsIn 5 = .ok (.iload_n 1, 1) := by decide +kernel
theorem dX7_quarrelsIn_6 : decode cX7_quarrelsIn 6 = .ok (.invokevirtual 65, 3) := by decide +kernel
theorem dX7_quarrelsIn_9 : decode cX7_quarrelsIn 9 = .ok (.ifCond .eq 7, 3) := by decide +kernel
theorem dX7_quarrelsIn_12 : decode cX7_quarrelsIn 12 = .ok (.iconst 0, 1) := by decide +kernel
theorem dX7_quarrelsIn_13 : decode cX7_quarrelsIn 13 = .ok (.goto 4, 3) := by decide +kernel
theorem dX7_quarrelsIn_16 : decode cX7_quarrelsIn 16 = .ok (.iconst (-1), 1) := by decide +kernel
theorem dX7_quarrelsIn_17 : decode cX7_quarrelsIn 17 = .ok (.istore_n 2, 1) := by decide +kernel
theorem dX7_quarrelsIn_18 : decode cX7_quarrelsIn 18 = .ok (.iconst 1, 1) := by decide +kernel
theorem dX7_quarrelsIn_19 : decode cX7_quarrelsIn 19 = .ok (.istore_n 3, 1) := by decide +kernel
theorem dX7_quarrelsIn_20 : decode cX7_quarrelsIn 20 = .ok (.iload_n 3, 1) := by decide +kernel
theorem dX7_quarrelsIn_21 : decode cX7_quarrelsIn 21 = .ok (.sipush 200, 3) := by decide +kernel
theorem dX7_quarrelsIn_24 : decode cX7_quarrelsIn 24 = .ok (.if_icmp .gt 34, 3) := by decide +kernel
theorem dX7_quarrelsIn_27 : decode cX7_quarrelsIn 27 = .ok (.iload_n 2, 1) := by decide +kernel
theorem dX7_quarrelsIn_28 : decode cX7_quarrelsIn 28 = .ok (.iconst (-1), 1) := by decide +kernel
theorem dX7_quarrelsIn_29 : decode cX7_quarrelsIn 29 = .ok (.if_icmp .ne 29, 3) := by decide +kernel
theorem dX7_quarrelsIn_32 : decode cX7_quarrelsIn 32 = .ok (.aload_n 0, 1) := by decide +kernel
theorem dX7_quarrelsIn_33 : decode cX7_quarrelsIn 33 = .ok (.invokevirtual 41, 3) := by decide +kernel
theorem dX7_quarrelsIn_36 : decode cX7_quarrelsIn 36 = .ok (.istore 4, 2) := by decide +kernel
theorem dX7_quarrelsIn_38 : decode cX7_quarrelsIn 38 = .ok (.aload_n 0, 1) := by decide +kernel
theorem dX7_quarrelsIn_39 : decode cX7_quarrelsIn 39 = .ok (.iload_n 1, 1) := by decide +kernel
theorem dX7_quarrelsIn_40 : decode cX7_quarrelsIn 40 = .ok (.invokevirtual 65, 3) := by decide +kernel
theorem dX7_quarrelsIn_43 : decode cX7_quarrelsIn 43 = .ok (.ifCond .eq 7, 3) := by decide +kernel
theorem dX7_quarrelsIn_46 : decode cX7_quarrelsIn 46 = .ok (.iload_n 3, 1) := by decide +kernel
theorem dX7_quarrelsIn_47 : decode cX7_quarrelsIn 47 = .ok (.goto 4, 3) := by decide +kernel
theorem dX7_quarrelsIn_50 : decode cX7_quarrelsIn 50 = .ok (.iconst (-1), 1) := by decide +kernel
theorem dX7_quarrelsIn_51 : decode cX7_quarrelsIn 51 = .ok (.istore_n 2, 1) := by decide +kernel
theorem dX7_quarrelsIn_52 : decode cX7_quarrelsIn 52 = .ok (.iinc 3 1, 3) := by decide +kernel
theorem dX7_quarrelsIn_55 : decode cX7_quarrelsIn 55 = .ok (.goto (-35), 3) := by decide +kernel
theorem dX7_quarrelsIn_58 : decode cX7_quarrelsIn 58 = .ok (.aload_n 0, 1) := by decide +kernel
theorem dX7_quarrelsIn_59 : decode cX7_quarrelsIn 59 = .ok (.invokevirtual 155, 3) := by decide +kernel
theorem dX7_quarrelsIn_62 : decode cX7_quarrelsIn 62 = .ok (.iload_n 2, 1) := by decide +kernel
theorem dX7_quarrelsIn_63 : decode cX7_quarrelsIn 63 = .ok (.ireturn, 1) := by decide +kernel
theorem dX7_quarrelIn_0 : decode cX7_quarrelIn 0 = .ok (.aload_n 0, 1) := by decide +kernel
theorem dX7_quarrelIn_1 : decode cX7_quarrelIn 1 = .ok (.iconst 0, 1) := by decide +kernel
theorem dX7_quarrelIn_2 : decode cX7_quarrelIn 2 = .ok (.putfield 25, 3) := by decide +kernel
theorem dX7_quarrelIn_5 : decode cX7_quarrelIn 5 = .ok (.iload_n 1, 1) := by decide +kernel
theorem dX7_quarrelIn_6 : decode cX7_quarrelIn 6 = .ok (.invokestatic 91, 3) := by decide +kernel
theorem dX7_quarrelIn_9 : decode cX7_quarrelIn 9 = .ok (.ifCond .eq 11, 3) := by decide +kernel
theorem dX7_quarrelIn_12 : decode cX7_quarrelIn 12 = .ok (.aload_n 0, 1) := by decide +kernel
theorem dX7_quarrelIn_13 : decode cX7_quarrelIn 13 = .ok (.iload_n 1, 1) := by decide +kernel
theorem dX7_quarrelIn_14 : decode cX7_quarrelIn 14 = .ok (.invokevirtual 158, 3) := by decide +kernel
theorem dX7_quarrelIn_17 : decode cX7_quarrelIn 17 = .ok (.goto 8, 3) := by decide +kernel
theorem dX7_quarrelIn_20 : decode cX7_quarrelIn 20 = .ok (.aload_n 0, 1) := by decide +kernel
theorem dX7_quarrelIn_21 : decode cX7_quarrelIn 21 = .ok (.iconst 1, 1) := by decide +kernel
theorem dX7_quarrelIn_22 : decode cX7_quarrelIn 22 = .ok (.invokevirtual 76, 3) := by decide +kernel
theorem dX7_quarrelIn_25 : decode cX7_quarrelIn 25 = .ok (.ireturn, 1) := by decide +kernel
theorem dX7_bellIn_0 : decode cX7_bellIn 0 = .ok (.aload_n 0, 1) := by decide +kernel
theorem dX7_bellIn_1 : decode cX7_bellIn 1 = .ok (.getfield 7, 3) := by decide +kernel
theorem dX7_bellIn_4 : decode cX7_bellIn 4 = .ok (.bipush 6, 2) := by decide +kernel
theorem dX7_bellIn_6 : decode cX7_bellIn 6 = .ok (.iload_n 1, 1) := by decide +kernel
theorem dX7_bellIn_7 : decode cX7_bellIn 7 = .ok (.iadd, 1) := by decide +kernel
theorem dX7_bellIn_8 : decode cX7_bellIn 8 = .ok (.iaload, 1) := by decide +kernel
theorem dX7_bellIn_9 : decode cX7_bellIn 9 = .ok (.istore_n 2, 1) := by decide +kernel
theorem dX7_bellIn_10 : decode cX7_bellIn 10 = .ok (.iconst 1, 1) := by decide +kernel
theorem dX7_bellIn_11 : decode cX7_bellIn 11 = .ok (.istore_n 3, 1) := by decide +kernel
theorem dX7_bellIn_12 : decode cX7_bellIn 12 = .ok (.iload_n 3, 1) := by decide +kernel
theorem dX7_bellIn_13 : decode cX7_bellIn 13 = .ok (.sipush 200, 3) := by decide +kernel
theorem dX7_bellIn_16 : decode cX7_bellIn 16 = .ok (.if_icmp .gt 58, 3) := by decide +kernel
theorem dX7_bellIn_19 : decode cX7_bellIn 19 = .ok (.iload_n 2, 1) := by decide +kernel
theorem dX7_bellIn_20 : decode cX7_bellIn 20 = .ok (.bipush 10, 2) := by decide +kernel
theorem dX7_bellIn_22 : decode cX7_bellIn 22 = .ok (.aload_n 0, 1) := by decide +kernel
theorem dX7_bellIn_23 : decode cX7_bellIn 23 = .ok (.getfield 7, 3) := by decide +kernel
theorem dX7_bellIn_26 : decode cX7_bellIn 26 = .ok (.bipush 13, 2) := by decide +kernel
theorem dX7_bellIn_28 : decode cX7_bellIn 28 = .ok (.iload_n 1, 1) := by decide +kernel
theorem dX7_bellIn_29 : decode cX7_bellIn 29 = .ok (.iadd, 1) := by decide +kernel
theorem dX7_bellIn_30 : decode cX7_bellIn 30 = .ok (.iaload, 1) := by decide +kernel
theorem dX7_bellIn_31 : decode cX7_bellIn 31 = .ok (.iadd, 1) := by decide +kernel
theorem dX7_bellIn_32 : decode cX7_bellIn 32 = .ok (.iadd, 1) := by decide +kernel
theorem dX7_bellIn_33 : decode cX7_bellIn 33 = .ok (.istore_n 2, 1) := by decide +kernel
theorem dX7_bellIn_34 : decode cX7_bellIn 34 = .ok (.iload_n 2, 1) := by decide +kernel
theorem dX7_bellIn_35 : decode cX7_bellIn 35 = .ok (.ldc 40, 2) := by decide +kernel
theorem dX7_bellIn_37 : decode cX7_bellIn 37 = .ok (.if_icmp .le 8, 3) := by decide +kernel
theorem dX7_bellIn_40 : decode cX7_bellIn 40 = .ok (.ldc 40, 2) := by decide +kernel
theorem dX7_bellIn_42 : decode cX7_bellIn 42 = .ok (.goto 4, 3) := by decide +kernel
theorem dX7_bellIn_45 : decode cX7_bellIn 45 = .ok (.iload_n 2, 1) := by decide +kernel
theorem dX7_bellIn_46 : decode cX7_bellIn 46 = .ok (.istore_n 2, 1) := by decide +kernel
theorem dX7_bellIn_47 : decode cX7_bellIn 47 = .ok (.iload_n 2, 1) := by decide +kernel
theorem dX7_bellIn_48 : decode cX7_bellIn 48 = .ok (.bipush 60, 2) := by decide +kernel
theorem dX7_bellIn_50 : decode cX7_bellIn 50 = .ok (.idiv, 1) := by decide +kernel
theorem dX7_bellIn_51 : decode cX7_bellIn 51 = .ok (.aload_n 0, 1) := by decide +kernel
theorem dX7_bellIn_52 : decode cX7_bellIn 52 = .ok (.getfield 7, 3) := by decide +kernel
theorem dX7_bellIn_55 : decode cX7_bellIn 55 = .ok (.bipush 6, 2) := by decide +kernel
theorem dX7_bellIn_57 : decode cX7_bellIn 57 = .ok (.iload_n 1, 1) := by decide +kernel
theorem dX7_bellIn_58 : decode cX7_bellIn 58 = .ok (.iadd, 1) := by decide +kernel
theorem dX7_bellIn_59 : decode cX7_bellIn 59 = .ok (.iaload, 1) := by decide +kernel
theorem dX7_bellIn_60 : decode cX7_bellIn 60 = .ok (.bipush 60, 2) := by decide +kernel
theorem dX7_bellIn_62 : decode cX7_bellIn 62 = .ok (.idiv, 1) := by decide +kernel
theorem dX7_bellIn_63 : decode cX7_bellIn 63 = .ok (.if_icmp .le 5, 3) := by decide +kernel
theorem dX7_bellIn_66 : decode cX7_bellIn 66 = .ok (.iload_n 3, 1) := by decide +kernel
theorem dX7_bellIn_67 : decode cX7_bellIn 67 = .ok (.ireturn, 1) := by decide +kernel
theorem dX7_bellIn_68 : decode cX7_bellIn 68 = .ok (.iinc 3 1, 3) := by decide +kernel
theorem dX7_bellIn_71 : decode cX7_bellIn 71 = .ok (.goto (-59), 3) := by decide +kernel
theorem dX7_bellIn_74 : decode cX7_bellIn 74 = .ok (.iconst (-1), 1) := by decide +kernel
theorem dX7_bellIn_75 : decode cX7_bellIn 75 = .ok (.ireturn, 1) := by decide +kernel
theorem dX7_ringsIn_0 : decode cX7_ringsIn 0 = .ok (.aload_n 0, 1) := by decide +kernel
theorem dX7_ringsIn_1 : decode cX7_ringsIn 1 = .ok (.iconst 0, 1) := by decide +kernel
theorem dX7_ringsIn_2 : decode cX7_ringsIn 2 = .ok (.putfield 25, 3) := by decide +kernel
theorem dX7_ringsIn_5 : decode cX7_ringsIn 5 = .ok (.iload_n 1, 1) := by decide +kernel
theorem dX7_ringsIn_6 : decode cX7_ringsIn 6 = .ok (.invokestatic 91, 3) := by decide +kernel
theorem dX7_ringsIn_9 : decode cX7_ringsIn 9 = .ok (.ifCond .eq 11, 3) := by decide +kernel
theorem dX7_ringsIn_12 : decode cX7_ringsIn 12 = .ok (.aload_n 0, 1) := by decide +kernel
theorem dX7_ringsIn_13 : decode cX7_ringsIn 13 = .ok (.iload_n 1, 1) := by decide +kernel
theorem dX7_ringsIn_14 : decode cX7_ringsIn 14 = .ok (.invokevirtual 161, 3) := by decide +kernel
theorem dX7_ringsIn_17 : decode cX7_ringsIn 17 = .ok (.goto 8, 3) := by decide +kernel
theorem dX7_ringsIn_20 : decode cX7_ringsIn 20 = .ok (.aload_n 0, 1) := by decide +kernel
theorem dX7_ringsIn_21 : decode cX7_ringsIn 21 = .ok (.iconst 1, 1) := by decide +kernel
theorem dX7_ringsIn_22 : decode cX7_ringsIn 22 = .ok (.invokevirtual 76, 3) := by decide +kernel
theorem dX7_ringsIn_25 : decode cX7_ringsIn 25 = .ok (.ireturn, 1) := by decide +kernel
theorem dX7_share_0 : decode cX7_share 0 = .ok (.aload_n 0, 1) := by decide +kernel
theorem dX7_share_1 : decode cX7_share 1 = .ok (.getfield 7, 3) := by decide +kernel
theorem dX7_share_4 : decode cX7_share 4 = .ok (.iconst 4, 1) := by decide +kernel
theorem dX7_share_5 : decode cX7_share 5 = .ok (.iaload, 1) := by decide +kernel
theorem dX7_share_6 : decode cX7_share 6 = .ok (.ifCond .ne 7, 3) := by decide +kernel
theorem dX7_share_9 : decode cX7_share 9 = .ok (.dconst 0, 1) := by decide +kernel
theorem dX7_share_10 : decode cX7_share 10 = .ok (.goto 18, 3) := by decide +kernel
theorem dX7_share_13 : decode cX7_share 13 = .ok (.aload_n 0, 1) := by decide +kernel
theorem dX7_share_14 : decode cX7_share 14 = .ok (.getfield 7, 3) := by decide +kernel
theorem dX7_share_17 : decode cX7_share 17 = .ok (.iconst 5, 1) := by decide +kernel
theorem dX7_share_18 : decode cX7_share 18 = .ok (.iaload, 1) := by decide +kernel
theorem dX7_share_19 : decode cX7_share 19 = .ok (.i2d, 1) := by decide +kernel
theorem dX7_share_20 : decode cX7_share 20 = .ok (.aload_n 0, 1) := by decide +kernel
theorem dX7_share_21 : decode cX7_share 21 = .ok (.getfield 7, 3) := by decide +kernel
theorem dX7_share_24 : decode cX7_share 24 = .ok (.iconst 4, 1) := by decide +kernel
theorem dX7_share_25 : decode cX7_share 25 = .ok (.iaload, 1) := by decide +kernel
theorem dX7_share_26 : decode cX7_share 26 = .ok (.i2d, 1) := by decide +kernel
theorem dX7_share_27 : decode cX7_share 27 = .ok (.ddiv, 1) := by decide +kernel
theorem dX7_share_28 : decode cX7_share 28 = .ok (.dreturn, 1) := by decide +kernel
theorem dX7_heldShare_0 : decode cX7_heldShare 0 = .ok (.aload_n 0, 1) := by decide +kernel
theorem dX7_heldShare_1 : decode cX7_heldShare 1 = .ok (.iconst 0, 1) := by decide +kernel
theorem dX7_heldShare_2 : decode cX7_heldShare 2 = .ok (.putfield 25, 3) := by decide +kernel
theorem dX7_heldShare_5 : decode cX7_heldShare 5 = .ok (.aload_n 0, 1) := by decide +kernel
theorem dX7_heldShare_6 : decode cX7_heldShare 6 = .ok (.invokevirtual 164, 3) := by decide +kernel
theorem dX7_heldShare_9 : decode cX7_heldShare 9 = .ok (.dreturn, 1) := by decide +kernel
theorem dX7_mean_0 : decode cX7_mean 0 = .ok (.iconst 0, 1) := by decide +kernel
theorem dX7_mean_1 : decode cX7_mean 1 = .ok (.istore_n 1, 1) := by decide +kernel
theorem dX7_mean_2 : decode cX7_mean 2 = .ok (.iconst 0, 1) := by decide +kernel
theorem dX7_mean_3 : decode cX7_mean 3 = .ok (.istore_n 2, 1) := by decide +kernel
theorem dX7_mean_4 : decode cX7_mean 4 = .ok (.iload_n 2, 1) := by decide +kernel
theorem dX7_mean_5 : decode cX7_mean 5 = .ok (.bipush 7, 2) := by decide +kernel
theorem dX7_mean_7 : decode cX7_mean 7 = .ok (.if_icmp .ge 18, 3) := by decide +kernel
theorem dX7_mean_10 : decode cX7_mean 10 = .ok (.iload_n 1, 1) := by decide +kernel
theorem dX7_mean_11 : decode cX7_mean 11 = .ok (.aload_n 0, 1) := by decide +kernel
theorem dX7_mean_12 : decode cX7_mean 12 = .ok (.iload_n 2, 1) := by decide +kernel
theorem dX7_mean_13 : decode cX7_mean 13 = .ok (.iconst 5, 1) := by decide +kernel
theorem dX7_mean_14 : decode cX7_mean 14 = .ok (.invokevirtual 122, 3) := by decide +kernel
theorem dX7_mean_17 : decode cX7_mean 17 = .ok (.iadd, 1) := by decide +kernel
theorem dX7_mean_18 : decode cX7_mean 18 = .ok (.istore_n 1, 1) := by decide +kernel
theorem dX7_mean_19 : decode cX7_mean 19 = .ok (.iinc 2 1, 3) := by decide +kernel
theorem dX7_mean_22 : decode cX7_mean 22 = .ok (.goto (-18), 3) := by decide +kernel
theorem dX7_mean_25 : decode cX7_mean 25 = .ok (.iload_n 1, 1) := by decide +kernel
theorem dX7_mean_26 : decode cX7_mean 26 = .ok (.i2f, 1) := by decide +kernel
theorem dX7_mean_27 : decode cX7_mean 27 = .ok (.ldc 168, 2) := by decide +kernel
theorem dX7_mean_29 : decode cX7_mean 29 = .ok (.fdiv, 1) := by decide +kernel
theorem dX7_mean_30 : decode cX7_mean 30 = .ok (.freturn, 1) := by decide +kernel
theorem dX7_meanError_0 : decode cX7_meanError 0 = .ok (.aload_n 0, 1) := by decide +kernel
theorem dX7_meanError_1 : decode cX7_meanError 1 = .ok (.iconst 0, 1) := by decide +kernel
theorem dX7_meanError_2 : decode cX7_meanError 2 = .ok (.putfield 25, 3) := by decide +kernel
theorem dX7_meanError_5 : decode cX7_meanError 5 = .ok (.aload_n 0, 1) := by decide +kernel
theorem dX7_meanError_6 : decode cX7_meanError 6 = .ok (.invokevirtual 169, 3) := by decide +kernel
theorem dX7_meanError_9 : decode cX7_meanError 9 = .ok (.freturn, 1) := by decide +kernel
theorem dX7_bits_0 : decode cX7_bits 0 = .ok (.dload_n 0, 1) := by decide +kernel
theorem dX7_bits_1 : decode cX7_bits 1 = .ok (.dconst 0, 1) := by decide +kernel
theorem dX7_bits_2 : decode cX7_bits 2 = .ok (.dcmp .l, 1) := by decide +kernel
theorem dX7_bits_3 : decode cX7_bits 3 = .ok (.ifCond .ne 5, 3) := by decide +kernel
theorem dX7_bits_6 : decode cX7_bits 6 = .ok (.lconst 0, 1) := by decide +kernel
theorem dX7_bits_7 : decode cX7_bits 7 = .ok (.lreturn, 1) := by decide +kernel
theorem dX7_bits_8 : decode cX7_bits 8 = .ok (.dload_n 0, 1) := by decide +kernel
theorem dX7_bits_9 : decode cX7_bits 9 = .ok (.dstore 4, 2) := by decide +kernel
theorem dX7_bits_11 : decode cX7_bits 11 = .ok (.iload_n 2, 1) := by decide +kernel
theorem dX7_bits_12 : decode cX7_bits 12 = .ok (.istore 6, 2) := by decide +kernel
theorem dX7_bits_14 : decode cX7_bits 14 = .ok (.dload 4, 2) := by decide +kernel
theorem dX7_bits_16 : decode cX7_bits 16 = .ok (.ldc2_w 173, 3) := by decide +kernel
theorem dX7_bits_19 : decode cX7_bits 19 = .ok (.dcmp .l, 1) := by decide +kernel
theorem dX7_bits_20 : decode cX7_bits 20 = .ok (.ifCond .lt 17, 3) := by decide +kernel
theorem dX7_bits_23 : decode cX7_bits 23 = .ok (.dload 4, 2) := by decide +kernel
theorem dX7_bits_25 : decode cX7_bits 25 = .ok (.ldc2_w 173, 3) := by decide +kernel
theorem dX7_bits_28 : decode cX7_bits 28 = .ok (.ddiv, 1) := by decide +kernel
theorem dX7_bits_29 : decode cX7_bits 29 = .ok (.dstore 4, 2) := by decide +kernel
theorem dX7_bits_31 : decode cX7_bits 31 = .ok (.iinc 6 1, 3) := by decide +kernel
theorem dX7_bits_34 : decode cX7_bits 34 = .ok (.goto (-20), 3) := by decide +kernel
theorem dX7_bits_37 : decode cX7_bits 37 = .ok (.dload 4, 2) := by decide +kernel
theorem dX7_bits_39 : decode cX7_bits 39 = .ok (.dconst 1, 1) := by decide +kernel
theorem dX7_bits_40 : decode cX7_bits 40 = .ok (.dcmp .g, 1) := by decide +kernel
theorem dX7_bits_41 : decode cX7_bits 41 = .ok (.ifCond .ge 17, 3) := by decide +kernel
theorem dX7_bits_44 : decode cX7_bits 44 = .ok (.dload 4, 2) := by decide +kernel
theorem dX7_bits_46 : decode cX7_bits 46 = .ok (.ldc2_w 173, 3) := by decide +kernel
theorem dX7_bits_49 : decode cX7_bits 49 = .ok (.dmul, 1) := by decide +kernel
theorem dX7_bits_50 : decode cX7_bits 50 = .ok (.dstore 4, 2) := by decide +kernel
theorem dX7_bits_52 : decode cX7_bits 52 = .ok (.iinc 6 (-1), 3) := by decide +kernel
theorem dX7_bits_55 : decode cX7_bits 55 = .ok (.goto (-18), 3) := by decide +kernel
theorem dX7_bits_58 : decode cX7_bits 58 = .ok (.dload 4, 2) := by decide +kernel
theorem dX7_bits_60 : decode cX7_bits 60 = .ok (.dconst 1, 1) := by decide +kernel
theorem dX7_bits_61 : decode cX7_bits 61 = .ok (.dsub, 1) := by decide +kernel
theorem dX7_bits_62 : decode cX7_bits 62 = .ok (.dstore 7, 2) := by decide +kernel
theorem dX7_bits_64 : decode cX7_bits 64 = .ok (.iconst 0, 1) := by decide +kernel
theorem dX7_bits_65 : decode cX7_bits 65 = .ok (.istore 9, 2) := by decide +kernel
theorem dX7_bits_67 : decode cX7_bits 67 = .ok (.iload 9, 2) := by decide +kernel
theorem dX7_bits_69 : decode cX7_bits 69 = .ok (.iload_n 3, 1) := by decide +kernel
theorem dX7_bits_70 : decode cX7_bits 70 = .ok (.if_icmp .ge 17, 3) := by decide +kernel
theorem dX7_bits_73 : decode cX7_bits 73 = .ok (.dload 7, 2) := by decide +kernel
theorem dX7_bits_75 : decode cX7_bits 75 = .ok (.ldc2_w 173, 3) := by decide +kernel
theorem dX7_bits_78 : decode cX7_bits 78 = .ok (.dmul, 1) := by decide +kernel
theorem dX7_bits_79 : decode cX7_bits 79 = .ok (.dstore 7, 2) := by decide +kernel
theorem dX7_bits_81 : decode cX7_bits 81 = .ok (.iinc 9 1, 3) := by decide +kernel
theorem dX7_bits_84 : decode cX7_bits 84 = .ok (.goto (-17), 3) := by decide +kernel
theorem dX7_bits_87 : decode cX7_bits 87 = .ok (.iload 6, 2) := by decide +kernel
theorem dX7_bits_89 : decode cX7_bits 89 = .ok (.i2l, 1) := by decide +kernel
theorem dX7_bits_90 : decode cX7_bits 90 = .ok (.iload_n 3, 1) := by decide +kernel
theorem dX7_bits_91 : decode cX7_bits 91 = .ok (.lshl, 1) := by decide +kernel
theorem dX7_bits_92 : decode cX7_bits 92 = .ok (.dload 7, 2) := by decide +kernel
theorem dX7_bits_94 : decode cX7_bits 94 = .ok (.d2l, 1) := by decide +kernel
theorem dX7_bits_95 : decode cX7_bits 95 = .ok (.ladd, 1) := by decide +kernel
theorem dX7_bits_96 : decode cX7_bits 96 = .ok (.lreturn, 1) := by decide +kernel
theorem dX7_digest_0 : decode cX7_digest 0 = .ok (.aload_n 0, 1) := by decide +kernel
theorem dX7_digest_1 : decode cX7_digest 1 = .ok (.iconst 0, 1) := by decide +kernel
theorem dX7_digest_2 : decode cX7_digest 2 = .ok (.putfield 25, 3) := by decide +kernel
theorem dX7_digest_5 : decode cX7_digest 5 = .ok (.ldc2_w 175, 3) := by decide +kernel
theorem dX7_digest_8 : decode cX7_digest 8 = .ok (.lstore_n 1, 1) := by decide +kernel
theorem dX7_digest_9 : decode cX7_digest 9 = .ok (.iconst 0, 1) := by decide +kernel
theorem dX7_digest_10 : decode cX7_digest 10 = .ok (.istore_n 3, 1) := by decide +kernel
theorem dX7_digest_11 : decode cX7_digest 11 = .ok (.iload_n 3, 1) := by decide +kernel
theorem dX7_digest_12 : decode cX7_digest 12 = .ok (.bipush 14, 2) := by decide +kernel
theorem dX7_digest_14 : decode cX7_digest 14 = .ok (.if_icmp .ge 22, 3) := by decide +kernel
theorem dX7_digest_17 : decode cX7_digest 17 = .ok (.ldc2_w 177, 3) := by decide +kernel
theorem dX7_digest_20 : decode cX7_digest 20 = .ok (.lload_n 1, 1) := by decide +kernel
theorem dX7_digest_21 : decode cX7_digest 21 = .ok (.lmul, 1) := by decide +kernel
theorem dX7_digest_22 : decode cX7_digest 22 = .ok (.aload_n 0, 1) := by decide +kernel
theorem dX7_digest_23 : decode cX7_digest 23 = .ok (.iload_n 3, 1) := by decide +kernel
theorem dX7_digest_24 : decode cX7_digest 24 = .ok (.invokevirtual 140, 3) := by decide +kernel
theorem dX7_digest_27 : decode cX7_digest 27 = .ok (.i2l, 1) := by decide +kernel
theorem dX7_digest_28 : decode cX7_digest 28 = .ok (.ladd, 1) := by decide +kernel
theorem dX7_digest_29 : decode cX7_digest 29 = .ok (.lstore_n 1, 1) := by decide +kernel
theorem dX7_digest_30 : decode cX7_digest 30 = .ok (.iinc 3 1, 3) := by decide +kernel
theorem dX7_digest_33 : decode cX7_digest 33 = .ok (.goto (-22), 3) := by decide +kernel
theorem dX7_digest_36 : decode cX7_digest 36 = .ok (.ldc2_w 177, 3) := by decide +kernel
theorem dX7_digest_39 : decode cX7_digest 39 = .ok (.lload_n 1, 1) := by decide +kernel
theorem dX7_digest_40 : decode cX7_digest 40 = .ok (.lmul, 1) := by decide +kernel
theorem dX7_digest_41 : decode cX7_digest 41 = .ok (.aload_n 0, 1) := by decide +kernel
theorem dX7_digest_42 : decode cX7_digest 42 = .ok (.getfield 7, 3) := by decide +kernel
theorem dX7_digest_45 : decode cX7_digest 45 = .ok (.iconst 2, 1) := by decide +kernel
theorem dX7_digest_46 : decode cX7_digest 46 = .ok (.iaload, 1) := by decide +kernel
theorem dX7_digest_47 : decode cX7_digest 47 = .ok (.i2l, 1) := by decide +kernel
theorem dX7_digest_48 : decode cX7_digest 48 = .ok (.ladd, 1) := by decide +kernel
theorem dX7_digest_49 : decode cX7_digest 49 = .ok (.lstore_n 1, 1) := by decide +kernel
theorem dX7_digest_50 : decode cX7_digest 50 = .ok (.ldc2_w 177, 3) := by decide +kernel
theorem dX7_digest_53 : decode cX7_digest 53 = .ok (.lload_n 1, 1) := by decide +kernel
theorem dX7_digest_54 : decode cX7_digest 54 = .ok (.lmul, 1) := by decide +kernel
theorem dX7_digest_55 : decode cX7_digest 55 = .ok (.aload_n 0, 1) := by decide +kernel
theorem dX7_digest_56 : decode cX7_digest 56 = .ok (.getfield 7, 3) := by decide +kernel
theorem dX7_digest_59 : decode cX7_digest 59 = .ok (.iconst 3, 1) := by decide +kernel
theorem dX7_digest_60 : decode cX7_digest 60 = .ok (.iaload, 1) := by decide +kernel
theorem dX7_digest_61 : decode cX7_digest 61 = .ok (.i2l, 1) := by decide +kernel
theorem dX7_digest_62 : decode cX7_digest 62 = .ok (.ladd, 1) := by decide +kernel
theorem dX7_digest_63 : decode cX7_digest 63 = .ok (.lstore_n 1, 1) := by decide +kernel
theorem dX7_digest_64 : decode cX7_digest 64 = .ok (.iconst 0, 1) := by decide +kernel
theorem dX7_digest_65 : decode cX7_digest 65 = .ok (.istore_n 3, 1) := by decide +kernel
theorem dX7_digest_66 : decode cX7_digest 66 = .ok (.iload_n 3, 1) := by decide +kernel
theorem dX7_digest_67 : decode cX7_digest 67 = .ok (.bipush 7, 2) := by decide +kernel
theorem dX7_digest_69 : decode cX7_digest 69 = .ok (.if_icmp .ge 66, 3) := by decide +kernel
theorem dX7_digest_72 : decode cX7_digest 72 = .ok (.iconst 0, 1) := by decide +kernel
theorem dX7_digest_73 : decode cX7_digest 73 = .ok (.istore 4, 2) := by decide +kernel
theorem dX7_digest_75 : decode cX7_digest 75 = .ok (.iload 4, 2) := by decide +kernel
theorem dX7_digest_77 : decode cX7_digest 77 = .ok (.bipush 7, 2) := by decide +kernel
theorem dX7_digest_79 : decode cX7_digest 79 = .ok (.if_icmp .ge 24, 3) := by decide +kernel
theorem dX7_digest_82 : decode cX7_digest 82 = .ok (.ldc2_w 177, 3) := by decide +kernel
theorem dX7_digest_85 : decode cX7_digest 85 = .ok (.lload_n 1, 1) := by decide +kernel
theorem dX7_digest_86 : decode cX7_digest 86 = .ok (.lmul, 1) := by decide +kernel
theorem dX7_digest_87 : decode cX7_digest 87 = .ok (.aload_n 0, 1) := by decide +kernel
theorem dX7_digest_88 : decode cX7_digest 88 = .ok (.iload_n 3, 1) := by decide +kernel
theorem dX7_digest_89 : decode cX7_digest 89 = .ok (.iload 4, 2) := by decide +kernel
theorem dX7_digest_91 : decode cX7_digest 91 = .ok (.invokevirtual 122, 3) := by decide +kernel
theorem dX7_digest_94 : decode cX7_digest 94 = .ok (.i2l, 1) := by decide +kernel
theorem dX7_digest_95 : decode cX7_digest 95 = .ok (.ladd, 1) := by decide +kernel
theorem dX7_digest_96 : decode cX7_digest 96 = .ok (.lstore_n 1, 1) := by decide +kernel
theorem dX7_digest_97 : decode cX7_digest 97 = .ok (.iinc 4 1, 3) := by decide +kernel
theorem dX7_digest_100 : decode cX7_digest 100 = .ok (.goto (-25), 3) := by decide +kernel
theorem dX7_digest_103 : decode cX7_digest 103 = .ok (.ldc2_w 177, 3) := by decide +kernel
theorem dX7_digest_106 : decode cX7_digest 106 = .ok (.lload_n 1, 1) := by decide +kernel
theorem dX7_digest_107 : decode cX7_digest 107 = .ok (.lmul, 1) := by decide +kernel
theorem dX7_digest_108 : decode cX7_digest 108 = .ok (.aload_n 0, 1) := by decide +kernel
theorem dX7_digest_109 : decode cX7_digest 109 = .ok (.iload_n 3, 1) := by decide +kernel
theorem dX7_digest_110 : decode cX7_digest 110 = .ok (.invokevirtual 158, 3) := by decide +kernel
theorem dX7_digest_113 : decode cX7_digest 113 = .ok (.i2l, 1) := by decide +kernel
theorem dX7_digest_114 : decode cX7_digest 114 = .ok (.ladd, 1) := by decide +kernel
theorem dX7_digest_115 : decode cX7_digest 115 = .ok (.lstore_n 1, 1) := by decide +kernel
theorem dX7_digest_116 : decode cX7_digest 116 = .ok (.ldc2_w 177, 3) := by decide +kernel
theorem dX7_digest_119 : decode cX7_digest 119 = .ok (.lload_n 1, 1) := by decide +kernel
theorem dX7_digest_120 : decode cX7_digest 120 = .ok (.lmul, 1) := by decide +kernel
theorem dX7_digest_121 : decode cX7_digest 121 = .ok (.aload_n 0, 1) := by decide +kernel
theorem dX7_digest_122 : decode cX7_digest 122 = .ok (.iload_n 3, 1) := by decide +kernel
theorem dX7_digest_123 : decode cX7_digest 123 = .ok (.invokevirtual 161, 3) := by decide +kernel
theorem dX7_digest_126 : decode cX7_digest 126 = .ok (.i2l, 1) := by decide +kernel
theorem dX7_digest_127 : decode cX7_digest 127 = .ok (.ladd, 1) := by decide +kernel
theorem dX7_digest_128 : decode cX7_digest 128 = .ok (.lstore_n 1, 1) := by decide +kernel
theorem dX7_digest_129 : decode cX7_digest 129 = .ok (.iinc 3 1, 3) := by decide +kernel
theorem dX7_digest_132 : decode cX7_digest 132 = .ok (.goto (-66), 3) := by decide +kernel
theorem dX7_digest_135 : decode cX7_digest 135 = .ok (.iconst 0, 1) := by decide +kernel
theorem dX7_digest_136 : decode cX7_digest 136 = .ok (.istore_n 3, 1) := by decide +kernel
theorem dX7_digest_137 : decode cX7_digest 137 = .ok (.iload_n 3, 1) := by decide +kernel
theorem dX7_digest_138 : decode cX7_digest 138 = .ok (.bipush 7, 2) := by decide +kernel
theorem dX7_digest_140 : decode cX7_digest 140 = .ok (.if_icmp .ge 67, 3) := by decide +kernel
theorem dX7_digest_143 : decode cX7_digest 143 = .ok (.iconst 0, 1) := by decide +kernel
theorem dX7_digest_144 : decode cX7_digest 144 = .ok (.istore 4, 2) := by decide +kernel
theorem dX7_digest_146 : decode cX7_digest 146 = .ok (.iload 4, 2) := by decide +kernel
theorem dX7_digest_148 : decode cX7_digest 148 = .ok (.bipush 6, 2) := by decide +kernel
theorem dX7_digest_150 : decode cX7_digest 150 = .ok (.if_icmp .ge 24, 3) := by decide +kernel
theorem dX7_digest_153 : decode cX7_digest 153 = .ok (.ldc2_w 177, 3) := by decide +kernel
theorem dX7_digest_156 : decode cX7_digest 156 = .ok (.lload_n 1, 1) := by decide +kernel
theorem dX7_digest_157 : decode cX7_digest 157 = .ok (.lmul, 1) := by decide +kernel
theorem dX7_digest_158 : decode cX7_digest 158 = .ok (.aload_n 0, 1) := by decide +kernel
theorem dX7_digest_159 : decode cX7_digest 159 = .ok (.iload_n 3, 1) := by decide +kernel
theorem dX7_digest_160 : decode cX7_digest 160 = .ok (.iload 4, 2) := by decide +kernel
theorem dX7_digest_162 : decode cX7_digest 162 = .ok (.invokevirtual 128, 3) := by decide +kernel
theorem dX7_digest_165 : decode cX7_digest 165 = .ok (.i2l, 1) := by decide +kernel
theorem dX7_digest_166 : decode cX7_digest 166 = .ok (.ladd, 1) := by decide +kernel
theorem dX7_digest_167 : decode cX7_digest 167 = .ok (.lstore_n 1, 1) := by decide +kernel
theorem dX7_digest_168 : decode cX7_digest 168 = .ok (.iinc 4 1, 3) := by decide +kernel
theorem dX7_digest_171 : decode cX7_digest 171 = .ok (.goto (-25), 3) := by decide +kernel
theorem dX7_digest_174 : decode cX7_digest 174 = .ok (.ldc2_w 177, 3) := by decide +kernel
theorem dX7_digest_177 : decode cX7_digest 177 = .ok (.lload_n 1, 1) := by decide +kernel
theorem dX7_digest_178 : decode cX7_digest 178 = .ok (.lmul, 1) := by decide +kernel
theorem dX7_digest_179 : decode cX7_digest 179 = .ok (.aload_n 0, 1) := by decide +kernel
theorem dX7_digest_180 : decode cX7_digest 180 = .ok (.iload_n 3, 1) := by decide +kernel
theorem dX7_digest_181 : decode cX7_digest 181 = .ok (.iconst 0, 1) := by decide +kernel
theorem dX7_digest_182 : decode cX7_digest 182 = .ok (.invokevirtual 143, 3) := by decide +kernel
theorem dX7_digest_185 : decode cX7_digest 185 = .ok (.i2l, 1) := by decide +kernel
theorem dX7_digest_186 : decode cX7_digest 186 = .ok (.ladd, 1) := by decide +kernel
theorem dX7_digest_187 : decode cX7_digest 187 = .ok (.lstore_n 1, 1) := by decide +kernel
theorem dX7_digest_188 : decode cX7_digest 188 = .ok (.ldc2_w 177, 3) := by decide +kernel
theorem dX7_digest_191 : decode cX7_digest 191 = .ok (.lload_n 1, 1) := by decide +kernel
theorem dX7_digest_192 : decode cX7_digest 192 = .ok (.lmul, 1) := by decide +kernel
theorem dX7_digest_193 : decode cX7_digest 193 = .ok (.aload_n 0, 1) := by decide +kernel
theorem dX7_digest_194 : decode cX7_digest 194 = .ok (.iload_n 3, 1) := by decide +kernel
theorem dX7_digest_195 : decode cX7_digest 195 = .ok (.invokevirtual 149, 3) := by decide +kernel
theorem dX7_digest_198 : decode cX7_digest 198 = .ok (.i2l, 1) := by decide +kernel
theorem dX7_digest_199 : decode cX7_digest 199 = .ok (.ladd, 1) := by decide +kernel
theorem dX7_digest_200 : decode cX7_digest 200 = .ok (.lstore_n 1, 1) := by decide +kernel
theorem dX7_digest_201 : decode cX7_digest 201 = .ok (.iinc 3 1, 3) := by decide +kernel
theorem dX7_digest_204 : decode cX7_digest 204 = .ok (.goto (-67), 3) := by decide +kernel
theorem dX7_digest_207 : decode cX7_digest 207 = .ok (.ldc2_w 177, 3) := by decide +kernel
theorem dX7_digest_210 : decode cX7_digest 210 = .ok (.lload_n 1, 1) := by decide +kernel
theorem dX7_digest_211 : decode cX7_digest 211 = .ok (.lmul, 1) := by decide +kernel
theorem dX7_digest_212 : decode cX7_digest 212 = .ok (.aload_n 0, 1) := by decide +kernel
theorem dX7_digest_213 : decode cX7_digest 213 = .ok (.invokevirtual 146, 3) := by decide +kernel
theorem dX7_digest_216 : decode cX7_digest 216 = .ok (.i2l, 1) := by decide +kernel
theorem dX7_digest_217 : decode cX7_digest 217 = .ok (.ladd, 1) := by decide +kernel
theorem dX7_digest_218 : decode cX7_digest 218 = .ok (.lstore_n 1, 1) := by decide +kernel
theorem dX7_digest_219 : decode cX7_digest 219 = .ok (.ldc2_w 177, 3) := by decide +kernel
theorem dX7_digest_222 : decode cX7_digest 222 = .ok (.lload_n 1, 1) := by decide +kernel
theorem dX7_digest_223 : decode cX7_digest 223 = .ok (.lmul, 1) := by decide +kernel
theorem dX7_digest_224 : decode cX7_digest 224 = .ok (.aload_n 0, 1) := by decide +kernel
theorem dX7_digest_225 : decode cX7_digest 225 = .ok (.invokevirtual 164, 3) := by decide +kernel
theorem dX7_digest_228 : decode cX7_digest 228 = .ok (.sipush 1023, 3) := by decide +kernel
theorem dX7_digest_231 : decode cX7_digest 231 = .ok (.bipush 52, 2) := by decide +kernel
theorem dX7_digest_233 : decode cX7_digest 233 = .ok (.invokestatic 179, 3) := by decide +kernel
theorem dX7_digest_236 : decode cX7_digest 236 = .ok (.ladd, 1) := by decide +kernel
theorem dX7_digest_237 : decode cX7_digest 237 = .ok (.lstore_n 1, 1) := by decide +kernel
theorem dX7_digest_238 : decode cX7_digest 238 = .ok (.ldc2_w 177, 3) := by decide +kernel
theorem dX7_digest_241 : decode cX7_digest 241 = .ok (.lload_n 1, 1) := by decide +kernel
theorem dX7_digest_242 : decode cX7_digest 242 = .ok (.lmul, 1) := by decide +kernel
theorem dX7_digest_243 : decode cX7_digest 243 = .ok (.aload_n 0, 1) := by decide +kernel
theorem dX7_digest_244 : decode cX7_digest 244 = .ok (.invokevirtual 169, 3) := by decide +kernel
theorem dX7_digest_247 : decode cX7_digest 247 = .ok (.f2d, 1) := by decide +kernel
theorem dX7_digest_248 : decode cX7_digest 248 = .ok (.bipush 127, 2) := by decide +kernel
theorem dX7_digest_250 : decode cX7_digest 250 = .ok (.bipush 23, 2) := by decide +kernel
theorem dX7_digest_252 : decode cX7_digest 252 = .ok (.invokestatic 179, 3) := by decide +kernel
theorem dX7_digest_255 : decode cX7_digest 255 = .ok (.ladd, 1) := by decide +kernel
theorem dX7_digest_256 : decode cX7_digest 256 = .ok (.lstore_n 1, 1) := by decide +kernel
theorem dX7_digest_257 : decode cX7_digest 257 = .ok (.ldc2_w 177, 3) := by decide +kernel
theorem dX7_digest_260 : decode cX7_digest 260 = .ok (.lload_n 1, 1) := by decide +kernel
theorem dX7_digest_261 : decode cX7_digest 261 = .ok (.lmul, 1) := by decide +kernel
theorem dX7_digest_262 : decode cX7_digest 262 = .ok (.aload_n 0, 1) := by decide +kernel
theorem dX7_digest_263 : decode cX7_digest 263 = .ok (.getfield 119, 3) := by decide +kernel
theorem dX7_digest_266 : decode cX7_digest 266 = .ok (.ifCond .eq 7, 3) := by decide +kernel
theorem dX7_digest_269 : decode cX7_digest 269 = .ok (.iconst 1, 1) := by decide +kernel
theorem dX7_digest_270 : decode cX7_digest 270 = .ok (.goto 4, 3) := by decide +kernel
theorem dX7_digest_273 : decode cX7_digest 273 = .ok (.iconst 0, 1) := by decide +kernel
theorem dX7_digest_274 : decode cX7_digest 274 = .ok (.i2l, 1) := by decide +kernel
theorem dX7_digest_275 : decode cX7_digest 275 = .ok (.ladd, 1) := by decide +kernel
theorem dX7_digest_276 : decode cX7_digest 276 = .ok (.lstore_n 1, 1) := by decide +kernel
theorem dX7_digest_277 : decode cX7_digest 277 = .ok (.ldc2_w 177, 3) := by decide +kernel
theorem dX7_digest_280 : decode cX7_digest 280 = .ok (.lload_n 1, 1) := by decide +kernel
theorem dX7_digest_281 : decode cX7_digest 281 = .ok (.lmul, 1) := by decide +kernel
theorem dX7_digest_282 : decode cX7_digest 282 = .ok (.aload_n 0, 1) := by decide +kernel
theorem dX7_digest_283 : decode cX7_digest 283 = .ok (.getfield 94, 3) := by decide +kernel
theorem dX7_digest_286 : decode cX7_digest 286 = .ok (.i2l, 1) := by decide +kernel
theorem dX7_digest_287 : decode cX7_digest 287 = .ok (.ladd, 1) := by decide +kernel
theorem dX7_digest_288 : decode cX7_digest 288 = .ok (.lstore_n 1, 1) := by decide +kernel
theorem dX7_digest_289 : decode cX7_digest 289 = .ok (.iconst 0, 1) := by decide +kernel
theorem dX7_digest_290 : decode cX7_digest 290 = .ok (.istore_n 3, 1) := by decide +kernel
theorem dX7_digest_291 : decode cX7_digest 291 = .ok (.iload_n 3, 1) := by decide +kernel
theorem dX7_digest_292 : decode cX7_digest 292 = .ok (.aload_n 0, 1) := by decide +kernel
theorem dX7_digest_293 : decode cX7_digest 293 = .ok (.getfield 94, 3) := by decide +kernel
theorem dX7_digest_296 : decode cX7_digest 296 = .ok (.if_icmp .ge 23, 3) := by decide +kernel
theorem dX7_digest_299 : decode cX7_digest 299 = .ok (.ldc2_w 177, 3) := by decide +kernel
theorem dX7_digest_302 : decode cX7_digest 302 = .ok (.lload_n 1, 1) := by decide +kernel
theorem dX7_digest_303 : decode cX7_digest 303 = .ok (.lmul, 1) := by decide +kernel
theorem dX7_digest_304 : decode cX7_digest 304 = .ok (.aload_n 0, 1) := by decide +kernel
theorem dX7_digest_305 : decode cX7_digest 305 = .ok (.getfield 22, 3) := by decide +kernel
theorem dX7_digest_308 : decode cX7_digest 308 = .ok (.iload_n 3, 1) := by decide +kernel
theorem dX7_digest_309 : decode cX7_digest 309 = .ok (.iaload, 1) := by decide +kernel
theorem dX7_digest_310 : decode cX7_digest 310 = .ok (.i2l, 1) := by decide +kernel
theorem dX7_digest_311 : decode cX7_digest 311 = .ok (.ladd, 1) := by decide +kernel
theorem dX7_digest_312 : decode cX7_digest 312 = .ok (.lstore_n 1, 1) := by decide +kernel
theorem dX7_digest_313 : decode cX7_digest 313 = .ok (.iinc 3 1, 3) := by decide +kernel
theorem dX7_digest_316 : decode cX7_digest 316 = .ok (.goto (-25), 3) := by decide +kernel
theorem dX7_digest_319 : decode cX7_digest 319 = .ok (.lload_n 1, 1) := by decide +kernel
theorem dX7_digest_320 : decode cX7_digest 320 = .ok (.lreturn, 1) := by decide +kernel
theorem dL_tick_0 : decode cL_tick 0 = .ok (.aload_n 2, 1) := by decide +kernel
theorem dL_tick_1 : decode cL_tick 1 = .ok (.iconst 0, 1) := by decide +kernel
theorem dL_tick_2 : decode cL_tick 2 = .ok (.aload_n 0, 1) := by decide +kernel
theorem dL_tick_3 : decode cL_tick 3 = .ok (.iload_n 1, 1) := by decide +kernel
theorem dL_tick_4 : decode cL_tick 4 = .ok (.invokevirtual 7, 3) := by decide +kernel
theorem dL_tick_7 : decode cL_tick 7 = .ok (.i2l, 1) := by decide +kernel
theorem dL_tick_8 : decode cL_tick 8 = .ok (.lastore, 1) := by decide +kernel
theorem dL_tick_9 : decode cL_tick 9 = .ok (.goto 6, 3) := by decide +kernel
theorem dL_tick_12 : decode cL_tick 12 = .ok (.astore_n 3, 1) := by decide +kernel
theorem dL_tick_13 : decode cL_tick 13 = .ok (.iconst 1, 1) := by decide +kernel
theorem dL_tick_14 : decode cL_tick 14 = .ok (.ireturn, 1) := by decide +kernel
theorem dL_tick_15 : decode cL_tick 15 = .ok (.iconst 0, 1) := by decide +kernel
theorem dL_tick_16 : decode cL_tick 16 = .ok (.ireturn, 1) := by decide +kernel
theorem dL_vote_0 : decode cL_vote 0 = .ok (.aload_n 1, 1) := by decide +kernel
theorem dL_vote_1 : decode cL_vote 1 = .ok (.iconst 0, 1) := by decide +kernel
theorem dL_vote_2 : decode cL_vote 2 = .ok (.aload_n 0, 1) := by decide +kernel
theorem dL_vote_3 : decode cL_vote 3 = .ok (.invokevirtual 15, 3) := by decide +kernel
theorem dL_vote_6 : decode cL_vote 6 = .ok (.i2l, 1) := by decide +kernel
theorem dL_vote_7 : decode cL_vote 7 = .ok (.lastore, 1) := by decide +kernel
theorem dL_vote_8 : decode cL_vote 8 = .ok (.goto 6, 3) := by decide +kernel
theorem dL_vote_11 : decode cL_vote 11 = .ok (.astore_n 2, 1) := by decide +kernel
theorem dL_vote_12 : decode cL_vote 12 = .ok (.iconst 1, 1) := by decide +kernel
theorem dL_vote_13 : decode cL_vote 13 = .ok (.ireturn, 1) := by decide +kernel
theorem dL_vote_14 : decode cL_vote 14 = .ok (.iconst 0, 1) := by decide +kernel
theorem dL_vote_15 : decode cL_vote 15 = .ok (.ireturn, 1) := by decide +kernel
theorem dL_put_0 : decode cL_put 0 = .ok (.aload_n 3, 1) := by decide +kernel
theorem dL_put_1 : decode cL_put 1 = .ok (.iconst 0, 1) := by decide +kernel
theorem dL_put_2 : decode cL_put 2 = .ok (.aload_n 0, 1) := by decide +kernel
theorem dL_put_3 : decode cL_put 3 = .ok (.iload_n 1, 1) := by decide +kernel
theorem dL_put_4 : decode cL_put 4 = .ok (.iload_n 2, 1) := by decide +kernel
theorem dL_put_5 : decode cL_put 5 = .ok (.invokevirtual 21, 3) := by decide +kernel
theorem dL_put_8 : decode cL_put 8 = .ok (.i2l, 1) := by decide +kernel
theorem dL_put_9 : decode cL_put 9 = .ok (.lastore, 1) := by decide +kernel
theorem dL_put_10 : decode cL_put 10 = .ok (.goto 11, 3) := by decide +kernel
theorem dL_put_13 : decode cL_put 13 = .ok (.astore 4, 2) := by decide +kernel
theorem dL_put_15 : decode cL_put 15 = .ok (.iconst 1, 1) := by decide +kernel
theorem dL_put_16 : decode cL_put 16 = .ok (.ireturn, 1) := by decide +kernel
theorem dL_put_17 : decode cL_put 17 = .ok (.astore 4, 2) := by decide +kernel
theorem dL_put_19 : decode cL_put 19 = .ok (.iconst 2, 1) := by decide +kernel
theorem dL_put_20 : decode cL_put 20 = .ok (.ireturn, 1) := by decide +kernel
theorem dL_put_21 : decode cL_put 21 = .ok (.iconst 0, 1) := by decide +kernel
theorem dL_put_22 : decode cL_put 22 = .ok (.ireturn, 1) := by decide +kernel
theorem dL_drift_0 : decode cL_drift 0 = .ok (.aload_n 3, 1) := by decide +kernel
theorem dL_drift_1 : decode cL_drift 1 = .ok (.iconst 0, 1) := by decide +kernel
theorem dL_drift_2 : decode cL_drift 2 = .ok (.aload_n 0, 1) := by decide +kernel
theorem dL_drift_3 : decode cL_drift 3 = .ok (.iload_n 1, 1) := by decide +kernel
theorem dL_drift_4 : decode cL_drift 4 = .ok (.iload_n 2, 1) := by decide +kernel
theorem dL_drift_5 : decode cL_drift 5 = .ok (.invokevirtual 27, 3) := by decide +kernel
theorem dL_drift_8 : decode cL_drift 8 = .ok (.i2l, 1) := by decide +kernel
theorem dL_drift_9 : decode cL_drift 9 = .ok (.lastore, 1) := by decide +kernel
theorem dL_drift_10 : decode cL_drift 10 = .ok (.goto 11, 3) := by decide +kernel
theorem dL_drift_13 : decode cL_drift 13 = .ok (.astore 4, 2) := by decide +kernel
theorem dL_drift_15 : decode cL_drift 15 = .ok (.iconst 1, 1) := by decide +kernel
theorem dL_drift_16 : decode cL_drift 16 = .ok (.ireturn, 1) := by decide +kernel
theorem dL_drift_17 : decode cL_drift 17 = .ok (.astore 4, 2) := by decide +kernel
theorem dL_drift_19 : decode cL_drift 19 = .ok (.iconst 2, 1) := by decide +kernel
theorem dL_drift_20 : decode cL_drift 20 = .ok (.ireturn, 1) := by decide +kernel
theorem dL_drift_21 : decode cL_drift 21 = .ok (.iconst 0, 1) := by decide +kernel
theorem dL_drift_22 : decode cL_drift 22 = .ok (.ireturn, 1) := by decide +kernel
theorem dL_warden_0 : decode cL_warden 0 = .ok (.aload 4, 2) := by decide +kernel
theorem dL_warden_2 : decode cL_warden 2 = .ok (.iconst 0, 1) := by decide +kernel
theorem dL_warden_3 : decode cL_warden 3 = .ok (.aload_n 0, 1) := by decide +kernel
theorem dL_warden_4 : decode cL_warden 4 = .ok (.iload_n 1, 1) := by decide +kernel
theorem dL_warden_5 : decode cL_warden 5 = .ok (.iload_n 2, 1) := by decide +kernel
theorem dL_warden_6 : decode cL_warden 6 = .ok (.iload_n 3, 1) := by decide +kernel
theorem dL_warden_7 : decode cL_warden 7 = .ok (.invokevirtual 30, 3) := by decide +kernel
theorem dL_warden_10 : decode cL_warden 10 = .ok (.i2l, 1) := by decide +kernel
theorem dL_warden_11 : decode cL_warden 11 = .ok (.lastore, 1) := by decide +kernel
theorem dL_warden_12 : decode cL_warden 12 = .ok (.goto 11, 3) := by decide +kernel
theorem dL_warden_15 : decode cL_warden 15 = .ok (.astore 5, 2) := by decide +kernel
theorem dL_warden_17 : decode cL_warden 17 = .ok (.iconst 1, 1) := by decide +kernel
theorem dL_warden_18 : decode cL_warden 18 = .ok (.ireturn, 1) := by decide +kernel
theorem dL_warden_19 : decode cL_warden 19 = .ok (.astore 5, 2) := by decide +kernel
theorem dL_warden_21 : decode cL_warden 21 = .ok (.iconst 2, 1) := by decide +kernel
theorem dL_warden_22 : decode cL_warden 22 = .ok (.ireturn, 1) := by decide +kernel
theorem dL_warden_23 : decode cL_warden 23 = .ok (.iconst 0, 1) := by decide +kernel
theorem dL_warden_24 : decode cL_warden 24 = .ok (.ireturn, 1) := by decide +kernel
theorem dL_set_0 : decode cL_set 0 = .ok (.aload_n 3, 1) := by decide +kernel
theorem dL_set_1 : decode cL_set 1 = .ok (.iconst 0, 1) := by decide +kernel
theorem dL_set_2 : decode cL_set 2 = .ok (.aload_n 0, 1) := by decide +kernel
theorem dL_set_3 : decode cL_set 3 = .ok (.iload_n 1, 1) := by decide +kernel
theorem dL_set_4 : decode cL_set 4 = .ok (.iload_n 2, 1) := by decide +kernel
theorem dL_set_5 : decode cL_set 5 = .ok (.invokevirtual 34, 3) := by decide +kernel
theorem dL_set_8 : decode cL_set 8 = .ok (.i2l, 1) := by decide +kernel
theorem dL_set_9 : decode cL_set 9 = .ok (.lastore, 1) := by decide +kernel
theorem dL_set_10 : decode cL_set 10 = .ok (.goto 11, 3) := by decide +kernel
theorem dL_set_13 : decode cL_set 13 = .ok (.astore 4, 2) := by decide +kernel
theorem dL_set_15 : decode cL_set 15 = .ok (.iconst 1, 1) := by decide +kernel
theorem dL_set_16 : decode cL_set 16 = .ok (.ireturn, 1) := by decide +kernel
theorem dL_set_17 : decode cL_set 17 = .ok (.astore 4, 2) := by decide +kernel
theorem dL_set_19 : decode cL_set 19 = .ok (.iconst 2, 1) := by decide +kernel
theorem dL_set_20 : decode cL_set 20 = .ok (.ireturn, 1) := by decide +kernel
theorem dL_set_21 : decode cL_set 21 = .ok (.iconst 0, 1) := by decide +kernel
theorem dL_set_22 : decode cL_set 22 = .ok (.ireturn, 1) := by decide +kernel
theorem dL_append_0 : decode cL_append 0 = .ok (.aload_n 2, 1) := by decide +kernel
theorem dL_append_1 : decode cL_append 1 = .ok (.iconst 0, 1) := by decide +kernel
theorem dL_append_2 : decode cL_append 2 = .ok (.aload_n 0, 1) := by decide +kernel
theorem dL_append_3 : decode cL_append 3 = .ok (.iload_n 1, 1) := by decide +kernel
theorem dL_append_4 : decode cL_append 4 = .ok (.invokevirtual 37, 3) := by decide +kernel
theorem dL_append_7 : decode cL_append 7 = .ok (.i2l, 1) := by decide +kernel
theorem dL_append_8 : decode cL_append 8 = .ok (.lastore, 1) := by decide +kernel
theorem dL_append_9 : decode cL_append 9 = .ok (.goto 9, 3) := by decide +kernel
theorem dL_append_12 : decode cL_append 12 = .ok (.astore_n 3, 1) := by decide +kernel
theorem dL_append_13 : decode cL_append 13 = .ok (.iconst 1, 1) := by decide +kernel
theorem dL_append_14 : decode cL_append 14 = .ok (.ireturn, 1) := by decide +kernel
theorem dL_append_15 : decode cL_append 15 = .ok (.astore_n 3, 1) := by decide +kernel
theorem dL_append_16 : decode cL_append 16 = .ok (.iconst 2, 1) := by decide +kernel
theorem dL_append_17 : decode cL_append 17 = .ok (.ireturn, 1) := by decide +kernel
theorem dL_append_18 : decode cL_append 18 = .ok (.iconst 0, 1) := by decide +kernel
theorem dL_append_19 : decode cL_append 19 = .ok (.ireturn, 1) := by decide +kernel
theorem dL_obey_0 : decode cL_obey 0 = .ok (.aload_n 1, 1) := by decide +kernel
theorem dL_obey_1 : decode cL_obey 1 = .ok (.iconst 0, 1) := by decide +kernel
theorem dL_obey_2 : decode cL_obey 2 = .ok (.aload_n 0, 1) := by decide +kernel
theorem dL_obey_3 : decode cL_obey 3 = .ok (.invokevirtual 40, 3) := by decide +kernel
theorem dL_obey_6 : decode cL_obey 6 = .ok (.i2l, 1) := by decide +kernel
theorem dL_obey_7 : decode cL_obey 7 = .ok (.lastore, 1) := by decide +kernel
theorem dL_obey_8 : decode cL_obey 8 = .ok (.goto 6, 3) := by decide +kernel
theorem dL_obey_11 : decode cL_obey 11 = .ok (.astore_n 2, 1) := by decide +kernel
theorem dL_obey_12 : decode cL_obey 12 = .ok (.iconst 1, 1) := by decide +kernel
theorem dL_obey_13 : decode cL_obey 13 = .ok (.ireturn, 1) := by decide +kernel
theorem dL_obey_14 : decode cL_obey 14 = .ok (.iconst 0, 1) := by decide +kernel
theorem dL_obey_15 : decode cL_obey 15 = .ok (.ireturn, 1) := by decide +kernel
theorem dL_goBack_0 : decode cL_goBack 0 = .ok (.aload_n 1, 1) := by decide +kernel
theorem dL_goBack_1 : decode cL_goBack 1 = .ok (.iconst 0, 1) := by decide +kernel
theorem dL_goBack_2 : decode cL_goBack 2 = .ok (.aload_n 0, 1) := by decide +kernel
theorem dL_goBack_3 : decode cL_goBack 3 = .ok (.invokevirtual 43, 3) := by decide +kernel
theorem dL_goBack_6 : decode cL_goBack 6 = .ok (.i2l, 1) := by decide +kernel
theorem dL_goBack_7 : decode cL_goBack 7 = .ok (.lastore, 1) := by decide +kernel
theorem dL_goBack_8 : decode cL_goBack 8 = .ok (.goto 6, 3) := by decide +kernel
theorem dL_goBack_11 : decode cL_goBack 11 = .ok (.astore_n 2, 1) := by decide +kernel
theorem dL_goBack_12 : decode cL_goBack 12 = .ok (.iconst 1, 1) := by decide +kernel
theorem dL_goBack_13 : decode cL_goBack 13 = .ok (.ireturn, 1) := by decide +kernel
theorem dL_goBack_14 : decode cL_goBack 14 = .ok (.iconst 0, 1) := by decide +kernel
theorem dL_goBack_15 : decode cL_goBack 15 = .ok (.ireturn, 1) := by decide +kernel
theorem dL_undo_0 : decode cL_undo 0 = .ok (.aload_n 1, 1) := by decide +kernel
theorem dL_undo_1 : decode cL_undo 1 = .ok (.iconst 0, 1) := by decide +kernel
theorem dL_undo_2 : decode cL_undo 2 = .ok (.aload_n 0, 1) := by decide +kernel
theorem dL_undo_3 : decode cL_undo 3 = .ok (.invokevirtual 46, 3) := by decide +kernel
theorem dL_undo_6 : decode cL_undo 6 = .ok (.i2l, 1) := by decide +kernel
theorem dL_undo_7 : decode cL_undo 7 = .ok (.lastore, 1) := by decide +kernel
theorem dL_undo_8 : decode cL_undo 8 = .ok (.goto 6, 3) := by decide +kernel
theorem dL_undo_11 : decode cL_undo 11 = .ok (.astore_n 2, 1) := by decide +kernel
theorem dL_undo_12 : decode cL_undo 12 = .ok (.iconst 1, 1) := by decide +kernel
theorem dL_undo_13 : decode cL_undo 13 = .ok (.ireturn, 1) := by decide +kernel
theorem dL_undo_14 : decode cL_undo 14 = .ok (.iconst 0, 1) := by decide +kernel
theorem dL_undo_15 : decode cL_undo 15 = .ok (.ireturn, 1) := by decide +kernel
theorem dL_dial_0 : decode cL_dial 0 = .ok (.aload_n 3, 1) := by decide +kernel
theorem dL_dial_1 : decode cL_dial 1 = .ok (.iconst 0, 1) := by decide +kernel
theorem dL_dial_2 : decode cL_dial 2 = .ok (.aload_n 0, 1) := by decide +kernel
theorem dL_dial_3 : decode cL_dial 3 = .ok (.iload_n 1, 1) := by decide +kernel
theorem dL_dial_4 : decode cL_dial 4 = .ok (.iload_n 2, 1) := by decide +kernel
theorem dL_dial_5 : decode cL_dial 5 = .ok (.invokevirtual 49, 3) := by decide +kernel
theorem dL_dial_8 : decode cL_dial 8 = .ok (.i2l, 1) := by decide +kernel
theorem dL_dial_9 : decode cL_dial 9 = .ok (.lastore, 1) := by decide +kernel
theorem dL_dial_10 : decode cL_dial 10 = .ok (.goto 11, 3) := by decide +kernel
theorem dL_dial_13 : decode cL_dial 13 = .ok (.astore 4, 2) := by decide +kernel
theorem dL_dial_15 : decode cL_dial 15 = .ok (.iconst 1, 1) := by decide +kernel
theorem dL_dial_16 : decode cL_dial 16 = .ok (.ireturn, 1) := by decide +kernel
theorem dL_dial_17 : decode cL_dial 17 = .ok (.astore 4, 2) := by decide +kernel
theorem dL_dial_19 : decode cL_dial 19 = .ok (.iconst 2, 1) := by decide +kernel
theorem dL_dial_20 : decode cL_dial 20 = .ok (.ireturn, 1) := by decide +kernel
theorem dL_dial_21 : decode cL_dial 21 = .ok (.iconst 0, 1) := by decide +kernel
theorem dL_dial_22 : decode cL_dial 22 = .ok (.ireturn, 1) := by decide +kernel
theorem dL_says_0 : decode cL_says 0 = .ok (.aload_n 3, 1) := by decide +kernel
theorem dL_says_1 : decode cL_says 1 = .ok (.iconst 0, 1) := by decide +kernel
theorem dL_says_2 : decode cL_says 2 = .ok (.aload_n 0, 1) := by decide +kernel
theorem dL_says_3 : decode cL_says 3 = .ok (.iload_n 1, 1) := by decide +kernel
theorem dL_says_4 : decode cL_says 4 = .ok (.iload_n 2, 1) := by decide +kernel
theorem dL_says_5 : decode cL_says 5 = .ok (.invokevirtual 52, 3) := by decide +kernel
theorem dL_says_8 : decode cL_says 8 = .ok (.i2l, 1) := by decide +kernel
theorem dL_says_9 : decode cL_says 9 = .ok (.lastore, 1) := by decide +kernel
theorem dL_says_10 : decode cL_says 10 = .ok (.goto 11, 3) := by decide +kernel
theorem dL_says_13 : decode cL_says 13 = .ok (.astore 4, 2) := by decide +kernel
theorem dL_says_15 : decode cL_says 15 = .ok (.iconst 1, 1) := by decide +kernel
theorem dL_says_16 : decode cL_says 16 = .ok (.ireturn, 1) := by decide +kernel
theorem dL_says_17 : decode cL_says 17 = .ok (.astore 4, 2) := by decide +kernel
theorem dL_says_19 : decode cL_says 19 = .ok (.iconst 2, 1) := by decide +kernel
theorem dL_says_20 : decode cL_says 20 = .ok (.ireturn, 1) := by decide +kernel
theorem dL_says_21 : decode cL_says 21 = .ok (.iconst 0, 1) := by decide +kernel
theorem dL_says_22 : decode cL_says 22 = .ok (.ireturn, 1) := by decide +kernel
theorem dL_count_0 : decode cL_count 0 = .ok (.aload_n 2, 1) := by decide +kernel
theorem dL_count_1 : decode cL_count 1 = .ok (.iconst 0, 1) := by decide +kernel
theorem dL_count_2 : decode cL_count 2 = .ok (.aload_n 0, 1) := by decide +kernel
theorem dL_count_3 : decode cL_count 3 = .ok (.iload_n 1, 1) := by decide +kernel
theorem dL_count_4 : decode cL_count 4 = .ok (.invokevirtual 55, 3) := by decide +kernel
theorem dL_count_7 : decode cL_count 7 = .ok (.i2l, 1) := by decide +kernel
theorem dL_count_8 : decode cL_count 8 = .ok (.lastore, 1) := by decide +kernel
theorem dL_count_9 : decode cL_count 9 = .ok (.goto 6, 3) := by decide +kernel
theorem dL_count_12 : decode cL_count 12 = .ok (.astore_n 3, 1) := by decide +kernel
theorem dL_count_13 : decode cL_count 13 = .ok (.iconst 1, 1) := by decide +kernel
theorem dL_count_14 : decode cL_count 14 = .ok (.ireturn, 1) := by decide +kernel
theorem dL_count_15 : decode cL_count 15 = .ok (.iconst 0, 1) := by decide +kernel
theorem dL_count_16 : decode cL_count 16 = .ok (.ireturn, 1) := by decide +kernel
theorem dL_setting_0 : decode cL_setting 0 = .ok (.aload_n 2, 1) := by decide +kernel
theorem dL_setting_1 : decode cL_setting 1 = .ok (.iconst 0, 1) := by decide +kernel
theorem dL_setting_2 : decode cL_setting 2 = .ok (.aload_n 0, 1) := by decide +kernel
theorem dL_setting_3 : decode cL_setting 3 = .ok (.iload_n 1, 1) := by decide +kernel
theorem dL_setting_4 : decode cL_setting 4 = .ok (.invokevirtual 58, 3) := by decide +kernel
theorem dL_setting_7 : decode cL_setting 7 = .ok (.i2l, 1) := by decide +kernel
theorem dL_setting_8 : decode cL_setting 8 = .ok (.lastore, 1) := by decide +kernel
theorem dL_setting_9 : decode cL_setting 9 = .ok (.goto 6, 3) := by decide +kernel
theorem dL_setting_12 : decode cL_setting 12 = .ok (.astore_n 3, 1) := by decide +kernel
theorem dL_setting_13 : decode cL_setting 13 = .ok (.iconst 1, 1) := by decide +kernel
theorem dL_setting_14 : decode cL_setting 14 = .ok (.ireturn, 1) := by decide +kernel
theorem dL_setting_15 : decode cL_setting 15 = .ok (.iconst 0, 1) := by decide +kernel
theorem dL_setting_16 : decode cL_setting 16 = .ok (.ireturn, 1) := by decide +kernel
theorem dL_without_0 : decode cL_without 0 = .ok (.aload_n 2, 1) := by decide +kernel
theorem dL_without_1 : decode cL_without 1 = .ok (.iconst 0, 1) := by decide +kernel
theorem dL_without_2 : decode cL_without 2 = .ok (.aload_n 0, 1) := by decide +kernel
theorem dL_without_3 : decode cL_without 3 = .ok (.iload_n 1, 1) := by decide +kernel
theorem dL_without_4 : decode cL_without 4 = .ok (.invokevirtual 61, 3) := by decide +kernel
theorem dL_without_7 : decode cL_without 7 = .ok (.i2l, 1) := by decide +kernel
theorem dL_without_8 : decode cL_without 8 = .ok (.lastore, 1) := by decide +kernel
theorem dL_without_9 : decode cL_without 9 = .ok (.goto 6, 3) := by decide +kernel
theorem dL_without_12 : decode cL_without 12 = .ok (.astore_n 3, 1) := by decide +kernel
theorem dL_without_13 : decode cL_without 13 = .ok (.iconst 1, 1) := by decide +kernel
theorem dL_without_14 : decode cL_without 14 = .ok (.ireturn, 1) := by decide +kernel
theorem dL_without_15 : decode cL_without 15 = .ok (.iconst 0, 1) := by decide +kernel
theorem dL_without_16 : decode cL_without 16 = .ok (.ireturn, 1) := by decide +kernel
theorem dL_wins_0 : decode cL_wins 0 = .ok (.aload_n 2, 1) := by decide +kernel
theorem dL_wins_1 : decode cL_wins 1 = .ok (.iconst 0, 1) := by decide +kernel
theorem dL_wins_2 : decode cL_wins 2 = .ok (.aload_n 0, 1) := by decide +kernel
theorem dL_wins_3 : decode cL_wins 3 = .ok (.iload_n 1, 1) := by decide +kernel
theorem dL_wins_4 : decode cL_wins 4 = .ok (.invokevirtual 64, 3) := by decide +kernel
theorem dL_wins_7 : decode cL_wins 7 = .ok (.i2l, 1) := by decide +kernel
theorem dL_wins_8 : decode cL_wins 8 = .ok (.lastore, 1) := by decide +kernel
theorem dL_wins_9 : decode cL_wins 9 = .ok (.goto 6, 3) := by decide +kernel
theorem dL_wins_12 : decode cL_wins 12 = .ok (.astore_n 3, 1) := by decide +kernel
theorem dL_wins_13 : decode cL_wins 13 = .ok (.iconst 1, 1) := by decide +kernel
theorem dL_wins_14 : decode cL_wins 14 = .ok (.ireturn, 1) := by decide +kernel
theorem dL_wins_15 : decode cL_wins 15 = .ok (.iconst 0, 1) := by decide +kernel
theorem dL_wins_16 : decode cL_wins 16 = .ok (.ireturn, 1) := by decide +kernel
theorem dL_quarrelIn_0 : decode cL_quarrelIn 0 = .ok (.aload_n 2, 1) := by decide +kernel
theorem dL_quarrelIn_1 : decode cL_quarrelIn 1 = .ok (.iconst 0, 1) := by decide +kernel
theorem dL_quarrelIn_2 : decode cL_quarrelIn 2 = .ok (.aload_n 0, 1) := by decide +kernel
theorem dL_quarrelIn_3 : decode cL_quarrelIn 3 = .ok (.iload_n 1, 1) := by decide +kernel
theorem dL_quarrelIn_4 : decode cL_quarrelIn 4 = .ok (.invokevirtual 67, 3) := by decide +kernel
theorem dL_quarrelIn_7 : decode cL_quarrelIn 7 = .ok (.i2l, 1) := by decide +kernel
theorem dL_quarrelIn_8 : decode cL_quarrelIn 8 = .ok (.lastore, 1) := by decide +kernel
theorem dL_quarrelIn_9 : decode cL_quarrelIn 9 = .ok (.goto 6, 3) := by decide +kernel
theorem dL_quarrelIn_12 : decode cL_quarrelIn 12 = .ok (.astore_n 3, 1) := by decide +kernel
theorem dL_quarrelIn_13 : decode cL_quarrelIn 13 = .ok (.iconst 1, 1) := by decide +kernel
theorem dL_quarrelIn_14 : decode cL_quarrelIn 14 = .ok (.ireturn, 1) := by decide +kernel
theorem dL_quarrelIn_15 : decode cL_quarrelIn 15 = .ok (.iconst 0, 1) := by decide +kernel
theorem dL_quarrelIn_16 : decode cL_quarrelIn 16 = .ok (.ireturn, 1) := by decide +kernel
theorem dL_ringsIn_0 : decode cL_ringsIn 0 = .ok (.aload_n 2, 1) := by decide +kernel
theorem dL_ringsIn_1 : decode cL_ringsIn 1 = .ok (.iconst 0, 1) := by decide +kernel
theorem dL_ringsIn_2 : decode cL_ringsIn 2 = .ok (.aload_n 0, 1) := by decide +kernel
theorem dL_ringsIn_3 : decode cL_ringsIn 3 = .ok (.iload_n 1, 1) := by decide +kernel
theorem dL_ringsIn_4 : decode cL_ringsIn 4 = .ok (.invokevirtual 70, 3) := by decide +kernel
theorem dL_ringsIn_7 : decode cL_ringsIn 7 = .ok (.i2l, 1) := by decide +kernel
theorem dL_ringsIn_8 : decode cL_ringsIn 8 = .ok (.lastore, 1) := by decide +kernel
theorem dL_ringsIn_9 : decode cL_ringsIn 9 = .ok (.goto 6, 3) := by decide +kernel
theorem dL_ringsIn_12 : decode cL_ringsIn 12 = .ok (.astore_n 3, 1) := by decide +kernel
theorem dL_ringsIn_13 : decode cL_ringsIn 13 = .ok (.iconst 1, 1) := by decide +kernel
theorem dL_ringsIn_14 : decode cL_ringsIn 14 = .ok (.ireturn, 1) := by decide +kernel
theorem dL_ringsIn_15 : decode cL_ringsIn 15 = .ok (.iconst 0, 1) := by decide +kernel
theorem dL_ringsIn_16 : decode cL_ringsIn 16 = .ok (.ireturn, 1) := by decide +kernel
theorem dL_law_0 : decode cL_law 0 = .ok (.new 8, 3) := by decide +kernel
theorem dL_law_3 : decode cL_law 3 = .ok (.dup, 1) := by decide +kernel
theorem dL_law_4 : decode cL_law 4 = .ok (.invokespecial 73, 3) := by decide +kernel
theorem dL_law_7 : decode cL_law 7 = .ok (.astore_n 1, 1) := by decide +kernel
theorem dL_law_8 : decode cL_law 8 = .ok (.new 74, 3) := by decide +kernel
theorem dL_law_11 : decode cL_law 11 = .ok (.dup, 1) := by decide +kernel
theorem dL_law_12 : decode cL_law 12 = .ok (.invokespecial 76, 3) := by decide +kernel
theorem dL_law_15 : decode cL_law 15 = .ok (.astore_n 2, 1) := by decide +kernel
theorem dL_law_16 : decode cL_law 16 = .ok (.iconst 1, 1) := by decide +kernel
theorem dL_law_17 : decode cL_law 17 = .ok (.newarray .long, 2) := by decide +kernel
theorem dL_law_19 : decode cL_law 19 = .ok (.astore_n 3, 1) := by decide +kernel
theorem dL_law_20 : decode cL_law 20 = .ok (.iconst 0, 1) := by decide +kernel
theorem dL_law_21 : decode cL_law 21 = .ok (.istore 4, 2) := by decide +kernel
theorem dL_law_23 : decode cL_law 23 = .ok (.iload 4, 2) := by decide +kernel
theorem dL_law_25 : decode cL_law 25 = .ok (.aload_n 0, 1) := by decide +kernel
theorem dL_law_26 : decode cL_law 26 = .ok (.arraylength, 1) := by decide +kernel
theorem dL_law_27 : decode cL_law 27 = .ok (.iconst 4, 1) := by decide +kernel
theorem dL_law_28 : decode cL_law 28 = .ok (.isub, 1) := by decide +kernel
theorem dL_law_29 : decode cL_law 29 = .ok (.if_icmp .gt 1340, 3) := by decide +kernel
theorem dL_law_32 : decode cL_law 32 = .ok (.aload_n 0, 1) := by decide +kernel
theorem dL_law_33 : decode cL_law 33 = .ok (.iload 4, 2) := by decide +kernel
theorem dL_law_35 : decode cL_law 35 = .ok (.iaload, 1) := by decide +kernel
theorem dL_law_36 : decode cL_law 36 = .ok (.bipush 31, 2) := by decide +kernel
theorem dL_law_38 : decode cL_law 38 = .ok (.iand, 1) := by decide +kernel
theorem dL_law_39 : decode cL_law 39 = .ok (.tableswitch 1324 0 25 #[117, 173, 217, 230, 298, 366, 446, 514, 570, 583, 596, 640, 653, 697, 741, 809, 877, 933, 989, 1045, 1058, 1114, 1170, 1226, 1267, 1310], 117) := by decide +kernel
theorem dL_law_156 : decode cL_law 156 = .ok (.aload_n 1, 1) := by decide +kernel
theorem dL_law_157 : decode cL_law 157 = .ok (.aload_n 0, 1) := by decide +kernel
theorem dL_law_158 : decode cL_law 158 = .ok (.iload 4, 2) := by decide +kernel
theorem dL_law_160 : decode cL_law 160 = .ok (.iconst 1, 1) := by decide +kernel
theorem dL_law_161 : decode cL_law 161 = .ok (.iadd, 1) := by decide +kernel
theorem dL_law_162 : decode cL_law 162 = .ok (.iaload, 1) := by decide +kernel
theorem dL_law_163 : decode cL_law 163 = .ok (.aload_n 3, 1) := by decide +kernel
theorem dL_law_164 : decode cL_law 164 = .ok (.invokestatic 77, 3) := by decide +kernel
theorem dL_law_167 : decode cL_law 167 = .ok (.istore 5, 2) := by decide +kernel
theorem dL_law_169 : decode cL_law 169 = .ok (.aload_n 2, 1) := by decide +kernel
theorem dL_law_170 : decode cL_law 170 = .ok (.aload_n 0, 1) := by decide +kernel
theorem dL_law_171 : decode cL_law 171 = .ok (.iload 4, 2) := by decide +kernel
theorem dL_law_173 : decode cL_law 173 = .ok (.iconst 1, 1) := by decide +kernel
theorem dL_law_174 : decode cL_law 174 = .ok (.iadd, 1) := by decide +kernel
theorem dL_law_175 : decode cL_law 175 = .ok (.iaload, 1) := by decide +kernel
theorem dL_law_176 : decode cL_law 176 = .ok (.invokevirtual 82, 3) := by decide +kernel
theorem dL_law_179 : decode cL_law 179 = .ok (.istore 6, 2) := by decide +kernel
theorem dL_law_181 : decode cL_law 181 = .ok (.aload_n 2, 1) := by decide +kernel
theorem dL_law_182 : decode cL_law 182 = .ok (.invokevirtual 83, 3) := by decide +kernel
theorem dL_law_185 : decode cL_law 185 = .ok (.iload 5, 2) := by decide +kernel
theorem dL_law_187 : decode cL_law 187 = .ok (.if_icmp .eq 5, 3) := by decide +kernel
theorem dL_law_190 : decode cL_law 190 = .ok (.iconst 0, 1) := by decide +kernel
theorem dL_law_191 : decode cL_law 191 = .ok (.ireturn, 1) := by decide +kernel
theorem dL_law_192 : decode cL_law 192 = .ok (.iload 5, 2) := by decide +kernel
theorem dL_law_194 : decode cL_law 194 = .ok (.ifCond .ne 15, 3) := by decide +kernel
theorem dL_law_197 : decode cL_law 197 = .ok (.aload_n 3, 1) := by decide +kernel
theorem dL_law_198 : decode cL_law 198 = .ok (.iconst 0, 1) := by decide +kernel
theorem dL_law_199 : decode cL_law 199 = .ok (.laload, 1) := by decide +kernel
theorem dL_law_200 : decode cL_law 200 = .ok (.iload 6, 2) := by decide +kernel
theorem dL_law_202 : decode cL_law 202 = .ok (.i2l, 1) := by decide +kernel
theorem dL_law_203 : decode cL_law 203 = .ok (.lcmp, 1) := by decide +kernel
theorem dL_law_204 : decode cL_law 204 = .ok (.ifCond .eq 5, 3) := by decide +kernel
theorem dL_law_207 : decode cL_law 207 = .ok (.iconst 0, 1) := by decide +kernel
theorem dL_law_208 : decode cL_law 208 = .ok (.ireturn, 1) := by decide +kernel
theorem dL_law_209 : decode cL_law 209 = .ok (.goto 1154, 3) := by decide +kernel
theorem dL_law_212 : decode cL_law 212 = .ok (.aload_n 1, 1) := by decide +kernel
theorem dL_law_213 : decode cL_law 213 = .ok (.aload_n 3, 1) := by decide +kernel
theorem dL_law_214 : decode cL_law 214 = .ok (.invokestatic 86, 3) := by decide +kernel
theorem dL_law_217 : decode cL_law 217 = .ok (.istore 5, 2) := by decide +kernel
theorem dL_law_219 : decode cL_law 219 = .ok (.aload_n 2, 1) := by decide +kernel
theorem dL_law_220 : decode cL_law 220 = .ok (.invokevirtual 89, 3) := by decide +kernel
theorem dL_law_223 : decode cL_law 223 = .ok (.istore 6, 2) := by decide +kernel
theorem dL_law_225 : decode cL_law 225 = .ok (.aload_n 2, 1) := by decide +kernel
theorem dL_law_226 : decode cL_law 226 = .ok (.invokevirtual 83, 3) := by decide +kernel
theorem dL_law_229 : decode cL_law 229 = .ok (.iload 5, 2) := by decide +kernel
theorem dL_law_231 : decode cL_law 231 = .ok (.if_icmp .eq 5, 3) := by decide +kernel
theorem dL_law_234 : decode cL_law 234 = .ok (.iconst 0, 1) := by decide +kernel
theorem dL_law_235 : decode cL_law 235 = .ok (.ireturn, 1) := by decide +kernel
theorem dL_law_236 : decode cL_law 236 = .ok (.iload 5, 2) := by decide +kernel
theorem dL_law_238 : decode cL_law 238 = .ok (.ifCond .ne 15, 3) := by decide +kernel
theorem dL_law_241 : decode cL_law 241 = .ok (.aload_n 3, 1) := by decide +kernel
theorem dL_law_242 : decode cL_law 242 = .ok (.iconst 0, 1) := by decide +kernel
theorem dL_law_243 : decode cL_law 243 = .ok (.laload, 1) := by decide +kernel
theorem dL_law_244 : decode cL_law 244 = .ok (.iload 6, 2) := by decide +kernel
theorem dL_law_246 : decode cL_law 246 = .ok (.i2l, 1) := by decide +kernel
theorem dL_law_247 : decode cL_law 247 = .ok (.lcmp, 1) := by decide +kernel
theorem dL_law_248 : decode cL_law 248 = .ok (.ifCond .eq 5, 3) := by decide +kernel
theorem dL_law_251 : decode cL_law 251 = .ok (.iconst 0, 1) := by decide +kernel
theorem dL_law_252 : decode cL_law 252 = .ok (.ireturn, 1) := by decide +kernel
theorem dL_law_253 : decode cL_law 253 = .ok (.goto 1110, 3) := by decide +kernel
theorem dL_law_256 : decode cL_law 256 = .ok (.aload_n 1, 1) := by decide +kernel
theorem dL_law_257 : decode cL_law 257 = .ok (.invokevirtual 90, 3) := by decide +kernel
theorem dL_law_260 : decode cL_law 260 = .ok (.aload_n 2, 1) := by decide +kernel
theorem dL_law_261 : decode cL_law 261 = .ok (.invokevirtual 93, 3) := by decide +kernel
theorem dL_law_264 : decode cL_law 264 = .ok (.if_icmp .eq 1099, 3) := by decide +kernel
theorem dL_law_267 : decode cL_law 267 = .ok (.iconst 0, 1) := by decide +kernel
theorem dL_law_268 : decode cL_law 268 = .ok (.ireturn, 1) := by decide +kernel
theorem dL_law_269 : decode cL_law 269 = .ok (.aload_n 1, 1) := by decide +kernel
theorem dL_law_270 : decode cL_law 270 = .ok (.aload_n 0, 1) := by decide +kernel
theorem dL_law_271 : decode cL_law 271 = .ok (.iload 4, 2) := by decide +kernel
theorem dL_law_273 : decode cL_law 273 = .ok (.iconst 1, 1) := by decide +kernel
theorem dL_law_274 : decode cL_law 274 = .ok (.iadd, 1) := by decide +kernel
theorem dL_law_275 : decode cL_law 275 = .ok (.iaload, 1) := by decide +kernel
theorem dL_law_276 : decode cL_law 276 = .ok (.aload_n 0, 1) := by decide +kernel
theorem dL_law_277 : decode cL_law 277 = .ok (.iload 4, 2) := by decide +kernel
theorem dL_law_279 : decode cL_law 279 = .ok (.iconst 2, 1) := by decide +kernel
theorem dL_law_280 : decode cL_law 280 = .ok (.iadd, 1) := by decide +kernel
theorem dL_law_281 : decode cL_law 281 = .ok (.iaload, 1) := by decide +kernel
theorem dL_law_282 : decode cL_law 282 = .ok (.aload_n 3, 1) := by decide +kernel
theorem dL_law_283 : decode cL_law 283 = .ok (.invokestatic 94, 3) := by decide +kernel
theorem dL_law_286 : decode cL_law 286 = .ok (.istore 5, 2) := by decide +kernel
theorem dL_law_288 : decode cL_law 288 = .ok (.aload_n 2, 1) := by decide +kernel
theorem dL_law_289 : decode cL_law 289 = .ok (.aload_n 0, 1) := by decide +kernel
theorem dL_law_290 : decode cL_law 290 = .ok (.iload 4, 2) := by decide +kernel
theorem dL_law_292 : decode cL_law 292 = .ok (.iconst 1, 1) := by decide +kernel
theorem dL_law_293 : decode cL_law 293 = .ok (.iadd, 1) := by decide +kernel
theorem dL_law_294 : decode cL_law 294 = .ok (.iaload, 1) := by decide +kernel
theorem dL_law_295 : decode cL_law 295 = .ok (.aload_n 0, 1) := by decide +kernel
theorem dL_law_296 : decode cL_law 296 = .ok (.iload 4, 2) := by decide +kernel
theorem dL_law_298 : decode cL_law 298 = .ok (.iconst 2, 1) := by decide +kernel
theorem dL_law_299 : decode cL_law 299 = .ok (.iadd, 1) := by decide +kernel
theorem dL_law_300 : decode cL_law 300 = .ok (.iaload, 1) := by decide +kernel
theorem dL_law_301 : decode cL_law 301 = .ok (.invokevirtual 97, 3) := by decide +kernel
theorem dL_law_304 : decode cL_law 304 = .ok (.istore 6, 2) := by decide +kernel
theorem dL_law_306 : decode cL_law 306 = .ok (.aload_n 2, 1) := by decide +kernel
theorem dL_law_307 : decode cL_law 307 = .ok (.invokevirtual 83, 3) := by decide +kernel
theorem dL_law_310 : decode cL_law 310 = .ok (.iload 5, 2) := by decide +kernel
theorem dL_law_312 : decode cL_law 312 = .ok (.if_icmp .eq 5, 3) := by decide +kernel
theorem dL_law_315 : decode cL_law 315 = .ok (.iconst 0, 1) := by decide +kernel
theorem dL_law_316 : decode cL_law 316 = .ok (.ireturn, 1) := by decide +kernel
theorem dL_law_317 : decode cL_law 317 = .ok (.iload 5, 2) := by decide +kernel
theorem dL_law_319 : decode cL_law 319 = .ok (.ifCond .ne 15, 3) := by decide +kernel
theorem dL_law_322 : decode cL_law 322 = .ok (.aload_n 3, 1) := by decide +kernel
theorem dL_law_323 : decode cL_law 323 = .ok (.iconst 0, 1) := by decide +kernel
theorem dL_law_324 : decode cL_law 324 = .ok (.laload, 1) := by decide +kernel
theorem dL_law_325 : decode cL_law 325 = .ok (.iload 6, 2) := by decide +kernel
theorem dL_law_327 : decode cL_law 327 = .ok (.i2l, 1) := by decide +kernel
theorem dL_law_328 : decode cL_law 328 = .ok (.lcmp, 1) := by decide +kernel
theorem dL_law_329 : decode cL_law 329 = .ok (.ifCond .eq 5, 3) := by decide +kernel
theorem dL_law_332 : decode cL_law 332 = .ok (.iconst 0, 1) := by decide +kernel
theorem dL_law_333 : decode cL_law 333 = .ok (.ireturn, 1) := by decide +kernel
theorem dL_law_334 : decode cL_law 334 = .ok (.goto 1029, 3) := by decide +kernel
theorem dL_law_337 : decode cL_law 337 = .ok (.aload_n 1, 1) := by decide +kernel
theorem dL_law_338 : decode cL_law 338 = .ok (.aload_n 0, 1) := by decide +kernel
theorem dL_law_339 : decode cL_law 339 = .ok (.iload 4, 2) := by decide +kernel
theorem dL_law_341 : decode cL_law 341 = .ok (.iconst 1, 1) := by decide +kernel
theorem dL_law_342 : decode cL_law 342 = .ok (.iadd, 1) := by decide +kernel
theorem dL_law_343 : decode cL_law 343 = .ok (.iaload, 1) := by decide +kernel
theorem dL_law_344 : decode cL_law 344 = .ok (.aload_n 0, 1) := by decide +kernel
theorem dL_law_345 : decode cL_law 345 = .ok (.iload 4, 2) := by decide +kernel
theorem dL_law_347 : decode cL_law 347 = .ok (.iconst 2, 1) := by decide +kernel
theorem dL_law_348 : decode cL_law 348 = .ok (.iadd, 1) := by decide +kernel
theorem dL_law_349 : decode cL_law 349 = .ok (.iaload, 1) := by decide +kernel
theorem dL_law_350 : decode cL_law 350 = .ok (.aload_n 3, 1) := by decide +kernel
theorem dL_law_351 : decode cL_law 351 = .ok (.invokestatic 98, 3) := by decide +kernel
theorem dL_law_354 : decode cL_law 354 = .ok (.istore 5, 2) := by decide +kernel
theorem dL_law_356 : decode cL_law 356 = .ok (.aload_n 2, 1) := by decide +kernel
theorem dL_law_357 : decode cL_law 357 = .ok (.aload_n 0, 1) := by decide +kernel
theorem dL_law_358 : decode cL_law 358 = .ok (.iload 4, 2) := by decide +kernel
theorem dL_law_360 : decode cL_law 360 = .ok (.iconst 1, 1) := by decide +kernel
theorem dL_law_361 : decode cL_law 361 = .ok (.iadd, 1) := by decide +kernel
theorem dL_law_362 : decode cL_law 362 = .ok (.iaload, 1) := by decide +kernel
theorem dL_law_363 : decode cL_law 363 = .ok (.aload_n 0, 1) := by decide +kernel
theorem dL_law_364 : decode cL_law 364 = .ok (.iload 4, 2) := by decide +kernel
theorem dL_law_366 : decode cL_law 366 = .ok (.iconst 2, 1) := by decide +kernel
theorem dL_law_367 : decode cL_law 367 = .ok (.iadd, 1) := by decide +kernel
theorem dL_law_368 : decode cL_law 368 = .ok (.iaload, 1) := by decide +kernel
theorem dL_law_369 : decode cL_law 369 = .ok (.invokevirtual 100, 3) := by decide +kernel
theorem dL_law_372 : decode cL_law 372 = .ok (.istore 6, 2) := by decide +kernel
theorem dL_law_374 : decode cL_law 374 = .ok (.aload_n 2, 1) := by decide +kernel
theorem dL_law_375 : decode cL_law 375 = .ok (.invokevirtual 83, 3) := by decide +kernel
theorem dL_law_378 : decode cL_law 378 = .ok (.iload 5, 2) := by decide +kernel
theorem dL_law_380 : decode cL_law 380 = .ok (.if_icmp .eq 5, 3) := by decide +kernel
theorem dL_law_383 : decode cL_law 383 = .ok (.iconst 0, 1) := by decide +kernel
theorem dL_law_384 : decode cL_law 384 = .ok (.ireturn, 1) := by decide +kernel
theorem dL_law_385 : decode cL_law 385 = .ok (.iload 5, 2) := by decide +kernel
theorem dL_law_387 : decode cL_law 387 = .ok (.ifCond .ne 15, 3) := by decide +kernel
theorem dL_law_390 : decode cL_law 390 = .ok (.aload_n 3, 1) := by decide +kernel
theorem dL_law_391 : decode cL_law 391 = .ok (.iconst 0, 1) := by decide +kernel
theorem dL_law_392 : decode cL_law 392 = .ok (.laload, 1) := by decide +kernel
theorem dL_law_393 : decode cL_law 393 = .ok (.iload 6, 2) := by decide +kernel
theorem dL_law_395 : decode cL_law 395 = .ok (.i2l, 1) := by decide +kernel
theorem dL_law_396 : decode cL_law 396 = .ok (.lcmp, 1) := by decide +kernel
theorem dL_law_397 : decode cL_law 397 = .ok (.ifCond .eq 5, 3) := by decide +kernel
theorem dL_law_400 : decode cL_law 400 = .ok (.iconst 0, 1) := by decide +kernel
theorem dL_law_401 : decode cL_law 401 = .ok (.ireturn, 1) := by decide +kernel
theorem dL_law_402 : decode cL_law 402 = .ok (.goto 961, 3) := by decide +kernel
theorem dL_law_405 : decode cL_law 405 = .ok (.aload_n 1, 1) := by decide +kernel
theorem dL_law_406 : decode cL_law 406 = .ok (.aload_n 0, 1) := by decide +kernel
theorem dL_law_407 : decode cL_law 407 = .ok (.iload 4, 2) := by decide +kernel
theorem dL_law_409 : decode cL_law 409 = .ok (.iconst 1, 1) := by decide +kernel
theorem dL_law_410 : decode cL_law 410 = .ok (.iadd, 1) := by decide +kernel
theorem dL_law_411 : decode cL_law 411 = .ok (.iaload, 1) := by decide +kernel
theorem dL_law_412 : decode cL_law 412 = .ok (.aload_n 0, 1) := by decide +kernel
theorem dL_law_413 : decode cL_law 413 = .ok (.iload 4, 2) := by decide +kernel
theorem dL_law_415 : decode cL_law 415 = .ok (.iconst 2, 1) := by decide +kernel
theorem dL_law_416 : decode cL_law 416 = .ok (.iadd, 1) := by decide +kernel
theorem dL_law_417 : decode cL_law 417 = .ok (.iaload, 1) := by decide +kernel
theorem dL_law_418 : decode cL_law 418 = .ok (.aload_n 0, 1) := by decide +kernel
theorem dL_law_419 : decode cL_law 419 = .ok (.iload 4, 2) := by decide +kernel
theorem dL_law_421 : decode cL_law 421 = .ok (.iconst 3, 1) := by decide +kernel
theorem dL_law_422 : decode cL_law 422 = .ok (.iadd, 1) := by decide +kernel
theorem dL_law_423 : decode cL_law 423 = .ok (.iaload, 1) := by decide +kernel
theorem dL_law_424 : decode cL_law 424 = .ok (.aload_n 3, 1) := by decide +kernel
theorem dL_law_425 : decode cL_law 425 = .ok (.invokestatic 101, 3) := by decide +kernel
theorem dL_law_428 : decode cL_law 428 = .ok (.istore 5, 2) := by decide +kernel
theorem dL_law_430 : decode cL_law 430 = .ok (.aload_n 2, 1) := by decide +kernel
theorem dL_law_431 : decode cL_law 431 = .ok (.aload_n 0, 1) := by decide +kernel
theorem dL_law_432 : decode cL_law 432 = .ok (.iload 4, 2) := by decide +kernel
theorem dL_law_434 : decode cL_law 434 = .ok (.iconst 1, 1) := by decide +kernel
theorem dL_law_435 : decode cL_law 435 = .ok (.iadd, 1) := by decide +kernel
theorem dL_law_436 : decode cL_law 436 = .ok (.iaload, 1) := by decide +kernel
theorem dL_law_437 : decode cL_law 437 = .ok (.aload_n 0, 1) := by decide +kernel
theorem dL_law_438 : decode cL_law 438 = .ok (.iload 4, 2) := by decide +kernel
theorem dL_law_440 : decode cL_law 440 = .ok (.iconst 2, 1) := by decide +kernel
theorem dL_law_441 : decode cL_law 441 = .ok (.iadd, 1) := by decide +kernel
theorem dL_law_442 : decode cL_law 442 = .ok (.iaload, 1) := by decide +kernel
theorem dL_law_443 : decode cL_law 443 = .ok (.aload_n 0, 1) := by decide +kernel
theorem dL_law_444 : decode cL_law 444 = .ok (.iload 4, 2) := by decide +kernel
theorem dL_law_446 : decode cL_law 446 = .ok (.iconst 3, 1) := by decide +kernel
theorem dL_law_447 : decode cL_law 447 = .ok (.iadd, 1) := by decide +kernel
theorem dL_law_448 : decode cL_law 448 = .ok (.iaload, 1) := by decide +kernel
theorem dL_law_449 : decode cL_law 449 = .ok (.invokevirtual 104, 3) := by decide +kernel
theorem dL_law_452 : decode cL_law 452 = .ok (.istore 6, 2) := by decide +kernel
theorem dL_law_454 : decode cL_law 454 = .ok (.aload_n 2, 1) := by decide +kernel
theorem dL_law_455 : decode cL_law 455 = .ok (.invokevirtual 83, 3) := by decide +kernel
theorem dL_law_458 : decode cL_law 458 = .ok (.iload 5, 2) := by decide +kernel
theorem dL_law_460 : decode cL_law 460 = .ok (.if_icmp .eq 5, 3) := by decide +kernel
theorem dL_law_463 : decode cL_law 463 = .ok (.iconst 0, 1) := by decide +kernel
theorem dL_law_464 : decode cL_law 464 = .ok (.ireturn, 1) := by decide +kernel
theorem dL_law_465 : decode cL_law 465 = .ok (.iload 5, 2) := by decide +kernel
theorem dL_law_467 : decode cL_law 467 = .ok (.ifCond .ne 15, 3) := by decide +kernel
theorem dL_law_470 : decode cL_law 470 = .ok (.aload_n 3, 1) := by decide +kernel
theorem dL_law_471 : decode cL_law 471 = .ok (.iconst 0, 1) := by decide +kernel
theorem dL_law_472 : decode cL_law 472 = .ok (.laload, 1) := by decide +kernel
theorem dL_law_473 : decode cL_law 473 = .ok (.iload 6, 2) := by decide +kernel
theorem dL_law_475 : decode cL_law 475 = .ok (.i2l, 1) := by decide +kernel
theorem dL_law_476 : decode cL_law 476 = .ok (.lcmp, 1) := by decide +kernel
theorem dL_law_477 : decode cL_law 477 = .ok (.ifCond .eq 5, 3) := by decide +kernel
theorem dL_law_480 : decode cL_law 480 = .ok (.iconst 0, 1) := by decide +kernel
theorem dL_law_481 : decode cL_law 481 = .ok (.ireturn, 1) := by decide +kernel
theorem dL_law_482 : decode cL_law 482 = .ok (.goto 881, 3) := by decide +kernel
theorem dL_law_485 : decode cL_law 485 = .ok (.aload_n 1, 1) := by decide +kernel
theorem dL_law_486 : decode cL_law 486 = .ok (.aload_n 0, 1) := by decide +kernel
theorem dL_law_487 : decode cL_law 487 = .ok (.iload 4, 2) := by decide +kernel
theorem dL_law_489 : decode cL_law 489 = .ok (.iconst 1, 1) := by decide +kernel
theorem dL_law_490 : decode cL_law 490 = .ok (.iadd, 1) := by decide +kernel
theorem dL_law_491 : decode cL_law 491 = .ok (.iaload, 1) := by decide +kernel
theorem dL_law_492 : decode cL_law 492 = .ok (.aload_n 0, 1) := by decide +kernel
theorem dL_law_493 : decode cL_law 493 = .ok (.iload 4, 2) := by decide +kernel
theorem dL_law_495 : decode cL_law 495 = .ok (.iconst 2, 1) := by decide +kernel
theorem dL_law_496 : decode cL_law 496 = .ok (.iadd, 1) := by decide +kernel
theorem dL_law_497 : decode cL_law 497 = .ok (.iaload, 1) := by decide +kernel
theorem dL_law_498 : decode cL_law 498 = .ok (.aload_n 3, 1) := by decide +kernel
theorem dL_law_499 : decode cL_law 499 = .ok (.invokestatic 105, 3) := by decide +kernel
theorem dL_law_502 : decode cL_law 502 = .ok (.istore 5, 2) := by decide +kernel
theorem dL_law_504 : decode cL_law 504 = .ok (.aload_n 2, 1) := by decide +kernel
theorem dL_law_505 : decode cL_law 505 = .ok (.aload_n 0, 1) := by decide +kernel
theorem dL_law_506 : decode cL_law 506 = .ok (.iload 4, 2) := by decide +kernel
theorem dL_law_508 : decode cL_law 508 = .ok (.iconst 1, 1) := by decide +kernel
theorem dL_law_509 : decode cL_law 509 = .ok (.iadd, 1) := by decide +kernel
theorem dL_law_510 : decode cL_law 510 = .ok (.iaload, 1) := by decide +kernel
theorem dL_law_511 : decode cL_law 511 = .ok (.aload_n 0, 1) := by decide +kernel
theorem dL_law_512 : decode cL_law 512 = .ok (.iload 4, 2) := by decide +kernel
theorem dL_law_514 : decode cL_law 514 = .ok (.iconst 2, 1) := by decide +kernel
theorem dL_law_515 : decode cL_law 515 = .ok (.iadd, 1) := by decide +kernel
theorem dL_law_516 : decode cL_law 516 = .ok (.iaload, 1) := by decide +kernel
theorem dL_law_517 : decode cL_law 517 = .ok (.invokevirtual 107, 3) := by decide +kernel
theorem dL_law_520 : decode cL_law 520 = .ok (.istore 6, 2) := by decide +kernel
theorem dL_law_522 : decode cL_law 522 = .ok (.aload_n 2, 1) := by decide +kernel
theorem dL_law_523 : decode cL_law 523 = .ok (.invokevirtual 83, 3) := by decide +kernel
theorem dL_law_526 : decode cL_law 526 = .ok (.iload 5, 2) := by decide +kernel
theorem dL_law_528 : decode cL_law 528 = .ok (.if_icmp .eq 5, 3) := by decide +kernel
theorem dL_law_531 : decode cL_law 531 = .ok (.iconst 0, 1) := by decide +kernel
theorem dL_law_532 : decode cL_law 532 = .ok (.ireturn, 1) := by decide +kernel
theorem dL_law_533 : decode cL_law 533 = .ok (.iload 5, 2) := by decide +kernel
theorem dL_law_535 : decode cL_law 535 = .ok (.ifCond .ne 15, 3) := by decide +kernel
theorem dL_law_538 : decode cL_law 538 = .ok (.aload_n 3, 1) := by decide +kernel
theorem dL_law_539 : decode cL_law 539 = .ok (.iconst 0, 1) := by decide +kernel
theorem dL_law_540 : decode cL_law 540 = .ok (.laload, 1) := by decide +kernel
theorem dL_law_541 : decode cL_law 541 = .ok (.iload 6, 2) := by decide +kernel
theorem dL_law_543 : decode cL_law 543 = .ok (.i2l, 1) := by decide +kernel
theorem dL_law_544 : decode cL_law 544 = .ok (.lcmp, 1) := by decide +kernel
theorem dL_law_545 : decode cL_law 545 = .ok (.ifCond .eq 5, 3) := by decide +kernel
theorem dL_law_548 : decode cL_law 548 = .ok (.iconst 0, 1) := by decide +kernel
theorem dL_law_549 : decode cL_law 549 = .ok (.ireturn, 1) := by decide +kernel
theorem dL_law_550 : decode cL_law 550 = .ok (.goto 813, 3) := by decide +kernel
theorem dL_law_553 : decode cL_law 553 = .ok (.aload_n 1, 1) := by decide +kernel
theorem dL_law_554 : decode cL_law 554 = .ok (.aload_n 0, 1) := by decide +kernel
theorem dL_law_555 : decode cL_law 555 = .ok (.iload 4, 2) := by decide +kernel
theorem dL_law_557 : decode cL_law 557 = .ok (.iconst 1, 1) := by decide +kernel
theorem dL_law_558 : decode cL_law 558 = .ok (.iadd, 1) := by decide +kernel
theorem dL_law_559 : decode cL_law 559 = .ok (.iaload, 1) := by decide +kernel
theorem dL_law_560 : decode cL_law 560 = .ok (.aload_n 3, 1) := by decide +kernel
theorem dL_law_561 : decode cL_law 561 = .ok (.invokestatic 108, 3) := by decide +kernel
theorem dL_law_564 : decode cL_law 564 = .ok (.istore 5, 2) := by decide +kernel
theorem dL_law_566 : decode cL_law 566 = .ok (.aload_n 2, 1) := by decide +kernel
theorem dL_law_567 : decode cL_law 567 = .ok (.aload_n 0, 1) := by decide +kernel
theorem dL_law_568 : decode cL_law 568 = .ok (.iload 4, 2) := by decide +kernel
theorem dL_law_570 : decode cL_law 570 = .ok (.iconst 1, 1) := by decide +kernel
theorem dL_law_571 : decode cL_law 571 = .ok (.iadd, 1) := by decide +kernel
theorem dL_law_572 : decode cL_law 572 = .ok (.iaload, 1) := by decide +kernel
theorem dL_law_573 : decode cL_law 573 = .ok (.invokevirtual 110, 3) := by decide +kernel
theorem dL_law_576 : decode cL_law 576 = .ok (.istore 6, 2) := by decide +kernel
theorem dL_law_578 : decode cL_law 578 = .ok (.aload_n 2, 1) := by decide +kernel
theorem dL_law_579 : decode cL_law 579 = .ok (.invokevirtual 83, 3) := by decide +kernel
theorem dL_law_582 : decode cL_law 582 = .ok (.iload 5, 2) := by decide +kernel
theorem dL_law_584 : decode cL_law 584 = .ok (.if_icmp .eq 5, 3) := by decide +kernel
theorem dL_law_587 : decode cL_law 587 = .ok (.iconst 0, 1) := by decide +kernel
theorem dL_law_588 : decode cL_law 588 = .ok (.ireturn, 1) := by decide +kernel
theorem dL_law_589 : decode cL_law 589 = .ok (.iload 5, 2) := by decide +kernel
theorem dL_law_591 : decode cL_law 591 = .ok (.ifCond .ne 15, 3) := by decide +kernel
theorem dL_law_594 : decode cL_law 594 = .ok (.aload_n 3, 1) := by decide +kernel
theorem dL_law_595 : decode cL_law 595 = .ok (.iconst 0, 1) := by decide +kernel
theorem dL_law_596 : decode cL_law 596 = .ok (.laload, 1) := by decide +kernel
theorem dL_law_597 : decode cL_law 597 = .ok (.iload 6, 2) := by decide +kernel
theorem dL_law_599 : decode cL_law 599 = .ok (.i2l, 1) := by decide +kernel
theorem dL_law_600 : decode cL_law 600 = .ok (.lcmp, 1) := by decide +kernel
theorem dL_law_601 : decode cL_law 601 = .ok (.ifCond .eq 5, 3) := by decide +kernel
theorem dL_law_604 : decode cL_law 604 = .ok (.iconst 0, 1) := by decide +kernel
theorem dL_law_605 : decode cL_law 605 = .ok (.ireturn, 1) := by decide +kernel
theorem dL_law_606 : decode cL_law 606 = .ok (.goto 757, 3) := by decide +kernel
theorem dL_law_609 : decode cL_law 609 = .ok (.aload_n 1, 1) := by decide +kernel
theorem dL_law_610 : decode cL_law 610 = .ok (.invokevirtual 111, 3) := by decide +kernel
theorem dL_law_613 : decode cL_law 613 = .ok (.aload_n 2, 1) := by decide +kernel
theorem dL_law_614 : decode cL_law 614 = .ok (.invokevirtual 114, 3) := by decide +kernel
theorem dL_law_617 : decode cL_law 617 = .ok (.if_icmp .eq 746, 3) := by decide +kernel
theorem dL_law_620 : decode cL_law 620 = .ok (.iconst 0, 1) := by decide +kernel
theorem dL_law_621 : decode cL_law 621 = .ok (.ireturn, 1) := by decide +kernel
theorem dL_law_622 : decode cL_law 622 = .ok (.aload_n 1, 1) := by decide +kernel
theorem dL_law_623 : decode cL_law 623 = .ok (.invokevirtual 115, 3) := by decide +kernel
theorem dL_law_626 : decode cL_law 626 = .ok (.aload_n 2, 1) := by decide +kernel
theorem dL_law_627 : decode cL_law 627 = .ok (.invokevirtual 118, 3) := by decide +kernel
theorem dL_law_630 : decode cL_law 630 = .ok (.if_icmp .eq 733, 3) := by decide +kernel
theorem dL_law_633 : decode cL_law 633 = .ok (.iconst 0, 1) := by decide +kernel
theorem dL_law_634 : decode cL_law 634 = .ok (.ireturn, 1) := by decide +kernel
theorem dL_law_635 : decode cL_law 635 = .ok (.aload_n 1, 1) := by decide +kernel
theorem dL_law_636 : decode cL_law 636 = .ok (.aload_n 3, 1) := by decide +kernel
theorem dL_law_637 : decode cL_law 637 = .ok (.invokestatic 119, 3) := by decide +kernel
theorem dL_law_640 : decode cL_law 640 = .ok (.istore 5, 2) := by decide +kernel
theorem dL_law_642 : decode cL_law 642 = .ok (.aload_n 2, 1) := by decide +kernel
theorem dL_law_643 : decode cL_law 643 = .ok (.invokevirtual 121, 3) := by decide +kernel
theorem dL_law_646 : decode cL_law 646 = .ok (.istore 6, 2) := by decide +kernel
theorem dL_law_648 : decode cL_law 648 = .ok (.aload_n 2, 1) := by decide +kernel
theorem dL_law_649 : decode cL_law 649 = .ok (.invokevirtual 83, 3) := by decide +kernel
theorem dL_law_652 : decode cL_law 652 = .ok (.iload 5, 2) := by decide +kernel
theorem dL_law_654 : decode cL_law 654 = .ok (.if_icmp .eq 5, 3) := by decide +kernel
theorem dL_law_657 : decode cL_law 657 = .ok (.iconst 0, 1) := by decide +kernel
theorem dL_law_658 : decode cL_law 658 = .ok (.ireturn, 1) := by decide +kernel
theorem dL_law_659 : decode cL_law 659 = .ok (.iload 5, 2) := by decide +kernel
theorem dL_law_661 : decode cL_law 661 = .ok (.ifCond .ne 15, 3) := by decide +kernel
theorem dL_law_664 : decode cL_law 664 = .ok (.aload_n 3, 1) := by decide +kernel
theorem dL_law_665 : decode cL_law 665 = .ok (.iconst 0, 1) := by decide +kernel
theorem dL_law_666 : decode cL_law 666 = .ok (.laload, 1) := by decide +kernel
theorem dL_law_667 : decode cL_law 667 = .ok (.iload 6, 2) := by decide +kernel
theorem dL_law_669 : decode cL_law 669 = .ok (.i2l, 1) := by decide +kernel
theorem dL_law_670 : decode cL_law 670 = .ok (.lcmp, 1) := by decide +kernel
theorem dL_law_671 : decode cL_law 671 = .ok (.ifCond .eq 5, 3) := by decide +kernel
theorem dL_law_674 : decode cL_law 674 = .ok (.iconst 0, 1) := by decide +kernel
theorem dL_law_675 : decode cL_law 675 = .ok (.ireturn, 1) := by decide +kernel
theorem dL_law_676 : decode cL_law 676 = .ok (.goto 687, 3) := by decide +kernel
theorem dL_law_679 : decode cL_law 679 = .ok (.aload_n 1, 1) := by decide +kernel
theorem dL_law_680 : decode cL_law 680 = .ok (.invokevirtual 122, 3) := by decide +kernel
theorem dL_law_683 : decode cL_law 683 = .ok (.aload_n 2, 1) := by decide +kernel
theorem dL_law_684 : decode cL_law 684 = .ok (.invokevirtual 125, 3) := by decide +kernel
theorem dL_law_687 : decode cL_law 687 = .ok (.if_icmp .eq 676, 3) := by decide +kernel
theorem dL_law_690 : decode cL_law 690 = .ok (.iconst 0, 1) := by decide +kernel
theorem dL_law_691 : decode cL_law 691 = .ok (.ireturn, 1) := by decide +kernel
theorem dL_law_692 : decode cL_law 692 = .ok (.aload_n 1, 1) := by decide +kernel
theorem dL_law_693 : decode cL_law 693 = .ok (.aload_n 3, 1) := by decide +kernel
theorem dL_law_694 : decode cL_law 694 = .ok (.invokestatic 126, 3) := by decide +kernel
theorem dL_law_697 : decode cL_law 697 = .ok (.istore 5, 2) := by decide +kernel
theorem dL_law_699 : decode cL_law 699 = .ok (.aload_n 2, 1) := by decide +kernel
theorem dL_law_700 : decode cL_law 700 = .ok (.invokevirtual 128, 3) := by decide +kernel
theorem dL_law_703 : decode cL_law 703 = .ok (.istore 6, 2) := by decide +kernel
theorem dL_law_705 : decode cL_law 705 = .ok (.aload_n 2, 1) := by decide +kernel
theorem dL_law_706 : decode cL_law 706 = .ok (.invokevirtual 83, 3) := by decide +kernel
theorem dL_law_709 : decode cL_law 709 = .ok (.iload 5, 2) := by decide +kernel
theorem dL_law_711 : decode cL_law 711 = .ok (.if_icmp .eq 5, 3) := by decide +kernel
theorem dL_law_714 : decode cL_law 714 = .ok (.iconst 0, 1) := by decide +kernel
theorem dL_law_715 : decode cL_law 715 = .ok (.ireturn, 1) := by decide +kernel
theorem dL_law_716 : decode cL_law 716 = .ok (.iload 5, 2) := by decide +kernel
theorem dL_law_718 : decode cL_law 718 = .ok (.ifCond .ne 15, 3) := by decide +kernel
theorem dL_law_721 : decode cL_law 721 = .ok (.aload_n 3, 1) := by decide +kernel
theorem dL_law_722 : decode cL_law 722 = .ok (.iconst 0, 1) := by decide +kernel
theorem dL_law_723 : decode cL_law 723 = .ok (.laload, 1) := by decide +kernel
theorem dL_law_724 : decode cL_law 724 = .ok (.iload 6, 2) := by decide +kernel
theorem dL_law_726 : decode cL_law 726 = .ok (.i2l, 1) := by decide +kernel
theorem dL_law_727 : decode cL_law 727 = .ok (.lcmp, 1) := by decide +kernel
theorem dL_law_728 : decode cL_law 728 = .ok (.ifCond .eq 5, 3) := by decide +kernel
theorem dL_law_731 : decode cL_law 731 = .ok (.iconst 0, 1) := by decide +kernel
theorem dL_law_732 : decode cL_law 732 = .ok (.ireturn, 1) := by decide +kernel
theorem dL_law_733 : decode cL_law 733 = .ok (.goto 630, 3) := by decide +kernel
theorem dL_law_736 : decode cL_law 736 = .ok (.aload_n 1, 1) := by decide +kernel
theorem dL_law_737 : decode cL_law 737 = .ok (.aload_n 3, 1) := by decide +kernel
theorem dL_law_738 : decode cL_law 738 = .ok (.invokestatic 129, 3) := by decide +kernel
theorem dL_law_741 : decode cL_law 741 = .ok (.istore 5, 2) := by decide +kernel
theorem dL_law_743 : decode cL_law 743 = .ok (.aload_n 2, 1) := by decide +kernel
theorem dL_law_744 : decode cL_law 744 = .ok (.invokevirtual 131, 3) := by decide +kernel
theorem dL_law_747 : decode cL_law 747 = .ok (.istore 6, 2) := by decide +kernel
theorem dL_law_749 : decode cL_law 749 = .ok (.aload_n 2, 1) := by decide +kernel
theorem dL_law_750 : decode cL_law 750 = .ok (.invokevirtual 83, 3) := by decide +kernel
theorem dL_law_753 : decode cL_law 753 = .ok (.iload 5, 2) := by decide +kernel
theorem dL_law_755 : decode cL_law 755 = .ok (.if_icmp .eq 5, 3) := by decide +kernel
theorem dL_law_758 : decode cL_law 758 = .ok (.iconst 0, 1) := by decide +kernel
theorem dL_law_759 : decode cL_law 759 = .ok (.ireturn, 1) := by decide +kernel
theorem dL_law_760 : decode cL_law 760 = .ok (.iload 5, 2) := by decide +kernel
theorem dL_law_762 : decode cL_law 762 = .ok (.ifCond .ne 15, 3) := by decide +kernel
theorem dL_law_765 : decode cL_law 765 = .ok (.aload_n 3, 1) := by decide +kernel
theorem dL_law_766 : decode cL_law 766 = .ok (.iconst 0, 1) := by decide +kernel
theorem dL_law_767 : decode cL_law 767 = .ok (.laload, 1) := by decide +kernel
theorem dL_law_768 : decode cL_law 768 = .ok (.iload 6, 2) := by decide +kernel
theorem dL_law_770 : decode cL_law 770 = .ok (.i2l, 1) := by decide +kernel
theorem dL_law_771 : decode cL_law 771 = .ok (.lcmp, 1) := by decide +kernel
theorem dL_law_772 : decode cL_law 772 = .ok (.ifCond .eq 5, 3) := by decide +kernel
theorem dL_law_775 : decode cL_law 775 = .ok (.iconst 0, 1) := by decide +kernel
theorem dL_law_776 : decode cL_law 776 = .ok (.ireturn, 1) := by decide +kernel
theorem dL_law_777 : decode cL_law 777 = .ok (.goto 586, 3) := by decide +kernel
theorem dL_law_780 : decode cL_law 780 = .ok (.aload_n 1, 1) := by decide +kernel
theorem dL_law_781 : decode cL_law 781 = .ok (.aload_n 0, 1) := by decide +kernel
theorem dL_law_782 : decode cL_law 782 = .ok (.iload 4, 2) := by decide +kernel
theorem dL_law_784 : decode cL_law 784 = .ok (.iconst 1, 1) := by decide +kernel
theorem dL_law_785 : decode cL_law 785 = .ok (.iadd, 1) := by decide +kernel
theorem dL_law_786 : decode cL_law 786 = .ok (.iaload, 1) := by decide +kernel
theorem dL_law_787 : decode cL_law 787 = .ok (.aload_n 0, 1) := by decide +kernel
theorem dL_law_788 : decode cL_law 788 = .ok (.iload 4, 2) := by decide +kernel
theorem dL_law_790 : decode cL_law 790 = .ok (.iconst 2, 1) := by decide +kernel
theorem dL_law_791 : decode cL_law 791 = .ok (.iadd, 1) := by decide +kernel
theorem dL_law_792 : decode cL_law 792 = .ok (.iaload, 1) := by decide +kernel
theorem dL_law_793 : decode cL_law 793 = .ok (.aload_n 3, 1) := by decide +kernel
theorem dL_law_794 : decode cL_law 794 = .ok (.invokestatic 132, 3) := by decide +kernel
theorem dL_law_797 : decode cL_law 797 = .ok (.istore 5, 2) := by decide +kernel
theorem dL_law_799 : decode cL_law 799 = .ok (.aload_n 2, 1) := by decide +kernel
theorem dL_law_800 : decode cL_law 800 = .ok (.aload_n 0, 1) := by decide +kernel
theorem dL_law_801 : decode cL_law 801 = .ok (.iload 4, 2) := by decide +kernel
theorem dL_law_803 : decode cL_law 803 = .ok (.iconst 1, 1) := by decide +kernel
theorem dL_law_804 : decode cL_law 804 = .ok (.iadd, 1) := by decide +kernel
theorem dL_law_805 : decode cL_law 805 = .ok (.iaload, 1) := by decide +kernel
theorem dL_law_806 : decode cL_law 806 = .ok (.aload_n 0, 1) := by decide +kernel
theorem dL_law_807 : decode cL_law 807 = .ok (.iload 4, 2) := by decide +kernel
theorem dL_law_809 : decode cL_law 809 = .ok (.iconst 2, 1) := by decide +kernel
theorem dL_law_810 : decode cL_law 810 = .ok (.iadd, 1) := by decide +kernel
theorem dL_law_811 : decode cL_law 811 = .ok (.iaload, 1) := by decide +kernel
theorem dL_law_812 : decode cL_law 812 = .ok (.invokevirtual 134, 3) := by decide +kernel
theorem dL_law_815 : decode cL_law 815 = .ok (.istore 6, 2) := by decide +kernel
theorem dL_law_817 : decode cL_law 817 = .ok (.aload_n 2, 1) := by decide +kernel
theorem dL_law_818 : decode cL_law 818 = .ok (.invokevirtual 83, 3) := by decide +kernel
theorem dL_law_821 : decode cL_law 821 = .ok (.iload 5, 2) := by decide +kernel
theorem dL_law_823 : decode cL_law 823 = .ok (.if_icmp .eq 5, 3) := by decide +kernel
theorem dL_law_826 : decode cL_law 826 = .ok (.iconst 0, 1) := by decide +kernel
theorem dL_law_827 : decode cL_law 827 = .ok (.ireturn, 1) := by decide +kernel
theorem dL_law_828 : decode cL_law 828 = .ok (.iload 5, 2) := by decide +kernel
theorem dL_law_830 : decode cL_law 830 = .ok (.ifCond .ne 15, 3) := by decide +kernel
theorem dL_law_833 : decode cL_law 833 = .ok (.aload_n 3, 1) := by decide +kernel
theorem dL_law_834 : decode cL_law 834 = .ok (.iconst 0, 1) := by decide +kernel
theorem dL_law_835 : decode cL_law 835 = .ok (.laload, 1) := by decide +kernel
theorem dL_law_836 : decode cL_law 836 = .ok (.iload 6, 2) := by decide +kernel
theorem dL_law_838 : decode cL_law 838 = .ok (.i2l, 1) := by decide +kernel
theorem dL_law_839 : decode cL_law 839 = .ok (.lcmp, 1) := by decide +kernel
theorem dL_law_840 : decode cL_law 840 = .ok (.ifCond .eq 5, 3) := by decide +kernel
theorem dL_law_843 : decode cL_law 843 = .ok (.iconst 0, 1) := by decide +kernel
theorem dL_law_844 : decode cL_law 844 = .ok (.ireturn, 1) := by decide +kernel
theorem dL_law_845 : decode cL_law 845 = .ok (.goto 518, 3) := by decide +kernel
theorem dL_law_848 : decode cL_law 848 = .ok (.aload_n 1, 1) := by decide +kernel
theorem dL_law_849 : decode cL_law 849 = .ok (.aload_n 0, 1) := by decide +kernel
theorem dL_law_850 : decode cL_law 850 = .ok (.iload 4, 2) := by decide +kernel
theorem dL_law_852 : decode cL_law 852 = .ok (.iconst 1, 1) := by decide +kernel
theorem dL_law_853 : decode cL_law 853 = .ok (.iadd, 1) := by decide +kernel
theorem dL_law_854 : decode cL_law 854 = .ok (.iaload, 1) := by decide +kernel
theorem dL_law_855 : decode cL_law 855 = .ok (.aload_n 0, 1) := by decide +kernel
theorem dL_law_856 : decode cL_law 856 = .ok (.iload 4, 2) := by decide +kernel
theorem dL_law_858 : decode cL_law 858 = .ok (.iconst 2, 1) := by decide +kernel
theorem dL_law_859 : decode cL_law 859 = .ok (.iadd, 1) := by decide +kernel
theorem dL_law_860 : decode cL_law 860 = .ok (.iaload, 1) := by decide +kernel
theorem dL_law_861 : decode cL_law 861 = .ok (.aload_n 3, 1) := by decide +kernel
theorem dL_law_862 : decode cL_law 862 = .ok (.invokestatic 135, 3) := by decide +kernel
theorem dL_law_865 : decode cL_law 865 = .ok (.istore 5, 2) := by decide +kernel
theorem dL_law_867 : decode cL_law 867 = .ok (.aload_n 2, 1) := by decide +kernel
theorem dL_law_868 : decode cL_law 868 = .ok (.aload_n 0, 1) := by decide +kernel
theorem dL_law_869 : decode cL_law 869 = .ok (.iload 4, 2) := by decide +kernel
theorem dL_law_871 : decode cL_law 871 = .ok (.iconst 1, 1) := by decide +kernel
theorem dL_law_872 : decode cL_law 872 = .ok (.iadd, 1) := by decide +kernel
theorem dL_law_873 : decode cL_law 873 = .ok (.iaload, 1) := by decide +kernel
theorem dL_law_874 : decode cL_law 874 = .ok (.aload_n 0, 1) := by decide +kernel
theorem dL_law_875 : decode cL_law 875 = .ok (.iload 4, 2) := by decide +kernel
theorem dL_law_877 : decode cL_law 877 = .ok (.iconst 2, 1) := by decide +kernel
theorem dL_law_878 : decode cL_law 878 = .ok (.iadd, 1) := by decide +kernel
theorem dL_law_879 : decode cL_law 879 = .ok (.iaload, 1) := by decide +kernel
theorem dL_law_880 : decode cL_law 880 = .ok (.invokevirtual 137, 3) := by decide +kernel
theorem dL_law_883 : decode cL_law 883 = .ok (.istore 6, 2) := by decide +kernel
theorem dL_law_885 : decode cL_law 885 = .ok (.aload_n 2, 1) := by decide +kernel
theorem dL_law_886 : decode cL_law 886 = .ok (.invokevirtual 83, 3) := by decide +kernel
theorem dL_law_889 : decode cL_law 889 = .ok (.iload 5, 2) := by decide +kernel
theorem dL_law_891 : decode cL_law 891 = .ok (.if_icmp .eq 5, 3) := by decide +kernel
theorem dL_law_894 : decode cL_law 894 = .ok (.iconst 0, 1) := by decide +kernel
theorem dL_law_895 : decode cL_law 895 = .ok (.ireturn, 1) := by decide +kernel
theorem dL_law_896 : decode cL_law 896 = .ok (.iload 5, 2) := by decide +kernel
theorem dL_law_898 : decode cL_law 898 = .ok (.ifCond .ne 15, 3) := by decide +kernel
theorem dL_law_901 : decode cL_law 901 = .ok (.aload_n 3, 1) := by decide +kernel
theorem dL_law_902 : decode cL_law 902 = .ok (.iconst 0, 1) := by decide +kernel
theorem dL_law_903 : decode cL_law 903 = .ok (.laload, 1) := by decide +kernel
theorem dL_law_904 : decode cL_law 904 = .ok (.iload 6, 2) := by decide +kernel
theorem dL_law_906 : decode cL_law 906 = .ok (.i2l, 1) := by decide +kernel
theorem dL_law_907 : decode cL_law 907 = .ok (.lcmp, 1) := by decide +kernel
theorem dL_law_908 : decode cL_law 908 = .ok (.ifCond .eq 5, 3) := by decide +kernel
theorem dL_law_911 : decode cL_law 911 = .ok (.iconst 0, 1) := by decide +kernel
theorem dL_law_912 : decode cL_law 912 = .ok (.ireturn, 1) := by decide +kernel
theorem dL_law_913 : decode cL_law 913 = .ok (.goto 450, 3) := by decide +kernel
theorem dL_law_916 : decode cL_law 916 = .ok (.aload_n 1, 1) := by decide +kernel
theorem dL_law_917 : decode cL_law 917 = .ok (.aload_n 0, 1) := by decide +kernel
theorem dL_law_918 : decode cL_law 918 = .ok (.iload 4, 2) := by decide +kernel
theorem dL_law_920 : decode cL_law 920 = .ok (.iconst 1, 1) := by decide +kernel
theorem dL_law_921 : decode cL_law 921 = .ok (.iadd, 1) := by decide +kernel
theorem dL_law_922 : decode cL_law 922 = .ok (.iaload, 1) := by decide +kernel
theorem dL_law_923 : decode cL_law 923 = .ok (.aload_n 3, 1) := by decide +kernel
theorem dL_law_924 : decode cL_law 924 = .ok (.invokestatic 138, 3) := by decide +kernel
theorem dL_law_927 : decode cL_law 927 = .ok (.istore 5, 2) := by decide +kernel
theorem dL_law_929 : decode cL_law 929 = .ok (.aload_n 2, 1) := by decide +kernel
theorem dL_law_930 : decode cL_law 930 = .ok (.aload_n 0, 1) := by decide +kernel
theorem dL_law_931 : decode cL_law 931 = .ok (.iload 4, 2) := by decide +kernel
theorem dL_law_933 : decode cL_law 933 = .ok (.iconst 1, 1) := by decide +kernel
theorem dL_law_934 : decode cL_law 934 = .ok (.iadd, 1) := by decide +kernel
theorem dL_law_935 : decode cL_law 935 = .ok (.iaload, 1) := by decide +kernel
theorem dL_law_936 : decode cL_law 936 = .ok (.invokevirtual 140, 3) := by decide +kernel
theorem dL_law_939 : decode cL_law 939 = .ok (.istore 6, 2) := by decide +kernel
theorem dL_law_941 : decode cL_law 941 = .ok (.aload_n 2, 1) := by decide +kernel
theorem dL_law_942 : decode cL_law 942 = .ok (.invokevirtual 83, 3) := by decide +kernel
theorem dL_law_945 : decode cL_law 945 = .ok (.iload 5, 2) := by decide +kernel
theorem dL_law_947 : decode cL_law 947 = .ok (.if_icmp .eq 5, 3) := by decide +kernel
theorem dL_law_950 : decode cL_law 950 = .ok (.iconst 0, 1) := by decide +kernel
theorem dL_law_951 : decode cL_law 951 = .ok (.ireturn, 1) := by decide +kernel
theorem dL_law_952 : decode cL_law 952 = .ok (.iload 5, 2) := by decide +kernel
theorem dL_law_954 : decode cL_law 954 = .ok (.ifCond .ne 15, 3) := by decide +kernel
theorem dL_law_957 : decode cL_law 957 = .ok (.aload_n 3, 1) := by decide +kernel
theorem dL_law_958 : decode cL_law 958 = .ok (.iconst 0, 1) := by decide +kernel
theorem dL_law_959 : decode cL_law 959 = .ok (.laload, 1) := by decide +kernel
theorem dL_law_960 : decode cL_law 960 = .ok (.iload 6, 2) := by decide +kernel
theorem dL_law_962 : decode cL_law 962 = .ok (.i2l, 1) := by decide +kernel
theorem dL_law_963 : decode cL_law 963 = .ok (.lcmp, 1) := by decide +kernel
theorem dL_law_964 : decode cL_law 964 = .ok (.ifCond .eq 5, 3) := by decide +kernel
theorem dL_law_967 : decode cL_law 967 = .ok (.iconst 0, 1) := by decide +kernel
theorem dL_law_968 : decode cL_law 968 = .ok (.ireturn, 1) := by decide +kernel
theorem dL_law_969 : decode cL_law 969 = .ok (.goto 394, 3) := by decide +kernel
theorem dL_law_972 : decode cL_law 972 = .ok (.aload_n 1, 1) := by decide +kernel
theorem dL_law_973 : decode cL_law 973 = .ok (.aload_n 0, 1) := by decide +kernel
theorem dL_law_974 : decode cL_law 974 = .ok (.iload 4, 2) := by decide +kernel
theorem dL_law_976 : decode cL_law 976 = .ok (.iconst 1, 1) := by decide +kernel
theorem dL_law_977 : decode cL_law 977 = .ok (.iadd, 1) := by decide +kernel
theorem dL_law_978 : decode cL_law 978 = .ok (.iaload, 1) := by decide +kernel
theorem dL_law_979 : decode cL_law 979 = .ok (.aload_n 3, 1) := by decide +kernel
theorem dL_law_980 : decode cL_law 980 = .ok (.invokestatic 141, 3) := by decide +kernel
theorem dL_law_983 : decode cL_law 983 = .ok (.istore 5, 2) := by decide +kernel
theorem dL_law_985 : decode cL_law 985 = .ok (.aload_n 2, 1) := by decide +kernel
theorem dL_law_986 : decode cL_law 986 = .ok (.aload_n 0, 1) := by decide +kernel
theorem dL_law_987 : decode cL_law 987 = .ok (.iload 4, 2) := by decide +kernel
theorem dL_law_989 : decode cL_law 989 = .ok (.iconst 1, 1) := by decide +kernel
theorem dL_law_990 : decode cL_law 990 = .ok (.iadd, 1) := by decide +kernel
theorem dL_law_991 : decode cL_law 991 = .ok (.iaload, 1) := by decide +kernel
theorem dL_law_992 : decode cL_law 992 = .ok (.invokevirtual 143, 3) := by decide +kernel
theorem dL_law_995 : decode cL_law 995 = .ok (.istore 6, 2) := by decide +kernel
theorem dL_law_997 : decode cL_law 997 = .ok (.aload_n 2, 1) := by decide +kernel
theorem dL_law_998 : decode cL_law 998 = .ok (.invokevirtual 83, 3) := by decide +kernel
theorem dL_law_1001 : decode cL_law 1001 = .ok (.iload 5, 2) := by decide +kernel
theorem dL_law_1003 : decode cL_law 1003 = .ok (.if_icmp .eq 5, 3) := by decide +kernel
theorem dL_law_1006 : decode cL_law 1006 = .ok (.iconst 0, 1) := by decide +kernel
theorem dL_law_1007 : decode cL_law 1007 = .ok (.ireturn, 1) := by decide +kernel
theorem dL_law_1008 : decode cL_law 1008 = .ok (.iload 5, 2) := by decide +kernel
theorem dL_law_1010 : decode cL_law 1010 = .ok (.ifCond .ne 15, 3) := by decide +kernel
theorem dL_law_1013 : decode cL_law 1013 = .ok (.aload_n 3, 1) := by decide +kernel
theorem dL_law_1014 : decode cL_law 1014 = .ok (.iconst 0, 1) := by decide +kernel
theorem dL_law_1015 : decode cL_law 1015 = .ok (.laload, 1) := by decide +kernel
theorem dL_law_1016 : decode cL_law 1016 = .ok (.iload 6, 2) := by decide +kernel
theorem dL_law_1018 : decode cL_law 1018 = .ok (.i2l, 1) := by decide +kernel
theorem dL_law_1019 : decode cL_law 1019 = .ok (.lcmp, 1) := by decide +kernel
theorem dL_law_1020 : decode cL_law 1020 = .ok (.ifCond .eq 5, 3) := by decide +kernel
theorem dL_law_1023 : decode cL_law 1023 = .ok (.iconst 0, 1) := by decide +kernel
theorem dL_law_1024 : decode cL_law 1024 = .ok (.ireturn, 1) := by decide +kernel
theorem dL_law_1025 : decode cL_law 1025 = .ok (.goto 338, 3) := by decide +kernel
theorem dL_law_1028 : decode cL_law 1028 = .ok (.aload_n 1, 1) := by decide +kernel
theorem dL_law_1029 : decode cL_law 1029 = .ok (.aload_n 0, 1) := by decide +kernel
theorem dL_law_1030 : decode cL_law 1030 = .ok (.iload 4, 2) := by decide +kernel
theorem dL_law_1032 : decode cL_law 1032 = .ok (.iconst 1, 1) := by decide +kernel
theorem dL_law_1033 : decode cL_law 1033 = .ok (.iadd, 1) := by decide +kernel
theorem dL_law_1034 : decode cL_law 1034 = .ok (.iaload, 1) := by decide +kernel
theorem dL_law_1035 : decode cL_law 1035 = .ok (.aload_n 3, 1) := by decide +kernel
theorem dL_law_1036 : decode cL_law 1036 = .ok (.invokestatic 144, 3) := by decide +kernel
theorem dL_law_1039 : decode cL_law 1039 = .ok (.istore 5, 2) := by decide +kernel
theorem dL_law_1041 : decode cL_law 1041 = .ok (.aload_n 2, 1) := by decide +kernel
theorem dL_law_1042 : decode cL_law 1042 = .ok (.aload_n 0, 1) := by decide +kernel
theorem dL_law_1043 : decode cL_law 1043 = .ok (.iload 4, 2) := by decide +kernel
theorem dL_law_1045 : decode cL_law 1045 = .ok (.iconst 1, 1) := by decide +kernel
theorem dL_law_1046 : decode cL_law 1046 = .ok (.iadd, 1) := by decide +kernel
theorem dL_law_1047 : decode cL_law 1047 = .ok (.iaload, 1) := by decide +kernel
theorem dL_law_1048 : decode cL_law 1048 = .ok (.invokevirtual 146, 3) := by decide +kernel
theorem dL_law_1051 : decode cL_law 1051 = .ok (.istore 6, 2) := by decide +kernel
theorem dL_law_1053 : decode cL_law 1053 = .ok (.aload_n 2, 1) := by decide +kernel
theorem dL_law_1054 : decode cL_law 1054 = .ok (.invokevirtual 83, 3) := by decide +kernel
theorem dL_law_1057 : decode cL_law 1057 = .ok (.iload 5, 2) := by decide +kernel
theorem dL_law_1059 : decode cL_law 1059 = .ok (.if_icmp .eq 5, 3) := by decide +kernel
theorem dL_law_1062 : decode cL_law 1062 = .ok (.iconst 0, 1) := by decide +kernel
theorem dL_law_1063 : decode cL_law 1063 = .ok (.ireturn, 1) := by decide +kernel
theorem dL_law_1064 : decode cL_law 1064 = .ok (.iload 5, 2) := by decide +kernel
theorem dL_law_1066 : decode cL_law 1066 = .ok (.ifCond .ne 15, 3) := by decide +kernel
theorem dL_law_1069 : decode cL_law 1069 = .ok (.aload_n 3, 1) := by decide +kernel
theorem dL_law_1070 : decode cL_law 1070 = .ok (.iconst 0, 1) := by decide +kernel
theorem dL_law_1071 : decode cL_law 1071 = .ok (.laload, 1) := by decide +kernel
theorem dL_law_1072 : decode cL_law 1072 = .ok (.iload 6, 2) := by decide +kernel
theorem dL_law_1074 : decode cL_law 1074 = .ok (.i2l, 1) := by decide +kernel
theorem dL_law_1075 : decode cL_law 1075 = .ok (.lcmp, 1) := by decide +kernel
theorem dL_law_1076 : decode cL_law 1076 = .ok (.ifCond .eq 5, 3) := by decide +kernel
theorem dL_law_1079 : decode cL_law 1079 = .ok (.iconst 0, 1) := by decide +kernel
theorem dL_law_1080 : decode cL_law 1080 = .ok (.ireturn, 1) := by decide +kernel
theorem dL_law_1081 : decode cL_law 1081 = .ok (.goto 282, 3) := by decide +kernel
theorem dL_law_1084 : decode cL_law 1084 = .ok (.aload_n 1, 1) := by decide +kernel
theorem dL_law_1085 : decode cL_law 1085 = .ok (.invokevirtual 147, 3) := by decide +kernel
theorem dL_law_1088 : decode cL_law 1088 = .ok (.aload_n 2, 1) := by decide +kernel
theorem dL_law_1089 : decode cL_law 1089 = .ok (.invokevirtual 150, 3) := by decide +kernel
theorem dL_law_1092 : decode cL_law 1092 = .ok (.if_icmp .eq 271, 3) := by decide +kernel
theorem dL_law_1095 : decode cL_law 1095 = .ok (.iconst 0, 1) := by decide +kernel
theorem dL_law_1096 : decode cL_law 1096 = .ok (.ireturn, 1) := by decide +kernel
theorem dL_law_1097 : decode cL_law 1097 = .ok (.aload_n 1, 1) := by decide +kernel
theorem dL_law_1098 : decode cL_law 1098 = .ok (.aload_n 0, 1) := by decide +kernel
theorem dL_law_1099 : decode cL_law 1099 = .ok (.iload 4, 2) := by decide +kernel
theorem dL_law_1101 : decode cL_law 1101 = .ok (.iconst 1, 1) := by decide +kernel
theorem dL_law_1102 : decode cL_law 1102 = .ok (.iadd, 1) := by decide +kernel
theorem dL_law_1103 : decode cL_law 1103 = .ok (.iaload, 1) := by decide +kernel
theorem dL_law_1104 : decode cL_law 1104 = .ok (.aload_n 3, 1) := by decide +kernel
theorem dL_law_1105 : decode cL_law 1105 = .ok (.invokestatic 151, 3) := by decide +kernel
theorem dL_law_1108 : decode cL_law 1108 = .ok (.istore 5, 2) := by decide +kernel
theorem dL_law_1110 : decode cL_law 1110 = .ok (.aload_n 2, 1) := by decide +kernel
theorem dL_law_1111 : decode cL_law 1111 = .ok (.aload_n 0, 1) := by decide +kernel
theorem dL_law_1112 : decode cL_law 1112 = .ok (.iload 4, 2) := by decide +kernel
theorem dL_law_1114 : decode cL_law 1114 = .ok (.iconst 1, 1) := by decide +kernel
theorem dL_law_1115 : decode cL_law 1115 = .ok (.iadd, 1) := by decide +kernel
theorem dL_law_1116 : decode cL_law 1116 = .ok (.iaload, 1) := by decide +kernel
theorem dL_law_1117 : decode cL_law 1117 = .ok (.invokevirtual 153, 3) := by decide +kernel
theorem dL_law_1120 : decode cL_law 1120 = .ok (.istore 6, 2) := by decide +kernel
theorem dL_law_1122 : decode cL_law 1122 = .ok (.aload_n 2, 1) := by decide +kernel
theorem dL_law_1123 : decode cL_law 1123 = .ok (.invokevirtual 83, 3) := by decide +kernel
theorem dL_law_1126 : decode cL_law 1126 = .ok (.iload 5, 2) := by decide +kernel
theorem dL_law_1128 : decode cL_law 1128 = .ok (.if_icmp .eq 5, 3) := by decide +kernel
theorem dL_law_1131 : decode cL_law 1131 = .ok (.iconst 0, 1) := by decide +kernel
theorem dL_law_1132 : decode cL_law 1132 = .ok (.ireturn, 1) := by decide +kernel
theorem dL_law_1133 : decode cL_law 1133 = .ok (.iload 5, 2) := by decide +kernel
theorem dL_law_1135 : decode cL_law 1135 = .ok (.ifCond .ne 15, 3) := by decide +kernel
theorem dL_law_1138 : decode cL_law 1138 = .ok (.aload_n 3, 1) := by decide +kernel
theorem dL_law_1139 : decode cL_law 1139 = .ok (.iconst 0, 1) := by decide +kernel
theorem dL_law_1140 : decode cL_law 1140 = .ok (.laload, 1) := by decide +kernel
theorem dL_law_1141 : decode cL_law 1141 = .ok (.iload 6, 2) := by decide +kernel
theorem dL_law_1143 : decode cL_law 1143 = .ok (.i2l, 1) := by decide +kernel
theorem dL_law_1144 : decode cL_law 1144 = .ok (.lcmp, 1) := by decide +kernel
theorem dL_law_1145 : decode cL_law 1145 = .ok (.ifCond .eq 5, 3) := by decide +kernel
theorem dL_law_1148 : decode cL_law 1148 = .ok (.iconst 0, 1) := by decide +kernel
theorem dL_law_1149 : decode cL_law 1149 = .ok (.ireturn, 1) := by decide +kernel
theorem dL_law_1150 : decode cL_law 1150 = .ok (.goto 213, 3) := by decide +kernel
theorem dL_law_1153 : decode cL_law 1153 = .ok (.aload_n 1, 1) := by decide +kernel
theorem dL_law_1154 : decode cL_law 1154 = .ok (.aload_n 0, 1) := by decide +kernel
theorem dL_law_1155 : decode cL_law 1155 = .ok (.iload 4, 2) := by decide +kernel
theorem dL_law_1157 : decode cL_law 1157 = .ok (.iconst 1, 1) := by decide +kernel
theorem dL_law_1158 : decode cL_law 1158 = .ok (.iadd, 1) := by decide +kernel
theorem dL_law_1159 : decode cL_law 1159 = .ok (.iaload, 1) := by decide +kernel
theorem dL_law_1160 : decode cL_law 1160 = .ok (.aload_n 3, 1) := by decide +kernel
theorem dL_law_1161 : decode cL_law 1161 = .ok (.invokestatic 154, 3) := by decide +kernel
theorem dL_law_1164 : decode cL_law 1164 = .ok (.istore 5, 2) := by decide +kernel
theorem dL_law_1166 : decode cL_law 1166 = .ok (.aload_n 2, 1) := by decide +kernel
theorem dL_law_1167 : decode cL_law 1167 = .ok (.aload_n 0, 1) := by decide +kernel
theorem dL_law_1168 : decode cL_law 1168 = .ok (.iload 4, 2) := by decide +kernel
theorem dL_law_1170 : decode cL_law 1170 = .ok (.iconst 1, 1) := by decide +kernel
theorem dL_law_1171 : decode cL_law 1171 = .ok (.iadd, 1) := by decide +kernel
theorem dL_law_1172 : decode cL_law 1172 = .ok (.iaload, 1) := by decide +kernel
theorem dL_law_1173 : decode cL_law 1173 = .ok (.invokevirtual 156, 3) := by decide +kernel
theorem dL_law_1176 : decode cL_law 1176 = .ok (.istore 6, 2) := by decide +kernel
theorem dL_law_1178 : decode cL_law 1178 = .ok (.aload_n 2, 1) := by decide +kernel
theorem dL_law_1179 : decode cL_law 1179 = .ok (.invokevirtual 83, 3) := by decide +kernel
theorem dL_law_1182 : decode cL_law 1182 = .ok (.iload 5, 2) := by decide +kernel
theorem dL_law_1184 : decode cL_law 1184 = .ok (.if_icmp .eq 5, 3) := by decide +kernel
theorem dL_law_1187 : decode cL_law 1187 = .ok (.iconst 0, 1) := by decide +kernel
theorem dL_law_1188 : decode cL_law 1188 = .ok (.ireturn, 1) := by decide +kernel
theorem dL_law_1189 : decode cL_law 1189 = .ok (.iload 5, 2) := by decide +kernel
theorem dL_law_1191 : decode cL_law 1191 = .ok (.ifCond .ne 15, 3) := by decide +kernel
theorem dL_law_1194 : decode cL_law 1194 = .ok (.aload_n 3, 1) := by decide +kernel
theorem dL_law_1195 : decode cL_law 1195 = .ok (.iconst 0, 1) := by decide +kernel
theorem dL_law_1196 : decode cL_law 1196 = .ok (.laload, 1) := by decide +kernel
theorem dL_law_1197 : decode cL_law 1197 = .ok (.iload 6, 2) := by decide +kernel
theorem dL_law_1199 : decode cL_law 1199 = .ok (.i2l, 1) := by decide +kernel
theorem dL_law_1200 : decode cL_law 1200 = .ok (.lcmp, 1) := by decide +kernel
theorem dL_law_1201 : decode cL_law 1201 = .ok (.ifCond .eq 5, 3) := by decide +kernel
theorem dL_law_1204 : decode cL_law 1204 = .ok (.iconst 0, 1) := by decide +kernel
theorem dL_law_1205 : decode cL_law 1205 = .ok (.ireturn, 1) := by decide +kernel
theorem dL_law_1206 : decode cL_law 1206 = .ok (.goto 157, 3) := by decide +kernel
theorem dL_law_1209 : decode cL_law 1209 = .ok (.aload_n 1, 1) := by decide +kernel
theorem dL_law_1210 : decode cL_law 1210 = .ok (.aload_n 0, 1) := by decide +kernel
theorem dL_law_1211 : decode cL_law 1211 = .ok (.iload 4, 2) := by decide +kernel
theorem dL_law_1213 : decode cL_law 1213 = .ok (.iconst 1, 1) := by decide +kernel
theorem dL_law_1214 : decode cL_law 1214 = .ok (.iadd, 1) := by decide +kernel
theorem dL_law_1215 : decode cL_law 1215 = .ok (.iaload, 1) := by decide +kernel
theorem dL_law_1216 : decode cL_law 1216 = .ok (.aload_n 3, 1) := by decide +kernel
theorem dL_law_1217 : decode cL_law 1217 = .ok (.invokestatic 157, 3) := by decide +kernel
theorem dL_law_1220 : decode cL_law 1220 = .ok (.istore 5, 2) := by decide +kernel
theorem dL_law_1222 : decode cL_law 1222 = .ok (.aload_n 2, 1) := by decide +kernel
theorem dL_law_1223 : decode cL_law 1223 = .ok (.aload_n 0, 1) := by decide +kernel
theorem dL_law_1224 : decode cL_law 1224 = .ok (.iload 4, 2) := by decide +kernel
theorem dL_law_1226 : decode cL_law 1226 = .ok (.iconst 1, 1) := by decide +kernel
theorem dL_law_1227 : decode cL_law 1227 = .ok (.iadd, 1) := by decide +kernel
theorem dL_law_1228 : decode cL_law 1228 = .ok (.iaload, 1) := by decide +kernel
theorem dL_law_1229 : decode cL_law 1229 = .ok (.invokevirtual 159, 3) := by decide +kernel
theorem dL_law_1232 : decode cL_law 1232 = .ok (.istore 6, 2) := by decide +kernel
theorem dL_law_1234 : decode cL_law 1234 = .ok (.aload_n 2, 1) := by decide +kernel
theorem dL_law_1235 : decode cL_law 1235 = .ok (.invokevirtual 83, 3) := by decide +kernel
theorem dL_law_1238 : decode cL_law 1238 = .ok (.iload 5, 2) := by decide +kernel
theorem dL_law_1240 : decode cL_law 1240 = .ok (.if_icmp .eq 5, 3) := by decide +kernel
theorem dL_law_1243 : decode cL_law 1243 = .ok (.iconst 0, 1) := by decide +kernel
theorem dL_law_1244 : decode cL_law 1244 = .ok (.ireturn, 1) := by decide +kernel
theorem dL_law_1245 : decode cL_law 1245 = .ok (.iload 5, 2) := by decide +kernel
theorem dL_law_1247 : decode cL_law 1247 = .ok (.ifCond .ne 15, 3) := by decide +kernel
theorem dL_law_1250 : decode cL_law 1250 = .ok (.aload_n 3, 1) := by decide +kernel
theorem dL_law_1251 : decode cL_law 1251 = .ok (.iconst 0, 1) := by decide +kernel
theorem dL_law_1252 : decode cL_law 1252 = .ok (.laload, 1) := by decide +kernel
theorem dL_law_1253 : decode cL_law 1253 = .ok (.iload 6, 2) := by decide +kernel
theorem dL_law_1255 : decode cL_law 1255 = .ok (.i2l, 1) := by decide +kernel
theorem dL_law_1256 : decode cL_law 1256 = .ok (.lcmp, 1) := by decide +kernel
theorem dL_law_1257 : decode cL_law 1257 = .ok (.ifCond .eq 5, 3) := by decide +kernel
theorem dL_law_1260 : decode cL_law 1260 = .ok (.iconst 0, 1) := by decide +kernel
theorem dL_law_1261 : decode cL_law 1261 = .ok (.ireturn, 1) := by decide +kernel
theorem dL_law_1262 : decode cL_law 1262 = .ok (.goto 101, 3) := by decide +kernel
theorem dL_law_1265 : decode cL_law 1265 = .ok (.aload_n 1, 1) := by decide +kernel
theorem dL_law_1266 : decode cL_law 1266 = .ok (.invokevirtual 160, 3) := by decide +kernel
theorem dL_law_1269 : decode cL_law 1269 = .ok (.dstore 5, 2) := by decide +kernel
theorem dL_law_1271 : decode cL_law 1271 = .ok (.aload_n 2, 1) := by decide +kernel
theorem dL_law_1272 : decode cL_law 1272 = .ok (.invokevirtual 164, 3) := by decide +kernel
theorem dL_law_1275 : decode cL_law 1275 = .ok (.dstore 7, 2) := by decide +kernel
theorem dL_law_1277 : decode cL_law 1277 = .ok (.dload 5, 2) := by decide +kernel
theorem dL_law_1279 : decode cL_law 1279 = .ok (.dload 7, 2) := by decide +kernel
theorem dL_law_1281 : decode cL_law 1281 = .ok (.dcmp .l, 1) := by decide +kernel
theorem dL_law_1282 : decode cL_law 1282 = .ok (.ifCond .eq 21, 3) := by decide +kernel
theorem dL_law_1285 : decode cL_law 1285 = .ok (.dload 5, 2) := by decide +kernel
theorem dL_law_1287 : decode cL_law 1287 = .ok (.dload 5, 2) := by decide +kernel
theorem dL_law_1289 : decode cL_law 1289 = .ok (.dcmp .l, 1) := by decide +kernel
theorem dL_law_1290 : decode cL_law 1290 = .ok (.ifCond .eq 11, 3) := by decide +kernel
theorem dL_law_1293 : decode cL_law 1293 = .ok (.dload 7, 2) := by decide +kernel
theorem dL_law_1295 : decode cL_law 1295 = .ok (.dload 7, 2) := by decide +kernel
theorem dL_law_1297 : decode cL_law 1297 = .ok (.dcmp .l, 1) := by decide +kernel
theorem dL_law_1298 : decode cL_law 1298 = .ok (.ifCond .ne 5, 3) := by decide +kernel
theorem dL_law_1301 : decode cL_law 1301 = .ok (.iconst 0, 1) := by decide +kernel
theorem dL_law_1302 : decode cL_law 1302 = .ok (.ireturn, 1) := by decide +kernel
theorem dL_law_1303 : decode cL_law 1303 = .ok (.goto 60, 3) := by decide +kernel
theorem dL_law_1306 : decode cL_law 1306 = .ok (.aload_n 1, 1) := by decide +kernel
theorem dL_law_1307 : decode cL_law 1307 = .ok (.invokevirtual 165, 3) := by decide +kernel
theorem dL_law_1310 : decode cL_law 1310 = .ok (.f2d, 1) := by decide +kernel
theorem dL_law_1311 : decode cL_law 1311 = .ok (.dstore 5, 2) := by decide +kernel
theorem dL_law_1313 : decode cL_law 1313 = .ok (.aload_n 2, 1) := by decide +kernel
theorem dL_law_1314 : decode cL_law 1314 = .ok (.invokevirtual 169, 3) := by decide +kernel
theorem dL_law_1317 : decode cL_law 1317 = .ok (.f2d, 1) := by decide +kernel
theorem dL_law_1318 : decode cL_law 1318 = .ok (.dstore 7, 2) := by decide +kernel
theorem dL_law_1320 : decode cL_law 1320 = .ok (.dload 5, 2) := by decide +kernel
theorem dL_law_1322 : decode cL_law 1322 = .ok (.dload 7, 2) := by decide +kernel
theorem dL_law_1324 : decode cL_law 1324 = .ok (.dcmp .l, 1) := by decide +kernel
theorem dL_law_1325 : decode cL_law 1325 = .ok (.ifCond .eq 21, 3) := by decide +kernel
theorem dL_law_1328 : decode cL_law 1328 = .ok (.dload 5, 2) := by decide +kernel
theorem dL_law_1330 : decode cL_law 1330 = .ok (.dload 5, 2) := by decide +kernel
theorem dL_law_1332 : decode cL_law 1332 = .ok (.dcmp .l, 1) := by decide +kernel
theorem dL_law_1333 : decode cL_law 1333 = .ok (.ifCond .eq 11, 3) := by decide +kernel
theorem dL_law_1336 : decode cL_law 1336 = .ok (.dload 7, 2) := by decide +kernel
theorem dL_law_1338 : decode cL_law 1338 = .ok (.dload 7, 2) := by decide +kernel
theorem dL_law_1340 : decode cL_law 1340 = .ok (.dcmp .l, 1) := by decide +kernel
theorem dL_law_1341 : decode cL_law 1341 = .ok (.ifCond .ne 5, 3) := by decide +kernel
theorem dL_law_1344 : decode cL_law 1344 = .ok (.iconst 0, 1) := by decide +kernel
theorem dL_law_1345 : decode cL_law 1345 = .ok (.ireturn, 1) := by decide +kernel
theorem dL_law_1346 : decode cL_law 1346 = .ok (.goto 17, 3) := by decide +kernel
theorem dL_law_1349 : decode cL_law 1349 = .ok (.aload_n 1, 1) := by decide +kernel
theorem dL_law_1350 : decode cL_law 1350 = .ok (.invokevirtual 170, 3) := by decide +kernel
theorem dL_law_1353 : decode cL_law 1353 = .ok (.aload_n 2, 1) := by decide +kernel
theorem dL_law_1354 : decode cL_law 1354 = .ok (.invokevirtual 174, 3) := by decide +kernel
theorem dL_law_1357 : decode cL_law 1357 = .ok (.lcmp, 1) := by decide +kernel
theorem dL_law_1358 : decode cL_law 1358 = .ok (.ifCond .eq 5, 3) := by decide +kernel
theorem dL_law_1361 : decode cL_law 1361 = .ok (.iconst 0, 1) := by decide +kernel
theorem dL_law_1362 : decode cL_law 1362 = .ok (.ireturn, 1) := by decide +kernel
theorem dL_law_1363 : decode cL_law 1363 = .ok (.iinc 4 4, 3) := by decide +kernel
theorem dL_law_1366 : decode cL_law 1366 = .ok (.goto (-1343), 3) := by decide +kernel
theorem dL_law_1369 : decode cL_law 1369 = .ok (.iconst 1, 1) := by decide +kernel
theorem dL_law_1370 : decode cL_law 1370 = .ok (.ireturn, 1) := by decide +kernel
end
section
/-! own rows: a world is 'nn cells at the addresses a k, holding e k'; one context KX for all methods; words out of one list wsA -/
section BASE0
abbrev St : Type := Nat → Nat → Int32
def up2 (s : St) (r k : Nat) (v : Int32) : St := fun r' => if r' = r then upd (s r) k v else s r'
def upR (s : St) (r : Nat) (f : Nat → Int32) : St := fun r' => if r' = r then f else s r'
theorem up2_eq (s : St) (r k : Nat) (v : Int32) : up2 s r k v = upR s r (upd (s r) k v) := rfl
def HP (D : va_G) (nn : Nat) (a : Nat → Nat) (e : Nat → va_E) (H : Heap) : Prop := ∀ k, k < nn → va_at D vwCl (a k, e k) H
def wl (nn : Nat) (a : Nat → Nat) (e : Nat → va_E) : va_W := (List.range nn).map (fun k => (a k, e k))
theorem wl_len {nn : Nat} {a : Nat → Nat} {e : Nat → va_E} : (wl nn a e).length = nn := by simp [wl]
theorem wl_get {nn : Nat} {a : Nat → Nat} {e : Nat → va_E} {k : Nat} (hk : k < nn) : (wl nn a e)[k]? = some (a k, e k) := by simp [wl, hk]
theorem wl_get2 {nn : Nat} {a : Nat → Nat} {e : Nat → va_E} {k : Nat} {q : Nat × va_E} (h : (wl nn a e)[k]? = some q) : k < nn ∧ q = (a k, e k) := by
  have hk : k < nn := by
    have := (List.getElem?_eq_some_iff.mp h).1
    rwa [wl_len] at this
  rw [wl_get hk] at h
  exact ⟨hk, (Option.some.inj h).symm⟩
theorem HP.l {D : va_G} {nn : Nat} {a : Nat → Nat} {e : Nat → va_E} {H : Heap} (h : HP D nn a e H) : va_P D vwCl (wl nn a e) H := by
  intro k q hq
  obtain ⟨hk, rfl⟩ := wl_get2 hq
  exact h k hk
theorem HP.set {D : va_G} {nn : Nat} {a : Nat → Nat} {e e' : Nat → va_E} {H : Heap} {k : Nat} {x : va_E} (hk : k < nn) (hs : e' k = x) (ho : ∀ j, j < nn → j ≠ k → e' j = e j) (h : va_P D vwCl ((wl nn a e).set k (a k, x)) H) : HP D nn a e' H := by
  intro j hj
  by_cases hjk : j = k
  · subst hjk
    refine h j (a j, e' j) ?_
    rw [List.getElem?_set_self (by rw [wl_len]; exact hj), hs]
  · have h1 := h j (a j, e j) (by rw [List.getElem?_set_ne (Ne.symm hjk)]; exact wl_get hj)
    rw [ho j hj hjk]
    exact h1
theorem HP.kept {D : va_G} {nn : Nat} {a : Nat → Nat} {e : Nat → va_E} {H H1 : Heap} (h : HP D nn a e H) (hq : ∀ k, k < nn → H1[a k]? = H[a k]?) : HP D nn a e H1 := fun k hk => (h k hk).kept (hq k hk)
theorem HP.lt {D : va_G} {nn : Nat} {a : Nat → Nat} {e : Nat → va_E} {H : Heap} (h : HP D nn a e H) {k : Nat} (hk : k < nn) : a k < H.size := (h k hk).lt
def DI (nn : Nat) (a : Nat → Nat) : Prop := ∀ i j, i < nn → j < nn → a i = a j → i = j
def AX (nn : Nat) (a : Nat → Nat) (sz : Nat) : Nat → Prop := fun q => (∃ k, k < nn ∧ q = a k) ∨ sz ≤ q
theorem DI.D {nn : Nat} {a : Nat → Nat} {e : Nat → va_E} {sz : Nat} (h : DI nn a) : va_D (AX nn a sz) (wl nn a e) := by
  refine ⟨fun i j p q hi hj hpq => ?_, fun k q hk => ?_⟩
  · obtain ⟨h1, rfl⟩ := wl_get2 hi
    obtain ⟨h2, rfl⟩ := wl_get2 hj
    exact h i j h1 h2 hpq
  · obtain ⟨h1, rfl⟩ := wl_get2 hk
    exact Or.inl ⟨k, h1, rfl⟩
theorem AX_mono {nn : Nat} {a : Nat → Nat} {sz sz' : Nat} (h : sz ≤ sz') {q : Nat} (hq : AX nn a sz' q) : AX nn a sz q := by
  rcases hq with hq | hq
  · exact Or.inl hq
  · exact Or.inr (Nat.le_trans h hq)
def KX (D : va_G) (cI cS : ClassId) (U : State) : Prop := va_K D vwCl [(cI, .int), (cS, .object RX4)] U ∧ ∀ w ∈ nestW, va_Nw w U
theorem KX.same {D : va_G} {cI cS : ClassId} {u U : State} (h : u.vm = U.vm) (hK : KX D cI cS u) : KX D cI cS U := by
  refine ⟨va_K.moved (by rw [h]; exact Vm.Alike.refl _) hK.1, fun w hw => ?_⟩
  have h1 := hK.2 w hw
  rcases nestW_keep w hw with ⟨a, b, c, d, e, f, rfl⟩ | ⟨a, b, c, d, rfl⟩
  · exact va_Nw.same rfl h h1
  · exact va_Nw.same rfl h h1
theorem KX.moved {D : va_G} {cI cS : ClassId} {s U : State} (hW : s.WarmedH U.vm) (hK : KX D cI cS s) : KX D cI cS U := by
  refine ⟨va_K.moved hW.alike hK.1, fun w hw => ?_⟩
  have h1 := hK.2 w hw
  rcases nestW_keep w hw with ⟨a, b, c, d, e, f, rfl⟩ | ⟨a, b, c, d, rfl⟩
  · exact va_Nw.warmF hW h1
  · exact va_Nw.warmM hW h1
/-- what a method is given: to read alone; to write -/
def PR (D : va_G) (cI cS : ClassId) (nn : Nat) (a : Nat → Nat) (e : Nat → va_E) : State → Prop := fun U => HP D nn a e U.heap ∧ KX D cI cS U
def PW (D : va_G) (cI cS : ClassId) (nn : Nat) (a : Nat → Nat) (e : Nat → va_E) (sz : Nat) : State → Prop := fun U => U.heap.size = sz ∧ HP D nn a e U.heap ∧ KX D cI cS U ∧ DI nn a
theorem pb0 {av : List Value} : FrameBlind (va_Pc av (fun _ => True)) := fun _ _ _ _ h => h
theorem pbR {D : va_G} {cI cS : ClassId} {nn : Nat} {a : Nat → Nat} {e : Nat → va_E} {av : List Value} : FrameBlind (va_Pc av (PR D cI cS nn a e)) := fun a U g mk h => ⟨h.1, h.2.1, KX.same (u := U) (U := U.calling g mk a) rfl h.2.2⟩
theorem pbW {D : va_G} {cI cS : ClassId} {nn sz : Nat} {a : Nat → Nat} {e : Nat → va_E} {av : List Value} : FrameBlind (va_Pc av (PW D cI cS nn a e sz)) := fun a U g mk h => ⟨h.1, h.2.1, h.2.2.1, KX.same (u := U) (U := U.calling g mk a) rfl h.2.2.2.1, h.2.2.2.2⟩
theorem g_recv {D : va_G} {cI cS : ClassId} {s : State} {nn : Nat} {a : Nat → Nat} {e : Nat → va_E} {H : Heap} {C : String} {T : u_T} {N ci n : Nat} {fs : List Value} (hK : KX D cI cS s) (hP : HP D nn a e H) (hn : n < nn) (he : e n = .inr (ci, fs)) (hc : vwCl[ci]? = some (C, T, N)) : ∃ cell : Cell, H[a n]? = some cell ∧ cell.vm.isStatics = false ∧ s.vm.findClass C = some cell.cls :=
  va_recv (q := (C, T, N)) hK.1 hP.l hc (by rw [wl_get hn, he])
theorem pvR {D : va_G} {cI cS : ClassId} {s : State} {nn : Nat} {a : Nat → Nat} {e : Nat → va_E} {H : Heap} {C : String} {T : u_T} {N ci : Nat} {fs As : List Value} (n : Nat) (hK : KX D cI cS s) (hP : HP D nn a e H) (hn : n < nn) (he : e n = .inr (ci, fs)) (hc : vwCl[ci]? = some (C, T, N)) : PreV s H C (a n) (va_Pc (.ref (a n) :: As) (PR D cI cS nn a e)) As :=
  ⟨pbR, g_recv hK hP hn he hc, fun U hU hW => ⟨rfl, by rw [hU]; exact hP, hK.moved hW⟩⟩
/-- .. for a callee that looks at another world, a part of this one -/
theorem pvR' {D : va_G} {cI cS : ClassId} {s : State} {nn nn' : Nat} {a a' : Nat → Nat} {e e' : Nat → va_E} {H : Heap} {C : String} {T : u_T} {N ci : Nat} {fs As : List Value} {b : Nat} (n : Nat) (hb : a n = b) (hK : KX D cI cS s) (hP : HP D nn a e H) (hn : n < nn) (he : e n = .inr (ci, fs)) (hc : vwCl[ci]? = some (C, T, N)) (hP' : HP D nn' a' e' H) : PreV s H C b (va_Pc (.ref b :: As) (PR D cI cS nn' a' e')) As :=
  ⟨pbR, by rw [← hb]; exact g_recv hK hP hn he hc, fun U hU hW => ⟨rfl, by rw [hU]; exact hP', hK.moved hW⟩⟩
theorem pv0 {D : va_G} {cI cS : ClassId} {s : State} {nn : Nat} {a : Nat → Nat} {e : Nat → va_E} {H : Heap} {C : String} {T : u_T} {N ci : Nat} {fs As : List Value} (n : Nat) (hK : KX D cI cS s) (hP : HP D nn a e H) (hn : n < nn) (he : e n = .inr (ci, fs)) (hc : vwCl[ci]? = some (C, T, N)) : PreV s H C (a n) (va_Pc (.ref (a n) :: As) (fun _ => True)) As :=
  ⟨pb0, g_recv hK hP hn he hc, fun U hU hW => ⟨rfl, trivial⟩⟩
theorem pvW {D : va_G} {cI cS : ClassId} {s : State} {nn : Nat} {a : Nat → Nat} {e : Nat → va_E} {H : Heap} {C : String} {T : u_T} {N ci : Nat} {fs As : List Value} (n : Nat) (hK : KX D cI cS s) (hP : HP D nn a e H) (hE : DI nn a) (hn : n < nn) (he : e n = .inr (ci, fs)) (hc : vwCl[ci]? = some (C, T, N)) : PreV s H C (a n) (va_Pc (.ref (a n) :: As) (PW D cI cS nn a e H.size)) As :=
  ⟨pbW, g_recv hK hP hn he hc, fun U hU hW => ⟨rfl, by rw [hU], by rw [hU]; exact hP, hK.moved hW, hE⟩⟩
theorem pvW' {D : va_G} {cI cS : ClassId} {s : State} {nn nn' : Nat} {a a' : Nat → Nat} {e e' : Nat → va_E} {H : Heap} {C : String} {T : u_T} {N ci : Nat} {fs As : List Value} {b : Nat} (n : Nat) (hb : a n = b) (hK : KX D cI cS s) (hP : HP D nn a e H) (hn : n < nn) (he : e n = .inr (ci, fs)) (hc : vwCl[ci]? = some (C, T, N)) (hP' : HP D nn' a' e' H) (hE : DI nn' a') : PreV s H C b (va_Pc (.ref b :: As) (PW D cI cS nn' a' e' H.size)) As :=
  ⟨pbW, by rw [← hb]; exact g_recv hK hP hn he hc, fun U hU hW => ⟨rfl, by rw [hU], by rw [hU]; exact hP', hK.moved hW, hE⟩⟩
theorem ps0 {s : State} {H : Heap} {As : List Value} : PreS s H (va_Pc As (fun _ => True)) As := ⟨pb0, fun U hU hW => ⟨rfl, trivial⟩⟩
theorem psR {D : va_G} {cI cS : ClassId} {s : State} {nn : Nat} {a : Nat → Nat} {e : Nat → va_E} {H : Heap} {As : List Value} (hK : KX D cI cS s) (hP : HP D nn a e H) : PreS s H (va_Pc As (PR D cI cS nn a e)) As := ⟨pbR, fun U hU hW => ⟨rfl, by rw [hU]; exact hP, hK.moved hW⟩⟩
theorem psW {D : va_G} {cI cS : ClassId} {s : State} {nn : Nat} {a : Nat → Nat} {e : Nat → va_E} {H : Heap} {As : List Value} (hK : KX D cI cS s) (hP : HP D nn a e H) (hE : DI nn a) : PreS s H (va_Pc As (PW D cI cS nn a e H.size)) As := ⟨pbW, fun U hU hW => ⟨rfl, by rw [hU], by rw [hU]; exact hP, hK.moved hW, hE⟩⟩
/-- words of a call out of wsA -/
theorem wgood {w : Cond} (h : w ∈ wsA) : w ∈ wsA ∧ ((w.onTables && w.keeps) = true ∨ ∃ ty, w = .arrayClass ty) := ⟨h, good_of_word (List.mem_filter.mp h).2⟩
theorem gA {c : Cond} (h : c ∈ wsA) : GoodIn wsA (c :: wsA) := by
  intro w hw
  rcases List.mem_cons.mp hw with rfl | hw
  · exact wgood h
  · exact wgood hw
theorem gV {own C : String} {idx : Nat} {y : MethodName} {c : Cond} (hc : c ∈ wsA) (h1 : Cond.methodLink own idx y ∈ wsA) (h2 : Cond.instanceMethod y ∈ wsA) (h3 : Cond.selects C y y ∈ wsA) (h4 : Cond.initialized C ∈ wsA) : GoodIn wsA (wsV own idx C y (c :: wsA)) := by
  intro w hw
  unfold wsV at hw
  rcases List.mem_append.mp hw with hw | hw
  · rcases List.mem_cons.mp hw with rfl | hw
    · exact wgood h1
    · rcases List.mem_cons.mp hw with rfl | hw
      · exact wgood h2
      · rcases List.mem_cons.mp hw with rfl | hw
        · exact wgood h3
        · rcases List.mem_cons.mp hw with rfl | hw
          · exact wgood h4
          · cases hw
  · exact gA hc w hw
theorem gS {own : String} {idx : Nat} {y : MethodName} {c : Cond} (hc : c ∈ wsA) (h1 : Cond.methodLink own idx y ∈ wsA) (h2 : Cond.static y ∈ wsA) (h4 : Cond.initialized y.cls ∈ wsA) : GoodIn wsA (va_wsS own idx y (c :: wsA)) := by
  intro w hw
  unfold va_wsS at hw
  rcases List.mem_append.mp hw with hw | hw
  · rcases List.mem_cons.mp hw with rfl | hw
    · exact wgood h1
    · rcases List.mem_cons.mp hw with rfl | hw
      · exact wgood h2
      · rcases List.mem_cons.mp hw with rfl | hw
        · exact wgood h4
        · cases hw
  · exact gA hc w hw
end BASE0
section BASE1
variable {p : Program} {l : Launch} {e : Env} {R : Room} {s : State} {m : MethodId} {args : Array Value} {below : List Frame} {meth : Method} {c : Code} {H : Heap} {locs : List Loc} {cells slots : Nat} {Q : State → Prop}
variable {pc : Nat} {ls : Array Slot} {rest : List Value} {cc : ByteArray} {D : va_G} {cI cS : ClassId} {nn : Nat} {a : Nat → Nat} {ex ex' : Nat → va_E} {H0 : Heap}
theorem g_get (hexec : p.tables.exec = Jvm.exec) (hb : c.code = cc) (hts : ∀ w ∈ wsA, w.before args s = true) {own ref C : String} {T : u_T} {N ci index : Nat} (hown : s.vm.findClass own = some m.cls) (hin : ∀ w ∈ u_ws C T N, w ∈ wsA) (hK : KX D cI cS s) (hP : HP D nn a ex H) (n : Nat) (hn : n < nn) {fs : List Value} (he : ex n = .inr (ci, fs)) (hc : vwCl[ci]? = some (C, T, N)) (k : Nat) (hk : k < N) (hlink : Cond.fieldLink own index ref (T k).2.1 (T k).2.2.1 ∈ wsA) (hsame : (T k).1 = ref) {v : Value} (hv : fs[k]? = some v) (hdg : decode cc pc = .ok (.getfield index, 3))
    (kk : W p l e R s m args below meth c H locs cells slots Q (F0 m (pc + 3) ls (v :: rest))) : W p l e R s m args below meth c H locs cells slots Q (F0 m pc ls (.ref (a n) :: rest)) :=
  va_get hexec hb hts hin hown hK.1 hP.l n (by rw [wl_get hn, he]) hc k hk (hts _ hlink) (by subst hsame; exact fun _ h => h) hv hdg kk
theorem g_getN (hexec : p.tables.exec = Jvm.exec) (hb : c.code = cc) (hts : ∀ w ∈ wsA, w.before args s = true) {own ref C host : String} {T : u_T} {N ci index : Nat} (hown : s.vm.findClass own = some m.cls) (hin : ∀ w ∈ u_ws C T N, w ∈ wsA) (hK : KX D cI cS s) (hP : HP D nn a ex H) (n : Nat) (hn : n < nn) {fs : List Value} (he : ex n = .inr (ci, fs)) (hc : vwCl[ci]? = some (C, T, N)) (k : Nat) (hk : k < N) (hlink : Cond.fieldLinkNest own index ref (T k).2.1 (T k).2.2.1 host ∈ nestW) (hsame : (T k).1 = ref) {v : Value} (hv : fs[k]? = some v) (hdg : decode cc pc = .ok (.getfield index, 3))
    (kk : W p l e R s m args below meth c H locs cells slots Q (F0 m (pc + 3) ls (v :: rest))) : W p l e R s m args below meth c H locs cells slots Q (F0 m pc ls (.ref (a n) :: rest)) :=
  va_getN hexec hb hts hin hown hK.1 hP.l n (by rw [wl_get hn, he]) hc k hk (va_Nw.use rfl (hK.2 _ hlink)) (by subst hsame; exact fun _ h => h) hv hdg kk
theorem g_put (hexec : p.tables.exec = Jvm.exec) (hb : c.code = cc) (hts : ∀ w ∈ wsA, w.before args s = true) {own ref C : String} {T : u_T} {N ci index : Nat} (hown : s.vm.findClass own = some m.cls) (hin : ∀ w ∈ u_ws C T N, w ∈ wsA) (ty0 : Nat → FieldType) (hty : ∀ k, k < N → parseFieldDescriptor (T k).2.2.1 = some (ty0 k)) (hnm : ∀ a, a < N → ∀ b, b < N → a ≠ b → (T a).2.1 ≠ (T b).2.1) (hK : KX D cI cS s) (hP : HP D nn a ex H) (hE : DI nn a) (hS : va_S (AX nn a H0.size) H0 H locs) (n : Nat) (hn : n < nn) {fs : List Value} (he : ex n = .inr (ci, fs)) (hc : vwCl[ci]? = some (C, T, N)) (k : Nat) (hk : k < N) (hlink : Cond.fieldLink own index ref (T k).2.1 (T k).2.2.1 ∈ wsA) (hsame : (T k).1 = ref) (hfin : (T k).2.2.2 = false) {ty : FieldType} {v : Value} (hd : parseFieldDescriptor (T k).2.2.1 = some ty) (hnr : narrow ty v = v) (hfit : fits ty v = true) (hl : k < fs.length) (hdg : decode cc pc = .ok (.putfield index, 3)) (hs : ex' n = .inr (ci, fs.set k v)) (ho : ∀ j, j < nn → j ≠ n → ex' j = ex j)
    (kk : ∀ (H1 : Heap) (locs1 : List Loc), HP D nn a ex' H1 → va_S (AX nn a H0.size) H0 H1 locs1 → W p l e R s m args below meth c H1 locs1 cells slots Q (F0 m (pc + 3) ls rest)) : W p l e R s m args below meth c H locs cells slots Q (F0 m pc ls (v :: .ref (a n) :: rest)) :=
  va_put hexec hb hts hin ty0 hty hnm hown hK.1 hP.l (hE.D (sz := H0.size)) hS n (by rw [wl_get hn, he]) hc k hk (hts _ hlink) (by subst hsame; exact fun _ h => h) hfin hd hnr hfit hl hdg (fun H1 locs1 h1 _ h3 => kk H1 locs1 (HP.set hn hs ho h1) h3)
theorem g_putN (hexec : p.tables.exec = Jvm.exec) (hb : c.code = cc) (hts : ∀ w ∈ wsA, w.before args s = true) {own ref C host : String} {T : u_T} {N ci index : Nat} (hown : s.vm.findClass own = some m.cls) (hin : ∀ w ∈ u_ws C T N, w ∈ wsA) (ty0 : Nat → FieldType) (hty : ∀ k, k < N → parseFieldDescriptor (T k).2.2.1 = some (ty0 k)) (hnm : ∀ a, a < N → ∀ b, b < N → a ≠ b → (T a).2.1 ≠ (T b).2.1) (hK : KX D cI cS s) (hP : HP D nn a ex H) (hE : DI nn a) (hS : va_S (AX nn a H0.size) H0 H locs) (n : Nat) (hn : n < nn) {fs : List Value} (he : ex n = .inr (ci, fs)) (hc : vwCl[ci]? = some (C, T, N)) (k : Nat) (hk : k < N) (hlink : Cond.fieldLinkNest own index ref (T k).2.1 (T k).2.2.1 host ∈ nestW) (hsame : (T k).1 = ref) (hfin : (T k).2.2.2 = false) {ty : FieldType} {v : Value} (hd : parseFieldDescriptor (T k).2.2.1 = some ty) (hnr : narrow ty v = v) (hfit : fits ty v = true) (hl : k < fs.length) (hdg : decode cc pc = .ok (.putfield index, 3)) (hs : ex' n = .inr (ci, fs.set k v)) (ho : ∀ j, j < nn → j ≠ n → ex' j = ex j)
    (kk : ∀ (H1 : Heap) (locs1 : List Loc), HP D nn a ex' H1 → va_S (AX nn a H0.size) H0 H1 locs1 → W p l e R s m args below meth c H1 locs1 cells slots Q (F0 m (pc + 3) ls rest)) : W p l e R s m args below meth c H locs cells slots Q (F0 m pc ls (v :: .ref (a n) :: rest)) :=
  va_putN hexec hb hts hin ty0 hty hnm hown hK.1 hP.l (hE.D (sz := H0.size)) hS n (by rw [wl_get hn, he]) hc k hk (va_Nw.use rfl (hK.2 _ hlink)) (by subst hsame; exact fun _ h => h) hfin hd hnr hfit hl hdg (fun H1 locs1 h1 _ h3 => kk H1 locs1 (HP.set hn hs ho h1) h3)
theorem g_iald (hexec : p.tables.exec = Jvm.exec) (hb : c.code = cc) (hK : KX D cI cS s) (hP : HP D nn a ex H) (n : Nat) (hn : n < nn) {len : Nat} {f : Nat → Int32} (he : ex n = .inl (cI, len, .inl f)) {i : Int32} (k : Nat) (hi : i = nI k) (hk : k < len) (hl : len < 2 ^ 31) (hdg : decode cc pc = .ok (.iaload, 1)) {v : Int32} (hv : f k = v)
    (kk : W p l e R s m args below meth c H locs cells slots Q (F0 m (pc + 1) ls (.int v :: rest))) : W p l e R s m args below meth c H locs cells slots Q (F0 m pc ls (.int i :: .ref (a n) :: rest)) := by
  subst hi
  subst hv
  refine va_iald hexec hb hK.1 hP.l n 0 (by rw [wl_get hn, he]) rfl (vp_in_nI hk hl) hdg ?_
  rw [nI_clamp (by omega)]
  exact kk
theorem g_iast (hexec : p.tables.exec = Jvm.exec) (hb : c.code = cc) (hK : KX D cI cS s) (hP : HP D nn a ex H) (hE : DI nn a) (hS : va_S (AX nn a H0.size) H0 H locs) (n : Nat) (hn : n < nn) {len : Nat} {f : Nat → Int32} (he : ex n = .inl (cI, len, .inl f)) {i x : Int32} (k : Nat) (hi : i = nI k) (hk : k < len) (hl : len < 2 ^ 31) (hdg : decode cc pc = .ok (.iastore, 1)) (hs : ex' n = .inl (cI, len, .inl (upd f k x))) (ho : ∀ j, j < nn → j ≠ n → ex' j = ex j)
    (kk : ∀ (H1 : Heap) (locs1 : List Loc), HP D nn a ex' H1 → va_S (AX nn a H0.size) H0 H1 locs1 → W p l e R s m args below meth c H1 locs1 cells slots Q (F0 m (pc + 1) ls rest)) : W p l e R s m args below meth c H locs cells slots Q (F0 m pc ls (.int x :: .int i :: .ref (a n) :: rest)) := by
  subst hi
  refine va_iast hexec hb hK.1 hP.l (hE.D (sz := H0.size)) hS n 0 (by rw [wl_get hn, he]) rfl (vp_in_nI hk hl) hdg (fun H1 locs1 h1 _ h3 => ?_)
  rw [nI_clamp (by omega)] at h1
  exact kk H1 locs1 (HP.set hn hs ho h1) h3
theorem g_alen (hexec : p.tables.exec = Jvm.exec) (hb : c.code = cc) (hK : KX D cI cS s) (hP : HP D nn a ex H) (n : Nat) (hn : n < nn) {len : Nat} {f : Nat → Int32} (he : ex n = .inl (cI, len, .inl f)) {v : Int32} (hv : nI len = v) (hdg : decode cc pc = .ok (.arraylength, 1))
    (kk : W p l e R s m args below meth c H locs cells slots Q (F0 m (pc + 1) ls (.int v :: rest))) : W p l e R s m args below meth c H locs cells slots Q (F0 m pc ls (.ref (a n) :: rest)) :=
  va_alen (x := (len, .inl f)) hexec hb hK.1 hP.l n 0 (by rw [wl_get hn, he]) rfl hv hdg kk
theorem g_aldq (hexec : p.tables.exec = Jvm.exec) (hb : c.code = cc) (hK : KX D cI cS s) (hP : HP D nn a ex H) (n : Nat) (hn : n < nn) {len : Nat} {f : Nat → Option Nat} (he : ex n = .inl (cS, len, .inr (.inr (.inr (.inr f))))) {i : Int32} (k : Nat) (hi : i = nI k) (hk : k < len) (hl : len < 2 ^ 31) (hdg : decode cc pc = .ok (.aaload, 1)) {q : Nat} (hv : f k = some q)
    (kk : W p l e R s m args below meth c H locs cells slots Q (F0 m (pc + 1) ls (.ref q :: rest))) : W p l e R s m args below meth c H locs cells slots Q (F0 m pc ls (.int i :: .ref (a n) :: rest)) := by
  subst hi
  refine va_aldq hexec hb hK.1 hP.l n 1 (by rw [wl_get hn, he]) rfl (vp_in_nI hk hl) hdg ?_
  rw [nI_clamp (by omega), hv]
  exact kk
/-! a callee that writes nothing -/
theorem ro_i {post : Int32 → Prop} {aa : Array Value} {st0 : List Value} (hr : va_Run p l e R s m args below meth c H locs cells slots 0 0 (F0 m pc ls st0) rest (vp_Si post aa) (fun _ => False))
    (kk : ∀ r : Int32, post r → W p l e R s m args below meth c H locs cells slots Q (F0 m (pc + 3) ls (.int r :: rest))) : W p l e R s m args below meth c H locs cells slots Q (F0 m pc ls st0) := by
  intro T hT X
  obtain ⟨v, st₀, t, T', L, h0, X', hL, e1, e2, ⟨r, hv, hp, hh⟩, st⟩ := hr T hT X
  cases hv
  obtain ⟨t2, a1, b1⟩ := kk r hp T' (by rw [e1, hh, h0]) (Stand.forget X' (fun q h => (hL q h).elim))
  exact ⟨t2, st t2 a1, b1⟩
theorem ro_l {post : Int64 → Prop} {aa : Array Value} {st0 : List Value} (hr : va_Run p l e R s m args below meth c H locs cells slots 0 0 (F0 m pc ls st0) rest (vp_Sl post aa) (fun _ => False))
    (kk : ∀ r : Int64, post r → W p l e R s m args below meth c H locs cells slots Q (F0 m (pc + 3) ls (.long r :: rest))) : W p l e R s m args below meth c H locs cells slots Q (F0 m pc ls st0) := by
  intro T hT X
  obtain ⟨v, st₀, t, T', L, h0, X', hL, e1, e2, ⟨r, hv, hp, hh⟩, st⟩ := hr T hT X
  cases hv
  obtain ⟨t2, a1, b1⟩ := kk r hp T' (by rw [e1, hh, h0]) (Stand.forget X' (fun q h => (hL q h).elim))
  exact ⟨t2, st t2 a1, b1⟩
theorem ro_f {post : UInt32 → Prop} {aa : Array Value} {st0 : List Value} (hr : va_Run p l e R s m args below meth c H locs cells slots 0 0 (F0 m pc ls st0) rest (vp_Sf post aa) (fun _ => False))
    (kk : ∀ r : UInt32, post r → W p l e R s m args below meth c H locs cells slots Q (F0 m (pc + 3) ls (.float r :: rest))) : W p l e R s m args below meth c H locs cells slots Q (F0 m pc ls st0) := by
  intro T hT X
  obtain ⟨v, st₀, t, T', L, h0, X', hL, e1, e2, ⟨r, hv, hp, hh⟩, st⟩ := hr T hT X
  cases hv
  obtain ⟨t2, a1, b1⟩ := kk r hp T' (by rw [e1, hh, h0]) (Stand.forget X' (fun q h => (hL q h).elim))
  exact ⟨t2, st t2 a1, b1⟩
theorem ro_d {post : UInt64 → Prop} {aa : Array Value} {st0 : List Value} (hr : va_Run p l e R s m args below meth c H locs cells slots 0 0 (F0 m pc ls st0) rest (vp_Sd post aa) (fun _ => False))
    (kk : ∀ r : UInt64, post r → W p l e R s m args below meth c H locs cells slots Q (F0 m (pc + 3) ls (.double r :: rest))) : W p l e R s m args below meth c H locs cells slots Q (F0 m pc ls st0) := by
  intro T hT X
  obtain ⟨v, st₀, t, T', L, h0, X', hL, e1, e2, ⟨r, hv, hp, hh⟩, st⟩ := hr T hT X
  cases hv
  obtain ⟨t2, a1, b1⟩ := kk r hp T' (by rw [e1, hh, h0]) (Stand.forget X' (fun q h => (hL q h).elim))
  exact ⟨t2, st t2 a1, b1⟩
/-! its end -/
theorem ro_ir {post : Int32 → Prop} {v : Int32} {ty : FieldType} (hx : p.tables.exec = Jvm.exec) (hb : c.code = cc) (hr : meth.sig.returnType = some ty) (hn : narrow ty (.int v) = .int v) (hlocks : meth.locks = false) (hp : post v) (hdg : decode cc pc = .ok (.ireturn, 1)) : W p l e R s m args below meth c s.heap [] 0 0 (MQ below (vp_Si post) args s 0 0 (fun _ => False)) (F0 m pc ls [.int v]) :=
  W.zret hx hb hr hn (fun t ht _ => ⟨v, rfl, hp, ht⟩) (fun q hq => absurd hq List.not_mem_nil) hdg hlocks
theorem ro_lr {post : Int64 → Prop} {v : Int64} (hx : p.tables.exec = Jvm.exec) (hb : c.code = cc) (hr : meth.sig.returnType = some .long) (hlocks : meth.locks = false) (hp : post v) (hdg : decode cc pc = .ok (.lreturn, 1)) : W p l e R s m args below meth c s.heap [] 0 0 (MQ below (vp_Sl post) args s 0 0 (fun _ => False)) (F0 m pc ls [.long v]) :=
  W.lret hx hb hr (fun t ht _ => ⟨v, rfl, hp, ht⟩) (fun q hq => absurd hq List.not_mem_nil) hdg hlocks
theorem ro_fr {post : UInt32 → Prop} {v : UInt32} (hx : p.tables.exec = Jvm.exec) (hb : c.code = cc) (hr : meth.sig.returnType = some .float) (hlocks : meth.locks = false) (hp : post v) (hdg : decode cc pc = .ok (.freturn, 1)) : W p l e R s m args below meth c s.heap [] 0 0 (MQ below (vp_Sf post) args s 0 0 (fun _ => False)) (F0 m pc ls [.float v]) :=
  W.fret hx hb hr (fun t ht _ => ⟨v, rfl, hp, ht⟩) (fun q hq => absurd hq List.not_mem_nil) hdg hlocks
theorem ro_dr {post : UInt64 → Prop} {v : UInt64} (hx : p.tables.exec = Jvm.exec) (hb : c.code = cc) (hr : meth.sig.returnType = some .double) (hlocks : meth.locks = false) (hp : post v) (hdg : decode cc pc = .ok (.dreturn, 1)) : W p l e R s m args below meth c s.heap [] 0 0 (MQ below (vp_Sd post) args s 0 0 (fun _ => False)) (F0 m pc ls [.double v]) :=
  W.dret hx hb hr (fun t ht _ => ⟨v, rfl, hp, ht⟩) (fun q hq => absurd hq List.not_mem_nil) hdg hlocks
/-! a callee that writes: in the caller's own world; in another one -/
abbrev BW (D : va_G) (nn : Nat) (a : Nat → Nat) {S : Type} (e' : S → Nat → va_E) : S → State → Prop := fun u t => HP D nn a (e' u) t.heap
theorem rw_i {S : Type} {post : Int32 → S → Prop} {e' : S → Nat → va_E} {aa : Array Value} {st0 : List Value} {mc ms : Nat} (hS : va_S (AX nn a H0.size) H0 H locs) (hr : va_Run p l e R s m args below meth c H locs cells slots mc ms (F0 m pc ls st0) rest (va_Qi post (BW D nn a e') (AX nn a H.size) aa) (AX nn a H.size))
    (kk : ∀ (r : Int32) (u : S) (H1 : Heap) (locs1 : List Loc), post r u → HP D nn a (e' u) H1 → va_S (AX nn a H0.size) H0 H1 locs1 → W p l e R s m args below meth c H1 locs1 (cells + mc) (slots + ms) Q (F0 m (pc + 3) ls (.int r :: rest))) : W p l e R s m args below meth c H locs cells slots Q (F0 m pc ls st0) :=
  va_calli hr hS (fun q _ h => AX_mono hS.1 h) (fun q h => AX_mono hS.1 h) (fun r u t H1 locs1 ht _ hp hB _ _ hS1 => kk r u H1 locs1 hp (ht ▸ hB) hS1)
theorem rw_l {S : Type} {post : Int64 → S → Prop} {e' : S → Nat → va_E} {aa : Array Value} {st0 : List Value} {mc ms : Nat} (hS : va_S (AX nn a H0.size) H0 H locs) (hr : va_Run p l e R s m args below meth c H locs cells slots mc ms (F0 m pc ls st0) rest (va_Ql post (BW D nn a e') (AX nn a H.size) aa) (AX nn a H.size))
    (kk : ∀ (r : Int64) (u : S) (H1 : Heap) (locs1 : List Loc), post r u → HP D nn a (e' u) H1 → va_S (AX nn a H0.size) H0 H1 locs1 → W p l e R s m args below meth c H1 locs1 (cells + mc) (slots + ms) Q (F0 m (pc + 3) ls (.long r :: rest))) : W p l e R s m args below meth c H locs cells slots Q (F0 m pc ls st0) :=
  va_calll hr hS (fun q _ h => AX_mono hS.1 h) (fun q h => AX_mono hS.1 h) (fun r u t H1 locs1 ht _ hp hB _ _ hS1 => kk r u H1 locs1 hp (ht ▸ hB) hS1)
theorem rw_v {S : Type} {post : S → Prop} {e' : S → Nat → va_E} {aa : Array Value} {st0 : List Value} {mc ms : Nat} (hS : va_S (AX nn a H0.size) H0 H locs) (hr : va_Run p l e R s m args below meth c H locs cells slots mc ms (F0 m pc ls st0) rest (va_Qv post (BW D nn a e') (AX nn a H.size) aa) (AX nn a H.size))
    (kk : ∀ (u : S) (H1 : Heap) (locs1 : List Loc), post u → HP D nn a (e' u) H1 → va_S (AX nn a H0.size) H0 H1 locs1 → W p l e R s m args below meth c H1 locs1 (cells + mc) (slots + ms) Q (F0 m (pc + 3) ls rest)) : W p l e R s m args below meth c H locs cells slots Q (F0 m pc ls st0) :=
  va_callv hr hS (fun q _ h => AX_mono hS.1 h) (fun q h => AX_mono hS.1 h) (fun u t H1 locs1 ht _ hp hB _ _ hS1 => kk u H1 locs1 hp (ht ▸ hB) hS1)
theorem rw_ir {S : Type} {post : Int32 → S → Prop} {e' : S → Nat → va_E} {v : Int32} {ty : FieldType} (hx : p.tables.exec = Jvm.exec) (hb : c.code = cc) (hr : meth.sig.returnType = some ty) (hn : narrow ty (.int v) = .int v) (hlocks : meth.locks = false) (hS : va_S (AX nn a s.heap.size) s.heap H locs) (u : S) (hP : HP D nn a (e' u) H) (hp : post v u) (hdg : decode cc pc = .ok (.ireturn, 1)) : W p l e R s m args below meth c H locs cells slots (MQ below (va_Qi post (BW D nn a e') (AX nn a s.heap.size)) args s cells slots (AX nn a s.heap.size)) (F0 m pc ls [.int v]) :=
  W.zret hx hb hr hn (fun t ht _ => ⟨⟨v, u, rfl, hp, by show HP _ _ _ _ t.heap; rw [ht]; exact hP⟩, hS.F ht⟩) hS.2.2 hdg hlocks
theorem rw_lr {S : Type} {post : Int64 → S → Prop} {e' : S → Nat → va_E} {v : Int64} (hx : p.tables.exec = Jvm.exec) (hb : c.code = cc) (hr : meth.sig.returnType = some .long) (hlocks : meth.locks = false) (hS : va_S (AX nn a s.heap.size) s.heap H locs) (u : S) (hP : HP D nn a (e' u) H) (hp : post v u) (hdg : decode cc pc = .ok (.lreturn, 1)) : W p l e R s m args below meth c H locs cells slots (MQ below (va_Ql post (BW D nn a e') (AX nn a s.heap.size)) args s cells slots (AX nn a s.heap.size)) (F0 m pc ls [.long v]) :=
  W.lret hx hb hr (fun t ht _ => ⟨⟨v, u, rfl, hp, by show HP _ _ _ _ t.heap; rw [ht]; exact hP⟩, hS.F ht⟩) hS.2.2 hdg hlocks
theorem rw_vr {S : Type} {post : S → Prop} {e' : S → Nat → va_E} (hx : p.tables.exec = Jvm.exec) (hb : c.code = cc) (hr : meth.sig.returnType = none) (hlocks : meth.locks = false) (hS : va_S (AX nn a s.heap.size) s.heap H locs) (u : S) (hP : HP D nn a (e' u) H) (hp : post u) (hdg : decode cc pc = .ok (.return_, 1)) : W p l e R s m args below meth c H locs cells slots (MQ below (va_Qv post (BW D nn a e') (AX nn a s.heap.size)) args s cells slots (AX nn a s.heap.size)) (F0 m pc ls []) :=
  W.vret hx hb hr (fun t ht _ => ⟨⟨u, rfl, hp, by show HP _ _ _ _ t.heap; rw [ht]; exact hP⟩, hS.F ht⟩) hS.2.2 hdg hlocks
end BASE1
/-- a method from its entry -/
theorem mgo {l : Launch} {y : MethodName} {cc : ByteArray} {maxL : Nat} {ret : Option FieldType} {rm : Room} {av : List Value} {B : State → Prop} {Qc : Array Value → State → Outcome → State → Prop} {mc ms : Nat} {free : Addr → Prop} (hy : plainName y.cls = true) (hn : (lg_sl av).length ≤ maxL)
    (body : ∀ (p : Program) (e : Env) (s : State) (m : MethodId) (below : List Frame) (meth : Method) (c : Code), p.tables.exec = Jvm.exec → c.code = cc → meth.sig.returnType = ret → c.maxLocals = maxL → s.vm.findClass y.cls = some m.cls → (∀ w ∈ wsA, w.before av.toArray s = true) → meth.locks = false → B s → ∀ ls : Array Slot, lv_has ls maxL (lv_args 0 av) → W p l e rm s m av.toArray below meth c s.heap [] 0 0 (MQ below Qc av.toArray s mc ms free) (F0 m 0 ls [])) : Met l y (.code y cc maxL ret :: wsA) rm (va_Pc av B) Qc mc ms free := by
  refine Met.ofW (cc := cc) (maxL := maxL) (ret := ret) hy rfl ?_
  intro p e s m args below meth c s₁ B0 hml hv
  obtain ⟨rfl, hB⟩ := hv
  have hts := atoms_spec (ws := .code y cc maxL ret :: wsA) B0.pre
  rw [lg_entry_eq]
  exact body p e s m below meth c B0.exec B0.bytes B0.returns hml (findClass_of_methodNamed B0.named) (fun w h => hts w (List.mem_cons_of_mem _ h)) B0.notSynchronized hB _ (lv_entry av hn)
end
section
/-! the worlds: 8 states of 13 cells (0: the one of now; 1: the snapshot; 2..7: saved ones), history, orders, poll, the object itself; the reference's 6 cells. Rows of a state: 0: true time, told, votes, held; 1 minutes, 2 drifts, 3 brought, 4 forward, 5 back, 6 bells, 7 weights, 8 lies, 9 losses, 10 settings -/
def stC (cI : ClassId) (a : Nat → Nat) (o : Nat) (s : St) (c : Nat) : va_E :=
  match c with
  | 0 => .inr (4, [.ref (a (o + 1)), .ref (a (o + 8)), .ref (a (o + 12)), .int (s 0 1), .int (s 0 2), .int (s 0 3)])
  | 1 => .inr (0, [.int (s 0 0), .ref (a (o + 2)), .ref (a (o + 3)), .ref (a (o + 4)), .ref (a (o + 5)), .ref (a (o + 6)), .ref (a (o + 7))])
  | 2 => .inl (cI, 7, .inl (s 1))
  | 3 => .inl (cI, 7, .inl (s 2))
  | 4 => .inl (cI, 7, .inl (s 3))
  | 5 => .inl (cI, 7, .inl (s 4))
  | 6 => .inl (cI, 7, .inl (s 5))
  | 7 => .inl (cI, 7, .inl (s 6))
  | 8 => .inr (5, [.ref (a (o + 9)), .ref (a (o + 10)), .ref (a (o + 11))])
  | 9 => .inl (cI, 7, .inl (s 7))
  | 10 => .inl (cI, 7, .inl (s 8))
  | 11 => .inl (cI, 7, .inl (s 9))
  | _ => .inl (cI, 2, .inl (s 10))
def exH (cI cS : ClassId) (a : Nat → Nat) (st : Nat → St) (pi : Nat → Nat) (mi po : St) (n : Nat) : va_E :=
  if n < 104 then stC cI a (13 * (n / 13)) (st (n / 13 - 1)) (n % 13)
  else match n - 104 with
  | 0 => .inr (1, [.ref (a 105), .int (mi 0 0)])
  | 1 => .inl (cS, 6, .inr (.inr (.inr (.inr (fun k => some (a (13 * (pi k + 2))))))))
  | 2 => .inr (2, [.ref (a 107), .int (mi 0 1)])
  | 3 => .inl (cI, 60, .inl (mi 1))
  | 4 => .inr (3, [.ref (a 109), .ref (a 110), .ref (a 111)])
  | 5 => .inl (cI, 7, .inl (po 0))
  | 6 => .inl (cI, 7, .inl (po 1))
  | 7 => .inl (cI, 7, .inl (po 2))
  | _ => .inr (6, [.ref (a 0), .ref (a 13), .int (mi 0 2), .ref (a 104), .ref (a 106), .ref (a 108)])
def exC (cI cS : ClassId) (a : Nat → Nat) (s : St) (st : Nat → St) (pi : Nat → Nat) (mi po : St) (n : Nat) : va_E :=
  if n < 13 then stC cI a 0 s n else exH cI cS a st pi mi po n
/-- the reference: g the row s, then aside, before, kept, buffer; sc: known, isKept, length, thrown, place, isWrong -/
def emC (cI : ClassId) (b : Nat → Nat) (M : Nat → Nat → Int32) (n : Nat) : va_E :=
  match n with
  | 0 => .inr (7, [.ref (b 1), .ref (b 2), .ref (b 3), .int (M 0 0), .ref (b 4), .int (M 0 1), .ref (b 5), .int (M 0 2), .int (M 0 3), .int (M 0 4), .int (M 0 5)])
  | 1 => .inl (cI, 69, .inl (M 1))
  | 2 => .inl (cI, 69, .inl (M 2))
  | 3 => .inl (cI, 414, .inl (M 3))
  | 4 => .inl (cI, 69, .inl (M 4))
  | _ => .inl (cI, 60, .inl (M 5))
section WX
variable {cI cS : ClassId} {a : Nat → Nat} {s : St} {st : Nat → St} {pi : Nat → Nat} {mi po : St}
theorem xc0 : exC cI cS a s st pi mi po 0 = .inr (4, [.ref (a 1), .ref (a 8), .ref (a 12), .int (s 0 1), .int (s 0 2), .int (s 0 3)]) := rfl
theorem xc1 : exC cI cS a s st pi mi po 1 = .inr (0, [.int (s 0 0), .ref (a 2), .ref (a 3), .ref (a 4), .ref (a 5), .ref (a 6), .ref (a 7)]) := rfl
theorem xc2 : exC cI cS a s st pi mi po 2 = .inl (cI, 7, .inl (s 1)) := rfl
theorem xc3 : exC cI cS a s st pi mi po 3 = .inl (cI, 7, .inl (s 2)) := rfl
theorem xc4 : exC cI cS a s st pi mi po 4 = .inl (cI, 7, .inl (s 3)) := rfl
theorem xc5 : exC cI cS a s st pi mi po 5 = .inl (cI, 7, .inl (s 4)) := rfl
theorem xc6 : exC cI cS a s st pi mi po 6 = .inl (cI, 7, .inl (s 5)) := rfl
theorem xc7 : exC cI cS a s st pi mi po 7 = .inl (cI, 7, .inl (s 6)) := rfl
theorem xc8 : exC cI cS a s st pi mi po 8 = .inr (5, [.ref (a 9), .ref (a 10), .ref (a 11)]) := rfl
theorem xc9 : exC cI cS a s st pi mi po 9 = .inl (cI, 7, .inl (s 7)) := rfl
theorem xc10 : exC cI cS a s st pi mi po 10 = .inl (cI, 7, .inl (s 8)) := rfl
theorem xc11 : exC cI cS a s st pi mi po 11 = .inl (cI, 7, .inl (s 9)) := rfl
theorem xc12 : exC cI cS a s st pi mi po 12 = .inl (cI, 2, .inl (s 10)) := rfl
theorem xc104 : exC cI cS a s st pi mi po 104 = .inr (1, [.ref (a 105), .int (mi 0 0)]) := rfl
theorem xc105 : exC cI cS a s st pi mi po 105 = .inl (cS, 6, .inr (.inr (.inr (.inr (fun k => some (a (13 * (pi k + 2)))))))) := rfl
theorem xc106 : exC cI cS a s st pi mi po 106 = .inr (2, [.ref (a 107), .int (mi 0 1)]) := rfl
theorem xc107 : exC cI cS a s st pi mi po 107 = .inl (cI, 60, .inl (mi 1)) := rfl
theorem xc108 : exC cI cS a s st pi mi po 108 = .inr (3, [.ref (a 109), .ref (a 110), .ref (a 111)]) := rfl
theorem xc109 : exC cI cS a s st pi mi po 109 = .inl (cI, 7, .inl (po 0)) := rfl
theorem xc110 : exC cI cS a s st pi mi po 110 = .inl (cI, 7, .inl (po 1)) := rfl
theorem xc111 : exC cI cS a s st pi mi po 111 = .inl (cI, 7, .inl (po 2)) := rfl
theorem xc112 : exC cI cS a s st pi mi po 112 = .inr (6, [.ref (a 0), .ref (a 13), .int (mi 0 2), .ref (a 104), .ref (a 106), .ref (a 108)]) := rfl
/-- which cells of a state a row touches -/
theorem stC_o {r : Nat} {f : Nat → Int32} {o : Nat} (n : Nat) (hr : (1 ≤ r ∧ r ≤ 6 ∧ n ≠ r + 1) ∨ (7 ≤ r ∧ r ≤ 9 ∧ n ≠ r + 2) ∨ (r = 10 ∧ n < 12)) : stC cI a o (upR s r f) n = stC cI a o s n := by
  have h0 : upR s r f 0 = s 0 := by simp only [upR]; rw [if_neg (by omega)]
  have key : ∀ q, q ≠ r → upR s r f q = s q := fun q hq => by simp only [upR]; rw [if_neg hq]
  match n, hr with
  | 0, hr => simp only [stC, h0]
  | 1, hr => simp only [stC, h0]
  | 2, hr => simp only [stC]; rw [key 1 (by omega)]
  | 3, hr => simp only [stC]; rw [key 2 (by omega)]
  | 4, hr => simp only [stC]; rw [key 3 (by omega)]
  | 5, hr => simp only [stC]; rw [key 4 (by omega)]
  | 6, hr => simp only [stC]; rw [key 5 (by omega)]
  | 7, hr => simp only [stC]; rw [key 6 (by omega)]
  | 8, hr => rfl
  | 9, hr => simp only [stC]; rw [key 7 (by omega)]
  | 10, hr => simp only [stC]; rw [key 8 (by omega)]
  | 11, hr => simp only [stC]; rw [key 9 (by omega)]
  | n + 12, hr => simp only [stC]; rw [key 10 (by omega)]
theorem stC_o0 {k : Nat} {v : Int32} {o : Nat} (n : Nat) (hn : n < 13) (hr : (k = 0 ∧ n ≠ 1) ∨ (1 ≤ k ∧ n ≠ 0)) : stC cI a o (up2 s 0 k v) n = stC cI a o s n := by
  have key : ∀ q, q ≠ 0 → up2 s 0 k v q = s q := fun q hq => by simp only [up2]; rw [if_neg hq]
  have key0 : ∀ j, j ≠ k → up2 s 0 k v 0 j = s 0 j := fun j hj => by show upd _ k v j = _; simp only [upd]; rw [if_neg hj]
  match n, hr with
  | 0, hr => simp only [stC]; rcases hr with ⟨hk, -⟩ | ⟨-, hr⟩
             · subst hk; rw [key0 1 (by omega), key0 2 (by omega), key0 3 (by omega)]
             · exact absurd rfl hr
  | 1, hr => simp only [stC]; rcases hr with ⟨-, hr⟩ | ⟨hk, -⟩
             · exact absurd rfl hr
             · rw [key0 0 (by omega)]
  | 2, hr => simp only [stC]; rw [key 1 (by omega)]
  | 3, hr => simp only [stC]; rw [key 2 (by omega)]
  | 4, hr => simp only [stC]; rw [key 3 (by omega)]
  | 5, hr => simp only [stC]; rw [key 4 (by omega)]
  | 6, hr => simp only [stC]; rw [key 5 (by omega)]
  | 7, hr => simp only [stC]; rw [key 6 (by omega)]
  | 8, hr => rfl
  | 9, hr => simp only [stC]; rw [key 7 (by omega)]
  | 10, hr => simp only [stC]; rw [key 8 (by omega)]
  | 11, hr => simp only [stC]; rw [key 9 (by omega)]
  | n + 12, hr => simp only [stC]; rw [key 10 (by omega)]
theorem xo_row {r : Nat} {f : Nat → Int32} {n : Nat} (hn : n < 13) (hr : (1 ≤ r ∧ r ≤ 6 ∧ n = r + 1) ∨ (7 ≤ r ∧ r ≤ 9 ∧ n = r + 2) ∨ (r = 10 ∧ n = 12)) : ∀ j, j < 113 → j ≠ n → exC cI cS a (upR s r f) st pi mi po j = exC cI cS a s st pi mi po j := by
  intro j _ hj
  by_cases h : j < 13
  · simp only [exC, if_pos h]
    exact stC_o j (by omega)
  · simp only [exC, if_neg h]
theorem xo_sc {k : Nat} {v : Int32} {n : Nat} (hr : (k = 0 ∧ n = 1) ∨ (1 ≤ k ∧ n = 0)) : ∀ j, j < 113 → j ≠ n → exC cI cS a (up2 s 0 k v) st pi mi po j = exC cI cS a s st pi mi po j := by
  intro j _ hj
  by_cases h : j < 13
  · simp only [exC, if_pos h]
    exact stC_o0 j h (by omega)
  · simp only [exC, if_neg h]
theorem xo_hi {st' : Nat → St} {pi' : Nat → Nat} {mi' po' : St} {n : Nat} (hn : 13 ≤ n) (h9 : ∀ j, j < 113 → j ≠ n → 13 ≤ j → exH cI cS a st' pi' mi' po' j = exH cI cS a st pi mi po j) : ∀ j, j < 113 → j ≠ n → exC cI cS a s st' pi' mi' po' j = exC cI cS a s st pi mi po j := by
  intro j h1 hj
  by_cases h : j < 13
  · simp only [exC, if_pos h]
  · simp only [exC, if_neg h]
    exact h9 j h1 hj (by omega)
theorem xo_tail {pi' : Nat → Nat} {mi' po' : St} {n : Nat} (hn : 104 ≤ n) (h9 : ∀ j, j < 9 → j + 104 ≠ n → exH cI cS a st pi' mi' po' (j + 104) = exH cI cS a st pi mi po (j + 104)) : ∀ j, j < 113 → j ≠ n → exC cI cS a s st pi' mi' po' j = exC cI cS a s st pi mi po j := by
  refine xo_hi (by omega) fun j h1 h2 h3 => ?_
  by_cases h : j < 104
  · simp only [exH, if_pos h]
  · have h5 := h9 (j - 104) (by omega) (by omega)
    rw [show j - 104 + 104 = j by omega] at h5
    exact h5
theorem xo_po {r : Nat} {f : Nat → Int32} {n : Nat} (hr : r < 3) (hn : n = 109 + r) : ∀ j, j < 113 → j ≠ n → exC cI cS a s st pi mi (upR po r f) j = exC cI cS a s st pi mi po j := by
  refine xo_tail (by omega) fun j h1 h2 => ?_
  have key : ∀ q, q ≠ r → upR po r f q = po q := fun q hq => by simp only [upR]; rw [if_neg hq]
  simp only [exH]
  match j, h1, h2 with
  | 0, _, _ => rfl
  | 1, _, _ => rfl
  | 2, _, _ => rfl
  | 3, _, _ => rfl
  | 4, _, _ => rfl
  | 5, _, h2 => simp; exact key 0 (by omega)
  | 6, _, h2 => simp; exact key 1 (by omega)
  | 7, _, h2 => simp; exact key 2 (by omega)
  | 8, _, _ => rfl
  | n + 9, h, _ => exact absurd h (by omega)
theorem xo_codes {f : Nat → Int32} : ∀ j, j < 113 → j ≠ 107 → exC cI cS a s st pi (upR mi 1 f) po j = exC cI cS a s st pi mi po j := by
  refine xo_tail (by omega) fun j h1 h2 => ?_
  simp only [exH]
  match j, h1, h2 with
  | 0, _, _ => rfl
  | 1, _, _ => rfl
  | 2, _, _ => rfl
  | 3, _, h2 => exact absurd rfl h2
  | 4, _, _ => rfl
  | 5, _, h2 => rfl
  | 6, _, h2 => rfl
  | 7, _, h2 => rfl
  | 8, _, _ => rfl
  | n + 9, h, _ => exact absurd h (by omega)
theorem xo_mi {k n : Nat} {v : Int32} (hr : (k = 0 ∧ n = 104) ∨ (k = 1 ∧ n = 106) ∨ (k = 2 ∧ n = 112)) : ∀ j, j < 113 → j ≠ n → exC cI cS a s st pi (up2 mi 0 k v) po j = exC cI cS a s st pi mi po j := by
  refine xo_tail (by omega) fun j h1 h2 => ?_
  have key0 : ∀ j, j ≠ k → up2 mi 0 k v 0 j = mi 0 j := fun j hj => by show upd _ k v j = _; simp only [upd]; rw [if_neg hj]
  simp only [exH]
  match j, h1, h2 with
  | 0, _, _ => simp; exact key0 0 (by omega)
  | 1, _, _ => rfl
  | 2, _, _ => simp; exact key0 1 (by omega)
  | 3, _, h2 => rfl
  | 4, _, _ => rfl
  | 5, _, h2 => rfl
  | 6, _, h2 => rfl
  | 7, _, h2 => rfl
  | 8, _, _ => simp; exact key0 2 (by omega)
  | n + 9, h, _ => exact absurd h (by omega)
theorem mo_row {M : Nat → Nat → Int32} {r : Nat} {f : Nat → Int32} (hr : 1 ≤ r ∧ r ≤ 5) : ∀ j, j < 6 → j ≠ r → emC cI a (upR M r f) j = emC cI a M j := by
  intro j h1 h2
  have key : ∀ q, q ≠ r → upR M r f q = M q := fun q hq => by simp only [upR]; rw [if_neg hq]
  match j, h1, h2 with
  | 0, _, _ => simp only [emC]; rw [key 0 (by omega)]
  | 1, _, _ => simp only [emC]; rw [key 1 (by omega)]
  | 2, _, _ => simp only [emC]; rw [key 2 (by omega)]
  | 3, _, _ => simp only [emC]; rw [key 3 (by omega)]
  | 4, _, _ => simp only [emC]; rw [key 4 (by omega)]
  | 5, _, _ => simp only [emC]; rw [key 5 (by omega)]
  | n + 6, h, _ => exact absurd h (by omega)
theorem mo_sc {M : Nat → Nat → Int32} {k : Nat} {v : Int32} : ∀ j, j < 6 → j ≠ 0 → emC cI a (up2 M 0 k v) j = emC cI a M j := by
  intro j h1 h2
  match j, h1, h2 with
  | 0, _, h => exact absurd rfl h
  | 1, _, _ => rfl
  | 2, _, _ => rfl
  | 3, _, _ => rfl
  | 4, _, _ => rfl
  | 5, _, _ => rfl
  | n + 6, h, _ => exact absurd h (by omega)
end WX
end
section
/-! numbers, truth values -/
theorem nI_add2 {x y : Int32} {p q : Nat} (hx : x = nI p) (hy : y = nI q) : x + y = nI (p + q) := by rw [hx, hy]; exact nI_add p q
theorem nI_mul2 {x y : Int32} {p q : Nat} (hx : x = nI p) (hy : y = nI q) : x * y = nI (p * q) := by rw [hx, hy]; exact pk_mul p q
theorem nI_sub2 {x y : Int32} {p q : Nat} (hx : x = nI p) (hy : y = nI q) (h : q ≤ p) : x - y = nI (p - q) := by rw [hx, hy]; exact pk_sub h
theorem nI_rem2 {x y : Int32} {p q : Nat} (hx : x = nI p) (hy : y = nI q) (hp : p < 2 ^ 31) (h0 : 0 < q) (hq : q < 2 ^ 31) : x - x / y * y = nI (p % q) := by rw [hx, hy]; exact pk_rem hp h0 hq
theorem nI_eq2 {x y : Int32} {p q : Nat} (hx : x = nI p) (hy : y = nI q) (hp : p < 2 ^ 31) (hq : q < 2 ^ 31) : x = y ↔ p = q := by rw [hx, hy]; exact nI_eq hp hq
theorem nI_lt2 {x y : Int32} {p q : Nat} (hx : x = nI p) (hy : y = nI q) (hp : p < 2 ^ 31) (hq : q < 2 ^ 31) : x < y ↔ p < q := by rw [hx, hy]; exact nI_ltI hp hq
theorem nI_le2 {x y : Int32} {p q : Nat} (hx : x = nI p) (hy : y = nI q) (hp : p < 2 ^ 31) (hq : q < 2 ^ 31) : x ≤ y ↔ p ≤ q := by rw [hx, hy]; exact nI_leI hp hq
def bI (P : Prop) [Decidable P] : Int32 := if P then 1 else 0
theorem bI_t {P : Prop} [Decidable P] (h : P) : bI P = 1 := if_pos h
theorem bI_f {P : Prop} [Decidable P] (h : ¬ P) : bI P = 0 := if_neg h
theorem lv_bI {p : Program} {l : Launch} {e : Env} {R : Room} {s : State} {m : MethodId} {args : Array Value} {below : List Frame} {meth : Method} {c : Code} {H : Heap} {locs : List Loc} {cells slots : Nat} {Q : State → Prop} {pc : Nat} {ls : Array Slot} {rest : List Value} {P : Prop} [Decidable P]
    (kt : P → W p l e R s m args below meth c H locs cells slots Q (F0 m pc ls (.int 1 :: rest))) (kf : ¬ P → W p l e R s m args below meth c H locs cells slots Q (F0 m pc ls (.int 0 :: rest))) : W p l e R s m args below meth c H locs cells slots Q (F0 m pc ls (.int (bI P) :: rest)) := by
  by_cases h : P
  · rw [bI_t h]; exact kt h
  · rw [bI_f h]; exact kf h
/-- the top of the stack under another name -/
theorem lv_as {p : Program} {l : Launch} {e : Env} {R : Room} {s : State} {m : MethodId} {args : Array Value} {below : List Frame} {meth : Method} {c : Code} {H : Heap} {locs : List Loc} {cells slots : Nat} {Q : State → Prop} {pc : Nat} {ls : Array Slot} {rest : List Value} {x y : Int32} (h : x = y)
    (kk : W p l e R s m args below meth c H locs cells slots Q (F0 m pc ls (.int y :: rest))) : W p l e R s m args below meth c H locs cells slots Q (F0 m pc ls (.int x :: rest)) := h ▸ kk
def sumN (f : Nat → Int32) : Nat → Int32
  | 0 => 0
  | n + 1 => sumN f n + f n
/-! what the class's own methods answer -/
def distI (x y : Int32) : Int32 := if x < y then y - x else x - y
def behN (d : Nat) : Nat := if d + 1 < 7 then d + 1 else 0
def befN (d : Nat) : Nat := if 0 < d then d - 1 else 6
theorem behN_lt {d : Nat} : behN d < 7 := by unfold behN; split <;> omega
theorem befN_lt {d : Nat} (h : d < 7) : befN d < 7 := by unfold befN; split <;> omega
def clampW (x : Int32) : Int32 := if x < 0 then 0 else if 99999 < x then 99999 else x
def wordF (s : St) (w : Nat) (x : Int32) : Int32 := clampW (x + s 8 w)
def wordA (s : St) (w : Nat) : Int32 := wordF s w (s 1 w)
def aftI (s : St) (d : Nat) (x : Int32) : Int32 := if 99999 < x + 10 + s 2 d then 99999 else x + 10 + s 2 d
def ringS (s : St) (d : Nat) (x y : Int32) : St := up2 s 6 d (s 6 d + (y / 60 - x / 60))
def ptR (s : St) (d : Nat) : Int32 := aftI s d (s 1 d) / 60 - s 1 d / 60
def ptS (s : St) (d : Nat) : St := up2 (up2 (up2 s 1 d (aftI s d (s 1 d))) 3 d (s 3 d + (aftI s d (s 1 d) - s 1 d))) 6 d (s 6 d + (aftI s d (s 1 d) / 60 - s 1 d / 60))
def ptN : Nat → St → St
  | 0, s => s
  | n + 1, s => ptS (ptN n s) n
def ptA : Nat → St → Int32 → Int32
  | 0, _, x => x
  | n + 1, s, x => ptA n s x + ptR (ptN n s) n
def ticksS : Nat → St → St
  | 0, s => s
  | n + 1, s => ptN 7 (up2 (ticksS n s) 0 0 (ticksS n s 0 0 + 10))
def ticksA : Nat → St → Int32
  | 0, _ => 0
  | n + 1, s => ptA 7 (up2 (ticksS n s) 0 0 (ticksS n s 0 0 + 10)) (ticksA n s)
def mvS (s : St) (d : Nat) (y : Int32) : St := if y < s 1 d then up2 (up2 s 1 d y) 5 d (s 5 d + (s 1 d - y)) else up2 (up2 (up2 s 1 d y) 4 d (s 4 d + (y - s 1 d))) 6 d (s 6 d + (y / 60 - s 1 d / 60))
def mvR (s : St) (d : Nat) (y : Int32) : Int32 := if y < s 1 d then s 1 d - y else y - s 1 d
def accI (s : St) (d : Nat) : Int32 := s 3 d + s 4 d - s 5 d
def errI (s : St) (d : Nat) : Int32 := distI (s 1 d) (s 0 0)
def ringF (s : St) (d : Nat) (h : Int32) : Nat → Nat → Int32 → Int32
  | 0, _, _ => -1
  | f + 1, t, x => if h < aftI s d x / 60 then nI t else ringF s d h f (t + 1) (aftI s d x)
def lessS (s : St) (w : Nat) : St := if 0 < s 7 w then up2 (up2 s 7 w (s 7 w - 1)) 9 w (s 9 w + 1) else s
def hearS (s : St) (x : Int32) : St := if s 0 1 < x then up2 (up2 s 0 2 (s 0 2 + 1)) 0 1 x else up2 (up2 s 0 2 (s 0 2 + 1)) 0 3 (s 0 3 + 1)
abbrev wqB (s : St) (x y : Int32) : Prop := s 10 0 < distI x y
abbrev quarB (s : St) (d : Nat) : Prop := wqB s (wordA s d) (wordA s (behN d))
def quarC (s : St) : Nat → Int32
  | 0 => 0
  | n + 1 => quarC s n + (if quarB s n then 1 else 0)
abbrev offB (s : St) (d : Nat) : Prop := s 10 1 < distI (s 1 d) (s 0 1)
def offC (s : St) : Nat → Int32
  | 0 => 0
  | n + 1 => offC s n + (if offB s n then 1 else 0)
def nearI (s : St) (d : Nat) : Int32 := if s 1 d < s 0 1 then s 0 1 - s 10 1 else s 0 1 + s 10 1
def corS : Nat → St → St
  | 0, s => s
  | n + 1, s => if offB (corS n s) n then mvS (corS n s) n (nearI (corS n s) n) else corS n s
def corA : Nat → St → Int32
  | 0, _ => 0
  | n + 1, s => if offB (corS n s) n then corA n s + mvR (corS n s) n (nearI (corS n s) n) else corA n s
def qF (s : St) (d e : Nat) : Nat → Nat → Int32 → Int32 → Int32
  | 0, _, _, _ => -1
  | f + 1, t, x, y => if wqB s (wordF s d x) (wordF s e y) then nI t else qF s d e f (t + 1) (aftI s d x) (aftI s e y)
def setl (s : St) (w : Nat → Int32) (i j : Nat) : St :=
  if wqB s (w i) (w j) then (if distI (w j) (s 0 1) < distI (w i) (s 0 1) then lessS s i else if distI (w i) (s 0 1) < distI (w j) (s 0 1) then lessS s j else s) else s
def setlN (w : Nat → Int32) : Nat → St → St
  | 0, s => s
  | n + 1, s => setl (setlN w n s) w n (behN n)
def takeP (s : St) (po : St) : Nat → St
  | 0 => po
  | n + 1 => up2 (up2 (takeP s po n) 0 n (wordA s n)) 1 n (s 7 n)
def plcN (f : Nat → Int32) (w : Nat) : Nat → Nat
  | 0 => 0
  | n + 1 => plcN f w n + (if f n < f w ∨ (f n = f w ∧ n < w) then 1 else 0)
def wBel (f g : Nat → Int32) (x : Int32) : Nat → Int32
  | 0 => 0
  | n + 1 => wBel f g x n + (if f n < x then g n else 0)
def wAt (f g : Nat → Int32) (x : Int32) : Nat → Int32
  | 0 => 0
  | n + 1 => wAt f g x n + (if f n = x then g n else 0)
def midA (f g : Nat → Int32) : Nat → Nat → Int32
  | 0, _ => -1
  | k + 1, w => if 0 < g w ∧ 2 * wBel f g (f w) 7 < sumN g 7 ∧ sumN g 7 ≤ 2 * (wBel f g (f w) 7 + wAt f g (f w) 7) then f w else midA f g k (w + 1)
end
section
set_option maxHeartbeats 4000000 in
set_option maxRecDepth 100000 in
theorem m_X6_distance (l : Launch) (x y : Int32) : Met l yX6_distance (.code yX6_distance cX6_distance 2 (some .int) :: wsA) ({ frames := 0, cells := 0, slots := 0, locals := 0 } : Room) (va_Pc [.int x, .int y] (fun _ => True)) (vp_Si (fun r => r = distI x y)) 0 0 (fun _ => False) := by
  refine mgo (by decide) (Nat.le_of_ble_eq_true rfl) ?_
  intro p e z m below meth c hx hb hr hml hown hts hlocks hB ls hl
  have hl : lv_has ls 2 [(0, .int x), (1, .int y)] := hl
  refine lv_iload_n hx hb dX6_distance_0 rfl (lv_at hl 0 rfl) ?_
  refine lv_iload_n hx hb dX6_distance_1 rfl (lv_at hl 1 rfl) ?_
  refine lv_icmp_ge (tgt := 11) hx hb dX6_distance_2 (by decide) (fun c1 => ?_) (fun c1 => ?_)
  · skip
    have c1x := Int32.not_lt.mpr c1
    refine lv_iload_n hx hb dX6_distance_11 rfl (lv_at hl 0 rfl) ?_
    refine lv_iload_n hx hb dX6_distance_12 rfl (lv_at hl 1 rfl) ?_
    refine lv_isub hx hb dX6_distance_13 ?_
    exact ro_ir hx hb hr rfl hlocks (by simp [distI, c1, c1x]) dX6_distance_14
  · skip
    have c1x := Int32.not_le.mp c1
    refine lv_iload_n hx hb dX6_distance_5 rfl (lv_at hl 1 rfl) ?_
    refine lv_iload_n hx hb dX6_distance_6 rfl (lv_at hl 0 rfl) ?_
    refine lv_isub hx hb dX6_distance_7 ?_
    refine lv_goto (tgt := 14) hx hb dX6_distance_8 (by decide) ?_
    exact ro_ir hx hb hr rfl hlocks (by simp [distI, c1, c1x]) dX6_distance_14

set_option maxHeartbeats 4000000 in
set_option maxRecDepth 100000 in
theorem m_X6_dialBehind (l : Launch) (d : Nat) (hd : d < 7) : Met l yX6_dialBehind (.code yX6_dialBehind cX6_dialBehind 1 (some .int) :: wsA) ({ frames := 0, cells := 0, slots := 0, locals := 0 } : Room) (va_Pc [.int (nI d)] (fun _ => True)) (vp_Si (fun r => r = nI (behN d))) 0 0 (fun _ => False) := by
  refine mgo (by decide) (Nat.le_of_ble_eq_true rfl) ?_
  intro p e z m below meth c hx hb hr hml hown hts hlocks hB ls hl
  have hl : lv_has ls 1 [(0, .int (nI d))] := hl
  refine lv_iload_n hx hb dX6_dialBehind_0 rfl (lv_at hl 0 rfl) ?_
  refine lv_iconst (v := 1) hx hb dX6_dialBehind_1 (by decide) ?_
  refine lv_iadd hx hb dX6_dialBehind_2 ?_
  refine lv_bipush (v := 7) hx hb dX6_dialBehind_3 (by decide) ?_
  refine lv_icmp_ge (tgt := 14) hx hb dX6_dialBehind_5 (by decide) (fun c1 => ?_) (fun c1 => ?_)
  · skip
    have c1x := Int32.not_lt.mpr c1
    have c1n := (nI_le2 (p := 7) (q := d + 1) rfl (nI_add2 (p := d) (q := 1) rfl rfl) (by omega) (by omega)).mp c1
    have c1n : 7 ≤ d + 1 := c1n
    refine lv_iconst (v := 0) hx hb dX6_dialBehind_14 (by decide) ?_
    exact ro_ir hx hb hr rfl hlocks (by unfold behN; rw [if_neg (by omega)]; rfl) dX6_dialBehind_15
  · skip
    have c1x := Int32.not_le.mp c1
    have c1n := fun hq0 => c1 ((nI_le2 (p := 7) (q := d + 1) rfl (nI_add2 (p := d) (q := 1) rfl rfl) (by omega) (by omega)).mpr hq0)
    have c1n : ¬ (7 ≤ d + 1) := c1n
    refine lv_iload_n hx hb dX6_dialBehind_8 rfl (lv_at hl 0 rfl) ?_
    refine lv_iconst (v := 1) hx hb dX6_dialBehind_9 (by decide) ?_
    refine lv_iadd hx hb dX6_dialBehind_10 ?_
    refine lv_goto (tgt := 15) hx hb dX6_dialBehind_11 (by decide) ?_
    exact ro_ir hx hb hr rfl hlocks (by unfold behN; rw [if_pos (by omega)]; exact nI_add2 rfl rfl) dX6_dialBehind_15

set_option maxHeartbeats 4000000 in
set_option maxRecDepth 100000 in
theorem m_X6_dialBefore (l : Launch) (d : Nat) (hd : d < 7) : Met l yX6_dialBefore (.code yX6_dialBefore cX6_dialBefore 1 (some .int) :: wsA) ({ frames := 0, cells := 0, slots := 0, locals := 0 } : Room) (va_Pc [.int (nI d)] (fun _ => True)) (vp_Si (fun r => r = nI (befN d))) 0 0 (fun _ => False) := by
  refine mgo (by decide) (Nat.le_of_ble_eq_true rfl) ?_
  intro p e z m below meth c hx hb hr hml hown hts hlocks hB ls hl
  have hl : lv_has ls 1 [(0, .int (nI d))] := hl
  refine lv_iload_n hx hb dX6_dialBefore_0 rfl (lv_at hl 0 rfl) ?_
  refine lv_if_le (tgt := 10) hx hb dX6_dialBefore_1 (by decide) (fun c1 => ?_) (fun c1 => ?_)
  · skip
    have c1x := Int32.not_lt.mpr c1
    have c1n := (nI_le2 (p := d) (q := 0) rfl rfl (by omega) (by omega)).mp c1
    have c1n : d ≤ 0 := c1n
    refine lv_bipush (v := 6) hx hb dX6_dialBefore_10 (by decide) ?_
    exact ro_ir hx hb hr rfl hlocks (by unfold befN; rw [if_neg (by omega)]; rfl) dX6_dialBefore_12
  · skip
    have c1x := Int32.not_le.mp c1
    have c1n := fun hq0 => c1 ((nI_le2 (p := d) (q := 0) rfl rfl (by omega) (by omega)).mpr hq0)
    have c1n : ¬ (d ≤ 0) := c1n
    refine lv_iload_n hx hb dX6_dialBefore_4 rfl (lv_at hl 0 rfl) ?_
    refine lv_iconst (v := 1) hx hb dX6_dialBefore_5 (by decide) ?_
    refine lv_isub hx hb dX6_dialBefore_6 ?_
    refine lv_goto (tgt := 12) hx hb dX6_dialBefore_7 (by decide) ?_
    exact ro_ir hx hb hr rfl hlocks (by unfold befN; rw [if_pos (by omega)]; exact nI_sub2 rfl rfl (by omega)) dX6_dialBefore_12

set_option maxHeartbeats 4000000 in
set_option maxRecDepth 100000 in
theorem m_X6_sum (l : Launch) (D : va_G) (cI cS : ClassId) (nn : Nat) (a : Nat → Nat) (ex : Nat → va_E) (cn : Nat) (hn : cn < nn) (f : Nat → Int32) (he : ex cn = .inl (cI, 7, .inl f)) : Met l yX6_sum (.code yX6_sum cX6_sum 6 (some .int) :: wsA) ({ frames := 0, cells := 0, slots := 0, locals := 0 } : Room) (va_Pc [.ref (a cn)] (PR D cI cS nn a (ex))) (vp_Si (fun r => r = sumN f 7)) 0 0 (fun _ => False) := by
  refine mgo (by decide) (Nat.le_of_ble_eq_true rfl) ?_
  intro p e z m below meth c hx hb hr hml hown hts hlocks hB ls hl
  obtain ⟨hP, hK⟩ := hB
  have hl : lv_has ls 6 [(0, .ref (a cn))] := hl
  refine lv_iconst (v := 0) hx hb dX6_sum_0 (by decide) ?_
  refine lv_istore_n (lv' := [(1, .int 0), (0, .ref (a cn))]) hx hb dX6_sum_1 rfl hl (by decide) rfl (fun ls hl => ?_)
  refine lv_aload_n hx hb dX6_sum_2 rfl (lv_at hl 1 rfl) ?_
  refine lv_astore_n (lv' := [(2, .ref (a cn)), (1, .int 0), (0, .ref (a cn))]) hx hb dX6_sum_3 rfl hl (by decide) rfl (fun ls hl => ?_)
  refine lv_aload_n hx hb dX6_sum_4 rfl (lv_at hl 0 rfl) ?_
  refine g_alen hx hb hK hP cn (by omega) he (v := 7) (by decide) dX6_sum_5 ?_
  refine lv_istore_n (lv' := [(3, .int 7), (2, .ref (a cn)), (1, .int 0), (0, .ref (a cn))]) hx hb dX6_sum_6 rfl hl (by decide) rfl (fun ls hl => ?_)
  refine lv_iconst (v := 0) hx hb dX6_sum_7 (by decide) ?_
  refine lv_istore (lv' := [(4, .int 0), (3, .int 7), (2, .ref (a cn)), (1, .int 0), (0, .ref (a cn))]) hx hb dX6_sum_8 hl (by decide) rfl (fun ls hl => ?_)
  have loop10 : ∀ (fu : Nat) (j : Nat), 7 + 1 ≤ j + fu → (j ≤ 7) → ∀ ls : Array Slot, lv_has ls 6 [(1, .int (sumN f j)), (2, .ref (a cn)), (3, .int 7), (4, .int (nI j))] → W p l e ({ frames := 0, cells := 0, slots := 0, locals := 0 } : Room) z m ([.ref (a cn)] : List Value).toArray below meth c z.heap [] 0 0 (MQ below (vp_Si (fun r => r = sumN f 7)) ([.ref (a cn)] : List Value).toArray z 0 0 (fun _ => False)) (F0 m 10 ls []) := by
    intro fu
    induction fu with
    | zero => intro j hn hj; exact absurd hn (by omega)
    | succ fu ih10 =>
      intro j hn hj ls hl
      refine lv_iload hx hb dX6_sum_10 (lv_at hl 3 rfl) ?_
      refine lv_iload_n hx hb dX6_sum_12 rfl (lv_at hl 2 rfl) ?_
      refine lv_icmp_ge (tgt := 33) hx hb dX6_sum_13 (by decide) (fun c1 => ?_) (fun c1 => ?_)
      · skip
        have c1x := Int32.not_lt.mpr c1
        have c1n := (nI_le2 (p := 7) (q := j) rfl rfl (by omega) (by omega)).mp c1
        have c1n : 7 ≤ j := c1n
        refine lv_iload_n hx hb dX6_sum_33 rfl (lv_at hl 0 rfl) ?_
        exact ro_ir hx hb hr rfl hlocks (by rw [show j = 7 by omega]) dX6_sum_34
      · skip
        have c1x := Int32.not_le.mp c1
        have c1n := fun hq0 => c1 ((nI_le2 (p := 7) (q := j) rfl rfl (by omega) (by omega)).mpr hq0)
        have c1n : ¬ (7 ≤ j) := c1n
        refine lv_aload_n hx hb dX6_sum_16 rfl (lv_at hl 1 rfl) ?_
        refine lv_iload hx hb dX6_sum_17 (lv_at hl 3 rfl) ?_
        refine g_iald hx hb hK hP cn (by omega) he j rfl (by omega) (by decide) dX6_sum_19 (v := f j) rfl ?_
        refine lv_istore (lv' := [(5, .int (f j)), (1, .int (sumN f j)), (2, .ref (a cn)), (3, .int 7), (4, .int (nI j))]) hx hb dX6_sum_20 hl (by decide) rfl (fun ls hl => ?_)
        refine lv_iload_n hx hb dX6_sum_22 rfl (lv_at hl 1 rfl) ?_
        refine lv_iload hx hb dX6_sum_23 (lv_at hl 0 rfl) ?_
        refine lv_iadd hx hb dX6_sum_25 ?_
        refine lv_istore_n (lv' := [(1, .int ((sumN f j) + (f j))), (5, .int (f j)), (2, .ref (a cn)), (3, .int 7), (4, .int (nI j))]) hx hb dX6_sum_26 rfl hl (by decide) rfl (fun ls hl => ?_)
        refine lv_iinc (v := nI (j + 1)) (lv' := [(4, .int (nI (j + 1))), (1, .int ((sumN f j) + (f j))), (5, .int (f j)), (2, .ref (a cn)), (3, .int 7)]) hx hb dX6_sum_27 hl (k := 4) rfl (nI_add j 1) (by decide) rfl (fun ls hl => ?_)
        refine lv_goto (tgt := 10) hx hb dX6_sum_30 (by decide) ?_
        exact ih10 (j + 1) (by omega) (by omega) ls (lv_sub hl [1, 3, 4, 0] rfl)
  exact loop10 (7 + 1) 0 (by omega) (by omega) ls (lv_sub hl [3, 2, 1, 0] rfl)

set_option maxHeartbeats 4000000 in
set_option maxRecDepth 100000 in
theorem m_X5_wordFor (l : Launch) (D : va_G) (cI cS : ClassId) (a : Nat → Nat) (s : St) (st : Nat → St) (pi : Nat → Nat) (mi po : St) (w : Nat) (hw : w < 7) (x : Int32) : Met l yX5_wordFor (.code yX5_wordFor cX5_wordFor 4 (some .int) :: wsA) ({ frames := 0, cells := 0, slots := 0, locals := 0 } : Room) (va_Pc [.ref (a 8), .int (nI w), .int x] (PR D cI cS 113 a (exC cI cS a s st pi mi po))) (vp_Si (fun r => r = wordF s w x)) 0 0 (fun _ => False) := by
  refine mgo (by decide) (Nat.le_of_ble_eq_true rfl) ?_
  intro p e z m below meth c hx hb hr hml hown hts hlocks hB ls hl
  obtain ⟨hP, hK⟩ := hB
  have hl : lv_has ls 4 [(0, .ref (a 8)), (1, .int (nI w)), (2, .int x)] := hl
  refine lv_iload_n hx hb dX5_wordFor_0 rfl (lv_at hl 2 rfl) ?_
  refine lv_aload_n hx hb dX5_wordFor_1 rfl (lv_at hl 0 rfl) ?_
  refine g_get hx hb hts hown inA5 hK hP 8 (by decide) xc8 rfl 1 (by decide) tw74 rfl (v := .ref (a 10)) rfl dX5_wordFor_2 ?_
  refine lv_iload_n hx hb dX5_wordFor_5 rfl (lv_at hl 1 rfl) ?_
  refine g_iald hx hb hK hP 10 (by decide) xc10 w rfl (by omega) (by decide) dX5_wordFor_6 (v := s 8 w) rfl ?_
  refine lv_iadd hx hb dX5_wordFor_7 ?_
  refine lv_istore_n (lv' := [(3, .int (x + (s 8 w))), (0, .ref (a 8)), (1, .int (nI w)), (2, .int x)]) hx hb dX5_wordFor_8 rfl hl (by decide) rfl (fun ls hl => ?_)
  refine lv_iload_n hx hb dX5_wordFor_9 rfl (lv_at hl 0 rfl) ?_
  refine lv_if_ge (tgt := 15) hx hb dX5_wordFor_10 (by decide) (fun c1 => ?_) (fun c1 => ?_)
  · skip
    have c1x := Int32.not_lt.mpr c1
    refine lv_iload_n hx hb dX5_wordFor_15 rfl (lv_at hl 0 rfl) ?_
    refine lv_ldc hx hb hown (hts _ tw288) dX5_wordFor_16 ?_
    refine lv_icmp_le (tgt := 26) hx hb dX5_wordFor_18 (by decide) (fun c2 => ?_) (fun c2 => ?_)
    · skip
      have c2x := Int32.not_lt.mpr c2
      refine lv_iload_n hx hb dX5_wordFor_26 rfl (lv_at hl 0 rfl) ?_
      exact ro_ir hx hb hr rfl hlocks (by simp [wordF, clampW, c1, c1x, c2, c2x]) dX5_wordFor_27
    · skip
      have c2x := Int32.not_le.mp c2
      refine lv_ldc hx hb hown (hts _ tw288) dX5_wordFor_21 ?_
      refine lv_goto (tgt := 27) hx hb dX5_wordFor_23 (by decide) ?_
      exact ro_ir hx hb hr rfl hlocks (by simp [wordF, clampW, c1, c1x, c2, c2x]) dX5_wordFor_27
  · skip
    have c1x := Int32.not_le.mp c1
    refine lv_iconst (v := 0) hx hb dX5_wordFor_13 (by decide) ?_
    exact ro_ir hx hb hr rfl hlocks (by simp [wordF, clampW, c1, c1x]) dX5_wordFor_14

set_option maxHeartbeats 4000000 in
set_option maxRecDepth 100000 in
theorem m_X5_weightSum (l : Launch) (D : va_G) (cI cS : ClassId) (a : Nat → Nat) (s : St) (st : Nat → St) (pi : Nat → Nat) (mi po : St) : Met l yX5_weightSum (.code yX5_weightSum cX5_weightSum 1 (some .int) :: wsA) ({ frames := 1, cells := 0, slots := 0, locals := 25 } : Room) (va_Pc [.ref (a 8)] (PR D cI cS 113 a (exC cI cS a s st pi mi po))) (vp_Si (fun r => r = sumN (s 7) 7)) 0 0 (fun _ => False) := by
  refine mgo (by decide) (Nat.le_of_ble_eq_true rfl) ?_
  intro p e z m below meth c hx hb hr hml hown hts hlocks hB ls hl
  obtain ⟨hP, hK⟩ := hB
  have hl : lv_has ls 1 [(0, .ref (a 8))] := hl
  refine lv_aload_n hx hb dX5_weightSum_0 rfl (lv_at hl 0 rfl) ?_
  refine g_get hx hb hts hown inA5 hK hP 8 (by decide) xc8 rfl 0 (by decide) tw71 rfl (v := .ref (a 9)) rfl dX5_weightSum_1 ?_
  refine ro_i (va_runSN (As := [.ref (a 9)]) (rest := []) ⟨hx, hb, hml, hown, hts⟩ (m_X6_sum l D cI cS 113 a (exC cI cS a s st pi mi po) 9 (by decide) (s 7) rfl) ⟨va_cnB 1 hts (gA tw299) rfl rfl rfl (hK.2 _ tn420) (hts _ tw1) (by decide +kernel) ⟨Nat.le_of_ble_eq_true rfl, Nat.le_of_ble_eq_true rfl⟩, hts _ tw298, trivial⟩ (psR hK hP) rfl rfl hl.1 rfl (lv_room (Nat.le_of_ble_eq_true rfl)) dX5_weightSum_4 ⟨Nat.le_of_ble_eq_true rfl, Nat.le_of_ble_eq_true rfl⟩) (fun r2 hr1 => ?_)
  subst hr1
  exact ro_ir hx hb hr rfl hlocks rfl dX5_weightSum_7
end
section
set_option maxHeartbeats 4000000 in
set_option maxRecDepth 100000 in
theorem m_X0_afterTick (l : Launch) (D : va_G) (cI cS : ClassId) (a : Nat → Nat) (s : St) (st : Nat → St) (pi : Nat → Nat) (mi po : St) (d : Nat) (hd : d < 7) (x : Int32) : Met l yX0_afterTick (.code yX0_afterTick cX0_afterTick 4 (some .int) :: wsA) ({ frames := 0, cells := 0, slots := 0, locals := 0 } : Room) (va_Pc [.ref (a 1), .int (nI d), .int x] (PR D cI cS 113 a (exC cI cS a s st pi mi po))) (vp_Si (fun r => r = aftI s d x)) 0 0 (fun _ => False) := by
  refine mgo (by decide) (Nat.le_of_ble_eq_true rfl) ?_
  intro p e z m below meth c hx hb hr hml hown hts hlocks hB ls hl
  obtain ⟨hP, hK⟩ := hB
  have hl : lv_has ls 4 [(0, .ref (a 1)), (1, .int (nI d)), (2, .int x)] := hl
  refine lv_iload_n hx hb dX0_afterTick_0 rfl (lv_at hl 2 rfl) ?_
  refine lv_bipush (v := 10) hx hb dX0_afterTick_1 (by decide) ?_
  refine lv_iadd hx hb dX0_afterTick_3 ?_
  refine lv_aload_n hx hb dX0_afterTick_4 rfl (lv_at hl 0 rfl) ?_
  refine g_get hx hb hts hown inA0 hK hP 1 (by decide) xc1 rfl 2 (by decide) tw40 rfl (v := .ref (a 3)) rfl dX0_afterTick_5 ?_
  refine lv_iload_n hx hb dX0_afterTick_8 rfl (lv_at hl 1 rfl) ?_
  refine g_iald hx hb hK hP 3 (by decide) xc3 d rfl (by omega) (by decide) dX0_afterTick_9 (v := s 2 d) rfl ?_
  refine lv_iadd hx hb dX0_afterTick_10 ?_
  refine lv_istore_n (lv' := [(3, .int ((x + 10) + (s 2 d))), (0, .ref (a 1)), (1, .int (nI d)), (2, .int x)]) hx hb dX0_afterTick_11 rfl hl (by decide) rfl (fun ls hl => ?_)
  refine lv_iload_n hx hb dX0_afterTick_12 rfl (lv_at hl 0 rfl) ?_
  refine lv_ldc hx hb hown (hts _ tw494) dX0_afterTick_13 ?_
  refine lv_icmp_le (tgt := 23) hx hb dX0_afterTick_15 (by decide) (fun c1 => ?_) (fun c1 => ?_)
  · skip
    have c1x := Int32.not_lt.mpr c1
    refine lv_iload_n hx hb dX0_afterTick_23 rfl (lv_at hl 0 rfl) ?_
    exact ro_ir hx hb hr rfl hlocks (by simp [aftI, c1, c1x]) dX0_afterTick_24
  · skip
    have c1x := Int32.not_le.mp c1
    refine lv_ldc hx hb hown (hts _ tw494) dX0_afterTick_18 ?_
    refine lv_goto (tgt := 24) hx hb dX0_afterTick_20 (by decide) ?_
    exact ro_ir hx hb hr rfl hlocks (by simp [aftI, c1, c1x]) dX0_afterTick_24

set_option maxHeartbeats 4000000 in
set_option maxRecDepth 100000 in
theorem m_X0_ring (l : Launch) (D : va_G) (cI cS : ClassId) (a : Nat → Nat) (s : St) (st : Nat → St) (pi : Nat → Nat) (mi po : St) (d : Nat) (hd : d < 7) (x y : Int32) (sz : Nat) : Met l yX0_ring (.code yX0_ring cX0_ring 5 (some .int) :: wsA) ({ frames := 0, cells := 0, slots := 0, locals := 0 } : Room) (va_Pc [.ref (a 1), .int (nI d), .int x, .int y] (PW D cI cS 113 a (exC cI cS a s st pi mi po) sz)) (va_Qi (fun (r : Int32) (u : Unit) => r = y / 60 - x / 60) (BW D 113 a (fun u => exC cI cS a (ringS s d x y) st pi mi po)) (AX 113 a sz)) 0 0 (AX 113 a sz) := by
  refine mgo (by decide) (Nat.le_of_ble_eq_true rfl) ?_
  intro p e z m below meth c hx hb hr hml hown hts hlocks hB ls hl
  obtain ⟨hsz, hP, hK, hE⟩ := hB
  subst hsz
  have hS : va_S (AX 113 a z.heap.size) z.heap z.heap [] := va_S.rf
  have hl : lv_has ls 5 [(0, .ref (a 1)), (1, .int (nI d)), (2, .int x), (3, .int y)] := hl
  refine lv_iload_n hx hb dX0_ring_0 rfl (lv_at hl 3 rfl) ?_
  refine lv_bipush (v := 60) hx hb dX0_ring_1 (by decide) ?_
  refine lv_idiv hx hb dX0_ring_3 (by decide) ?_
  refine lv_iload_n hx hb dX0_ring_4 rfl (lv_at hl 2 rfl) ?_
  refine lv_bipush (v := 60) hx hb dX0_ring_5 (by decide) ?_
  refine lv_idiv hx hb dX0_ring_7 (by decide) ?_
  refine lv_isub hx hb dX0_ring_8 ?_
  refine lv_istore (lv' := [(4, .int ((y / 60) - (x / 60))), (0, .ref (a 1)), (1, .int (nI d)), (2, .int x), (3, .int y)]) hx hb dX0_ring_9 hl (by decide) rfl (fun ls hl => ?_)
  refine lv_aload_n hx hb dX0_ring_11 rfl (lv_at hl 1 rfl) ?_
  refine g_get hx hb hts hown inA0 hK hP 1 (by decide) xc1 rfl 6 (by decide) tw47 rfl (v := .ref (a 7)) rfl dX0_ring_12 ?_
  refine lv_iload_n hx hb dX0_ring_15 rfl (lv_at hl 2 rfl) ?_
  refine lv_dup2_11 hx hb dX0_ring_16 rfl rfl ?_
  refine g_iald hx hb hK hP 7 (by decide) xc7 d rfl (by omega) (by decide) dX0_ring_17 (v := s 6 d) rfl ?_
  refine lv_iload hx hb dX0_ring_18 (lv_at hl 0 rfl) ?_
  refine lv_iadd hx hb dX0_ring_20 ?_
  refine g_iast hx hb hK hP hE hS 7 (by decide) xc7 d rfl (by omega) (by decide) dX0_ring_21 (ex' := exC cI cS a (up2 s 6 d ((s 6 d) + ((y / 60) - (x / 60)))) st pi mi po) rfl (xo_row (by decide) (by decide)) (fun H locs hP hS => ?_)
  refine lv_iload hx hb dX0_ring_22 (lv_at hl 0 rfl) ?_
  exact rw_ir hx hb hr rfl hlocks hS () hP rfl dX0_ring_24

set_option maxHeartbeats 4000000 in
set_option maxRecDepth 100000 in
theorem m_X0_passTick (l : Launch) (D : va_G) (cI cS : ClassId) (a : Nat → Nat) (s : St) (st : Nat → St) (pi : Nat → Nat) (mi po : St) (d : Nat) (hd : d < 7) (sz : Nat) : Met l yX0_passTick (.code yX0_passTick cX0_passTick 4 (some .int) :: wsA) ({ frames := 1, cells := 0, slots := 0, locals := 24 } : Room) (va_Pc [.ref (a 1), .int (nI d)] (PW D cI cS 113 a (exC cI cS a s st pi mi po) sz)) (va_Qi (fun (r : Int32) (u : Unit) => r = ptR s d) (BW D 113 a (fun u => exC cI cS a (ptS s d) st pi mi po)) (AX 113 a sz)) 0 0 (AX 113 a sz) := by
  refine mgo (by decide) (Nat.le_of_ble_eq_true rfl) ?_
  intro p e z m below meth c hx hb hr hml hown hts hlocks hB ls hl
  obtain ⟨hsz, hP, hK, hE⟩ := hB
  subst hsz
  have hS : va_S (AX 113 a z.heap.size) z.heap z.heap [] := va_S.rf
  have hl : lv_has ls 4 [(0, .ref (a 1)), (1, .int (nI d))] := hl
  refine lv_aload_n hx hb dX0_passTick_0 rfl (lv_at hl 0 rfl) ?_
  refine g_get hx hb hts hown inA0 hK hP 1 (by decide) xc1 rfl 1 (by decide) tw37 rfl (v := .ref (a 2)) rfl dX0_passTick_1 ?_
  refine lv_iload_n hx hb dX0_passTick_4 rfl (lv_at hl 1 rfl) ?_
  refine g_iald hx hb hK hP 2 (by decide) xc2 d rfl (by omega) (by decide) dX0_passTick_5 (v := s 1 d) rfl ?_
  refine lv_istore_n (lv' := [(2, .int (s 1 d)), (0, .ref (a 1)), (1, .int (nI d))]) hx hb dX0_passTick_6 rfl hl (by decide) rfl (fun ls hl => ?_)
  refine lv_aload_n hx hb dX0_passTick_7 rfl (lv_at hl 1 rfl) ?_
  refine lv_iload_n hx hb dX0_passTick_8 rfl (lv_at hl 2 rfl) ?_
  refine lv_iload_n hx hb dX0_passTick_9 rfl (lv_at hl 0 rfl) ?_
  refine ro_i (va_runV (As := [.int (nI d), .int (s 1 d)]) (rest := []) ⟨hx, hb, hml, hown, hts⟩ (m_X0_afterTick l D cI cS a s st pi mi po d (by omega) (s 1 d)) (cwV 2 hts (gV tw493 tw503 tw491 tw492 tw3) rfl rfl rfl (by decide +kernel) ⟨Nat.le_of_ble_eq_true rfl, Nat.le_of_ble_eq_true rfl⟩) (pvR 1 hK hP (by decide) xc1 rfl) rfl rfl hl.1 rfl (lv_room (Nat.le_of_ble_eq_true rfl)) dX0_passTick_10 ⟨Nat.le_of_ble_eq_true rfl, Nat.le_of_ble_eq_true rfl⟩) (fun r2 hr1 => ?_)
  subst hr1
  refine lv_istore_n (lv' := [(3, .int (aftI s d (s 1 d))), (2, .int (s 1 d)), (0, .ref (a 1)), (1, .int (nI d))]) hx hb dX0_passTick_13 rfl hl (by decide) rfl (fun ls hl => ?_)
  refine lv_aload_n hx hb dX0_passTick_14 rfl (lv_at hl 2 rfl) ?_
  refine g_get hx hb hts hown inA0 hK hP 1 (by decide) xc1 rfl 1 (by decide) tw37 rfl (v := .ref (a 2)) rfl dX0_passTick_15 ?_
  refine lv_iload_n hx hb dX0_passTick_18 rfl (lv_at hl 3 rfl) ?_
  refine lv_iload_n hx hb dX0_passTick_19 rfl (lv_at hl 0 rfl) ?_
  refine g_iast hx hb hK hP hE hS 2 (by decide) xc2 d rfl (by omega) (by decide) dX0_passTick_20 (ex' := exC cI cS a (up2 s 1 d (aftI s d (s 1 d))) st pi mi po) rfl (xo_row (by decide) (by decide)) (fun H locs hP hS => ?_)
  refine lv_aload_n hx hb dX0_passTick_21 rfl (lv_at hl 2 rfl) ?_
  refine g_get hx hb hts hown inA0 hK hP 1 (by decide) xc1 rfl 3 (by decide) tw42 rfl (v := .ref (a 4)) rfl dX0_passTick_22 ?_
  refine lv_iload_n hx hb dX0_passTick_25 rfl (lv_at hl 3 rfl) ?_
  refine lv_dup2_11 hx hb dX0_passTick_26 rfl rfl ?_
  refine g_iald hx hb hK hP 4 (by decide) xc4 d rfl (by omega) (by decide) dX0_passTick_27 (v := s 3 d) (by simp [up2, upR, upd]) ?_
  refine lv_iload_n hx hb dX0_passTick_28 rfl (lv_at hl 0 rfl) ?_
  refine lv_iload_n hx hb dX0_passTick_29 rfl (lv_at hl 1 rfl) ?_
  refine lv_isub hx hb dX0_passTick_30 ?_
  refine lv_iadd hx hb dX0_passTick_31 ?_
  refine g_iast hx hb hK hP hE hS 4 (by decide) xc4 d rfl (by omega) (by decide) dX0_passTick_32 (ex' := exC cI cS a (up2 (up2 s 1 d (aftI s d (s 1 d))) 3 d ((s 3 d) + ((aftI s d (s 1 d)) - (s 1 d)))) st pi mi po) rfl (xo_row (by decide) (by decide)) (fun H locs hP hS => ?_)
  refine lv_aload_n hx hb dX0_passTick_33 rfl (lv_at hl 2 rfl) ?_
  refine lv_iload_n hx hb dX0_passTick_34 rfl (lv_at hl 3 rfl) ?_
  refine lv_iload_n hx hb dX0_passTick_35 rfl (lv_at hl 1 rfl) ?_
  refine lv_iload_n hx hb dX0_passTick_36 rfl (lv_at hl 0 rfl) ?_
  refine rw_i hS (va_runV (As := [.int (nI d), .int (s 1 d), .int (aftI s d (s 1 d))]) (rest := []) ⟨hx, hb, hml, hown, hts⟩ (m_X0_ring l D cI cS a (up2 (up2 s 1 d (aftI s d (s 1 d))) 3 d ((s 3 d) + ((aftI s d (s 1 d)) - (s 1 d)))) st pi mi po d (by omega) (s 1 d) (aftI s d (s 1 d)) _) (cwV 3 hts (gV tw230 tw227 tw229 ts2 tw3) rfl rfl rfl (by decide +kernel) ⟨Nat.le_of_ble_eq_true rfl, Nat.le_of_ble_eq_true rfl⟩) (pvW 1 hK hP hE (by decide) xc1 rfl) rfl rfl hl.1 rfl (lv_room (Nat.le_of_ble_eq_true rfl)) dX0_passTick_37 ⟨Nat.le_of_ble_eq_true rfl, Nat.le_of_ble_eq_true rfl⟩) (fun r5 u6 H locs hr4 hP hS => ?_)
  subst hr4
  exact rw_ir hx hb hr rfl hlocks hS () hP rfl dX0_passTick_40

set_option maxHeartbeats 4000000 in
set_option maxRecDepth 100000 in
theorem m_X0_passTicks (l : Launch) (D : va_G) (cI cS : ClassId) (a : Nat → Nat) (s : St) (st : Nat → St) (pi : Nat → Nat) (mi po : St) (n : Nat) (hn : n < 1000) (sz : Nat) : Met l yX0_passTicks (.code yX0_passTicks cX0_passTicks 5 (some .int) :: wsA) ({ frames := 2, cells := 0, slots := 0, locals := 47 } : Room) (va_Pc [.ref (a 1), .int (nI n)] (PW D cI cS 113 a (exC cI cS a s st pi mi po) sz)) (va_Qi (fun (r : Int32) (u : Unit) => r = ticksA n s) (BW D 113 a (fun u => exC cI cS a (ticksS n s) st pi mi po)) (AX 113 a sz)) 0 0 (AX 113 a sz) := by
  refine mgo (by decide) (Nat.le_of_ble_eq_true rfl) ?_
  intro p e z m below meth c hx hb hr hml hown hts hlocks hB ls hl
  obtain ⟨hsz, hP, hK, hE⟩ := hB
  subst hsz
  have hS : va_S (AX 113 a z.heap.size) z.heap z.heap [] := va_S.rf
  have hl : lv_has ls 5 [(0, .ref (a 1)), (1, .int (nI n))] := hl
  refine lv_iconst (v := 0) hx hb dX0_passTicks_0 (by decide) ?_
  refine lv_istore_n (lv' := [(2, .int 0), (0, .ref (a 1)), (1, .int (nI n))]) hx hb dX0_passTicks_1 rfl hl (by decide) rfl (fun ls hl => ?_)
  refine lv_iconst (v := 0) hx hb dX0_passTicks_2 (by decide) ?_
  refine lv_istore_n (lv' := [(3, .int 0), (2, .int 0), (0, .ref (a 1)), (1, .int (nI n))]) hx hb dX0_passTicks_3 rfl hl (by decide) rfl (fun ls hl => ?_)
  have loop4 : ∀ (fu : Nat) (j : Nat), n + 1 ≤ j + fu → (j ≤ n) → ∀ (H : Heap) (locs : List Loc), HP D 113 a (exC cI cS a (ticksS j s) st pi mi po) H → va_S (AX 113 a z.heap.size) z.heap H locs → ∀ ls : Array Slot, lv_has ls 5 [(0, .ref (a 1)), (1, .int (nI n)), (2, .int (ticksA j s)), (3, .int (nI j))] → W p l e ({ frames := 2, cells := 0, slots := 0, locals := 47 } : Room) z m ([.ref (a 1), .int (nI n)] : List Value).toArray below meth c H locs 0 0 (MQ below (va_Qi (fun (r : Int32) (u : Unit) => r = ticksA n s) (BW D 113 a (fun u => exC cI cS a (ticksS n s) st pi mi po)) (AX 113 a z.heap.size)) ([.ref (a 1), .int (nI n)] : List Value).toArray z 0 0 (AX 113 a z.heap.size)) (F0 m 4 ls []) := by
    intro fu
    induction fu with
    | zero => intro j hn hj; exact absurd hn (by omega)
    | succ fu ih4 =>
      intro j hn hj H locs hP hS ls hl
      refine lv_iload_n hx hb dX0_passTicks_4 rfl (lv_at hl 3 rfl) ?_
      refine lv_iload_n hx hb dX0_passTicks_5 rfl (lv_at hl 1 rfl) ?_
      refine lv_icmp_ge (tgt := 51) hx hb dX0_passTicks_6 (by decide) (fun c1 => ?_) (fun c1 => ?_)
      · skip
        have c1x := Int32.not_lt.mpr c1
        have c1n := (nI_le2 (p := n) (q := j) rfl rfl (by omega) (by omega)).mp c1
        have c1n : n ≤ j := c1n
        obtain rfl : j = n := by omega
        refine lv_iload_n hx hb dX0_passTicks_51 rfl (lv_at hl 2 rfl) ?_
        exact rw_ir hx hb hr rfl hlocks hS () hP rfl dX0_passTicks_52
      · skip
        have c1x := Int32.not_le.mp c1
        have c1n := fun hq0 => c1 ((nI_le2 (p := n) (q := j) rfl rfl (by omega) (by omega)).mpr hq0)
        have c1n : ¬ (n ≤ j) := c1n
        refine lv_aload_n hx hb dX0_passTicks_9 rfl (lv_at hl 0 rfl) ?_
        refine lv_dup hx hb dX0_passTicks_10 rfl ?_
        refine g_get hx hb hts hown inA0 hK hP 1 (by decide) xc1 rfl 0 (by decide) tw35 rfl (v := .int ((ticksS j s) 0 0)) rfl dX0_passTicks_11 ?_
        refine lv_bipush (v := 10) hx hb dX0_passTicks_14 (by decide) ?_
        refine lv_iadd hx hb dX0_passTicks_16 ?_
        refine g_put hx hb hts hown inA0 tyX0 tyX0_ok nmX0 hK hP hE hS 1 (by decide) xc1 rfl 0 (by decide) tw35 rfl rfl (ty := .int) (by decide +kernel) rfl rfl (Nat.le_of_ble_eq_true rfl) dX0_passTicks_17 (ex' := exC cI cS a (up2 (ticksS j s) 0 0 (((ticksS j s) 0 0) + 10)) st pi mi po) rfl (xo_sc (by decide)) (fun H locs hP hS => ?_)
        refine lv_iconst (v := 0) hx hb dX0_passTicks_20 (by decide) ?_
        refine lv_istore (lv' := [(4, .int 0), (0, .ref (a 1)), (1, .int (nI n)), (2, .int (ticksA j s)), (3, .int (nI j))]) hx hb dX0_passTicks_21 hl (by decide) rfl (fun ls hl => ?_)
        have loop23 : ∀ (fu : Nat) (q : Nat), 7 + 1 ≤ q + fu → (q ≤ 7) → ∀ (H : Heap) (locs : List Loc), HP D 113 a (exC cI cS a (ptN q (up2 (ticksS j s) 0 0 (ticksS j s 0 0 + 10))) st pi mi po) H → va_S (AX 113 a z.heap.size) z.heap H locs → ∀ ls : Array Slot, lv_has ls 5 [(0, .ref (a 1)), (1, .int (nI n)), (2, .int (ptA q (up2 (ticksS j s) 0 0 (ticksS j s 0 0 + 10)) (ticksA j s))), (3, .int (nI j)), (4, .int (nI q))] → W p l e ({ frames := 2, cells := 0, slots := 0, locals := 47 } : Room) z m ([.ref (a 1), .int (nI n)] : List Value).toArray below meth c H locs 0 0 (MQ below (va_Qi (fun (r : Int32) (u : Unit) => r = ticksA n s) (BW D 113 a (fun u => exC cI cS a (ticksS n s) st pi mi po)) (AX 113 a z.heap.size)) ([.ref (a 1), .int (nI n)] : List Value).toArray z 0 0 (AX 113 a z.heap.size)) (F0 m 23 ls []) := by
          intro fu
          induction fu with
          | zero => intro q hn hq; exact absurd hn (by omega)
          | succ fu ih23 =>
            intro q hn hq H locs hP hS ls hl
            refine lv_iload hx hb dX0_passTicks_23 (lv_at hl 4 rfl) ?_
            refine lv_bipush (v := 7) hx hb dX0_passTicks_25 (by decide) ?_
            refine lv_icmp_ge (tgt := 45) hx hb dX0_passTicks_27 (by decide) (fun c2 => ?_) (fun c2 => ?_)
            · skip
              have c2x := Int32.not_lt.mpr c2
              have c2n := (nI_le2 (p := 7) (q := q) rfl rfl (by omega) (by omega)).mp c2
              have c2n : 7 ≤ q := c2n
              obtain rfl : q = 7 := by omega
              refine lv_iinc (v := nI (j + 1)) (lv' := [(3, .int (nI (j + 1))), (0, .ref (a 1)), (1, .int (nI n)), (2, .int (ptA 7 (up2 (ticksS j s) 0 0 (ticksS j s 0 0 + 10)) (ticksA j s))), (4, .int (nI 7))]) hx hb dX0_passTicks_45 hl (k := 3) rfl (nI_add j 1) (by decide) rfl (fun ls hl => ?_)
              refine lv_goto (tgt := 4) hx hb dX0_passTicks_48 (by decide) ?_
              exact ih4 (j + 1) (by omega) (by omega) _ _ hP hS ls (lv_sub hl [1, 2, 3, 0] rfl)
            · skip
              have c2x := Int32.not_le.mp c2
              have c2n := fun hq0 => c2 ((nI_le2 (p := 7) (q := q) rfl rfl (by omega) (by omega)).mpr hq0)
              have c2n : ¬ (7 ≤ q) := c2n
              refine lv_iload_n hx hb dX0_passTicks_30 rfl (lv_at hl 2 rfl) ?_
              refine lv_aload_n hx hb dX0_passTicks_31 rfl (lv_at hl 0 rfl) ?_
              refine lv_iload hx hb dX0_passTicks_32 (lv_at hl 4 rfl) ?_
              refine rw_i hS (va_runV (As := [.int (nI q)]) (rest := [.int (ptA q (up2 (ticksS j s) 0 0 (ticksS j s 0 0 + 10)) (ticksA j s))]) ⟨hx, hb, hml, hown, hts⟩ (m_X0_passTick l D cI cS a (ptN q (up2 (ticksS j s) 0 0 (ticksS j s 0 0 + 10))) st pi mi po q (by omega) _) (cwV 1 hts (gV tw554 tw551 tw553 ts17 tw3) rfl rfl rfl (by decide +kernel) ⟨Nat.le_of_ble_eq_true rfl, Nat.le_of_ble_eq_true rfl⟩) (pvW 1 hK hP hE (by decide) xc1 rfl) rfl rfl hl.1 rfl (lv_room (Nat.le_of_ble_eq_true rfl)) dX0_passTicks_34 ⟨Nat.le_of_ble_eq_true rfl, Nat.le_of_ble_eq_true rfl⟩) (fun r4 u5 H locs hr3 hP hS => ?_)
              subst hr3
              refine lv_iadd hx hb dX0_passTicks_37 ?_
              refine lv_istore_n (lv' := [(2, .int ((ptA q (up2 (ticksS j s) 0 0 (ticksS j s 0 0 + 10)) (ticksA j s)) + (ptR (ptN q (up2 (ticksS j s) 0 0 (ticksS j s 0 0 + 10))) q))), (0, .ref (a 1)), (1, .int (nI n)), (3, .int (nI j)), (4, .int (nI q))]) hx hb dX0_passTicks_38 rfl hl (by decide) rfl (fun ls hl => ?_)
              refine lv_iinc (v := nI (q + 1)) (lv' := [(4, .int (nI (q + 1))), (2, .int ((ptA q (up2 (ticksS j s) 0 0 (ticksS j s 0 0 + 10)) (ticksA j s)) + (ptR (ptN q (up2 (ticksS j s) 0 0 (ticksS j s 0 0 + 10))) q))), (0, .ref (a 1)), (1, .int (nI n)), (3, .int (nI j))]) hx hb dX0_passTicks_39 hl (k := 4) rfl (nI_add q 1) (by decide) rfl (fun ls hl => ?_)
              refine lv_goto (tgt := 23) hx hb dX0_passTicks_42 (by decide) ?_
              exact ih23 (q + 1) (by omega) (by omega) _ _ hP hS ls (lv_sub hl [2, 3, 1, 4, 0] rfl)
        exact loop23 (7 + 1) 0 (by omega) (by omega) _ _ hP hS ls (lv_sub hl [1, 2, 3, 4, 0] rfl)
  exact loop4 (n + 1) 0 (by omega) (by omega) _ _ hP hS ls (lv_sub hl [2, 3, 1, 0] rfl)

set_option maxHeartbeats 4000000 in
set_option maxRecDepth 100000 in
theorem m_X0_moveTo (l : Launch) (D : va_G) (cI cS : ClassId) (a : Nat → Nat) (s : St) (st : Nat → St) (pi : Nat → Nat) (mi po : St) (d : Nat) (hd : d < 7) (y : Int32) (sz : Nat) : Met l yX0_moveTo (.code yX0_moveTo cX0_moveTo 4 (some .int) :: wsA) ({ frames := 1, cells := 0, slots := 0, locals := 24 } : Room) (va_Pc [.ref (a 1), .int (nI d), .int y] (PW D cI cS 113 a (exC cI cS a s st pi mi po) sz)) (va_Qi (fun (r : Int32) (u : Unit) => r = mvR s d y) (BW D 113 a (fun u => exC cI cS a (mvS s d y) st pi mi po)) (AX 113 a sz)) 0 0 (AX 113 a sz) := by
  refine mgo (by decide) (Nat.le_of_ble_eq_true rfl) ?_
  intro p e z m below meth c hx hb hr hml hown hts hlocks hB ls hl
  obtain ⟨hsz, hP, hK, hE⟩ := hB
  subst hsz
  have hS : va_S (AX 113 a z.heap.size) z.heap z.heap [] := va_S.rf
  have hl : lv_has ls 4 [(0, .ref (a 1)), (1, .int (nI d)), (2, .int y)] := hl
  refine lv_aload_n hx hb dX0_moveTo_0 rfl (lv_at hl 0 rfl) ?_
  refine g_get hx hb hts hown inA0 hK hP 1 (by decide) xc1 rfl 1 (by decide) tw37 rfl (v := .ref (a 2)) rfl dX0_moveTo_1 ?_
  refine lv_iload_n hx hb dX0_moveTo_4 rfl (lv_at hl 1 rfl) ?_
  refine g_iald hx hb hK hP 2 (by decide) xc2 d rfl (by omega) (by decide) dX0_moveTo_5 (v := s 1 d) rfl ?_
  refine lv_istore_n (lv' := [(3, .int (s 1 d)), (0, .ref (a 1)), (1, .int (nI d)), (2, .int y)]) hx hb dX0_moveTo_6 rfl hl (by decide) rfl (fun ls hl => ?_)
  refine lv_aload_n hx hb dX0_moveTo_7 rfl (lv_at hl 1 rfl) ?_
  refine g_get hx hb hts hown inA0 hK hP 1 (by decide) xc1 rfl 1 (by decide) tw37 rfl (v := .ref (a 2)) rfl dX0_moveTo_8 ?_
  refine lv_iload_n hx hb dX0_moveTo_11 rfl (lv_at hl 2 rfl) ?_
  refine lv_iload_n hx hb dX0_moveTo_12 rfl (lv_at hl 3 rfl) ?_
  refine g_iast hx hb hK hP hE hS 2 (by decide) xc2 d rfl (by omega) (by decide) dX0_moveTo_13 (ex' := exC cI cS a (up2 s 1 d y) st pi mi po) rfl (xo_row (by decide) (by decide)) (fun H locs hP hS => ?_)
  refine lv_iload_n hx hb dX0_moveTo_14 rfl (lv_at hl 3 rfl) ?_
  refine lv_iload_n hx hb dX0_moveTo_15 rfl (lv_at hl 0 rfl) ?_
  refine lv_icmp_ge (tgt := 35) hx hb dX0_moveTo_16 (by decide) (fun c1 => ?_) (fun c1 => ?_)
  · skip
    have c1x := Int32.not_lt.mpr c1
    refine lv_aload_n hx hb dX0_moveTo_35 rfl (lv_at hl 1 rfl) ?_
    refine g_get hx hb hts hown inA0 hK hP 1 (by decide) xc1 rfl 4 (by decide) tw43 rfl (v := .ref (a 5)) rfl dX0_moveTo_36 ?_
    refine lv_iload_n hx hb dX0_moveTo_39 rfl (lv_at hl 2 rfl) ?_
    refine lv_dup2_11 hx hb dX0_moveTo_40 rfl rfl ?_
    refine g_iald hx hb hK hP 5 (by decide) xc5 d rfl (by omega) (by decide) dX0_moveTo_41 (v := s 4 d) (by simp [up2, upR, upd]) ?_
    refine lv_iload_n hx hb dX0_moveTo_42 rfl (lv_at hl 3 rfl) ?_
    refine lv_iload_n hx hb dX0_moveTo_43 rfl (lv_at hl 0 rfl) ?_
    refine lv_isub hx hb dX0_moveTo_44 ?_
    refine lv_iadd hx hb dX0_moveTo_45 ?_
    refine g_iast hx hb hK hP hE hS 5 (by decide) xc5 d rfl (by omega) (by decide) dX0_moveTo_46 (ex' := exC cI cS a (up2 (up2 s 1 d y) 4 d ((s 4 d) + (y - (s 1 d)))) st pi mi po) rfl (xo_row (by decide) (by decide)) (fun H locs hP hS => ?_)
    refine lv_aload_n hx hb dX0_moveTo_47 rfl (lv_at hl 1 rfl) ?_
    refine lv_iload_n hx hb dX0_moveTo_48 rfl (lv_at hl 2 rfl) ?_
    refine lv_iload_n hx hb dX0_moveTo_49 rfl (lv_at hl 0 rfl) ?_
    refine lv_iload_n hx hb dX0_moveTo_50 rfl (lv_at hl 3 rfl) ?_
    refine rw_i hS (va_runV (As := [.int (nI d), .int (s 1 d), .int y]) (rest := []) ⟨hx, hb, hml, hown, hts⟩ (m_X0_ring l D cI cS a (up2 (up2 s 1 d y) 4 d ((s 4 d) + (y - (s 1 d)))) st pi mi po d (by omega) (s 1 d) y _) (cwV 3 hts (gV tw230 tw227 tw229 ts2 tw3) rfl rfl rfl (by decide +kernel) ⟨Nat.le_of_ble_eq_true rfl, Nat.le_of_ble_eq_true rfl⟩) (pvW 1 hK hP hE (by decide) xc1 rfl) rfl rfl hl.1 rfl (lv_room (Nat.le_of_ble_eq_true rfl)) dX0_moveTo_51 ⟨Nat.le_of_ble_eq_true rfl, Nat.le_of_ble_eq_true rfl⟩) (fun r3 u4 H locs hr2 hP hS => ?_)
    subst hr2
    refine lv_pop hx hb dX0_moveTo_54 rfl ?_
    refine lv_iload_n hx hb dX0_moveTo_55 rfl (lv_at hl 3 rfl) ?_
    refine lv_iload_n hx hb dX0_moveTo_56 rfl (lv_at hl 0 rfl) ?_
    refine lv_isub hx hb dX0_moveTo_57 ?_
    have hWs : (mvS s d y) = (ringS (up2 (up2 s 1 d y) 4 d ((s 4 d) + (y - (s 1 d)))) d (s 1 d) y) := by unfold mvS; rw [if_neg c1x]; rfl
    rw [← hWs] at hP
    exact rw_ir hx hb hr rfl hlocks hS () hP (by unfold mvR; rw [if_neg c1x]) dX0_moveTo_58
  · skip
    have c1x := Int32.not_le.mp c1
    refine lv_aload_n hx hb dX0_moveTo_19 rfl (lv_at hl 1 rfl) ?_
    refine g_get hx hb hts hown inA0 hK hP 1 (by decide) xc1 rfl 5 (by decide) tw45 rfl (v := .ref (a 6)) rfl dX0_moveTo_20 ?_
    refine lv_iload_n hx hb dX0_moveTo_23 rfl (lv_at hl 2 rfl) ?_
    refine lv_dup2_11 hx hb dX0_moveTo_24 rfl rfl ?_
    refine g_iald hx hb hK hP 6 (by decide) xc6 d rfl (by omega) (by decide) dX0_moveTo_25 (v := s 5 d) (by simp [up2, upR, upd]) ?_
    refine lv_iload_n hx hb dX0_moveTo_26 rfl (lv_at hl 0 rfl) ?_
    refine lv_iload_n hx hb dX0_moveTo_27 rfl (lv_at hl 3 rfl) ?_
    refine lv_isub hx hb dX0_moveTo_28 ?_
    refine lv_iadd hx hb dX0_moveTo_29 ?_
    refine g_iast hx hb hK hP hE hS 6 (by decide) xc6 d rfl (by omega) (by decide) dX0_moveTo_30 (ex' := exC cI cS a (up2 (up2 s 1 d y) 5 d ((s 5 d) + ((s 1 d) - y))) st pi mi po) rfl (xo_row (by decide) (by decide)) (fun H locs hP hS => ?_)
    refine lv_iload_n hx hb dX0_moveTo_31 rfl (lv_at hl 0 rfl) ?_
    refine lv_iload_n hx hb dX0_moveTo_32 rfl (lv_at hl 3 rfl) ?_
    refine lv_isub hx hb dX0_moveTo_33 ?_
    have hWs : (mvS s d y) = (up2 (up2 s 1 d y) 5 d ((s 5 d) + ((s 1 d) - y))) := by unfold mvS; rw [if_pos c1x]
    rw [← hWs] at hP
    exact rw_ir hx hb hr rfl hlocks hS () hP (by unfold mvR; rw [if_pos c1x]) dX0_moveTo_34

set_option maxHeartbeats 4000000 in
set_option maxRecDepth 100000 in
theorem m_X0_changeDrift (l : Launch) (D : va_G) (cI cS : ClassId) (a : Nat → Nat) (s : St) (st : Nat → St) (pi : Nat → Nat) (mi po : St) (d : Nat) (hd : d < 7) (y : Int32) (sz : Nat) : Met l yX0_changeDrift (.code yX0_changeDrift cX0_changeDrift 3 none :: wsA) ({ frames := 0, cells := 0, slots := 0, locals := 0 } : Room) (va_Pc [.ref (a 1), .int (nI d), .int y] (PW D cI cS 113 a (exC cI cS a s st pi mi po) sz)) (va_Qv (fun (u : Unit) => True) (BW D 113 a (fun u => exC cI cS a (up2 s 2 d y) st pi mi po)) (AX 113 a sz)) 0 0 (AX 113 a sz) := by
  refine mgo (by decide) (Nat.le_of_ble_eq_true rfl) ?_
  intro p e z m below meth c hx hb hr hml hown hts hlocks hB ls hl
  obtain ⟨hsz, hP, hK, hE⟩ := hB
  subst hsz
  have hS : va_S (AX 113 a z.heap.size) z.heap z.heap [] := va_S.rf
  have hl : lv_has ls 3 [(0, .ref (a 1)), (1, .int (nI d)), (2, .int y)] := hl
  refine lv_iload_n hx hb dX0_changeDrift_0 rfl (lv_at hl 1 rfl) ?_
  refine lv_if_lt (tgt := 17) hx hb dX0_changeDrift_1 (by decide) (fun h0 => absurd h0 (fun h => by have := (nI_lt2 (p := d) (q := 0) rfl rfl (by omega) (by omega)).mp h; omega)) (fun _ => ?_)
  refine lv_iload_n hx hb dX0_changeDrift_4 rfl (lv_at hl 1 rfl) ?_
  refine lv_bipush (v := 7) hx hb dX0_changeDrift_5 (by decide) ?_
  refine lv_icmp_ge (tgt := 17) hx hb dX0_changeDrift_7 (by decide) (fun h0 => absurd h0 (fun h => by have := (nI_le2 (p := 7) (q := d) rfl rfl (by omega) (by omega)).mp h; omega)) (fun _ => ?_)
  refine lv_aload_n hx hb dX0_changeDrift_10 rfl (lv_at hl 0 rfl) ?_
  refine g_get hx hb hts hown inA0 hK hP 1 (by decide) xc1 rfl 2 (by decide) tw40 rfl (v := .ref (a 3)) rfl dX0_changeDrift_11 ?_
  refine lv_iload_n hx hb dX0_changeDrift_14 rfl (lv_at hl 1 rfl) ?_
  refine lv_iload_n hx hb dX0_changeDrift_15 rfl (lv_at hl 2 rfl) ?_
  refine g_iast hx hb hK hP hE hS 3 (by decide) xc3 d rfl (by omega) (by decide) dX0_changeDrift_16 (ex' := exC cI cS a (up2 s 2 d y) st pi mi po) rfl (xo_row (by decide) (by decide)) (fun H locs hP hS => ?_)
  exact rw_vr hx hb hr hlocks hS () hP trivial dX0_changeDrift_17

set_option maxHeartbeats 4000000 in
set_option maxRecDepth 100000 in
theorem m_X0_accountOf (l : Launch) (D : va_G) (cI cS : ClassId) (a : Nat → Nat) (s : St) (st : Nat → St) (pi : Nat → Nat) (mi po : St) (d : Nat) (hd : d < 7) : Met l yX0_accountOf (.code yX0_accountOf cX0_accountOf 2 (some .int) :: wsA) ({ frames := 0, cells := 0, slots := 0, locals := 0 } : Room) (va_Pc [.ref (a 1), .int (nI d)] (PR D cI cS 113 a (exC cI cS a s st pi mi po))) (vp_Si (fun r => r = accI s d)) 0 0 (fun _ => False) := by
  refine mgo (by decide) (Nat.le_of_ble_eq_true rfl) ?_
  intro p e z m below meth c hx hb hr hml hown hts hlocks hB ls hl
  obtain ⟨hP, hK⟩ := hB
  have hl : lv_has ls 2 [(0, .ref (a 1)), (1, .int (nI d))] := hl
  refine lv_aload_n hx hb dX0_accountOf_0 rfl (lv_at hl 0 rfl) ?_
  refine g_get hx hb hts hown inA0 hK hP 1 (by decide) xc1 rfl 3 (by decide) tw42 rfl (v := .ref (a 4)) rfl dX0_accountOf_1 ?_
  refine lv_iload_n hx hb dX0_accountOf_4 rfl (lv_at hl 1 rfl) ?_
  refine g_iald hx hb hK hP 4 (by decide) xc4 d rfl (by omega) (by decide) dX0_accountOf_5 (v := s 3 d) rfl ?_
  refine lv_aload_n hx hb dX0_accountOf_6 rfl (lv_at hl 0 rfl) ?_
  refine g_get hx hb hts hown inA0 hK hP 1 (by decide) xc1 rfl 4 (by decide) tw43 rfl (v := .ref (a 5)) rfl dX0_accountOf_7 ?_
  refine lv_iload_n hx hb dX0_accountOf_10 rfl (lv_at hl 1 rfl) ?_
  refine g_iald hx hb hK hP 5 (by decide) xc5 d rfl (by omega) (by decide) dX0_accountOf_11 (v := s 4 d) rfl ?_
  refine lv_iadd hx hb dX0_accountOf_12 ?_
  refine lv_aload_n hx hb dX0_accountOf_13 rfl (lv_at hl 0 rfl) ?_
  refine g_get hx hb hts hown inA0 hK hP 1 (by decide) xc1 rfl 5 (by decide) tw45 rfl (v := .ref (a 6)) rfl dX0_accountOf_14 ?_
  refine lv_iload_n hx hb dX0_accountOf_17 rfl (lv_at hl 1 rfl) ?_
  refine g_iald hx hb hK hP 6 (by decide) xc6 d rfl (by omega) (by decide) dX0_accountOf_18 (v := s 5 d) rfl ?_
  refine lv_isub hx hb dX0_accountOf_19 ?_
  exact ro_ir hx hb hr rfl hlocks rfl dX0_accountOf_20

set_option maxHeartbeats 4000000 in
set_option maxRecDepth 100000 in
theorem m_X0_errorOf (l : Launch) (D : va_G) (cI cS : ClassId) (a : Nat → Nat) (s : St) (st : Nat → St) (pi : Nat → Nat) (mi po : St) (d : Nat) (hd : d < 7) : Met l yX0_errorOf (.code yX0_errorOf cX0_errorOf 2 (some .int) :: wsA) ({ frames := 1, cells := 0, slots := 0, locals := 21 } : Room) (va_Pc [.ref (a 1), .int (nI d)] (PR D cI cS 113 a (exC cI cS a s st pi mi po))) (vp_Si (fun r => r = errI s d)) 0 0 (fun _ => False) := by
  refine mgo (by decide) (Nat.le_of_ble_eq_true rfl) ?_
  intro p e z m below meth c hx hb hr hml hown hts hlocks hB ls hl
  obtain ⟨hP, hK⟩ := hB
  have hl : lv_has ls 2 [(0, .ref (a 1)), (1, .int (nI d))] := hl
  refine lv_aload_n hx hb dX0_errorOf_0 rfl (lv_at hl 0 rfl) ?_
  refine g_get hx hb hts hown inA0 hK hP 1 (by decide) xc1 rfl 1 (by decide) tw37 rfl (v := .ref (a 2)) rfl dX0_errorOf_1 ?_
  refine lv_iload_n hx hb dX0_errorOf_4 rfl (lv_at hl 1 rfl) ?_
  refine g_iald hx hb hK hP 2 (by decide) xc2 d rfl (by omega) (by decide) dX0_errorOf_5 (v := s 1 d) rfl ?_
  refine lv_aload_n hx hb dX0_errorOf_6 rfl (lv_at hl 0 rfl) ?_
  refine g_get hx hb hts hown inA0 hK hP 1 (by decide) xc1 rfl 0 (by decide) tw35 rfl (v := .int (s 0 0)) rfl dX0_errorOf_7 ?_
  refine ro_i (va_runSN (As := [.int (s 1 d), .int (s 0 0)]) (rest := []) ⟨hx, hb, hml, hown, hts⟩ (m_X6_distance l (s 1 d) (s 0 0)) ⟨va_cnB 2 hts (gA tw218) rfl rfl rfl (hK.2 _ tn317) (hts _ tw1) (by decide +kernel) ⟨Nat.le_of_ble_eq_true rfl, Nat.le_of_ble_eq_true rfl⟩, hts _ tw217, trivial⟩ ps0 rfl rfl hl.1 rfl (lv_room (Nat.le_of_ble_eq_true rfl)) dX0_errorOf_10 ⟨Nat.le_of_ble_eq_true rfl, Nat.le_of_ble_eq_true rfl⟩) (fun r2 hr1 => ?_)
  subst hr1
  exact ro_ir hx hb hr rfl hlocks rfl dX0_errorOf_13

set_option maxHeartbeats 4000000 in
set_option maxRecDepth 100000 in
theorem m_X0_ticksToRing (l : Launch) (D : va_G) (cI cS : ClassId) (a : Nat → Nat) (s : St) (st : Nat → St) (pi : Nat → Nat) (mi po : St) (d : Nat) (hd : d < 7) : Met l yX0_ticksToRing (.code yX0_ticksToRing cX0_ticksToRing 5 (some .int) :: wsA) ({ frames := 1, cells := 0, slots := 0, locals := 23 } : Room) (va_Pc [.ref (a 1), .int (nI d)] (PR D cI cS 113 a (exC cI cS a s st pi mi po))) (vp_Si (fun r => r = ringF s d (s 1 d / 60) 200 1 (s 1 d))) 0 0 (fun _ => False) := by
  refine mgo (by decide) (Nat.le_of_ble_eq_true rfl) ?_
  intro p e z m below meth c hx hb hr hml hown hts hlocks hB ls hl
  obtain ⟨hP, hK⟩ := hB
  have hl : lv_has ls 5 [(0, .ref (a 1)), (1, .int (nI d))] := hl
  refine lv_aload_n hx hb dX0_ticksToRing_0 rfl (lv_at hl 0 rfl) ?_
  refine g_get hx hb hts hown inA0 hK hP 1 (by decide) xc1 rfl 1 (by decide) tw37 rfl (v := .ref (a 2)) rfl dX0_ticksToRing_1 ?_
  refine lv_iload_n hx hb dX0_ticksToRing_4 rfl (lv_at hl 1 rfl) ?_
  refine g_iald hx hb hK hP 2 (by decide) xc2 d rfl (by omega) (by decide) dX0_ticksToRing_5 (v := s 1 d) rfl ?_
  refine lv_bipush (v := 60) hx hb dX0_ticksToRing_6 (by decide) ?_
  refine lv_idiv hx hb dX0_ticksToRing_8 (by decide) ?_
  refine lv_istore_n (lv' := [(2, .int ((s 1 d) / 60)), (0, .ref (a 1)), (1, .int (nI d))]) hx hb dX0_ticksToRing_9 rfl hl (by decide) rfl (fun ls hl => ?_)
  refine lv_aload_n hx hb dX0_ticksToRing_10 rfl (lv_at hl 1 rfl) ?_
  refine g_get hx hb hts hown inA0 hK hP 1 (by decide) xc1 rfl 1 (by decide) tw37 rfl (v := .ref (a 2)) rfl dX0_ticksToRing_11 ?_
  refine lv_iload_n hx hb dX0_ticksToRing_14 rfl (lv_at hl 2 rfl) ?_
  refine g_iald hx hb hK hP 2 (by decide) xc2 d rfl (by omega) (by decide) dX0_ticksToRing_15 (v := s 1 d) rfl ?_
  refine lv_istore_n (lv' := [(3, .int (s 1 d)), (2, .int ((s 1 d) / 60)), (0, .ref (a 1)), (1, .int (nI d))]) hx hb dX0_ticksToRing_16 rfl hl (by decide) rfl (fun ls hl => ?_)
  refine lv_iconst (v := 1) hx hb dX0_ticksToRing_17 (by decide) ?_
  refine lv_istore (lv' := [(4, .int 1), (3, .int (s 1 d)), (2, .int ((s 1 d) / 60)), (0, .ref (a 1)), (1, .int (nI d))]) hx hb dX0_ticksToRing_18 hl (by decide) rfl (fun ls hl => ?_)
  have loop20 : ∀ (fu : Nat) (t : Nat) (x : Int32), 201 + 1 ≤ t + fu → (1 ≤ t ∧ t ≤ 201) → (ringF s d (s 1 d / 60) 200 1 (s 1 d) = ringF s d (s 1 d / 60) (201 - t) t x) → ∀ ls : Array Slot, lv_has ls 5 [(0, .ref (a 1)), (1, .int (nI d)), (2, .int ((s 1 d) / 60)), (3, .int x), (4, .int (nI t))] → W p l e ({ frames := 1, cells := 0, slots := 0, locals := 23 } : Room) z m ([.ref (a 1), .int (nI d)] : List Value).toArray below meth c z.heap [] 0 0 (MQ below (vp_Si (fun r => r = ringF s d (s 1 d / 60) 200 1 (s 1 d))) ([.ref (a 1), .int (nI d)] : List Value).toArray z 0 0 (fun _ => False)) (F0 m 20 ls []) := by
    intro fu
    induction fu with
    | zero => intro t x hn ht hR; exact absurd hn (by omega)
    | succ fu ih20 =>
      intro t x hn ht hR ls hl
      refine lv_iload hx hb dX0_ticksToRing_20 (lv_at hl 4 rfl) ?_
      refine lv_sipush (v := 200) hx hb dX0_ticksToRing_22 (by decide) ?_
      refine lv_icmp_gt (tgt := 52) hx hb dX0_ticksToRing_25 (by decide) (fun c1 => ?_) (fun c1 => ?_)
      · skip
        have c1x := Int32.not_le.mpr c1
        have c1n := (nI_lt2 (p := 200) (q := t) rfl rfl (by omega) (by omega)).mp c1
        have c1n : 200 < t := c1n
        obtain rfl : t = 201 := by omega
        refine lv_iconst (v := (-1)) hx hb dX0_ticksToRing_52 (by decide) ?_
        exact ro_ir hx hb hr rfl hlocks (by rw [hR]; rfl) dX0_ticksToRing_53
      · skip
        have c1x := Int32.not_lt.mp c1
        have c1n := fun hq0 => c1 ((nI_lt2 (p := 200) (q := t) rfl rfl (by omega) (by omega)).mpr hq0)
        have c1n : ¬ (200 < t) := c1n
        refine lv_aload_n hx hb dX0_ticksToRing_28 rfl (lv_at hl 0 rfl) ?_
        refine lv_iload_n hx hb dX0_ticksToRing_29 rfl (lv_at hl 1 rfl) ?_
        refine lv_iload_n hx hb dX0_ticksToRing_30 rfl (lv_at hl 3 rfl) ?_
        refine ro_i (va_runV (As := [.int (nI d), .int x]) (rest := []) ⟨hx, hb, hml, hown, hts⟩ (m_X0_afterTick l D cI cS a s st pi mi po d (by omega) x) (cwV 2 hts (gV tw493 tw503 tw491 tw492 tw3) rfl rfl rfl (by decide +kernel) ⟨Nat.le_of_ble_eq_true rfl, Nat.le_of_ble_eq_true rfl⟩) (pvR 1 hK hP (by decide) xc1 rfl) rfl rfl hl.1 rfl (lv_room (Nat.le_of_ble_eq_true rfl)) dX0_ticksToRing_31 ⟨Nat.le_of_ble_eq_true rfl, Nat.le_of_ble_eq_true rfl⟩) (fun r3 hr2 => ?_)
        subst hr2
        refine lv_istore_n (lv' := [(3, .int (aftI s d x)), (0, .ref (a 1)), (1, .int (nI d)), (2, .int ((s 1 d) / 60)), (4, .int (nI t))]) hx hb dX0_ticksToRing_34 rfl hl (by decide) rfl (fun ls hl => ?_)
        refine lv_iload_n hx hb dX0_ticksToRing_35 rfl (lv_at hl 0 rfl) ?_
        refine lv_bipush (v := 60) hx hb dX0_ticksToRing_36 (by decide) ?_
        refine lv_idiv hx hb dX0_ticksToRing_38 (by decide) ?_
        refine lv_iload_n hx hb dX0_ticksToRing_39 rfl (lv_at hl 3 rfl) ?_
        refine lv_icmp_le (tgt := 46) hx hb dX0_ticksToRing_40 (by decide) (fun c5 => ?_) (fun c5 => ?_)
        · skip
          have c5x := Int32.not_lt.mpr c5
          refine lv_iinc (v := nI (t + 1)) (lv' := [(4, .int (nI (t + 1))), (3, .int (aftI s d x)), (0, .ref (a 1)), (1, .int (nI d)), (2, .int ((s 1 d) / 60))]) hx hb dX0_ticksToRing_46 hl (k := 4) rfl (nI_add t 1) (by decide) rfl (fun ls hl => ?_)
          refine lv_goto (tgt := 20) hx hb dX0_ticksToRing_49 (by decide) ?_
          exact ih20 (t + 1) (aftI s d x) (by omega) (⟨by omega, by omega⟩) (by rw [hR, show 201 - t = (201 - (t + 1)) + 1 by omega, ringF, if_neg c5x]) ls (lv_sub hl [2, 3, 4, 1, 0] rfl)
        · skip
          have c5x := Int32.not_le.mp c5
          refine lv_iload hx hb dX0_ticksToRing_43 (lv_at hl 4 rfl) ?_
          exact ro_ir hx hb hr rfl hlocks (by rw [hR, show 201 - t = (201 - (t + 1)) + 1 by omega, ringF, if_pos c5x]) dX0_ticksToRing_45
  exact loop20 (201 + 1) 1 (s 1 d) (by omega) (⟨by omega, by omega⟩) rfl ls (lv_sub hl [3, 4, 2, 1, 0] rfl)

set_option maxHeartbeats 4000000 in
set_option maxRecDepth 100000 in
theorem m_X5_lessen (l : Launch) (D : va_G) (cI cS : ClassId) (a : Nat → Nat) (s : St) (st : Nat → St) (pi : Nat → Nat) (mi po : St) (w : Nat) (hw : w < 7) (sz : Nat) : Met l yX5_lessen (.code yX5_lessen cX5_lessen 2 none :: wsA) ({ frames := 0, cells := 0, slots := 0, locals := 0 } : Room) (va_Pc [.ref (a 8), .int (nI w)] (PW D cI cS 113 a (exC cI cS a s st pi mi po) sz)) (va_Qv (fun (u : Unit) => True) (BW D 113 a (fun u => exC cI cS a (lessS s w) st pi mi po)) (AX 113 a sz)) 0 0 (AX 113 a sz) := by
  refine mgo (by decide) (Nat.le_of_ble_eq_true rfl) ?_
  intro p e z m below meth c hx hb hr hml hown hts hlocks hB ls hl
  obtain ⟨hsz, hP, hK, hE⟩ := hB
  subst hsz
  have hS : va_S (AX 113 a z.heap.size) z.heap z.heap [] := va_S.rf
  have hl : lv_has ls 2 [(0, .ref (a 8)), (1, .int (nI w))] := hl
  refine lv_aload_n hx hb dX5_lessen_0 rfl (lv_at hl 0 rfl) ?_
  refine g_get hx hb hts hown inA5 hK hP 8 (by decide) xc8 rfl 0 (by decide) tw71 rfl (v := .ref (a 9)) rfl dX5_lessen_1 ?_
  refine lv_iload_n hx hb dX5_lessen_4 rfl (lv_at hl 1 rfl) ?_
  refine g_iald hx hb hK hP 9 (by decide) xc9 w rfl (by omega) (by decide) dX5_lessen_5 (v := s 7 w) rfl ?_
  refine lv_if_le (tgt := 29) hx hb dX5_lessen_6 (by decide) (fun c1 => ?_) (fun c1 => ?_)
  · skip
    have c1x := Int32.not_lt.mpr c1
    have hWs : (lessS s w) = s := by unfold lessS; rw [if_neg c1x]
    rw [← hWs] at hP
    exact rw_vr hx hb hr hlocks hS () hP trivial dX5_lessen_29
  · skip
    have c1x := Int32.not_le.mp c1
    refine lv_aload_n hx hb dX5_lessen_9 rfl (lv_at hl 0 rfl) ?_
    refine g_get hx hb hts hown inA5 hK hP 8 (by decide) xc8 rfl 0 (by decide) tw71 rfl (v := .ref (a 9)) rfl dX5_lessen_10 ?_
    refine lv_iload_n hx hb dX5_lessen_13 rfl (lv_at hl 1 rfl) ?_
    refine lv_dup2_11 hx hb dX5_lessen_14 rfl rfl ?_
    refine g_iald hx hb hK hP 9 (by decide) xc9 w rfl (by omega) (by decide) dX5_lessen_15 (v := s 7 w) rfl ?_
    refine lv_iconst (v := 1) hx hb dX5_lessen_16 (by decide) ?_
    refine lv_isub hx hb dX5_lessen_17 ?_
    refine g_iast hx hb hK hP hE hS 9 (by decide) xc9 w rfl (by omega) (by decide) dX5_lessen_18 (ex' := exC cI cS a (up2 s 7 w ((s 7 w) - 1)) st pi mi po) rfl (xo_row (by decide) (by decide)) (fun H locs hP hS => ?_)
    refine lv_aload_n hx hb dX5_lessen_19 rfl (lv_at hl 0 rfl) ?_
    refine g_get hx hb hts hown inA5 hK hP 8 (by decide) xc8 rfl 2 (by decide) tw76 rfl (v := .ref (a 11)) rfl dX5_lessen_20 ?_
    refine lv_iload_n hx hb dX5_lessen_23 rfl (lv_at hl 1 rfl) ?_
    refine lv_dup2_11 hx hb dX5_lessen_24 rfl rfl ?_
    refine g_iald hx hb hK hP 11 (by decide) xc11 w rfl (by omega) (by decide) dX5_lessen_25 (v := s 9 w) (by simp [up2, upR, upd]) ?_
    refine lv_iconst (v := 1) hx hb dX5_lessen_26 (by decide) ?_
    refine lv_iadd hx hb dX5_lessen_27 ?_
    refine g_iast hx hb hK hP hE hS 11 (by decide) xc11 w rfl (by omega) (by decide) dX5_lessen_28 (ex' := exC cI cS a (up2 (up2 s 7 w ((s 7 w) - 1)) 9 w ((s 9 w) + 1)) st pi mi po) rfl (xo_row (by decide) (by decide)) (fun H locs hP hS => ?_)
    have hWs : (lessS s w) = (up2 (up2 s 7 w ((s 7 w) - 1)) 9 w ((s 9 w) + 1)) := by unfold lessS; rw [if_pos c1x]
    rw [← hWs] at hP
    exact rw_vr hx hb hr hlocks hS () hP trivial dX5_lessen_29

set_option maxHeartbeats 4000000 in
set_option maxRecDepth 100000 in
theorem m_X4_wordOf (l : Launch) (D : va_G) (cI cS : ClassId) (a : Nat → Nat) (s : St) (st : Nat → St) (pi : Nat → Nat) (mi po : St) (w : Nat) (hw : w < 7) : Met l yX4_wordOf (.code yX4_wordOf cX4_wordOf 2 (some .int) :: wsA) ({ frames := 1, cells := 0, slots := 0, locals := 23 } : Room) (va_Pc [.ref (a 0), .int (nI w)] (PR D cI cS 113 a (exC cI cS a s st pi mi po))) (vp_Si (fun r => r = wordA s w)) 0 0 (fun _ => False) := by
  refine mgo (by decide) (Nat.le_of_ble_eq_true rfl) ?_
  intro p e z m below meth c hx hb hr hml hown hts hlocks hB ls hl
  obtain ⟨hP, hK⟩ := hB
  have hl : lv_has ls 2 [(0, .ref (a 0)), (1, .int (nI w))] := hl
  refine lv_aload_n hx hb dX4_wordOf_0 rfl (lv_at hl 0 rfl) ?_
  refine g_get hx hb hts hown inA4 hK hP 0 (by decide) xc0 rfl 1 (by decide) tw87 rfl (v := .ref (a 8)) rfl dX4_wordOf_1 ?_
  refine lv_iload_n hx hb dX4_wordOf_4 rfl (lv_at hl 1 rfl) ?_
  refine lv_aload_n hx hb dX4_wordOf_5 rfl (lv_at hl 0 rfl) ?_
  refine g_get hx hb hts hown inA4 hK hP 0 (by decide) xc0 rfl 0 (by decide) tw85 rfl (v := .ref (a 1)) rfl dX4_wordOf_6 ?_
  refine g_getN hx hb hts hown inA0 hK hP 1 (by decide) xc1 rfl 1 (by decide) tn38 rfl (v := .ref (a 2)) rfl dX4_wordOf_9 ?_
  refine lv_iload_n hx hb dX4_wordOf_12 rfl (lv_at hl 1 rfl) ?_
  refine g_iald hx hb hK hP 2 (by decide) xc2 w rfl (by omega) (by decide) dX4_wordOf_13 (v := s 1 w) rfl ?_
  refine ro_i (va_runV (As := [.int (nI w), .int (s 1 w)]) (rest := []) ⟨hx, hb, hml, hown, hts⟩ (m_X5_wordFor l D cI cS a s st pi mi po w (by omega) (s 1 w)) (cwV 2 hts (gV tw287 tw284 tw285 tw286 tw4) rfl rfl rfl (by decide +kernel) ⟨Nat.le_of_ble_eq_true rfl, Nat.le_of_ble_eq_true rfl⟩) (pvR 8 hK hP (by decide) xc8 rfl) rfl rfl hl.1 rfl (lv_room (Nat.le_of_ble_eq_true rfl)) dX4_wordOf_14 ⟨Nat.le_of_ble_eq_true rfl, Nat.le_of_ble_eq_true rfl⟩) (fun r2 hr1 => ?_)
  subst hr1
  exact ro_ir hx hb hr rfl hlocks rfl dX4_wordOf_17

set_option maxHeartbeats 4000000 in
set_option maxRecDepth 100000 in
theorem m_X4_hear (l : Launch) (D : va_G) (cI cS : ClassId) (a : Nat → Nat) (s : St) (st : Nat → St) (pi : Nat → Nat) (mi po : St) (x : Int32) (sz : Nat) : Met l yX4_hear (.code yX4_hear cX4_hear 2 none :: wsA) ({ frames := 0, cells := 0, slots := 0, locals := 0 } : Room) (va_Pc [.ref (a 0), .int x] (PW D cI cS 113 a (exC cI cS a s st pi mi po) sz)) (va_Qv (fun (u : Unit) => True) (BW D 113 a (fun u => exC cI cS a (hearS s x) st pi mi po)) (AX 113 a sz)) 0 0 (AX 113 a sz) := by
  refine mgo (by decide) (Nat.le_of_ble_eq_true rfl) ?_
  intro p e z m below meth c hx hb hr hml hown hts hlocks hB ls hl
  obtain ⟨hsz, hP, hK, hE⟩ := hB
  subst hsz
  have hS : va_S (AX 113 a z.heap.size) z.heap z.heap [] := va_S.rf
  have hl : lv_has ls 2 [(0, .ref (a 0)), (1, .int x)] := hl
  refine lv_aload_n hx hb dX4_hear_0 rfl (lv_at hl 0 rfl) ?_
  refine lv_dup hx hb dX4_hear_1 rfl ?_
  refine g_get hx hb hts hown inA4 hK hP 0 (by decide) xc0 rfl 4 (by decide) tw94 rfl (v := .int (s 0 2)) rfl dX4_hear_2 ?_
  refine lv_iconst (v := 1) hx hb dX4_hear_5 (by decide) ?_
  refine lv_iadd hx hb dX4_hear_6 ?_
  refine g_put hx hb hts hown inA4 tyX4 tyX4_ok nmX4 hK hP hE hS 0 (by decide) xc0 rfl 4 (by decide) tw94 rfl rfl (ty := .int) (by decide +kernel) rfl rfl (Nat.le_of_ble_eq_true rfl) dX4_hear_7 (ex' := exC cI cS a (up2 s 0 2 ((s 0 2) + 1)) st pi mi po) rfl (xo_sc (by decide)) (fun H locs hP hS => ?_)
  refine lv_iload_n hx hb dX4_hear_10 rfl (lv_at hl 1 rfl) ?_
  refine lv_aload_n hx hb dX4_hear_11 rfl (lv_at hl 0 rfl) ?_
  refine g_get hx hb hts hown inA4 hK hP 0 (by decide) xc0 rfl 3 (by decide) tw92 rfl (v := .int (s 0 1)) rfl dX4_hear_12 ?_
  refine lv_icmp_le (tgt := 26) hx hb dX4_hear_15 (by decide) (fun c1 => ?_) (fun c1 => ?_)
  · skip
    have c1x := Int32.not_lt.mpr c1
    refine lv_aload_n hx hb dX4_hear_26 rfl (lv_at hl 0 rfl) ?_
    refine lv_dup hx hb dX4_hear_27 rfl ?_
    refine g_get hx hb hts hown inA4 hK hP 0 (by decide) xc0 rfl 5 (by decide) tw96 rfl (v := .int (s 0 3)) rfl dX4_hear_28 ?_
    refine lv_iconst (v := 1) hx hb dX4_hear_31 (by decide) ?_
    refine lv_iadd hx hb dX4_hear_32 ?_
    refine g_put hx hb hts hown inA4 tyX4 tyX4_ok nmX4 hK hP hE hS 0 (by decide) xc0 rfl 5 (by decide) tw96 rfl rfl (ty := .int) (by decide +kernel) rfl rfl (Nat.le_of_ble_eq_true rfl) dX4_hear_33 (ex' := exC cI cS a (up2 (up2 s 0 2 ((s 0 2) + 1)) 0 3 ((s 0 3) + 1)) st pi mi po) rfl (xo_sc (by decide)) (fun H locs hP hS => ?_)
    have hWs : (hearS s x) = (up2 (up2 s 0 2 ((s 0 2) + 1)) 0 3 ((s 0 3) + 1)) := by unfold hearS; rw [if_neg c1x]
    rw [← hWs] at hP
    exact rw_vr hx hb hr hlocks hS () hP trivial dX4_hear_36
  · skip
    have c1x := Int32.not_le.mp c1
    refine lv_aload_n hx hb dX4_hear_18 rfl (lv_at hl 0 rfl) ?_
    refine lv_iload_n hx hb dX4_hear_19 rfl (lv_at hl 1 rfl) ?_
    refine g_put hx hb hts hown inA4 tyX4 tyX4_ok nmX4 hK hP hE hS 0 (by decide) xc0 rfl 3 (by decide) tw92 rfl rfl (ty := .int) (by decide +kernel) rfl rfl (Nat.le_of_ble_eq_true rfl) dX4_hear_20 (ex' := exC cI cS a (up2 (up2 s 0 2 ((s 0 2) + 1)) 0 1 x) st pi mi po) rfl (xo_sc (by decide)) (fun H locs hP hS => ?_)
    refine lv_goto (tgt := 36) hx hb dX4_hear_23 (by decide) ?_
    have hWs : (hearS s x) = (up2 (up2 s 0 2 ((s 0 2) + 1)) 0 1 x) := by unfold hearS; rw [if_pos c1x]
    rw [← hWs] at hP
    exact rw_vr hx hb hr hlocks hS () hP trivial dX4_hear_36

set_option maxHeartbeats 4000000 in
set_option maxRecDepth 100000 in
theorem m_X4_wordsQuarrel (l : Launch) (D : va_G) (cI cS : ClassId) (a : Nat → Nat) (s : St) (st : Nat → St) (pi : Nat → Nat) (mi po : St) (x y : Int32) : Met l yX4_wordsQuarrel (.code yX4_wordsQuarrel cX4_wordsQuarrel 3 (some .boolean) :: wsA) ({ frames := 1, cells := 0, slots := 0, locals := 21 } : Room) (va_Pc [.ref (a 0), .int x, .int y] (PR D cI cS 113 a (exC cI cS a s st pi mi po))) (vp_Si (fun r => r = bI (wqB s x y))) 0 0 (fun _ => False) := by
  refine mgo (by decide) (Nat.le_of_ble_eq_true rfl) ?_
  intro p e z m below meth c hx hb hr hml hown hts hlocks hB ls hl
  obtain ⟨hP, hK⟩ := hB
  have hl : lv_has ls 3 [(0, .ref (a 0)), (1, .int x), (2, .int y)] := hl
  refine lv_iload_n hx hb dX4_wordsQuarrel_0 rfl (lv_at hl 1 rfl) ?_
  refine lv_iload_n hx hb dX4_wordsQuarrel_1 rfl (lv_at hl 2 rfl) ?_
  refine ro_i (va_runSN (As := [.int x, .int y]) (rest := []) ⟨hx, hb, hml, hown, hts⟩ (m_X6_distance l x y) ⟨va_cnB 2 hts (gA tw218) rfl rfl rfl (hK.2 _ tn216) (hts _ tw1) (by decide +kernel) ⟨Nat.le_of_ble_eq_true rfl, Nat.le_of_ble_eq_true rfl⟩, hts _ tw217, trivial⟩ ps0 rfl rfl hl.1 rfl (lv_room (Nat.le_of_ble_eq_true rfl)) dX4_wordsQuarrel_2 ⟨Nat.le_of_ble_eq_true rfl, Nat.le_of_ble_eq_true rfl⟩) (fun r2 hr1 => ?_)
  subst hr1
  refine lv_aload_n hx hb dX4_wordsQuarrel_5 rfl (lv_at hl 0 rfl) ?_
  refine g_get hx hb hts hown inA4 hK hP 0 (by decide) xc0 rfl 2 (by decide) tw90 rfl (v := .ref (a 12)) rfl dX4_wordsQuarrel_6 ?_
  refine lv_iconst (v := 0) hx hb dX4_wordsQuarrel_9 (by decide) ?_
  refine g_iald hx hb hK hP 12 (by decide) xc12 0 rfl (by omega) (by decide) dX4_wordsQuarrel_10 (v := s 10 0) rfl ?_
  refine lv_icmp_le (tgt := 18) hx hb dX4_wordsQuarrel_11 (by decide) (fun c4 => ?_) (fun c4 => ?_)
  · skip
    have c4x := Int32.not_lt.mpr c4
    refine lv_iconst (v := 0) hx hb dX4_wordsQuarrel_18 (by decide) ?_
    exact ro_ir hx hb hr rfl hlocks (bI_f (by first | assumption | simp [wqB, c4, c4x])).symm dX4_wordsQuarrel_19
  · skip
    have c4x := Int32.not_le.mp c4
    refine lv_iconst (v := 1) hx hb dX4_wordsQuarrel_14 (by decide) ?_
    refine lv_goto (tgt := 19) hx hb dX4_wordsQuarrel_15 (by decide) ?_
    exact ro_ir hx hb hr rfl hlocks (bI_t (by first | assumption | simp [wqB, c4, c4x])).symm dX4_wordsQuarrel_19

set_option maxHeartbeats 4000000 in
set_option maxRecDepth 100000 in
theorem m_X4_quarrelsBehind (l : Launch) (D : va_G) (cI cS : ClassId) (a : Nat → Nat) (s : St) (st : Nat → St) (pi : Nat → Nat) (mi po : St) (d : Nat) (hd : d < 7) : Met l yX4_quarrelsBehind (.code yX4_quarrelsBehind cX4_quarrelsBehind 2 (some .boolean) :: wsA) ({ frames := 2, cells := 0, slots := 0, locals := 44 } : Room) (va_Pc [.ref (a 0), .int (nI d)] (PR D cI cS 113 a (exC cI cS a s st pi mi po))) (vp_Si (fun r => r = bI (quarB s d))) 0 0 (fun _ => False) := by
  refine mgo (by decide) (Nat.le_of_ble_eq_true rfl) ?_
  intro p e z m below meth c hx hb hr hml hown hts hlocks hB ls hl
  obtain ⟨hP, hK⟩ := hB
  have hl : lv_has ls 2 [(0, .ref (a 0)), (1, .int (nI d))] := hl
  refine lv_aload_n hx hb dX4_quarrelsBehind_0 rfl (lv_at hl 0 rfl) ?_
  refine lv_aload_n hx hb dX4_quarrelsBehind_1 rfl (lv_at hl 0 rfl) ?_
  refine lv_iload_n hx hb dX4_quarrelsBehind_2 rfl (lv_at hl 1 rfl) ?_
  refine ro_i (va_runV (As := [.int (nI d)]) (rest := [.ref (a 0)]) ⟨hx, hb, hml, hown, hts⟩ (m_X4_wordOf l D cI cS a s st pi mi po d (by omega)) (cwV 1 hts (gV tw283 tw429 tw281 tw282 tw2) rfl rfl rfl (by decide +kernel) ⟨Nat.le_of_ble_eq_true rfl, Nat.le_of_ble_eq_true rfl⟩) (pvR 0 hK hP (by decide) xc0 rfl) rfl rfl hl.1 rfl (lv_room (Nat.le_of_ble_eq_true rfl)) dX4_quarrelsBehind_3 ⟨Nat.le_of_ble_eq_true rfl, Nat.le_of_ble_eq_true rfl⟩) (fun r2 hr1 => ?_)
  subst hr1
  refine lv_aload_n hx hb dX4_quarrelsBehind_6 rfl (lv_at hl 0 rfl) ?_
  refine lv_iload_n hx hb dX4_quarrelsBehind_7 rfl (lv_at hl 1 rfl) ?_
  refine ro_i (va_runSN (As := [.int (nI d)]) (rest := [.ref (a 0), .int (wordA s d), .ref (a 0)]) ⟨hx, hb, hml, hown, hts⟩ (m_X6_dialBehind l d (by omega)) ⟨va_cnB 1 hts (gA tw432) rfl rfl rfl (hK.2 _ tn430) (hts _ tw1) (by decide +kernel) ⟨Nat.le_of_ble_eq_true rfl, Nat.le_of_ble_eq_true rfl⟩, hts _ tw431, trivial⟩ ps0 rfl rfl hl.1 rfl (lv_room (Nat.le_of_ble_eq_true rfl)) dX4_quarrelsBehind_8 ⟨Nat.le_of_ble_eq_true rfl, Nat.le_of_ble_eq_true rfl⟩) (fun r5 hr4 => ?_)
  subst hr4
  have hbd := behN_lt (d := d)
  refine ro_i (va_runV (As := [.int (nI (behN d))]) (rest := [.int (wordA s d), .ref (a 0)]) ⟨hx, hb, hml, hown, hts⟩ (m_X4_wordOf l D cI cS a s st pi mi po (behN d) (by omega)) (cwV 1 hts (gV tw283 tw429 tw281 tw282 tw2) rfl rfl rfl (by decide +kernel) ⟨Nat.le_of_ble_eq_true rfl, Nat.le_of_ble_eq_true rfl⟩) (pvR 0 hK hP (by decide) xc0 rfl) rfl rfl hl.1 rfl (lv_room (Nat.le_of_ble_eq_true rfl)) dX4_quarrelsBehind_11 ⟨Nat.le_of_ble_eq_true rfl, Nat.le_of_ble_eq_true rfl⟩) (fun r8 hr7 => ?_)
  subst hr7
  refine ro_i (va_runV (As := [.int (wordA s d), .int (wordA s (behN d))]) (rest := []) ⟨hx, hb, hml, hown, hts⟩ (m_X4_wordsQuarrel l D cI cS a s st pi mi po (wordA s d) (wordA s (behN d))) (cwV 2 hts (gV tw436 tw433 tw435 ts10 tw2) rfl rfl rfl (by decide +kernel) ⟨Nat.le_of_ble_eq_true rfl, Nat.le_of_ble_eq_true rfl⟩) (pvR 0 hK hP (by decide) xc0 rfl) rfl rfl hl.1 rfl (lv_room (Nat.le_of_ble_eq_true rfl)) dX4_quarrelsBehind_14 ⟨Nat.le_of_ble_eq_true rfl, Nat.le_of_ble_eq_true rfl⟩) (fun r11 hr10 => ?_)
  subst hr10
  refine lv_bI (fun c13 => ?_) (fun c13 => ?_)
  · skip
    exact ro_ir hx hb hr rfl hlocks (bI_t (by first | assumption | simp [quarB, c13])).symm dX4_quarrelsBehind_17
  · skip
    exact ro_ir hx hb hr rfl hlocks (bI_f (by first | assumption | simp [quarB, c13])).symm dX4_quarrelsBehind_17

set_option maxHeartbeats 4000000 in
set_option maxRecDepth 100000 in
theorem m_X4_quarrels (l : Launch) (D : va_G) (cI cS : ClassId) (a : Nat → Nat) (s : St) (st : Nat → St) (pi : Nat → Nat) (mi po : St) : Met l yX4_quarrels (.code yX4_quarrels cX4_quarrels 3 (some .int) :: wsA) ({ frames := 3, cells := 0, slots := 0, locals := 65 } : Room) (va_Pc [.ref (a 0)] (PR D cI cS 113 a (exC cI cS a s st pi mi po))) (vp_Si (fun r => r = quarC s 7)) 0 0 (fun _ => False) := by
  refine mgo (by decide) (Nat.le_of_ble_eq_true rfl) ?_
  intro p e z m below meth c hx hb hr hml hown hts hlocks hB ls hl
  obtain ⟨hP, hK⟩ := hB
  have hl : lv_has ls 3 [(0, .ref (a 0))] := hl
  refine lv_iconst (v := 0) hx hb dX4_quarrels_0 (by decide) ?_
  refine lv_istore_n (lv' := [(1, .int 0), (0, .ref (a 0))]) hx hb dX4_quarrels_1 rfl hl (by decide) rfl (fun ls hl => ?_)
  refine lv_iconst (v := 0) hx hb dX4_quarrels_2 (by decide) ?_
  refine lv_istore_n (lv' := [(2, .int 0), (1, .int 0), (0, .ref (a 0))]) hx hb dX4_quarrels_3 rfl hl (by decide) rfl (fun ls hl => ?_)
  have loop4 : ∀ (fu : Nat) (j : Nat) (x : Int32), 7 + 1 ≤ j + fu → (j ≤ 7) → (x = quarC s j) → ∀ ls : Array Slot, lv_has ls 3 [(0, .ref (a 0)), (1, .int x), (2, .int (nI j))] → W p l e ({ frames := 3, cells := 0, slots := 0, locals := 65 } : Room) z m ([.ref (a 0)] : List Value).toArray below meth c z.heap [] 0 0 (MQ below (vp_Si (fun r => r = quarC s 7)) ([.ref (a 0)] : List Value).toArray z 0 0 (fun _ => False)) (F0 m 4 ls []) := by
    intro fu
    induction fu with
    | zero => intro j x hn hj hx1; exact absurd hn (by omega)
    | succ fu ih4 =>
      intro j x hn hj hx1 ls hl
      refine lv_iload_n hx hb dX4_quarrels_4 rfl (lv_at hl 2 rfl) ?_
      refine lv_bipush (v := 7) hx hb dX4_quarrels_5 (by decide) ?_
      refine lv_icmp_ge (tgt := 32) hx hb dX4_quarrels_7 (by decide) (fun c1 => ?_) (fun c1 => ?_)
      · skip
        have c1x := Int32.not_lt.mpr c1
        have c1n := (nI_le2 (p := 7) (q := j) rfl rfl (by omega) (by omega)).mp c1
        have c1n : 7 ≤ j := c1n
        obtain rfl : j = 7 := by omega
        refine lv_iload_n hx hb dX4_quarrels_32 rfl (lv_at hl 1 rfl) ?_
        exact ro_ir hx hb hr rfl hlocks hx1 dX4_quarrels_33
      · skip
        have c1x := Int32.not_le.mp c1
        have c1n := fun hq0 => c1 ((nI_le2 (p := 7) (q := j) rfl rfl (by omega) (by omega)).mpr hq0)
        have c1n : ¬ (7 ≤ j) := c1n
        refine lv_iload_n hx hb dX4_quarrels_10 rfl (lv_at hl 1 rfl) ?_
        refine lv_aload_n hx hb dX4_quarrels_11 rfl (lv_at hl 0 rfl) ?_
        refine lv_iload_n hx hb dX4_quarrels_12 rfl (lv_at hl 2 rfl) ?_
        refine ro_i (va_runV (As := [.int (nI j)]) (rest := [.int x]) ⟨hx, hb, hml, hown, hts⟩ (m_X4_quarrelsBehind l D cI cS a s st pi mi po j (by omega)) (cwV 1 hts (gV tw428 tw425 tw426 tw427 tw2) rfl rfl rfl (by decide +kernel) ⟨Nat.le_of_ble_eq_true rfl, Nat.le_of_ble_eq_true rfl⟩) (pvR 0 hK hP (by decide) xc0 rfl) rfl rfl hl.1 rfl (lv_room (Nat.le_of_ble_eq_true rfl)) dX4_quarrels_13 ⟨Nat.le_of_ble_eq_true rfl, Nat.le_of_ble_eq_true rfl⟩) (fun r3 hr2 => ?_)
        subst hr2
        refine lv_bI (fun c5 => ?_) (fun c5 => ?_)
        · skip
          refine lv_if_eq (tgt := 23) hx hb dX4_quarrels_16 (by decide) (fun h0 => absurd h0 (by decide)) (fun _ => ?_)
          refine lv_iconst (v := 1) hx hb dX4_quarrels_19 (by decide) ?_
          refine lv_goto (tgt := 24) hx hb dX4_quarrels_20 (by decide) ?_
          refine lv_iadd hx hb dX4_quarrels_24 ?_
          refine lv_istore_n (lv' := [(1, .int (x + 1)), (0, .ref (a 0)), (2, .int (nI j))]) hx hb dX4_quarrels_25 rfl hl (by decide) rfl (fun ls hl => ?_)
          refine lv_iinc (v := nI (j + 1)) (lv' := [(2, .int (nI (j + 1))), (1, .int (x + 1)), (0, .ref (a 0))]) hx hb dX4_quarrels_26 hl (k := 2) rfl (nI_add j 1) (by decide) rfl (fun ls hl => ?_)
          refine lv_goto (tgt := 4) hx hb dX4_quarrels_29 (by decide) ?_
          exact ih4 (j + 1) (x + 1) (by omega) (by omega) (by simp [quarC, hx1, c1, c1x, c5]) ls (lv_sub hl [2, 1, 0] rfl)
        · skip
          refine lv_if_eq (tgt := 23) hx hb dX4_quarrels_16 (by decide) (fun _ => ?_) (fun h0 => absurd (by decide) h0)
          refine lv_iconst (v := 0) hx hb dX4_quarrels_23 (by decide) ?_
          refine lv_iadd hx hb dX4_quarrels_24 ?_
          refine lv_istore_n (lv' := [(1, .int (x + 0)), (0, .ref (a 0)), (2, .int (nI j))]) hx hb dX4_quarrels_25 rfl hl (by decide) rfl (fun ls hl => ?_)
          refine lv_iinc (v := nI (j + 1)) (lv' := [(2, .int (nI (j + 1))), (1, .int (x + 0)), (0, .ref (a 0))]) hx hb dX4_quarrels_26 hl (k := 2) rfl (nI_add j 1) (by decide) rfl (fun ls hl => ?_)
          refine lv_goto (tgt := 4) hx hb dX4_quarrels_29 (by decide) ?_
          exact ih4 (j + 1) (x + 0) (by omega) (by omega) (by simp [quarC, hx1, c1, c1x, c5]) ls (lv_sub hl [2, 1, 0] rfl)
  exact loop4 (7 + 1) 0 0 (by omega) (by omega) rfl ls (lv_sub hl [2, 1, 0] rfl)

set_option maxHeartbeats 4000000 in
set_option maxRecDepth 100000 in
theorem m_X4_isOff (l : Launch) (D : va_G) (cI cS : ClassId) (a : Nat → Nat) (s : St) (st : Nat → St) (pi : Nat → Nat) (mi po : St) (d : Nat) (hd : d < 7) : Met l yX4_isOff (.code yX4_isOff cX4_isOff 2 (some .boolean) :: wsA) ({ frames := 1, cells := 0, slots := 0, locals := 21 } : Room) (va_Pc [.ref (a 0), .int (nI d)] (PR D cI cS 113 a (exC cI cS a s st pi mi po))) (vp_Si (fun r => r = bI (offB s d))) 0 0 (fun _ => False) := by
  refine mgo (by decide) (Nat.le_of_ble_eq_true rfl) ?_
  intro p e z m below meth c hx hb hr hml hown hts hlocks hB ls hl
  obtain ⟨hP, hK⟩ := hB
  have hl : lv_has ls 2 [(0, .ref (a 0)), (1, .int (nI d))] := hl
  refine lv_aload_n hx hb dX4_isOff_0 rfl (lv_at hl 0 rfl) ?_
  refine g_get hx hb hts hown inA4 hK hP 0 (by decide) xc0 rfl 0 (by decide) tw85 rfl (v := .ref (a 1)) rfl dX4_isOff_1 ?_
  refine g_getN hx hb hts hown inA0 hK hP 1 (by decide) xc1 rfl 1 (by decide) tn38 rfl (v := .ref (a 2)) rfl dX4_isOff_4 ?_
  refine lv_iload_n hx hb dX4_isOff_7 rfl (lv_at hl 1 rfl) ?_
  refine g_iald hx hb hK hP 2 (by decide) xc2 d rfl (by omega) (by decide) dX4_isOff_8 (v := s 1 d) rfl ?_
  refine lv_aload_n hx hb dX4_isOff_9 rfl (lv_at hl 0 rfl) ?_
  refine g_get hx hb hts hown inA4 hK hP 0 (by decide) xc0 rfl 3 (by decide) tw92 rfl (v := .int (s 0 1)) rfl dX4_isOff_10 ?_
  refine ro_i (va_runSN (As := [.int (s 1 d), .int (s 0 1)]) (rest := []) ⟨hx, hb, hml, hown, hts⟩ (m_X6_distance l (s 1 d) (s 0 1)) ⟨va_cnB 2 hts (gA tw218) rfl rfl rfl (hK.2 _ tn216) (hts _ tw1) (by decide +kernel) ⟨Nat.le_of_ble_eq_true rfl, Nat.le_of_ble_eq_true rfl⟩, hts _ tw217, trivial⟩ ps0 rfl rfl hl.1 rfl (lv_room (Nat.le_of_ble_eq_true rfl)) dX4_isOff_13 ⟨Nat.le_of_ble_eq_true rfl, Nat.le_of_ble_eq_true rfl⟩) (fun r2 hr1 => ?_)
  subst hr1
  refine lv_aload_n hx hb dX4_isOff_16 rfl (lv_at hl 0 rfl) ?_
  refine g_get hx hb hts hown inA4 hK hP 0 (by decide) xc0 rfl 2 (by decide) tw90 rfl (v := .ref (a 12)) rfl dX4_isOff_17 ?_
  refine lv_iconst (v := 1) hx hb dX4_isOff_20 (by decide) ?_
  refine g_iald hx hb hK hP 12 (by decide) xc12 1 rfl (by omega) (by decide) dX4_isOff_21 (v := s 10 1) rfl ?_
  refine lv_icmp_le (tgt := 29) hx hb dX4_isOff_22 (by decide) (fun c4 => ?_) (fun c4 => ?_)
  · skip
    have c4x := Int32.not_lt.mpr c4
    refine lv_iconst (v := 0) hx hb dX4_isOff_29 (by decide) ?_
    exact ro_ir hx hb hr rfl hlocks (bI_f (by first | assumption | simp [offB, c4, c4x])).symm dX4_isOff_30
  · skip
    have c4x := Int32.not_le.mp c4
    refine lv_iconst (v := 1) hx hb dX4_isOff_25 (by decide) ?_
    refine lv_goto (tgt := 30) hx hb dX4_isOff_26 (by decide) ?_
    exact ro_ir hx hb hr rfl hlocks (bI_t (by first | assumption | simp [offB, c4, c4x])).symm dX4_isOff_30

set_option maxHeartbeats 4000000 in
set_option maxRecDepth 100000 in
theorem m_X4_dialsOff (l : Launch) (D : va_G) (cI cS : ClassId) (a : Nat → Nat) (s : St) (st : Nat → St) (pi : Nat → Nat) (mi po : St) : Met l yX4_dialsOff (.code yX4_dialsOff cX4_dialsOff 3 (some .int) :: wsA) ({ frames := 2, cells := 0, slots := 0, locals := 42 } : Room) (va_Pc [.ref (a 0)] (PR D cI cS 113 a (exC cI cS a s st pi mi po))) (vp_Si (fun r => r = offC s 7)) 0 0 (fun _ => False) := by
  refine mgo (by decide) (Nat.le_of_ble_eq_true rfl) ?_
  intro p e z m below meth c hx hb hr hml hown hts hlocks hB ls hl
  obtain ⟨hP, hK⟩ := hB
  have hl : lv_has ls 3 [(0, .ref (a 0))] := hl
  refine lv_iconst (v := 0) hx hb dX4_dialsOff_0 (by decide) ?_
  refine lv_istore_n (lv' := [(1, .int 0), (0, .ref (a 0))]) hx hb dX4_dialsOff_1 rfl hl (by decide) rfl (fun ls hl => ?_)
  refine lv_iconst (v := 0) hx hb dX4_dialsOff_2 (by decide) ?_
  refine lv_istore_n (lv' := [(2, .int 0), (1, .int 0), (0, .ref (a 0))]) hx hb dX4_dialsOff_3 rfl hl (by decide) rfl (fun ls hl => ?_)
  have loop4 : ∀ (fu : Nat) (j : Nat) (x : Int32), 7 + 1 ≤ j + fu → (j ≤ 7) → (x = offC s j) → ∀ ls : Array Slot, lv_has ls 3 [(0, .ref (a 0)), (1, .int x), (2, .int (nI j))] → W p l e ({ frames := 2, cells := 0, slots := 0, locals := 42 } : Room) z m ([.ref (a 0)] : List Value).toArray below meth c z.heap [] 0 0 (MQ below (vp_Si (fun r => r = offC s 7)) ([.ref (a 0)] : List Value).toArray z 0 0 (fun _ => False)) (F0 m 4 ls []) := by
    intro fu
    induction fu with
    | zero => intro j x hn hj hx1; exact absurd hn (by omega)
    | succ fu ih4 =>
      intro j x hn hj hx1 ls hl
      refine lv_iload_n hx hb dX4_dialsOff_4 rfl (lv_at hl 2 rfl) ?_
      refine lv_bipush (v := 7) hx hb dX4_dialsOff_5 (by decide) ?_
      refine lv_icmp_ge (tgt := 32) hx hb dX4_dialsOff_7 (by decide) (fun c1 => ?_) (fun c1 => ?_)
      · skip
        have c1x := Int32.not_lt.mpr c1
        have c1n := (nI_le2 (p := 7) (q := j) rfl rfl (by omega) (by omega)).mp c1
        have c1n : 7 ≤ j := c1n
        obtain rfl : j = 7 := by omega
        refine lv_iload_n hx hb dX4_dialsOff_32 rfl (lv_at hl 1 rfl) ?_
        exact ro_ir hx hb hr rfl hlocks hx1 dX4_dialsOff_33
      · skip
        have c1x := Int32.not_le.mp c1
        have c1n := fun hq0 => c1 ((nI_le2 (p := 7) (q := j) rfl rfl (by omega) (by omega)).mpr hq0)
        have c1n : ¬ (7 ≤ j) := c1n
        refine lv_iload_n hx hb dX4_dialsOff_10 rfl (lv_at hl 1 rfl) ?_
        refine lv_aload_n hx hb dX4_dialsOff_11 rfl (lv_at hl 0 rfl) ?_
        refine lv_iload_n hx hb dX4_dialsOff_12 rfl (lv_at hl 2 rfl) ?_
        refine ro_i (va_runV (As := [.int (nI j)]) (rest := [.int x]) ⟨hx, hb, hml, hown, hts⟩ (m_X4_isOff l D cI cS a s st pi mi po j (by omega)) (cwV 1 hts (gV tw215 tw212 tw213 tw214 tw2) rfl rfl rfl (by decide +kernel) ⟨Nat.le_of_ble_eq_true rfl, Nat.le_of_ble_eq_true rfl⟩) (pvR 0 hK hP (by decide) xc0 rfl) rfl rfl hl.1 rfl (lv_room (Nat.le_of_ble_eq_true rfl)) dX4_dialsOff_13 ⟨Nat.le_of_ble_eq_true rfl, Nat.le_of_ble_eq_true rfl⟩) (fun r3 hr2 => ?_)
        subst hr2
        refine lv_bI (fun c5 => ?_) (fun c5 => ?_)
        · skip
          refine lv_if_eq (tgt := 23) hx hb dX4_dialsOff_16 (by decide) (fun h0 => absurd h0 (by decide)) (fun _ => ?_)
          refine lv_iconst (v := 1) hx hb dX4_dialsOff_19 (by decide) ?_
          refine lv_goto (tgt := 24) hx hb dX4_dialsOff_20 (by decide) ?_
          refine lv_iadd hx hb dX4_dialsOff_24 ?_
          refine lv_istore_n (lv' := [(1, .int (x + 1)), (0, .ref (a 0)), (2, .int (nI j))]) hx hb dX4_dialsOff_25 rfl hl (by decide) rfl (fun ls hl => ?_)
          refine lv_iinc (v := nI (j + 1)) (lv' := [(2, .int (nI (j + 1))), (1, .int (x + 1)), (0, .ref (a 0))]) hx hb dX4_dialsOff_26 hl (k := 2) rfl (nI_add j 1) (by decide) rfl (fun ls hl => ?_)
          refine lv_goto (tgt := 4) hx hb dX4_dialsOff_29 (by decide) ?_
          exact ih4 (j + 1) (x + 1) (by omega) (by omega) (by simp [offC, hx1, c1, c1x, c5]) ls (lv_sub hl [2, 1, 0] rfl)
        · skip
          refine lv_if_eq (tgt := 23) hx hb dX4_dialsOff_16 (by decide) (fun _ => ?_) (fun h0 => absurd (by decide) h0)
          refine lv_iconst (v := 0) hx hb dX4_dialsOff_23 (by decide) ?_
          refine lv_iadd hx hb dX4_dialsOff_24 ?_
          refine lv_istore_n (lv' := [(1, .int (x + 0)), (0, .ref (a 0)), (2, .int (nI j))]) hx hb dX4_dialsOff_25 rfl hl (by decide) rfl (fun ls hl => ?_)
          refine lv_iinc (v := nI (j + 1)) (lv' := [(2, .int (nI (j + 1))), (1, .int (x + 0)), (0, .ref (a 0))]) hx hb dX4_dialsOff_26 hl (k := 2) rfl (nI_add j 1) (by decide) rfl (fun ls hl => ?_)
          refine lv_goto (tgt := 4) hx hb dX4_dialsOff_29 (by decide) ?_
          exact ih4 (j + 1) (x + 0) (by omega) (by omega) (by simp [offC, hx1, c1, c1x, c5]) ls (lv_sub hl [2, 1, 0] rfl)
  exact loop4 (7 + 1) 0 0 (by omega) (by omega) rfl ls (lv_sub hl [2, 1, 0] rfl)

set_option maxHeartbeats 4000000 in
set_option maxRecDepth 100000 in
theorem m_X4_nearestAllowed (l : Launch) (D : va_G) (cI cS : ClassId) (a : Nat → Nat) (s : St) (st : Nat → St) (pi : Nat → Nat) (mi po : St) (d : Nat) (hd : d < 7) : Met l yX4_nearestAllowed (.code yX4_nearestAllowed cX4_nearestAllowed 3 (some .int) :: wsA) ({ frames := 0, cells := 0, slots := 0, locals := 0 } : Room) (va_Pc [.ref (a 0), .int (nI d)] (PR D cI cS 113 a (exC cI cS a s st pi mi po))) (vp_Si (fun r => r = nearI s d)) 0 0 (fun _ => False) := by
  refine mgo (by decide) (Nat.le_of_ble_eq_true rfl) ?_
  intro p e z m below meth c hx hb hr hml hown hts hlocks hB ls hl
  obtain ⟨hP, hK⟩ := hB
  have hl : lv_has ls 3 [(0, .ref (a 0)), (1, .int (nI d))] := hl
  refine lv_aload_n hx hb dX4_nearestAllowed_0 rfl (lv_at hl 0 rfl) ?_
  refine g_get hx hb hts hown inA4 hK hP 0 (by decide) xc0 rfl 2 (by decide) tw90 rfl (v := .ref (a 12)) rfl dX4_nearestAllowed_1 ?_
  refine lv_iconst (v := 1) hx hb dX4_nearestAllowed_4 (by decide) ?_
  refine g_iald hx hb hK hP 12 (by decide) xc12 1 rfl (by omega) (by decide) dX4_nearestAllowed_5 (v := s 10 1) rfl ?_
  refine lv_istore_n (lv' := [(2, .int (s 10 1)), (0, .ref (a 0)), (1, .int (nI d))]) hx hb dX4_nearestAllowed_6 rfl hl (by decide) rfl (fun ls hl => ?_)
  refine lv_aload_n hx hb dX4_nearestAllowed_7 rfl (lv_at hl 1 rfl) ?_
  refine g_get hx hb hts hown inA4 hK hP 0 (by decide) xc0 rfl 0 (by decide) tw85 rfl (v := .ref (a 1)) rfl dX4_nearestAllowed_8 ?_
  refine g_getN hx hb hts hown inA0 hK hP 1 (by decide) xc1 rfl 1 (by decide) tn38 rfl (v := .ref (a 2)) rfl dX4_nearestAllowed_11 ?_
  refine lv_iload_n hx hb dX4_nearestAllowed_14 rfl (lv_at hl 2 rfl) ?_
  refine g_iald hx hb hK hP 2 (by decide) xc2 d rfl (by omega) (by decide) dX4_nearestAllowed_15 (v := s 1 d) rfl ?_
  refine lv_aload_n hx hb dX4_nearestAllowed_16 rfl (lv_at hl 1 rfl) ?_
  refine g_get hx hb hts hown inA4 hK hP 0 (by decide) xc0 rfl 3 (by decide) tw92 rfl (v := .int (s 0 1)) rfl dX4_nearestAllowed_17 ?_
  refine lv_icmp_ge (tgt := 32) hx hb dX4_nearestAllowed_20 (by decide) (fun c1 => ?_) (fun c1 => ?_)
  · skip
    have c1x := Int32.not_lt.mpr c1
    refine lv_aload_n hx hb dX4_nearestAllowed_32 rfl (lv_at hl 1 rfl) ?_
    refine g_get hx hb hts hown inA4 hK hP 0 (by decide) xc0 rfl 3 (by decide) tw92 rfl (v := .int (s 0 1)) rfl dX4_nearestAllowed_33 ?_
    refine lv_iload_n hx hb dX4_nearestAllowed_36 rfl (lv_at hl 0 rfl) ?_
    refine lv_iadd hx hb dX4_nearestAllowed_37 ?_
    exact ro_ir hx hb hr rfl hlocks (by simp [nearI, c1, c1x]) dX4_nearestAllowed_38
  · skip
    have c1x := Int32.not_le.mp c1
    refine lv_aload_n hx hb dX4_nearestAllowed_23 rfl (lv_at hl 1 rfl) ?_
    refine g_get hx hb hts hown inA4 hK hP 0 (by decide) xc0 rfl 3 (by decide) tw92 rfl (v := .int (s 0 1)) rfl dX4_nearestAllowed_24 ?_
    refine lv_iload_n hx hb dX4_nearestAllowed_27 rfl (lv_at hl 0 rfl) ?_
    refine lv_isub hx hb dX4_nearestAllowed_28 ?_
    refine lv_goto (tgt := 38) hx hb dX4_nearestAllowed_29 (by decide) ?_
    exact ro_ir hx hb hr rfl hlocks (by simp [nearI, c1, c1x]) dX4_nearestAllowed_38

set_option maxHeartbeats 4000000 in
set_option maxRecDepth 100000 in
theorem m_X4_correctDials (l : Launch) (D : va_G) (cI cS : ClassId) (a : Nat → Nat) (s : St) (st : Nat → St) (pi : Nat → Nat) (mi po : St) (sz : Nat) : Met l yX4_correctDials (.code yX4_correctDials cX4_correctDials 3 (some .int) :: wsA) ({ frames := 2, cells := 0, slots := 0, locals := 47 } : Room) (va_Pc [.ref (a 0)] (PW D cI cS 113 a (exC cI cS a s st pi mi po) sz)) (va_Qi (fun (r : Int32) (u : Unit) => r = corA 7 s) (BW D 113 a (fun u => exC cI cS a (corS 7 s) st pi mi po)) (AX 113 a sz)) 0 0 (AX 113 a sz) := by
  refine mgo (by decide) (Nat.le_of_ble_eq_true rfl) ?_
  intro p e z m below meth c hx hb hr hml hown hts hlocks hB ls hl
  obtain ⟨hsz, hP, hK, hE⟩ := hB
  subst hsz
  have hS : va_S (AX 113 a z.heap.size) z.heap z.heap [] := va_S.rf
  have hl : lv_has ls 3 [(0, .ref (a 0))] := hl
  refine lv_iconst (v := 0) hx hb dX4_correctDials_0 (by decide) ?_
  refine lv_istore_n (lv' := [(1, .int 0), (0, .ref (a 0))]) hx hb dX4_correctDials_1 rfl hl (by decide) rfl (fun ls hl => ?_)
  refine lv_iconst (v := 0) hx hb dX4_correctDials_2 (by decide) ?_
  refine lv_istore_n (lv' := [(2, .int 0), (1, .int 0), (0, .ref (a 0))]) hx hb dX4_correctDials_3 rfl hl (by decide) rfl (fun ls hl => ?_)
  have loop4 : ∀ (fu : Nat) (j : Nat) (x : Int32) (t : St), 7 + 1 ≤ j + fu → (j ≤ 7) → (x = corA j s) → (t = corS j s) → ∀ (H : Heap) (locs : List Loc), HP D 113 a (exC cI cS a t st pi mi po) H → va_S (AX 113 a z.heap.size) z.heap H locs → ∀ ls : Array Slot, lv_has ls 3 [(0, .ref (a 0)), (1, .int x), (2, .int (nI j))] → W p l e ({ frames := 2, cells := 0, slots := 0, locals := 47 } : Room) z m ([.ref (a 0)] : List Value).toArray below meth c H locs 0 0 (MQ below (va_Qi (fun (r : Int32) (u : Unit) => r = corA 7 s) (BW D 113 a (fun u => exC cI cS a (corS 7 s) st pi mi po)) (AX 113 a z.heap.size)) ([.ref (a 0)] : List Value).toArray z 0 0 (AX 113 a z.heap.size)) (F0 m 4 ls []) := by
    intro fu
    induction fu with
    | zero => intro j x t hn hj hx1 ht; exact absurd hn (by omega)
    | succ fu ih4 =>
      intro j x t hn hj hx1 ht H locs hP hS ls hl
      refine lv_iload_n hx hb dX4_correctDials_4 rfl (lv_at hl 2 rfl) ?_
      refine lv_bipush (v := 7) hx hb dX4_correctDials_5 (by decide) ?_
      refine lv_icmp_ge (tgt := 40) hx hb dX4_correctDials_7 (by decide) (fun c1 => ?_) (fun c1 => ?_)
      · skip
        have c1x := Int32.not_lt.mpr c1
        have c1n := (nI_le2 (p := 7) (q := j) rfl rfl (by omega) (by omega)).mp c1
        have c1n : 7 ≤ j := c1n
        obtain rfl : j = 7 := by omega
        refine lv_iload_n hx hb dX4_correctDials_40 rfl (lv_at hl 1 rfl) ?_
        have hWs : (corS 7 s) = t := by exact ht.symm
        rw [← hWs] at hP
        exact rw_ir hx hb hr rfl hlocks hS () hP hx1 dX4_correctDials_41
      · skip
        have c1x := Int32.not_le.mp c1
        have c1n := fun hq0 => c1 ((nI_le2 (p := 7) (q := j) rfl rfl (by omega) (by omega)).mpr hq0)
        have c1n : ¬ (7 ≤ j) := c1n
        refine lv_aload_n hx hb dX4_correctDials_10 rfl (lv_at hl 0 rfl) ?_
        refine lv_iload_n hx hb dX4_correctDials_11 rfl (lv_at hl 2 rfl) ?_
        refine ro_i (va_runV (As := [.int (nI j)]) (rest := []) ⟨hx, hb, hml, hown, hts⟩ (m_X4_isOff l D cI cS a t st pi mi po j (by omega)) (cwV 1 hts (gV tw215 tw212 tw213 tw214 tw2) rfl rfl rfl (by decide +kernel) ⟨Nat.le_of_ble_eq_true rfl, Nat.le_of_ble_eq_true rfl⟩) (pvR 0 hK hP (by decide) xc0 rfl) rfl rfl hl.1 rfl (lv_room (Nat.le_of_ble_eq_true rfl)) dX4_correctDials_12 ⟨Nat.le_of_ble_eq_true rfl, Nat.le_of_ble_eq_true rfl⟩) (fun r3 hr2 => ?_)
        subst hr2
        refine lv_bI (fun c5 => ?_) (fun c5 => ?_)
        · skip
          refine lv_if_eq (tgt := 34) hx hb dX4_correctDials_15 (by decide) (fun h0 => absurd h0 (by decide)) (fun _ => ?_)
          refine lv_iload_n hx hb dX4_correctDials_18 rfl (lv_at hl 1 rfl) ?_
          refine lv_aload_n hx hb dX4_correctDials_19 rfl (lv_at hl 0 rfl) ?_
          refine g_get hx hb hts hown inA4 hK hP 0 (by decide) xc0 rfl 0 (by decide) tw85 rfl (v := .ref (a 1)) rfl dX4_correctDials_20 ?_
          refine lv_iload_n hx hb dX4_correctDials_23 rfl (lv_at hl 2 rfl) ?_
          refine lv_aload_n hx hb dX4_correctDials_24 rfl (lv_at hl 0 rfl) ?_
          refine lv_iload_n hx hb dX4_correctDials_25 rfl (lv_at hl 2 rfl) ?_
          refine ro_i (va_runV (As := [.int (nI j)]) (rest := [.int (nI j), .ref (a 1), .int x]) ⟨hx, hb, hml, hown, hts⟩ (m_X4_nearestAllowed l D cI cS a t st pi mi po j (by omega)) (cwV 1 hts (gV tw222 tw219 tw221 ts1 tw2) rfl rfl rfl (by decide +kernel) ⟨Nat.le_of_ble_eq_true rfl, Nat.le_of_ble_eq_true rfl⟩) (pvR 0 hK hP (by decide) xc0 rfl) rfl rfl hl.1 rfl (lv_room (Nat.le_of_ble_eq_true rfl)) dX4_correctDials_26 ⟨Nat.le_of_ble_eq_true rfl, Nat.le_of_ble_eq_true rfl⟩) (fun r7 hr6 => ?_)
          subst hr6
          refine rw_i hS (va_runV (As := [.int (nI j), .int (nearI t j)]) (rest := [.int x]) ⟨hx, hb, hml, hown, hts⟩ (m_X0_moveTo l D cI cS a t st pi mi po j (by omega) (nearI t j) _) (cwV 2 hts (gV tw226 tw223 tw224 tw225 tw3) rfl rfl rfl (by decide +kernel) ⟨Nat.le_of_ble_eq_true rfl, Nat.le_of_ble_eq_true rfl⟩) (pvW 1 hK hP hE (by decide) xc1 rfl) rfl rfl hl.1 rfl (lv_room (Nat.le_of_ble_eq_true rfl)) dX4_correctDials_29 ⟨Nat.le_of_ble_eq_true rfl, Nat.le_of_ble_eq_true rfl⟩) (fun r10 u11 H locs hr9 hP hS => ?_)
          subst hr9
          refine lv_iadd hx hb dX4_correctDials_32 ?_
          refine lv_istore_n (lv' := [(1, .int (x + (mvR t j (nearI t j)))), (0, .ref (a 0)), (2, .int (nI j))]) hx hb dX4_correctDials_33 rfl hl (by decide) rfl (fun ls hl => ?_)
          refine lv_iinc (v := nI (j + 1)) (lv' := [(2, .int (nI (j + 1))), (1, .int (x + (mvR t j (nearI t j)))), (0, .ref (a 0))]) hx hb dX4_correctDials_34 hl (k := 2) rfl (nI_add j 1) (by decide) rfl (fun ls hl => ?_)
          refine lv_goto (tgt := 4) hx hb dX4_correctDials_37 (by decide) ?_
          exact ih4 (j + 1) (x + (mvR t j (nearI t j))) (mvS t j (nearI t j)) (by omega) (by omega) (by rw [corA, ← ht, ← hx1]; simp [c1, c1x, c5]) (by rw [corS, ← ht]; simp [c1, c1x, c5]) _ _ hP hS ls (lv_sub hl [2, 1, 0] rfl)
        · skip
          refine lv_if_eq (tgt := 34) hx hb dX4_correctDials_15 (by decide) (fun _ => ?_) (fun h0 => absurd (by decide) h0)
          refine lv_iinc (v := nI (j + 1)) (lv' := [(2, .int (nI (j + 1))), (0, .ref (a 0)), (1, .int x)]) hx hb dX4_correctDials_34 hl (k := 2) rfl (nI_add j 1) (by decide) rfl (fun ls hl => ?_)
          refine lv_goto (tgt := 4) hx hb dX4_correctDials_37 (by decide) ?_
          exact ih4 (j + 1) x t (by omega) (by omega) (by rw [corA, ← ht, ← hx1]; simp [c1, c1x, c5]) (by rw [corS, ← ht]; simp [c1, c1x, c5]) _ _ hP hS ls (lv_sub hl [1, 2, 0] rfl)
  exact loop4 (7 + 1) 0 0 s (by omega) (by omega) rfl rfl _ _ hP hS ls (lv_sub hl [2, 1, 0] rfl)

set_option maxHeartbeats 4000000 in
set_option maxRecDepth 100000 in
theorem m_X4_ticksToQuarrel (l : Launch) (D : va_G) (cI cS : ClassId) (a : Nat → Nat) (s : St) (st : Nat → St) (pi : Nat → Nat) (mi po : St) (d : Nat) (hd : d < 7) : Met l yX4_ticksToQuarrel (.code yX4_ticksToQuarrel cX4_ticksToQuarrel 6 (some .int) :: wsA) ({ frames := 2, cells := 0, slots := 0, locals := 43 } : Room) (va_Pc [.ref (a 0), .int (nI d)] (PR D cI cS 113 a (exC cI cS a s st pi mi po))) (vp_Si (fun r => r = qF s d (behN d) 201 0 (s 1 d) (s 1 (behN d)))) 0 0 (fun _ => False) := by
  refine mgo (by decide) (Nat.le_of_ble_eq_true rfl) ?_
  intro p e z m below meth c hx hb hr hml hown hts hlocks hB ls hl
  obtain ⟨hP, hK⟩ := hB
  have hl : lv_has ls 6 [(0, .ref (a 0)), (1, .int (nI d))] := hl
  refine lv_iload_n hx hb dX4_ticksToQuarrel_0 rfl (lv_at hl 1 rfl) ?_
  refine ro_i (va_runSN (As := [.int (nI d)]) (rest := []) ⟨hx, hb, hml, hown, hts⟩ (m_X6_dialBehind l d (by omega)) ⟨va_cnB 1 hts (gA tw432) rfl rfl rfl (hK.2 _ tn430) (hts _ tw1) (by decide +kernel) ⟨Nat.le_of_ble_eq_true rfl, Nat.le_of_ble_eq_true rfl⟩, hts _ tw431, trivial⟩ ps0 rfl rfl hl.1 rfl (lv_room (Nat.le_of_ble_eq_true rfl)) dX4_ticksToQuarrel_1 ⟨Nat.le_of_ble_eq_true rfl, Nat.le_of_ble_eq_true rfl⟩) (fun r2 hr1 => ?_)
  subst hr1
  have hbd := behN_lt (d := d)
  refine lv_istore_n (lv' := [(2, .int (nI (behN d))), (0, .ref (a 0)), (1, .int (nI d))]) hx hb dX4_ticksToQuarrel_4 rfl hl (by decide) rfl (fun ls hl => ?_)
  refine lv_aload_n hx hb dX4_ticksToQuarrel_5 rfl (lv_at hl 1 rfl) ?_
  refine g_get hx hb hts hown inA4 hK hP 0 (by decide) xc0 rfl 0 (by decide) tw85 rfl (v := .ref (a 1)) rfl dX4_ticksToQuarrel_6 ?_
  refine g_getN hx hb hts hown inA0 hK hP 1 (by decide) xc1 rfl 1 (by decide) tn38 rfl (v := .ref (a 2)) rfl dX4_ticksToQuarrel_9 ?_
  refine lv_iload_n hx hb dX4_ticksToQuarrel_12 rfl (lv_at hl 2 rfl) ?_
  refine g_iald hx hb hK hP 2 (by decide) xc2 d rfl (by omega) (by decide) dX4_ticksToQuarrel_13 (v := s 1 d) rfl ?_
  refine lv_istore_n (lv' := [(3, .int (s 1 d)), (2, .int (nI (behN d))), (0, .ref (a 0)), (1, .int (nI d))]) hx hb dX4_ticksToQuarrel_14 rfl hl (by decide) rfl (fun ls hl => ?_)
  refine lv_aload_n hx hb dX4_ticksToQuarrel_15 rfl (lv_at hl 2 rfl) ?_
  refine g_get hx hb hts hown inA4 hK hP 0 (by decide) xc0 rfl 0 (by decide) tw85 rfl (v := .ref (a 1)) rfl dX4_ticksToQuarrel_16 ?_
  refine g_getN hx hb hts hown inA0 hK hP 1 (by decide) xc1 rfl 1 (by decide) tn38 rfl (v := .ref (a 2)) rfl dX4_ticksToQuarrel_19 ?_
  refine lv_iload_n hx hb dX4_ticksToQuarrel_22 rfl (lv_at hl 1 rfl) ?_
  refine g_iald hx hb hK hP 2 (by decide) xc2 (behN d) rfl (by omega) (by decide) dX4_ticksToQuarrel_23 (v := s 1 (behN d)) rfl ?_
  refine lv_istore (lv' := [(4, .int (s 1 (behN d))), (3, .int (s 1 d)), (2, .int (nI (behN d))), (0, .ref (a 0)), (1, .int (nI d))]) hx hb dX4_ticksToQuarrel_24 hl (by decide) rfl (fun ls hl => ?_)
  refine lv_iconst (v := 0) hx hb dX4_ticksToQuarrel_26 (by decide) ?_
  refine lv_istore (lv' := [(5, .int 0), (4, .int (s 1 (behN d))), (3, .int (s 1 d)), (2, .int (nI (behN d))), (0, .ref (a 0)), (1, .int (nI d))]) hx hb dX4_ticksToQuarrel_27 hl (by decide) rfl (fun ls hl => ?_)
  have loop29 : ∀ (fu : Nat) (t : Nat) (x : Int32) (y : Int32), 201 + 1 ≤ t + fu → (t ≤ 201) → (qF s d (behN d) 201 0 (s 1 d) (s 1 (behN d)) = qF s d (behN d) (201 - t) t x y) → ∀ ls : Array Slot, lv_has ls 6 [(0, .ref (a 0)), (1, .int (nI d)), (2, .int (nI (behN d))), (3, .int x), (4, .int y), (5, .int (nI t))] → W p l e ({ frames := 2, cells := 0, slots := 0, locals := 43 } : Room) z m ([.ref (a 0), .int (nI d)] : List Value).toArray below meth c z.heap [] 0 0 (MQ below (vp_Si (fun r => r = qF s d (behN d) 201 0 (s 1 d) (s 1 (behN d)))) ([.ref (a 0), .int (nI d)] : List Value).toArray z 0 0 (fun _ => False)) (F0 m 29 ls []) := by
    intro fu
    induction fu with
    | zero => intro t x y hn ht hR; exact absurd hn (by omega)
    | succ fu ih29 =>
      intro t x y hn ht hR ls hl
      refine lv_iload hx hb dX4_ticksToQuarrel_29 (lv_at hl 5 rfl) ?_
      refine lv_sipush (v := 200) hx hb dX4_ticksToQuarrel_31 (by decide) ?_
      refine lv_icmp_gt (tgt := 94) hx hb dX4_ticksToQuarrel_34 (by decide) (fun c4 => ?_) (fun c4 => ?_)
      · skip
        have c4x := Int32.not_le.mpr c4
        have c4n := (nI_lt2 (p := 200) (q := t) rfl rfl (by omega) (by omega)).mp c4
        have c4n : 200 < t := c4n
        obtain rfl : t = 201 := by omega
        refine lv_iconst (v := (-1)) hx hb dX4_ticksToQuarrel_94 (by decide) ?_
        exact ro_ir hx hb hr rfl hlocks (by rw [hR]; rfl) dX4_ticksToQuarrel_95
      · skip
        have c4x := Int32.not_lt.mp c4
        have c4n := fun hq0 => c4 ((nI_lt2 (p := 200) (q := t) rfl rfl (by omega) (by omega)).mpr hq0)
        have c4n : ¬ (200 < t) := c4n
        refine lv_aload_n hx hb dX4_ticksToQuarrel_37 rfl (lv_at hl 0 rfl) ?_
        refine lv_aload_n hx hb dX4_ticksToQuarrel_38 rfl (lv_at hl 0 rfl) ?_
        refine g_get hx hb hts hown inA4 hK hP 0 (by decide) xc0 rfl 1 (by decide) tw87 rfl (v := .ref (a 8)) rfl dX4_ticksToQuarrel_39 ?_
        refine lv_iload_n hx hb dX4_ticksToQuarrel_42 rfl (lv_at hl 1 rfl) ?_
        refine lv_iload_n hx hb dX4_ticksToQuarrel_43 rfl (lv_at hl 3 rfl) ?_
        refine ro_i (va_runV (As := [.int (nI d), .int x]) (rest := [.ref (a 0)]) ⟨hx, hb, hml, hown, hts⟩ (m_X5_wordFor l D cI cS a s st pi mi po d (by omega) x) (cwV 2 hts (gV tw287 tw284 tw285 tw286 tw4) rfl rfl rfl (by decide +kernel) ⟨Nat.le_of_ble_eq_true rfl, Nat.le_of_ble_eq_true rfl⟩) (pvR 8 hK hP (by decide) xc8 rfl) rfl rfl hl.1 rfl (lv_room (Nat.le_of_ble_eq_true rfl)) dX4_ticksToQuarrel_44 ⟨Nat.le_of_ble_eq_true rfl, Nat.le_of_ble_eq_true rfl⟩) (fun r6 hr5 => ?_)
        subst hr5
        refine lv_aload_n hx hb dX4_ticksToQuarrel_47 rfl (lv_at hl 0 rfl) ?_
        refine g_get hx hb hts hown inA4 hK hP 0 (by decide) xc0 rfl 1 (by decide) tw87 rfl (v := .ref (a 8)) rfl dX4_ticksToQuarrel_48 ?_
        refine lv_iload_n hx hb dX4_ticksToQuarrel_51 rfl (lv_at hl 2 rfl) ?_
        refine lv_iload hx hb dX4_ticksToQuarrel_52 (lv_at hl 4 rfl) ?_
        refine ro_i (va_runV (As := [.int (nI (behN d)), .int y]) (rest := [.int (wordF s d x), .ref (a 0)]) ⟨hx, hb, hml, hown, hts⟩ (m_X5_wordFor l D cI cS a s st pi mi po (behN d) (by omega) y) (cwV 2 hts (gV tw287 tw284 tw285 tw286 tw4) rfl rfl rfl (by decide +kernel) ⟨Nat.le_of_ble_eq_true rfl, Nat.le_of_ble_eq_true rfl⟩) (pvR 8 hK hP (by decide) xc8 rfl) rfl rfl hl.1 rfl (lv_room (Nat.le_of_ble_eq_true rfl)) dX4_ticksToQuarrel_54 ⟨Nat.le_of_ble_eq_true rfl, Nat.le_of_ble_eq_true rfl⟩) (fun r9 hr8 => ?_)
        subst hr8
        refine ro_i (va_runV (As := [.int (wordF s d x), .int (wordF s (behN d) y)]) (rest := []) ⟨hx, hb, hml, hown, hts⟩ (m_X4_wordsQuarrel l D cI cS a s st pi mi po (wordF s d x) (wordF s (behN d) y)) (cwV 2 hts (gV tw436 tw433 tw435 ts10 tw2) rfl rfl rfl (by decide +kernel) ⟨Nat.le_of_ble_eq_true rfl, Nat.le_of_ble_eq_true rfl⟩) (pvR 0 hK hP (by decide) xc0 rfl) rfl rfl hl.1 rfl (lv_room (Nat.le_of_ble_eq_true rfl)) dX4_ticksToQuarrel_57 ⟨Nat.le_of_ble_eq_true rfl, Nat.le_of_ble_eq_true rfl⟩) (fun r12 hr11 => ?_)
        subst hr11
        refine lv_bI (fun c14 => ?_) (fun c14 => ?_)
        · skip
          refine lv_if_eq (tgt := 66) hx hb dX4_ticksToQuarrel_60 (by decide) (fun h0 => absurd h0 (by decide)) (fun _ => ?_)
          refine lv_iload hx hb dX4_ticksToQuarrel_63 (lv_at hl 5 rfl) ?_
          exact ro_ir hx hb hr rfl hlocks (by rw [hR, show 201 - t = (201 - (t + 1)) + 1 by omega, qF, if_pos c14]) dX4_ticksToQuarrel_65
        · skip
          refine lv_if_eq (tgt := 66) hx hb dX4_ticksToQuarrel_60 (by decide) (fun _ => ?_) (fun h0 => absurd (by decide) h0)
          refine lv_aload_n hx hb dX4_ticksToQuarrel_66 rfl (lv_at hl 0 rfl) ?_
          refine g_get hx hb hts hown inA4 hK hP 0 (by decide) xc0 rfl 0 (by decide) tw85 rfl (v := .ref (a 1)) rfl dX4_ticksToQuarrel_67 ?_
          refine lv_iload_n hx hb dX4_ticksToQuarrel_70 rfl (lv_at hl 1 rfl) ?_
          refine lv_iload_n hx hb dX4_ticksToQuarrel_71 rfl (lv_at hl 3 rfl) ?_
          refine ro_i (va_runV (As := [.int (nI d), .int x]) (rest := []) ⟨hx, hb, hml, hown, hts⟩ (m_X0_afterTick l D cI cS a s st pi mi po d (by omega) x) (cwV 2 hts (gV tw493 tw490 tw491 tw492 tw3) rfl rfl rfl (by decide +kernel) ⟨Nat.le_of_ble_eq_true rfl, Nat.le_of_ble_eq_true rfl⟩) (pvR 1 hK hP (by decide) xc1 rfl) rfl rfl hl.1 rfl (lv_room (Nat.le_of_ble_eq_true rfl)) dX4_ticksToQuarrel_72 ⟨Nat.le_of_ble_eq_true rfl, Nat.le_of_ble_eq_true rfl⟩) (fun r16 hr15 => ?_)
          subst hr15
          refine lv_istore_n (lv' := [(3, .int (aftI s d x)), (0, .ref (a 0)), (1, .int (nI d)), (2, .int (nI (behN d))), (4, .int y), (5, .int (nI t))]) hx hb dX4_ticksToQuarrel_75 rfl hl (by decide) rfl (fun ls hl => ?_)
          refine lv_aload_n hx hb dX4_ticksToQuarrel_76 rfl (lv_at hl 1 rfl) ?_
          refine g_get hx hb hts hown inA4 hK hP 0 (by decide) xc0 rfl 0 (by decide) tw85 rfl (v := .ref (a 1)) rfl dX4_ticksToQuarrel_77 ?_
          refine lv_iload_n hx hb dX4_ticksToQuarrel_80 rfl (lv_at hl 3 rfl) ?_
          refine lv_iload hx hb dX4_ticksToQuarrel_81 (lv_at hl 4 rfl) ?_
          refine ro_i (va_runV (As := [.int (nI (behN d)), .int y]) (rest := []) ⟨hx, hb, hml, hown, hts⟩ (m_X0_afterTick l D cI cS a s st pi mi po (behN d) (by omega) y) (cwV 2 hts (gV tw493 tw490 tw491 tw492 tw3) rfl rfl rfl (by decide +kernel) ⟨Nat.le_of_ble_eq_true rfl, Nat.le_of_ble_eq_true rfl⟩) (pvR 1 hK hP (by decide) xc1 rfl) rfl rfl hl.1 rfl (lv_room (Nat.le_of_ble_eq_true rfl)) dX4_ticksToQuarrel_83 ⟨Nat.le_of_ble_eq_true rfl, Nat.le_of_ble_eq_true rfl⟩) (fun r19 hr18 => ?_)
          subst hr18
          refine lv_istore (lv' := [(4, .int (aftI s (behN d) y)), (3, .int (aftI s d x)), (0, .ref (a 0)), (1, .int (nI d)), (2, .int (nI (behN d))), (5, .int (nI t))]) hx hb dX4_ticksToQuarrel_86 hl (by decide) rfl (fun ls hl => ?_)
          refine lv_iinc (v := nI (t + 1)) (lv' := [(5, .int (nI (t + 1))), (4, .int (aftI s (behN d) y)), (3, .int (aftI s d x)), (0, .ref (a 0)), (1, .int (nI d)), (2, .int (nI (behN d)))]) hx hb dX4_ticksToQuarrel_88 hl (k := 5) rfl (nI_add t 1) (by decide) rfl (fun ls hl => ?_)
          refine lv_goto (tgt := 29) hx hb dX4_ticksToQuarrel_91 (by decide) ?_
          exact ih29 (t + 1) (aftI s d x) (aftI s (behN d) y) (by omega) (by omega) (by rw [hR, show 201 - t = (201 - (t + 1)) + 1 by omega, qF, if_neg c14]) ls (lv_sub hl [3, 4, 5, 2, 1, 0] rfl)
  exact loop29 (201 + 1) 0 (s 1 d) (s 1 (behN d)) (by omega) (by omega) rfl ls (lv_sub hl [4, 5, 3, 2, 1, 0] rfl)

set_option maxHeartbeats 4000000 in
set_option maxRecDepth 100000 in
theorem m_X4_settleQuarrel (l : Launch) (D : va_G) (cI cS : ClassId) (a : Nat → Nat) (s : St) (st : Nat → St) (pi : Nat → Nat) (mi po : St) (i j : Nat) (hi : i < 7) (hj : j < 7) (sz : Nat) : Met l yX4_settleQuarrel (.code yX4_settleQuarrel cX4_settleQuarrel 6 none :: wsA) ({ frames := 2, cells := 0, slots := 0, locals := 43 } : Room) (va_Pc [.ref (a 0), .ref (a 109), .int (nI i), .int (nI j)] (PW D cI cS 113 a (exC cI cS a s st pi mi po) sz)) (va_Qv (fun (u : Unit) => True) (BW D 113 a (fun u => exC cI cS a (setl s (po 0) i j) st pi mi po)) (AX 113 a sz)) 0 0 (AX 113 a sz) := by
  refine mgo (by decide) (Nat.le_of_ble_eq_true rfl) ?_
  intro p e z m below meth c hx hb hr hml hown hts hlocks hB ls hl
  obtain ⟨hsz, hP, hK, hE⟩ := hB
  subst hsz
  have hS : va_S (AX 113 a z.heap.size) z.heap z.heap [] := va_S.rf
  have hl : lv_has ls 6 [(0, .ref (a 0)), (1, .ref (a 109)), (2, .int (nI i)), (3, .int (nI j))] := hl
  refine lv_aload_n hx hb dX4_settleQuarrel_0 rfl (lv_at hl 0 rfl) ?_
  refine lv_aload_n hx hb dX4_settleQuarrel_1 rfl (lv_at hl 1 rfl) ?_
  refine lv_iload_n hx hb dX4_settleQuarrel_2 rfl (lv_at hl 2 rfl) ?_
  refine g_iald hx hb hK hP 109 (by decide) xc109 i rfl (by omega) (by decide) dX4_settleQuarrel_3 (v := po 0 i) rfl ?_
  refine lv_aload_n hx hb dX4_settleQuarrel_4 rfl (lv_at hl 1 rfl) ?_
  refine lv_iload_n hx hb dX4_settleQuarrel_5 rfl (lv_at hl 3 rfl) ?_
  refine g_iald hx hb hK hP 109 (by decide) xc109 j rfl (by omega) (by decide) dX4_settleQuarrel_6 (v := po 0 j) rfl ?_
  refine ro_i (va_runV (As := [.int (po 0 i), .int (po 0 j)]) (rest := []) ⟨hx, hb, hml, hown, hts⟩ (m_X4_wordsQuarrel l D cI cS a s st pi mi po (po 0 i) (po 0 j)) (cwV 2 hts (gV tw436 tw433 tw435 ts10 tw2) rfl rfl rfl (by decide +kernel) ⟨Nat.le_of_ble_eq_true rfl, Nat.le_of_ble_eq_true rfl⟩) (pvR 0 hK hP (by decide) xc0 rfl) rfl rfl hl.1 rfl (lv_room (Nat.le_of_ble_eq_true rfl)) dX4_settleQuarrel_7 ⟨Nat.le_of_ble_eq_true rfl, Nat.le_of_ble_eq_true rfl⟩) (fun r2 hr1 => ?_)
  subst hr1
  refine lv_bI (fun c4 => ?_) (fun c4 => ?_)
  · skip
    refine lv_if_ne (tgt := 14) hx hb dX4_settleQuarrel_10 (by decide) (fun _ => ?_) (fun h0 => absurd h0 (by decide))
    refine lv_aload_n hx hb dX4_settleQuarrel_14 rfl (lv_at hl 1 rfl) ?_
    refine lv_iload_n hx hb dX4_settleQuarrel_15 rfl (lv_at hl 2 rfl) ?_
    refine g_iald hx hb hK hP 109 (by decide) xc109 i rfl (by omega) (by decide) dX4_settleQuarrel_16 (v := po 0 i) rfl ?_
    refine lv_aload_n hx hb dX4_settleQuarrel_17 rfl (lv_at hl 0 rfl) ?_
    refine g_get hx hb hts hown inA4 hK hP 0 (by decide) xc0 rfl 3 (by decide) tw92 rfl (v := .int (s 0 1)) rfl dX4_settleQuarrel_18 ?_
    refine ro_i (va_runSN (As := [.int (po 0 i), .int (s 0 1)]) (rest := []) ⟨hx, hb, hml, hown, hts⟩ (m_X6_distance l (po 0 i) (s 0 1)) ⟨va_cnB 2 hts (gA tw218) rfl rfl rfl (hK.2 _ tn216) (hts _ tw1) (by decide +kernel) ⟨Nat.le_of_ble_eq_true rfl, Nat.le_of_ble_eq_true rfl⟩, hts _ tw217, trivial⟩ ps0 rfl rfl hl.1 rfl (lv_room (Nat.le_of_ble_eq_true rfl)) dX4_settleQuarrel_21 ⟨Nat.le_of_ble_eq_true rfl, Nat.le_of_ble_eq_true rfl⟩) (fun r6 hr5 => ?_)
    subst hr5
    refine lv_istore (lv' := [(4, .int (distI (po 0 i) (s 0 1))), (0, .ref (a 0)), (1, .ref (a 109)), (2, .int (nI i)), (3, .int (nI j))]) hx hb dX4_settleQuarrel_24 hl (by decide) rfl (fun ls hl => ?_)
    refine lv_aload_n hx hb dX4_settleQuarrel_26 rfl (lv_at hl 2 rfl) ?_
    refine lv_iload_n hx hb dX4_settleQuarrel_27 rfl (lv_at hl 4 rfl) ?_
    refine g_iald hx hb hK hP 109 (by decide) xc109 j rfl (by omega) (by decide) dX4_settleQuarrel_28 (v := po 0 j) rfl ?_
    refine lv_aload_n hx hb dX4_settleQuarrel_29 rfl (lv_at hl 1 rfl) ?_
    refine g_get hx hb hts hown inA4 hK hP 0 (by decide) xc0 rfl 3 (by decide) tw92 rfl (v := .int (s 0 1)) rfl dX4_settleQuarrel_30 ?_
    refine ro_i (va_runSN (As := [.int (po 0 j), .int (s 0 1)]) (rest := []) ⟨hx, hb, hml, hown, hts⟩ (m_X6_distance l (po 0 j) (s 0 1)) ⟨va_cnB 2 hts (gA tw218) rfl rfl rfl (hK.2 _ tn216) (hts _ tw1) (by decide +kernel) ⟨Nat.le_of_ble_eq_true rfl, Nat.le_of_ble_eq_true rfl⟩, hts _ tw217, trivial⟩ ps0 rfl rfl hl.1 rfl (lv_room (Nat.le_of_ble_eq_true rfl)) dX4_settleQuarrel_33 ⟨Nat.le_of_ble_eq_true rfl, Nat.le_of_ble_eq_true rfl⟩) (fun r9 hr8 => ?_)
    subst hr8
    refine lv_istore (lv' := [(5, .int (distI (po 0 j) (s 0 1))), (4, .int (distI (po 0 i) (s 0 1))), (0, .ref (a 0)), (1, .ref (a 109)), (2, .int (nI i)), (3, .int (nI j))]) hx hb dX4_settleQuarrel_36 hl (by decide) rfl (fun ls hl => ?_)
    refine lv_iload hx hb dX4_settleQuarrel_38 (lv_at hl 1 rfl) ?_
    refine lv_iload hx hb dX4_settleQuarrel_40 (lv_at hl 0 rfl) ?_
    refine lv_icmp_le (tgt := 56) hx hb dX4_settleQuarrel_42 (by decide) (fun c11 => ?_) (fun c11 => ?_)
    · skip
      have c11x := Int32.not_lt.mpr c11
      refine lv_iload hx hb dX4_settleQuarrel_56 (lv_at hl 0 rfl) ?_
      refine lv_iload hx hb dX4_settleQuarrel_58 (lv_at hl 1 rfl) ?_
      refine lv_icmp_le (tgt := 71) hx hb dX4_settleQuarrel_60 (by decide) (fun c12 => ?_) (fun c12 => ?_)
      · skip
        have c12x := Int32.not_lt.mpr c12
        have hWs : (setl s (po 0) i j) = s := by simp [setl, c4, c11, c11x, c12, c12x]
        rw [← hWs] at hP
        exact rw_vr hx hb hr hlocks hS () hP trivial dX4_settleQuarrel_71
      · skip
        have c12x := Int32.not_le.mp c12
        refine lv_aload_n hx hb dX4_settleQuarrel_63 rfl (lv_at hl 2 rfl) ?_
        refine g_get hx hb hts hown inA4 hK hP 0 (by decide) xc0 rfl 1 (by decide) tw87 rfl (v := .ref (a 8)) rfl dX4_settleQuarrel_64 ?_
        refine lv_iload_n hx hb dX4_settleQuarrel_67 rfl (lv_at hl 5 rfl) ?_
        refine rw_v hS (va_runV (As := [.int (nI j)]) (rest := []) ⟨hx, hb, hml, hown, hts⟩ (m_X5_lessen l D cI cS a s st pi mi po j (by omega) _) (cwV 1 hts (gV tw598 tw595 tw596 tw597 tw4) rfl rfl rfl (by decide +kernel) ⟨Nat.le_of_ble_eq_true rfl, Nat.le_of_ble_eq_true rfl⟩) (pvW 8 hK hP hE (by decide) xc8 rfl) rfl rfl hl.1 rfl (lv_room (Nat.le_of_ble_eq_true rfl)) dX4_settleQuarrel_68 ⟨Nat.le_of_ble_eq_true rfl, Nat.le_of_ble_eq_true rfl⟩) (fun u15 H locs hr13 hP hS => ?_)
        have hWs : (setl s (po 0) i j) = (lessS s j) := by simp [setl, c4, c11, c11x, c12, c12x]
        rw [← hWs] at hP
        exact rw_vr hx hb hr hlocks hS () hP trivial dX4_settleQuarrel_71
    · skip
      have c11x := Int32.not_le.mp c11
      refine lv_aload_n hx hb dX4_settleQuarrel_45 rfl (lv_at hl 2 rfl) ?_
      refine g_get hx hb hts hown inA4 hK hP 0 (by decide) xc0 rfl 1 (by decide) tw87 rfl (v := .ref (a 8)) rfl dX4_settleQuarrel_46 ?_
      refine lv_iload_n hx hb dX4_settleQuarrel_49 rfl (lv_at hl 4 rfl) ?_
      refine rw_v hS (va_runV (As := [.int (nI i)]) (rest := []) ⟨hx, hb, hml, hown, hts⟩ (m_X5_lessen l D cI cS a s st pi mi po i (by omega) _) (cwV 1 hts (gV tw598 tw595 tw596 tw597 tw4) rfl rfl rfl (by decide +kernel) ⟨Nat.le_of_ble_eq_true rfl, Nat.le_of_ble_eq_true rfl⟩) (pvW 8 hK hP hE (by decide) xc8 rfl) rfl rfl hl.1 rfl (lv_room (Nat.le_of_ble_eq_true rfl)) dX4_settleQuarrel_50 ⟨Nat.le_of_ble_eq_true rfl, Nat.le_of_ble_eq_true rfl⟩) (fun u18 H locs hr16 hP hS => ?_)
      refine lv_goto (tgt := 71) hx hb dX4_settleQuarrel_53 (by decide) ?_
      have hWs : (setl s (po 0) i j) = (lessS s i) := by simp [setl, c4, c11, c11x]
      rw [← hWs] at hP
      exact rw_vr hx hb hr hlocks hS () hP trivial dX4_settleQuarrel_71
  · skip
    refine lv_if_ne (tgt := 14) hx hb dX4_settleQuarrel_10 (by decide) (fun h0 => absurd (by decide) h0) (fun _ => ?_)
    have hWs : (setl s (po 0) i j) = s := by simp [setl, c4]
    rw [← hWs] at hP
    exact rw_vr hx hb hr hlocks hS () hP trivial dX4_settleQuarrel_13

set_option maxHeartbeats 4000000 in
set_option maxRecDepth 100000 in
theorem m_X4_settleQuarrels (l : Launch) (D : va_G) (cI cS : ClassId) (a : Nat → Nat) (s : St) (st : Nat → St) (pi : Nat → Nat) (mi po : St) (sz : Nat) : Met l yX4_settleQuarrels (.code yX4_settleQuarrels cX4_settleQuarrels 3 none :: wsA) ({ frames := 3, cells := 0, slots := 0, locals := 68 } : Room) (va_Pc [.ref (a 0), .ref (a 109)] (PW D cI cS 113 a (exC cI cS a s st pi mi po) sz)) (va_Qv (fun (u : Unit) => True) (BW D 113 a (fun u => exC cI cS a (setlN (po 0) 7 s) st pi mi po)) (AX 113 a sz)) 0 0 (AX 113 a sz) := by
  refine mgo (by decide) (Nat.le_of_ble_eq_true rfl) ?_
  intro p e z m below meth c hx hb hr hml hown hts hlocks hB ls hl
  obtain ⟨hsz, hP, hK, hE⟩ := hB
  subst hsz
  have hS : va_S (AX 113 a z.heap.size) z.heap z.heap [] := va_S.rf
  have hl : lv_has ls 3 [(0, .ref (a 0)), (1, .ref (a 109))] := hl
  refine lv_iconst (v := 0) hx hb dX4_settleQuarrels_0 (by decide) ?_
  refine lv_istore_n (lv' := [(2, .int 0), (0, .ref (a 0)), (1, .ref (a 109))]) hx hb dX4_settleQuarrels_1 rfl hl (by decide) rfl (fun ls hl => ?_)
  have loop2 : ∀ (fu : Nat) (j : Nat), 7 + 1 ≤ j + fu → (j ≤ 7) → ∀ (H : Heap) (locs : List Loc), HP D 113 a (exC cI cS a (setlN (po 0) j s) st pi mi po) H → va_S (AX 113 a z.heap.size) z.heap H locs → ∀ ls : Array Slot, lv_has ls 3 [(0, .ref (a 0)), (1, .ref (a 109)), (2, .int (nI j))] → W p l e ({ frames := 3, cells := 0, slots := 0, locals := 68 } : Room) z m ([.ref (a 0), .ref (a 109)] : List Value).toArray below meth c H locs 0 0 (MQ below (va_Qv (fun (u : Unit) => True) (BW D 113 a (fun u => exC cI cS a (setlN (po 0) 7 s) st pi mi po)) (AX 113 a z.heap.size)) ([.ref (a 0), .ref (a 109)] : List Value).toArray z 0 0 (AX 113 a z.heap.size)) (F0 m 2 ls []) := by
    intro fu
    induction fu with
    | zero => intro j hn hj; exact absurd hn (by omega)
    | succ fu ih2 =>
      intro j hn hj H locs hP hS ls hl
      refine lv_iload_n hx hb dX4_settleQuarrels_2 rfl (lv_at hl 2 rfl) ?_
      refine lv_bipush (v := 7) hx hb dX4_settleQuarrels_3 (by decide) ?_
      refine lv_icmp_ge (tgt := 24) hx hb dX4_settleQuarrels_5 (by decide) (fun c1 => ?_) (fun c1 => ?_)
      · skip
        have c1x := Int32.not_lt.mpr c1
        have c1n := (nI_le2 (p := 7) (q := j) rfl rfl (by omega) (by omega)).mp c1
        have c1n : 7 ≤ j := c1n
        obtain rfl : j = 7 := by omega
        exact rw_vr hx hb hr hlocks hS () hP trivial dX4_settleQuarrels_24
      · skip
        have c1x := Int32.not_le.mp c1
        have c1n := fun hq0 => c1 ((nI_le2 (p := 7) (q := j) rfl rfl (by omega) (by omega)).mpr hq0)
        have c1n : ¬ (7 ≤ j) := c1n
        refine lv_aload_n hx hb dX4_settleQuarrels_8 rfl (lv_at hl 0 rfl) ?_
        refine lv_aload_n hx hb dX4_settleQuarrels_9 rfl (lv_at hl 1 rfl) ?_
        refine lv_iload_n hx hb dX4_settleQuarrels_10 rfl (lv_at hl 2 rfl) ?_
        refine lv_iload_n hx hb dX4_settleQuarrels_11 rfl (lv_at hl 2 rfl) ?_
        refine ro_i (va_runSN (As := [.int (nI j)]) (rest := [.int (nI j), .ref (a 109), .ref (a 0)]) ⟨hx, hb, hml, hown, hts⟩ (m_X6_dialBehind l j (by omega)) ⟨va_cnB 1 hts (gA tw432) rfl rfl rfl (hK.2 _ tn430) (hts _ tw1) (by decide +kernel) ⟨Nat.le_of_ble_eq_true rfl, Nat.le_of_ble_eq_true rfl⟩, hts _ tw431, trivial⟩ ps0 rfl rfl hl.1 rfl (lv_room (Nat.le_of_ble_eq_true rfl)) dX4_settleQuarrels_12 ⟨Nat.le_of_ble_eq_true rfl, Nat.le_of_ble_eq_true rfl⟩) (fun r3 hr2 => ?_)
        subst hr2
        have hbd := behN_lt (d := j)
        refine rw_v hS (va_runV (As := [.ref (a 109), .int (nI j), .int (nI (behN j))]) (rest := []) ⟨hx, hb, hml, hown, hts⟩ (m_X4_settleQuarrel l D cI cS a (setlN (po 0) j s) st pi mi po j (behN j) (by omega) (by omega) _) (cwV 3 hts (gV tw594 tw591 tw593 ts19 tw2) rfl rfl rfl (by decide +kernel) ⟨Nat.le_of_ble_eq_true rfl, Nat.le_of_ble_eq_true rfl⟩) (pvW 0 hK hP hE (by decide) xc0 rfl) rfl rfl hl.1 rfl (lv_room (Nat.le_of_ble_eq_true rfl)) dX4_settleQuarrels_15 ⟨Nat.le_of_ble_eq_true rfl, Nat.le_of_ble_eq_true rfl⟩) (fun u7 H locs hr5 hP hS => ?_)
        refine lv_iinc (v := nI (j + 1)) (lv' := [(2, .int (nI (j + 1))), (0, .ref (a 0)), (1, .ref (a 109))]) hx hb dX4_settleQuarrels_18 hl (k := 2) rfl (nI_add j 1) (by decide) rfl (fun ls hl => ?_)
        refine lv_goto (tgt := 2) hx hb dX4_settleQuarrels_21 (by decide) ?_
        exact ih2 (j + 1) (by omega) (by omega) _ _ hP hS ls (lv_sub hl [1, 2, 0] rfl)
  exact loop2 (7 + 1) 0 (by omega) (by omega) _ _ hP hS ls (lv_sub hl [1, 2, 0] rfl)
end
