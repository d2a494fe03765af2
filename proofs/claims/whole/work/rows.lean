section
-- ===== PART A: goes FIRST, ahead of the names: the tables' words, and 'selects' of the private methods out of them =====
/-- a private method of a class that the tables say can be made, by its rows of tables_1 -/
def lw_okq (q : MethodName × Nat) : Prop := (q.1.cls ≠ "java/lang/invoke/MethodHandle" ∧ q.1.cls ≠ "java/lang/invoke/VarHandle") ∧ Cond.instantiable q.1.cls q.2 ∈ tables_1 ∧ Cond.privateMethod q.1 ∈ tables_1 ∧ Cond.instanceMethod q.1 ∈ tables_1
theorem lw_p0 : lw_okq (⟨"BellTouches", "isPlaces", "(I)Z"⟩, 10) := ⟨⟨by decide +kernel, by decide +kernel⟩, List.mem_of_getElem? (i := 14) (by decide +kernel), List.mem_of_getElem? (i := 289) (by decide +kernel), List.mem_of_getElem? (i := 290) (by decide +kernel)⟩
theorem lw_p1 : lw_okq (⟨"BellTouches$SetupText", "next", "()I"⟩, 8) := ⟨⟨by decide +kernel, by decide +kernel⟩, List.mem_of_getElem? (i := 193) (by decide +kernel), List.mem_of_getElem? (i := 345) (by decide +kernel), List.mem_of_getElem? (i := 346) (by decide +kernel)⟩
theorem lw_p2 : lw_okq (⟨"BellTouches$SetupText", "parseClause", "()Z"⟩, 8) := ⟨⟨by decide +kernel, by decide +kernel⟩, List.mem_of_getElem? (i := 193) (by decide +kernel), List.mem_of_getElem? (i := 349) (by decide +kernel), List.mem_of_getElem? (i := 350) (by decide +kernel)⟩
theorem lw_p3 : lw_okq (⟨"BellTouches$SetupText", "parseDigit", "()Z"⟩, 8) := ⟨⟨by decide +kernel, by decide +kernel⟩, List.mem_of_getElem? (i := 193) (by decide +kernel), List.mem_of_getElem? (i := 353) (by decide +kernel), List.mem_of_getElem? (i := 354) (by decide +kernel)⟩
theorem lw_p4 : lw_okq (⟨"BellTouches$SetupText", "keep", "(I)V"⟩, 8) := ⟨⟨by decide +kernel, by decide +kernel⟩, List.mem_of_getElem? (i := 193) (by decide +kernel), List.mem_of_getElem? (i := 357) (by decide +kernel), List.mem_of_getElem? (i := 358) (by decide +kernel)⟩
theorem lw_p5 : lw_okq (⟨"BellTouches$SetupText", "parseWords", "()Z"⟩, 8) := ⟨⟨by decide +kernel, by decide +kernel⟩, List.mem_of_getElem? (i := 193) (by decide +kernel), List.mem_of_getElem? (i := 361) (by decide +kernel), List.mem_of_getElem? (i := 362) (by decide +kernel)⟩
theorem lw_p6 : lw_okq (⟨"BellTouches$SetupText", "parseWord", "()Z"⟩, 8) := ⟨⟨by decide +kernel, by decide +kernel⟩, List.mem_of_getElem? (i := 193) (by decide +kernel), List.mem_of_getElem? (i := 365) (by decide +kernel), List.mem_of_getElem? (i := 366) (by decide +kernel)⟩
theorem lw_p7 : lw_okq (⟨"BellTouches$SetupText", "parseCalls", "()Z"⟩, 8) := ⟨⟨by decide +kernel, by decide +kernel⟩, List.mem_of_getElem? (i := 193) (by decide +kernel), List.mem_of_getElem? (i := 372) (by decide +kernel), List.mem_of_getElem? (i := 373) (by decide +kernel)⟩
theorem lw_p8 : lw_okq (⟨"BellTouches$SetupText", "performClause", "(LBellTouches$Setup;III)Z"⟩, 8) := ⟨⟨by decide +kernel, by decide +kernel⟩, List.mem_of_getElem? (i := 193) (by decide +kernel), List.mem_of_getElem? (i := 383) (by decide +kernel), List.mem_of_getElem? (i := 384) (by decide +kernel)⟩
theorem lw_p9 : lw_okq (⟨"BellTouches$SetupText", "setMethod", "(LBellTouches$Setup;II)Z"⟩, 8) := ⟨⟨by decide +kernel, by decide +kernel⟩, List.mem_of_getElem? (i := 193) (by decide +kernel), List.mem_of_getElem? (i := 391) (by decide +kernel), List.mem_of_getElem? (i := 392) (by decide +kernel)⟩
theorem lw_p10 : lw_okq (⟨"BellTouches$SetupText", "setLeads", "(LBellTouches$Setup;II)Z"⟩, 8) := ⟨⟨by decide +kernel, by decide +kernel⟩, List.mem_of_getElem? (i := 193) (by decide +kernel), List.mem_of_getElem? (i := 400) (by decide +kernel), List.mem_of_getElem? (i := 401) (by decide +kernel)⟩
theorem lw_p11 : lw_okq (⟨"BellTouches", "rung", "()LBellTouches$Touch;"⟩, 10) := ⟨⟨by decide +kernel, by decide +kernel⟩, List.mem_of_getElem? (i := 14) (by decide +kernel), List.mem_of_getElem? (i := 415) (by decide +kernel), List.mem_of_getElem? (i := 416) (by decide +kernel)⟩
theorem lw_p12 : lw_okq (⟨"BellTouches$Touch", "compare", "()V"⟩, 8) := ⟨⟨by decide +kernel, by decide +kernel⟩, List.mem_of_getElem? (i := 112) (by decide +kernel), List.mem_of_getElem? (i := 443) (by decide +kernel), List.mem_of_getElem? (i := 444) (by decide +kernel)⟩
theorem lw_p13 : lw_okq (⟨"BellTouches", "isRow", "(I)Z"⟩, 10) := ⟨⟨by decide +kernel, by decide +kernel⟩, List.mem_of_getElem? (i := 14) (by decide +kernel), List.mem_of_getElem? (i := 476) (by decide +kernel), List.mem_of_getElem? (i := 477) (by decide +kernel)⟩
theorem lw_p14 : lw_okq (⟨"BellTouches", "isBell", "(I)Z"⟩, 10) := ⟨⟨by decide +kernel, by decide +kernel⟩, List.mem_of_getElem? (i := 14) (by decide +kernel), List.mem_of_getElem? (i := 480) (by decide +kernel), List.mem_of_getElem? (i := 481) (by decide +kernel)⟩
theorem lw_p15 : lw_okq (⟨"BellTouches", "countMusic", "(I)I"⟩, 10) := ⟨⟨by decide +kernel, by decide +kernel⟩, List.mem_of_getElem? (i := 14) (by decide +kernel), List.mem_of_getElem? (i := 511) (by decide +kernel), List.mem_of_getElem? (i := 512) (by decide +kernel)⟩
def lw_privs_1 : List (MethodName × Nat) := [(⟨"BellTouches", "isPlaces", "(I)Z"⟩, 10), (⟨"BellTouches$SetupText", "next", "()I"⟩, 8), (⟨"BellTouches$SetupText", "parseClause", "()Z"⟩, 8), (⟨"BellTouches$SetupText", "parseDigit", "()Z"⟩, 8), (⟨"BellTouches$SetupText", "keep", "(I)V"⟩, 8), (⟨"BellTouches$SetupText", "parseWords", "()Z"⟩, 8), (⟨"BellTouches$SetupText", "parseWord", "()Z"⟩, 8), (⟨"BellTouches$SetupText", "parseCalls", "()Z"⟩, 8), (⟨"BellTouches$SetupText", "performClause", "(LBellTouches$Setup;III)Z"⟩, 8), (⟨"BellTouches$SetupText", "setMethod", "(LBellTouches$Setup;II)Z"⟩, 8), (⟨"BellTouches$SetupText", "setLeads", "(LBellTouches$Setup;II)Z"⟩, 8), (⟨"BellTouches", "rung", "()LBellTouches$Touch;"⟩, 10), (⟨"BellTouches$Touch", "compare", "()V"⟩, 8), (⟨"BellTouches", "isRow", "(I)Z"⟩, 10), (⟨"BellTouches", "isBell", "(I)Z"⟩, 10), (⟨"BellTouches", "countMusic", "(I)I"⟩, 10)]
theorem lw_r1 : ∀ q ∈ lw_privs_1, lw_okq q := List.forall_mem_cons.mpr ⟨lw_p0, List.forall_mem_cons.mpr ⟨lw_p1, List.forall_mem_cons.mpr ⟨lw_p2, List.forall_mem_cons.mpr ⟨lw_p3, List.forall_mem_cons.mpr ⟨lw_p4, List.forall_mem_cons.mpr ⟨lw_p5, List.forall_mem_cons.mpr ⟨lw_p6, List.forall_mem_cons.mpr ⟨lw_p7, List.forall_mem_cons.mpr ⟨lw_p8, List.forall_mem_cons.mpr ⟨lw_p9, List.forall_mem_cons.mpr ⟨lw_p10, List.forall_mem_cons.mpr ⟨lw_p11, List.forall_mem_cons.mpr ⟨lw_p12, List.forall_mem_cons.mpr ⟨lw_p13, List.forall_mem_cons.mpr ⟨lw_p14, List.forall_mem_cons.mpr ⟨lw_p15, fun _ h => absurd h List.not_mem_nil⟩⟩⟩⟩⟩⟩⟩⟩⟩⟩⟩⟩⟩⟩⟩⟩
theorem lw_p16 : lw_okq (⟨"BellTouches$Setup", "holdsPattern", "(I)Z"⟩, 11) := ⟨⟨by decide +kernel, by decide +kernel⟩, List.mem_of_getElem? (i := 22) (by decide +kernel), List.mem_of_getElem? (i := 521) (by decide +kernel), List.mem_of_getElem? (i := 522) (by decide +kernel)⟩
theorem lw_p17 : lw_okq (⟨"BellTouches$Fewest", "ringTillAgain", "(I)I"⟩, 7) := ⟨⟨by decide +kernel, by decide +kernel⟩, List.mem_of_getElem? (i := 158) (by decide +kernel), List.mem_of_getElem? (i := 543) (by decide +kernel), List.mem_of_getElem? (i := 544) (by decide +kernel)⟩
theorem lw_p18 : lw_okq (⟨"BellTouches$Fewest", "isEnd", "(I)Z"⟩, 7) := ⟨⟨by decide +kernel, by decide +kernel⟩, List.mem_of_getElem? (i := 158) (by decide +kernel), List.mem_of_getElem? (i := 548) (by decide +kernel), List.mem_of_getElem? (i := 549) (by decide +kernel)⟩
theorem lw_p19 : lw_okq (⟨"BellTouches$Fewest", "backTo", "(I)V"⟩, 7) := ⟨⟨by decide +kernel, by decide +kernel⟩, List.mem_of_getElem? (i := 158) (by decide +kernel), List.mem_of_getElem? (i := 552) (by decide +kernel), List.mem_of_getElem? (i := 553) (by decide +kernel)⟩
theorem lw_p20 : lw_okq (⟨"BellTouches", "fitsLast", "(I)Z"⟩, 10) := ⟨⟨by decide +kernel, by decide +kernel⟩, List.mem_of_getElem? (i := 14) (by decide +kernel), List.mem_of_getElem? (i := 590) (by decide +kernel), List.mem_of_getElem? (i := 591) (by decide +kernel)⟩
theorem lw_p21 : lw_okq (⟨"BellTouchesModel", "begins", "(I)V"⟩, 20) := ⟨⟨by decide +kernel, by decide +kernel⟩, List.mem_of_getElem? (i := 679) (by decide +kernel), List.mem_of_getElem? (i := 685) (by decide +kernel), List.mem_of_getElem? (i := 686) (by decide +kernel)⟩
theorem lw_p22 : lw_okq (⟨"BellTouchesModel", "areKept", "(I)Z"⟩, 20) := ⟨⟨by decide +kernel, by decide +kernel⟩, List.mem_of_getElem? (i := 679) (by decide +kernel), List.mem_of_getElem? (i := 761) (by decide +kernel), List.mem_of_getElem? (i := 762) (by decide +kernel)⟩
theorem lw_p23 : lw_okq (⟨"BellTouchesModel", "isGood", "(I)Z"⟩, 20) := ⟨⟨by decide +kernel, by decide +kernel⟩, List.mem_of_getElem? (i := 679) (by decide +kernel), List.mem_of_getElem? (i := 765) (by decide +kernel), List.mem_of_getElem? (i := 766) (by decide +kernel)⟩
theorem lw_p24 : lw_okq (⟨"BellTouchesModel", "becomes", "(II)I"⟩, 20) := ⟨⟨by decide +kernel, by decide +kernel⟩, List.mem_of_getElem? (i := 679) (by decide +kernel), List.mem_of_getElem? (i := 773) (by decide +kernel), List.mem_of_getElem? (i := 774) (by decide +kernel)⟩
theorem lw_p25 : lw_okq (⟨"BellTouchesModel", "reads", "()V"⟩, 20) := ⟨⟨by decide +kernel, by decide +kernel⟩, List.mem_of_getElem? (i := 679) (by decide +kernel), List.mem_of_getElem? (i := 797) (by decide +kernel), List.mem_of_getElem? (i := 798) (by decide +kernel)⟩
theorem lw_p26 : lw_okq (⟨"BellTouchesModel", "sign", "()I"⟩, 20) := ⟨⟨by decide +kernel, by decide +kernel⟩, List.mem_of_getElem? (i := 679) (by decide +kernel), List.mem_of_getElem? (i := 801) (by decide +kernel), List.mem_of_getElem? (i := 802) (by decide +kernel)⟩
theorem lw_p27 : lw_okq (⟨"BellTouchesModel", "wrong", "()V"⟩, 20) := ⟨⟨by decide +kernel, by decide +kernel⟩, List.mem_of_getElem? (i := 679) (by decide +kernel), List.mem_of_getElem? (i := 805) (by decide +kernel), List.mem_of_getElem? (i := 806) (by decide +kernel)⟩
theorem lw_p28 : lw_okq (⟨"BellTouchesModel", "adds", "(I)V"⟩, 20) := ⟨⟨by decide +kernel, by decide +kernel⟩, List.mem_of_getElem? (i := 679) (by decide +kernel), List.mem_of_getElem? (i := 809) (by decide +kernel), List.mem_of_getElem? (i := 810) (by decide +kernel)⟩
theorem lw_p29 : lw_okq (⟨"BellTouchesModel", "words", "()V"⟩, 20) := ⟨⟨by decide +kernel, by decide +kernel⟩, List.mem_of_getElem? (i := 679) (by decide +kernel), List.mem_of_getElem? (i := 813) (by decide +kernel), List.mem_of_getElem? (i := 814) (by decide +kernel)⟩
theorem lw_p30 : lw_okq (⟨"BellTouchesModel", "word", "()Z"⟩, 20) := ⟨⟨by decide +kernel, by decide +kernel⟩, List.mem_of_getElem? (i := 679) (by decide +kernel), List.mem_of_getElem? (i := 817) (by decide +kernel), List.mem_of_getElem? (i := 818) (by decide +kernel)⟩
theorem lw_p31 : lw_okq (⟨"BellTouchesModel", "digits", "()V"⟩, 20) := ⟨⟨by decide +kernel, by decide +kernel⟩, List.mem_of_getElem? (i := 679) (by decide +kernel), List.mem_of_getElem? (i := 821) (by decide +kernel), List.mem_of_getElem? (i := 822) (by decide +kernel)⟩
def lw_privs_2 : List (MethodName × Nat) := [(⟨"BellTouches$Setup", "holdsPattern", "(I)Z"⟩, 11), (⟨"BellTouches$Fewest", "ringTillAgain", "(I)I"⟩, 7), (⟨"BellTouches$Fewest", "isEnd", "(I)Z"⟩, 7), (⟨"BellTouches$Fewest", "backTo", "(I)V"⟩, 7), (⟨"BellTouches", "fitsLast", "(I)Z"⟩, 10), (⟨"BellTouchesModel", "begins", "(I)V"⟩, 20), (⟨"BellTouchesModel", "areKept", "(I)Z"⟩, 20), (⟨"BellTouchesModel", "isGood", "(I)Z"⟩, 20), (⟨"BellTouchesModel", "becomes", "(II)I"⟩, 20), (⟨"BellTouchesModel", "reads", "()V"⟩, 20), (⟨"BellTouchesModel", "sign", "()I"⟩, 20), (⟨"BellTouchesModel", "wrong", "()V"⟩, 20), (⟨"BellTouchesModel", "adds", "(I)V"⟩, 20), (⟨"BellTouchesModel", "words", "()V"⟩, 20), (⟨"BellTouchesModel", "word", "()Z"⟩, 20), (⟨"BellTouchesModel", "digits", "()V"⟩, 20)]
theorem lw_r2 : ∀ q ∈ lw_privs_2, lw_okq q := List.forall_mem_cons.mpr ⟨lw_p16, List.forall_mem_cons.mpr ⟨lw_p17, List.forall_mem_cons.mpr ⟨lw_p18, List.forall_mem_cons.mpr ⟨lw_p19, List.forall_mem_cons.mpr ⟨lw_p20, List.forall_mem_cons.mpr ⟨lw_p21, List.forall_mem_cons.mpr ⟨lw_p22, List.forall_mem_cons.mpr ⟨lw_p23, List.forall_mem_cons.mpr ⟨lw_p24, List.forall_mem_cons.mpr ⟨lw_p25, List.forall_mem_cons.mpr ⟨lw_p26, List.forall_mem_cons.mpr ⟨lw_p27, List.forall_mem_cons.mpr ⟨lw_p28, List.forall_mem_cons.mpr ⟨lw_p29, List.forall_mem_cons.mpr ⟨lw_p30, List.forall_mem_cons.mpr ⟨lw_p31, fun _ h => absurd h List.not_mem_nil⟩⟩⟩⟩⟩⟩⟩⟩⟩⟩⟩⟩⟩⟩⟩⟩
theorem lw_p32 : lw_okq (⟨"BellTouchesModel", "does", "(I)Z"⟩, 20) := ⟨⟨by decide +kernel, by decide +kernel⟩, List.mem_of_getElem? (i := 679) (by decide +kernel), List.mem_of_getElem? (i := 828) (by decide +kernel), List.mem_of_getElem? (i := 829) (by decide +kernel)⟩
theorem lw_p33 : lw_okq (⟨"BellTouchesModel", "areGood", "(I)Z"⟩, 20) := ⟨⟨by decide +kernel, by decide +kernel⟩, List.mem_of_getElem? (i := 679) (by decide +kernel), List.mem_of_getElem? (i := 834) (by decide +kernel), List.mem_of_getElem? (i := 835) (by decide +kernel)⟩
theorem lw_p34 : lw_okq (⟨"BellTouchesModel", "course", "()I"⟩, 20) := ⟨⟨by decide +kernel, by decide +kernel⟩, List.mem_of_getElem? (i := 679) (by decide +kernel), List.mem_of_getElem? (i := 846) (by decide +kernel), List.mem_of_getElem? (i := 847) (by decide +kernel)⟩
theorem lw_p35 : lw_okq (⟨"BellTouchesModel", "keys", "(I)V"⟩, 20) := ⟨⟨by decide +kernel, by decide +kernel⟩, List.mem_of_getElem? (i := 679) (by decide +kernel), List.mem_of_getElem? (i := 850) (by decide +kernel), List.mem_of_getElem? (i := 851) (by decide +kernel)⟩
theorem lw_p36 : lw_okq (⟨"BellTouchesModel", "goes", "(II)V"⟩, 20) := ⟨⟨by decide +kernel, by decide +kernel⟩, List.mem_of_getElem? (i := 679) (by decide +kernel), List.mem_of_getElem? (i := 854) (by decide +kernel), List.mem_of_getElem? (i := 855) (by decide +kernel)⟩
theorem lw_p37 : lw_okq (⟨"BellTouchesModel", "rings", "()V"⟩, 20) := ⟨⟨by decide +kernel, by decide +kernel⟩, List.mem_of_getElem? (i := 679) (by decide +kernel), List.mem_of_getElem? (i := 858) (by decide +kernel), List.mem_of_getElem? (i := 859) (by decide +kernel)⟩
theorem lw_p38 : lw_okq (⟨"BellTouchesModel", "round", "()I"⟩, 20) := ⟨⟨by decide +kernel, by decide +kernel⟩, List.mem_of_getElem? (i := 679) (by decide +kernel), List.mem_of_getElem? (i := 862) (by decide +kernel), List.mem_of_getElem? (i := 863) (by decide +kernel)⟩
theorem lw_p39 : lw_okq (⟨"BellTouchesModel", "wrongRow", "()I"⟩, 20) := ⟨⟨by decide +kernel, by decide +kernel⟩, List.mem_of_getElem? (i := 679) (by decide +kernel), List.mem_of_getElem? (i := 866) (by decide +kernel), List.mem_of_getElem? (i := 867) (by decide +kernel)⟩
theorem lw_p40 : lw_okq (⟨"BellTouchesModel", "first", "(I)I"⟩, 20) := ⟨⟨by decide +kernel, by decide +kernel⟩, List.mem_of_getElem? (i := 679) (by decide +kernel), List.mem_of_getElem? (i := 870) (by decide +kernel), List.mem_of_getElem? (i := 871) (by decide +kernel)⟩
theorem lw_p41 : lw_okq (⟨"BellTouchesModel", "isTrue", "()I"⟩, 20) := ⟨⟨by decide +kernel, by decide +kernel⟩, List.mem_of_getElem? (i := 679) (by decide +kernel), List.mem_of_getElem? (i := 874) (by decide +kernel), List.mem_of_getElem? (i := 875) (by decide +kernel)⟩
theorem lw_p42 : lw_okq (⟨"BellTouchesModel", "isPlace", "(I)Z"⟩, 20) := ⟨⟨by decide +kernel, by decide +kernel⟩, List.mem_of_getElem? (i := 679) (by decide +kernel), List.mem_of_getElem? (i := 882) (by decide +kernel), List.mem_of_getElem? (i := 883) (by decide +kernel)⟩
theorem lw_p43 : lw_okq (⟨"BellTouchesModel", "place", "(II)I"⟩, 20) := ⟨⟨by decide +kernel, by decide +kernel⟩, List.mem_of_getElem? (i := 679) (by decide +kernel), List.mem_of_getElem? (i := 890) (by decide +kernel), List.mem_of_getElem? (i := 891) (by decide +kernel)⟩
theorem lw_p44 : lw_okq (⟨"BellTouchesModel", "musicOf", "(I)I"⟩, 20) := ⟨⟨by decide +kernel, by decide +kernel⟩, List.mem_of_getElem? (i := 679) (by decide +kernel), List.mem_of_getElem? (i := 906) (by decide +kernel), List.mem_of_getElem? (i := 907) (by decide +kernel)⟩
theorem lw_p45 : lw_okq (⟨"BellTouchesModel", "isMusic", "(II)Z"⟩, 20) := ⟨⟨by decide +kernel, by decide +kernel⟩, List.mem_of_getElem? (i := 679) (by decide +kernel), List.mem_of_getElem? (i := 910) (by decide +kernel), List.mem_of_getElem? (i := 911) (by decide +kernel)⟩
theorem lw_p46 : lw_okq (⟨"BellTouchesModel", "isSeen", "()Z"⟩, 20) := ⟨⟨by decide +kernel, by decide +kernel⟩, List.mem_of_getElem? (i := 679) (by decide +kernel), List.mem_of_getElem? (i := 934) (by decide +kernel), List.mem_of_getElem? (i := 935) (by decide +kernel)⟩
def lw_privs_3 : List (MethodName × Nat) := [(⟨"BellTouchesModel", "does", "(I)Z"⟩, 20), (⟨"BellTouchesModel", "areGood", "(I)Z"⟩, 20), (⟨"BellTouchesModel", "course", "()I"⟩, 20), (⟨"BellTouchesModel", "keys", "(I)V"⟩, 20), (⟨"BellTouchesModel", "goes", "(II)V"⟩, 20), (⟨"BellTouchesModel", "rings", "()V"⟩, 20), (⟨"BellTouchesModel", "round", "()I"⟩, 20), (⟨"BellTouchesModel", "wrongRow", "()I"⟩, 20), (⟨"BellTouchesModel", "first", "(I)I"⟩, 20), (⟨"BellTouchesModel", "isTrue", "()I"⟩, 20), (⟨"BellTouchesModel", "isPlace", "(I)Z"⟩, 20), (⟨"BellTouchesModel", "place", "(II)I"⟩, 20), (⟨"BellTouchesModel", "musicOf", "(I)I"⟩, 20), (⟨"BellTouchesModel", "isMusic", "(II)Z"⟩, 20), (⟨"BellTouchesModel", "isSeen", "()Z"⟩, 20)]
theorem lw_r3 : ∀ q ∈ lw_privs_3, lw_okq q := List.forall_mem_cons.mpr ⟨lw_p32, List.forall_mem_cons.mpr ⟨lw_p33, List.forall_mem_cons.mpr ⟨lw_p34, List.forall_mem_cons.mpr ⟨lw_p35, List.forall_mem_cons.mpr ⟨lw_p36, List.forall_mem_cons.mpr ⟨lw_p37, List.forall_mem_cons.mpr ⟨lw_p38, List.forall_mem_cons.mpr ⟨lw_p39, List.forall_mem_cons.mpr ⟨lw_p40, List.forall_mem_cons.mpr ⟨lw_p41, List.forall_mem_cons.mpr ⟨lw_p42, List.forall_mem_cons.mpr ⟨lw_p43, List.forall_mem_cons.mpr ⟨lw_p44, List.forall_mem_cons.mpr ⟨lw_p45, List.forall_mem_cons.mpr ⟨lw_p46, fun _ h => absurd h List.not_mem_nil⟩⟩⟩⟩⟩⟩⟩⟩⟩⟩⟩⟩⟩⟩⟩
def lw_privs : List (MethodName × Nat) := lw_privs_1 ++ (lw_privs_2 ++ (lw_privs_3))
def lw_tbl : List Cond := k2_sels lw_privs ++ tables_1
theorem lw_privs_ok : ∀ q ∈ lw_privs, lw_okq q := by
  show ∀ q ∈ lw_privs_1 ++ (lw_privs_2 ++ (lw_privs_3)), lw_okq q
  exact List.forall_mem_append.mpr ⟨lw_r1, List.forall_mem_append.mpr ⟨lw_r2, lw_r3⟩⟩
end
section
/-! ===== BEGIN words of one list among another's, by their places ===== -/
theorem goodIn_r {big : List Cond} (ws : List Cond) (ps : List Nat) (hp : ws = ps.filterMap (fun i => big[i]?)) (h : ws.all goodWord = true) : GoodIn big ws := by
  intro w hw
  have h1 := List.all_eq_true.mp h w hw
  rw [hp] at hw
  obtain ⟨i, -, hi⟩ := List.mem_filterMap.mp hw
  have hm : w ∈ big := by first | exact List.mem_of_getElem? hi | exact List.getElem?_mem hi
  exact ⟨hm, good_of_word h1⟩
theorem goodIn_app {big a b : List Cond} (ha : GoodIn big a) (hb : GoodIn big b) : GoodIn big (a ++ b) := fun w h => (List.mem_append.mp h).elim (ha w) (hb w)
theorem goodIn_ca {big a b : List Cond} {c : Cond} (ha : GoodIn big (c :: a)) (hb : GoodIn big b) : GoodIn big (c :: (a ++ b)) := fun w h => (List.mem_cons.mp h).elim (fun e => ha w (List.mem_cons.mpr (Or.inl e))) (fun h => (List.mem_append.mp h).elim (fun h => ha w (List.mem_cons.mpr (Or.inr h))) (hb w))
theorem goodIn_sub {big ws : List Cond} (hm : ∀ w ∈ ws, w ∈ big) (h : ws.all goodWord = true) : GoodIn big ws := fun w hw => ⟨hm w hw, good_of_word (List.all_eq_true.mp h w hw)⟩
/-! ===== END ===== -/

/-! ===== BEGIN printed: names, fields, word lists, decode rows ===== -/
def RX0 : String := "BellTouches$Fewest"
def TX0 : u_T := fun k => match k with
  | 0 => ("BellTouches$Fewest", "number", "I", false)
  | 1 => ("BellTouches$Fewest", "notPlain", "I", false)
  | 2 => ("BellTouches$Fewest", "touch", "LBellTouches$Touch;", true)
  | 3 => ("BellTouches$Fewest", "table", "LBellTouches$RowTable;", true)
  | 4 => ("BellTouches$Fewest", "thereIs", "[Z", true)
  | 5 => ("BellTouches$Fewest", "leadCount", "I", false)
  | _ => ("BellTouches$Fewest", "bound", "I", false)
def tyX0 : Nat → FieldType := fun k => match k with
  | 0 => .int
  | 1 => .int
  | 2 => .object "BellTouches$Touch"
  | 3 => .object "BellTouches$RowTable"
  | 4 => .array .boolean
  | 5 => .int
  | _ => .int
abbrev wsX00 : List Cond := u_ws RX0 TX0 7
theorem nmX0 : ∀ a, a < 7 → ∀ b, b < 7 → a ≠ b → (TX0 a).2.1 ≠ (TX0 b).2.1 := by decide +kernel
theorem tyX0_ok : ∀ k, k < 7 → parseFieldDescriptor (TX0 k).2.2.1 = some (tyX0 k) := by decide +kernel
abbrev cX0_init : ByteArray := prog_2_method_1_code
def yX0_init : MethodName := ⟨RX0, "<init>", "()V"⟩
abbrev cX0_find : ByteArray := prog_2_method_2_code
def yX0_find : MethodName := ⟨RX0, "find", "(LBellTouches$Setup;I)V"⟩
abbrev cX0_search : ByteArray := prog_2_method_3_code
def yX0_search : MethodName := ⟨RX0, "search", "(LBellTouches$Fewest;III)V"⟩
abbrev cX0_ringTillAgain : ByteArray := prog_2_method_4_code
def yX0_ringTillAgain : MethodName := ⟨RX0, "ringTillAgain", "(I)I"⟩
abbrev cX0_isEnd : ByteArray := prog_2_method_5_code
def yX0_isEnd : MethodName := ⟨RX0, "isEnd", "(I)Z"⟩
abbrev cX0_backTo : ByteArray := prog_2_method_6_code
def yX0_backTo : MethodName := ⟨RX0, "backTo", "(I)V"⟩
def RX1 : String := "BellTouches$HandRows"
def TX1 : u_T := fun k => match k with
  | 0 => ("BellTouches$HandRows", "first", "[I", true)
  | 1 => ("BellTouches$HandRows", "second", "[I", true)
  | 2 => ("BellTouches$HandRows", "third", "[I", true)
  | _ => ("BellTouches$HandRows", "size", "I", false)
def tyX1 : Nat → FieldType := fun k => match k with
  | 0 => .array .int
  | 1 => .array .int
  | 2 => .array .int
  | _ => .int
abbrev wsX10 : List Cond := u_ws RX1 TX1 4
theorem nmX1 : ∀ a, a < 4 → ∀ b, b < 4 → a ≠ b → (TX1 a).2.1 ≠ (TX1 b).2.1 := by decide +kernel
theorem tyX1_ok : ∀ k, k < 4 → parseFieldDescriptor (TX1 k).2.2.1 = some (tyX1 k) := by decide +kernel
abbrev cX1_init : ByteArray := prog_3_method_1_code
def yX1_init : MethodName := ⟨RX1, "<init>", "(I)V"⟩
abbrev cX1_append : ByteArray := prog_3_method_2_code
def yX1_append : MethodName := ⟨RX1, "append", "(III)Z"⟩
abbrev cX1_copyFrom : ByteArray := prog_3_method_3_code
def yX1_copyFrom : MethodName := ⟨RX1, "copyFrom", "(LBellTouches$HandRows;)V"⟩
def RX2 : String := "BellTouches$Row"
def TX2 : u_T := fun k => match k with
  | _ => ("", "", "", false)
def tyX2 : Nat → FieldType := fun k => match k with
  | _ => .int
abbrev wsX20 : List Cond := u_ws RX2 TX2 0
theorem nmX2 : ∀ a, a < 0 → ∀ b, b < 0 → a ≠ b → (TX2 a).2.1 ≠ (TX2 b).2.1 := by decide +kernel
theorem tyX2_ok : ∀ k, k < 0 → parseFieldDescriptor (TX2 k).2.2.1 = some (tyX2 k) := by decide +kernel
abbrev cX2_rounds : ByteArray := prog_4_method_2_code
def yX2_rounds : MethodName := ⟨RX2, "rounds", "(I)I"⟩
abbrev cX2_bellIn : ByteArray := prog_4_method_3_code
def yX2_bellIn : MethodName := ⟨RX2, "bellIn", "(II)I"⟩
abbrev cX2_placeOf : ByteArray := prog_4_method_4_code
def yX2_placeOf : MethodName := ⟨RX2, "placeOf", "(II)I"⟩
abbrev cX2_isRightAhead : ByteArray := prog_4_method_5_code
def yX2_isRightAhead : MethodName := ⟨RX2, "isRightAhead", "(III)Z"⟩
abbrev cX2_isGood : ByteArray := prog_4_method_6_code
def yX2_isGood : MethodName := ⟨RX2, "isGood", "(II)Z"⟩
abbrev cX2_pairs : ByteArray := prog_4_method_7_code
def yX2_pairs : MethodName := ⟨RX2, "pairs", "(II)I"⟩
abbrev cX2_isKept : ByteArray := prog_4_method_8_code
def yX2_isKept : MethodName := ⟨RX2, "isKept", "(II)Z"⟩
abbrev cX2_swapped : ByteArray := prog_4_method_9_code
def yX2_swapped : MethodName := ⟨RX2, "swapped", "(II)I"⟩
def RX3 : String := "BellTouches$RowTable"
def TX3 : u_T := fun k => match k with
  | _ => ("BellTouches$RowTable", "numbers", "[I", true)
def tyX3 : Nat → FieldType := fun k => match k with
  | _ => .array .int
abbrev wsX30 : List Cond := u_ws RX3 TX3 1
theorem nmX3 : ∀ a, a < 1 → ∀ b, b < 1 → a ≠ b → (TX3 a).2.1 ≠ (TX3 b).2.1 := by decide +kernel
theorem tyX3_ok : ∀ k, k < 1 → parseFieldDescriptor (TX3 k).2.2.1 = some (tyX3 k) := by decide +kernel
abbrev cX3_init : ByteArray := prog_5_method_1_code
def yX3_init : MethodName := ⟨RX3, "<init>", "()V"⟩
abbrev cX3_enter : ByteArray := prog_5_method_2_code
def yX3_enter : MethodName := ⟨RX3, "enter", "([II)I"⟩
abbrev cX3_leave : ByteArray := prog_5_method_3_code
def yX3_leave : MethodName := ⟨RX3, "leave", "([II)V"⟩
abbrev cX3_start : ByteArray := prog_5_method_4_code
def yX3_start : MethodName := ⟨RX3, "start", "(I)I"⟩
def RX4 : String := "BellTouches$Setup"
def TX4 : u_T := fun k => match k with
  | 0 => ("BellTouches$Setup", "n", "I", false)
  | 1 => ("BellTouches$Setup", "changes", "[I", true)
  | 2 => ("BellTouches$Setup", "changeCount", "I", false)
  | 3 => ("BellTouches$Setup", "bob", "I", false)
  | 4 => ("BellTouches$Setup", "single", "I", false)
  | 5 => ("BellTouches$Setup", "leadCalls", "[I", true)
  | 6 => ("BellTouches$Setup", "leadCount", "I", false)
  | 7 => ("BellTouches$Setup", "patternBells", "[I", true)
  | 8 => ("BellTouches$Setup", "seen", "LBellTouches$HandRows;", true)
  | 9 => ("BellTouches$Setup", "events", "LBellTouches$HandRows;", true)
  | _ => ("BellTouches$Setup", "book", "LBellTouches$HandRows;", true)
def tyX4 : Nat → FieldType := fun k => match k with
  | 0 => .int
  | 1 => .array .int
  | 2 => .int
  | 3 => .int
  | 4 => .int
  | 5 => .array .int
  | 6 => .int
  | 7 => .array .int
  | 8 => .object "BellTouches$HandRows"
  | 9 => .object "BellTouches$HandRows"
  | _ => .object "BellTouches$HandRows"
abbrev wsX40 : List Cond := u_ws RX4 TX4 11
theorem nmX4 : ∀ a, a < 11 → ∀ b, b < 11 → a ≠ b → (TX4 a).2.1 ≠ (TX4 b).2.1 := by decide +kernel
theorem tyX4_ok : ∀ k, k < 11 → parseFieldDescriptor (TX4 k).2.2.1 = some (tyX4 k) := by decide +kernel
abbrev cX4_init : ByteArray := prog_6_method_1_code
def yX4_init : MethodName := ⟨RX4, "<init>", "()V"⟩
abbrev cX4_begin : ByteArray := prog_6_method_2_code
def yX4_begin : MethodName := ⟨RX4, "begin", "(I)V"⟩
abbrev cX4_copyFrom : ByteArray := prog_6_method_3_code
def yX4_copyFrom : MethodName := ⟨RX4, "copyFrom", "(LBellTouches$Setup;)V"⟩
abbrev cX4_calledChange : ByteArray := prog_6_method_4_code
def yX4_calledChange : MethodName := ⟨RX4, "calledChange", "(I)I"⟩
abbrev cX4_setCalledChange : ByteArray := prog_6_method_5_code
def yX4_setCalledChange : MethodName := ⟨RX4, "setCalledChange", "(II)V"⟩
abbrev cX4_isMusic : ByteArray := prog_6_method_6_code
def yX4_isMusic : MethodName := ⟨RX4, "isMusic", "(II)Z"⟩
abbrev cX4_holdsPattern : ByteArray := prog_6_method_7_code
def yX4_holdsPattern : MethodName := ⟨RX4, "holdsPattern", "(I)Z"⟩
abbrev cX4_happen : ByteArray := prog_6_method_8_code
def yX4_happen : MethodName := ⟨RX4, "happen", "()V"⟩
def RX5 : String := "BellTouches$SetupText"
def TX5 : u_T := fun k => match k with
  | 0 => ("BellTouches$SetupText", "length", "I", false)
  | 1 => ("BellTouches$SetupText", "signs", "[B", true)
  | 2 => ("BellTouches$SetupText", "place", "I", false)
  | 3 => ("BellTouches$SetupText", "kinds", "[I", true)
  | 4 => ("BellTouches$SetupText", "starts", "[I", true)
  | 5 => ("BellTouches$SetupText", "clauseCount", "I", false)
  | 6 => ("BellTouches$SetupText", "values", "[I", true)
  | _ => ("BellTouches$SetupText", "valueCount", "I", false)
def tyX5 : Nat → FieldType := fun k => match k with
  | 0 => .int
  | 1 => .array .byte
  | 2 => .int
  | 3 => .array .int
  | 4 => .array .int
  | 5 => .int
  | 6 => .array .int
  | _ => .int
abbrev wsX50 : List Cond := u_ws RX5 TX5 8
theorem nmX5 : ∀ a, a < 8 → ∀ b, b < 8 → a ≠ b → (TX5 a).2.1 ≠ (TX5 b).2.1 := by decide +kernel
theorem tyX5_ok : ∀ k, k < 8 → parseFieldDescriptor (TX5 k).2.2.1 = some (tyX5 k) := by decide +kernel
abbrev cX5_init : ByteArray := prog_7_method_1_code
def yX5_init : MethodName := ⟨RX5, "<init>", "()V"⟩
abbrev cX5_append : ByteArray := prog_7_method_2_code
def yX5_append : MethodName := ⟨RX5, "append", "(I)Z"⟩
abbrev cX5_parse : ByteArray := prog_7_method_3_code
def yX5_parse : MethodName := ⟨RX5, "parse", "()I"⟩
abbrev cX5_next : ByteArray := prog_7_method_4_code
def yX5_next : MethodName := ⟨RX5, "next", "()I"⟩
abbrev cX5_parseClause : ByteArray := prog_7_method_5_code
def yX5_parseClause : MethodName := ⟨RX5, "parseClause", "()Z"⟩
abbrev cX5_parseDigit : ByteArray := prog_7_method_6_code
def yX5_parseDigit : MethodName := ⟨RX5, "parseDigit", "()Z"⟩
abbrev cX5_parseWords : ByteArray := prog_7_method_7_code
def yX5_parseWords : MethodName := ⟨RX5, "parseWords", "()Z"⟩
abbrev cX5_parseWord : ByteArray := prog_7_method_8_code
def yX5_parseWord : MethodName := ⟨RX5, "parseWord", "()Z"⟩
abbrev cX5_parseCalls : ByteArray := prog_7_method_9_code
def yX5_parseCalls : MethodName := ⟨RX5, "parseCalls", "()Z"⟩
abbrev cX5_isPlaceSign : ByteArray := prog_7_method_10_code
def yX5_isPlaceSign : MethodName := ⟨RX5, "isPlaceSign", "(I)Z"⟩
abbrev cX5_callOf : ByteArray := prog_7_method_11_code
def yX5_callOf : MethodName := ⟨RX5, "callOf", "(I)I"⟩
abbrev cX5_keep : ByteArray := prog_7_method_12_code
def yX5_keep : MethodName := ⟨RX5, "keep", "(I)V"⟩
abbrev cX5_perform : ByteArray := prog_7_method_13_code
def yX5_perform : MethodName := ⟨RX5, "perform", "(LBellTouches$Setup;)I"⟩
abbrev cX5_performClause : ByteArray := prog_7_method_14_code
def yX5_performClause : MethodName := ⟨RX5, "performClause", "(LBellTouches$Setup;III)Z"⟩
abbrev cX5_beginBells : ByteArray := prog_7_method_15_code
def yX5_beginBells : MethodName := ⟨RX5, "beginBells", "(LBellTouches$Setup;I)Z"⟩
abbrev cX5_setMethod : ByteArray := prog_7_method_16_code
def yX5_setMethod : MethodName := ⟨RX5, "setMethod", "(LBellTouches$Setup;II)Z"⟩
abbrev cX5_setCall : ByteArray := prog_7_method_17_code
def yX5_setCall : MethodName := ⟨RX5, "setCall", "(LBellTouches$Setup;II)Z"⟩
abbrev cX5_setLeads : ByteArray := prog_7_method_18_code
def yX5_setLeads : MethodName := ⟨RX5, "setLeads", "(LBellTouches$Setup;II)Z"⟩
def RX6 : String := "BellTouches$Tape"
def TX6 : u_T := fun k => match k with
  | 0 => ("BellTouches$Tape", "sort", "I", false)
  | 1 => ("BellTouches$Tape", "length", "I", false)
  | _ => ("BellTouches$Tape", "items", "[J", true)
def tyX6 : Nat → FieldType := fun k => match k with
  | 0 => .int
  | 1 => .int
  | _ => .array .long
abbrev wsX60 : List Cond := u_ws RX6 TX6 3
theorem nmX6 : ∀ a, a < 3 → ∀ b, b < 3 → a ≠ b → (TX6 a).2.1 ≠ (TX6 b).2.1 := by decide +kernel
theorem tyX6_ok : ∀ k, k < 3 → parseFieldDescriptor (TX6 k).2.2.1 = some (tyX6 k) := by decide +kernel
abbrev cX6_init : ByteArray := prog_8_method_1_code
def yX6_init : MethodName := ⟨RX6, "<init>", "()V"⟩
abbrev cX6_begin : ByteArray := prog_8_method_2_code
def yX6_begin : MethodName := ⟨RX6, "begin", "(II)V"⟩
abbrev cX6_has : ByteArray := prog_8_method_3_code
def yX6_has : MethodName := ⟨RX6, "has", "(II)Z"⟩
abbrev cX6_narrowed : ByteArray := prog_8_method_4_code
def yX6_narrowed : MethodName := ⟨RX6, "narrowed", "(IJ)J"⟩
def RX7 : String := "BellTouches$Touch"
def TX7 : u_T := fun k => match k with
  | 0 => ("BellTouches$Touch", "rows", "[I", true)
  | 1 => ("BellTouches$Touch", "last", "I", false)
  | 2 => ("BellTouches$Touch", "changeCount", "I", false)
  | 3 => ("BellTouches$Touch", "pairs", "[I", true)
  | 4 => ("BellTouches$Touch", "lastPairs", "[I", true)
  | 5 => ("BellTouches$Touch", "firsts", "[I", true)
  | 6 => ("BellTouches$Touch", "table", "LBellTouches$RowTable;", true)
  | _ => ("BellTouches$Touch", "compared", "Z", false)
def tyX7 : Nat → FieldType := fun k => match k with
  | 0 => .array .int
  | 1 => .int
  | 2 => .int
  | 3 => .array .int
  | 4 => .array .int
  | 5 => .array .int
  | 6 => .object "BellTouches$RowTable"
  | _ => .boolean
abbrev wsX70 : List Cond := u_ws RX7 TX7 8
theorem nmX7 : ∀ a, a < 8 → ∀ b, b < 8 → a ≠ b → (TX7 a).2.1 ≠ (TX7 b).2.1 := by decide +kernel
theorem tyX7_ok : ∀ k, k < 8 → parseFieldDescriptor (TX7 k).2.2.1 = some (tyX7 k) := by decide +kernel
abbrev cX7_init : ByteArray := prog_9_method_1_code
def yX7_init : MethodName := ⟨RX7, "<init>", "()V"⟩
abbrev cX7_ring : ByteArray := prog_9_method_2_code
def yX7_ring : MethodName := ⟨RX7, "ring", "(LBellTouches$Setup;)V"⟩
abbrev cX7_begin : ByteArray := prog_9_method_3_code
def yX7_begin : MethodName := ⟨RX7, "begin", "(LBellTouches$Setup;)V"⟩
abbrev cX7_step : ByteArray := prog_9_method_4_code
def yX7_step : MethodName := ⟨RX7, "step", "(II)V"⟩
abbrev cX7_firstAs : ByteArray := prog_9_method_5_code
def yX7_firstAs : MethodName := ⟨RX7, "firstAs", "(I)I"⟩
abbrev cX7_roundRow : ByteArray := prog_9_method_6_code
def yX7_roundRow : MethodName := ⟨RX7, "roundRow", "()I"⟩
abbrev cX7_falseRow : ByteArray := prog_9_method_7_code
def yX7_falseRow : MethodName := ⟨RX7, "falseRow", "()I"⟩
abbrev cX7_isTrue : ByteArray := prog_9_method_8_code
def yX7_isTrue : MethodName := ⟨RX7, "isTrue", "()Z"⟩
abbrev cX7_course : ByteArray := prog_9_method_9_code
def yX7_course : MethodName := ⟨RX7, "course", "()I"⟩
abbrev cX7_compare : ByteArray := prog_9_method_10_code
def yX7_compare : MethodName := ⟨RX7, "compare", "()V"⟩
def RX8 : String := "BellTouches"
def TX8 : u_T := fun k => match k with
  | 0 => ("BellTouches", "setup", "LBellTouches$Setup;", true)
  | 1 => ("BellTouches", "kept", "LBellTouches$Setup;", true)
  | 2 => ("BellTouches", "trialSetup", "LBellTouches$Setup;", true)
  | 3 => ("BellTouches", "touch", "LBellTouches$Touch;", true)
  | 4 => ("BellTouches", "trial", "LBellTouches$Touch;", true)
  | 5 => ("BellTouches", "fewest", "LBellTouches$Fewest;", true)
  | 6 => ("BellTouches", "text", "LBellTouches$SetupText;", true)
  | 7 => ("BellTouches", "tapes", "[LBellTouches$Tape;", true)
  | 8 => ("BellTouches", "hasImage", "Z", false)
  | _ => ("BellTouches", "stale", "Z", false)
def tyX8 : Nat → FieldType := fun k => match k with
  | 0 => .object "BellTouches$Setup"
  | 1 => .object "BellTouches$Setup"
  | 2 => .object "BellTouches$Setup"
  | 3 => .object "BellTouches$Touch"
  | 4 => .object "BellTouches$Touch"
  | 5 => .object "BellTouches$Fewest"
  | 6 => .object "BellTouches$SetupText"
  | 7 => .array (.object "BellTouches$Tape")
  | 8 => .boolean
  | _ => .boolean
abbrev wsX80 : List Cond := u_ws RX8 TX8 10
theorem nmX8 : ∀ a, a < 10 → ∀ b, b < 10 → a ≠ b → (TX8 a).2.1 ≠ (TX8 b).2.1 := by decide +kernel
theorem tyX8_ok : ∀ k, k < 10 → parseFieldDescriptor (TX8 k).2.2.1 = some (tyX8 k) := by decide +kernel
abbrev cX8_init : ByteArray := prog_1_method_1_code
def yX8_init : MethodName := ⟨RX8, "<init>", "()V"⟩
abbrev cX8_bells : ByteArray := prog_1_method_2_code
def yX8_bells : MethodName := ⟨RX8, "bells", "(I)I"⟩
abbrev cX8_change : ByteArray := prog_1_method_3_code
def yX8_change : MethodName := ⟨RX8, "change", "(I)I"⟩
abbrev cX8_calls : ByteArray := prog_1_method_4_code
def yX8_calls : MethodName := ⟨RX8, "calls", "(II)I"⟩
abbrev cX8_call : ByteArray := prog_1_method_5_code
def yX8_call : MethodName := ⟨RX8, "call", "(II)I"⟩
abbrev cX8_leads : ByteArray := prog_1_method_6_code
def yX8_leads : MethodName := ⟨RX8, "leads", "(I)I"⟩
abbrev cX8_pattern : ByteArray := prog_1_method_7_code
def yX8_pattern : MethodName := ⟨RX8, "pattern", "(II)I"⟩
abbrev cX8_feed : ByteArray := prog_1_method_8_code
def yX8_feed : MethodName := ⟨RX8, "feed", "(I)I"⟩
abbrev cX8_read : ByteArray := prog_1_method_9_code
def yX8_read : MethodName := ⟨RX8, "read", "()I"⟩
abbrev cX8_of : ByteArray := prog_1_method_10_code
def yX8_of : MethodName := ⟨RX8, "of", "(II)I"⟩
abbrev cX8_told : ByteArray := prog_1_method_11_code
def yX8_told : MethodName := ⟨RX8, "told", "(I)I"⟩
abbrev cX8_at : ByteArray := prog_1_method_12_code
def yX8_at : MethodName := ⟨RX8, "at", "(II)I"⟩
abbrev cX8_where : ByteArray := prog_1_method_13_code
def yX8_where : MethodName := ⟨RX8, "where", "(II)I"⟩
abbrev cX8_same : ByteArray := prog_1_method_14_code
def yX8_same : MethodName := ⟨RX8, "same", "(I)I"⟩
abbrev cX8_good : ByteArray := prog_1_method_15_code
def yX8_good : MethodName := ⟨RX8, "good", "(I)I"⟩
abbrev cX8_music : ByteArray := prog_1_method_16_code
def yX8_music : MethodName := ⟨RX8, "music", "(I)I"⟩
abbrev cX8_least : ByteArray := prog_1_method_17_code
def yX8_least : MethodName := ⟨RX8, "least", "(II)I"⟩
abbrev cX8_still : ByteArray := prog_1_method_18_code
def yX8_still : MethodName := ⟨RX8, "still", "(I)I"⟩
abbrev cX8_ahead : ByteArray := prog_1_method_19_code
def yX8_ahead : MethodName := ⟨RX8, "ahead", "(II)I"⟩
abbrev cX8_see : ByteArray := prog_1_method_20_code
def yX8_see : MethodName := ⟨RX8, "see", "(III)I"⟩
abbrev cX8_fits : ByteArray := prog_1_method_21_code
def yX8_fits : MethodName := ⟨RX8, "fits", "(I)I"⟩
abbrev cX8_odds : ByteArray := prog_1_method_22_code
def yX8_odds : MethodName := ⟨RX8, "odds", "(III)J"⟩
abbrev cX8_mean : ByteArray := prog_1_method_23_code
def yX8_mean : MethodName := ⟨RX8, "mean", "(I)J"⟩
abbrev cX8_event : ByteArray := prog_1_method_24_code
def yX8_event : MethodName := ⟨RX8, "event", "(II)I"⟩
abbrev cX8_after : ByteArray := prog_1_method_25_code
def yX8_after : MethodName := ⟨RX8, "after", "(I)I"⟩
abbrev cX8_book : ByteArray := prog_1_method_26_code
def yX8_book : MethodName := ⟨RX8, "book", "(II)I"⟩
abbrev cX8_looked : ByteArray := prog_1_method_27_code
def yX8_looked : MethodName := ⟨RX8, "looked", "()I"⟩
abbrev cX8_judge : ByteArray := prog_1_method_28_code
def yX8_judge : MethodName := ⟨RX8, "judge", "(III)I"⟩
abbrev cX8_image : ByteArray := prog_1_method_29_code
def yX8_image : MethodName := ⟨RX8, "image", "()I"⟩
abbrev cX8_undo : ByteArray := prog_1_method_30_code
def yX8_undo : MethodName := ⟨RX8, "undo", "()I"⟩
abbrev cX8_count : ByteArray := prog_1_method_31_code
def yX8_count : MethodName := ⟨RX8, "count", "(I)I"⟩
abbrev cX8_tape : ByteArray := prog_1_method_32_code
def yX8_tape : MethodName := ⟨RX8, "tape", "(III)I"⟩
abbrev cX8_item : ByteArray := prog_1_method_33_code
def yX8_item : MethodName := ⟨RX8, "item", "(IIJ)I"⟩
abbrev cX8_peek : ByteArray := prog_1_method_34_code
def yX8_peek : MethodName := ⟨RX8, "peek", "(II)J"⟩
abbrev cX8_shift : ByteArray := prog_1_method_35_code
def yX8_shift : MethodName := ⟨RX8, "shift", "(IIIII)I"⟩
abbrev cX8_isPlaces : ByteArray := prog_1_method_36_code
def yX8_isPlaces : MethodName := ⟨RX8, "isPlaces", "(I)Z"⟩
abbrev cX8_isBell : ByteArray := prog_1_method_37_code
def yX8_isBell : MethodName := ⟨RX8, "isBell", "(I)Z"⟩
abbrev cX8_isRow : ByteArray := prog_1_method_38_code
def yX8_isRow : MethodName := ⟨RX8, "isRow", "(I)Z"⟩
abbrev cX8_isLead : ByteArray := prog_1_method_39_code
def yX8_isLead : MethodName := ⟨RX8, "isLead", "(I)Z"⟩
abbrev cX8_isTape : ByteArray := prog_1_method_40_code
def yX8_isTape : MethodName := ⟨RX8, "isTape", "(I)Z"⟩
abbrev cX8_isPart : ByteArray := prog_1_method_41_code
def yX8_isPart : MethodName := ⟨RX8, "isPart", "(I)Z"⟩
abbrev cX8_orNotFound : ByteArray := prog_1_method_42_code
def yX8_orNotFound : MethodName := ⟨RX8, "orNotFound", "(I)I"⟩
abbrev cX8_rung : ByteArray := prog_1_method_43_code
def yX8_rung : MethodName := ⟨RX8, "rung", "()LBellTouches$Touch;"⟩
abbrev cX8_countMusic : ByteArray := prog_1_method_44_code
def yX8_countMusic : MethodName := ⟨RX8, "countMusic", "(I)I"⟩
abbrev cX8_fitsLast : ByteArray := prog_1_method_45_code
def yX8_fitsLast : MethodName := ⟨RX8, "fitsLast", "(I)Z"⟩
abbrev cX8_lowestTerms : ByteArray := prog_1_method_46_code
def yX8_lowestTerms : MethodName := ⟨RX8, "lowestTerms", "(III)J"⟩
def RX9 : String := "BellTouchesModel"
def TX9 : u_T := fun k => match k with
  | 0 => ("BellTouchesModel", "now", "[I", true)
  | 1 => ("BellTouchesModel", "old", "[I", true)
  | 2 => ("BellTouchesModel", "imaged", "Z", false)
  | 3 => ("BellTouchesModel", "last", "I", false)
  | 4 => ("BellTouchesModel", "bell", "[I", true)
  | 5 => ("BellTouchesModel", "key", "[I", true)
  | 6 => ("BellTouchesModel", "texts", "I", false)
  | 7 => ("BellTouchesModel", "text", "[I", true)
  | 8 => ("BellTouchesModel", "at", "I", false)
  | 9 => ("BellTouchesModel", "fault", "I", false)
  | 10 => ("BellTouchesModel", "clauses", "I", false)
  | 11 => ("BellTouchesModel", "clause", "[I", true)
  | 12 => ("BellTouchesModel", "from", "[I", true)
  | 13 => ("BellTouchesModel", "many", "[I", true)
  | 14 => ("BellTouchesModel", "numbers", "I", false)
  | 15 => ("BellTouchesModel", "number", "[I", true)
  | 16 => ("BellTouchesModel", "sort", "[I", true)
  | 17 => ("BellTouchesModel", "long1", "[I", true)
  | 18 => ("BellTouchesModel", "items", "[J", true)
  | _ => ("BellTouchesModel", "moved", "[J", true)
def tyX9 : Nat → FieldType := fun k => match k with
  | 0 => .array .int
  | 1 => .array .int
  | 2 => .boolean
  | 3 => .int
  | 4 => .array .int
  | 5 => .array .int
  | 6 => .int
  | 7 => .array .int
  | 8 => .int
  | 9 => .int
  | 10 => .int
  | 11 => .array .int
  | 12 => .array .int
  | 13 => .array .int
  | 14 => .int
  | 15 => .array .int
  | 16 => .array .int
  | 17 => .array .int
  | 18 => .array .long
  | _ => .array .long
abbrev wsX90 : List Cond := u_ws RX9 TX9 20
theorem nmX9 : ∀ a, a < 20 → ∀ b, b < 20 → a ≠ b → (TX9 a).2.1 ≠ (TX9 b).2.1 := by decide +kernel
theorem tyX9_ok : ∀ k, k < 20 → parseFieldDescriptor (TX9 k).2.2.1 = some (tyX9 k) := by decide +kernel
abbrev cX9_init : ByteArray := prog_11_method_1_code
def yX9_init : MethodName := ⟨RX9, "<init>", "()V"⟩
abbrev cX9_within : ByteArray := prog_11_method_2_code
def yX9_within : MethodName := ⟨RX9, "within", "(III)Z"⟩
abbrev cX9_begins : ByteArray := prog_11_method_3_code
def yX9_begins : MethodName := ⟨RX9, "begins", "(I)V"⟩
abbrev cX9_becomes : ByteArray := prog_11_method_4_code
def yX9_becomes : MethodName := ⟨RX9, "becomes", "(II)I"⟩
abbrev cX9_bells : ByteArray := prog_11_method_5_code
def yX9_bells : MethodName := ⟨RX9, "bells", "(I)I"⟩
abbrev cX9_areKept : ByteArray := prog_11_method_6_code
def yX9_areKept : MethodName := ⟨RX9, "areKept", "(I)Z"⟩
abbrev cX9_isGood : ByteArray := prog_11_method_7_code
def yX9_isGood : MethodName := ⟨RX9, "isGood", "(I)Z"⟩
abbrev cX9_change : ByteArray := prog_11_method_8_code
def yX9_change : MethodName := ⟨RX9, "change", "(I)I"⟩
abbrev cX9_calls : ByteArray := prog_11_method_9_code
def yX9_calls : MethodName := ⟨RX9, "calls", "(II)I"⟩
abbrev cX9_call : ByteArray := prog_11_method_10_code
def yX9_call : MethodName := ⟨RX9, "call", "(II)I"⟩
abbrev cX9_leads : ByteArray := prog_11_method_11_code
def yX9_leads : MethodName := ⟨RX9, "leads", "(I)I"⟩
abbrev cX9_pattern : ByteArray := prog_11_method_12_code
def yX9_pattern : MethodName := ⟨RX9, "pattern", "(II)I"⟩
abbrev cX9_feed : ByteArray := prog_11_method_13_code
def yX9_feed : MethodName := ⟨RX9, "feed", "(I)I"⟩
abbrev cX9_sign : ByteArray := prog_11_method_14_code
def yX9_sign : MethodName := ⟨RX9, "sign", "()I"⟩
abbrev cX9_wrong : ByteArray := prog_11_method_15_code
def yX9_wrong : MethodName := ⟨RX9, "wrong", "()V"⟩
abbrev cX9_adds : ByteArray := prog_11_method_16_code
def yX9_adds : MethodName := ⟨RX9, "adds", "(I)V"⟩
abbrev cX9_digits : ByteArray := prog_11_method_17_code
def yX9_digits : MethodName := ⟨RX9, "digits", "()V"⟩
abbrev cX9_word : ByteArray := prog_11_method_18_code
def yX9_word : MethodName := ⟨RX9, "word", "()Z"⟩
abbrev cX9_words : ByteArray := prog_11_method_19_code
def yX9_words : MethodName := ⟨RX9, "words", "()V"⟩
abbrev cX9_callOf : ByteArray := prog_11_method_20_code
def yX9_callOf : MethodName := ⟨RX9, "callOf", "(I)I"⟩
abbrev cX9_reads : ByteArray := prog_11_method_21_code
def yX9_reads : MethodName := ⟨RX9, "reads", "()V"⟩
abbrev cX9_areGood : ByteArray := prog_11_method_22_code
def yX9_areGood : MethodName := ⟨RX9, "areGood", "(I)Z"⟩
abbrev cX9_does : ByteArray := prog_11_method_23_code
def yX9_does : MethodName := ⟨RX9, "does", "(I)Z"⟩
abbrev cX9_read : ByteArray := prog_11_method_24_code
def yX9_read : MethodName := ⟨RX9, "read", "()I"⟩
abbrev cX9_goes : ByteArray := prog_11_method_25_code
def yX9_goes : MethodName := ⟨RX9, "goes", "(II)V"⟩
abbrev cX9_keys : ByteArray := prog_11_method_26_code
def yX9_keys : MethodName := ⟨RX9, "keys", "(I)V"⟩
abbrev cX9_rings : ByteArray := prog_11_method_27_code
def yX9_rings : MethodName := ⟨RX9, "rings", "()V"⟩
abbrev cX9_round : ByteArray := prog_11_method_28_code
def yX9_round : MethodName := ⟨RX9, "round", "()I"⟩
abbrev cX9_first : ByteArray := prog_11_method_29_code
def yX9_first : MethodName := ⟨RX9, "first", "(I)I"⟩
abbrev cX9_wrongRow : ByteArray := prog_11_method_30_code
def yX9_wrongRow : MethodName := ⟨RX9, "wrongRow", "()I"⟩
abbrev cX9_isTrue : ByteArray := prog_11_method_31_code
def yX9_isTrue : MethodName := ⟨RX9, "isTrue", "()I"⟩
abbrev cX9_course : ByteArray := prog_11_method_32_code
def yX9_course : MethodName := ⟨RX9, "course", "()I"⟩
abbrev cX9_of : ByteArray := prog_11_method_33_code
def yX9_of : MethodName := ⟨RX9, "of", "(II)I"⟩
abbrev cX9_told : ByteArray := prog_11_method_34_code
def yX9_told : MethodName := ⟨RX9, "told", "(I)I"⟩
abbrev cX9_isPlace : ByteArray := prog_11_method_35_code
def yX9_isPlace : MethodName := ⟨RX9, "isPlace", "(I)Z"⟩
abbrev cX9_place : ByteArray := prog_11_method_36_code
def yX9_place : MethodName := ⟨RX9, "place", "(II)I"⟩
abbrev cX9_at : ByteArray := prog_11_method_37_code
def yX9_at : MethodName := ⟨RX9, "at", "(II)I"⟩
abbrev cX9_where : ByteArray := prog_11_method_38_code
def yX9_where : MethodName := ⟨RX9, "where", "(II)I"⟩
abbrev cX9_same : ByteArray := prog_11_method_39_code
def yX9_same : MethodName := ⟨RX9, "same", "(I)I"⟩
abbrev cX9_good : ByteArray := prog_11_method_40_code
def yX9_good : MethodName := ⟨RX9, "good", "(I)I"⟩
abbrev cX9_isMusic : ByteArray := prog_11_method_41_code
def yX9_isMusic : MethodName := ⟨RX9, "isMusic", "(II)Z"⟩
abbrev cX9_musicOf : ByteArray := prog_11_method_42_code
def yX9_musicOf : MethodName := ⟨RX9, "musicOf", "(I)I"⟩
abbrev cX9_music : ByteArray := prog_11_method_43_code
def yX9_music : MethodName := ⟨RX9, "music", "(I)I"⟩
abbrev cX9_least : ByteArray := prog_11_method_44_code
def yX9_least : MethodName := ⟨RX9, "least", "(II)I"⟩
abbrev cX9_still : ByteArray := prog_11_method_45_code
def yX9_still : MethodName := ⟨RX9, "still", "(I)I"⟩
abbrev cX9_ahead : ByteArray := prog_11_method_46_code
def yX9_ahead : MethodName := ⟨RX9, "ahead", "(II)I"⟩
abbrev cX9_see : ByteArray := prog_11_method_47_code
def yX9_see : MethodName := ⟨RX9, "see", "(III)I"⟩
abbrev cX9_isSeen : ByteArray := prog_11_method_48_code
def yX9_isSeen : MethodName := ⟨RX9, "isSeen", "()Z"⟩
abbrev cX9_fits : ByteArray := prog_11_method_49_code
def yX9_fits : MethodName := ⟨RX9, "fits", "(I)I"⟩
abbrev cX9_lowest : ByteArray := prog_11_method_50_code
def yX9_lowest : MethodName := ⟨RX9, "lowest", "(III)J"⟩
abbrev cX9_odds : ByteArray := prog_11_method_51_code
def yX9_odds : MethodName := ⟨RX9, "odds", "(III)J"⟩
abbrev cX9_mean : ByteArray := prog_11_method_52_code
def yX9_mean : MethodName := ⟨RX9, "mean", "(I)J"⟩
abbrev cX9_event : ByteArray := prog_11_method_53_code
def yX9_event : MethodName := ⟨RX9, "event", "(II)I"⟩
abbrev cX9_after : ByteArray := prog_11_method_54_code
def yX9_after : MethodName := ⟨RX9, "after", "(I)I"⟩
abbrev cX9_book : ByteArray := prog_11_method_55_code
def yX9_book : MethodName := ⟨RX9, "book", "(II)I"⟩
abbrev cX9_looked : ByteArray := prog_11_method_56_code
def yX9_looked : MethodName := ⟨RX9, "looked", "()I"⟩
abbrev cX9_isTape : ByteArray := prog_11_method_57_code
def yX9_isTape : MethodName := ⟨RX9, "isTape", "(I)Z"⟩
abbrev cX9_judge : ByteArray := prog_11_method_58_code
def yX9_judge : MethodName := ⟨RX9, "judge", "(III)I"⟩
abbrev cX9_image : ByteArray := prog_11_method_59_code
def yX9_image : MethodName := ⟨RX9, "image", "()I"⟩
abbrev cX9_undo : ByteArray := prog_11_method_60_code
def yX9_undo : MethodName := ⟨RX9, "undo", "()I"⟩
abbrev cX9_count : ByteArray := prog_11_method_61_code
def yX9_count : MethodName := ⟨RX9, "count", "(I)I"⟩
abbrev cX9_tape : ByteArray := prog_11_method_62_code
def yX9_tape : MethodName := ⟨RX9, "tape", "(III)I"⟩
abbrev cX9_item : ByteArray := prog_11_method_63_code
def yX9_item : MethodName := ⟨RX9, "item", "(IIJ)I"⟩
abbrev cX9_peek : ByteArray := prog_11_method_64_code
def yX9_peek : MethodName := ⟨RX9, "peek", "(II)J"⟩
abbrev cX9_shift : ByteArray := prog_11_method_65_code
def yX9_shift : MethodName := ⟨RX9, "shift", "(IIIII)I"⟩
def RJ9 : String := "java/lang/Math"
def TJ9 : u_T := fun k => match k with
  | _ => ("", "", "", false)
def tyJ9 : Nat → FieldType := fun k => match k with
  | _ => .int
abbrev wsJ90 : List Cond := u_ws RJ9 TJ9 0
theorem nmJ9 : ∀ a, a < 0 → ∀ b, b < 0 → a ≠ b → (TJ9 a).2.1 ≠ (TJ9 b).2.1 := by decide +kernel
theorem tyJ9_ok : ∀ k, k < 0 → parseFieldDescriptor (TJ9 k).2.2.1 = some (tyJ9 k) := by decide +kernel
abbrev cJ9_max_7cf53 : ByteArray := prog_12_method_65_code
def yJ9_max_7cf53 : MethodName := ⟨RJ9, "max", "(II)I"⟩
def RJ10 : String := "java/lang/System"
def TJ10 : u_T := fun k => match k with
  | _ => ("", "", "", false)
def tyJ10 : Nat → FieldType := fun k => match k with
  | _ => .int
abbrev wsJ100 : List Cond := u_ws RJ10 TJ10 0
theorem nmJ10 : ∀ a, a < 0 → ∀ b, b < 0 → a ≠ b → (TJ10 a).2.1 ≠ (TJ10 b).2.1 := by decide +kernel
theorem tyJ10_ok : ∀ k, k < 0 → parseFieldDescriptor (TJ10 k).2.2.1 = some (tyJ10 k) := by decide +kernel
def RL : String := "BellTouchesLaw"
abbrev cL_law : ByteArray := code
def yL_law : MethodName := ⟨RL, "law", "([I)Z"⟩
def wsX3_init : List Cond := .code yX3_init cX3_init 1 none :: ([.methodLink RX3 3 objectInit, .instanceMethod objectInit, .code objectInit ⟨#[0xb1]⟩ 1 none, .arrayClass .int, .fieldLink RX3 9 "BellTouches$RowTable" "numbers" "[I"] ++ wsX30)
def wsX7_init : List Cond := .code yX7_init cX7_init 1 none :: ([.methodLink RX7 3 objectInit, .instanceMethod objectInit, .code objectInit ⟨#[0xb1]⟩ 1 none, .arrayClass .int, .fieldLink RX7 9 "BellTouches$Touch" "rows" "[I", .fieldLink RX7 15 "BellTouches$Touch" "last" "I", .fieldLink RX7 19 "BellTouches$Touch" "changeCount" "I", .fieldLink RX7 22 "BellTouches$Touch" "pairs" "[I", .fieldLink RX7 25 "BellTouches$Touch" "lastPairs" "[I", .fieldLink RX7 28 "BellTouches$Touch" "firsts" "[I", .classLink RX7 31 RX3, .instantiable RX3 1, .initialized RX3, .fieldLink RX7 34 "BellTouches$Touch" "table" "LBellTouches$RowTable;", .fieldLink RX7 38 "BellTouches$Touch" "compared" "Z", .instanceMethod yX3_init, .code yX3_init cX3_init 1 none, .methodLink RX3 3 objectInit, .fieldLink RX3 9 "BellTouches$RowTable" "numbers" "[I"] ++ wsX70 ++ wsX30)
def wsX0_init_r1 : List Cond := [Cond.methodLink RX0 3 objectInit, Cond.instanceMethod objectInit, Cond.code objectInit ⟨#[0xb1]⟩ 1 none, Cond.fieldLink RX0 9 "BellTouches$Fewest" "number" "I", Cond.fieldLink RX0 15 "BellTouches$Fewest" "notPlain" "I", Cond.classLink RX0 18 RX7, Cond.instantiable RX7 8, Cond.initialized RX7, Cond.fieldLink RX0 21 "BellTouches$Fewest" "touch" "LBellTouches$Touch;", Cond.classLink RX0 25 RX3, Cond.instantiable RX3 1, Cond.initialized RX3, Cond.fieldLink RX0 28 "BellTouches$Fewest" "table" "LBellTouches$RowTable;", Cond.arrayClass .boolean, Cond.fieldLink RX0 32 "BellTouches$Fewest" "thereIs" "[Z", Cond.fieldLink RX0 36 "BellTouches$Fewest" "leadCount" "I", Cond.fieldLink RX0 39 "BellTouches$Fewest" "bound" "I", Cond.instanceMethod yX7_init, Cond.code yX7_init cX7_init 1 none, Cond.methodLink RX7 3 objectInit, Cond.arrayClass .int, Cond.fieldLink RX7 9 "BellTouches$Touch" "rows" "[I", Cond.fieldLink RX7 15 "BellTouches$Touch" "last" "I", Cond.fieldLink RX7 19 "BellTouches$Touch" "changeCount" "I"]
def wsX0_init_r2 : List Cond := [Cond.fieldLink RX7 22 "BellTouches$Touch" "pairs" "[I", Cond.fieldLink RX7 25 "BellTouches$Touch" "lastPairs" "[I", Cond.fieldLink RX7 28 "BellTouches$Touch" "firsts" "[I", Cond.classLink RX7 31 RX3, Cond.fieldLink RX7 34 "BellTouches$Touch" "table" "LBellTouches$RowTable;", Cond.fieldLink RX7 38 "BellTouches$Touch" "compared" "Z", Cond.instanceMethod yX3_init, Cond.code yX3_init cX3_init 1 none, Cond.methodLink RX3 3 objectInit, Cond.fieldLink RX3 9 "BellTouches$RowTable" "numbers" "[I"]
def wsX0_init : List Cond := .code yX0_init cX0_init 1 none :: ((wsX0_init_r1 ++ wsX0_init_r2) ++ wsX00 ++ wsX70 ++ wsX30)
def wsX2_isKept : List Cond := .code yX2_isKept cX2_isKept 2 (some .boolean) :: ([])
def wsX2_pairs : List Cond := .code yX2_pairs cX2_pairs 4 (some .int) :: ([.methodLink RX2 21 yX2_isKept, .static yX2_isKept, .initialized RX2, .code yX2_isKept cX2_isKept 2 (some .boolean)])
def wsX4_calledChange : List Cond := .code yX4_calledChange cX4_calledChange 2 (some .int) :: ([.fieldLink RX4 22 "BellTouches$Setup" "bob" "I", .fieldLink RX4 25 "BellTouches$Setup" "single" "I"] ++ wsX40)
def wsX2_rounds : List Cond := .code yX2_rounds cX2_rounds 3 (some .int) :: ([])
def wsX7_begin_r1 : List Cond := [Cond.fieldLink RX7 58 "BellTouches$Setup" "changeCount" "I", Cond.fieldLink RX7 19 "BellTouches$Touch" "changeCount" "I", Cond.fieldLink RX7 22 "BellTouches$Touch" "pairs" "[I", Cond.fieldLink RX7 59 "BellTouches$Setup" "n" "I", Cond.fieldLink RX7 62 "BellTouches$Setup" "changes" "[I", Cond.fieldLink RX7 25 "BellTouches$Touch" "lastPairs" "[I", Cond.fieldLink RX7 9 "BellTouches$Touch" "rows" "[I", Cond.fieldLink RX7 15 "BellTouches$Touch" "last" "I", Cond.fieldLink RX7 38 "BellTouches$Touch" "compared" "Z", Cond.methodLink RX7 65 yX2_pairs, Cond.static yX2_pairs, Cond.initialized RX2, Cond.code yX2_pairs cX2_pairs 4 (some .int), Cond.methodLink RX2 21 yX2_isKept, Cond.static yX2_isKept, Cond.code yX2_isKept cX2_isKept 2 (some .boolean), Cond.methodLink RX7 70 yX4_calledChange, Cond.instanceMethod yX4_calledChange, Cond.selects RX4 yX4_calledChange yX4_calledChange, Cond.initialized RX4, Cond.code yX4_calledChange cX4_calledChange 2 (some .int), Cond.fieldLink RX4 22 "BellTouches$Setup" "bob" "I", Cond.fieldLink RX4 25 "BellTouches$Setup" "single" "I", Cond.methodLink RX7 74 yX2_rounds]
def wsX7_begin_r2 : List Cond := [Cond.static yX2_rounds, Cond.code yX2_rounds cX2_rounds 3 (some .int)]
def wsX7_begin : List Cond := .code yX7_begin cX7_begin 4 none :: ((wsX7_begin_r1 ++ wsX7_begin_r2) ++ wsX40 ++ wsX70)
def wsX3_start : List Cond := .code yX3_start cX3_start 1 (some .int) :: ([.constant RX3 17 (-1640531535)])
def wsX3_enter : List Cond := .code yX3_enter cX3_enter 7 (some .int) :: ([.fieldLink RX3 9 "BellTouches$RowTable" "numbers" "[I", .methodLink RX3 13 yX3_start, .static yX3_start, .initialized RX3, .code yX3_start cX3_start 1 (some .int), .constant RX3 17 (-1640531535)] ++ wsX30)
def wsX2_swapped : List Cond := .code yX2_swapped cX2_swapped 3 (some .int) :: ([])
def wsX7_step : List Cond := .code yX7_step cX7_step 4 none :: ([.fieldLink RX7 15 "BellTouches$Touch" "last" "I", .fieldLink RX7 19 "BellTouches$Touch" "changeCount" "I", .fieldLink RX7 25 "BellTouches$Touch" "lastPairs" "[I", .fieldLink RX7 22 "BellTouches$Touch" "pairs" "[I", .fieldLink RX7 9 "BellTouches$Touch" "rows" "[I", .methodLink RX7 77 yX2_swapped, .static yX2_swapped, .initialized RX2, .code yX2_swapped cX2_swapped 3 (some .int)] ++ wsX70)
def wsX0_ringTillAgain_r1 : List Cond := [Cond.fieldLink RX0 21 "BellTouches$Fewest" "touch" "LBellTouches$Touch;", Cond.fieldLink RX0 54 "BellTouches$Touch" "changeCount" "I", Cond.fieldLink RX0 28 "BellTouches$Fewest" "table" "LBellTouches$RowTable;", Cond.fieldLink RX0 57 "BellTouches$Touch" "rows" "[I", Cond.fieldLink RX0 73 "BellTouches$Touch" "last" "I", Cond.methodLink RX0 88 yX7_step, Cond.instanceMethod yX7_step, Cond.selects RX7 yX7_step yX7_step, Cond.initialized RX7, Cond.code yX7_step cX7_step 4 none, Cond.fieldLink RX7 15 "BellTouches$Touch" "last" "I", Cond.fieldLink RX7 19 "BellTouches$Touch" "changeCount" "I", Cond.fieldLink RX7 25 "BellTouches$Touch" "lastPairs" "[I", Cond.fieldLink RX7 22 "BellTouches$Touch" "pairs" "[I", Cond.fieldLink RX7 9 "BellTouches$Touch" "rows" "[I", Cond.methodLink RX7 77 yX2_swapped, Cond.static yX2_swapped, Cond.initialized RX2, Cond.code yX2_swapped cX2_swapped 3 (some .int), Cond.methodLink RX0 61 yX3_enter, Cond.instanceMethod yX3_enter, Cond.selects RX3 yX3_enter yX3_enter, Cond.initialized RX3, Cond.code yX3_enter cX3_enter 7 (some .int)]
def wsX0_ringTillAgain_r2 : List Cond := [Cond.fieldLink RX3 9 "BellTouches$RowTable" "numbers" "[I", Cond.methodLink RX3 13 yX3_start, Cond.static yX3_start, Cond.code yX3_start cX3_start 1 (some .int), Cond.constant RX3 17 (-1640531535)]
def wsX0_ringTillAgain : List Cond := .code yX0_ringTillAgain cX0_ringTillAgain 3 (some .int) :: ((wsX0_ringTillAgain_r1 ++ wsX0_ringTillAgain_r2) ++ wsX00 ++ wsX70 ++ wsX30)
def wsX0_isEnd : List Cond := .code yX0_isEnd cX0_isEnd 2 (some .boolean) :: ([.fieldLink RX0 36 "BellTouches$Fewest" "leadCount" "I", .fieldLink RX0 21 "BellTouches$Fewest" "touch" "LBellTouches$Touch;", .fieldLink RX0 54 "BellTouches$Touch" "changeCount" "I", .fieldLink RX0 57 "BellTouches$Touch" "rows" "[I"] ++ wsX00 ++ wsX70)
def wsX3_leave : List Cond := .code yX3_leave cX3_leave 6 none :: ([.fieldLink RX3 9 "BellTouches$RowTable" "numbers" "[I", .methodLink RX3 13 yX3_start, .static yX3_start, .initialized RX3, .code yX3_start cX3_start 1 (some .int), .constant RX3 17 (-1640531535)] ++ wsX30)
def wsX0_backTo : List Cond := .code yX0_backTo cX0_backTo 3 none :: ([.fieldLink RX0 21 "BellTouches$Fewest" "touch" "LBellTouches$Touch;", .fieldLink RX0 73 "BellTouches$Touch" "last" "I", .fieldLink RX0 28 "BellTouches$Fewest" "table" "LBellTouches$RowTable;", .fieldLink RX0 57 "BellTouches$Touch" "rows" "[I", .methodLink RX0 69 yX3_leave, .instanceMethod yX3_leave, .selects RX3 yX3_leave yX3_leave, .initialized RX3, .code yX3_leave cX3_leave 6 none, .fieldLink RX3 9 "BellTouches$RowTable" "numbers" "[I", .methodLink RX3 13 yX3_start, .static yX3_start, .code yX3_start cX3_start 1 (some .int), .constant RX3 17 (-1640531535)] ++ wsX00 ++ wsX70 ++ wsX30)
def wsX0_search_r1 : List Cond := [Cond.fieldLink RX0 36 "BellTouches$Fewest" "leadCount" "I", Cond.fieldLink RX0 32 "BellTouches$Fewest" "thereIs" "[Z", Cond.fieldLink RX0 39 "BellTouches$Fewest" "bound" "I", Cond.fieldLink RX0 21 "BellTouches$Fewest" "touch" "LBellTouches$Touch;", Cond.fieldLink RX0 73 "BellTouches$Touch" "last" "I", Cond.fieldLink RX0 9 "BellTouches$Fewest" "number" "I", Cond.fieldLink RX0 15 "BellTouches$Fewest" "notPlain" "I", Cond.methodLink RX0 76 yX0_ringTillAgain, Cond.instanceMethod yX0_ringTillAgain, Cond.selects RX0 yX0_ringTillAgain yX0_ringTillAgain, Cond.initialized RX0, Cond.code yX0_ringTillAgain cX0_ringTillAgain 3 (some .int), Cond.fieldLink RX0 54 "BellTouches$Touch" "changeCount" "I", Cond.fieldLink RX0 28 "BellTouches$Fewest" "table" "LBellTouches$RowTable;", Cond.fieldLink RX0 57 "BellTouches$Touch" "rows" "[I", Cond.methodLink RX0 88 yX7_step, Cond.instanceMethod yX7_step, Cond.selects RX7 yX7_step yX7_step, Cond.initialized RX7, Cond.code yX7_step cX7_step 4 none, Cond.fieldLink RX7 15 "BellTouches$Touch" "last" "I", Cond.fieldLink RX7 19 "BellTouches$Touch" "changeCount" "I", Cond.fieldLink RX7 25 "BellTouches$Touch" "lastPairs" "[I", Cond.fieldLink RX7 22 "BellTouches$Touch" "pairs" "[I"]
def wsX0_search_r2 : List Cond := [Cond.fieldLink RX7 9 "BellTouches$Touch" "rows" "[I", Cond.methodLink RX7 77 yX2_swapped, Cond.static yX2_swapped, Cond.initialized RX2, Cond.code yX2_swapped cX2_swapped 3 (some .int), Cond.methodLink RX0 61 yX3_enter, Cond.instanceMethod yX3_enter, Cond.selects RX3 yX3_enter yX3_enter, Cond.initialized RX3, Cond.code yX3_enter cX3_enter 7 (some .int), Cond.fieldLink RX3 9 "BellTouches$RowTable" "numbers" "[I", Cond.methodLink RX3 13 yX3_start, Cond.static yX3_start, Cond.code yX3_start cX3_start 1 (some .int), Cond.constant RX3 17 (-1640531535), Cond.methodLink RX0 65 yX0_search, Cond.static yX0_search, Cond.methodLink RX0 80 yX0_isEnd, Cond.instanceMethod yX0_isEnd, Cond.selects RX0 yX0_isEnd yX0_isEnd, Cond.code yX0_isEnd cX0_isEnd 2 (some .boolean), Cond.methodLink RX0 84 yX0_backTo, Cond.instanceMethod yX0_backTo, Cond.selects RX0 yX0_backTo yX0_backTo]
def wsX0_search_r3 : List Cond := [Cond.code yX0_backTo cX0_backTo 3 none, Cond.methodLink RX0 69 yX3_leave, Cond.instanceMethod yX3_leave, Cond.selects RX3 yX3_leave yX3_leave, Cond.code yX3_leave cX3_leave 6 none]
def wsX0_search : List Cond := .code yX0_search cX0_search 8 none :: ((wsX0_search_r1 ++ (wsX0_search_r2 ++ wsX0_search_r3)) ++ wsX00 ++ wsX70 ++ wsX30)
def wsX0_find_r1 : List Cond := [Cond.fieldLink RX0 9 "BellTouches$Fewest" "number" "I", Cond.fieldLink RX0 15 "BellTouches$Fewest" "notPlain" "I", Cond.fieldLink RX0 36 "BellTouches$Fewest" "leadCount" "I", Cond.fieldLink RX0 39 "BellTouches$Fewest" "bound" "I", Cond.fieldLink RX0 32 "BellTouches$Fewest" "thereIs" "[Z", Cond.fieldLink RX0 42 "BellTouches$Setup" "bob" "I", Cond.fieldLink RX0 47 "BellTouches$Setup" "single" "I", Cond.fieldLink RX0 21 "BellTouches$Fewest" "touch" "LBellTouches$Touch;", Cond.fieldLink RX0 54 "BellTouches$Touch" "changeCount" "I", Cond.fieldLink RX0 28 "BellTouches$Fewest" "table" "LBellTouches$RowTable;", Cond.fieldLink RX0 57 "BellTouches$Touch" "rows" "[I", Cond.methodLink RX0 50 yX7_begin, Cond.instanceMethod yX7_begin, Cond.selects RX7 yX7_begin yX7_begin, Cond.initialized RX7, Cond.code yX7_begin cX7_begin 4 none, Cond.fieldLink RX7 58 "BellTouches$Setup" "changeCount" "I", Cond.fieldLink RX7 19 "BellTouches$Touch" "changeCount" "I", Cond.fieldLink RX7 22 "BellTouches$Touch" "pairs" "[I", Cond.fieldLink RX7 59 "BellTouches$Setup" "n" "I", Cond.fieldLink RX7 62 "BellTouches$Setup" "changes" "[I", Cond.fieldLink RX7 25 "BellTouches$Touch" "lastPairs" "[I", Cond.fieldLink RX7 9 "BellTouches$Touch" "rows" "[I", Cond.fieldLink RX7 15 "BellTouches$Touch" "last" "I"]
def wsX0_find_r2 : List Cond := [Cond.fieldLink RX7 38 "BellTouches$Touch" "compared" "Z", Cond.methodLink RX7 65 yX2_pairs, Cond.static yX2_pairs, Cond.initialized RX2, Cond.code yX2_pairs cX2_pairs 4 (some .int), Cond.methodLink RX2 21 yX2_isKept, Cond.static yX2_isKept, Cond.code yX2_isKept cX2_isKept 2 (some .boolean), Cond.methodLink RX7 70 yX4_calledChange, Cond.instanceMethod yX4_calledChange, Cond.selects RX4 yX4_calledChange yX4_calledChange, Cond.initialized RX4, Cond.code yX4_calledChange cX4_calledChange 2 (some .int), Cond.fieldLink RX4 22 "BellTouches$Setup" "bob" "I", Cond.fieldLink RX4 25 "BellTouches$Setup" "single" "I", Cond.methodLink RX7 74 yX2_rounds, Cond.static yX2_rounds, Cond.code yX2_rounds cX2_rounds 3 (some .int), Cond.methodLink RX0 61 yX3_enter, Cond.instanceMethod yX3_enter, Cond.selects RX3 yX3_enter yX3_enter, Cond.initialized RX3, Cond.code yX3_enter cX3_enter 7 (some .int), Cond.fieldLink RX3 9 "BellTouches$RowTable" "numbers" "[I"]
def wsX0_find_r3 : List Cond := [Cond.methodLink RX3 13 yX3_start, Cond.static yX3_start, Cond.code yX3_start cX3_start 1 (some .int), Cond.constant RX3 17 (-1640531535), Cond.methodLink RX0 65 yX0_search, Cond.static yX0_search, Cond.initialized RX0, Cond.code yX0_search cX0_search 8 none, Cond.fieldLink RX0 73 "BellTouches$Touch" "last" "I", Cond.methodLink RX0 76 yX0_ringTillAgain, Cond.instanceMethod yX0_ringTillAgain, Cond.selects RX0 yX0_ringTillAgain yX0_ringTillAgain, Cond.code yX0_ringTillAgain cX0_ringTillAgain 3 (some .int), Cond.methodLink RX0 88 yX7_step, Cond.instanceMethod yX7_step, Cond.selects RX7 yX7_step yX7_step, Cond.code yX7_step cX7_step 4 none, Cond.methodLink RX7 77 yX2_swapped, Cond.static yX2_swapped, Cond.code yX2_swapped cX2_swapped 3 (some .int), Cond.methodLink RX0 80 yX0_isEnd, Cond.instanceMethod yX0_isEnd, Cond.selects RX0 yX0_isEnd yX0_isEnd, Cond.code yX0_isEnd cX0_isEnd 2 (some .boolean)]
def wsX0_find_r4 : List Cond := [Cond.methodLink RX0 84 yX0_backTo, Cond.instanceMethod yX0_backTo, Cond.selects RX0 yX0_backTo yX0_backTo, Cond.code yX0_backTo cX0_backTo 3 none, Cond.methodLink RX0 69 yX3_leave, Cond.instanceMethod yX3_leave, Cond.selects RX3 yX3_leave yX3_leave, Cond.code yX3_leave cX3_leave 6 none]
def wsX0_find : List Cond := .code yX0_find cX0_find 3 none :: ((wsX0_find_r1 ++ (wsX0_find_r2 ++ (wsX0_find_r3 ++ wsX0_find_r4))) ++ wsX00 ++ wsX40 ++ wsX70 ++ wsX30)
def wsX1_init : List Cond := .code yX1_init cX1_init 3 none :: ([.methodLink RX1 1 objectInit, .instanceMethod objectInit, .code objectInit ⟨#[0xb1]⟩ 1 none, .fieldLink RX1 7 "BellTouches$HandRows" "size" "I", .arrayClass .int, .fieldLink RX1 13 "BellTouches$HandRows" "first" "[I", .fieldLink RX1 17 "BellTouches$HandRows" "second" "[I", .fieldLink RX1 20 "BellTouches$HandRows" "third" "[I"] ++ wsX10)
def wsX1_append : List Cond := .code yX1_append cX1_append 4 (some .boolean) :: ([.fieldLink RX1 7 "BellTouches$HandRows" "size" "I", .fieldLink RX1 13 "BellTouches$HandRows" "first" "[I", .fieldLink RX1 17 "BellTouches$HandRows" "second" "[I", .fieldLink RX1 20 "BellTouches$HandRows" "third" "[I"] ++ wsX10)
def wsX1_copyFrom : List Cond := .code yX1_copyFrom cX1_copyFrom 3 none :: ([.fieldLink RX1 7 "BellTouches$HandRows" "size" "I", .fieldLink RX1 13 "BellTouches$HandRows" "first" "[I", .fieldLink RX1 17 "BellTouches$HandRows" "second" "[I", .fieldLink RX1 20 "BellTouches$HandRows" "third" "[I", .methodLink RX1 23 yX1_append, .instanceMethod yX1_append, .selects RX1 yX1_append yX1_append, .initialized RX1, .code yX1_append cX1_append 4 (some .boolean)] ++ wsX10)
def wsX2_bellIn : List Cond := .code yX2_bellIn cX2_bellIn 2 (some .int) :: ([])
def wsX2_placeOf : List Cond := .code yX2_placeOf cX2_placeOf 3 (some .int) :: ([.methodLink RX2 9 yX2_bellIn, .static yX2_bellIn, .initialized RX2, .code yX2_bellIn cX2_bellIn 2 (some .int)])
def wsX2_isRightAhead : List Cond := .code yX2_isRightAhead cX2_isRightAhead 3 (some .boolean) :: ([.methodLink RX2 15 yX2_placeOf, .static yX2_placeOf, .initialized RX2, .code yX2_placeOf cX2_placeOf 3 (some .int), .methodLink RX2 9 yX2_bellIn, .static yX2_bellIn, .code yX2_bellIn cX2_bellIn 2 (some .int)])
def wsX2_isGood : List Cond := .code yX2_isGood cX2_isGood 2 (some .boolean) :: ([.methodLink RX2 18 yX2_pairs, .static yX2_pairs, .initialized RX2, .code yX2_pairs cX2_pairs 4 (some .int), .methodLink RX2 21 yX2_isKept, .static yX2_isKept, .code yX2_isKept cX2_isKept 2 (some .boolean)])
def wsX4_init_r1 : List Cond := [Cond.methodLink RX4 3 objectInit, Cond.instanceMethod objectInit, Cond.code objectInit ⟨#[0xb1]⟩ 1 none, Cond.fieldLink RX4 9 "BellTouches$Setup" "n" "I", Cond.arrayClass .int, Cond.fieldLink RX4 15 "BellTouches$Setup" "changes" "[I", Cond.fieldLink RX4 19 "BellTouches$Setup" "changeCount" "I", Cond.fieldLink RX4 22 "BellTouches$Setup" "bob" "I", Cond.fieldLink RX4 25 "BellTouches$Setup" "single" "I", Cond.fieldLink RX4 28 "BellTouches$Setup" "leadCalls" "[I", Cond.fieldLink RX4 31 "BellTouches$Setup" "leadCount" "I", Cond.fieldLink RX4 34 "BellTouches$Setup" "patternBells" "[I", Cond.classLink RX4 37 RX1, Cond.instantiable RX1 4, Cond.initialized RX1, Cond.fieldLink RX4 42 "BellTouches$Setup" "seen" "LBellTouches$HandRows;", Cond.fieldLink RX4 46 "BellTouches$Setup" "events" "LBellTouches$HandRows;", Cond.fieldLink RX4 49 "BellTouches$Setup" "book" "LBellTouches$HandRows;", Cond.methodLink RX4 39 yX1_init, Cond.instanceMethod yX1_init, Cond.code yX1_init cX1_init 3 none, Cond.methodLink RX1 1 objectInit, Cond.fieldLink RX1 7 "BellTouches$HandRows" "size" "I", Cond.fieldLink RX1 13 "BellTouches$HandRows" "first" "[I"]
def wsX4_init_r2 : List Cond := [Cond.fieldLink RX1 17 "BellTouches$HandRows" "second" "[I", Cond.fieldLink RX1 20 "BellTouches$HandRows" "third" "[I"]
def wsX4_init : List Cond := .code yX4_init cX4_init 1 none :: ((wsX4_init_r1 ++ wsX4_init_r2) ++ wsX40 ++ wsX10)
def wsX4_begin : List Cond := .code yX4_begin cX4_begin 3 none :: ([.fieldLink RX4 9 "BellTouches$Setup" "n" "I", .fieldLink RX4 19 "BellTouches$Setup" "changeCount" "I", .fieldLink RX4 22 "BellTouches$Setup" "bob" "I", .fieldLink RX4 25 "BellTouches$Setup" "single" "I", .fieldLink RX4 31 "BellTouches$Setup" "leadCount" "I", .fieldLink RX4 28 "BellTouches$Setup" "leadCalls" "[I", .fieldLink RX4 34 "BellTouches$Setup" "patternBells" "[I", .fieldLink RX4 42 "BellTouches$Setup" "seen" "LBellTouches$HandRows;", .fieldLink RX4 52 "BellTouches$HandRows" "size" "I", .fieldLink RX4 46 "BellTouches$Setup" "events" "LBellTouches$HandRows;", .fieldLink RX4 49 "BellTouches$Setup" "book" "LBellTouches$HandRows;"] ++ wsX40 ++ wsX10)
def wsX4_copyFrom_r1 : List Cond := [Cond.fieldLink RX4 9 "BellTouches$Setup" "n" "I", Cond.fieldLink RX4 19 "BellTouches$Setup" "changeCount" "I", Cond.fieldLink RX4 22 "BellTouches$Setup" "bob" "I", Cond.fieldLink RX4 25 "BellTouches$Setup" "single" "I", Cond.fieldLink RX4 31 "BellTouches$Setup" "leadCount" "I", Cond.fieldLink RX4 15 "BellTouches$Setup" "changes" "[I", Cond.methodLink RX4 55 arraycopyName, Cond.native arraycopyName, Cond.static arraycopyName, Cond.initialized "java/lang/System", Cond.fieldLink RX4 28 "BellTouches$Setup" "leadCalls" "[I", Cond.fieldLink RX4 34 "BellTouches$Setup" "patternBells" "[I", Cond.fieldLink RX4 42 "BellTouches$Setup" "seen" "LBellTouches$HandRows;", Cond.fieldLink RX4 46 "BellTouches$Setup" "events" "LBellTouches$HandRows;", Cond.fieldLink RX4 49 "BellTouches$Setup" "book" "LBellTouches$HandRows;", Cond.methodLink RX4 61 yX1_copyFrom, Cond.instanceMethod yX1_copyFrom, Cond.selects RX1 yX1_copyFrom yX1_copyFrom, Cond.initialized RX1, Cond.code yX1_copyFrom cX1_copyFrom 3 none, Cond.fieldLink RX1 7 "BellTouches$HandRows" "size" "I", Cond.fieldLink RX1 13 "BellTouches$HandRows" "first" "[I", Cond.fieldLink RX1 17 "BellTouches$HandRows" "second" "[I", Cond.fieldLink RX1 20 "BellTouches$HandRows" "third" "[I"]
def wsX4_copyFrom_r2 : List Cond := [Cond.methodLink RX1 23 yX1_append, Cond.instanceMethod yX1_append, Cond.selects RX1 yX1_append yX1_append, Cond.code yX1_append cX1_append 4 (some .boolean)]
def wsX4_copyFrom : List Cond := .code yX4_copyFrom cX4_copyFrom 2 none :: ((wsX4_copyFrom_r1 ++ wsX4_copyFrom_r2) ++ wsX40 ++ wsX10)
def wsX4_setCalledChange : List Cond := .code yX4_setCalledChange cX4_setCalledChange 3 none :: ([.fieldLink RX4 22 "BellTouches$Setup" "bob" "I", .fieldLink RX4 25 "BellTouches$Setup" "single" "I"] ++ wsX40)
def wsX4_holdsPattern : List Cond := .code yX4_holdsPattern cX4_holdsPattern 4 (some .boolean) :: ([.fieldLink RX4 9 "BellTouches$Setup" "n" "I", .fieldLink RX4 34 "BellTouches$Setup" "patternBells" "[I", .methodLink RX4 80 yX2_bellIn, .static yX2_bellIn, .initialized RX2, .code yX2_bellIn cX2_bellIn 2 (some .int)] ++ wsX40)
def wsX4_isMusic : List Cond := .code yX4_isMusic cX4_isMusic 4 (some .boolean) :: ([.fieldLink RX4 9 "BellTouches$Setup" "n" "I", .constant RX4 71 (65535), .methodLink RX4 65 yX2_rounds, .static yX2_rounds, .initialized RX2, .code yX2_rounds cX2_rounds 3 (some .int), .methodLink RX4 72 yX4_holdsPattern, .instanceMethod yX4_holdsPattern, .selects RX4 yX4_holdsPattern yX4_holdsPattern, .initialized RX4, .code yX4_holdsPattern cX4_holdsPattern 4 (some .boolean), .fieldLink RX4 34 "BellTouches$Setup" "patternBells" "[I", .methodLink RX4 80 yX2_bellIn, .static yX2_bellIn, .code yX2_bellIn cX2_bellIn 2 (some .int), .methodLink RX4 76 yX2_isRightAhead, .static yX2_isRightAhead, .code yX2_isRightAhead cX2_isRightAhead 3 (some .boolean), .methodLink RX2 15 yX2_placeOf, .static yX2_placeOf, .code yX2_placeOf cX2_placeOf 3 (some .int), .methodLink RX2 9 yX2_bellIn] ++ wsX40)
def wsX4_happen : List Cond := .code yX4_happen cX4_happen 3 none :: ([.fieldLink RX4 46 "BellTouches$Setup" "events" "LBellTouches$HandRows;", .fieldLink RX4 52 "BellTouches$HandRows" "size" "I", .fieldLink RX4 84 "BellTouches$HandRows" "second" "[I", .fieldLink RX4 87 "BellTouches$HandRows" "first" "[I", .fieldLink RX4 28 "BellTouches$Setup" "leadCalls" "[I", .fieldLink RX4 19 "BellTouches$Setup" "changeCount" "I", .methodLink RX4 90 Lib.Math.max.name, .static Lib.Math.max.name, .initialized "java/lang/Math", .code Lib.Math.max.name Lib.Math.max.code 2 (some .int), .fieldLink RX4 31 "BellTouches$Setup" "leadCount" "I"] ++ wsX40 ++ wsX10)
def wsX5_init : List Cond := .code yX5_init cX5_init 1 none :: ([.methodLink RX5 3 objectInit, .instanceMethod objectInit, .code objectInit ⟨#[0xb1]⟩ 1 none, .fieldLink RX5 9 "BellTouches$SetupText" "length" "I", .arrayClass .byte, .fieldLink RX5 15 "BellTouches$SetupText" "signs" "[B", .fieldLink RX5 19 "BellTouches$SetupText" "place" "I", .arrayClass .int, .fieldLink RX5 22 "BellTouches$SetupText" "kinds" "[I", .fieldLink RX5 26 "BellTouches$SetupText" "starts" "[I", .fieldLink RX5 29 "BellTouches$SetupText" "clauseCount" "I", .fieldLink RX5 32 "BellTouches$SetupText" "values" "[I", .fieldLink RX5 35 "BellTouches$SetupText" "valueCount" "I"] ++ wsX50)
def wsX5_append : List Cond := .code yX5_append cX5_append 2 (some .boolean) :: ([.fieldLink RX5 9 "BellTouches$SetupText" "length" "I", .fieldLink RX5 15 "BellTouches$SetupText" "signs" "[B"] ++ wsX50)
def wsX5_next : List Cond := .code yX5_next cX5_next 1 (some .int) :: ([.fieldLink RX5 19 "BellTouches$SetupText" "place" "I", .fieldLink RX5 9 "BellTouches$SetupText" "length" "I", .fieldLink RX5 15 "BellTouches$SetupText" "signs" "[B"] ++ wsX50)
def wsX5_keep : List Cond := .code yX5_keep cX5_keep 2 none :: ([.fieldLink RX5 35 "BellTouches$SetupText" "valueCount" "I", .fieldLink RX5 32 "BellTouches$SetupText" "values" "[I"] ++ wsX50)
def wsX5_parseDigit : List Cond := .code yX5_parseDigit cX5_parseDigit 2 (some .boolean) :: ([.fieldLink RX5 19 "BellTouches$SetupText" "place" "I", .methodLink RX5 38 yX5_next, .instanceMethod yX5_next, .selects RX5 yX5_next yX5_next, .initialized RX5, .code yX5_next cX5_next 1 (some .int), .fieldLink RX5 9 "BellTouches$SetupText" "length" "I", .fieldLink RX5 15 "BellTouches$SetupText" "signs" "[B", .methodLink RX5 58 yX5_keep, .instanceMethod yX5_keep, .selects RX5 yX5_keep yX5_keep, .code yX5_keep cX5_keep 2 none, .fieldLink RX5 35 "BellTouches$SetupText" "valueCount" "I", .fieldLink RX5 32 "BellTouches$SetupText" "values" "[I"] ++ wsX50)
def wsX5_isPlaceSign : List Cond := .code yX5_isPlaceSign cX5_isPlaceSign 1 (some .boolean) :: ([])
def wsX5_parseWord : List Cond := .code yX5_parseWord cX5_parseWord 3 (some .boolean) :: ([.fieldLink RX5 19 "BellTouches$SetupText" "place" "I", .methodLink RX5 38 yX5_next, .instanceMethod yX5_next, .selects RX5 yX5_next yX5_next, .initialized RX5, .code yX5_next cX5_next 1 (some .int), .fieldLink RX5 9 "BellTouches$SetupText" "length" "I", .fieldLink RX5 15 "BellTouches$SetupText" "signs" "[B", .methodLink RX5 58 yX5_keep, .instanceMethod yX5_keep, .selects RX5 yX5_keep yX5_keep, .code yX5_keep cX5_keep 2 none, .fieldLink RX5 35 "BellTouches$SetupText" "valueCount" "I", .fieldLink RX5 32 "BellTouches$SetupText" "values" "[I", .methodLink RX5 62 yX5_isPlaceSign, .static yX5_isPlaceSign, .code yX5_isPlaceSign cX5_isPlaceSign 1 (some .boolean)] ++ wsX50)
def wsX5_parseWords : List Cond := .code yX5_parseWords cX5_parseWords 3 (some .boolean) :: ([.fieldLink RX5 15 "BellTouches$SetupText" "signs" "[B", .fieldLink RX5 19 "BellTouches$SetupText" "place" "I", .methodLink RX5 52 yX5_parseWord, .instanceMethod yX5_parseWord, .selects RX5 yX5_parseWord yX5_parseWord, .initialized RX5, .code yX5_parseWord cX5_parseWord 3 (some .boolean), .methodLink RX5 38 yX5_next, .instanceMethod yX5_next, .selects RX5 yX5_next yX5_next, .code yX5_next cX5_next 1 (some .int), .fieldLink RX5 9 "BellTouches$SetupText" "length" "I", .methodLink RX5 58 yX5_keep, .instanceMethod yX5_keep, .selects RX5 yX5_keep yX5_keep, .code yX5_keep cX5_keep 2 none, .fieldLink RX5 35 "BellTouches$SetupText" "valueCount" "I", .fieldLink RX5 32 "BellTouches$SetupText" "values" "[I", .methodLink RX5 62 yX5_isPlaceSign, .static yX5_isPlaceSign, .code yX5_isPlaceSign cX5_isPlaceSign 1 (some .boolean)] ++ wsX50)
def wsX5_callOf : List Cond := .code yX5_callOf cX5_callOf 1 (some .int) :: ([])
def wsX5_parseCalls : List Cond := .code yX5_parseCalls cX5_parseCalls 2 (some .boolean) :: ([.fieldLink RX5 19 "BellTouches$SetupText" "place" "I", .methodLink RX5 38 yX5_next, .instanceMethod yX5_next, .selects RX5 yX5_next yX5_next, .initialized RX5, .code yX5_next cX5_next 1 (some .int), .fieldLink RX5 9 "BellTouches$SetupText" "length" "I", .fieldLink RX5 15 "BellTouches$SetupText" "signs" "[B", .methodLink RX5 66 yX5_callOf, .static yX5_callOf, .code yX5_callOf cX5_callOf 1 (some .int), .methodLink RX5 58 yX5_keep, .instanceMethod yX5_keep, .selects RX5 yX5_keep yX5_keep, .code yX5_keep cX5_keep 2 none, .fieldLink RX5 35 "BellTouches$SetupText" "valueCount" "I", .fieldLink RX5 32 "BellTouches$SetupText" "values" "[I"] ++ wsX50)
def wsX5_parseClause_r1 : List Cond := [Cond.fieldLink RX5 19 "BellTouches$SetupText" "place" "I", Cond.methodLink RX5 38 yX5_next, Cond.instanceMethod yX5_next, Cond.selects RX5 yX5_next yX5_next, Cond.initialized RX5, Cond.code yX5_next cX5_next 1 (some .int), Cond.fieldLink RX5 9 "BellTouches$SetupText" "length" "I", Cond.fieldLink RX5 15 "BellTouches$SetupText" "signs" "[B", Cond.methodLink RX5 46 yX5_parseDigit, Cond.instanceMethod yX5_parseDigit, Cond.selects RX5 yX5_parseDigit yX5_parseDigit, Cond.code yX5_parseDigit cX5_parseDigit 2 (some .boolean), Cond.methodLink RX5 58 yX5_keep, Cond.instanceMethod yX5_keep, Cond.selects RX5 yX5_keep yX5_keep, Cond.code yX5_keep cX5_keep 2 none, Cond.fieldLink RX5 35 "BellTouches$SetupText" "valueCount" "I", Cond.fieldLink RX5 32 "BellTouches$SetupText" "values" "[I", Cond.methodLink RX5 49 yX5_parseWords, Cond.instanceMethod yX5_parseWords, Cond.selects RX5 yX5_parseWords yX5_parseWords, Cond.code yX5_parseWords cX5_parseWords 3 (some .boolean), Cond.methodLink RX5 52 yX5_parseWord, Cond.instanceMethod yX5_parseWord]
def wsX5_parseClause_r2 : List Cond := [Cond.selects RX5 yX5_parseWord yX5_parseWord, Cond.code yX5_parseWord cX5_parseWord 3 (some .boolean), Cond.methodLink RX5 62 yX5_isPlaceSign, Cond.static yX5_isPlaceSign, Cond.code yX5_isPlaceSign cX5_isPlaceSign 1 (some .boolean), Cond.methodLink RX5 55 yX5_parseCalls, Cond.instanceMethod yX5_parseCalls, Cond.selects RX5 yX5_parseCalls yX5_parseCalls, Cond.code yX5_parseCalls cX5_parseCalls 2 (some .boolean), Cond.methodLink RX5 66 yX5_callOf, Cond.static yX5_callOf, Cond.code yX5_callOf cX5_callOf 1 (some .int)]
def wsX5_parseClause : List Cond := .code yX5_parseClause cX5_parseClause 2 (some .boolean) :: ((wsX5_parseClause_r1 ++ wsX5_parseClause_r2) ++ wsX50)
def wsX5_parse_r1 : List Cond := [Cond.fieldLink RX5 19 "BellTouches$SetupText" "place" "I", Cond.fieldLink RX5 29 "BellTouches$SetupText" "clauseCount" "I", Cond.fieldLink RX5 35 "BellTouches$SetupText" "valueCount" "I", Cond.fieldLink RX5 26 "BellTouches$SetupText" "starts" "[I", Cond.fieldLink RX5 22 "BellTouches$SetupText" "kinds" "[I", Cond.methodLink RX5 38 yX5_next, Cond.instanceMethod yX5_next, Cond.selects RX5 yX5_next yX5_next, Cond.initialized RX5, Cond.code yX5_next cX5_next 1 (some .int), Cond.fieldLink RX5 9 "BellTouches$SetupText" "length" "I", Cond.fieldLink RX5 15 "BellTouches$SetupText" "signs" "[B", Cond.methodLink RX5 42 yX5_parseClause, Cond.instanceMethod yX5_parseClause, Cond.selects RX5 yX5_parseClause yX5_parseClause, Cond.code yX5_parseClause cX5_parseClause 2 (some .boolean), Cond.methodLink RX5 46 yX5_parseDigit, Cond.instanceMethod yX5_parseDigit, Cond.selects RX5 yX5_parseDigit yX5_parseDigit, Cond.code yX5_parseDigit cX5_parseDigit 2 (some .boolean), Cond.methodLink RX5 58 yX5_keep, Cond.instanceMethod yX5_keep, Cond.selects RX5 yX5_keep yX5_keep, Cond.code yX5_keep cX5_keep 2 none]
def wsX5_parse_r2 : List Cond := [Cond.fieldLink RX5 32 "BellTouches$SetupText" "values" "[I", Cond.methodLink RX5 49 yX5_parseWords, Cond.instanceMethod yX5_parseWords, Cond.selects RX5 yX5_parseWords yX5_parseWords, Cond.code yX5_parseWords cX5_parseWords 3 (some .boolean), Cond.methodLink RX5 52 yX5_parseWord, Cond.instanceMethod yX5_parseWord, Cond.selects RX5 yX5_parseWord yX5_parseWord, Cond.code yX5_parseWord cX5_parseWord 3 (some .boolean), Cond.methodLink RX5 62 yX5_isPlaceSign, Cond.static yX5_isPlaceSign, Cond.code yX5_isPlaceSign cX5_isPlaceSign 1 (some .boolean), Cond.methodLink RX5 55 yX5_parseCalls, Cond.instanceMethod yX5_parseCalls, Cond.selects RX5 yX5_parseCalls yX5_parseCalls, Cond.code yX5_parseCalls cX5_parseCalls 2 (some .boolean), Cond.methodLink RX5 66 yX5_callOf, Cond.static yX5_callOf, Cond.code yX5_callOf cX5_callOf 1 (some .int)]
def wsX5_parse : List Cond := .code yX5_parse cX5_parse 2 (some .int) :: ((wsX5_parse_r1 ++ wsX5_parse_r2) ++ wsX50)
def wsX5_beginBells : List Cond := .code yX5_beginBells cX5_beginBells 2 (some .boolean) :: ([.methodLink RX5 88 yX4_begin, .instanceMethod yX4_begin, .selects RX4 yX4_begin yX4_begin, .initialized RX4, .code yX4_begin cX4_begin 3 none, .fieldLink RX4 9 "BellTouches$Setup" "n" "I", .fieldLink RX4 19 "BellTouches$Setup" "changeCount" "I", .fieldLink RX4 22 "BellTouches$Setup" "bob" "I", .fieldLink RX4 25 "BellTouches$Setup" "single" "I", .fieldLink RX4 31 "BellTouches$Setup" "leadCount" "I", .fieldLink RX4 28 "BellTouches$Setup" "leadCalls" "[I", .fieldLink RX4 34 "BellTouches$Setup" "patternBells" "[I", .fieldLink RX4 42 "BellTouches$Setup" "seen" "LBellTouches$HandRows;", .fieldLink RX4 52 "BellTouches$HandRows" "size" "I", .fieldLink RX4 46 "BellTouches$Setup" "events" "LBellTouches$HandRows;", .fieldLink RX4 49 "BellTouches$Setup" "book" "LBellTouches$HandRows;"] ++ wsX40 ++ wsX10)
def wsX5_setMethod : List Cond := .code yX5_setMethod cX5_setMethod 5 (some .boolean) :: ([.fieldLink RX5 93 "BellTouches$Setup" "n" "I", .fieldLink RX5 32 "BellTouches$SetupText" "values" "[I", .fieldLink RX5 102 "BellTouches$Setup" "changeCount" "I", .fieldLink RX5 105 "BellTouches$Setup" "changes" "[I", .methodLink RX5 96 yX2_isGood, .static yX2_isGood, .initialized RX2, .code yX2_isGood cX2_isGood 2 (some .boolean), .methodLink RX2 18 yX2_pairs, .static yX2_pairs, .code yX2_pairs cX2_pairs 4 (some .int), .methodLink RX2 21 yX2_isKept, .static yX2_isKept, .code yX2_isKept cX2_isKept 2 (some .boolean)] ++ wsX40 ++ wsX50)
def wsX5_setCall : List Cond := .code yX5_setCall cX5_setCall 3 (some .boolean) :: ([.fieldLink RX5 93 "BellTouches$Setup" "n" "I", .methodLink RX5 96 yX2_isGood, .static yX2_isGood, .initialized RX2, .code yX2_isGood cX2_isGood 2 (some .boolean), .methodLink RX2 18 yX2_pairs, .static yX2_pairs, .code yX2_pairs cX2_pairs 4 (some .int), .methodLink RX2 21 yX2_isKept, .static yX2_isKept, .code yX2_isKept cX2_isKept 2 (some .boolean), .methodLink RX5 108 yX4_setCalledChange, .instanceMethod yX4_setCalledChange, .selects RX4 yX4_setCalledChange yX4_setCalledChange, .initialized RX4, .code yX4_setCalledChange cX4_setCalledChange 3 none, .fieldLink RX4 22 "BellTouches$Setup" "bob" "I", .fieldLink RX4 25 "BellTouches$Setup" "single" "I"] ++ wsX40)
def wsX5_setLeads : List Cond := .code yX5_setLeads cX5_setLeads 5 (some .boolean) :: ([.fieldLink RX5 112 "BellTouches$Setup" "leadCount" "I", .fieldLink RX5 115 "BellTouches$Setup" "leadCalls" "[I", .fieldLink RX5 32 "BellTouches$SetupText" "values" "[I"] ++ wsX40 ++ wsX50)
def wsX5_performClause_r1 : List Cond := [Cond.fieldLink RX5 32 "BellTouches$SetupText" "values" "[I", Cond.methodLink RX5 74 yX5_beginBells, Cond.static yX5_beginBells, Cond.initialized RX5, Cond.code yX5_beginBells cX5_beginBells 2 (some .boolean), Cond.methodLink RX5 88 yX4_begin, Cond.instanceMethod yX4_begin, Cond.selects RX4 yX4_begin yX4_begin, Cond.initialized RX4, Cond.code yX4_begin cX4_begin 3 none, Cond.fieldLink RX4 9 "BellTouches$Setup" "n" "I", Cond.fieldLink RX4 19 "BellTouches$Setup" "changeCount" "I", Cond.fieldLink RX4 22 "BellTouches$Setup" "bob" "I", Cond.fieldLink RX4 25 "BellTouches$Setup" "single" "I", Cond.fieldLink RX4 31 "BellTouches$Setup" "leadCount" "I", Cond.fieldLink RX4 28 "BellTouches$Setup" "leadCalls" "[I", Cond.fieldLink RX4 34 "BellTouches$Setup" "patternBells" "[I", Cond.fieldLink RX4 42 "BellTouches$Setup" "seen" "LBellTouches$HandRows;", Cond.fieldLink RX4 52 "BellTouches$HandRows" "size" "I", Cond.fieldLink RX4 46 "BellTouches$Setup" "events" "LBellTouches$HandRows;", Cond.fieldLink RX4 49 "BellTouches$Setup" "book" "LBellTouches$HandRows;", Cond.methodLink RX5 78 yX5_setMethod, Cond.instanceMethod yX5_setMethod, Cond.selects RX5 yX5_setMethod yX5_setMethod]
def wsX5_performClause_r2 : List Cond := [Cond.code yX5_setMethod cX5_setMethod 5 (some .boolean), Cond.fieldLink RX5 93 "BellTouches$Setup" "n" "I", Cond.fieldLink RX5 102 "BellTouches$Setup" "changeCount" "I", Cond.fieldLink RX5 105 "BellTouches$Setup" "changes" "[I", Cond.methodLink RX5 96 yX2_isGood, Cond.static yX2_isGood, Cond.initialized RX2, Cond.code yX2_isGood cX2_isGood 2 (some .boolean), Cond.methodLink RX2 18 yX2_pairs, Cond.static yX2_pairs, Cond.code yX2_pairs cX2_pairs 4 (some .int), Cond.methodLink RX2 21 yX2_isKept, Cond.static yX2_isKept, Cond.code yX2_isKept cX2_isKept 2 (some .boolean), Cond.methodLink RX5 82 yX5_setCall, Cond.static yX5_setCall, Cond.code yX5_setCall cX5_setCall 3 (some .boolean), Cond.methodLink RX5 108 yX4_setCalledChange, Cond.instanceMethod yX4_setCalledChange, Cond.selects RX4 yX4_setCalledChange yX4_setCalledChange, Cond.code yX4_setCalledChange cX4_setCalledChange 3 none, Cond.methodLink RX5 85 yX5_setLeads, Cond.instanceMethod yX5_setLeads, Cond.selects RX5 yX5_setLeads yX5_setLeads]
def wsX5_performClause_r3 : List Cond := [Cond.code yX5_setLeads cX5_setLeads 5 (some .boolean), Cond.fieldLink RX5 112 "BellTouches$Setup" "leadCount" "I", Cond.fieldLink RX5 115 "BellTouches$Setup" "leadCalls" "[I"]
def wsX5_performClause : List Cond := .code yX5_performClause cX5_performClause 5 (some .boolean) :: ((wsX5_performClause_r1 ++ (wsX5_performClause_r2 ++ wsX5_performClause_r3)) ++ wsX50 ++ wsX40 ++ wsX10)
def wsX5_perform_r1 : List Cond := [Cond.fieldLink RX5 29 "BellTouches$SetupText" "clauseCount" "I", Cond.fieldLink RX5 22 "BellTouches$SetupText" "kinds" "[I", Cond.fieldLink RX5 26 "BellTouches$SetupText" "starts" "[I", Cond.methodLink RX5 70 yX5_performClause, Cond.instanceMethod yX5_performClause, Cond.selects RX5 yX5_performClause yX5_performClause, Cond.initialized RX5, Cond.code yX5_performClause cX5_performClause 5 (some .boolean), Cond.fieldLink RX5 32 "BellTouches$SetupText" "values" "[I", Cond.methodLink RX5 74 yX5_beginBells, Cond.static yX5_beginBells, Cond.code yX5_beginBells cX5_beginBells 2 (some .boolean), Cond.methodLink RX5 88 yX4_begin, Cond.instanceMethod yX4_begin, Cond.selects RX4 yX4_begin yX4_begin, Cond.initialized RX4, Cond.code yX4_begin cX4_begin 3 none, Cond.fieldLink RX4 9 "BellTouches$Setup" "n" "I", Cond.fieldLink RX4 19 "BellTouches$Setup" "changeCount" "I", Cond.fieldLink RX4 22 "BellTouches$Setup" "bob" "I", Cond.fieldLink RX4 25 "BellTouches$Setup" "single" "I", Cond.fieldLink RX4 31 "BellTouches$Setup" "leadCount" "I", Cond.fieldLink RX4 28 "BellTouches$Setup" "leadCalls" "[I", Cond.fieldLink RX4 34 "BellTouches$Setup" "patternBells" "[I"]
def wsX5_perform_r2 : List Cond := [Cond.fieldLink RX4 42 "BellTouches$Setup" "seen" "LBellTouches$HandRows;", Cond.fieldLink RX4 52 "BellTouches$HandRows" "size" "I", Cond.fieldLink RX4 46 "BellTouches$Setup" "events" "LBellTouches$HandRows;", Cond.fieldLink RX4 49 "BellTouches$Setup" "book" "LBellTouches$HandRows;", Cond.methodLink RX5 78 yX5_setMethod, Cond.instanceMethod yX5_setMethod, Cond.selects RX5 yX5_setMethod yX5_setMethod, Cond.code yX5_setMethod cX5_setMethod 5 (some .boolean), Cond.fieldLink RX5 93 "BellTouches$Setup" "n" "I", Cond.fieldLink RX5 102 "BellTouches$Setup" "changeCount" "I", Cond.fieldLink RX5 105 "BellTouches$Setup" "changes" "[I", Cond.methodLink RX5 96 yX2_isGood, Cond.static yX2_isGood, Cond.initialized RX2, Cond.code yX2_isGood cX2_isGood 2 (some .boolean), Cond.methodLink RX2 18 yX2_pairs, Cond.static yX2_pairs, Cond.code yX2_pairs cX2_pairs 4 (some .int), Cond.methodLink RX2 21 yX2_isKept, Cond.static yX2_isKept, Cond.code yX2_isKept cX2_isKept 2 (some .boolean), Cond.methodLink RX5 82 yX5_setCall, Cond.static yX5_setCall, Cond.code yX5_setCall cX5_setCall 3 (some .boolean)]
def wsX5_perform_r3 : List Cond := [Cond.methodLink RX5 108 yX4_setCalledChange, Cond.instanceMethod yX4_setCalledChange, Cond.selects RX4 yX4_setCalledChange yX4_setCalledChange, Cond.code yX4_setCalledChange cX4_setCalledChange 3 none, Cond.methodLink RX5 85 yX5_setLeads, Cond.instanceMethod yX5_setLeads, Cond.selects RX5 yX5_setLeads yX5_setLeads, Cond.code yX5_setLeads cX5_setLeads 5 (some .boolean), Cond.fieldLink RX5 112 "BellTouches$Setup" "leadCount" "I", Cond.fieldLink RX5 115 "BellTouches$Setup" "leadCalls" "[I"]
def wsX5_perform : List Cond := .code yX5_perform cX5_perform 4 (some .int) :: ((wsX5_perform_r1 ++ (wsX5_perform_r2 ++ wsX5_perform_r3)) ++ wsX50 ++ wsX40 ++ wsX10)
def wsX6_init : List Cond := .code yX6_init cX6_init 1 none :: ([.methodLink RX6 3 objectInit, .instanceMethod objectInit, .code objectInit ⟨#[0xb1]⟩ 1 none, .fieldLink RX6 9 "BellTouches$Tape" "sort" "I", .fieldLink RX6 15 "BellTouches$Tape" "length" "I", .arrayClass .long, .fieldLink RX6 18 "BellTouches$Tape" "items" "[J"] ++ wsX60)
def wsX6_begin : List Cond := .code yX6_begin cX6_begin 4 none :: ([.fieldLink RX6 9 "BellTouches$Tape" "sort" "I", .fieldLink RX6 15 "BellTouches$Tape" "length" "I", .fieldLink RX6 18 "BellTouches$Tape" "items" "[J"] ++ wsX60)
def wsX6_has : List Cond := .code yX6_has cX6_has 3 (some .boolean) :: ([.fieldLink RX6 15 "BellTouches$Tape" "length" "I"] ++ wsX60)
def wsX6_narrowed : List Cond := .code yX6_narrowed cX6_narrowed 3 (some .long) :: ([])
def wsX7_ring_r1 : List Cond := [Cond.fieldLink RX7 46 "BellTouches$Setup" "leadCount" "I", Cond.fieldLink RX7 19 "BellTouches$Touch" "changeCount" "I", Cond.fieldLink RX7 51 "BellTouches$Setup" "leadCalls" "[I", Cond.methodLink RX7 42 yX7_begin, Cond.instanceMethod yX7_begin, Cond.selects RX7 yX7_begin yX7_begin, Cond.initialized RX7, Cond.code yX7_begin cX7_begin 4 none, Cond.fieldLink RX7 58 "BellTouches$Setup" "changeCount" "I", Cond.fieldLink RX7 22 "BellTouches$Touch" "pairs" "[I", Cond.fieldLink RX7 59 "BellTouches$Setup" "n" "I", Cond.fieldLink RX7 62 "BellTouches$Setup" "changes" "[I", Cond.fieldLink RX7 25 "BellTouches$Touch" "lastPairs" "[I", Cond.fieldLink RX7 9 "BellTouches$Touch" "rows" "[I", Cond.fieldLink RX7 15 "BellTouches$Touch" "last" "I", Cond.fieldLink RX7 38 "BellTouches$Touch" "compared" "Z", Cond.methodLink RX7 65 yX2_pairs, Cond.static yX2_pairs, Cond.initialized RX2, Cond.code yX2_pairs cX2_pairs 4 (some .int), Cond.methodLink RX2 21 yX2_isKept, Cond.static yX2_isKept, Cond.code yX2_isKept cX2_isKept 2 (some .boolean), Cond.methodLink RX7 70 yX4_calledChange]
def wsX7_ring_r2 : List Cond := [Cond.instanceMethod yX4_calledChange, Cond.selects RX4 yX4_calledChange yX4_calledChange, Cond.initialized RX4, Cond.code yX4_calledChange cX4_calledChange 2 (some .int), Cond.fieldLink RX4 22 "BellTouches$Setup" "bob" "I", Cond.fieldLink RX4 25 "BellTouches$Setup" "single" "I", Cond.methodLink RX7 74 yX2_rounds, Cond.static yX2_rounds, Cond.code yX2_rounds cX2_rounds 3 (some .int), Cond.methodLink RX7 54 yX7_step, Cond.instanceMethod yX7_step, Cond.selects RX7 yX7_step yX7_step, Cond.code yX7_step cX7_step 4 none, Cond.methodLink RX7 77 yX2_swapped, Cond.static yX2_swapped, Cond.code yX2_swapped cX2_swapped 3 (some .int)]
def wsX7_ring : List Cond := .code yX7_ring cX7_ring 4 none :: ((wsX7_ring_r1 ++ wsX7_ring_r2) ++ wsX40 ++ wsX70)
def wsX7_compare : List Cond := .code yX7_compare cX7_compare 2 none :: ([.fieldLink RX7 38 "BellTouches$Touch" "compared" "Z", .fieldLink RX7 15 "BellTouches$Touch" "last" "I", .fieldLink RX7 28 "BellTouches$Touch" "firsts" "[I", .fieldLink RX7 34 "BellTouches$Touch" "table" "LBellTouches$RowTable;", .fieldLink RX7 9 "BellTouches$Touch" "rows" "[I", .methodLink RX7 87 yX3_enter, .instanceMethod yX3_enter, .selects RX3 yX3_enter yX3_enter, .initialized RX3, .code yX3_enter cX3_enter 7 (some .int), .fieldLink RX3 9 "BellTouches$RowTable" "numbers" "[I", .methodLink RX3 13 yX3_start, .static yX3_start, .code yX3_start cX3_start 1 (some .int), .constant RX3 17 (-1640531535), .methodLink RX7 91 yX3_leave, .instanceMethod yX3_leave, .selects RX3 yX3_leave yX3_leave, .code yX3_leave cX3_leave 6 none] ++ wsX70 ++ wsX30)
def wsX7_firstAs : List Cond := .code yX7_firstAs cX7_firstAs 2 (some .int) :: ([.fieldLink RX7 28 "BellTouches$Touch" "firsts" "[I", .methodLink RX7 80 yX7_compare, .instanceMethod yX7_compare, .selects RX7 yX7_compare yX7_compare, .initialized RX7, .code yX7_compare cX7_compare 2 none, .fieldLink RX7 38 "BellTouches$Touch" "compared" "Z", .fieldLink RX7 15 "BellTouches$Touch" "last" "I", .fieldLink RX7 34 "BellTouches$Touch" "table" "LBellTouches$RowTable;", .fieldLink RX7 9 "BellTouches$Touch" "rows" "[I", .methodLink RX7 87 yX3_enter, .instanceMethod yX3_enter, .selects RX3 yX3_enter yX3_enter, .initialized RX3, .code yX3_enter cX3_enter 7 (some .int), .fieldLink RX3 9 "BellTouches$RowTable" "numbers" "[I", .methodLink RX3 13 yX3_start, .static yX3_start, .code yX3_start cX3_start 1 (some .int), .constant RX3 17 (-1640531535), .methodLink RX7 91 yX3_leave, .instanceMethod yX3_leave, .selects RX3 yX3_leave yX3_leave, .code yX3_leave cX3_leave 6 none] ++ wsX70 ++ wsX30)
def wsX7_roundRow : List Cond := .code yX7_roundRow cX7_roundRow 2 (some .int) :: ([.fieldLink RX7 15 "BellTouches$Touch" "last" "I", .fieldLink RX7 28 "BellTouches$Touch" "firsts" "[I", .methodLink RX7 80 yX7_compare, .instanceMethod yX7_compare, .selects RX7 yX7_compare yX7_compare, .initialized RX7, .code yX7_compare cX7_compare 2 none, .fieldLink RX7 38 "BellTouches$Touch" "compared" "Z", .fieldLink RX7 34 "BellTouches$Touch" "table" "LBellTouches$RowTable;", .fieldLink RX7 9 "BellTouches$Touch" "rows" "[I", .methodLink RX7 87 yX3_enter, .instanceMethod yX3_enter, .selects RX3 yX3_enter yX3_enter, .initialized RX3, .code yX3_enter cX3_enter 7 (some .int), .fieldLink RX3 9 "BellTouches$RowTable" "numbers" "[I", .methodLink RX3 13 yX3_start, .static yX3_start, .code yX3_start cX3_start 1 (some .int), .constant RX3 17 (-1640531535), .methodLink RX7 91 yX3_leave, .instanceMethod yX3_leave, .selects RX3 yX3_leave yX3_leave, .code yX3_leave cX3_leave 6 none] ++ wsX70 ++ wsX30)
def wsX7_falseRow : List Cond := .code yX7_falseRow cX7_falseRow 3 (some .int) :: ([.fieldLink RX7 15 "BellTouches$Touch" "last" "I", .fieldLink RX7 28 "BellTouches$Touch" "firsts" "[I", .methodLink RX7 80 yX7_compare, .instanceMethod yX7_compare, .selects RX7 yX7_compare yX7_compare, .initialized RX7, .code yX7_compare cX7_compare 2 none, .fieldLink RX7 38 "BellTouches$Touch" "compared" "Z", .fieldLink RX7 34 "BellTouches$Touch" "table" "LBellTouches$RowTable;", .fieldLink RX7 9 "BellTouches$Touch" "rows" "[I", .methodLink RX7 87 yX3_enter, .instanceMethod yX3_enter, .selects RX3 yX3_enter yX3_enter, .initialized RX3, .code yX3_enter cX3_enter 7 (some .int), .fieldLink RX3 9 "BellTouches$RowTable" "numbers" "[I", .methodLink RX3 13 yX3_start, .static yX3_start, .code yX3_start cX3_start 1 (some .int), .constant RX3 17 (-1640531535), .methodLink RX7 91 yX3_leave, .instanceMethod yX3_leave, .selects RX3 yX3_leave yX3_leave, .code yX3_leave cX3_leave 6 none] ++ wsX70 ++ wsX30)
def wsX7_isTrue_r1 : List Cond := [Cond.fieldLink RX7 15 "BellTouches$Touch" "last" "I", Cond.fieldLink RX7 9 "BellTouches$Touch" "rows" "[I", Cond.methodLink RX7 83 yX7_falseRow, Cond.instanceMethod yX7_falseRow, Cond.selects RX7 yX7_falseRow yX7_falseRow, Cond.initialized RX7, Cond.code yX7_falseRow cX7_falseRow 3 (some .int), Cond.fieldLink RX7 28 "BellTouches$Touch" "firsts" "[I", Cond.methodLink RX7 80 yX7_compare, Cond.instanceMethod yX7_compare, Cond.selects RX7 yX7_compare yX7_compare, Cond.code yX7_compare cX7_compare 2 none, Cond.fieldLink RX7 38 "BellTouches$Touch" "compared" "Z", Cond.fieldLink RX7 34 "BellTouches$Touch" "table" "LBellTouches$RowTable;", Cond.methodLink RX7 87 yX3_enter, Cond.instanceMethod yX3_enter, Cond.selects RX3 yX3_enter yX3_enter, Cond.initialized RX3, Cond.code yX3_enter cX3_enter 7 (some .int), Cond.fieldLink RX3 9 "BellTouches$RowTable" "numbers" "[I", Cond.methodLink RX3 13 yX3_start, Cond.static yX3_start, Cond.code yX3_start cX3_start 1 (some .int), Cond.constant RX3 17 (-1640531535)]
def wsX7_isTrue_r2 : List Cond := [Cond.methodLink RX7 91 yX3_leave, Cond.instanceMethod yX3_leave, Cond.selects RX3 yX3_leave yX3_leave, Cond.code yX3_leave cX3_leave 6 none]
def wsX7_isTrue : List Cond := .code yX7_isTrue cX7_isTrue 1 (some .boolean) :: ((wsX7_isTrue_r1 ++ wsX7_isTrue_r2) ++ wsX70 ++ wsX30)
def wsX7_course : List Cond := .code yX7_course cX7_course 4 (some .int) :: ([.fieldLink RX7 9 "BellTouches$Touch" "rows" "[I", .fieldLink RX7 19 "BellTouches$Touch" "changeCount" "I", .fieldLink RX7 22 "BellTouches$Touch" "pairs" "[I", .methodLink RX7 77 yX2_swapped, .static yX2_swapped, .initialized RX2, .code yX2_swapped cX2_swapped 3 (some .int)] ++ wsX70)
def wsX8_init_r1 : List Cond := [Cond.methodLink RX8 5 objectInit, Cond.instanceMethod objectInit, Cond.code objectInit ⟨#[0xb1]⟩ 1 none, Cond.classLink RX8 11 RX4, Cond.instantiable RX4 11, Cond.initialized RX4, Cond.fieldLink RX8 14 "BellTouches" "setup" "LBellTouches$Setup;", Cond.fieldLink RX8 18 "BellTouches" "kept" "LBellTouches$Setup;", Cond.fieldLink RX8 21 "BellTouches" "trialSetup" "LBellTouches$Setup;", Cond.classLink RX8 24 RX7, Cond.instantiable RX7 8, Cond.initialized RX7, Cond.fieldLink RX8 27 "BellTouches" "touch" "LBellTouches$Touch;", Cond.fieldLink RX8 31 "BellTouches" "trial" "LBellTouches$Touch;", Cond.classLink RX8 34 RX0, Cond.instantiable RX0 7, Cond.initialized RX0, Cond.fieldLink RX8 37 "BellTouches" "fewest" "LBellTouches$Fewest;", Cond.classLink RX8 41 RX5, Cond.instantiable RX5 8, Cond.initialized RX5, Cond.fieldLink RX8 44 "BellTouches" "text" "LBellTouches$SetupText;", Cond.classLink RX8 48 RX6, Cond.fieldLink RX8 50 "BellTouches" "tapes" "[LBellTouches$Tape;"]
def wsX8_init_r2 : List Cond := [Cond.fieldLink RX8 54 "BellTouches" "hasImage" "Z", Cond.fieldLink RX8 58 "BellTouches" "stale" "Z", Cond.instantiable RX6 3, Cond.initialized RX6, Cond.instanceMethod yX4_init, Cond.code yX4_init cX4_init 1 none, Cond.methodLink RX4 3 objectInit, Cond.fieldLink RX4 9 "BellTouches$Setup" "n" "I", Cond.arrayClass .int, Cond.fieldLink RX4 15 "BellTouches$Setup" "changes" "[I", Cond.fieldLink RX4 19 "BellTouches$Setup" "changeCount" "I", Cond.fieldLink RX4 22 "BellTouches$Setup" "bob" "I", Cond.fieldLink RX4 25 "BellTouches$Setup" "single" "I", Cond.fieldLink RX4 28 "BellTouches$Setup" "leadCalls" "[I", Cond.fieldLink RX4 31 "BellTouches$Setup" "leadCount" "I", Cond.fieldLink RX4 34 "BellTouches$Setup" "patternBells" "[I", Cond.classLink RX4 37 RX1, Cond.instantiable RX1 4, Cond.initialized RX1, Cond.fieldLink RX4 42 "BellTouches$Setup" "seen" "LBellTouches$HandRows;", Cond.fieldLink RX4 46 "BellTouches$Setup" "events" "LBellTouches$HandRows;", Cond.fieldLink RX4 49 "BellTouches$Setup" "book" "LBellTouches$HandRows;", Cond.methodLink RX4 39 yX1_init, Cond.instanceMethod yX1_init]
def wsX8_init_r3 : List Cond := [Cond.code yX1_init cX1_init 3 none, Cond.methodLink RX1 1 objectInit, Cond.fieldLink RX1 7 "BellTouches$HandRows" "size" "I", Cond.fieldLink RX1 13 "BellTouches$HandRows" "first" "[I", Cond.fieldLink RX1 17 "BellTouches$HandRows" "second" "[I", Cond.fieldLink RX1 20 "BellTouches$HandRows" "third" "[I", Cond.instanceMethod yX7_init, Cond.code yX7_init cX7_init 1 none, Cond.methodLink RX7 3 objectInit, Cond.fieldLink RX7 9 "BellTouches$Touch" "rows" "[I", Cond.fieldLink RX7 15 "BellTouches$Touch" "last" "I", Cond.fieldLink RX7 19 "BellTouches$Touch" "changeCount" "I", Cond.fieldLink RX7 22 "BellTouches$Touch" "pairs" "[I", Cond.fieldLink RX7 25 "BellTouches$Touch" "lastPairs" "[I", Cond.fieldLink RX7 28 "BellTouches$Touch" "firsts" "[I", Cond.classLink RX7 31 RX3, Cond.instantiable RX3 1, Cond.initialized RX3, Cond.fieldLink RX7 34 "BellTouches$Touch" "table" "LBellTouches$RowTable;", Cond.fieldLink RX7 38 "BellTouches$Touch" "compared" "Z", Cond.instanceMethod yX3_init, Cond.code yX3_init cX3_init 1 none, Cond.methodLink RX3 3 objectInit, Cond.fieldLink RX3 9 "BellTouches$RowTable" "numbers" "[I"]
def wsX8_init_r4 : List Cond := [Cond.instanceMethod yX0_init, Cond.code yX0_init cX0_init 1 none, Cond.methodLink RX0 3 objectInit, Cond.fieldLink RX0 9 "BellTouches$Fewest" "number" "I", Cond.fieldLink RX0 15 "BellTouches$Fewest" "notPlain" "I", Cond.classLink RX0 18 RX7, Cond.fieldLink RX0 21 "BellTouches$Fewest" "touch" "LBellTouches$Touch;", Cond.classLink RX0 25 RX3, Cond.fieldLink RX0 28 "BellTouches$Fewest" "table" "LBellTouches$RowTable;", Cond.arrayClass .boolean, Cond.fieldLink RX0 32 "BellTouches$Fewest" "thereIs" "[Z", Cond.fieldLink RX0 36 "BellTouches$Fewest" "leadCount" "I", Cond.fieldLink RX0 39 "BellTouches$Fewest" "bound" "I", Cond.instanceMethod yX5_init, Cond.code yX5_init cX5_init 1 none, Cond.methodLink RX5 3 objectInit, Cond.fieldLink RX5 9 "BellTouches$SetupText" "length" "I", Cond.arrayClass .byte, Cond.fieldLink RX5 15 "BellTouches$SetupText" "signs" "[B", Cond.fieldLink RX5 19 "BellTouches$SetupText" "place" "I", Cond.fieldLink RX5 22 "BellTouches$SetupText" "kinds" "[I", Cond.fieldLink RX5 26 "BellTouches$SetupText" "starts" "[I", Cond.fieldLink RX5 29 "BellTouches$SetupText" "clauseCount" "I", Cond.fieldLink RX5 32 "BellTouches$SetupText" "values" "[I"]
def wsX8_init_r5 : List Cond := [Cond.fieldLink RX5 35 "BellTouches$SetupText" "valueCount" "I", Cond.instanceMethod yX6_init, Cond.code yX6_init cX6_init 1 none, Cond.methodLink RX6 3 objectInit, Cond.fieldLink RX6 9 "BellTouches$Tape" "sort" "I", Cond.fieldLink RX6 15 "BellTouches$Tape" "length" "I", Cond.arrayClass .long, Cond.fieldLink RX6 18 "BellTouches$Tape" "items" "[J"]
def wsX8_init : List Cond := .code yX8_init cX8_init 2 none :: ((wsX8_init_r1 ++ (wsX8_init_r2 ++ (wsX8_init_r3 ++ (wsX8_init_r4 ++ wsX8_init_r5)))) ++ wsX40 ++ wsX80 ++ wsX70 ++ wsX00 ++ wsX50 ++ wsX60 ++ wsX10 ++ wsX30)
def wsX8_bells : List Cond := .code yX8_bells cX8_bells 3 (some .int) :: ([.fieldLink RX8 14 "BellTouches" "setup" "LBellTouches$Setup;", .fieldLink RX8 62 "BellTouches$Setup" "n" "I", .fieldLink RX8 58 "BellTouches" "stale" "Z", .methodLink RX8 66 yX4_begin, .instanceMethod yX4_begin, .selects RX4 yX4_begin yX4_begin, .initialized RX4, .code yX4_begin cX4_begin 3 none, .fieldLink RX4 9 "BellTouches$Setup" "n" "I", .fieldLink RX4 19 "BellTouches$Setup" "changeCount" "I", .fieldLink RX4 22 "BellTouches$Setup" "bob" "I", .fieldLink RX4 25 "BellTouches$Setup" "single" "I", .fieldLink RX4 31 "BellTouches$Setup" "leadCount" "I", .fieldLink RX4 28 "BellTouches$Setup" "leadCalls" "[I", .fieldLink RX4 34 "BellTouches$Setup" "patternBells" "[I", .fieldLink RX4 42 "BellTouches$Setup" "seen" "LBellTouches$HandRows;", .fieldLink RX4 52 "BellTouches$HandRows" "size" "I", .fieldLink RX4 46 "BellTouches$Setup" "events" "LBellTouches$HandRows;", .fieldLink RX4 49 "BellTouches$Setup" "book" "LBellTouches$HandRows;"] ++ wsX80 ++ wsX40 ++ wsX10)
def wsX8_isPlaces : List Cond := .code yX8_isPlaces cX8_isPlaces 2 (some .boolean) :: ([.fieldLink RX8 14 "BellTouches" "setup" "LBellTouches$Setup;", .fieldLink RX8 62 "BellTouches$Setup" "n" "I"] ++ wsX80 ++ wsX40)
def wsX8_change : List Cond := .code yX8_change cX8_change 2 (some .int) :: ([.fieldLink RX8 14 "BellTouches" "setup" "LBellTouches$Setup;", .fieldLink RX8 62 "BellTouches$Setup" "n" "I", .fieldLink RX8 80 "BellTouches$Setup" "changeCount" "I", .fieldLink RX8 83 "BellTouches$Setup" "changes" "[I", .fieldLink RX8 58 "BellTouches" "stale" "Z", .methodLink RX8 70 yX8_isPlaces, .instanceMethod yX8_isPlaces, .selects RX8 yX8_isPlaces yX8_isPlaces, .initialized RX8, .code yX8_isPlaces cX8_isPlaces 2 (some .boolean), .methodLink RX8 74 yX2_isGood, .static yX2_isGood, .initialized RX2, .code yX2_isGood cX2_isGood 2 (some .boolean), .methodLink RX2 18 yX2_pairs, .static yX2_pairs, .code yX2_pairs cX2_pairs 4 (some .int), .methodLink RX2 21 yX2_isKept, .static yX2_isKept, .code yX2_isKept cX2_isKept 2 (some .boolean)] ++ wsX80 ++ wsX40)
def wsX8_calls_r1 : List Cond := [Cond.fieldLink RX8 14 "BellTouches" "setup" "LBellTouches$Setup;", Cond.fieldLink RX8 62 "BellTouches$Setup" "n" "I", Cond.fieldLink RX8 58 "BellTouches" "stale" "Z", Cond.methodLink RX8 70 yX8_isPlaces, Cond.instanceMethod yX8_isPlaces, Cond.selects RX8 yX8_isPlaces yX8_isPlaces, Cond.initialized RX8, Cond.code yX8_isPlaces cX8_isPlaces 2 (some .boolean), Cond.methodLink RX8 74 yX2_isGood, Cond.static yX2_isGood, Cond.initialized RX2, Cond.code yX2_isGood cX2_isGood 2 (some .boolean), Cond.methodLink RX2 18 yX2_pairs, Cond.static yX2_pairs, Cond.code yX2_pairs cX2_pairs 4 (some .int), Cond.methodLink RX2 21 yX2_isKept, Cond.static yX2_isKept, Cond.code yX2_isKept cX2_isKept 2 (some .boolean), Cond.methodLink RX8 87 yX4_calledChange, Cond.instanceMethod yX4_calledChange, Cond.selects RX4 yX4_calledChange yX4_calledChange, Cond.initialized RX4, Cond.code yX4_calledChange cX4_calledChange 2 (some .int), Cond.fieldLink RX4 22 "BellTouches$Setup" "bob" "I"]
def wsX8_calls_r2 : List Cond := [Cond.fieldLink RX4 25 "BellTouches$Setup" "single" "I", Cond.methodLink RX8 91 yX4_setCalledChange, Cond.instanceMethod yX4_setCalledChange, Cond.selects RX4 yX4_setCalledChange yX4_setCalledChange, Cond.code yX4_setCalledChange cX4_setCalledChange 3 none]
def wsX8_calls : List Cond := .code yX8_calls cX8_calls 4 (some .int) :: ((wsX8_calls_r1 ++ wsX8_calls_r2) ++ wsX80 ++ wsX40)
def wsX8_isLead : List Cond := .code yX8_isLead cX8_isLead 1 (some .boolean) :: ([])
def wsX8_call : List Cond := .code yX8_call cX8_call 4 (some .int) :: ([.fieldLink RX8 14 "BellTouches" "setup" "LBellTouches$Setup;", .fieldLink RX8 98 "BellTouches$Setup" "leadCalls" "[I", .fieldLink RX8 58 "BellTouches" "stale" "Z", .methodLink RX8 95 yX8_isLead, .static yX8_isLead, .initialized RX8, .code yX8_isLead cX8_isLead 1 (some .boolean)] ++ wsX80 ++ wsX40)
def wsX8_leads : List Cond := .code yX8_leads cX8_leads 3 (some .int) :: ([.fieldLink RX8 14 "BellTouches" "setup" "LBellTouches$Setup;", .fieldLink RX8 101 "BellTouches$Setup" "leadCount" "I", .fieldLink RX8 58 "BellTouches" "stale" "Z"] ++ wsX80 ++ wsX40)
def wsX8_pattern : List Cond := .code yX8_pattern cX8_pattern 4 (some .int) :: ([.fieldLink RX8 14 "BellTouches" "setup" "LBellTouches$Setup;", .fieldLink RX8 104 "BellTouches$Setup" "patternBells" "[I"] ++ wsX80 ++ wsX40)
def wsX8_feed : List Cond := .code yX8_feed cX8_feed 2 (some .int) :: ([.fieldLink RX8 44 "BellTouches" "text" "LBellTouches$SetupText;", .fieldLink RX8 110 "BellTouches$SetupText" "length" "I", .methodLink RX8 107 yX5_append, .instanceMethod yX5_append, .selects RX5 yX5_append yX5_append, .initialized RX5, .code yX5_append cX5_append 2 (some .boolean), .fieldLink RX5 9 "BellTouches$SetupText" "length" "I", .fieldLink RX5 15 "BellTouches$SetupText" "signs" "[B"] ++ wsX80 ++ wsX50)
def wsX8_read_r1 : List Cond := [Cond.fieldLink RX8 44 "BellTouches" "text" "LBellTouches$SetupText;", Cond.fieldLink RX8 110 "BellTouches$SetupText" "length" "I", Cond.fieldLink RX8 58 "BellTouches" "stale" "Z", Cond.fieldLink RX8 14 "BellTouches" "setup" "LBellTouches$Setup;", Cond.methodLink RX8 113 yX5_parse, Cond.instanceMethod yX5_parse, Cond.selects RX5 yX5_parse yX5_parse, Cond.initialized RX5, Cond.code yX5_parse cX5_parse 2 (some .int), Cond.fieldLink RX5 19 "BellTouches$SetupText" "place" "I", Cond.fieldLink RX5 29 "BellTouches$SetupText" "clauseCount" "I", Cond.fieldLink RX5 35 "BellTouches$SetupText" "valueCount" "I", Cond.fieldLink RX5 26 "BellTouches$SetupText" "starts" "[I", Cond.fieldLink RX5 22 "BellTouches$SetupText" "kinds" "[I", Cond.methodLink RX5 38 yX5_next, Cond.instanceMethod yX5_next, Cond.selects RX5 yX5_next yX5_next, Cond.code yX5_next cX5_next 1 (some .int), Cond.fieldLink RX5 9 "BellTouches$SetupText" "length" "I", Cond.fieldLink RX5 15 "BellTouches$SetupText" "signs" "[B", Cond.methodLink RX5 42 yX5_parseClause, Cond.instanceMethod yX5_parseClause, Cond.selects RX5 yX5_parseClause yX5_parseClause, Cond.code yX5_parseClause cX5_parseClause 2 (some .boolean)]
def wsX8_read_r2 : List Cond := [Cond.methodLink RX5 46 yX5_parseDigit, Cond.instanceMethod yX5_parseDigit, Cond.selects RX5 yX5_parseDigit yX5_parseDigit, Cond.code yX5_parseDigit cX5_parseDigit 2 (some .boolean), Cond.methodLink RX5 58 yX5_keep, Cond.instanceMethod yX5_keep, Cond.selects RX5 yX5_keep yX5_keep, Cond.code yX5_keep cX5_keep 2 none, Cond.fieldLink RX5 32 "BellTouches$SetupText" "values" "[I", Cond.methodLink RX5 49 yX5_parseWords, Cond.instanceMethod yX5_parseWords, Cond.selects RX5 yX5_parseWords yX5_parseWords, Cond.code yX5_parseWords cX5_parseWords 3 (some .boolean), Cond.methodLink RX5 52 yX5_parseWord, Cond.instanceMethod yX5_parseWord, Cond.selects RX5 yX5_parseWord yX5_parseWord, Cond.code yX5_parseWord cX5_parseWord 3 (some .boolean), Cond.methodLink RX5 62 yX5_isPlaceSign, Cond.static yX5_isPlaceSign, Cond.code yX5_isPlaceSign cX5_isPlaceSign 1 (some .boolean), Cond.methodLink RX5 55 yX5_parseCalls, Cond.instanceMethod yX5_parseCalls, Cond.selects RX5 yX5_parseCalls yX5_parseCalls, Cond.code yX5_parseCalls cX5_parseCalls 2 (some .boolean)]
def wsX8_read_r3 : List Cond := [Cond.methodLink RX5 66 yX5_callOf, Cond.static yX5_callOf, Cond.code yX5_callOf cX5_callOf 1 (some .int), Cond.methodLink RX8 117 yX5_perform, Cond.instanceMethod yX5_perform, Cond.selects RX5 yX5_perform yX5_perform, Cond.code yX5_perform cX5_perform 4 (some .int), Cond.methodLink RX5 70 yX5_performClause, Cond.instanceMethod yX5_performClause, Cond.selects RX5 yX5_performClause yX5_performClause, Cond.code yX5_performClause cX5_performClause 5 (some .boolean), Cond.methodLink RX5 74 yX5_beginBells, Cond.static yX5_beginBells, Cond.code yX5_beginBells cX5_beginBells 2 (some .boolean), Cond.methodLink RX5 88 yX4_begin, Cond.instanceMethod yX4_begin, Cond.selects RX4 yX4_begin yX4_begin, Cond.initialized RX4, Cond.code yX4_begin cX4_begin 3 none, Cond.fieldLink RX4 9 "BellTouches$Setup" "n" "I", Cond.fieldLink RX4 19 "BellTouches$Setup" "changeCount" "I", Cond.fieldLink RX4 22 "BellTouches$Setup" "bob" "I", Cond.fieldLink RX4 25 "BellTouches$Setup" "single" "I", Cond.fieldLink RX4 31 "BellTouches$Setup" "leadCount" "I"]
def wsX8_read_r4 : List Cond := [Cond.fieldLink RX4 28 "BellTouches$Setup" "leadCalls" "[I", Cond.fieldLink RX4 34 "BellTouches$Setup" "patternBells" "[I", Cond.fieldLink RX4 42 "BellTouches$Setup" "seen" "LBellTouches$HandRows;", Cond.fieldLink RX4 52 "BellTouches$HandRows" "size" "I", Cond.fieldLink RX4 46 "BellTouches$Setup" "events" "LBellTouches$HandRows;", Cond.fieldLink RX4 49 "BellTouches$Setup" "book" "LBellTouches$HandRows;", Cond.methodLink RX5 78 yX5_setMethod, Cond.instanceMethod yX5_setMethod, Cond.selects RX5 yX5_setMethod yX5_setMethod, Cond.code yX5_setMethod cX5_setMethod 5 (some .boolean), Cond.fieldLink RX5 93 "BellTouches$Setup" "n" "I", Cond.fieldLink RX5 102 "BellTouches$Setup" "changeCount" "I", Cond.fieldLink RX5 105 "BellTouches$Setup" "changes" "[I", Cond.methodLink RX5 96 yX2_isGood, Cond.static yX2_isGood, Cond.initialized RX2, Cond.code yX2_isGood cX2_isGood 2 (some .boolean), Cond.methodLink RX2 18 yX2_pairs, Cond.static yX2_pairs, Cond.code yX2_pairs cX2_pairs 4 (some .int), Cond.methodLink RX2 21 yX2_isKept, Cond.static yX2_isKept, Cond.code yX2_isKept cX2_isKept 2 (some .boolean), Cond.methodLink RX5 82 yX5_setCall]
def wsX8_read_r5 : List Cond := [Cond.static yX5_setCall, Cond.code yX5_setCall cX5_setCall 3 (some .boolean), Cond.methodLink RX5 108 yX4_setCalledChange, Cond.instanceMethod yX4_setCalledChange, Cond.selects RX4 yX4_setCalledChange yX4_setCalledChange, Cond.code yX4_setCalledChange cX4_setCalledChange 3 none, Cond.methodLink RX5 85 yX5_setLeads, Cond.instanceMethod yX5_setLeads, Cond.selects RX5 yX5_setLeads yX5_setLeads, Cond.code yX5_setLeads cX5_setLeads 5 (some .boolean), Cond.fieldLink RX5 112 "BellTouches$Setup" "leadCount" "I", Cond.fieldLink RX5 115 "BellTouches$Setup" "leadCalls" "[I"]
def wsX8_read : List Cond := .code yX8_read cX8_read 2 (some .int) :: ((wsX8_read_r1 ++ (wsX8_read_r2 ++ (wsX8_read_r3 ++ (wsX8_read_r4 ++ wsX8_read_r5)))) ++ wsX80 ++ wsX50 ++ wsX40 ++ wsX10)
def wsX8_orNotFound : List Cond := .code yX8_orNotFound cX8_orNotFound 1 (some .int) :: ([])
def wsX8_of : List Cond := .code yX8_of cX8_of 3 (some .int) :: ([.fieldLink RX8 14 "BellTouches" "setup" "LBellTouches$Setup;", .fieldLink RX8 80 "BellTouches$Setup" "changeCount" "I", .fieldLink RX8 83 "BellTouches$Setup" "changes" "[I", .fieldLink RX8 121 "BellTouches$Setup" "bob" "I", .fieldLink RX8 127 "BellTouches$Setup" "single" "I", .fieldLink RX8 98 "BellTouches$Setup" "leadCalls" "[I", .methodLink RX8 124 yX8_orNotFound, .static yX8_orNotFound, .initialized RX8, .code yX8_orNotFound cX8_orNotFound 1 (some .int), .methodLink RX8 95 yX8_isLead, .static yX8_isLead, .code yX8_isLead cX8_isLead 1 (some .boolean)] ++ wsX80 ++ wsX40)
def wsX8_rung_r1 : List Cond := [Cond.fieldLink RX8 58 "BellTouches" "stale" "Z", Cond.fieldLink RX8 27 "BellTouches" "touch" "LBellTouches$Touch;", Cond.fieldLink RX8 14 "BellTouches" "setup" "LBellTouches$Setup;", Cond.methodLink RX8 219 yX7_ring, Cond.instanceMethod yX7_ring, Cond.selects RX7 yX7_ring yX7_ring, Cond.initialized RX7, Cond.code yX7_ring cX7_ring 4 none, Cond.fieldLink RX7 46 "BellTouches$Setup" "leadCount" "I", Cond.fieldLink RX7 19 "BellTouches$Touch" "changeCount" "I", Cond.fieldLink RX7 51 "BellTouches$Setup" "leadCalls" "[I", Cond.methodLink RX7 42 yX7_begin, Cond.instanceMethod yX7_begin, Cond.selects RX7 yX7_begin yX7_begin, Cond.code yX7_begin cX7_begin 4 none, Cond.fieldLink RX7 58 "BellTouches$Setup" "changeCount" "I", Cond.fieldLink RX7 22 "BellTouches$Touch" "pairs" "[I", Cond.fieldLink RX7 59 "BellTouches$Setup" "n" "I", Cond.fieldLink RX7 62 "BellTouches$Setup" "changes" "[I", Cond.fieldLink RX7 25 "BellTouches$Touch" "lastPairs" "[I", Cond.fieldLink RX7 9 "BellTouches$Touch" "rows" "[I", Cond.fieldLink RX7 15 "BellTouches$Touch" "last" "I", Cond.fieldLink RX7 38 "BellTouches$Touch" "compared" "Z", Cond.methodLink RX7 65 yX2_pairs]
def wsX8_rung_r2 : List Cond := [Cond.static yX2_pairs, Cond.initialized RX2, Cond.code yX2_pairs cX2_pairs 4 (some .int), Cond.methodLink RX2 21 yX2_isKept, Cond.static yX2_isKept, Cond.code yX2_isKept cX2_isKept 2 (some .boolean), Cond.methodLink RX7 70 yX4_calledChange, Cond.instanceMethod yX4_calledChange, Cond.selects RX4 yX4_calledChange yX4_calledChange, Cond.initialized RX4, Cond.code yX4_calledChange cX4_calledChange 2 (some .int), Cond.fieldLink RX4 22 "BellTouches$Setup" "bob" "I", Cond.fieldLink RX4 25 "BellTouches$Setup" "single" "I", Cond.methodLink RX7 74 yX2_rounds, Cond.static yX2_rounds, Cond.code yX2_rounds cX2_rounds 3 (some .int), Cond.methodLink RX7 54 yX7_step, Cond.instanceMethod yX7_step, Cond.selects RX7 yX7_step yX7_step, Cond.code yX7_step cX7_step 4 none, Cond.methodLink RX7 77 yX2_swapped, Cond.static yX2_swapped, Cond.code yX2_swapped cX2_swapped 3 (some .int)]
def wsX8_rung : List Cond := .code yX8_rung cX8_rung 1 (some (.object "BellTouches$Touch")) :: ((wsX8_rung_r1 ++ wsX8_rung_r2) ++ wsX80 ++ wsX40 ++ wsX70)
def wsX8_told_r1 : List Cond := [Cond.fieldLink RX8 14 "BellTouches" "setup" "LBellTouches$Setup;", Cond.fieldLink RX8 62 "BellTouches$Setup" "n" "I", Cond.fieldLink RX8 80 "BellTouches$Setup" "changeCount" "I", Cond.fieldLink RX8 101 "BellTouches$Setup" "leadCount" "I", Cond.fieldLink RX8 134 "BellTouches$Touch" "last" "I", Cond.methodLink RX8 130 yX8_rung, Cond.instanceMethod yX8_rung, Cond.selects RX8 yX8_rung yX8_rung, Cond.initialized RX8, Cond.code yX8_rung cX8_rung 1 (some (.object "BellTouches$Touch")), Cond.fieldLink RX8 58 "BellTouches" "stale" "Z", Cond.fieldLink RX8 27 "BellTouches" "touch" "LBellTouches$Touch;", Cond.methodLink RX8 219 yX7_ring, Cond.instanceMethod yX7_ring, Cond.selects RX7 yX7_ring yX7_ring, Cond.initialized RX7, Cond.code yX7_ring cX7_ring 4 none, Cond.fieldLink RX7 46 "BellTouches$Setup" "leadCount" "I", Cond.fieldLink RX7 19 "BellTouches$Touch" "changeCount" "I", Cond.fieldLink RX7 51 "BellTouches$Setup" "leadCalls" "[I", Cond.methodLink RX7 42 yX7_begin, Cond.instanceMethod yX7_begin, Cond.selects RX7 yX7_begin yX7_begin, Cond.code yX7_begin cX7_begin 4 none]
def wsX8_told_r2 : List Cond := [Cond.fieldLink RX7 58 "BellTouches$Setup" "changeCount" "I", Cond.fieldLink RX7 22 "BellTouches$Touch" "pairs" "[I", Cond.fieldLink RX7 59 "BellTouches$Setup" "n" "I", Cond.fieldLink RX7 62 "BellTouches$Setup" "changes" "[I", Cond.fieldLink RX7 25 "BellTouches$Touch" "lastPairs" "[I", Cond.fieldLink RX7 9 "BellTouches$Touch" "rows" "[I", Cond.fieldLink RX7 15 "BellTouches$Touch" "last" "I", Cond.fieldLink RX7 38 "BellTouches$Touch" "compared" "Z", Cond.methodLink RX7 65 yX2_pairs, Cond.static yX2_pairs, Cond.initialized RX2, Cond.code yX2_pairs cX2_pairs 4 (some .int), Cond.methodLink RX2 21 yX2_isKept, Cond.static yX2_isKept, Cond.code yX2_isKept cX2_isKept 2 (some .boolean), Cond.methodLink RX7 70 yX4_calledChange, Cond.instanceMethod yX4_calledChange, Cond.selects RX4 yX4_calledChange yX4_calledChange, Cond.initialized RX4, Cond.code yX4_calledChange cX4_calledChange 2 (some .int), Cond.fieldLink RX4 22 "BellTouches$Setup" "bob" "I", Cond.fieldLink RX4 25 "BellTouches$Setup" "single" "I", Cond.methodLink RX7 74 yX2_rounds, Cond.static yX2_rounds]
def wsX8_told_r3 : List Cond := [Cond.code yX2_rounds cX2_rounds 3 (some .int), Cond.methodLink RX7 54 yX7_step, Cond.instanceMethod yX7_step, Cond.selects RX7 yX7_step yX7_step, Cond.code yX7_step cX7_step 4 none, Cond.methodLink RX7 77 yX2_swapped, Cond.static yX2_swapped, Cond.code yX2_swapped cX2_swapped 3 (some .int), Cond.methodLink RX8 137 yX7_roundRow, Cond.instanceMethod yX7_roundRow, Cond.selects RX7 yX7_roundRow yX7_roundRow, Cond.code yX7_roundRow cX7_roundRow 2 (some .int), Cond.fieldLink RX7 28 "BellTouches$Touch" "firsts" "[I", Cond.methodLink RX7 80 yX7_compare, Cond.instanceMethod yX7_compare, Cond.selects RX7 yX7_compare yX7_compare, Cond.code yX7_compare cX7_compare 2 none, Cond.fieldLink RX7 34 "BellTouches$Touch" "table" "LBellTouches$RowTable;", Cond.methodLink RX7 87 yX3_enter, Cond.instanceMethod yX3_enter, Cond.selects RX3 yX3_enter yX3_enter, Cond.initialized RX3, Cond.code yX3_enter cX3_enter 7 (some .int), Cond.fieldLink RX3 9 "BellTouches$RowTable" "numbers" "[I"]
def wsX8_told_r4 : List Cond := [Cond.methodLink RX3 13 yX3_start, Cond.static yX3_start, Cond.code yX3_start cX3_start 1 (some .int), Cond.constant RX3 17 (-1640531535), Cond.methodLink RX7 91 yX3_leave, Cond.instanceMethod yX3_leave, Cond.selects RX3 yX3_leave yX3_leave, Cond.code yX3_leave cX3_leave 6 none, Cond.methodLink RX8 140 yX7_falseRow, Cond.instanceMethod yX7_falseRow, Cond.selects RX7 yX7_falseRow yX7_falseRow, Cond.code yX7_falseRow cX7_falseRow 3 (some .int), Cond.methodLink RX8 143 yX7_isTrue, Cond.instanceMethod yX7_isTrue, Cond.selects RX7 yX7_isTrue yX7_isTrue, Cond.code yX7_isTrue cX7_isTrue 1 (some .boolean), Cond.methodLink RX7 83 yX7_falseRow, Cond.methodLink RX8 147 yX7_course, Cond.instanceMethod yX7_course, Cond.selects RX7 yX7_course yX7_course, Cond.code yX7_course cX7_course 4 (some .int)]
def wsX8_told : List Cond := .code yX8_told cX8_told 2 (some .int) :: ((wsX8_told_r1 ++ (wsX8_told_r2 ++ (wsX8_told_r3 ++ wsX8_told_r4))) ++ wsX80 ++ wsX40 ++ wsX70 ++ wsX30)
def wsX8_isRow_r1 : List Cond := [Cond.fieldLink RX8 134 "BellTouches$Touch" "last" "I", Cond.methodLink RX8 130 yX8_rung, Cond.instanceMethod yX8_rung, Cond.selects RX8 yX8_rung yX8_rung, Cond.initialized RX8, Cond.code yX8_rung cX8_rung 1 (some (.object "BellTouches$Touch")), Cond.fieldLink RX8 58 "BellTouches" "stale" "Z", Cond.fieldLink RX8 27 "BellTouches" "touch" "LBellTouches$Touch;", Cond.fieldLink RX8 14 "BellTouches" "setup" "LBellTouches$Setup;", Cond.methodLink RX8 219 yX7_ring, Cond.instanceMethod yX7_ring, Cond.selects RX7 yX7_ring yX7_ring, Cond.initialized RX7, Cond.code yX7_ring cX7_ring 4 none, Cond.fieldLink RX7 46 "BellTouches$Setup" "leadCount" "I", Cond.fieldLink RX7 19 "BellTouches$Touch" "changeCount" "I", Cond.fieldLink RX7 51 "BellTouches$Setup" "leadCalls" "[I", Cond.methodLink RX7 42 yX7_begin, Cond.instanceMethod yX7_begin, Cond.selects RX7 yX7_begin yX7_begin, Cond.code yX7_begin cX7_begin 4 none, Cond.fieldLink RX7 58 "BellTouches$Setup" "changeCount" "I", Cond.fieldLink RX7 22 "BellTouches$Touch" "pairs" "[I", Cond.fieldLink RX7 59 "BellTouches$Setup" "n" "I"]
def wsX8_isRow_r2 : List Cond := [Cond.fieldLink RX7 62 "BellTouches$Setup" "changes" "[I", Cond.fieldLink RX7 25 "BellTouches$Touch" "lastPairs" "[I", Cond.fieldLink RX7 9 "BellTouches$Touch" "rows" "[I", Cond.fieldLink RX7 15 "BellTouches$Touch" "last" "I", Cond.fieldLink RX7 38 "BellTouches$Touch" "compared" "Z", Cond.methodLink RX7 65 yX2_pairs, Cond.static yX2_pairs, Cond.initialized RX2, Cond.code yX2_pairs cX2_pairs 4 (some .int), Cond.methodLink RX2 21 yX2_isKept, Cond.static yX2_isKept, Cond.code yX2_isKept cX2_isKept 2 (some .boolean), Cond.methodLink RX7 70 yX4_calledChange, Cond.instanceMethod yX4_calledChange, Cond.selects RX4 yX4_calledChange yX4_calledChange, Cond.initialized RX4, Cond.code yX4_calledChange cX4_calledChange 2 (some .int), Cond.fieldLink RX4 22 "BellTouches$Setup" "bob" "I", Cond.fieldLink RX4 25 "BellTouches$Setup" "single" "I", Cond.methodLink RX7 74 yX2_rounds, Cond.static yX2_rounds, Cond.code yX2_rounds cX2_rounds 3 (some .int), Cond.methodLink RX7 54 yX7_step, Cond.instanceMethod yX7_step]
def wsX8_isRow_r3 : List Cond := [Cond.selects RX7 yX7_step yX7_step, Cond.code yX7_step cX7_step 4 none, Cond.methodLink RX7 77 yX2_swapped, Cond.static yX2_swapped, Cond.code yX2_swapped cX2_swapped 3 (some .int)]
def wsX8_isRow : List Cond := .code yX8_isRow cX8_isRow 2 (some .boolean) :: ((wsX8_isRow_r1 ++ (wsX8_isRow_r2 ++ wsX8_isRow_r3)) ++ wsX70 ++ wsX80 ++ wsX40)
def wsX8_isBell : List Cond := .code yX8_isBell cX8_isBell 2 (some .boolean) :: ([.fieldLink RX8 14 "BellTouches" "setup" "LBellTouches$Setup;", .fieldLink RX8 62 "BellTouches$Setup" "n" "I"] ++ wsX80 ++ wsX40)
def wsX8_at_r1 : List Cond := [Cond.fieldLink RX8 156 "BellTouches$Touch" "rows" "[I", Cond.methodLink RX8 150 yX8_isRow, Cond.instanceMethod yX8_isRow, Cond.selects RX8 yX8_isRow yX8_isRow, Cond.initialized RX8, Cond.code yX8_isRow cX8_isRow 2 (some .boolean), Cond.fieldLink RX8 134 "BellTouches$Touch" "last" "I", Cond.methodLink RX8 130 yX8_rung, Cond.instanceMethod yX8_rung, Cond.selects RX8 yX8_rung yX8_rung, Cond.code yX8_rung cX8_rung 1 (some (.object "BellTouches$Touch")), Cond.fieldLink RX8 58 "BellTouches" "stale" "Z", Cond.fieldLink RX8 27 "BellTouches" "touch" "LBellTouches$Touch;", Cond.fieldLink RX8 14 "BellTouches" "setup" "LBellTouches$Setup;", Cond.methodLink RX8 219 yX7_ring, Cond.instanceMethod yX7_ring, Cond.selects RX7 yX7_ring yX7_ring, Cond.initialized RX7, Cond.code yX7_ring cX7_ring 4 none, Cond.fieldLink RX7 46 "BellTouches$Setup" "leadCount" "I", Cond.fieldLink RX7 19 "BellTouches$Touch" "changeCount" "I", Cond.fieldLink RX7 51 "BellTouches$Setup" "leadCalls" "[I", Cond.methodLink RX7 42 yX7_begin, Cond.instanceMethod yX7_begin]
def wsX8_at_r2 : List Cond := [Cond.selects RX7 yX7_begin yX7_begin, Cond.code yX7_begin cX7_begin 4 none, Cond.fieldLink RX7 58 "BellTouches$Setup" "changeCount" "I", Cond.fieldLink RX7 22 "BellTouches$Touch" "pairs" "[I", Cond.fieldLink RX7 59 "BellTouches$Setup" "n" "I", Cond.fieldLink RX7 62 "BellTouches$Setup" "changes" "[I", Cond.fieldLink RX7 25 "BellTouches$Touch" "lastPairs" "[I", Cond.fieldLink RX7 9 "BellTouches$Touch" "rows" "[I", Cond.fieldLink RX7 15 "BellTouches$Touch" "last" "I", Cond.fieldLink RX7 38 "BellTouches$Touch" "compared" "Z", Cond.methodLink RX7 65 yX2_pairs, Cond.static yX2_pairs, Cond.initialized RX2, Cond.code yX2_pairs cX2_pairs 4 (some .int), Cond.methodLink RX2 21 yX2_isKept, Cond.static yX2_isKept, Cond.code yX2_isKept cX2_isKept 2 (some .boolean), Cond.methodLink RX7 70 yX4_calledChange, Cond.instanceMethod yX4_calledChange, Cond.selects RX4 yX4_calledChange yX4_calledChange, Cond.initialized RX4, Cond.code yX4_calledChange cX4_calledChange 2 (some .int), Cond.fieldLink RX4 22 "BellTouches$Setup" "bob" "I", Cond.fieldLink RX4 25 "BellTouches$Setup" "single" "I"]
def wsX8_at_r3 : List Cond := [Cond.methodLink RX7 74 yX2_rounds, Cond.static yX2_rounds, Cond.code yX2_rounds cX2_rounds 3 (some .int), Cond.methodLink RX7 54 yX7_step, Cond.instanceMethod yX7_step, Cond.selects RX7 yX7_step yX7_step, Cond.code yX7_step cX7_step 4 none, Cond.methodLink RX7 77 yX2_swapped, Cond.static yX2_swapped, Cond.code yX2_swapped cX2_swapped 3 (some .int), Cond.methodLink RX8 153 yX8_isBell, Cond.instanceMethod yX8_isBell, Cond.selects RX8 yX8_isBell yX8_isBell, Cond.code yX8_isBell cX8_isBell 2 (some .boolean), Cond.fieldLink RX8 62 "BellTouches$Setup" "n" "I", Cond.methodLink RX8 159 yX2_bellIn, Cond.static yX2_bellIn, Cond.code yX2_bellIn cX2_bellIn 2 (some .int)]
def wsX8_at : List Cond := .code yX8_at cX8_at 3 (some .int) :: ((wsX8_at_r1 ++ (wsX8_at_r2 ++ wsX8_at_r3)) ++ wsX70 ++ wsX80 ++ wsX40)
def wsX8_where_r1 : List Cond := [Cond.fieldLink RX8 156 "BellTouches$Touch" "rows" "[I", Cond.methodLink RX8 150 yX8_isRow, Cond.instanceMethod yX8_isRow, Cond.selects RX8 yX8_isRow yX8_isRow, Cond.initialized RX8, Cond.code yX8_isRow cX8_isRow 2 (some .boolean), Cond.fieldLink RX8 134 "BellTouches$Touch" "last" "I", Cond.methodLink RX8 130 yX8_rung, Cond.instanceMethod yX8_rung, Cond.selects RX8 yX8_rung yX8_rung, Cond.code yX8_rung cX8_rung 1 (some (.object "BellTouches$Touch")), Cond.fieldLink RX8 58 "BellTouches" "stale" "Z", Cond.fieldLink RX8 27 "BellTouches" "touch" "LBellTouches$Touch;", Cond.fieldLink RX8 14 "BellTouches" "setup" "LBellTouches$Setup;", Cond.methodLink RX8 219 yX7_ring, Cond.instanceMethod yX7_ring, Cond.selects RX7 yX7_ring yX7_ring, Cond.initialized RX7, Cond.code yX7_ring cX7_ring 4 none, Cond.fieldLink RX7 46 "BellTouches$Setup" "leadCount" "I", Cond.fieldLink RX7 19 "BellTouches$Touch" "changeCount" "I", Cond.fieldLink RX7 51 "BellTouches$Setup" "leadCalls" "[I", Cond.methodLink RX7 42 yX7_begin, Cond.instanceMethod yX7_begin]
def wsX8_where_r2 : List Cond := [Cond.selects RX7 yX7_begin yX7_begin, Cond.code yX7_begin cX7_begin 4 none, Cond.fieldLink RX7 58 "BellTouches$Setup" "changeCount" "I", Cond.fieldLink RX7 22 "BellTouches$Touch" "pairs" "[I", Cond.fieldLink RX7 59 "BellTouches$Setup" "n" "I", Cond.fieldLink RX7 62 "BellTouches$Setup" "changes" "[I", Cond.fieldLink RX7 25 "BellTouches$Touch" "lastPairs" "[I", Cond.fieldLink RX7 9 "BellTouches$Touch" "rows" "[I", Cond.fieldLink RX7 15 "BellTouches$Touch" "last" "I", Cond.fieldLink RX7 38 "BellTouches$Touch" "compared" "Z", Cond.methodLink RX7 65 yX2_pairs, Cond.static yX2_pairs, Cond.initialized RX2, Cond.code yX2_pairs cX2_pairs 4 (some .int), Cond.methodLink RX2 21 yX2_isKept, Cond.static yX2_isKept, Cond.code yX2_isKept cX2_isKept 2 (some .boolean), Cond.methodLink RX7 70 yX4_calledChange, Cond.instanceMethod yX4_calledChange, Cond.selects RX4 yX4_calledChange yX4_calledChange, Cond.initialized RX4, Cond.code yX4_calledChange cX4_calledChange 2 (some .int), Cond.fieldLink RX4 22 "BellTouches$Setup" "bob" "I", Cond.fieldLink RX4 25 "BellTouches$Setup" "single" "I"]
def wsX8_where_r3 : List Cond := [Cond.methodLink RX7 74 yX2_rounds, Cond.static yX2_rounds, Cond.code yX2_rounds cX2_rounds 3 (some .int), Cond.methodLink RX7 54 yX7_step, Cond.instanceMethod yX7_step, Cond.selects RX7 yX7_step yX7_step, Cond.code yX7_step cX7_step 4 none, Cond.methodLink RX7 77 yX2_swapped, Cond.static yX2_swapped, Cond.code yX2_swapped cX2_swapped 3 (some .int), Cond.methodLink RX8 153 yX8_isBell, Cond.instanceMethod yX8_isBell, Cond.selects RX8 yX8_isBell yX8_isBell, Cond.code yX8_isBell cX8_isBell 2 (some .boolean), Cond.fieldLink RX8 62 "BellTouches$Setup" "n" "I", Cond.methodLink RX8 163 yX2_placeOf, Cond.static yX2_placeOf, Cond.code yX2_placeOf cX2_placeOf 3 (some .int), Cond.methodLink RX2 9 yX2_bellIn, Cond.static yX2_bellIn, Cond.code yX2_bellIn cX2_bellIn 2 (some .int)]
def wsX8_where : List Cond := .code yX8_where cX8_where 3 (some .int) :: ((wsX8_where_r1 ++ (wsX8_where_r2 ++ wsX8_where_r3)) ++ wsX70 ++ wsX80 ++ wsX40)
def wsX8_same_r1 : List Cond := [Cond.methodLink RX8 150 yX8_isRow, Cond.instanceMethod yX8_isRow, Cond.selects RX8 yX8_isRow yX8_isRow, Cond.initialized RX8, Cond.code yX8_isRow cX8_isRow 2 (some .boolean), Cond.fieldLink RX8 134 "BellTouches$Touch" "last" "I", Cond.methodLink RX8 130 yX8_rung, Cond.instanceMethod yX8_rung, Cond.selects RX8 yX8_rung yX8_rung, Cond.code yX8_rung cX8_rung 1 (some (.object "BellTouches$Touch")), Cond.fieldLink RX8 58 "BellTouches" "stale" "Z", Cond.fieldLink RX8 27 "BellTouches" "touch" "LBellTouches$Touch;", Cond.fieldLink RX8 14 "BellTouches" "setup" "LBellTouches$Setup;", Cond.methodLink RX8 219 yX7_ring, Cond.instanceMethod yX7_ring, Cond.selects RX7 yX7_ring yX7_ring, Cond.initialized RX7, Cond.code yX7_ring cX7_ring 4 none, Cond.fieldLink RX7 46 "BellTouches$Setup" "leadCount" "I", Cond.fieldLink RX7 19 "BellTouches$Touch" "changeCount" "I", Cond.fieldLink RX7 51 "BellTouches$Setup" "leadCalls" "[I", Cond.methodLink RX7 42 yX7_begin, Cond.instanceMethod yX7_begin, Cond.selects RX7 yX7_begin yX7_begin]
def wsX8_same_r2 : List Cond := [Cond.code yX7_begin cX7_begin 4 none, Cond.fieldLink RX7 58 "BellTouches$Setup" "changeCount" "I", Cond.fieldLink RX7 22 "BellTouches$Touch" "pairs" "[I", Cond.fieldLink RX7 59 "BellTouches$Setup" "n" "I", Cond.fieldLink RX7 62 "BellTouches$Setup" "changes" "[I", Cond.fieldLink RX7 25 "BellTouches$Touch" "lastPairs" "[I", Cond.fieldLink RX7 9 "BellTouches$Touch" "rows" "[I", Cond.fieldLink RX7 15 "BellTouches$Touch" "last" "I", Cond.fieldLink RX7 38 "BellTouches$Touch" "compared" "Z", Cond.methodLink RX7 65 yX2_pairs, Cond.static yX2_pairs, Cond.initialized RX2, Cond.code yX2_pairs cX2_pairs 4 (some .int), Cond.methodLink RX2 21 yX2_isKept, Cond.static yX2_isKept, Cond.code yX2_isKept cX2_isKept 2 (some .boolean), Cond.methodLink RX7 70 yX4_calledChange, Cond.instanceMethod yX4_calledChange, Cond.selects RX4 yX4_calledChange yX4_calledChange, Cond.initialized RX4, Cond.code yX4_calledChange cX4_calledChange 2 (some .int), Cond.fieldLink RX4 22 "BellTouches$Setup" "bob" "I", Cond.fieldLink RX4 25 "BellTouches$Setup" "single" "I", Cond.methodLink RX7 74 yX2_rounds]
def wsX8_same_r3 : List Cond := [Cond.static yX2_rounds, Cond.code yX2_rounds cX2_rounds 3 (some .int), Cond.methodLink RX7 54 yX7_step, Cond.instanceMethod yX7_step, Cond.selects RX7 yX7_step yX7_step, Cond.code yX7_step cX7_step 4 none, Cond.methodLink RX7 77 yX2_swapped, Cond.static yX2_swapped, Cond.code yX2_swapped cX2_swapped 3 (some .int), Cond.methodLink RX8 166 yX7_firstAs, Cond.instanceMethod yX7_firstAs, Cond.selects RX7 yX7_firstAs yX7_firstAs, Cond.code yX7_firstAs cX7_firstAs 2 (some .int), Cond.fieldLink RX7 28 "BellTouches$Touch" "firsts" "[I", Cond.methodLink RX7 80 yX7_compare, Cond.instanceMethod yX7_compare, Cond.selects RX7 yX7_compare yX7_compare, Cond.code yX7_compare cX7_compare 2 none, Cond.fieldLink RX7 34 "BellTouches$Touch" "table" "LBellTouches$RowTable;", Cond.methodLink RX7 87 yX3_enter, Cond.instanceMethod yX3_enter, Cond.selects RX3 yX3_enter yX3_enter, Cond.initialized RX3, Cond.code yX3_enter cX3_enter 7 (some .int)]
def wsX8_same_r4 : List Cond := [Cond.fieldLink RX3 9 "BellTouches$RowTable" "numbers" "[I", Cond.methodLink RX3 13 yX3_start, Cond.static yX3_start, Cond.code yX3_start cX3_start 1 (some .int), Cond.constant RX3 17 (-1640531535), Cond.methodLink RX7 91 yX3_leave, Cond.instanceMethod yX3_leave, Cond.selects RX3 yX3_leave yX3_leave, Cond.code yX3_leave cX3_leave 6 none]
def wsX8_same : List Cond := .code yX8_same cX8_same 2 (some .int) :: ((wsX8_same_r1 ++ (wsX8_same_r2 ++ (wsX8_same_r3 ++ wsX8_same_r4))) ++ wsX70 ++ wsX80 ++ wsX40 ++ wsX30)
def wsX8_good : List Cond := .code yX8_good cX8_good 2 (some .int) :: ([.fieldLink RX8 14 "BellTouches" "setup" "LBellTouches$Setup;", .fieldLink RX8 62 "BellTouches$Setup" "n" "I", .methodLink RX8 70 yX8_isPlaces, .instanceMethod yX8_isPlaces, .selects RX8 yX8_isPlaces yX8_isPlaces, .initialized RX8, .code yX8_isPlaces cX8_isPlaces 2 (some .boolean), .methodLink RX8 74 yX2_isGood, .static yX2_isGood, .initialized RX2, .code yX2_isGood cX2_isGood 2 (some .boolean), .methodLink RX2 18 yX2_pairs, .static yX2_pairs, .code yX2_pairs cX2_pairs 4 (some .int), .methodLink RX2 21 yX2_isKept, .static yX2_isKept, .code yX2_isKept cX2_isKept 2 (some .boolean)] ++ wsX80 ++ wsX40)
def wsX8_countMusic_r1 : List Cond := [Cond.fieldLink RX8 156 "BellTouches$Touch" "rows" "[I", Cond.fieldLink RX8 27 "BellTouches" "touch" "LBellTouches$Touch;", Cond.fieldLink RX8 134 "BellTouches$Touch" "last" "I", Cond.fieldLink RX8 14 "BellTouches" "setup" "LBellTouches$Setup;", Cond.methodLink RX8 130 yX8_rung, Cond.instanceMethod yX8_rung, Cond.selects RX8 yX8_rung yX8_rung, Cond.initialized RX8, Cond.code yX8_rung cX8_rung 1 (some (.object "BellTouches$Touch")), Cond.fieldLink RX8 58 "BellTouches" "stale" "Z", Cond.methodLink RX8 219 yX7_ring, Cond.instanceMethod yX7_ring, Cond.selects RX7 yX7_ring yX7_ring, Cond.initialized RX7, Cond.code yX7_ring cX7_ring 4 none, Cond.fieldLink RX7 46 "BellTouches$Setup" "leadCount" "I", Cond.fieldLink RX7 19 "BellTouches$Touch" "changeCount" "I", Cond.fieldLink RX7 51 "BellTouches$Setup" "leadCalls" "[I", Cond.methodLink RX7 42 yX7_begin, Cond.instanceMethod yX7_begin, Cond.selects RX7 yX7_begin yX7_begin, Cond.code yX7_begin cX7_begin 4 none, Cond.fieldLink RX7 58 "BellTouches$Setup" "changeCount" "I", Cond.fieldLink RX7 22 "BellTouches$Touch" "pairs" "[I"]
def wsX8_countMusic_r2 : List Cond := [Cond.fieldLink RX7 59 "BellTouches$Setup" "n" "I", Cond.fieldLink RX7 62 "BellTouches$Setup" "changes" "[I", Cond.fieldLink RX7 25 "BellTouches$Touch" "lastPairs" "[I", Cond.fieldLink RX7 9 "BellTouches$Touch" "rows" "[I", Cond.fieldLink RX7 15 "BellTouches$Touch" "last" "I", Cond.fieldLink RX7 38 "BellTouches$Touch" "compared" "Z", Cond.methodLink RX7 65 yX2_pairs, Cond.static yX2_pairs, Cond.initialized RX2, Cond.code yX2_pairs cX2_pairs 4 (some .int), Cond.methodLink RX2 21 yX2_isKept, Cond.static yX2_isKept, Cond.code yX2_isKept cX2_isKept 2 (some .boolean), Cond.methodLink RX7 70 yX4_calledChange, Cond.instanceMethod yX4_calledChange, Cond.selects RX4 yX4_calledChange yX4_calledChange, Cond.initialized RX4, Cond.code yX4_calledChange cX4_calledChange 2 (some .int), Cond.fieldLink RX4 22 "BellTouches$Setup" "bob" "I", Cond.fieldLink RX4 25 "BellTouches$Setup" "single" "I", Cond.methodLink RX7 74 yX2_rounds, Cond.static yX2_rounds, Cond.code yX2_rounds cX2_rounds 3 (some .int), Cond.methodLink RX7 54 yX7_step]
def wsX8_countMusic_r3 : List Cond := [Cond.instanceMethod yX7_step, Cond.selects RX7 yX7_step yX7_step, Cond.code yX7_step cX7_step 4 none, Cond.methodLink RX7 77 yX2_swapped, Cond.static yX2_swapped, Cond.code yX2_swapped cX2_swapped 3 (some .int), Cond.methodLink RX8 256 yX4_isMusic, Cond.instanceMethod yX4_isMusic, Cond.selects RX4 yX4_isMusic yX4_isMusic, Cond.code yX4_isMusic cX4_isMusic 4 (some .boolean), Cond.fieldLink RX4 9 "BellTouches$Setup" "n" "I", Cond.constant RX4 71 (65535), Cond.methodLink RX4 65 yX2_rounds, Cond.methodLink RX4 72 yX4_holdsPattern, Cond.instanceMethod yX4_holdsPattern, Cond.selects RX4 yX4_holdsPattern yX4_holdsPattern, Cond.code yX4_holdsPattern cX4_holdsPattern 4 (some .boolean), Cond.fieldLink RX4 34 "BellTouches$Setup" "patternBells" "[I", Cond.methodLink RX4 80 yX2_bellIn, Cond.static yX2_bellIn, Cond.code yX2_bellIn cX2_bellIn 2 (some .int), Cond.methodLink RX4 76 yX2_isRightAhead, Cond.static yX2_isRightAhead, Cond.code yX2_isRightAhead cX2_isRightAhead 3 (some .boolean)]
def wsX8_countMusic_r4 : List Cond := [Cond.methodLink RX2 15 yX2_placeOf, Cond.static yX2_placeOf, Cond.code yX2_placeOf cX2_placeOf 3 (some .int), Cond.methodLink RX2 9 yX2_bellIn]
def wsX8_countMusic : List Cond := .code yX8_countMusic cX8_countMusic 5 (some .int) :: ((wsX8_countMusic_r1 ++ (wsX8_countMusic_r2 ++ (wsX8_countMusic_r3 ++ wsX8_countMusic_r4))) ++ wsX70 ++ wsX80 ++ wsX40)
def wsX8_music_r1 : List Cond := [Cond.methodLink RX8 169 yX8_countMusic, Cond.instanceMethod yX8_countMusic, Cond.selects RX8 yX8_countMusic yX8_countMusic, Cond.initialized RX8, Cond.code yX8_countMusic cX8_countMusic 5 (some .int), Cond.fieldLink RX8 156 "BellTouches$Touch" "rows" "[I", Cond.fieldLink RX8 27 "BellTouches" "touch" "LBellTouches$Touch;", Cond.fieldLink RX8 134 "BellTouches$Touch" "last" "I", Cond.fieldLink RX8 14 "BellTouches" "setup" "LBellTouches$Setup;", Cond.methodLink RX8 130 yX8_rung, Cond.instanceMethod yX8_rung, Cond.selects RX8 yX8_rung yX8_rung, Cond.code yX8_rung cX8_rung 1 (some (.object "BellTouches$Touch")), Cond.fieldLink RX8 58 "BellTouches" "stale" "Z", Cond.methodLink RX8 219 yX7_ring, Cond.instanceMethod yX7_ring, Cond.selects RX7 yX7_ring yX7_ring, Cond.initialized RX7, Cond.code yX7_ring cX7_ring 4 none, Cond.fieldLink RX7 46 "BellTouches$Setup" "leadCount" "I", Cond.fieldLink RX7 19 "BellTouches$Touch" "changeCount" "I", Cond.fieldLink RX7 51 "BellTouches$Setup" "leadCalls" "[I", Cond.methodLink RX7 42 yX7_begin, Cond.instanceMethod yX7_begin]
def wsX8_music_r2 : List Cond := [Cond.selects RX7 yX7_begin yX7_begin, Cond.code yX7_begin cX7_begin 4 none, Cond.fieldLink RX7 58 "BellTouches$Setup" "changeCount" "I", Cond.fieldLink RX7 22 "BellTouches$Touch" "pairs" "[I", Cond.fieldLink RX7 59 "BellTouches$Setup" "n" "I", Cond.fieldLink RX7 62 "BellTouches$Setup" "changes" "[I", Cond.fieldLink RX7 25 "BellTouches$Touch" "lastPairs" "[I", Cond.fieldLink RX7 9 "BellTouches$Touch" "rows" "[I", Cond.fieldLink RX7 15 "BellTouches$Touch" "last" "I", Cond.fieldLink RX7 38 "BellTouches$Touch" "compared" "Z", Cond.methodLink RX7 65 yX2_pairs, Cond.static yX2_pairs, Cond.initialized RX2, Cond.code yX2_pairs cX2_pairs 4 (some .int), Cond.methodLink RX2 21 yX2_isKept, Cond.static yX2_isKept, Cond.code yX2_isKept cX2_isKept 2 (some .boolean), Cond.methodLink RX7 70 yX4_calledChange, Cond.instanceMethod yX4_calledChange, Cond.selects RX4 yX4_calledChange yX4_calledChange, Cond.initialized RX4, Cond.code yX4_calledChange cX4_calledChange 2 (some .int), Cond.fieldLink RX4 22 "BellTouches$Setup" "bob" "I", Cond.fieldLink RX4 25 "BellTouches$Setup" "single" "I"]
def wsX8_music_r3 : List Cond := [Cond.methodLink RX7 74 yX2_rounds, Cond.static yX2_rounds, Cond.code yX2_rounds cX2_rounds 3 (some .int), Cond.methodLink RX7 54 yX7_step, Cond.instanceMethod yX7_step, Cond.selects RX7 yX7_step yX7_step, Cond.code yX7_step cX7_step 4 none, Cond.methodLink RX7 77 yX2_swapped, Cond.static yX2_swapped, Cond.code yX2_swapped cX2_swapped 3 (some .int), Cond.methodLink RX8 256 yX4_isMusic, Cond.instanceMethod yX4_isMusic, Cond.selects RX4 yX4_isMusic yX4_isMusic, Cond.code yX4_isMusic cX4_isMusic 4 (some .boolean), Cond.fieldLink RX4 9 "BellTouches$Setup" "n" "I", Cond.constant RX4 71 (65535), Cond.methodLink RX4 65 yX2_rounds, Cond.methodLink RX4 72 yX4_holdsPattern, Cond.instanceMethod yX4_holdsPattern, Cond.selects RX4 yX4_holdsPattern yX4_holdsPattern, Cond.code yX4_holdsPattern cX4_holdsPattern 4 (some .boolean), Cond.fieldLink RX4 34 "BellTouches$Setup" "patternBells" "[I", Cond.methodLink RX4 80 yX2_bellIn, Cond.static yX2_bellIn]
def wsX8_music_r4 : List Cond := [Cond.code yX2_bellIn cX2_bellIn 2 (some .int), Cond.methodLink RX4 76 yX2_isRightAhead, Cond.static yX2_isRightAhead, Cond.code yX2_isRightAhead cX2_isRightAhead 3 (some .boolean), Cond.methodLink RX2 15 yX2_placeOf, Cond.static yX2_placeOf, Cond.code yX2_placeOf cX2_placeOf 3 (some .int), Cond.methodLink RX2 9 yX2_bellIn]
def wsX8_music : List Cond := .code yX8_music cX8_music 2 (some .int) :: ((wsX8_music_r1 ++ (wsX8_music_r2 ++ (wsX8_music_r3 ++ wsX8_music_r4))) ++ wsX70 ++ wsX80 ++ wsX40)
def wsX8_least_r1 : List Cond := [Cond.fieldLink RX8 37 "BellTouches" "fewest" "LBellTouches$Fewest;", Cond.fieldLink RX8 14 "BellTouches" "setup" "LBellTouches$Setup;", Cond.fieldLink RX8 176 "BellTouches$Fewest" "number" "I", Cond.fieldLink RX8 179 "BellTouches$Fewest" "notPlain" "I", Cond.methodLink RX8 172 yX0_find, Cond.instanceMethod yX0_find, Cond.selects RX0 yX0_find yX0_find, Cond.initialized RX0, Cond.code yX0_find cX0_find 3 none, Cond.fieldLink RX0 9 "BellTouches$Fewest" "number" "I", Cond.fieldLink RX0 15 "BellTouches$Fewest" "notPlain" "I", Cond.fieldLink RX0 36 "BellTouches$Fewest" "leadCount" "I", Cond.fieldLink RX0 39 "BellTouches$Fewest" "bound" "I", Cond.fieldLink RX0 32 "BellTouches$Fewest" "thereIs" "[Z", Cond.fieldLink RX0 42 "BellTouches$Setup" "bob" "I", Cond.fieldLink RX0 47 "BellTouches$Setup" "single" "I", Cond.fieldLink RX0 21 "BellTouches$Fewest" "touch" "LBellTouches$Touch;", Cond.fieldLink RX0 54 "BellTouches$Touch" "changeCount" "I", Cond.fieldLink RX0 28 "BellTouches$Fewest" "table" "LBellTouches$RowTable;", Cond.fieldLink RX0 57 "BellTouches$Touch" "rows" "[I", Cond.methodLink RX0 50 yX7_begin, Cond.instanceMethod yX7_begin, Cond.selects RX7 yX7_begin yX7_begin, Cond.initialized RX7]
def wsX8_least_r2 : List Cond := [Cond.code yX7_begin cX7_begin 4 none, Cond.fieldLink RX7 58 "BellTouches$Setup" "changeCount" "I", Cond.fieldLink RX7 19 "BellTouches$Touch" "changeCount" "I", Cond.fieldLink RX7 22 "BellTouches$Touch" "pairs" "[I", Cond.fieldLink RX7 59 "BellTouches$Setup" "n" "I", Cond.fieldLink RX7 62 "BellTouches$Setup" "changes" "[I", Cond.fieldLink RX7 25 "BellTouches$Touch" "lastPairs" "[I", Cond.fieldLink RX7 9 "BellTouches$Touch" "rows" "[I", Cond.fieldLink RX7 15 "BellTouches$Touch" "last" "I", Cond.fieldLink RX7 38 "BellTouches$Touch" "compared" "Z", Cond.methodLink RX7 65 yX2_pairs, Cond.static yX2_pairs, Cond.initialized RX2, Cond.code yX2_pairs cX2_pairs 4 (some .int), Cond.methodLink RX2 21 yX2_isKept, Cond.static yX2_isKept, Cond.code yX2_isKept cX2_isKept 2 (some .boolean), Cond.methodLink RX7 70 yX4_calledChange, Cond.instanceMethod yX4_calledChange, Cond.selects RX4 yX4_calledChange yX4_calledChange, Cond.initialized RX4, Cond.code yX4_calledChange cX4_calledChange 2 (some .int), Cond.fieldLink RX4 22 "BellTouches$Setup" "bob" "I", Cond.fieldLink RX4 25 "BellTouches$Setup" "single" "I"]
def wsX8_least_r3 : List Cond := [Cond.methodLink RX7 74 yX2_rounds, Cond.static yX2_rounds, Cond.code yX2_rounds cX2_rounds 3 (some .int), Cond.methodLink RX0 61 yX3_enter, Cond.instanceMethod yX3_enter, Cond.selects RX3 yX3_enter yX3_enter, Cond.initialized RX3, Cond.code yX3_enter cX3_enter 7 (some .int), Cond.fieldLink RX3 9 "BellTouches$RowTable" "numbers" "[I", Cond.methodLink RX3 13 yX3_start, Cond.static yX3_start, Cond.code yX3_start cX3_start 1 (some .int), Cond.constant RX3 17 (-1640531535), Cond.methodLink RX0 65 yX0_search, Cond.static yX0_search, Cond.code yX0_search cX0_search 8 none, Cond.fieldLink RX0 73 "BellTouches$Touch" "last" "I", Cond.methodLink RX0 76 yX0_ringTillAgain, Cond.instanceMethod yX0_ringTillAgain, Cond.selects RX0 yX0_ringTillAgain yX0_ringTillAgain, Cond.code yX0_ringTillAgain cX0_ringTillAgain 3 (some .int), Cond.methodLink RX0 88 yX7_step, Cond.instanceMethod yX7_step, Cond.selects RX7 yX7_step yX7_step]
def wsX8_least_r4 : List Cond := [Cond.code yX7_step cX7_step 4 none, Cond.methodLink RX7 77 yX2_swapped, Cond.static yX2_swapped, Cond.code yX2_swapped cX2_swapped 3 (some .int), Cond.methodLink RX0 80 yX0_isEnd, Cond.instanceMethod yX0_isEnd, Cond.selects RX0 yX0_isEnd yX0_isEnd, Cond.code yX0_isEnd cX0_isEnd 2 (some .boolean), Cond.methodLink RX0 84 yX0_backTo, Cond.instanceMethod yX0_backTo, Cond.selects RX0 yX0_backTo yX0_backTo, Cond.code yX0_backTo cX0_backTo 3 none, Cond.methodLink RX0 69 yX3_leave, Cond.instanceMethod yX3_leave, Cond.selects RX3 yX3_leave yX3_leave, Cond.code yX3_leave cX3_leave 6 none]
def wsX8_least : List Cond := .code yX8_least cX8_least 3 (some .int) :: ((wsX8_least_r1 ++ (wsX8_least_r2 ++ (wsX8_least_r3 ++ wsX8_least_r4))) ++ wsX80 ++ wsX00 ++ wsX40 ++ wsX70 ++ wsX30)
def wsX8_still_r1 : List Cond := [Cond.fieldLink RX8 156 "BellTouches$Touch" "rows" "[I", Cond.fieldLink RX8 27 "BellTouches" "touch" "LBellTouches$Touch;", Cond.fieldLink RX8 134 "BellTouches$Touch" "last" "I", Cond.methodLink RX8 153 yX8_isBell, Cond.instanceMethod yX8_isBell, Cond.selects RX8 yX8_isBell yX8_isBell, Cond.initialized RX8, Cond.code yX8_isBell cX8_isBell 2 (some .boolean), Cond.fieldLink RX8 14 "BellTouches" "setup" "LBellTouches$Setup;", Cond.fieldLink RX8 62 "BellTouches$Setup" "n" "I", Cond.methodLink RX8 130 yX8_rung, Cond.instanceMethod yX8_rung, Cond.selects RX8 yX8_rung yX8_rung, Cond.code yX8_rung cX8_rung 1 (some (.object "BellTouches$Touch")), Cond.fieldLink RX8 58 "BellTouches" "stale" "Z", Cond.methodLink RX8 219 yX7_ring, Cond.instanceMethod yX7_ring, Cond.selects RX7 yX7_ring yX7_ring, Cond.initialized RX7, Cond.code yX7_ring cX7_ring 4 none, Cond.fieldLink RX7 46 "BellTouches$Setup" "leadCount" "I", Cond.fieldLink RX7 19 "BellTouches$Touch" "changeCount" "I", Cond.fieldLink RX7 51 "BellTouches$Setup" "leadCalls" "[I", Cond.methodLink RX7 42 yX7_begin]
def wsX8_still_r2 : List Cond := [Cond.instanceMethod yX7_begin, Cond.selects RX7 yX7_begin yX7_begin, Cond.code yX7_begin cX7_begin 4 none, Cond.fieldLink RX7 58 "BellTouches$Setup" "changeCount" "I", Cond.fieldLink RX7 22 "BellTouches$Touch" "pairs" "[I", Cond.fieldLink RX7 59 "BellTouches$Setup" "n" "I", Cond.fieldLink RX7 62 "BellTouches$Setup" "changes" "[I", Cond.fieldLink RX7 25 "BellTouches$Touch" "lastPairs" "[I", Cond.fieldLink RX7 9 "BellTouches$Touch" "rows" "[I", Cond.fieldLink RX7 15 "BellTouches$Touch" "last" "I", Cond.fieldLink RX7 38 "BellTouches$Touch" "compared" "Z", Cond.methodLink RX7 65 yX2_pairs, Cond.static yX2_pairs, Cond.initialized RX2, Cond.code yX2_pairs cX2_pairs 4 (some .int), Cond.methodLink RX2 21 yX2_isKept, Cond.static yX2_isKept, Cond.code yX2_isKept cX2_isKept 2 (some .boolean), Cond.methodLink RX7 70 yX4_calledChange, Cond.instanceMethod yX4_calledChange, Cond.selects RX4 yX4_calledChange yX4_calledChange, Cond.initialized RX4, Cond.code yX4_calledChange cX4_calledChange 2 (some .int), Cond.fieldLink RX4 22 "BellTouches$Setup" "bob" "I"]
def wsX8_still_r3 : List Cond := [Cond.fieldLink RX4 25 "BellTouches$Setup" "single" "I", Cond.methodLink RX7 74 yX2_rounds, Cond.static yX2_rounds, Cond.code yX2_rounds cX2_rounds 3 (some .int), Cond.methodLink RX7 54 yX7_step, Cond.instanceMethod yX7_step, Cond.selects RX7 yX7_step yX7_step, Cond.code yX7_step cX7_step 4 none, Cond.methodLink RX7 77 yX2_swapped, Cond.static yX2_swapped, Cond.code yX2_swapped cX2_swapped 3 (some .int), Cond.methodLink RX8 163 yX2_placeOf, Cond.static yX2_placeOf, Cond.code yX2_placeOf cX2_placeOf 3 (some .int), Cond.methodLink RX2 9 yX2_bellIn, Cond.static yX2_bellIn, Cond.code yX2_bellIn cX2_bellIn 2 (some .int)]
def wsX8_still : List Cond := .code yX8_still cX8_still 5 (some .int) :: ((wsX8_still_r1 ++ (wsX8_still_r2 ++ wsX8_still_r3)) ++ wsX70 ++ wsX80 ++ wsX40)
def wsX8_ahead_r1 : List Cond := [Cond.fieldLink RX8 156 "BellTouches$Touch" "rows" "[I", Cond.fieldLink RX8 27 "BellTouches" "touch" "LBellTouches$Touch;", Cond.fieldLink RX8 134 "BellTouches$Touch" "last" "I", Cond.methodLink RX8 153 yX8_isBell, Cond.instanceMethod yX8_isBell, Cond.selects RX8 yX8_isBell yX8_isBell, Cond.initialized RX8, Cond.code yX8_isBell cX8_isBell 2 (some .boolean), Cond.fieldLink RX8 14 "BellTouches" "setup" "LBellTouches$Setup;", Cond.fieldLink RX8 62 "BellTouches$Setup" "n" "I", Cond.methodLink RX8 130 yX8_rung, Cond.instanceMethod yX8_rung, Cond.selects RX8 yX8_rung yX8_rung, Cond.code yX8_rung cX8_rung 1 (some (.object "BellTouches$Touch")), Cond.fieldLink RX8 58 "BellTouches" "stale" "Z", Cond.methodLink RX8 219 yX7_ring, Cond.instanceMethod yX7_ring, Cond.selects RX7 yX7_ring yX7_ring, Cond.initialized RX7, Cond.code yX7_ring cX7_ring 4 none, Cond.fieldLink RX7 46 "BellTouches$Setup" "leadCount" "I", Cond.fieldLink RX7 19 "BellTouches$Touch" "changeCount" "I", Cond.fieldLink RX7 51 "BellTouches$Setup" "leadCalls" "[I", Cond.methodLink RX7 42 yX7_begin]
def wsX8_ahead_r2 : List Cond := [Cond.instanceMethod yX7_begin, Cond.selects RX7 yX7_begin yX7_begin, Cond.code yX7_begin cX7_begin 4 none, Cond.fieldLink RX7 58 "BellTouches$Setup" "changeCount" "I", Cond.fieldLink RX7 22 "BellTouches$Touch" "pairs" "[I", Cond.fieldLink RX7 59 "BellTouches$Setup" "n" "I", Cond.fieldLink RX7 62 "BellTouches$Setup" "changes" "[I", Cond.fieldLink RX7 25 "BellTouches$Touch" "lastPairs" "[I", Cond.fieldLink RX7 9 "BellTouches$Touch" "rows" "[I", Cond.fieldLink RX7 15 "BellTouches$Touch" "last" "I", Cond.fieldLink RX7 38 "BellTouches$Touch" "compared" "Z", Cond.methodLink RX7 65 yX2_pairs, Cond.static yX2_pairs, Cond.initialized RX2, Cond.code yX2_pairs cX2_pairs 4 (some .int), Cond.methodLink RX2 21 yX2_isKept, Cond.static yX2_isKept, Cond.code yX2_isKept cX2_isKept 2 (some .boolean), Cond.methodLink RX7 70 yX4_calledChange, Cond.instanceMethod yX4_calledChange, Cond.selects RX4 yX4_calledChange yX4_calledChange, Cond.initialized RX4, Cond.code yX4_calledChange cX4_calledChange 2 (some .int), Cond.fieldLink RX4 22 "BellTouches$Setup" "bob" "I"]
def wsX8_ahead_r3 : List Cond := [Cond.fieldLink RX4 25 "BellTouches$Setup" "single" "I", Cond.methodLink RX7 74 yX2_rounds, Cond.static yX2_rounds, Cond.code yX2_rounds cX2_rounds 3 (some .int), Cond.methodLink RX7 54 yX7_step, Cond.instanceMethod yX7_step, Cond.selects RX7 yX7_step yX7_step, Cond.code yX7_step cX7_step 4 none, Cond.methodLink RX7 77 yX2_swapped, Cond.static yX2_swapped, Cond.code yX2_swapped cX2_swapped 3 (some .int), Cond.methodLink RX8 182 yX2_isRightAhead, Cond.static yX2_isRightAhead, Cond.code yX2_isRightAhead cX2_isRightAhead 3 (some .boolean), Cond.methodLink RX2 15 yX2_placeOf, Cond.static yX2_placeOf, Cond.code yX2_placeOf cX2_placeOf 3 (some .int), Cond.methodLink RX2 9 yX2_bellIn, Cond.static yX2_bellIn, Cond.code yX2_bellIn cX2_bellIn 2 (some .int)]
def wsX8_ahead : List Cond := .code yX8_ahead cX8_ahead 6 (some .int) :: ((wsX8_ahead_r1 ++ (wsX8_ahead_r2 ++ wsX8_ahead_r3)) ++ wsX70 ++ wsX80 ++ wsX40)
def wsX8_see : List Cond := .code yX8_see cX8_see 4 (some .int) :: ([.fieldLink RX8 14 "BellTouches" "setup" "LBellTouches$Setup;", .fieldLink RX8 186 "BellTouches$Setup" "seen" "LBellTouches$HandRows;", .fieldLink RX8 190 "BellTouches$HandRows" "size" "I", .methodLink RX8 153 yX8_isBell, .instanceMethod yX8_isBell, .selects RX8 yX8_isBell yX8_isBell, .initialized RX8, .code yX8_isBell cX8_isBell 2 (some .boolean), .fieldLink RX8 62 "BellTouches$Setup" "n" "I", .methodLink RX8 195 yX1_append, .instanceMethod yX1_append, .selects RX1 yX1_append yX1_append, .initialized RX1, .code yX1_append cX1_append 4 (some .boolean), .fieldLink RX1 7 "BellTouches$HandRows" "size" "I", .fieldLink RX1 13 "BellTouches$HandRows" "first" "[I", .fieldLink RX1 17 "BellTouches$HandRows" "second" "[I", .fieldLink RX1 20 "BellTouches$HandRows" "third" "[I"] ++ wsX80 ++ wsX40 ++ wsX10)
def wsX8_fitsLast_r1 : List Cond := [Cond.fieldLink RX8 21 "BellTouches" "trialSetup" "LBellTouches$Setup;", Cond.fieldLink RX8 80 "BellTouches$Setup" "changeCount" "I", Cond.fieldLink RX8 83 "BellTouches$Setup" "changes" "[I", Cond.fieldLink RX8 31 "BellTouches" "trial" "LBellTouches$Touch;", Cond.fieldLink RX8 14 "BellTouches" "setup" "LBellTouches$Setup;", Cond.fieldLink RX8 186 "BellTouches$Setup" "seen" "LBellTouches$HandRows;", Cond.fieldLink RX8 190 "BellTouches$HandRows" "size" "I", Cond.fieldLink RX8 225 "BellTouches$HandRows" "first" "[I", Cond.fieldLink RX8 134 "BellTouches$Touch" "last" "I", Cond.fieldLink RX8 156 "BellTouches$Touch" "rows" "[I", Cond.fieldLink RX8 228 "BellTouches$HandRows" "second" "[I", Cond.fieldLink RX8 259 "BellTouches$HandRows" "third" "[I", Cond.methodLink RX8 219 yX7_ring, Cond.instanceMethod yX7_ring, Cond.selects RX7 yX7_ring yX7_ring, Cond.initialized RX7, Cond.code yX7_ring cX7_ring 4 none, Cond.fieldLink RX7 46 "BellTouches$Setup" "leadCount" "I", Cond.fieldLink RX7 19 "BellTouches$Touch" "changeCount" "I", Cond.fieldLink RX7 51 "BellTouches$Setup" "leadCalls" "[I", Cond.methodLink RX7 42 yX7_begin, Cond.instanceMethod yX7_begin, Cond.selects RX7 yX7_begin yX7_begin, Cond.code yX7_begin cX7_begin 4 none]
def wsX8_fitsLast_r2 : List Cond := [Cond.fieldLink RX7 58 "BellTouches$Setup" "changeCount" "I", Cond.fieldLink RX7 22 "BellTouches$Touch" "pairs" "[I", Cond.fieldLink RX7 59 "BellTouches$Setup" "n" "I", Cond.fieldLink RX7 62 "BellTouches$Setup" "changes" "[I", Cond.fieldLink RX7 25 "BellTouches$Touch" "lastPairs" "[I", Cond.fieldLink RX7 9 "BellTouches$Touch" "rows" "[I", Cond.fieldLink RX7 15 "BellTouches$Touch" "last" "I", Cond.fieldLink RX7 38 "BellTouches$Touch" "compared" "Z", Cond.methodLink RX7 65 yX2_pairs, Cond.static yX2_pairs, Cond.initialized RX2, Cond.code yX2_pairs cX2_pairs 4 (some .int), Cond.methodLink RX2 21 yX2_isKept, Cond.static yX2_isKept, Cond.code yX2_isKept cX2_isKept 2 (some .boolean), Cond.methodLink RX7 70 yX4_calledChange, Cond.instanceMethod yX4_calledChange, Cond.selects RX4 yX4_calledChange yX4_calledChange, Cond.initialized RX4, Cond.code yX4_calledChange cX4_calledChange 2 (some .int), Cond.fieldLink RX4 22 "BellTouches$Setup" "bob" "I", Cond.fieldLink RX4 25 "BellTouches$Setup" "single" "I", Cond.methodLink RX7 74 yX2_rounds, Cond.static yX2_rounds]
def wsX8_fitsLast_r3 : List Cond := [Cond.code yX2_rounds cX2_rounds 3 (some .int), Cond.methodLink RX7 54 yX7_step, Cond.instanceMethod yX7_step, Cond.selects RX7 yX7_step yX7_step, Cond.code yX7_step cX7_step 4 none, Cond.methodLink RX7 77 yX2_swapped, Cond.static yX2_swapped, Cond.code yX2_swapped cX2_swapped 3 (some .int), Cond.methodLink RX8 159 yX2_bellIn, Cond.static yX2_bellIn, Cond.code yX2_bellIn cX2_bellIn 2 (some .int)]
def wsX8_fitsLast : List Cond := .code yX8_fitsLast cX8_fitsLast 6 (some .boolean) :: ((wsX8_fitsLast_r1 ++ (wsX8_fitsLast_r2 ++ wsX8_fitsLast_r3)) ++ wsX80 ++ wsX40 ++ wsX10 ++ wsX70)
def wsX8_fits_r1 : List Cond := [Cond.fieldLink RX8 21 "BellTouches" "trialSetup" "LBellTouches$Setup;", Cond.fieldLink RX8 14 "BellTouches" "setup" "LBellTouches$Setup;", Cond.fieldLink RX8 80 "BellTouches$Setup" "changeCount" "I", Cond.fieldLink RX8 62 "BellTouches$Setup" "n" "I", Cond.methodLink RX8 197 yX4_copyFrom, Cond.instanceMethod yX4_copyFrom, Cond.selects RX4 yX4_copyFrom yX4_copyFrom, Cond.initialized RX4, Cond.code yX4_copyFrom cX4_copyFrom 2 none, Cond.fieldLink RX4 9 "BellTouches$Setup" "n" "I", Cond.fieldLink RX4 19 "BellTouches$Setup" "changeCount" "I", Cond.fieldLink RX4 22 "BellTouches$Setup" "bob" "I", Cond.fieldLink RX4 25 "BellTouches$Setup" "single" "I", Cond.fieldLink RX4 31 "BellTouches$Setup" "leadCount" "I", Cond.fieldLink RX4 15 "BellTouches$Setup" "changes" "[I", Cond.methodLink RX4 55 arraycopyName, Cond.native arraycopyName, Cond.static arraycopyName, Cond.initialized "java/lang/System", Cond.fieldLink RX4 28 "BellTouches$Setup" "leadCalls" "[I", Cond.fieldLink RX4 34 "BellTouches$Setup" "patternBells" "[I", Cond.fieldLink RX4 42 "BellTouches$Setup" "seen" "LBellTouches$HandRows;", Cond.fieldLink RX4 46 "BellTouches$Setup" "events" "LBellTouches$HandRows;", Cond.fieldLink RX4 49 "BellTouches$Setup" "book" "LBellTouches$HandRows;"]
def wsX8_fits_r2 : List Cond := [Cond.methodLink RX4 61 yX1_copyFrom, Cond.instanceMethod yX1_copyFrom, Cond.selects RX1 yX1_copyFrom yX1_copyFrom, Cond.initialized RX1, Cond.code yX1_copyFrom cX1_copyFrom 3 none, Cond.fieldLink RX1 7 "BellTouches$HandRows" "size" "I", Cond.fieldLink RX1 13 "BellTouches$HandRows" "first" "[I", Cond.fieldLink RX1 17 "BellTouches$HandRows" "second" "[I", Cond.fieldLink RX1 20 "BellTouches$HandRows" "third" "[I", Cond.methodLink RX1 23 yX1_append, Cond.instanceMethod yX1_append, Cond.selects RX1 yX1_append yX1_append, Cond.code yX1_append cX1_append 4 (some .boolean), Cond.methodLink RX8 74 yX2_isGood, Cond.static yX2_isGood, Cond.initialized RX2, Cond.code yX2_isGood cX2_isGood 2 (some .boolean), Cond.methodLink RX2 18 yX2_pairs, Cond.static yX2_pairs, Cond.code yX2_pairs cX2_pairs 4 (some .int), Cond.methodLink RX2 21 yX2_isKept, Cond.static yX2_isKept, Cond.code yX2_isKept cX2_isKept 2 (some .boolean), Cond.methodLink RX8 201 yX8_fitsLast]
def wsX8_fits_r3 : List Cond := [Cond.instanceMethod yX8_fitsLast, Cond.selects RX8 yX8_fitsLast yX8_fitsLast, Cond.initialized RX8, Cond.code yX8_fitsLast cX8_fitsLast 6 (some .boolean), Cond.fieldLink RX8 83 "BellTouches$Setup" "changes" "[I", Cond.fieldLink RX8 31 "BellTouches" "trial" "LBellTouches$Touch;", Cond.fieldLink RX8 186 "BellTouches$Setup" "seen" "LBellTouches$HandRows;", Cond.fieldLink RX8 190 "BellTouches$HandRows" "size" "I", Cond.fieldLink RX8 225 "BellTouches$HandRows" "first" "[I", Cond.fieldLink RX8 134 "BellTouches$Touch" "last" "I", Cond.fieldLink RX8 156 "BellTouches$Touch" "rows" "[I", Cond.fieldLink RX8 228 "BellTouches$HandRows" "second" "[I", Cond.fieldLink RX8 259 "BellTouches$HandRows" "third" "[I", Cond.methodLink RX8 219 yX7_ring, Cond.instanceMethod yX7_ring, Cond.selects RX7 yX7_ring yX7_ring, Cond.initialized RX7, Cond.code yX7_ring cX7_ring 4 none, Cond.fieldLink RX7 46 "BellTouches$Setup" "leadCount" "I", Cond.fieldLink RX7 19 "BellTouches$Touch" "changeCount" "I", Cond.fieldLink RX7 51 "BellTouches$Setup" "leadCalls" "[I", Cond.methodLink RX7 42 yX7_begin, Cond.instanceMethod yX7_begin, Cond.selects RX7 yX7_begin yX7_begin]
def wsX8_fits_r4 : List Cond := [Cond.code yX7_begin cX7_begin 4 none, Cond.fieldLink RX7 58 "BellTouches$Setup" "changeCount" "I", Cond.fieldLink RX7 22 "BellTouches$Touch" "pairs" "[I", Cond.fieldLink RX7 59 "BellTouches$Setup" "n" "I", Cond.fieldLink RX7 62 "BellTouches$Setup" "changes" "[I", Cond.fieldLink RX7 25 "BellTouches$Touch" "lastPairs" "[I", Cond.fieldLink RX7 9 "BellTouches$Touch" "rows" "[I", Cond.fieldLink RX7 15 "BellTouches$Touch" "last" "I", Cond.fieldLink RX7 38 "BellTouches$Touch" "compared" "Z", Cond.methodLink RX7 65 yX2_pairs, Cond.methodLink RX7 70 yX4_calledChange, Cond.instanceMethod yX4_calledChange, Cond.selects RX4 yX4_calledChange yX4_calledChange, Cond.code yX4_calledChange cX4_calledChange 2 (some .int), Cond.methodLink RX7 74 yX2_rounds, Cond.static yX2_rounds, Cond.code yX2_rounds cX2_rounds 3 (some .int), Cond.methodLink RX7 54 yX7_step, Cond.instanceMethod yX7_step, Cond.selects RX7 yX7_step yX7_step, Cond.code yX7_step cX7_step 4 none, Cond.methodLink RX7 77 yX2_swapped, Cond.static yX2_swapped, Cond.code yX2_swapped cX2_swapped 3 (some .int)]
def wsX8_fits_r5 : List Cond := [Cond.methodLink RX8 159 yX2_bellIn, Cond.static yX2_bellIn, Cond.code yX2_bellIn cX2_bellIn 2 (some .int)]
def wsX8_fits : List Cond := .code yX8_fits cX8_fits 6 (some .int) :: ((wsX8_fits_r1 ++ (wsX8_fits_r2 ++ (wsX8_fits_r3 ++ (wsX8_fits_r4 ++ wsX8_fits_r5)))) ++ wsX80 ++ wsX40 ++ wsX10 ++ wsX70)
def wsX8_isPart : List Cond := .code yX8_isPart cX8_isPart 1 (some .boolean) :: ([])
def wsX8_lowestTerms : List Cond := .code yX8_lowestTerms cX8_lowestTerms 5 (some .long) :: ([])
def wsX8_odds_r1 : List Cond := [Cond.constantLong RX8 207 (-9223372036854775808), Cond.fieldLink RX8 156 "BellTouches$Touch" "rows" "[I", Cond.fieldLink RX8 27 "BellTouches" "touch" "LBellTouches$Touch;", Cond.fieldLink RX8 134 "BellTouches$Touch" "last" "I", Cond.methodLink RX8 153 yX8_isBell, Cond.instanceMethod yX8_isBell, Cond.selects RX8 yX8_isBell yX8_isBell, Cond.initialized RX8, Cond.code yX8_isBell cX8_isBell 2 (some .boolean), Cond.fieldLink RX8 14 "BellTouches" "setup" "LBellTouches$Setup;", Cond.fieldLink RX8 62 "BellTouches$Setup" "n" "I", Cond.methodLink RX8 204 yX8_isPart, Cond.static yX8_isPart, Cond.code yX8_isPart cX8_isPart 1 (some .boolean), Cond.methodLink RX8 130 yX8_rung, Cond.instanceMethod yX8_rung, Cond.selects RX8 yX8_rung yX8_rung, Cond.code yX8_rung cX8_rung 1 (some (.object "BellTouches$Touch")), Cond.fieldLink RX8 58 "BellTouches" "stale" "Z", Cond.methodLink RX8 219 yX7_ring, Cond.instanceMethod yX7_ring, Cond.selects RX7 yX7_ring yX7_ring, Cond.initialized RX7, Cond.code yX7_ring cX7_ring 4 none]
def wsX8_odds_r2 : List Cond := [Cond.fieldLink RX7 46 "BellTouches$Setup" "leadCount" "I", Cond.fieldLink RX7 19 "BellTouches$Touch" "changeCount" "I", Cond.fieldLink RX7 51 "BellTouches$Setup" "leadCalls" "[I", Cond.methodLink RX7 42 yX7_begin, Cond.instanceMethod yX7_begin, Cond.selects RX7 yX7_begin yX7_begin, Cond.code yX7_begin cX7_begin 4 none, Cond.fieldLink RX7 58 "BellTouches$Setup" "changeCount" "I", Cond.fieldLink RX7 22 "BellTouches$Touch" "pairs" "[I", Cond.fieldLink RX7 59 "BellTouches$Setup" "n" "I", Cond.fieldLink RX7 62 "BellTouches$Setup" "changes" "[I", Cond.fieldLink RX7 25 "BellTouches$Touch" "lastPairs" "[I", Cond.fieldLink RX7 9 "BellTouches$Touch" "rows" "[I", Cond.fieldLink RX7 15 "BellTouches$Touch" "last" "I", Cond.fieldLink RX7 38 "BellTouches$Touch" "compared" "Z", Cond.methodLink RX7 65 yX2_pairs, Cond.static yX2_pairs, Cond.initialized RX2, Cond.code yX2_pairs cX2_pairs 4 (some .int), Cond.methodLink RX2 21 yX2_isKept, Cond.static yX2_isKept, Cond.code yX2_isKept cX2_isKept 2 (some .boolean), Cond.methodLink RX7 70 yX4_calledChange, Cond.instanceMethod yX4_calledChange]
def wsX8_odds_r3 : List Cond := [Cond.selects RX4 yX4_calledChange yX4_calledChange, Cond.initialized RX4, Cond.code yX4_calledChange cX4_calledChange 2 (some .int), Cond.fieldLink RX4 22 "BellTouches$Setup" "bob" "I", Cond.fieldLink RX4 25 "BellTouches$Setup" "single" "I", Cond.methodLink RX7 74 yX2_rounds, Cond.static yX2_rounds, Cond.code yX2_rounds cX2_rounds 3 (some .int), Cond.methodLink RX7 54 yX7_step, Cond.instanceMethod yX7_step, Cond.selects RX7 yX7_step yX7_step, Cond.code yX7_step cX7_step 4 none, Cond.methodLink RX7 77 yX2_swapped, Cond.static yX2_swapped, Cond.code yX2_swapped cX2_swapped 3 (some .int), Cond.methodLink RX8 159 yX2_bellIn, Cond.static yX2_bellIn, Cond.code yX2_bellIn cX2_bellIn 2 (some .int), Cond.methodLink RX8 209 yX8_lowestTerms, Cond.static yX8_lowestTerms, Cond.code yX8_lowestTerms cX8_lowestTerms 5 (some .long)]
def wsX8_odds : List Cond := .code yX8_odds cX8_odds 7 (some .long) :: ((wsX8_odds_r1 ++ (wsX8_odds_r2 ++ wsX8_odds_r3)) ++ wsX70 ++ wsX80 ++ wsX40)
def wsX8_mean_r1 : List Cond := [Cond.constantLong RX8 207 (-9223372036854775808), Cond.fieldLink RX8 134 "BellTouches$Touch" "last" "I", Cond.methodLink RX8 204 yX8_isPart, Cond.static yX8_isPart, Cond.initialized RX8, Cond.code yX8_isPart cX8_isPart 1 (some .boolean), Cond.methodLink RX8 169 yX8_countMusic, Cond.instanceMethod yX8_countMusic, Cond.selects RX8 yX8_countMusic yX8_countMusic, Cond.code yX8_countMusic cX8_countMusic 5 (some .int), Cond.fieldLink RX8 156 "BellTouches$Touch" "rows" "[I", Cond.fieldLink RX8 27 "BellTouches" "touch" "LBellTouches$Touch;", Cond.fieldLink RX8 14 "BellTouches" "setup" "LBellTouches$Setup;", Cond.methodLink RX8 130 yX8_rung, Cond.instanceMethod yX8_rung, Cond.selects RX8 yX8_rung yX8_rung, Cond.code yX8_rung cX8_rung 1 (some (.object "BellTouches$Touch")), Cond.fieldLink RX8 58 "BellTouches" "stale" "Z", Cond.methodLink RX8 219 yX7_ring, Cond.instanceMethod yX7_ring, Cond.selects RX7 yX7_ring yX7_ring, Cond.initialized RX7, Cond.code yX7_ring cX7_ring 4 none, Cond.fieldLink RX7 46 "BellTouches$Setup" "leadCount" "I"]
def wsX8_mean_r2 : List Cond := [Cond.fieldLink RX7 19 "BellTouches$Touch" "changeCount" "I", Cond.fieldLink RX7 51 "BellTouches$Setup" "leadCalls" "[I", Cond.methodLink RX7 42 yX7_begin, Cond.instanceMethod yX7_begin, Cond.selects RX7 yX7_begin yX7_begin, Cond.code yX7_begin cX7_begin 4 none, Cond.fieldLink RX7 58 "BellTouches$Setup" "changeCount" "I", Cond.fieldLink RX7 22 "BellTouches$Touch" "pairs" "[I", Cond.fieldLink RX7 59 "BellTouches$Setup" "n" "I", Cond.fieldLink RX7 62 "BellTouches$Setup" "changes" "[I", Cond.fieldLink RX7 25 "BellTouches$Touch" "lastPairs" "[I", Cond.fieldLink RX7 9 "BellTouches$Touch" "rows" "[I", Cond.fieldLink RX7 15 "BellTouches$Touch" "last" "I", Cond.fieldLink RX7 38 "BellTouches$Touch" "compared" "Z", Cond.methodLink RX7 65 yX2_pairs, Cond.static yX2_pairs, Cond.initialized RX2, Cond.code yX2_pairs cX2_pairs 4 (some .int), Cond.methodLink RX2 21 yX2_isKept, Cond.static yX2_isKept, Cond.code yX2_isKept cX2_isKept 2 (some .boolean), Cond.methodLink RX7 70 yX4_calledChange, Cond.instanceMethod yX4_calledChange, Cond.selects RX4 yX4_calledChange yX4_calledChange]
def wsX8_mean_r3 : List Cond := [Cond.initialized RX4, Cond.code yX4_calledChange cX4_calledChange 2 (some .int), Cond.fieldLink RX4 22 "BellTouches$Setup" "bob" "I", Cond.fieldLink RX4 25 "BellTouches$Setup" "single" "I", Cond.methodLink RX7 74 yX2_rounds, Cond.static yX2_rounds, Cond.code yX2_rounds cX2_rounds 3 (some .int), Cond.methodLink RX7 54 yX7_step, Cond.instanceMethod yX7_step, Cond.selects RX7 yX7_step yX7_step, Cond.code yX7_step cX7_step 4 none, Cond.methodLink RX7 77 yX2_swapped, Cond.static yX2_swapped, Cond.code yX2_swapped cX2_swapped 3 (some .int), Cond.methodLink RX8 256 yX4_isMusic, Cond.instanceMethod yX4_isMusic, Cond.selects RX4 yX4_isMusic yX4_isMusic, Cond.code yX4_isMusic cX4_isMusic 4 (some .boolean), Cond.fieldLink RX4 9 "BellTouches$Setup" "n" "I", Cond.constant RX4 71 (65535), Cond.methodLink RX4 65 yX2_rounds, Cond.methodLink RX4 72 yX4_holdsPattern, Cond.instanceMethod yX4_holdsPattern, Cond.selects RX4 yX4_holdsPattern yX4_holdsPattern]
def wsX8_mean_r4 : List Cond := [Cond.code yX4_holdsPattern cX4_holdsPattern 4 (some .boolean), Cond.fieldLink RX4 34 "BellTouches$Setup" "patternBells" "[I", Cond.methodLink RX4 80 yX2_bellIn, Cond.static yX2_bellIn, Cond.code yX2_bellIn cX2_bellIn 2 (some .int), Cond.methodLink RX4 76 yX2_isRightAhead, Cond.static yX2_isRightAhead, Cond.code yX2_isRightAhead cX2_isRightAhead 3 (some .boolean), Cond.methodLink RX2 15 yX2_placeOf, Cond.static yX2_placeOf, Cond.code yX2_placeOf cX2_placeOf 3 (some .int), Cond.methodLink RX2 9 yX2_bellIn, Cond.methodLink RX8 209 yX8_lowestTerms, Cond.static yX8_lowestTerms, Cond.code yX8_lowestTerms cX8_lowestTerms 5 (some .long)]
def wsX8_mean : List Cond := .code yX8_mean cX8_mean 4 (some .long) :: ((wsX8_mean_r1 ++ (wsX8_mean_r2 ++ (wsX8_mean_r3 ++ wsX8_mean_r4))) ++ wsX70 ++ wsX80 ++ wsX40)
def wsX8_event : List Cond := .code yX8_event cX8_event 3 (some .int) :: ([.fieldLink RX8 14 "BellTouches" "setup" "LBellTouches$Setup;", .fieldLink RX8 213 "BellTouches$Setup" "events" "LBellTouches$HandRows;", .fieldLink RX8 190 "BellTouches$HandRows" "size" "I", .methodLink RX8 95 yX8_isLead, .static yX8_isLead, .initialized RX8, .code yX8_isLead cX8_isLead 1 (some .boolean), .methodLink RX8 195 yX1_append, .instanceMethod yX1_append, .selects RX1 yX1_append yX1_append, .initialized RX1, .code yX1_append cX1_append 4 (some .boolean), .fieldLink RX1 7 "BellTouches$HandRows" "size" "I", .fieldLink RX1 13 "BellTouches$HandRows" "first" "[I", .fieldLink RX1 17 "BellTouches$HandRows" "second" "[I", .fieldLink RX1 20 "BellTouches$HandRows" "third" "[I"] ++ wsX80 ++ wsX40 ++ wsX10)
def wsX8_after_r1 : List Cond := [Cond.fieldLink RX8 21 "BellTouches" "trialSetup" "LBellTouches$Setup;", Cond.fieldLink RX8 14 "BellTouches" "setup" "LBellTouches$Setup;", Cond.fieldLink RX8 31 "BellTouches" "trial" "LBellTouches$Touch;", Cond.methodLink RX8 197 yX4_copyFrom, Cond.instanceMethod yX4_copyFrom, Cond.selects RX4 yX4_copyFrom yX4_copyFrom, Cond.initialized RX4, Cond.code yX4_copyFrom cX4_copyFrom 2 none, Cond.fieldLink RX4 9 "BellTouches$Setup" "n" "I", Cond.fieldLink RX4 19 "BellTouches$Setup" "changeCount" "I", Cond.fieldLink RX4 22 "BellTouches$Setup" "bob" "I", Cond.fieldLink RX4 25 "BellTouches$Setup" "single" "I", Cond.fieldLink RX4 31 "BellTouches$Setup" "leadCount" "I", Cond.fieldLink RX4 15 "BellTouches$Setup" "changes" "[I", Cond.methodLink RX4 55 arraycopyName, Cond.native arraycopyName, Cond.static arraycopyName, Cond.initialized "java/lang/System", Cond.fieldLink RX4 28 "BellTouches$Setup" "leadCalls" "[I", Cond.fieldLink RX4 34 "BellTouches$Setup" "patternBells" "[I", Cond.fieldLink RX4 42 "BellTouches$Setup" "seen" "LBellTouches$HandRows;", Cond.fieldLink RX4 46 "BellTouches$Setup" "events" "LBellTouches$HandRows;", Cond.fieldLink RX4 49 "BellTouches$Setup" "book" "LBellTouches$HandRows;", Cond.methodLink RX4 61 yX1_copyFrom]
def wsX8_after_r2 : List Cond := [Cond.instanceMethod yX1_copyFrom, Cond.selects RX1 yX1_copyFrom yX1_copyFrom, Cond.initialized RX1, Cond.code yX1_copyFrom cX1_copyFrom 3 none, Cond.fieldLink RX1 7 "BellTouches$HandRows" "size" "I", Cond.fieldLink RX1 13 "BellTouches$HandRows" "first" "[I", Cond.fieldLink RX1 17 "BellTouches$HandRows" "second" "[I", Cond.fieldLink RX1 20 "BellTouches$HandRows" "third" "[I", Cond.methodLink RX1 23 yX1_append, Cond.instanceMethod yX1_append, Cond.selects RX1 yX1_append yX1_append, Cond.code yX1_append cX1_append 4 (some .boolean), Cond.methodLink RX8 216 yX4_happen, Cond.instanceMethod yX4_happen, Cond.selects RX4 yX4_happen yX4_happen, Cond.code yX4_happen cX4_happen 3 none, Cond.fieldLink RX4 52 "BellTouches$HandRows" "size" "I", Cond.fieldLink RX4 84 "BellTouches$HandRows" "second" "[I", Cond.fieldLink RX4 87 "BellTouches$HandRows" "first" "[I", Cond.methodLink RX4 90 Lib.Math.max.name, Cond.static Lib.Math.max.name, Cond.initialized "java/lang/Math", Cond.code Lib.Math.max.name Lib.Math.max.code 2 (some .int), Cond.methodLink RX8 219 yX7_ring]
def wsX8_after_r3 : List Cond := [Cond.instanceMethod yX7_ring, Cond.selects RX7 yX7_ring yX7_ring, Cond.initialized RX7, Cond.code yX7_ring cX7_ring 4 none, Cond.fieldLink RX7 46 "BellTouches$Setup" "leadCount" "I", Cond.fieldLink RX7 19 "BellTouches$Touch" "changeCount" "I", Cond.fieldLink RX7 51 "BellTouches$Setup" "leadCalls" "[I", Cond.methodLink RX7 42 yX7_begin, Cond.instanceMethod yX7_begin, Cond.selects RX7 yX7_begin yX7_begin, Cond.code yX7_begin cX7_begin 4 none, Cond.fieldLink RX7 58 "BellTouches$Setup" "changeCount" "I", Cond.fieldLink RX7 22 "BellTouches$Touch" "pairs" "[I", Cond.fieldLink RX7 59 "BellTouches$Setup" "n" "I", Cond.fieldLink RX7 62 "BellTouches$Setup" "changes" "[I", Cond.fieldLink RX7 25 "BellTouches$Touch" "lastPairs" "[I", Cond.fieldLink RX7 9 "BellTouches$Touch" "rows" "[I", Cond.fieldLink RX7 15 "BellTouches$Touch" "last" "I", Cond.fieldLink RX7 38 "BellTouches$Touch" "compared" "Z", Cond.methodLink RX7 65 yX2_pairs, Cond.static yX2_pairs, Cond.initialized RX2, Cond.code yX2_pairs cX2_pairs 4 (some .int), Cond.methodLink RX2 21 yX2_isKept]
def wsX8_after_r4 : List Cond := [Cond.static yX2_isKept, Cond.code yX2_isKept cX2_isKept 2 (some .boolean), Cond.methodLink RX7 70 yX4_calledChange, Cond.instanceMethod yX4_calledChange, Cond.selects RX4 yX4_calledChange yX4_calledChange, Cond.code yX4_calledChange cX4_calledChange 2 (some .int), Cond.methodLink RX7 74 yX2_rounds, Cond.static yX2_rounds, Cond.code yX2_rounds cX2_rounds 3 (some .int), Cond.methodLink RX7 54 yX7_step, Cond.instanceMethod yX7_step, Cond.selects RX7 yX7_step yX7_step, Cond.code yX7_step cX7_step 4 none, Cond.methodLink RX7 77 yX2_swapped, Cond.static yX2_swapped, Cond.code yX2_swapped cX2_swapped 3 (some .int), Cond.methodLink RX8 137 yX7_roundRow, Cond.instanceMethod yX7_roundRow, Cond.selects RX7 yX7_roundRow yX7_roundRow, Cond.code yX7_roundRow cX7_roundRow 2 (some .int), Cond.fieldLink RX7 28 "BellTouches$Touch" "firsts" "[I", Cond.methodLink RX7 80 yX7_compare, Cond.instanceMethod yX7_compare, Cond.selects RX7 yX7_compare yX7_compare]
def wsX8_after_r5 : List Cond := [Cond.code yX7_compare cX7_compare 2 none, Cond.fieldLink RX7 34 "BellTouches$Touch" "table" "LBellTouches$RowTable;", Cond.methodLink RX7 87 yX3_enter, Cond.instanceMethod yX3_enter, Cond.selects RX3 yX3_enter yX3_enter, Cond.initialized RX3, Cond.code yX3_enter cX3_enter 7 (some .int), Cond.fieldLink RX3 9 "BellTouches$RowTable" "numbers" "[I", Cond.methodLink RX3 13 yX3_start, Cond.static yX3_start, Cond.code yX3_start cX3_start 1 (some .int), Cond.constant RX3 17 (-1640531535), Cond.methodLink RX7 91 yX3_leave, Cond.instanceMethod yX3_leave, Cond.selects RX3 yX3_leave yX3_leave, Cond.code yX3_leave cX3_leave 6 none, Cond.methodLink RX8 140 yX7_falseRow, Cond.instanceMethod yX7_falseRow, Cond.selects RX7 yX7_falseRow yX7_falseRow, Cond.code yX7_falseRow cX7_falseRow 3 (some .int), Cond.methodLink RX8 143 yX7_isTrue, Cond.instanceMethod yX7_isTrue, Cond.selects RX7 yX7_isTrue yX7_isTrue, Cond.code yX7_isTrue cX7_isTrue 1 (some .boolean)]
def wsX8_after_r6 : List Cond := [Cond.methodLink RX7 83 yX7_falseRow]
def wsX8_after : List Cond := .code yX8_after cX8_after 2 (some .int) :: ((wsX8_after_r1 ++ (wsX8_after_r2 ++ (wsX8_after_r3 ++ (wsX8_after_r4 ++ (wsX8_after_r5 ++ wsX8_after_r6))))) ++ wsX80 ++ wsX40 ++ wsX10 ++ wsX70 ++ wsX30)
def wsX8_book : List Cond := .code yX8_book cX8_book 3 (some .int) :: ([.fieldLink RX8 14 "BellTouches" "setup" "LBellTouches$Setup;", .fieldLink RX8 222 "BellTouches$Setup" "book" "LBellTouches$HandRows;", .fieldLink RX8 190 "BellTouches$HandRows" "size" "I", .methodLink RX8 153 yX8_isBell, .instanceMethod yX8_isBell, .selects RX8 yX8_isBell yX8_isBell, .initialized RX8, .code yX8_isBell cX8_isBell 2 (some .boolean), .fieldLink RX8 62 "BellTouches$Setup" "n" "I", .methodLink RX8 195 yX1_append, .instanceMethod yX1_append, .selects RX1 yX1_append yX1_append, .initialized RX1, .code yX1_append cX1_append 4 (some .boolean), .fieldLink RX1 7 "BellTouches$HandRows" "size" "I", .fieldLink RX1 13 "BellTouches$HandRows" "first" "[I", .fieldLink RX1 17 "BellTouches$HandRows" "second" "[I", .fieldLink RX1 20 "BellTouches$HandRows" "third" "[I"] ++ wsX80 ++ wsX40 ++ wsX10)
def wsX8_looked_r1 : List Cond := [Cond.fieldLink RX8 14 "BellTouches" "setup" "LBellTouches$Setup;", Cond.fieldLink RX8 222 "BellTouches$Setup" "book" "LBellTouches$HandRows;", Cond.fieldLink RX8 190 "BellTouches$HandRows" "size" "I", Cond.fieldLink RX8 225 "BellTouches$HandRows" "first" "[I", Cond.fieldLink RX8 156 "BellTouches$Touch" "rows" "[I", Cond.fieldLink RX8 228 "BellTouches$HandRows" "second" "[I", Cond.methodLink RX8 150 yX8_isRow, Cond.instanceMethod yX8_isRow, Cond.selects RX8 yX8_isRow yX8_isRow, Cond.initialized RX8, Cond.code yX8_isRow cX8_isRow 2 (some .boolean), Cond.fieldLink RX8 134 "BellTouches$Touch" "last" "I", Cond.methodLink RX8 130 yX8_rung, Cond.instanceMethod yX8_rung, Cond.selects RX8 yX8_rung yX8_rung, Cond.code yX8_rung cX8_rung 1 (some (.object "BellTouches$Touch")), Cond.fieldLink RX8 58 "BellTouches" "stale" "Z", Cond.fieldLink RX8 27 "BellTouches" "touch" "LBellTouches$Touch;", Cond.methodLink RX8 219 yX7_ring, Cond.instanceMethod yX7_ring, Cond.selects RX7 yX7_ring yX7_ring, Cond.initialized RX7, Cond.code yX7_ring cX7_ring 4 none, Cond.fieldLink RX7 46 "BellTouches$Setup" "leadCount" "I"]
def wsX8_looked_r2 : List Cond := [Cond.fieldLink RX7 19 "BellTouches$Touch" "changeCount" "I", Cond.fieldLink RX7 51 "BellTouches$Setup" "leadCalls" "[I", Cond.methodLink RX7 42 yX7_begin, Cond.instanceMethod yX7_begin, Cond.selects RX7 yX7_begin yX7_begin, Cond.code yX7_begin cX7_begin 4 none, Cond.fieldLink RX7 58 "BellTouches$Setup" "changeCount" "I", Cond.fieldLink RX7 22 "BellTouches$Touch" "pairs" "[I", Cond.fieldLink RX7 59 "BellTouches$Setup" "n" "I", Cond.fieldLink RX7 62 "BellTouches$Setup" "changes" "[I", Cond.fieldLink RX7 25 "BellTouches$Touch" "lastPairs" "[I", Cond.fieldLink RX7 9 "BellTouches$Touch" "rows" "[I", Cond.fieldLink RX7 15 "BellTouches$Touch" "last" "I", Cond.fieldLink RX7 38 "BellTouches$Touch" "compared" "Z", Cond.methodLink RX7 65 yX2_pairs, Cond.static yX2_pairs, Cond.initialized RX2, Cond.code yX2_pairs cX2_pairs 4 (some .int), Cond.methodLink RX2 21 yX2_isKept, Cond.static yX2_isKept, Cond.code yX2_isKept cX2_isKept 2 (some .boolean), Cond.methodLink RX7 70 yX4_calledChange, Cond.instanceMethod yX4_calledChange, Cond.selects RX4 yX4_calledChange yX4_calledChange]
def wsX8_looked_r3 : List Cond := [Cond.initialized RX4, Cond.code yX4_calledChange cX4_calledChange 2 (some .int), Cond.fieldLink RX4 22 "BellTouches$Setup" "bob" "I", Cond.fieldLink RX4 25 "BellTouches$Setup" "single" "I", Cond.methodLink RX7 74 yX2_rounds, Cond.static yX2_rounds, Cond.code yX2_rounds cX2_rounds 3 (some .int), Cond.methodLink RX7 54 yX7_step, Cond.instanceMethod yX7_step, Cond.selects RX7 yX7_step yX7_step, Cond.code yX7_step cX7_step 4 none, Cond.methodLink RX7 77 yX2_swapped, Cond.static yX2_swapped, Cond.code yX2_swapped cX2_swapped 3 (some .int), Cond.methodLink RX8 159 yX2_bellIn, Cond.static yX2_bellIn, Cond.code yX2_bellIn cX2_bellIn 2 (some .int)]
def wsX8_looked : List Cond := .code yX8_looked cX8_looked 4 (some .int) :: ((wsX8_looked_r1 ++ (wsX8_looked_r2 ++ wsX8_looked_r3)) ++ wsX80 ++ wsX40 ++ wsX10 ++ wsX70)
def wsX8_isTape : List Cond := .code yX8_isTape cX8_isTape 1 (some .boolean) :: ([])
def wsX8_judge_r1 : List Cond := [Cond.fieldLink RX8 50 "BellTouches" "tapes" "[LBellTouches$Tape;", Cond.fieldLink RX8 234 "BellTouches$Tape" "sort" "I", Cond.fieldLink RX8 14 "BellTouches" "setup" "LBellTouches$Setup;", Cond.fieldLink RX8 62 "BellTouches$Setup" "n" "I", Cond.fieldLink RX8 240 "BellTouches$Tape" "items" "[J", Cond.fieldLink RX8 156 "BellTouches$Touch" "rows" "[I", Cond.methodLink RX8 150 yX8_isRow, Cond.instanceMethod yX8_isRow, Cond.selects RX8 yX8_isRow yX8_isRow, Cond.initialized RX8, Cond.code yX8_isRow cX8_isRow 2 (some .boolean), Cond.fieldLink RX8 134 "BellTouches$Touch" "last" "I", Cond.methodLink RX8 130 yX8_rung, Cond.instanceMethod yX8_rung, Cond.selects RX8 yX8_rung yX8_rung, Cond.code yX8_rung cX8_rung 1 (some (.object "BellTouches$Touch")), Cond.fieldLink RX8 58 "BellTouches" "stale" "Z", Cond.fieldLink RX8 27 "BellTouches" "touch" "LBellTouches$Touch;", Cond.methodLink RX8 219 yX7_ring, Cond.instanceMethod yX7_ring, Cond.selects RX7 yX7_ring yX7_ring, Cond.initialized RX7, Cond.code yX7_ring cX7_ring 4 none, Cond.fieldLink RX7 46 "BellTouches$Setup" "leadCount" "I"]
def wsX8_judge_r2 : List Cond := [Cond.fieldLink RX7 19 "BellTouches$Touch" "changeCount" "I", Cond.fieldLink RX7 51 "BellTouches$Setup" "leadCalls" "[I", Cond.methodLink RX7 42 yX7_begin, Cond.instanceMethod yX7_begin, Cond.selects RX7 yX7_begin yX7_begin, Cond.code yX7_begin cX7_begin 4 none, Cond.fieldLink RX7 58 "BellTouches$Setup" "changeCount" "I", Cond.fieldLink RX7 22 "BellTouches$Touch" "pairs" "[I", Cond.fieldLink RX7 59 "BellTouches$Setup" "n" "I", Cond.fieldLink RX7 62 "BellTouches$Setup" "changes" "[I", Cond.fieldLink RX7 25 "BellTouches$Touch" "lastPairs" "[I", Cond.fieldLink RX7 9 "BellTouches$Touch" "rows" "[I", Cond.fieldLink RX7 15 "BellTouches$Touch" "last" "I", Cond.fieldLink RX7 38 "BellTouches$Touch" "compared" "Z", Cond.methodLink RX7 65 yX2_pairs, Cond.static yX2_pairs, Cond.initialized RX2, Cond.code yX2_pairs cX2_pairs 4 (some .int), Cond.methodLink RX2 21 yX2_isKept, Cond.static yX2_isKept, Cond.code yX2_isKept cX2_isKept 2 (some .boolean), Cond.methodLink RX7 70 yX4_calledChange, Cond.instanceMethod yX4_calledChange, Cond.selects RX4 yX4_calledChange yX4_calledChange]
def wsX8_judge_r3 : List Cond := [Cond.initialized RX4, Cond.code yX4_calledChange cX4_calledChange 2 (some .int), Cond.fieldLink RX4 22 "BellTouches$Setup" "bob" "I", Cond.fieldLink RX4 25 "BellTouches$Setup" "single" "I", Cond.methodLink RX7 74 yX2_rounds, Cond.static yX2_rounds, Cond.code yX2_rounds cX2_rounds 3 (some .int), Cond.methodLink RX7 54 yX7_step, Cond.instanceMethod yX7_step, Cond.selects RX7 yX7_step yX7_step, Cond.code yX7_step cX7_step 4 none, Cond.methodLink RX7 77 yX2_swapped, Cond.static yX2_swapped, Cond.code yX2_swapped cX2_swapped 3 (some .int), Cond.methodLink RX8 231 yX8_isTape, Cond.static yX8_isTape, Cond.code yX8_isTape cX8_isTape 1 (some .boolean), Cond.methodLink RX8 237 yX6_has, Cond.instanceMethod yX6_has, Cond.selects RX6 yX6_has yX6_has, Cond.initialized RX6, Cond.code yX6_has cX6_has 3 (some .boolean), Cond.fieldLink RX6 15 "BellTouches$Tape" "length" "I", Cond.methodLink RX8 159 yX2_bellIn]
def wsX8_judge_r4 : List Cond := [Cond.static yX2_bellIn, Cond.code yX2_bellIn cX2_bellIn 2 (some .int)]
def wsX8_judge : List Cond := .code yX8_judge cX8_judge 6 (some .int) :: ((wsX8_judge_r1 ++ (wsX8_judge_r2 ++ (wsX8_judge_r3 ++ wsX8_judge_r4))) ++ wsX80 ++ wsX60 ++ wsX40 ++ wsX70)
def wsX8_image_r1 : List Cond := [Cond.fieldLink RX8 18 "BellTouches" "kept" "LBellTouches$Setup;", Cond.fieldLink RX8 14 "BellTouches" "setup" "LBellTouches$Setup;", Cond.fieldLink RX8 54 "BellTouches" "hasImage" "Z", Cond.fieldLink RX8 80 "BellTouches$Setup" "changeCount" "I", Cond.methodLink RX8 197 yX4_copyFrom, Cond.instanceMethod yX4_copyFrom, Cond.selects RX4 yX4_copyFrom yX4_copyFrom, Cond.initialized RX4, Cond.code yX4_copyFrom cX4_copyFrom 2 none, Cond.fieldLink RX4 9 "BellTouches$Setup" "n" "I", Cond.fieldLink RX4 19 "BellTouches$Setup" "changeCount" "I", Cond.fieldLink RX4 22 "BellTouches$Setup" "bob" "I", Cond.fieldLink RX4 25 "BellTouches$Setup" "single" "I", Cond.fieldLink RX4 31 "BellTouches$Setup" "leadCount" "I", Cond.fieldLink RX4 15 "BellTouches$Setup" "changes" "[I", Cond.methodLink RX4 55 arraycopyName, Cond.native arraycopyName, Cond.static arraycopyName, Cond.initialized "java/lang/System", Cond.fieldLink RX4 28 "BellTouches$Setup" "leadCalls" "[I", Cond.fieldLink RX4 34 "BellTouches$Setup" "patternBells" "[I", Cond.fieldLink RX4 42 "BellTouches$Setup" "seen" "LBellTouches$HandRows;", Cond.fieldLink RX4 46 "BellTouches$Setup" "events" "LBellTouches$HandRows;", Cond.fieldLink RX4 49 "BellTouches$Setup" "book" "LBellTouches$HandRows;"]
def wsX8_image_r2 : List Cond := [Cond.methodLink RX4 61 yX1_copyFrom, Cond.instanceMethod yX1_copyFrom, Cond.selects RX1 yX1_copyFrom yX1_copyFrom, Cond.initialized RX1, Cond.code yX1_copyFrom cX1_copyFrom 3 none, Cond.fieldLink RX1 7 "BellTouches$HandRows" "size" "I", Cond.fieldLink RX1 13 "BellTouches$HandRows" "first" "[I", Cond.fieldLink RX1 17 "BellTouches$HandRows" "second" "[I", Cond.fieldLink RX1 20 "BellTouches$HandRows" "third" "[I", Cond.methodLink RX1 23 yX1_append, Cond.instanceMethod yX1_append, Cond.selects RX1 yX1_append yX1_append, Cond.code yX1_append cX1_append 4 (some .boolean)]
def wsX8_image : List Cond := .code yX8_image cX8_image 1 (some .int) :: ((wsX8_image_r1 ++ wsX8_image_r2) ++ wsX80 ++ wsX40 ++ wsX10)
def wsX8_undo_r1 : List Cond := [Cond.fieldLink RX8 54 "BellTouches" "hasImage" "Z", Cond.fieldLink RX8 14 "BellTouches" "setup" "LBellTouches$Setup;", Cond.fieldLink RX8 18 "BellTouches" "kept" "LBellTouches$Setup;", Cond.fieldLink RX8 58 "BellTouches" "stale" "Z", Cond.fieldLink RX8 80 "BellTouches$Setup" "changeCount" "I", Cond.methodLink RX8 197 yX4_copyFrom, Cond.instanceMethod yX4_copyFrom, Cond.selects RX4 yX4_copyFrom yX4_copyFrom, Cond.initialized RX4, Cond.code yX4_copyFrom cX4_copyFrom 2 none, Cond.fieldLink RX4 9 "BellTouches$Setup" "n" "I", Cond.fieldLink RX4 19 "BellTouches$Setup" "changeCount" "I", Cond.fieldLink RX4 22 "BellTouches$Setup" "bob" "I", Cond.fieldLink RX4 25 "BellTouches$Setup" "single" "I", Cond.fieldLink RX4 31 "BellTouches$Setup" "leadCount" "I", Cond.fieldLink RX4 15 "BellTouches$Setup" "changes" "[I", Cond.methodLink RX4 55 arraycopyName, Cond.native arraycopyName, Cond.static arraycopyName, Cond.initialized "java/lang/System", Cond.fieldLink RX4 28 "BellTouches$Setup" "leadCalls" "[I", Cond.fieldLink RX4 34 "BellTouches$Setup" "patternBells" "[I", Cond.fieldLink RX4 42 "BellTouches$Setup" "seen" "LBellTouches$HandRows;", Cond.fieldLink RX4 46 "BellTouches$Setup" "events" "LBellTouches$HandRows;"]
def wsX8_undo_r2 : List Cond := [Cond.fieldLink RX4 49 "BellTouches$Setup" "book" "LBellTouches$HandRows;", Cond.methodLink RX4 61 yX1_copyFrom, Cond.instanceMethod yX1_copyFrom, Cond.selects RX1 yX1_copyFrom yX1_copyFrom, Cond.initialized RX1, Cond.code yX1_copyFrom cX1_copyFrom 3 none, Cond.fieldLink RX1 7 "BellTouches$HandRows" "size" "I", Cond.fieldLink RX1 13 "BellTouches$HandRows" "first" "[I", Cond.fieldLink RX1 17 "BellTouches$HandRows" "second" "[I", Cond.fieldLink RX1 20 "BellTouches$HandRows" "third" "[I", Cond.methodLink RX1 23 yX1_append, Cond.instanceMethod yX1_append, Cond.selects RX1 yX1_append yX1_append, Cond.code yX1_append cX1_append 4 (some .boolean)]
def wsX8_undo : List Cond := .code yX8_undo cX8_undo 1 (some .int) :: ((wsX8_undo_r1 ++ wsX8_undo_r2) ++ wsX80 ++ wsX40 ++ wsX10)
def wsX8_count : List Cond := .code yX8_count cX8_count 2 (some .int) :: ([.fieldLink RX8 14 "BellTouches" "setup" "LBellTouches$Setup;", .fieldLink RX8 186 "BellTouches$Setup" "seen" "LBellTouches$HandRows;", .fieldLink RX8 190 "BellTouches$HandRows" "size" "I", .fieldLink RX8 213 "BellTouches$Setup" "events" "LBellTouches$HandRows;", .fieldLink RX8 222 "BellTouches$Setup" "book" "LBellTouches$HandRows;", .fieldLink RX8 44 "BellTouches" "text" "LBellTouches$SetupText;", .fieldLink RX8 110 "BellTouches$SetupText" "length" "I"] ++ wsX80 ++ wsX40 ++ wsX10 ++ wsX50)
def wsX8_tape : List Cond := .code yX8_tape cX8_tape 4 (some .int) :: ([.fieldLink RX8 50 "BellTouches" "tapes" "[LBellTouches$Tape;", .methodLink RX8 231 yX8_isTape, .static yX8_isTape, .initialized RX8, .code yX8_isTape cX8_isTape 1 (some .boolean), .methodLink RX8 244 yX6_begin, .instanceMethod yX6_begin, .selects RX6 yX6_begin yX6_begin, .initialized RX6, .code yX6_begin cX6_begin 4 none, .fieldLink RX6 9 "BellTouches$Tape" "sort" "I", .fieldLink RX6 15 "BellTouches$Tape" "length" "I", .fieldLink RX6 18 "BellTouches$Tape" "items" "[J"] ++ wsX80 ++ wsX60)
def wsX8_item : List Cond := .code yX8_item cX8_item 6 (some .int) :: ([.fieldLink RX8 50 "BellTouches" "tapes" "[LBellTouches$Tape;", .fieldLink RX8 234 "BellTouches$Tape" "sort" "I", .fieldLink RX8 240 "BellTouches$Tape" "items" "[J", .methodLink RX8 231 yX8_isTape, .static yX8_isTape, .initialized RX8, .code yX8_isTape cX8_isTape 1 (some .boolean), .methodLink RX8 237 yX6_has, .instanceMethod yX6_has, .selects RX6 yX6_has yX6_has, .initialized RX6, .code yX6_has cX6_has 3 (some .boolean), .fieldLink RX6 15 "BellTouches$Tape" "length" "I", .methodLink RX8 246 yX6_narrowed, .static yX6_narrowed, .code yX6_narrowed cX6_narrowed 3 (some .long)] ++ wsX80 ++ wsX60)
def wsX8_peek : List Cond := .code yX8_peek cX8_peek 3 (some .long) :: ([.fieldLink RX8 50 "BellTouches" "tapes" "[LBellTouches$Tape;", .constantLong RX8 207 (-9223372036854775808), .fieldLink RX8 240 "BellTouches$Tape" "items" "[J", .methodLink RX8 231 yX8_isTape, .static yX8_isTape, .initialized RX8, .code yX8_isTape cX8_isTape 1 (some .boolean), .methodLink RX8 237 yX6_has, .instanceMethod yX6_has, .selects RX6 yX6_has yX6_has, .initialized RX6, .code yX6_has cX6_has 3 (some .boolean), .fieldLink RX6 15 "BellTouches$Tape" "length" "I"] ++ wsX80 ++ wsX60)
def wsX8_shift : List Cond := .code yX8_shift cX8_shift 8 (some .int) :: ([.fieldLink RX8 50 "BellTouches" "tapes" "[LBellTouches$Tape;", .fieldLink RX8 234 "BellTouches$Tape" "sort" "I", .fieldLink RX8 240 "BellTouches$Tape" "items" "[J", .methodLink RX8 250 arraycopyName, .native arraycopyName, .static arraycopyName, .initialized "java/lang/System", .methodLink RX8 231 yX8_isTape, .static yX8_isTape, .initialized RX8, .code yX8_isTape cX8_isTape 1 (some .boolean), .methodLink RX8 237 yX6_has, .instanceMethod yX6_has, .selects RX6 yX6_has yX6_has, .initialized RX6, .code yX6_has cX6_has 3 (some .boolean), .fieldLink RX6 15 "BellTouches$Tape" "length" "I"] ++ wsX80 ++ wsX60)
def wsX9_begins : List Cond := .code yX9_begins cX9_begins 3 none :: ([.fieldLink RX9 9 "BellTouchesModel" "now" "[I"] ++ wsX90)
def wsX9_init : List Cond := .code yX9_init cX9_init 1 none :: ([.methodLink RX9 3 objectInit, .instanceMethod objectInit, .code objectInit ⟨#[0xb1]⟩ 1 none, .arrayClass .int, .fieldLink RX9 9 "BellTouchesModel" "now" "[I", .fieldLink RX9 15 "BellTouchesModel" "old" "[I", .fieldLink RX9 18 "BellTouchesModel" "bell" "[I", .fieldLink RX9 21 "BellTouchesModel" "key" "[I", .fieldLink RX9 24 "BellTouchesModel" "text" "[I", .fieldLink RX9 27 "BellTouchesModel" "clause" "[I", .fieldLink RX9 30 "BellTouchesModel" "from" "[I", .fieldLink RX9 33 "BellTouchesModel" "many" "[I", .fieldLink RX9 36 "BellTouchesModel" "number" "[I", .fieldLink RX9 39 "BellTouchesModel" "sort" "[I", .fieldLink RX9 42 "BellTouchesModel" "long1" "[I", .arrayClass .long, .fieldLink RX9 45 "BellTouchesModel" "items" "[J", .fieldLink RX9 49 "BellTouchesModel" "moved" "[J", .methodLink RX9 52 yX9_begins, .instanceMethod yX9_begins, .selects RX9 yX9_begins yX9_begins, .initialized RX9, .code yX9_begins cX9_begins 3 none] ++ wsX90)
def wsX9_within : List Cond := .code yX9_within cX9_within 3 (some .boolean) :: ([])
def wsX9_becomes : List Cond := .code yX9_becomes cX9_becomes 4 (some .int) :: ([.fieldLink RX9 9 "BellTouchesModel" "now" "[I"] ++ wsX90)
def wsX9_bells : List Cond := .code yX9_bells cX9_bells 3 (some .int) :: ([.fieldLink RX9 9 "BellTouchesModel" "now" "[I", .methodLink RX9 56 yX9_within, .static yX9_within, .initialized RX9, .code yX9_within cX9_within 3 (some .boolean), .methodLink RX9 52 yX9_begins, .instanceMethod yX9_begins, .selects RX9 yX9_begins yX9_begins, .code yX9_begins cX9_begins 3 none] ++ wsX90)
def wsX9_areKept : List Cond := .code yX9_areKept cX9_areKept 2 (some .boolean) :: ([.fieldLink RX9 9 "BellTouchesModel" "now" "[I", .methodLink RX9 56 yX9_within, .static yX9_within, .initialized RX9, .code yX9_within cX9_within 3 (some .boolean)] ++ wsX90)
def wsX9_isGood : List Cond := .code yX9_isGood cX9_isGood 3 (some .boolean) :: ([.fieldLink RX9 9 "BellTouchesModel" "now" "[I"] ++ wsX90)
def wsX9_change : List Cond := .code yX9_change cX9_change 2 (some .int) :: ([.fieldLink RX9 9 "BellTouchesModel" "now" "[I", .methodLink RX9 60 yX9_areKept, .instanceMethod yX9_areKept, .selects RX9 yX9_areKept yX9_areKept, .initialized RX9, .code yX9_areKept cX9_areKept 2 (some .boolean), .methodLink RX9 56 yX9_within, .static yX9_within, .code yX9_within cX9_within 3 (some .boolean), .methodLink RX9 64 yX9_isGood, .instanceMethod yX9_isGood, .selects RX9 yX9_isGood yX9_isGood, .code yX9_isGood cX9_isGood 3 (some .boolean)] ++ wsX90)
def wsX9_calls : List Cond := .code yX9_calls cX9_calls 3 (some .int) :: ([.methodLink RX9 56 yX9_within, .static yX9_within, .initialized RX9, .code yX9_within cX9_within 3 (some .boolean), .methodLink RX9 60 yX9_areKept, .instanceMethod yX9_areKept, .selects RX9 yX9_areKept yX9_areKept, .code yX9_areKept cX9_areKept 2 (some .boolean), .fieldLink RX9 9 "BellTouchesModel" "now" "[I", .methodLink RX9 64 yX9_isGood, .instanceMethod yX9_isGood, .selects RX9 yX9_isGood yX9_isGood, .code yX9_isGood cX9_isGood 3 (some .boolean), .methodLink RX9 67 yX9_becomes, .instanceMethod yX9_becomes, .selects RX9 yX9_becomes yX9_becomes, .code yX9_becomes cX9_becomes 4 (some .int)] ++ wsX90)
def wsX9_call : List Cond := .code yX9_call cX9_call 3 (some .int) :: ([.methodLink RX9 56 yX9_within, .static yX9_within, .initialized RX9, .code yX9_within cX9_within 3 (some .boolean), .methodLink RX9 67 yX9_becomes, .instanceMethod yX9_becomes, .selects RX9 yX9_becomes yX9_becomes, .code yX9_becomes cX9_becomes 4 (some .int), .fieldLink RX9 9 "BellTouchesModel" "now" "[I"] ++ wsX90)
def wsX9_leads : List Cond := .code yX9_leads cX9_leads 2 (some .int) :: ([.methodLink RX9 56 yX9_within, .static yX9_within, .initialized RX9, .code yX9_within cX9_within 3 (some .boolean), .methodLink RX9 67 yX9_becomes, .instanceMethod yX9_becomes, .selects RX9 yX9_becomes yX9_becomes, .code yX9_becomes cX9_becomes 4 (some .int), .fieldLink RX9 9 "BellTouchesModel" "now" "[I"] ++ wsX90)
def wsX9_pattern : List Cond := .code yX9_pattern cX9_pattern 3 (some .int) :: ([.methodLink RX9 56 yX9_within, .static yX9_within, .initialized RX9, .code yX9_within cX9_within 3 (some .boolean), .methodLink RX9 67 yX9_becomes, .instanceMethod yX9_becomes, .selects RX9 yX9_becomes yX9_becomes, .code yX9_becomes cX9_becomes 4 (some .int), .fieldLink RX9 9 "BellTouchesModel" "now" "[I"] ++ wsX90)
def wsX9_feed : List Cond := .code yX9_feed cX9_feed 2 (some .int) :: ([.fieldLink RX9 71 "BellTouchesModel" "texts" "I", .fieldLink RX9 24 "BellTouchesModel" "text" "[I", .methodLink RX9 56 yX9_within, .static yX9_within, .initialized RX9, .code yX9_within cX9_within 3 (some .boolean)] ++ wsX90)
def wsX9_sign : List Cond := .code yX9_sign cX9_sign 1 (some .int) :: ([.fieldLink RX9 75 "BellTouchesModel" "at" "I", .fieldLink RX9 71 "BellTouchesModel" "texts" "I", .fieldLink RX9 24 "BellTouchesModel" "text" "[I"] ++ wsX90)
def wsX9_wrong : List Cond := .code yX9_wrong cX9_wrong 1 none :: ([.fieldLink RX9 78 "BellTouchesModel" "fault" "I", .fieldLink RX9 75 "BellTouchesModel" "at" "I"] ++ wsX90)
def wsX9_adds : List Cond := .code yX9_adds cX9_adds 2 none :: ([.fieldLink RX9 36 "BellTouchesModel" "number" "[I", .fieldLink RX9 81 "BellTouchesModel" "numbers" "I", .fieldLink RX9 33 "BellTouchesModel" "many" "[I", .fieldLink RX9 84 "BellTouchesModel" "clauses" "I"] ++ wsX90)
def wsX9_digits : List Cond := .code yX9_digits cX9_digits 3 none :: ([.fieldLink RX9 75 "BellTouchesModel" "at" "I", .methodLink RX9 87 yX9_sign, .instanceMethod yX9_sign, .selects RX9 yX9_sign yX9_sign, .initialized RX9, .code yX9_sign cX9_sign 1 (some .int), .fieldLink RX9 71 "BellTouchesModel" "texts" "I", .fieldLink RX9 24 "BellTouchesModel" "text" "[I", .methodLink RX9 56 yX9_within, .static yX9_within, .code yX9_within cX9_within 3 (some .boolean), .methodLink RX9 91 yX9_wrong, .instanceMethod yX9_wrong, .selects RX9 yX9_wrong yX9_wrong, .code yX9_wrong cX9_wrong 1 none, .fieldLink RX9 78 "BellTouchesModel" "fault" "I", .methodLink RX9 94 yX9_adds, .instanceMethod yX9_adds, .selects RX9 yX9_adds yX9_adds, .code yX9_adds cX9_adds 2 none, .fieldLink RX9 36 "BellTouchesModel" "number" "[I", .fieldLink RX9 81 "BellTouchesModel" "numbers" "I", .fieldLink RX9 33 "BellTouchesModel" "many" "[I", .fieldLink RX9 84 "BellTouchesModel" "clauses" "I"] ++ wsX90)
def wsX9_word_r1 : List Cond := [Cond.fieldLink RX9 75 "BellTouchesModel" "at" "I", Cond.methodLink RX9 87 yX9_sign, Cond.instanceMethod yX9_sign, Cond.selects RX9 yX9_sign yX9_sign, Cond.initialized RX9, Cond.code yX9_sign cX9_sign 1 (some .int), Cond.fieldLink RX9 71 "BellTouchesModel" "texts" "I", Cond.fieldLink RX9 24 "BellTouchesModel" "text" "[I", Cond.methodLink RX9 94 yX9_adds, Cond.instanceMethod yX9_adds, Cond.selects RX9 yX9_adds yX9_adds, Cond.code yX9_adds cX9_adds 2 none, Cond.fieldLink RX9 36 "BellTouchesModel" "number" "[I", Cond.fieldLink RX9 81 "BellTouchesModel" "numbers" "I", Cond.fieldLink RX9 33 "BellTouchesModel" "many" "[I", Cond.fieldLink RX9 84 "BellTouchesModel" "clauses" "I", Cond.methodLink RX9 97 yX9_digits, Cond.instanceMethod yX9_digits, Cond.selects RX9 yX9_digits yX9_digits, Cond.code yX9_digits cX9_digits 3 none, Cond.methodLink RX9 56 yX9_within, Cond.static yX9_within, Cond.code yX9_within cX9_within 3 (some .boolean), Cond.methodLink RX9 91 yX9_wrong]
def wsX9_word_r2 : List Cond := [Cond.instanceMethod yX9_wrong, Cond.selects RX9 yX9_wrong yX9_wrong, Cond.code yX9_wrong cX9_wrong 1 none, Cond.fieldLink RX9 78 "BellTouchesModel" "fault" "I"]
def wsX9_word : List Cond := .code yX9_word cX9_word 1 (some .boolean) :: ((wsX9_word_r1 ++ wsX9_word_r2) ++ wsX90)
def wsX9_words_r1 : List Cond := [Cond.fieldLink RX9 78 "BellTouchesModel" "fault" "I", Cond.fieldLink RX9 33 "BellTouchesModel" "many" "[I", Cond.fieldLink RX9 84 "BellTouchesModel" "clauses" "I", Cond.fieldLink RX9 75 "BellTouchesModel" "at" "I", Cond.methodLink RX9 100 yX9_word, Cond.instanceMethod yX9_word, Cond.selects RX9 yX9_word yX9_word, Cond.initialized RX9, Cond.code yX9_word cX9_word 1 (some .boolean), Cond.methodLink RX9 87 yX9_sign, Cond.instanceMethod yX9_sign, Cond.selects RX9 yX9_sign yX9_sign, Cond.code yX9_sign cX9_sign 1 (some .int), Cond.fieldLink RX9 71 "BellTouchesModel" "texts" "I", Cond.fieldLink RX9 24 "BellTouchesModel" "text" "[I", Cond.methodLink RX9 94 yX9_adds, Cond.instanceMethod yX9_adds, Cond.selects RX9 yX9_adds yX9_adds, Cond.code yX9_adds cX9_adds 2 none, Cond.fieldLink RX9 36 "BellTouchesModel" "number" "[I", Cond.fieldLink RX9 81 "BellTouchesModel" "numbers" "I", Cond.methodLink RX9 97 yX9_digits, Cond.instanceMethod yX9_digits, Cond.selects RX9 yX9_digits yX9_digits]
def wsX9_words_r2 : List Cond := [Cond.code yX9_digits cX9_digits 3 none, Cond.methodLink RX9 56 yX9_within, Cond.static yX9_within, Cond.code yX9_within cX9_within 3 (some .boolean), Cond.methodLink RX9 91 yX9_wrong, Cond.instanceMethod yX9_wrong, Cond.selects RX9 yX9_wrong yX9_wrong, Cond.code yX9_wrong cX9_wrong 1 none]
def wsX9_words : List Cond := .code yX9_words cX9_words 4 none :: ((wsX9_words_r1 ++ wsX9_words_r2) ++ wsX90)
def wsX9_callOf : List Cond := .code yX9_callOf cX9_callOf 1 (some .int) :: ([])
def wsX9_reads_r1 : List Cond := [Cond.fieldLink RX9 27 "BellTouchesModel" "clause" "[I", Cond.fieldLink RX9 84 "BellTouchesModel" "clauses" "I", Cond.fieldLink RX9 30 "BellTouchesModel" "from" "[I", Cond.fieldLink RX9 81 "BellTouchesModel" "numbers" "I", Cond.fieldLink RX9 33 "BellTouchesModel" "many" "[I", Cond.fieldLink RX9 75 "BellTouchesModel" "at" "I", Cond.methodLink RX9 87 yX9_sign, Cond.instanceMethod yX9_sign, Cond.selects RX9 yX9_sign yX9_sign, Cond.initialized RX9, Cond.code yX9_sign cX9_sign 1 (some .int), Cond.fieldLink RX9 71 "BellTouchesModel" "texts" "I", Cond.fieldLink RX9 24 "BellTouchesModel" "text" "[I", Cond.methodLink RX9 56 yX9_within, Cond.static yX9_within, Cond.code yX9_within cX9_within 3 (some .boolean), Cond.methodLink RX9 91 yX9_wrong, Cond.instanceMethod yX9_wrong, Cond.selects RX9 yX9_wrong yX9_wrong, Cond.code yX9_wrong cX9_wrong 1 none, Cond.fieldLink RX9 78 "BellTouchesModel" "fault" "I", Cond.methodLink RX9 94 yX9_adds, Cond.instanceMethod yX9_adds, Cond.selects RX9 yX9_adds yX9_adds]
def wsX9_reads_r2 : List Cond := [Cond.code yX9_adds cX9_adds 2 none, Cond.fieldLink RX9 36 "BellTouchesModel" "number" "[I", Cond.methodLink RX9 104 yX9_words, Cond.instanceMethod yX9_words, Cond.selects RX9 yX9_words yX9_words, Cond.code yX9_words cX9_words 4 none, Cond.methodLink RX9 100 yX9_word, Cond.instanceMethod yX9_word, Cond.selects RX9 yX9_word yX9_word, Cond.code yX9_word cX9_word 1 (some .boolean), Cond.methodLink RX9 97 yX9_digits, Cond.instanceMethod yX9_digits, Cond.selects RX9 yX9_digits yX9_digits, Cond.code yX9_digits cX9_digits 3 none, Cond.methodLink RX9 107 yX9_callOf, Cond.static yX9_callOf, Cond.code yX9_callOf cX9_callOf 1 (some .int)]
def wsX9_reads : List Cond := .code yX9_reads cX9_reads 1 none :: ((wsX9_reads_r1 ++ wsX9_reads_r2) ++ wsX90)
def wsX9_areGood : List Cond := .code yX9_areGood cX9_areGood 4 (some .boolean) :: ([.fieldLink RX9 33 "BellTouchesModel" "many" "[I", .fieldLink RX9 36 "BellTouchesModel" "number" "[I", .fieldLink RX9 30 "BellTouchesModel" "from" "[I", .methodLink RX9 60 yX9_areKept, .instanceMethod yX9_areKept, .selects RX9 yX9_areKept yX9_areKept, .initialized RX9, .code yX9_areKept cX9_areKept 2 (some .boolean), .fieldLink RX9 9 "BellTouchesModel" "now" "[I", .methodLink RX9 56 yX9_within, .static yX9_within, .code yX9_within cX9_within 3 (some .boolean), .methodLink RX9 64 yX9_isGood, .instanceMethod yX9_isGood, .selects RX9 yX9_isGood yX9_isGood, .code yX9_isGood cX9_isGood 3 (some .boolean)] ++ wsX90)
def wsX9_does_r1 : List Cond := [Cond.fieldLink RX9 36 "BellTouchesModel" "number" "[I", Cond.fieldLink RX9 30 "BellTouchesModel" "from" "[I", Cond.fieldLink RX9 27 "BellTouchesModel" "clause" "[I", Cond.fieldLink RX9 9 "BellTouchesModel" "now" "[I", Cond.fieldLink RX9 33 "BellTouchesModel" "many" "[I", Cond.methodLink RX9 111 yX9_bells, Cond.instanceMethod yX9_bells, Cond.selects RX9 yX9_bells yX9_bells, Cond.initialized RX9, Cond.code yX9_bells cX9_bells 3 (some .int), Cond.methodLink RX9 56 yX9_within, Cond.static yX9_within, Cond.code yX9_within cX9_within 3 (some .boolean), Cond.methodLink RX9 52 yX9_begins, Cond.instanceMethod yX9_begins, Cond.selects RX9 yX9_begins yX9_begins, Cond.code yX9_begins cX9_begins 3 none, Cond.methodLink RX9 114 yX9_calls, Cond.instanceMethod yX9_calls, Cond.selects RX9 yX9_calls yX9_calls, Cond.code yX9_calls cX9_calls 3 (some .int), Cond.methodLink RX9 60 yX9_areKept, Cond.instanceMethod yX9_areKept, Cond.selects RX9 yX9_areKept yX9_areKept]
def wsX9_does_r2 : List Cond := [Cond.code yX9_areKept cX9_areKept 2 (some .boolean), Cond.methodLink RX9 64 yX9_isGood, Cond.instanceMethod yX9_isGood, Cond.selects RX9 yX9_isGood yX9_isGood, Cond.code yX9_isGood cX9_isGood 3 (some .boolean), Cond.methodLink RX9 67 yX9_becomes, Cond.instanceMethod yX9_becomes, Cond.selects RX9 yX9_becomes yX9_becomes, Cond.code yX9_becomes cX9_becomes 4 (some .int), Cond.methodLink RX9 117 yX9_areGood, Cond.instanceMethod yX9_areGood, Cond.selects RX9 yX9_areGood yX9_areGood, Cond.code yX9_areGood cX9_areGood 4 (some .boolean)]
def wsX9_does : List Cond := .code yX9_does cX9_does 4 (some .boolean) :: ((wsX9_does_r1 ++ wsX9_does_r2) ++ wsX90)
def wsX9_read_r1 : List Cond := [Cond.fieldLink RX9 75 "BellTouchesModel" "at" "I", Cond.fieldLink RX9 78 "BellTouchesModel" "fault" "I", Cond.fieldLink RX9 84 "BellTouchesModel" "clauses" "I", Cond.fieldLink RX9 81 "BellTouchesModel" "numbers" "I", Cond.fieldLink RX9 71 "BellTouchesModel" "texts" "I", Cond.methodLink RX9 120 yX9_reads, Cond.instanceMethod yX9_reads, Cond.selects RX9 yX9_reads yX9_reads, Cond.initialized RX9, Cond.code yX9_reads cX9_reads 1 none, Cond.fieldLink RX9 27 "BellTouchesModel" "clause" "[I", Cond.fieldLink RX9 30 "BellTouchesModel" "from" "[I", Cond.fieldLink RX9 33 "BellTouchesModel" "many" "[I", Cond.methodLink RX9 87 yX9_sign, Cond.instanceMethod yX9_sign, Cond.selects RX9 yX9_sign yX9_sign, Cond.code yX9_sign cX9_sign 1 (some .int), Cond.fieldLink RX9 24 "BellTouchesModel" "text" "[I", Cond.methodLink RX9 56 yX9_within, Cond.static yX9_within, Cond.code yX9_within cX9_within 3 (some .boolean), Cond.methodLink RX9 91 yX9_wrong, Cond.instanceMethod yX9_wrong, Cond.selects RX9 yX9_wrong yX9_wrong]
def wsX9_read_r2 : List Cond := [Cond.code yX9_wrong cX9_wrong 1 none, Cond.methodLink RX9 94 yX9_adds, Cond.instanceMethod yX9_adds, Cond.selects RX9 yX9_adds yX9_adds, Cond.code yX9_adds cX9_adds 2 none, Cond.fieldLink RX9 36 "BellTouchesModel" "number" "[I", Cond.methodLink RX9 104 yX9_words, Cond.instanceMethod yX9_words, Cond.selects RX9 yX9_words yX9_words, Cond.code yX9_words cX9_words 4 none, Cond.methodLink RX9 100 yX9_word, Cond.instanceMethod yX9_word, Cond.selects RX9 yX9_word yX9_word, Cond.code yX9_word cX9_word 1 (some .boolean), Cond.methodLink RX9 97 yX9_digits, Cond.instanceMethod yX9_digits, Cond.selects RX9 yX9_digits yX9_digits, Cond.code yX9_digits cX9_digits 3 none, Cond.methodLink RX9 107 yX9_callOf, Cond.static yX9_callOf, Cond.code yX9_callOf cX9_callOf 1 (some .int), Cond.methodLink RX9 123 yX9_does, Cond.instanceMethod yX9_does, Cond.selects RX9 yX9_does yX9_does]
def wsX9_read_r3 : List Cond := [Cond.code yX9_does cX9_does 4 (some .boolean), Cond.fieldLink RX9 9 "BellTouchesModel" "now" "[I", Cond.methodLink RX9 111 yX9_bells, Cond.instanceMethod yX9_bells, Cond.selects RX9 yX9_bells yX9_bells, Cond.code yX9_bells cX9_bells 3 (some .int), Cond.methodLink RX9 52 yX9_begins, Cond.instanceMethod yX9_begins, Cond.selects RX9 yX9_begins yX9_begins, Cond.code yX9_begins cX9_begins 3 none, Cond.methodLink RX9 114 yX9_calls, Cond.instanceMethod yX9_calls, Cond.selects RX9 yX9_calls yX9_calls, Cond.code yX9_calls cX9_calls 3 (some .int), Cond.methodLink RX9 60 yX9_areKept, Cond.instanceMethod yX9_areKept, Cond.selects RX9 yX9_areKept yX9_areKept, Cond.code yX9_areKept cX9_areKept 2 (some .boolean), Cond.methodLink RX9 64 yX9_isGood, Cond.instanceMethod yX9_isGood, Cond.selects RX9 yX9_isGood yX9_isGood, Cond.code yX9_isGood cX9_isGood 3 (some .boolean), Cond.methodLink RX9 67 yX9_becomes, Cond.instanceMethod yX9_becomes]
def wsX9_read_r4 : List Cond := [Cond.selects RX9 yX9_becomes yX9_becomes, Cond.code yX9_becomes cX9_becomes 4 (some .int), Cond.methodLink RX9 117 yX9_areGood, Cond.instanceMethod yX9_areGood, Cond.selects RX9 yX9_areGood yX9_areGood, Cond.code yX9_areGood cX9_areGood 4 (some .boolean)]
def wsX9_read : List Cond := .code yX9_read cX9_read 4 (some .int) :: ((wsX9_read_r1 ++ (wsX9_read_r2 ++ (wsX9_read_r3 ++ wsX9_read_r4))) ++ wsX90)
def wsX9_keys : List Cond := .code yX9_keys cX9_keys 4 none :: ([.fieldLink RX9 9 "BellTouchesModel" "now" "[I", .fieldLink RX9 18 "BellTouchesModel" "bell" "[I", .fieldLink RX9 21 "BellTouchesModel" "key" "[I"] ++ wsX90)
def wsX9_goes : List Cond := .code yX9_goes cX9_goes 5 none :: ([.fieldLink RX9 9 "BellTouchesModel" "now" "[I", .fieldLink RX9 18 "BellTouchesModel" "bell" "[I", .methodLink RX9 126 yX9_keys, .instanceMethod yX9_keys, .selects RX9 yX9_keys yX9_keys, .initialized RX9, .code yX9_keys cX9_keys 4 none, .fieldLink RX9 21 "BellTouchesModel" "key" "[I"] ++ wsX90)
def wsX9_rings : List Cond := .code yX9_rings cX9_rings 5 none :: ([.fieldLink RX9 9 "BellTouchesModel" "now" "[I", .fieldLink RX9 18 "BellTouchesModel" "bell" "[I", .fieldLink RX9 129 "BellTouchesModel" "last" "I", .methodLink RX9 126 yX9_keys, .instanceMethod yX9_keys, .selects RX9 yX9_keys yX9_keys, .initialized RX9, .code yX9_keys cX9_keys 4 none, .fieldLink RX9 21 "BellTouchesModel" "key" "[I", .methodLink RX9 132 yX9_goes, .instanceMethod yX9_goes, .selects RX9 yX9_goes yX9_goes, .code yX9_goes cX9_goes 5 none] ++ wsX90)
def wsX9_round : List Cond := .code yX9_round cX9_round 2 (some .int) :: ([.fieldLink RX9 129 "BellTouchesModel" "last" "I", .fieldLink RX9 21 "BellTouchesModel" "key" "[I"] ++ wsX90)
def wsX9_first : List Cond := .code yX9_first cX9_first 3 (some .int) :: ([.fieldLink RX9 21 "BellTouchesModel" "key" "[I"] ++ wsX90)
def wsX9_wrongRow : List Cond := .code yX9_wrongRow cX9_wrongRow 3 (some .int) :: ([.fieldLink RX9 129 "BellTouchesModel" "last" "I", .methodLink RX9 136 yX9_first, .instanceMethod yX9_first, .selects RX9 yX9_first yX9_first, .initialized RX9, .code yX9_first cX9_first 3 (some .int), .fieldLink RX9 21 "BellTouchesModel" "key" "[I"] ++ wsX90)
def wsX9_isTrue : List Cond := .code yX9_isTrue cX9_isTrue 1 (some .int) :: ([.fieldLink RX9 129 "BellTouchesModel" "last" "I", .fieldLink RX9 21 "BellTouchesModel" "key" "[I", .methodLink RX9 139 yX9_wrongRow, .instanceMethod yX9_wrongRow, .selects RX9 yX9_wrongRow yX9_wrongRow, .initialized RX9, .code yX9_wrongRow cX9_wrongRow 3 (some .int), .methodLink RX9 136 yX9_first, .instanceMethod yX9_first, .selects RX9 yX9_first yX9_first, .code yX9_first cX9_first 3 (some .int)] ++ wsX90)
def wsX9_course : List Cond := .code yX9_course cX9_course 6 (some .int) :: ([.fieldLink RX9 9 "BellTouchesModel" "now" "[I", .fieldLink RX9 18 "BellTouchesModel" "bell" "[I", .fieldLink RX9 21 "BellTouchesModel" "key" "[I", .methodLink RX9 126 yX9_keys, .instanceMethod yX9_keys, .selects RX9 yX9_keys yX9_keys, .initialized RX9, .code yX9_keys cX9_keys 4 none, .methodLink RX9 132 yX9_goes, .instanceMethod yX9_goes, .selects RX9 yX9_goes yX9_goes, .code yX9_goes cX9_goes 5 none] ++ wsX90)
def wsX9_of : List Cond := .code yX9_of cX9_of 3 (some .int) :: ([.fieldLink RX9 9 "BellTouchesModel" "now" "[I", .methodLink RX9 56 yX9_within, .static yX9_within, .initialized RX9, .code yX9_within cX9_within 3 (some .boolean)] ++ wsX90)
def wsX9_told_r1 : List Cond := [Cond.fieldLink RX9 9 "BellTouchesModel" "now" "[I", Cond.fieldLink RX9 129 "BellTouchesModel" "last" "I", Cond.methodLink RX9 142 yX9_course, Cond.instanceMethod yX9_course, Cond.selects RX9 yX9_course yX9_course, Cond.initialized RX9, Cond.code yX9_course cX9_course 6 (some .int), Cond.fieldLink RX9 18 "BellTouchesModel" "bell" "[I", Cond.fieldLink RX9 21 "BellTouchesModel" "key" "[I", Cond.methodLink RX9 126 yX9_keys, Cond.instanceMethod yX9_keys, Cond.selects RX9 yX9_keys yX9_keys, Cond.code yX9_keys cX9_keys 4 none, Cond.methodLink RX9 132 yX9_goes, Cond.instanceMethod yX9_goes, Cond.selects RX9 yX9_goes yX9_goes, Cond.code yX9_goes cX9_goes 5 none, Cond.methodLink RX9 145 yX9_rings, Cond.instanceMethod yX9_rings, Cond.selects RX9 yX9_rings yX9_rings, Cond.code yX9_rings cX9_rings 5 none, Cond.methodLink RX9 148 yX9_round, Cond.instanceMethod yX9_round, Cond.selects RX9 yX9_round yX9_round]
def wsX9_told_r2 : List Cond := [Cond.code yX9_round cX9_round 2 (some .int), Cond.methodLink RX9 139 yX9_wrongRow, Cond.instanceMethod yX9_wrongRow, Cond.selects RX9 yX9_wrongRow yX9_wrongRow, Cond.code yX9_wrongRow cX9_wrongRow 3 (some .int), Cond.methodLink RX9 136 yX9_first, Cond.instanceMethod yX9_first, Cond.selects RX9 yX9_first yX9_first, Cond.code yX9_first cX9_first 3 (some .int), Cond.methodLink RX9 151 yX9_isTrue, Cond.instanceMethod yX9_isTrue, Cond.selects RX9 yX9_isTrue yX9_isTrue, Cond.code yX9_isTrue cX9_isTrue 1 (some .int)]
def wsX9_told : List Cond := .code yX9_told cX9_told 2 (some .int) :: ((wsX9_told_r1 ++ wsX9_told_r2) ++ wsX90)
def wsX9_isPlace : List Cond := .code yX9_isPlace cX9_isPlace 2 (some .boolean) :: ([.fieldLink RX9 9 "BellTouchesModel" "now" "[I", .methodLink RX9 56 yX9_within, .static yX9_within, .initialized RX9, .code yX9_within cX9_within 3 (some .boolean)] ++ wsX90)
def wsX9_place : List Cond := .code yX9_place cX9_place 4 (some .int) :: ([.fieldLink RX9 18 "BellTouchesModel" "bell" "[I"] ++ wsX90)
def wsX9_at : List Cond := .code yX9_at cX9_at 3 (some .int) :: ([.fieldLink RX9 129 "BellTouchesModel" "last" "I", .fieldLink RX9 18 "BellTouchesModel" "bell" "[I", .methodLink RX9 145 yX9_rings, .instanceMethod yX9_rings, .selects RX9 yX9_rings yX9_rings, .initialized RX9, .code yX9_rings cX9_rings 5 none, .fieldLink RX9 9 "BellTouchesModel" "now" "[I", .methodLink RX9 126 yX9_keys, .instanceMethod yX9_keys, .selects RX9 yX9_keys yX9_keys, .code yX9_keys cX9_keys 4 none, .fieldLink RX9 21 "BellTouchesModel" "key" "[I", .methodLink RX9 132 yX9_goes, .instanceMethod yX9_goes, .selects RX9 yX9_goes yX9_goes, .code yX9_goes cX9_goes 5 none, .methodLink RX9 56 yX9_within, .static yX9_within, .code yX9_within cX9_within 3 (some .boolean), .methodLink RX9 154 yX9_isPlace, .instanceMethod yX9_isPlace, .selects RX9 yX9_isPlace yX9_isPlace, .code yX9_isPlace cX9_isPlace 2 (some .boolean)] ++ wsX90)
def wsX9_where_r1 : List Cond := [Cond.fieldLink RX9 129 "BellTouchesModel" "last" "I", Cond.methodLink RX9 145 yX9_rings, Cond.instanceMethod yX9_rings, Cond.selects RX9 yX9_rings yX9_rings, Cond.initialized RX9, Cond.code yX9_rings cX9_rings 5 none, Cond.fieldLink RX9 9 "BellTouchesModel" "now" "[I", Cond.fieldLink RX9 18 "BellTouchesModel" "bell" "[I", Cond.methodLink RX9 126 yX9_keys, Cond.instanceMethod yX9_keys, Cond.selects RX9 yX9_keys yX9_keys, Cond.code yX9_keys cX9_keys 4 none, Cond.fieldLink RX9 21 "BellTouchesModel" "key" "[I", Cond.methodLink RX9 132 yX9_goes, Cond.instanceMethod yX9_goes, Cond.selects RX9 yX9_goes yX9_goes, Cond.code yX9_goes cX9_goes 5 none, Cond.methodLink RX9 56 yX9_within, Cond.static yX9_within, Cond.code yX9_within cX9_within 3 (some .boolean), Cond.methodLink RX9 154 yX9_isPlace, Cond.instanceMethod yX9_isPlace, Cond.selects RX9 yX9_isPlace yX9_isPlace, Cond.code yX9_isPlace cX9_isPlace 2 (some .boolean)]
def wsX9_where_r2 : List Cond := [Cond.methodLink RX9 157 yX9_place, Cond.instanceMethod yX9_place, Cond.selects RX9 yX9_place yX9_place, Cond.code yX9_place cX9_place 4 (some .int)]
def wsX9_where : List Cond := .code yX9_where cX9_where 3 (some .int) :: ((wsX9_where_r1 ++ wsX9_where_r2) ++ wsX90)
def wsX9_same : List Cond := .code yX9_same cX9_same 2 (some .int) :: ([.fieldLink RX9 129 "BellTouchesModel" "last" "I", .methodLink RX9 145 yX9_rings, .instanceMethod yX9_rings, .selects RX9 yX9_rings yX9_rings, .initialized RX9, .code yX9_rings cX9_rings 5 none, .fieldLink RX9 9 "BellTouchesModel" "now" "[I", .fieldLink RX9 18 "BellTouchesModel" "bell" "[I", .methodLink RX9 126 yX9_keys, .instanceMethod yX9_keys, .selects RX9 yX9_keys yX9_keys, .code yX9_keys cX9_keys 4 none, .fieldLink RX9 21 "BellTouchesModel" "key" "[I", .methodLink RX9 132 yX9_goes, .instanceMethod yX9_goes, .selects RX9 yX9_goes yX9_goes, .code yX9_goes cX9_goes 5 none, .methodLink RX9 56 yX9_within, .static yX9_within, .code yX9_within cX9_within 3 (some .boolean), .methodLink RX9 136 yX9_first, .instanceMethod yX9_first, .selects RX9 yX9_first yX9_first, .code yX9_first cX9_first 3 (some .int)] ++ wsX90)
def wsX9_good : List Cond := .code yX9_good cX9_good 2 (some .int) :: ([.methodLink RX9 60 yX9_areKept, .instanceMethod yX9_areKept, .selects RX9 yX9_areKept yX9_areKept, .initialized RX9, .code yX9_areKept cX9_areKept 2 (some .boolean), .fieldLink RX9 9 "BellTouchesModel" "now" "[I", .methodLink RX9 56 yX9_within, .static yX9_within, .code yX9_within cX9_within 3 (some .boolean), .methodLink RX9 64 yX9_isGood, .instanceMethod yX9_isGood, .selects RX9 yX9_isGood yX9_isGood, .code yX9_isGood cX9_isGood 3 (some .boolean)] ++ wsX90)
def wsX9_isMusic : List Cond := .code yX9_isMusic cX9_isMusic 5 (some .boolean) :: ([.fieldLink RX9 9 "BellTouchesModel" "now" "[I", .fieldLink RX9 18 "BellTouchesModel" "bell" "[I", .methodLink RX9 157 yX9_place, .instanceMethod yX9_place, .selects RX9 yX9_place yX9_place, .initialized RX9, .code yX9_place cX9_place 4 (some .int)] ++ wsX90)
def wsX9_musicOf : List Cond := .code yX9_musicOf cX9_musicOf 4 (some .int) :: ([.fieldLink RX9 129 "BellTouchesModel" "last" "I", .methodLink RX9 160 yX9_isMusic, .instanceMethod yX9_isMusic, .selects RX9 yX9_isMusic yX9_isMusic, .initialized RX9, .code yX9_isMusic cX9_isMusic 5 (some .boolean), .fieldLink RX9 9 "BellTouchesModel" "now" "[I", .fieldLink RX9 18 "BellTouchesModel" "bell" "[I", .methodLink RX9 157 yX9_place, .instanceMethod yX9_place, .selects RX9 yX9_place yX9_place, .code yX9_place cX9_place 4 (some .int)] ++ wsX90)
def wsX9_music_r1 : List Cond := [Cond.methodLink RX9 56 yX9_within, Cond.static yX9_within, Cond.initialized RX9, Cond.code yX9_within cX9_within 3 (some .boolean), Cond.methodLink RX9 145 yX9_rings, Cond.instanceMethod yX9_rings, Cond.selects RX9 yX9_rings yX9_rings, Cond.code yX9_rings cX9_rings 5 none, Cond.fieldLink RX9 9 "BellTouchesModel" "now" "[I", Cond.fieldLink RX9 18 "BellTouchesModel" "bell" "[I", Cond.fieldLink RX9 129 "BellTouchesModel" "last" "I", Cond.methodLink RX9 126 yX9_keys, Cond.instanceMethod yX9_keys, Cond.selects RX9 yX9_keys yX9_keys, Cond.code yX9_keys cX9_keys 4 none, Cond.fieldLink RX9 21 "BellTouchesModel" "key" "[I", Cond.methodLink RX9 132 yX9_goes, Cond.instanceMethod yX9_goes, Cond.selects RX9 yX9_goes yX9_goes, Cond.code yX9_goes cX9_goes 5 none, Cond.methodLink RX9 164 yX9_musicOf, Cond.instanceMethod yX9_musicOf, Cond.selects RX9 yX9_musicOf yX9_musicOf, Cond.code yX9_musicOf cX9_musicOf 4 (some .int)]
def wsX9_music_r2 : List Cond := [Cond.methodLink RX9 160 yX9_isMusic, Cond.instanceMethod yX9_isMusic, Cond.selects RX9 yX9_isMusic yX9_isMusic, Cond.code yX9_isMusic cX9_isMusic 5 (some .boolean), Cond.methodLink RX9 157 yX9_place, Cond.instanceMethod yX9_place, Cond.selects RX9 yX9_place yX9_place, Cond.code yX9_place cX9_place 4 (some .int)]
def wsX9_music : List Cond := .code yX9_music cX9_music 2 (some .int) :: ((wsX9_music_r1 ++ wsX9_music_r2) ++ wsX90)
def wsX9_least_r1 : List Cond := [Cond.fieldLink RX9 9 "BellTouchesModel" "now" "[I", Cond.methodLink RX9 56 yX9_within, Cond.static yX9_within, Cond.initialized RX9, Cond.code yX9_within cX9_within 3 (some .boolean), Cond.methodLink RX9 145 yX9_rings, Cond.instanceMethod yX9_rings, Cond.selects RX9 yX9_rings yX9_rings, Cond.code yX9_rings cX9_rings 5 none, Cond.fieldLink RX9 18 "BellTouchesModel" "bell" "[I", Cond.fieldLink RX9 129 "BellTouchesModel" "last" "I", Cond.methodLink RX9 126 yX9_keys, Cond.instanceMethod yX9_keys, Cond.selects RX9 yX9_keys yX9_keys, Cond.code yX9_keys cX9_keys 4 none, Cond.fieldLink RX9 21 "BellTouchesModel" "key" "[I", Cond.methodLink RX9 132 yX9_goes, Cond.instanceMethod yX9_goes, Cond.selects RX9 yX9_goes yX9_goes, Cond.code yX9_goes cX9_goes 5 none, Cond.methodLink RX9 151 yX9_isTrue, Cond.instanceMethod yX9_isTrue, Cond.selects RX9 yX9_isTrue yX9_isTrue, Cond.code yX9_isTrue cX9_isTrue 1 (some .int)]
def wsX9_least_r2 : List Cond := [Cond.methodLink RX9 139 yX9_wrongRow, Cond.instanceMethod yX9_wrongRow, Cond.selects RX9 yX9_wrongRow yX9_wrongRow, Cond.code yX9_wrongRow cX9_wrongRow 3 (some .int), Cond.methodLink RX9 136 yX9_first, Cond.instanceMethod yX9_first, Cond.selects RX9 yX9_first yX9_first, Cond.code yX9_first cX9_first 3 (some .int)]
def wsX9_least : List Cond := .code yX9_least cX9_least 16 (some .int) :: ((wsX9_least_r1 ++ wsX9_least_r2) ++ wsX90)
def wsX9_still_r1 : List Cond := [Cond.fieldLink RX9 129 "BellTouchesModel" "last" "I", Cond.methodLink RX9 154 yX9_isPlace, Cond.instanceMethod yX9_isPlace, Cond.selects RX9 yX9_isPlace yX9_isPlace, Cond.initialized RX9, Cond.code yX9_isPlace cX9_isPlace 2 (some .boolean), Cond.fieldLink RX9 9 "BellTouchesModel" "now" "[I", Cond.methodLink RX9 56 yX9_within, Cond.static yX9_within, Cond.code yX9_within cX9_within 3 (some .boolean), Cond.methodLink RX9 145 yX9_rings, Cond.instanceMethod yX9_rings, Cond.selects RX9 yX9_rings yX9_rings, Cond.code yX9_rings cX9_rings 5 none, Cond.fieldLink RX9 18 "BellTouchesModel" "bell" "[I", Cond.methodLink RX9 126 yX9_keys, Cond.instanceMethod yX9_keys, Cond.selects RX9 yX9_keys yX9_keys, Cond.code yX9_keys cX9_keys 4 none, Cond.fieldLink RX9 21 "BellTouchesModel" "key" "[I", Cond.methodLink RX9 132 yX9_goes, Cond.instanceMethod yX9_goes, Cond.selects RX9 yX9_goes yX9_goes, Cond.code yX9_goes cX9_goes 5 none]
def wsX9_still_r2 : List Cond := [Cond.methodLink RX9 157 yX9_place, Cond.instanceMethod yX9_place, Cond.selects RX9 yX9_place yX9_place, Cond.code yX9_place cX9_place 4 (some .int)]
def wsX9_still : List Cond := .code yX9_still cX9_still 4 (some .int) :: ((wsX9_still_r1 ++ wsX9_still_r2) ++ wsX90)
def wsX9_ahead_r1 : List Cond := [Cond.fieldLink RX9 129 "BellTouchesModel" "last" "I", Cond.methodLink RX9 154 yX9_isPlace, Cond.instanceMethod yX9_isPlace, Cond.selects RX9 yX9_isPlace yX9_isPlace, Cond.initialized RX9, Cond.code yX9_isPlace cX9_isPlace 2 (some .boolean), Cond.fieldLink RX9 9 "BellTouchesModel" "now" "[I", Cond.methodLink RX9 56 yX9_within, Cond.static yX9_within, Cond.code yX9_within cX9_within 3 (some .boolean), Cond.methodLink RX9 145 yX9_rings, Cond.instanceMethod yX9_rings, Cond.selects RX9 yX9_rings yX9_rings, Cond.code yX9_rings cX9_rings 5 none, Cond.fieldLink RX9 18 "BellTouchesModel" "bell" "[I", Cond.methodLink RX9 126 yX9_keys, Cond.instanceMethod yX9_keys, Cond.selects RX9 yX9_keys yX9_keys, Cond.code yX9_keys cX9_keys 4 none, Cond.fieldLink RX9 21 "BellTouchesModel" "key" "[I", Cond.methodLink RX9 132 yX9_goes, Cond.instanceMethod yX9_goes, Cond.selects RX9 yX9_goes yX9_goes, Cond.code yX9_goes cX9_goes 5 none]
def wsX9_ahead_r2 : List Cond := [Cond.methodLink RX9 157 yX9_place, Cond.instanceMethod yX9_place, Cond.selects RX9 yX9_place yX9_place, Cond.code yX9_place cX9_place 4 (some .int)]
def wsX9_ahead : List Cond := .code yX9_ahead cX9_ahead 5 (some .int) :: ((wsX9_ahead_r1 ++ wsX9_ahead_r2) ++ wsX90)
def wsX9_see : List Cond := .code yX9_see cX9_see 5 (some .int) :: ([.fieldLink RX9 9 "BellTouchesModel" "now" "[I", .methodLink RX9 56 yX9_within, .static yX9_within, .initialized RX9, .code yX9_within cX9_within 3 (some .boolean), .methodLink RX9 154 yX9_isPlace, .instanceMethod yX9_isPlace, .selects RX9 yX9_isPlace yX9_isPlace, .code yX9_isPlace cX9_isPlace 2 (some .boolean)] ++ wsX90)
def wsX9_isSeen : List Cond := .code yX9_isSeen cX9_isSeen 3 (some .boolean) :: ([.fieldLink RX9 9 "BellTouchesModel" "now" "[I", .fieldLink RX9 129 "BellTouchesModel" "last" "I", .fieldLink RX9 18 "BellTouchesModel" "bell" "[I"] ++ wsX90)
def wsX9_fits_r1 : List Cond := [Cond.fieldLink RX9 9 "BellTouchesModel" "now" "[I", Cond.methodLink RX9 56 yX9_within, Cond.static yX9_within, Cond.initialized RX9, Cond.code yX9_within cX9_within 3 (some .boolean), Cond.methodLink RX9 64 yX9_isGood, Cond.instanceMethod yX9_isGood, Cond.selects RX9 yX9_isGood yX9_isGood, Cond.code yX9_isGood cX9_isGood 3 (some .boolean), Cond.methodLink RX9 145 yX9_rings, Cond.instanceMethod yX9_rings, Cond.selects RX9 yX9_rings yX9_rings, Cond.code yX9_rings cX9_rings 5 none, Cond.fieldLink RX9 18 "BellTouchesModel" "bell" "[I", Cond.fieldLink RX9 129 "BellTouchesModel" "last" "I", Cond.methodLink RX9 126 yX9_keys, Cond.instanceMethod yX9_keys, Cond.selects RX9 yX9_keys yX9_keys, Cond.code yX9_keys cX9_keys 4 none, Cond.fieldLink RX9 21 "BellTouchesModel" "key" "[I", Cond.methodLink RX9 132 yX9_goes, Cond.instanceMethod yX9_goes, Cond.selects RX9 yX9_goes yX9_goes, Cond.code yX9_goes cX9_goes 5 none]
def wsX9_fits_r2 : List Cond := [Cond.methodLink RX9 167 yX9_isSeen, Cond.instanceMethod yX9_isSeen, Cond.selects RX9 yX9_isSeen yX9_isSeen, Cond.code yX9_isSeen cX9_isSeen 3 (some .boolean)]
def wsX9_fits : List Cond := .code yX9_fits cX9_fits 7 (some .int) :: ((wsX9_fits_r1 ++ wsX9_fits_r2) ++ wsX90)
def wsX9_lowest : List Cond := .code yX9_lowest cX9_lowest 6 (some .long) :: ([])
def wsX9_odds_r1 : List Cond := [Cond.constantLong RX9 170 (-9223372036854775808), Cond.fieldLink RX9 129 "BellTouchesModel" "last" "I", Cond.methodLink RX9 154 yX9_isPlace, Cond.instanceMethod yX9_isPlace, Cond.selects RX9 yX9_isPlace yX9_isPlace, Cond.initialized RX9, Cond.code yX9_isPlace cX9_isPlace 2 (some .boolean), Cond.fieldLink RX9 9 "BellTouchesModel" "now" "[I", Cond.methodLink RX9 56 yX9_within, Cond.static yX9_within, Cond.code yX9_within cX9_within 3 (some .boolean), Cond.methodLink RX9 145 yX9_rings, Cond.instanceMethod yX9_rings, Cond.selects RX9 yX9_rings yX9_rings, Cond.code yX9_rings cX9_rings 5 none, Cond.fieldLink RX9 18 "BellTouchesModel" "bell" "[I", Cond.methodLink RX9 126 yX9_keys, Cond.instanceMethod yX9_keys, Cond.selects RX9 yX9_keys yX9_keys, Cond.code yX9_keys cX9_keys 4 none, Cond.fieldLink RX9 21 "BellTouchesModel" "key" "[I", Cond.methodLink RX9 132 yX9_goes, Cond.instanceMethod yX9_goes, Cond.selects RX9 yX9_goes yX9_goes]
def wsX9_odds_r2 : List Cond := [Cond.code yX9_goes cX9_goes 5 none, Cond.methodLink RX9 157 yX9_place, Cond.instanceMethod yX9_place, Cond.selects RX9 yX9_place yX9_place, Cond.code yX9_place cX9_place 4 (some .int), Cond.methodLink RX9 172 yX9_lowest, Cond.static yX9_lowest, Cond.code yX9_lowest cX9_lowest 6 (some .long)]
def wsX9_odds : List Cond := .code yX9_odds cX9_odds 6 (some .long) :: ((wsX9_odds_r1 ++ wsX9_odds_r2) ++ wsX90)
def wsX9_mean_r1 : List Cond := [Cond.constantLong RX9 170 (-9223372036854775808), Cond.fieldLink RX9 129 "BellTouchesModel" "last" "I", Cond.methodLink RX9 56 yX9_within, Cond.static yX9_within, Cond.initialized RX9, Cond.code yX9_within cX9_within 3 (some .boolean), Cond.methodLink RX9 145 yX9_rings, Cond.instanceMethod yX9_rings, Cond.selects RX9 yX9_rings yX9_rings, Cond.code yX9_rings cX9_rings 5 none, Cond.fieldLink RX9 9 "BellTouchesModel" "now" "[I", Cond.fieldLink RX9 18 "BellTouchesModel" "bell" "[I", Cond.methodLink RX9 126 yX9_keys, Cond.instanceMethod yX9_keys, Cond.selects RX9 yX9_keys yX9_keys, Cond.code yX9_keys cX9_keys 4 none, Cond.fieldLink RX9 21 "BellTouchesModel" "key" "[I", Cond.methodLink RX9 132 yX9_goes, Cond.instanceMethod yX9_goes, Cond.selects RX9 yX9_goes yX9_goes, Cond.code yX9_goes cX9_goes 5 none, Cond.methodLink RX9 164 yX9_musicOf, Cond.instanceMethod yX9_musicOf, Cond.selects RX9 yX9_musicOf yX9_musicOf]
def wsX9_mean_r2 : List Cond := [Cond.code yX9_musicOf cX9_musicOf 4 (some .int), Cond.methodLink RX9 160 yX9_isMusic, Cond.instanceMethod yX9_isMusic, Cond.selects RX9 yX9_isMusic yX9_isMusic, Cond.code yX9_isMusic cX9_isMusic 5 (some .boolean), Cond.methodLink RX9 157 yX9_place, Cond.instanceMethod yX9_place, Cond.selects RX9 yX9_place yX9_place, Cond.code yX9_place cX9_place 4 (some .int), Cond.methodLink RX9 172 yX9_lowest, Cond.static yX9_lowest, Cond.code yX9_lowest cX9_lowest 6 (some .long)]
def wsX9_mean : List Cond := .code yX9_mean cX9_mean 4 (some .long) :: ((wsX9_mean_r1 ++ wsX9_mean_r2) ++ wsX90)
def wsX9_event : List Cond := .code yX9_event cX9_event 3 (some .int) :: ([.fieldLink RX9 9 "BellTouchesModel" "now" "[I", .methodLink RX9 56 yX9_within, .static yX9_within, .initialized RX9, .code yX9_within cX9_within 3 (some .boolean)] ++ wsX90)
def wsX9_after_r1 : List Cond := [Cond.fieldLink RX9 9 "BellTouchesModel" "now" "[I", Cond.methodLink RX9 176 Lib.Math.max.name, Cond.static Lib.Math.max.name, Cond.initialized "java/lang/Math", Cond.code Lib.Math.max.name Lib.Math.max.code 2 (some .int), Cond.methodLink RX9 56 yX9_within, Cond.static yX9_within, Cond.initialized RX9, Cond.code yX9_within cX9_within 3 (some .boolean), Cond.methodLink RX9 145 yX9_rings, Cond.instanceMethod yX9_rings, Cond.selects RX9 yX9_rings yX9_rings, Cond.code yX9_rings cX9_rings 5 none, Cond.fieldLink RX9 18 "BellTouchesModel" "bell" "[I", Cond.fieldLink RX9 129 "BellTouchesModel" "last" "I", Cond.methodLink RX9 126 yX9_keys, Cond.instanceMethod yX9_keys, Cond.selects RX9 yX9_keys yX9_keys, Cond.code yX9_keys cX9_keys 4 none, Cond.fieldLink RX9 21 "BellTouchesModel" "key" "[I", Cond.methodLink RX9 132 yX9_goes, Cond.instanceMethod yX9_goes, Cond.selects RX9 yX9_goes yX9_goes, Cond.code yX9_goes cX9_goes 5 none]
def wsX9_after_r2 : List Cond := [Cond.methodLink RX9 148 yX9_round, Cond.instanceMethod yX9_round, Cond.selects RX9 yX9_round yX9_round, Cond.code yX9_round cX9_round 2 (some .int), Cond.methodLink RX9 139 yX9_wrongRow, Cond.instanceMethod yX9_wrongRow, Cond.selects RX9 yX9_wrongRow yX9_wrongRow, Cond.code yX9_wrongRow cX9_wrongRow 3 (some .int), Cond.methodLink RX9 136 yX9_first, Cond.instanceMethod yX9_first, Cond.selects RX9 yX9_first yX9_first, Cond.code yX9_first cX9_first 3 (some .int), Cond.methodLink RX9 151 yX9_isTrue, Cond.instanceMethod yX9_isTrue, Cond.selects RX9 yX9_isTrue yX9_isTrue, Cond.code yX9_isTrue cX9_isTrue 1 (some .int)]
def wsX9_after : List Cond := .code yX9_after cX9_after 7 (some .int) :: ((wsX9_after_r1 ++ wsX9_after_r2) ++ wsX90)
def wsX9_book : List Cond := .code yX9_book cX9_book 3 (some .int) :: ([.fieldLink RX9 9 "BellTouchesModel" "now" "[I", .methodLink RX9 56 yX9_within, .static yX9_within, .initialized RX9, .code yX9_within cX9_within 3 (some .boolean), .methodLink RX9 154 yX9_isPlace, .instanceMethod yX9_isPlace, .selects RX9 yX9_isPlace yX9_isPlace, .code yX9_isPlace cX9_isPlace 2 (some .boolean)] ++ wsX90)
def wsX9_looked : List Cond := .code yX9_looked cX9_looked 3 (some .int) :: ([.fieldLink RX9 9 "BellTouchesModel" "now" "[I", .fieldLink RX9 129 "BellTouchesModel" "last" "I", .fieldLink RX9 18 "BellTouchesModel" "bell" "[I", .methodLink RX9 145 yX9_rings, .instanceMethod yX9_rings, .selects RX9 yX9_rings yX9_rings, .initialized RX9, .code yX9_rings cX9_rings 5 none, .methodLink RX9 126 yX9_keys, .instanceMethod yX9_keys, .selects RX9 yX9_keys yX9_keys, .code yX9_keys cX9_keys 4 none, .fieldLink RX9 21 "BellTouchesModel" "key" "[I", .methodLink RX9 132 yX9_goes, .instanceMethod yX9_goes, .selects RX9 yX9_goes yX9_goes, .code yX9_goes cX9_goes 5 none] ++ wsX90)
def wsX9_isTape : List Cond := .code yX9_isTape cX9_isTape 1 (some .boolean) :: ([.methodLink RX9 56 yX9_within, .static yX9_within, .initialized RX9, .code yX9_within cX9_within 3 (some .boolean)])
def wsX9_judge_r1 : List Cond := [Cond.fieldLink RX9 129 "BellTouchesModel" "last" "I", Cond.fieldLink RX9 39 "BellTouchesModel" "sort" "[I", Cond.fieldLink RX9 9 "BellTouchesModel" "now" "[I", Cond.fieldLink RX9 42 "BellTouchesModel" "long1" "[I", Cond.fieldLink RX9 45 "BellTouchesModel" "items" "[J", Cond.fieldLink RX9 18 "BellTouchesModel" "bell" "[I", Cond.methodLink RX9 145 yX9_rings, Cond.instanceMethod yX9_rings, Cond.selects RX9 yX9_rings yX9_rings, Cond.initialized RX9, Cond.code yX9_rings cX9_rings 5 none, Cond.methodLink RX9 126 yX9_keys, Cond.instanceMethod yX9_keys, Cond.selects RX9 yX9_keys yX9_keys, Cond.code yX9_keys cX9_keys 4 none, Cond.fieldLink RX9 21 "BellTouchesModel" "key" "[I", Cond.methodLink RX9 132 yX9_goes, Cond.instanceMethod yX9_goes, Cond.selects RX9 yX9_goes yX9_goes, Cond.code yX9_goes cX9_goes 5 none, Cond.methodLink RX9 56 yX9_within, Cond.static yX9_within, Cond.code yX9_within cX9_within 3 (some .boolean), Cond.methodLink RX9 181 yX9_isTape]
def wsX9_judge_r2 : List Cond := [Cond.static yX9_isTape, Cond.code yX9_isTape cX9_isTape 1 (some .boolean)]
def wsX9_judge : List Cond := .code yX9_judge cX9_judge 5 (some .int) :: ((wsX9_judge_r1 ++ wsX9_judge_r2) ++ wsX90)
def wsX9_image : List Cond := .code yX9_image cX9_image 2 (some .int) :: ([.fieldLink RX9 184 "BellTouchesModel" "imaged" "Z", .fieldLink RX9 15 "BellTouchesModel" "old" "[I", .fieldLink RX9 9 "BellTouchesModel" "now" "[I"] ++ wsX90)
def wsX9_undo : List Cond := .code yX9_undo cX9_undo 2 (some .int) :: ([.fieldLink RX9 184 "BellTouchesModel" "imaged" "Z", .fieldLink RX9 9 "BellTouchesModel" "now" "[I", .fieldLink RX9 15 "BellTouchesModel" "old" "[I"] ++ wsX90)
def wsX9_count : List Cond := .code yX9_count cX9_count 2 (some .int) :: ([.fieldLink RX9 9 "BellTouchesModel" "now" "[I", .fieldLink RX9 71 "BellTouchesModel" "texts" "I", .methodLink RX9 56 yX9_within, .static yX9_within, .initialized RX9, .code yX9_within cX9_within 3 (some .boolean)] ++ wsX90)
def wsX9_tape : List Cond := .code yX9_tape cX9_tape 5 (some .int) :: ([.fieldLink RX9 39 "BellTouchesModel" "sort" "[I", .fieldLink RX9 42 "BellTouchesModel" "long1" "[I", .fieldLink RX9 45 "BellTouchesModel" "items" "[J", .methodLink RX9 181 yX9_isTape, .static yX9_isTape, .initialized RX9, .code yX9_isTape cX9_isTape 1 (some .boolean), .methodLink RX9 56 yX9_within, .static yX9_within, .code yX9_within cX9_within 3 (some .boolean)] ++ wsX90)
def wsX9_item : List Cond := .code yX9_item cX9_item 6 (some .int) :: ([.fieldLink RX9 39 "BellTouchesModel" "sort" "[I", .fieldLink RX9 42 "BellTouchesModel" "long1" "[I", .fieldLink RX9 45 "BellTouchesModel" "items" "[J", .methodLink RX9 181 yX9_isTape, .static yX9_isTape, .initialized RX9, .code yX9_isTape cX9_isTape 1 (some .boolean), .methodLink RX9 56 yX9_within, .static yX9_within, .code yX9_within cX9_within 3 (some .boolean)] ++ wsX90)
def wsX9_peek : List Cond := .code yX9_peek cX9_peek 3 (some .long) :: ([.fieldLink RX9 42 "BellTouchesModel" "long1" "[I", .fieldLink RX9 45 "BellTouchesModel" "items" "[J", .constantLong RX9 170 (-9223372036854775808), .methodLink RX9 181 yX9_isTape, .static yX9_isTape, .initialized RX9, .code yX9_isTape cX9_isTape 1 (some .boolean), .methodLink RX9 56 yX9_within, .static yX9_within, .code yX9_within cX9_within 3 (some .boolean)] ++ wsX90)
def wsX9_shift : List Cond := .code yX9_shift cX9_shift 7 (some .int) :: ([.fieldLink RX9 39 "BellTouchesModel" "sort" "[I", .fieldLink RX9 42 "BellTouchesModel" "long1" "[I", .fieldLink RX9 49 "BellTouchesModel" "moved" "[J", .fieldLink RX9 45 "BellTouchesModel" "items" "[J", .methodLink RX9 181 yX9_isTape, .static yX9_isTape, .initialized RX9, .code yX9_isTape cX9_isTape 1 (some .boolean), .methodLink RX9 56 yX9_within, .static yX9_within, .code yX9_within cX9_within 3 (some .boolean)] ++ wsX90)
def wsJ9_max_7cf53 : List Cond := .code yJ9_max_7cf53 cJ9_max_7cf53 2 (some .int) :: ([])
def wsL_law_r1 : List Cond := [Cond.classLink RL 7 RX8, Cond.instantiable RX8 10, Cond.initialized RX8, Cond.classLink RL 10 RX9, Cond.instantiable RX9 20, Cond.initialized RX9, Cond.constantLong RL 143 (4294967295), Cond.methodLink RL 9 yX8_init, Cond.instanceMethod yX8_init, Cond.code yX8_init cX8_init 2 none, Cond.methodLink RX8 5 objectInit, Cond.instanceMethod objectInit, Cond.code objectInit ⟨#[0xb1]⟩ 1 none, Cond.classLink RX8 11 RX4, Cond.instantiable RX4 11, Cond.initialized RX4, Cond.fieldLink RX8 14 "BellTouches" "setup" "LBellTouches$Setup;", Cond.fieldLink RX8 18 "BellTouches" "kept" "LBellTouches$Setup;", Cond.fieldLink RX8 21 "BellTouches" "trialSetup" "LBellTouches$Setup;", Cond.classLink RX8 24 RX7, Cond.instantiable RX7 8, Cond.initialized RX7, Cond.fieldLink RX8 27 "BellTouches" "touch" "LBellTouches$Touch;", Cond.fieldLink RX8 31 "BellTouches" "trial" "LBellTouches$Touch;"]
def wsL_law_r2 : List Cond := [Cond.classLink RX8 34 RX0, Cond.instantiable RX0 7, Cond.initialized RX0, Cond.fieldLink RX8 37 "BellTouches" "fewest" "LBellTouches$Fewest;", Cond.classLink RX8 41 RX5, Cond.instantiable RX5 8, Cond.initialized RX5, Cond.fieldLink RX8 44 "BellTouches" "text" "LBellTouches$SetupText;", Cond.classLink RX8 48 RX6, Cond.fieldLink RX8 50 "BellTouches" "tapes" "[LBellTouches$Tape;", Cond.fieldLink RX8 54 "BellTouches" "hasImage" "Z", Cond.fieldLink RX8 58 "BellTouches" "stale" "Z", Cond.instantiable RX6 3, Cond.initialized RX6, Cond.instanceMethod yX4_init, Cond.code yX4_init cX4_init 1 none, Cond.methodLink RX4 3 objectInit, Cond.fieldLink RX4 9 "BellTouches$Setup" "n" "I", Cond.arrayClass .int, Cond.fieldLink RX4 15 "BellTouches$Setup" "changes" "[I", Cond.fieldLink RX4 19 "BellTouches$Setup" "changeCount" "I", Cond.fieldLink RX4 22 "BellTouches$Setup" "bob" "I", Cond.fieldLink RX4 25 "BellTouches$Setup" "single" "I", Cond.fieldLink RX4 28 "BellTouches$Setup" "leadCalls" "[I"]
def wsL_law_r3 : List Cond := [Cond.fieldLink RX4 31 "BellTouches$Setup" "leadCount" "I", Cond.fieldLink RX4 34 "BellTouches$Setup" "patternBells" "[I", Cond.classLink RX4 37 RX1, Cond.instantiable RX1 4, Cond.initialized RX1, Cond.fieldLink RX4 42 "BellTouches$Setup" "seen" "LBellTouches$HandRows;", Cond.fieldLink RX4 46 "BellTouches$Setup" "events" "LBellTouches$HandRows;", Cond.fieldLink RX4 49 "BellTouches$Setup" "book" "LBellTouches$HandRows;", Cond.methodLink RX4 39 yX1_init, Cond.instanceMethod yX1_init, Cond.code yX1_init cX1_init 3 none, Cond.methodLink RX1 1 objectInit, Cond.fieldLink RX1 7 "BellTouches$HandRows" "size" "I", Cond.fieldLink RX1 13 "BellTouches$HandRows" "first" "[I", Cond.fieldLink RX1 17 "BellTouches$HandRows" "second" "[I", Cond.fieldLink RX1 20 "BellTouches$HandRows" "third" "[I", Cond.instanceMethod yX7_init, Cond.code yX7_init cX7_init 1 none, Cond.methodLink RX7 3 objectInit, Cond.fieldLink RX7 9 "BellTouches$Touch" "rows" "[I", Cond.fieldLink RX7 15 "BellTouches$Touch" "last" "I", Cond.fieldLink RX7 19 "BellTouches$Touch" "changeCount" "I", Cond.fieldLink RX7 22 "BellTouches$Touch" "pairs" "[I", Cond.fieldLink RX7 25 "BellTouches$Touch" "lastPairs" "[I"]
def wsL_law_r4 : List Cond := [Cond.fieldLink RX7 28 "BellTouches$Touch" "firsts" "[I", Cond.classLink RX7 31 RX3, Cond.instantiable RX3 1, Cond.initialized RX3, Cond.fieldLink RX7 34 "BellTouches$Touch" "table" "LBellTouches$RowTable;", Cond.fieldLink RX7 38 "BellTouches$Touch" "compared" "Z", Cond.instanceMethod yX3_init, Cond.code yX3_init cX3_init 1 none, Cond.methodLink RX3 3 objectInit, Cond.fieldLink RX3 9 "BellTouches$RowTable" "numbers" "[I", Cond.instanceMethod yX0_init, Cond.code yX0_init cX0_init 1 none, Cond.methodLink RX0 3 objectInit, Cond.fieldLink RX0 9 "BellTouches$Fewest" "number" "I", Cond.fieldLink RX0 15 "BellTouches$Fewest" "notPlain" "I", Cond.classLink RX0 18 RX7, Cond.fieldLink RX0 21 "BellTouches$Fewest" "touch" "LBellTouches$Touch;", Cond.classLink RX0 25 RX3, Cond.fieldLink RX0 28 "BellTouches$Fewest" "table" "LBellTouches$RowTable;", Cond.arrayClass .boolean, Cond.fieldLink RX0 32 "BellTouches$Fewest" "thereIs" "[Z", Cond.fieldLink RX0 36 "BellTouches$Fewest" "leadCount" "I", Cond.fieldLink RX0 39 "BellTouches$Fewest" "bound" "I", Cond.instanceMethod yX5_init]
def wsL_law_r5 : List Cond := [Cond.code yX5_init cX5_init 1 none, Cond.methodLink RX5 3 objectInit, Cond.fieldLink RX5 9 "BellTouches$SetupText" "length" "I", Cond.arrayClass .byte, Cond.fieldLink RX5 15 "BellTouches$SetupText" "signs" "[B", Cond.fieldLink RX5 19 "BellTouches$SetupText" "place" "I", Cond.fieldLink RX5 22 "BellTouches$SetupText" "kinds" "[I", Cond.fieldLink RX5 26 "BellTouches$SetupText" "starts" "[I", Cond.fieldLink RX5 29 "BellTouches$SetupText" "clauseCount" "I", Cond.fieldLink RX5 32 "BellTouches$SetupText" "values" "[I", Cond.fieldLink RX5 35 "BellTouches$SetupText" "valueCount" "I", Cond.instanceMethod yX6_init, Cond.code yX6_init cX6_init 1 none, Cond.methodLink RX6 3 objectInit, Cond.fieldLink RX6 9 "BellTouches$Tape" "sort" "I", Cond.fieldLink RX6 15 "BellTouches$Tape" "length" "I", Cond.arrayClass .long, Cond.fieldLink RX6 18 "BellTouches$Tape" "items" "[J", Cond.methodLink RL 12 yX9_init, Cond.instanceMethod yX9_init, Cond.code yX9_init cX9_init 1 none, Cond.methodLink RX9 3 objectInit, Cond.fieldLink RX9 9 "BellTouchesModel" "now" "[I", Cond.fieldLink RX9 15 "BellTouchesModel" "old" "[I"]
def wsL_law_r6 : List Cond := [Cond.fieldLink RX9 18 "BellTouchesModel" "bell" "[I", Cond.fieldLink RX9 21 "BellTouchesModel" "key" "[I", Cond.fieldLink RX9 24 "BellTouchesModel" "text" "[I", Cond.fieldLink RX9 27 "BellTouchesModel" "clause" "[I", Cond.fieldLink RX9 30 "BellTouchesModel" "from" "[I", Cond.fieldLink RX9 33 "BellTouchesModel" "many" "[I", Cond.fieldLink RX9 36 "BellTouchesModel" "number" "[I", Cond.fieldLink RX9 39 "BellTouchesModel" "sort" "[I", Cond.fieldLink RX9 42 "BellTouchesModel" "long1" "[I", Cond.fieldLink RX9 45 "BellTouchesModel" "items" "[J", Cond.fieldLink RX9 49 "BellTouchesModel" "moved" "[J", Cond.methodLink RX9 52 yX9_begins, Cond.instanceMethod yX9_begins, Cond.selects RX9 yX9_begins yX9_begins, Cond.code yX9_begins cX9_begins 3 none, Cond.methodLink RL 13 yX8_bells, Cond.instanceMethod yX8_bells, Cond.selects RX8 yX8_bells yX8_bells, Cond.code yX8_bells cX8_bells 3 (some .int), Cond.fieldLink RX8 62 "BellTouches$Setup" "n" "I", Cond.methodLink RX8 66 yX4_begin, Cond.instanceMethod yX4_begin, Cond.selects RX4 yX4_begin yX4_begin, Cond.code yX4_begin cX4_begin 3 none]
def wsL_law_r7 : List Cond := [Cond.fieldLink RX4 52 "BellTouches$HandRows" "size" "I", Cond.methodLink RL 17 yX9_bells, Cond.instanceMethod yX9_bells, Cond.selects RX9 yX9_bells yX9_bells, Cond.code yX9_bells cX9_bells 3 (some .int), Cond.methodLink RX9 56 yX9_within, Cond.static yX9_within, Cond.code yX9_within cX9_within 3 (some .boolean), Cond.methodLink RL 18 yX8_change, Cond.instanceMethod yX8_change, Cond.selects RX8 yX8_change yX8_change, Cond.code yX8_change cX8_change 2 (some .int), Cond.fieldLink RX8 80 "BellTouches$Setup" "changeCount" "I", Cond.fieldLink RX8 83 "BellTouches$Setup" "changes" "[I", Cond.methodLink RX8 70 yX8_isPlaces, Cond.instanceMethod yX8_isPlaces, Cond.selects RX8 yX8_isPlaces yX8_isPlaces, Cond.code yX8_isPlaces cX8_isPlaces 2 (some .boolean), Cond.methodLink RX8 74 yX2_isGood, Cond.static yX2_isGood, Cond.initialized RX2, Cond.code yX2_isGood cX2_isGood 2 (some .boolean), Cond.methodLink RX2 18 yX2_pairs, Cond.static yX2_pairs]
def wsL_law_r8 : List Cond := [Cond.code yX2_pairs cX2_pairs 4 (some .int), Cond.methodLink RX2 21 yX2_isKept, Cond.static yX2_isKept, Cond.code yX2_isKept cX2_isKept 2 (some .boolean), Cond.methodLink RL 21 yX9_change, Cond.instanceMethod yX9_change, Cond.selects RX9 yX9_change yX9_change, Cond.code yX9_change cX9_change 2 (some .int), Cond.methodLink RX9 60 yX9_areKept, Cond.instanceMethod yX9_areKept, Cond.selects RX9 yX9_areKept yX9_areKept, Cond.code yX9_areKept cX9_areKept 2 (some .boolean), Cond.methodLink RX9 64 yX9_isGood, Cond.instanceMethod yX9_isGood, Cond.selects RX9 yX9_isGood yX9_isGood, Cond.code yX9_isGood cX9_isGood 3 (some .boolean), Cond.methodLink RL 22 yX8_calls, Cond.instanceMethod yX8_calls, Cond.selects RX8 yX8_calls yX8_calls, Cond.code yX8_calls cX8_calls 4 (some .int), Cond.methodLink RX8 87 yX4_calledChange, Cond.instanceMethod yX4_calledChange, Cond.selects RX4 yX4_calledChange yX4_calledChange, Cond.code yX4_calledChange cX4_calledChange 2 (some .int)]
def wsL_law_r9 : List Cond := [Cond.methodLink RX8 91 yX4_setCalledChange, Cond.instanceMethod yX4_setCalledChange, Cond.selects RX4 yX4_setCalledChange yX4_setCalledChange, Cond.code yX4_setCalledChange cX4_setCalledChange 3 none, Cond.methodLink RL 26 yX9_calls, Cond.instanceMethod yX9_calls, Cond.selects RX9 yX9_calls yX9_calls, Cond.code yX9_calls cX9_calls 3 (some .int), Cond.methodLink RX9 67 yX9_becomes, Cond.instanceMethod yX9_becomes, Cond.selects RX9 yX9_becomes yX9_becomes, Cond.code yX9_becomes cX9_becomes 4 (some .int), Cond.methodLink RL 27 yX8_call, Cond.instanceMethod yX8_call, Cond.selects RX8 yX8_call yX8_call, Cond.code yX8_call cX8_call 4 (some .int), Cond.fieldLink RX8 98 "BellTouches$Setup" "leadCalls" "[I", Cond.methodLink RX8 95 yX8_isLead, Cond.static yX8_isLead, Cond.code yX8_isLead cX8_isLead 1 (some .boolean), Cond.methodLink RL 30 yX9_call, Cond.instanceMethod yX9_call, Cond.selects RX9 yX9_call yX9_call, Cond.code yX9_call cX9_call 3 (some .int)]
def wsL_law_r10 : List Cond := [Cond.methodLink RL 31 yX8_leads, Cond.instanceMethod yX8_leads, Cond.selects RX8 yX8_leads yX8_leads, Cond.code yX8_leads cX8_leads 3 (some .int), Cond.fieldLink RX8 101 "BellTouches$Setup" "leadCount" "I", Cond.methodLink RL 34 yX9_leads, Cond.instanceMethod yX9_leads, Cond.selects RX9 yX9_leads yX9_leads, Cond.code yX9_leads cX9_leads 2 (some .int), Cond.methodLink RL 35 yX8_pattern, Cond.instanceMethod yX8_pattern, Cond.selects RX8 yX8_pattern yX8_pattern, Cond.code yX8_pattern cX8_pattern 4 (some .int), Cond.fieldLink RX8 104 "BellTouches$Setup" "patternBells" "[I", Cond.methodLink RL 38 yX9_pattern, Cond.instanceMethod yX9_pattern, Cond.selects RX9 yX9_pattern yX9_pattern, Cond.code yX9_pattern cX9_pattern 3 (some .int), Cond.methodLink RL 39 yX8_feed, Cond.instanceMethod yX8_feed, Cond.selects RX8 yX8_feed yX8_feed, Cond.code yX8_feed cX8_feed 2 (some .int), Cond.fieldLink RX8 110 "BellTouches$SetupText" "length" "I", Cond.methodLink RX8 107 yX5_append]
def wsL_law_r11 : List Cond := [Cond.instanceMethod yX5_append, Cond.selects RX5 yX5_append yX5_append, Cond.code yX5_append cX5_append 2 (some .boolean), Cond.methodLink RL 42 yX9_feed, Cond.instanceMethod yX9_feed, Cond.selects RX9 yX9_feed yX9_feed, Cond.code yX9_feed cX9_feed 2 (some .int), Cond.fieldLink RX9 71 "BellTouchesModel" "texts" "I", Cond.methodLink RL 43 yX8_read, Cond.instanceMethod yX8_read, Cond.selects RX8 yX8_read yX8_read, Cond.code yX8_read cX8_read 2 (some .int), Cond.methodLink RX8 113 yX5_parse, Cond.instanceMethod yX5_parse, Cond.selects RX5 yX5_parse yX5_parse, Cond.code yX5_parse cX5_parse 2 (some .int), Cond.methodLink RX5 38 yX5_next, Cond.instanceMethod yX5_next, Cond.selects RX5 yX5_next yX5_next, Cond.code yX5_next cX5_next 1 (some .int), Cond.methodLink RX5 42 yX5_parseClause, Cond.instanceMethod yX5_parseClause, Cond.selects RX5 yX5_parseClause yX5_parseClause, Cond.code yX5_parseClause cX5_parseClause 2 (some .boolean)]
def wsL_law_r12 : List Cond := [Cond.methodLink RX5 46 yX5_parseDigit, Cond.instanceMethod yX5_parseDigit, Cond.selects RX5 yX5_parseDigit yX5_parseDigit, Cond.code yX5_parseDigit cX5_parseDigit 2 (some .boolean), Cond.methodLink RX5 58 yX5_keep, Cond.instanceMethod yX5_keep, Cond.selects RX5 yX5_keep yX5_keep, Cond.code yX5_keep cX5_keep 2 none, Cond.methodLink RX5 49 yX5_parseWords, Cond.instanceMethod yX5_parseWords, Cond.selects RX5 yX5_parseWords yX5_parseWords, Cond.code yX5_parseWords cX5_parseWords 3 (some .boolean), Cond.methodLink RX5 52 yX5_parseWord, Cond.instanceMethod yX5_parseWord, Cond.selects RX5 yX5_parseWord yX5_parseWord, Cond.code yX5_parseWord cX5_parseWord 3 (some .boolean), Cond.methodLink RX5 62 yX5_isPlaceSign, Cond.static yX5_isPlaceSign, Cond.code yX5_isPlaceSign cX5_isPlaceSign 1 (some .boolean), Cond.methodLink RX5 55 yX5_parseCalls, Cond.instanceMethod yX5_parseCalls, Cond.selects RX5 yX5_parseCalls yX5_parseCalls, Cond.code yX5_parseCalls cX5_parseCalls 2 (some .boolean), Cond.methodLink RX5 66 yX5_callOf]
def wsL_law_r13 : List Cond := [Cond.static yX5_callOf, Cond.code yX5_callOf cX5_callOf 1 (some .int), Cond.methodLink RX8 117 yX5_perform, Cond.instanceMethod yX5_perform, Cond.selects RX5 yX5_perform yX5_perform, Cond.code yX5_perform cX5_perform 4 (some .int), Cond.methodLink RX5 70 yX5_performClause, Cond.instanceMethod yX5_performClause, Cond.selects RX5 yX5_performClause yX5_performClause, Cond.code yX5_performClause cX5_performClause 5 (some .boolean), Cond.methodLink RX5 74 yX5_beginBells, Cond.static yX5_beginBells, Cond.code yX5_beginBells cX5_beginBells 2 (some .boolean), Cond.methodLink RX5 88 yX4_begin, Cond.methodLink RX5 78 yX5_setMethod, Cond.instanceMethod yX5_setMethod, Cond.selects RX5 yX5_setMethod yX5_setMethod, Cond.code yX5_setMethod cX5_setMethod 5 (some .boolean), Cond.fieldLink RX5 93 "BellTouches$Setup" "n" "I", Cond.fieldLink RX5 102 "BellTouches$Setup" "changeCount" "I", Cond.fieldLink RX5 105 "BellTouches$Setup" "changes" "[I", Cond.methodLink RX5 96 yX2_isGood, Cond.methodLink RX5 82 yX5_setCall, Cond.static yX5_setCall]
def wsL_law_r14 : List Cond := [Cond.code yX5_setCall cX5_setCall 3 (some .boolean), Cond.methodLink RX5 108 yX4_setCalledChange, Cond.methodLink RX5 85 yX5_setLeads, Cond.instanceMethod yX5_setLeads, Cond.selects RX5 yX5_setLeads yX5_setLeads, Cond.code yX5_setLeads cX5_setLeads 5 (some .boolean), Cond.fieldLink RX5 112 "BellTouches$Setup" "leadCount" "I", Cond.fieldLink RX5 115 "BellTouches$Setup" "leadCalls" "[I", Cond.methodLink RL 47 yX9_read, Cond.instanceMethod yX9_read, Cond.selects RX9 yX9_read yX9_read, Cond.code yX9_read cX9_read 4 (some .int), Cond.fieldLink RX9 75 "BellTouchesModel" "at" "I", Cond.fieldLink RX9 78 "BellTouchesModel" "fault" "I", Cond.fieldLink RX9 84 "BellTouchesModel" "clauses" "I", Cond.fieldLink RX9 81 "BellTouchesModel" "numbers" "I", Cond.methodLink RX9 120 yX9_reads, Cond.instanceMethod yX9_reads, Cond.selects RX9 yX9_reads yX9_reads, Cond.code yX9_reads cX9_reads 1 none, Cond.methodLink RX9 87 yX9_sign, Cond.instanceMethod yX9_sign, Cond.selects RX9 yX9_sign yX9_sign, Cond.code yX9_sign cX9_sign 1 (some .int)]
def wsL_law_r15 : List Cond := [Cond.methodLink RX9 91 yX9_wrong, Cond.instanceMethod yX9_wrong, Cond.selects RX9 yX9_wrong yX9_wrong, Cond.code yX9_wrong cX9_wrong 1 none, Cond.methodLink RX9 94 yX9_adds, Cond.instanceMethod yX9_adds, Cond.selects RX9 yX9_adds yX9_adds, Cond.code yX9_adds cX9_adds 2 none, Cond.methodLink RX9 104 yX9_words, Cond.instanceMethod yX9_words, Cond.selects RX9 yX9_words yX9_words, Cond.code yX9_words cX9_words 4 none, Cond.methodLink RX9 100 yX9_word, Cond.instanceMethod yX9_word, Cond.selects RX9 yX9_word yX9_word, Cond.code yX9_word cX9_word 1 (some .boolean), Cond.methodLink RX9 97 yX9_digits, Cond.instanceMethod yX9_digits, Cond.selects RX9 yX9_digits yX9_digits, Cond.code yX9_digits cX9_digits 3 none, Cond.methodLink RX9 107 yX9_callOf, Cond.static yX9_callOf, Cond.code yX9_callOf cX9_callOf 1 (some .int), Cond.methodLink RX9 123 yX9_does]
def wsL_law_r16 : List Cond := [Cond.instanceMethod yX9_does, Cond.selects RX9 yX9_does yX9_does, Cond.code yX9_does cX9_does 4 (some .boolean), Cond.methodLink RX9 111 yX9_bells, Cond.methodLink RX9 114 yX9_calls, Cond.methodLink RX9 117 yX9_areGood, Cond.instanceMethod yX9_areGood, Cond.selects RX9 yX9_areGood yX9_areGood, Cond.code yX9_areGood cX9_areGood 4 (some .boolean), Cond.methodLink RL 48 yX8_of, Cond.instanceMethod yX8_of, Cond.selects RX8 yX8_of yX8_of, Cond.code yX8_of cX8_of 3 (some .int), Cond.fieldLink RX8 121 "BellTouches$Setup" "bob" "I", Cond.fieldLink RX8 127 "BellTouches$Setup" "single" "I", Cond.methodLink RX8 124 yX8_orNotFound, Cond.static yX8_orNotFound, Cond.code yX8_orNotFound cX8_orNotFound 1 (some .int), Cond.methodLink RL 51 yX9_of, Cond.instanceMethod yX9_of, Cond.selects RX9 yX9_of yX9_of, Cond.code yX9_of cX9_of 3 (some .int), Cond.methodLink RL 52 yX8_told, Cond.instanceMethod yX8_told]
def wsL_law_r17 : List Cond := [Cond.selects RX8 yX8_told yX8_told, Cond.code yX8_told cX8_told 2 (some .int), Cond.fieldLink RX8 134 "BellTouches$Touch" "last" "I", Cond.methodLink RX8 130 yX8_rung, Cond.instanceMethod yX8_rung, Cond.selects RX8 yX8_rung yX8_rung, Cond.code yX8_rung cX8_rung 1 (some (.object "BellTouches$Touch")), Cond.methodLink RX8 219 yX7_ring, Cond.instanceMethod yX7_ring, Cond.selects RX7 yX7_ring yX7_ring, Cond.code yX7_ring cX7_ring 4 none, Cond.fieldLink RX7 46 "BellTouches$Setup" "leadCount" "I", Cond.fieldLink RX7 51 "BellTouches$Setup" "leadCalls" "[I", Cond.methodLink RX7 42 yX7_begin, Cond.instanceMethod yX7_begin, Cond.selects RX7 yX7_begin yX7_begin, Cond.code yX7_begin cX7_begin 4 none, Cond.fieldLink RX7 58 "BellTouches$Setup" "changeCount" "I", Cond.fieldLink RX7 59 "BellTouches$Setup" "n" "I", Cond.fieldLink RX7 62 "BellTouches$Setup" "changes" "[I", Cond.methodLink RX7 65 yX2_pairs, Cond.methodLink RX7 70 yX4_calledChange, Cond.methodLink RX7 74 yX2_rounds, Cond.static yX2_rounds]
def wsL_law_r18 : List Cond := [Cond.code yX2_rounds cX2_rounds 3 (some .int), Cond.methodLink RX7 54 yX7_step, Cond.instanceMethod yX7_step, Cond.selects RX7 yX7_step yX7_step, Cond.code yX7_step cX7_step 4 none, Cond.methodLink RX7 77 yX2_swapped, Cond.static yX2_swapped, Cond.code yX2_swapped cX2_swapped 3 (some .int), Cond.methodLink RX8 137 yX7_roundRow, Cond.instanceMethod yX7_roundRow, Cond.selects RX7 yX7_roundRow yX7_roundRow, Cond.code yX7_roundRow cX7_roundRow 2 (some .int), Cond.methodLink RX7 80 yX7_compare, Cond.instanceMethod yX7_compare, Cond.selects RX7 yX7_compare yX7_compare, Cond.code yX7_compare cX7_compare 2 none, Cond.methodLink RX7 87 yX3_enter, Cond.instanceMethod yX3_enter, Cond.selects RX3 yX3_enter yX3_enter, Cond.code yX3_enter cX3_enter 7 (some .int), Cond.methodLink RX3 13 yX3_start, Cond.static yX3_start, Cond.code yX3_start cX3_start 1 (some .int), Cond.constant RX3 17 (-1640531535)]
def wsL_law_r19 : List Cond := [Cond.methodLink RX7 91 yX3_leave, Cond.instanceMethod yX3_leave, Cond.selects RX3 yX3_leave yX3_leave, Cond.code yX3_leave cX3_leave 6 none, Cond.methodLink RX8 140 yX7_falseRow, Cond.instanceMethod yX7_falseRow, Cond.selects RX7 yX7_falseRow yX7_falseRow, Cond.code yX7_falseRow cX7_falseRow 3 (some .int), Cond.methodLink RX8 143 yX7_isTrue, Cond.instanceMethod yX7_isTrue, Cond.selects RX7 yX7_isTrue yX7_isTrue, Cond.code yX7_isTrue cX7_isTrue 1 (some .boolean), Cond.methodLink RX7 83 yX7_falseRow, Cond.methodLink RX8 147 yX7_course, Cond.instanceMethod yX7_course, Cond.selects RX7 yX7_course yX7_course, Cond.code yX7_course cX7_course 4 (some .int), Cond.methodLink RL 55 yX9_told, Cond.instanceMethod yX9_told, Cond.selects RX9 yX9_told yX9_told, Cond.code yX9_told cX9_told 2 (some .int), Cond.fieldLink RX9 129 "BellTouchesModel" "last" "I", Cond.methodLink RX9 142 yX9_course, Cond.instanceMethod yX9_course]
def wsL_law_r20 : List Cond := [Cond.selects RX9 yX9_course yX9_course, Cond.code yX9_course cX9_course 6 (some .int), Cond.methodLink RX9 126 yX9_keys, Cond.instanceMethod yX9_keys, Cond.selects RX9 yX9_keys yX9_keys, Cond.code yX9_keys cX9_keys 4 none, Cond.methodLink RX9 132 yX9_goes, Cond.instanceMethod yX9_goes, Cond.selects RX9 yX9_goes yX9_goes, Cond.code yX9_goes cX9_goes 5 none, Cond.methodLink RX9 145 yX9_rings, Cond.instanceMethod yX9_rings, Cond.selects RX9 yX9_rings yX9_rings, Cond.code yX9_rings cX9_rings 5 none, Cond.methodLink RX9 148 yX9_round, Cond.instanceMethod yX9_round, Cond.selects RX9 yX9_round yX9_round, Cond.code yX9_round cX9_round 2 (some .int), Cond.methodLink RX9 139 yX9_wrongRow, Cond.instanceMethod yX9_wrongRow, Cond.selects RX9 yX9_wrongRow yX9_wrongRow, Cond.code yX9_wrongRow cX9_wrongRow 3 (some .int), Cond.methodLink RX9 136 yX9_first, Cond.instanceMethod yX9_first]
def wsL_law_r21 : List Cond := [Cond.selects RX9 yX9_first yX9_first, Cond.code yX9_first cX9_first 3 (some .int), Cond.methodLink RX9 151 yX9_isTrue, Cond.instanceMethod yX9_isTrue, Cond.selects RX9 yX9_isTrue yX9_isTrue, Cond.code yX9_isTrue cX9_isTrue 1 (some .int), Cond.methodLink RL 56 yX8_at, Cond.instanceMethod yX8_at, Cond.selects RX8 yX8_at yX8_at, Cond.code yX8_at cX8_at 3 (some .int), Cond.fieldLink RX8 156 "BellTouches$Touch" "rows" "[I", Cond.methodLink RX8 150 yX8_isRow, Cond.instanceMethod yX8_isRow, Cond.selects RX8 yX8_isRow yX8_isRow, Cond.code yX8_isRow cX8_isRow 2 (some .boolean), Cond.methodLink RX8 153 yX8_isBell, Cond.instanceMethod yX8_isBell, Cond.selects RX8 yX8_isBell yX8_isBell, Cond.code yX8_isBell cX8_isBell 2 (some .boolean), Cond.methodLink RX8 159 yX2_bellIn, Cond.static yX2_bellIn, Cond.code yX2_bellIn cX2_bellIn 2 (some .int), Cond.methodLink RL 59 yX9_at, Cond.instanceMethod yX9_at]
def wsL_law_r22 : List Cond := [Cond.selects RX9 yX9_at yX9_at, Cond.code yX9_at cX9_at 3 (some .int), Cond.methodLink RX9 154 yX9_isPlace, Cond.instanceMethod yX9_isPlace, Cond.selects RX9 yX9_isPlace yX9_isPlace, Cond.code yX9_isPlace cX9_isPlace 2 (some .boolean), Cond.methodLink RL 60 yX8_where, Cond.instanceMethod yX8_where, Cond.selects RX8 yX8_where yX8_where, Cond.code yX8_where cX8_where 3 (some .int), Cond.methodLink RX8 163 yX2_placeOf, Cond.static yX2_placeOf, Cond.code yX2_placeOf cX2_placeOf 3 (some .int), Cond.methodLink RX2 9 yX2_bellIn, Cond.methodLink RL 63 yX9_where, Cond.instanceMethod yX9_where, Cond.selects RX9 yX9_where yX9_where, Cond.code yX9_where cX9_where 3 (some .int), Cond.methodLink RX9 157 yX9_place, Cond.instanceMethod yX9_place, Cond.selects RX9 yX9_place yX9_place, Cond.code yX9_place cX9_place 4 (some .int), Cond.methodLink RL 64 yX8_same, Cond.instanceMethod yX8_same]
def wsL_law_r23 : List Cond := [Cond.selects RX8 yX8_same yX8_same, Cond.code yX8_same cX8_same 2 (some .int), Cond.methodLink RX8 166 yX7_firstAs, Cond.instanceMethod yX7_firstAs, Cond.selects RX7 yX7_firstAs yX7_firstAs, Cond.code yX7_firstAs cX7_firstAs 2 (some .int), Cond.methodLink RL 67 yX9_same, Cond.instanceMethod yX9_same, Cond.selects RX9 yX9_same yX9_same, Cond.code yX9_same cX9_same 2 (some .int), Cond.methodLink RL 68 yX8_good, Cond.instanceMethod yX8_good, Cond.selects RX8 yX8_good yX8_good, Cond.code yX8_good cX8_good 2 (some .int), Cond.methodLink RL 71 yX9_good, Cond.instanceMethod yX9_good, Cond.selects RX9 yX9_good yX9_good, Cond.code yX9_good cX9_good 2 (some .int), Cond.methodLink RL 72 yX8_music, Cond.instanceMethod yX8_music, Cond.selects RX8 yX8_music yX8_music, Cond.code yX8_music cX8_music 2 (some .int), Cond.methodLink RX8 169 yX8_countMusic, Cond.instanceMethod yX8_countMusic]
def wsL_law_r24 : List Cond := [Cond.selects RX8 yX8_countMusic yX8_countMusic, Cond.code yX8_countMusic cX8_countMusic 5 (some .int), Cond.methodLink RX8 256 yX4_isMusic, Cond.instanceMethod yX4_isMusic, Cond.selects RX4 yX4_isMusic yX4_isMusic, Cond.code yX4_isMusic cX4_isMusic 4 (some .boolean), Cond.constant RX4 71 (65535), Cond.methodLink RX4 65 yX2_rounds, Cond.methodLink RX4 72 yX4_holdsPattern, Cond.instanceMethod yX4_holdsPattern, Cond.selects RX4 yX4_holdsPattern yX4_holdsPattern, Cond.code yX4_holdsPattern cX4_holdsPattern 4 (some .boolean), Cond.methodLink RX4 80 yX2_bellIn, Cond.methodLink RX4 76 yX2_isRightAhead, Cond.static yX2_isRightAhead, Cond.code yX2_isRightAhead cX2_isRightAhead 3 (some .boolean), Cond.methodLink RX2 15 yX2_placeOf, Cond.methodLink RL 75 yX9_music, Cond.instanceMethod yX9_music, Cond.selects RX9 yX9_music yX9_music, Cond.code yX9_music cX9_music 2 (some .int), Cond.methodLink RX9 164 yX9_musicOf, Cond.instanceMethod yX9_musicOf, Cond.selects RX9 yX9_musicOf yX9_musicOf]
def wsL_law_r25 : List Cond := [Cond.code yX9_musicOf cX9_musicOf 4 (some .int), Cond.methodLink RX9 160 yX9_isMusic, Cond.instanceMethod yX9_isMusic, Cond.selects RX9 yX9_isMusic yX9_isMusic, Cond.code yX9_isMusic cX9_isMusic 5 (some .boolean), Cond.methodLink RL 76 yX8_least, Cond.instanceMethod yX8_least, Cond.selects RX8 yX8_least yX8_least, Cond.code yX8_least cX8_least 3 (some .int), Cond.fieldLink RX8 176 "BellTouches$Fewest" "number" "I", Cond.fieldLink RX8 179 "BellTouches$Fewest" "notPlain" "I", Cond.methodLink RX8 172 yX0_find, Cond.instanceMethod yX0_find, Cond.selects RX0 yX0_find yX0_find, Cond.code yX0_find cX0_find 3 none, Cond.fieldLink RX0 42 "BellTouches$Setup" "bob" "I", Cond.fieldLink RX0 47 "BellTouches$Setup" "single" "I", Cond.fieldLink RX0 54 "BellTouches$Touch" "changeCount" "I", Cond.fieldLink RX0 57 "BellTouches$Touch" "rows" "[I", Cond.methodLink RX0 50 yX7_begin, Cond.methodLink RX0 61 yX3_enter, Cond.methodLink RX0 65 yX0_search, Cond.static yX0_search, Cond.code yX0_search cX0_search 8 none]
def wsL_law_r26 : List Cond := [Cond.fieldLink RX0 73 "BellTouches$Touch" "last" "I", Cond.methodLink RX0 76 yX0_ringTillAgain, Cond.instanceMethod yX0_ringTillAgain, Cond.selects RX0 yX0_ringTillAgain yX0_ringTillAgain, Cond.code yX0_ringTillAgain cX0_ringTillAgain 3 (some .int), Cond.methodLink RX0 88 yX7_step, Cond.methodLink RX0 80 yX0_isEnd, Cond.instanceMethod yX0_isEnd, Cond.selects RX0 yX0_isEnd yX0_isEnd, Cond.code yX0_isEnd cX0_isEnd 2 (some .boolean), Cond.methodLink RX0 84 yX0_backTo, Cond.instanceMethod yX0_backTo, Cond.selects RX0 yX0_backTo yX0_backTo, Cond.code yX0_backTo cX0_backTo 3 none, Cond.methodLink RX0 69 yX3_leave, Cond.methodLink RL 79 yX9_least, Cond.instanceMethod yX9_least, Cond.selects RX9 yX9_least yX9_least, Cond.code yX9_least cX9_least 16 (some .int), Cond.methodLink RL 80 yX8_still, Cond.instanceMethod yX8_still, Cond.selects RX8 yX8_still yX8_still, Cond.code yX8_still cX8_still 5 (some .int), Cond.methodLink RL 83 yX9_still]
def wsL_law_r27 : List Cond := [Cond.instanceMethod yX9_still, Cond.selects RX9 yX9_still yX9_still, Cond.code yX9_still cX9_still 4 (some .int), Cond.methodLink RL 84 yX8_ahead, Cond.instanceMethod yX8_ahead, Cond.selects RX8 yX8_ahead yX8_ahead, Cond.code yX8_ahead cX8_ahead 6 (some .int), Cond.methodLink RX8 182 yX2_isRightAhead, Cond.methodLink RL 87 yX9_ahead, Cond.instanceMethod yX9_ahead, Cond.selects RX9 yX9_ahead yX9_ahead, Cond.code yX9_ahead cX9_ahead 5 (some .int), Cond.methodLink RL 88 yX8_see, Cond.instanceMethod yX8_see, Cond.selects RX8 yX8_see yX8_see, Cond.code yX8_see cX8_see 4 (some .int), Cond.fieldLink RX8 186 "BellTouches$Setup" "seen" "LBellTouches$HandRows;", Cond.fieldLink RX8 190 "BellTouches$HandRows" "size" "I", Cond.methodLink RX8 195 yX1_append, Cond.instanceMethod yX1_append, Cond.selects RX1 yX1_append yX1_append, Cond.code yX1_append cX1_append 4 (some .boolean), Cond.methodLink RL 92 yX9_see, Cond.instanceMethod yX9_see]
def wsL_law_r28 : List Cond := [Cond.selects RX9 yX9_see yX9_see, Cond.code yX9_see cX9_see 5 (some .int), Cond.methodLink RL 93 yX8_fits, Cond.instanceMethod yX8_fits, Cond.selects RX8 yX8_fits yX8_fits, Cond.code yX8_fits cX8_fits 6 (some .int), Cond.methodLink RX8 197 yX4_copyFrom, Cond.instanceMethod yX4_copyFrom, Cond.selects RX4 yX4_copyFrom yX4_copyFrom, Cond.code yX4_copyFrom cX4_copyFrom 2 none, Cond.methodLink RX4 55 arraycopyName, Cond.native arraycopyName, Cond.static arraycopyName, Cond.initialized "java/lang/System", Cond.methodLink RX4 61 yX1_copyFrom, Cond.instanceMethod yX1_copyFrom, Cond.selects RX1 yX1_copyFrom yX1_copyFrom, Cond.code yX1_copyFrom cX1_copyFrom 3 none, Cond.methodLink RX1 23 yX1_append, Cond.methodLink RX8 201 yX8_fitsLast, Cond.instanceMethod yX8_fitsLast, Cond.selects RX8 yX8_fitsLast yX8_fitsLast, Cond.code yX8_fitsLast cX8_fitsLast 6 (some .boolean), Cond.fieldLink RX8 225 "BellTouches$HandRows" "first" "[I"]
def wsL_law_r29 : List Cond := [Cond.fieldLink RX8 228 "BellTouches$HandRows" "second" "[I", Cond.fieldLink RX8 259 "BellTouches$HandRows" "third" "[I", Cond.methodLink RL 96 yX9_fits, Cond.instanceMethod yX9_fits, Cond.selects RX9 yX9_fits yX9_fits, Cond.code yX9_fits cX9_fits 7 (some .int), Cond.methodLink RX9 167 yX9_isSeen, Cond.instanceMethod yX9_isSeen, Cond.selects RX9 yX9_isSeen yX9_isSeen, Cond.code yX9_isSeen cX9_isSeen 3 (some .boolean), Cond.methodLink RL 97 yX8_odds, Cond.instanceMethod yX8_odds, Cond.selects RX8 yX8_odds yX8_odds, Cond.code yX8_odds cX8_odds 7 (some .long), Cond.constantLong RX8 207 (-9223372036854775808), Cond.methodLink RX8 204 yX8_isPart, Cond.static yX8_isPart, Cond.code yX8_isPart cX8_isPart 1 (some .boolean), Cond.methodLink RX8 209 yX8_lowestTerms, Cond.static yX8_lowestTerms, Cond.code yX8_lowestTerms cX8_lowestTerms 5 (some .long), Cond.methodLink RL 101 yX9_odds, Cond.instanceMethod yX9_odds, Cond.selects RX9 yX9_odds yX9_odds]
def wsL_law_r30 : List Cond := [Cond.code yX9_odds cX9_odds 6 (some .long), Cond.constantLong RX9 170 (-9223372036854775808), Cond.methodLink RX9 172 yX9_lowest, Cond.static yX9_lowest, Cond.code yX9_lowest cX9_lowest 6 (some .long), Cond.methodLink RL 102 yX8_mean, Cond.instanceMethod yX8_mean, Cond.selects RX8 yX8_mean yX8_mean, Cond.code yX8_mean cX8_mean 4 (some .long), Cond.methodLink RL 106 yX9_mean, Cond.instanceMethod yX9_mean, Cond.selects RX9 yX9_mean yX9_mean, Cond.code yX9_mean cX9_mean 4 (some .long), Cond.methodLink RL 107 yX8_event, Cond.instanceMethod yX8_event, Cond.selects RX8 yX8_event yX8_event, Cond.code yX8_event cX8_event 3 (some .int), Cond.fieldLink RX8 213 "BellTouches$Setup" "events" "LBellTouches$HandRows;", Cond.methodLink RL 110 yX9_event, Cond.instanceMethod yX9_event, Cond.selects RX9 yX9_event yX9_event, Cond.code yX9_event cX9_event 3 (some .int), Cond.methodLink RL 111 yX8_after, Cond.instanceMethod yX8_after]
def wsL_law_r31 : List Cond := [Cond.selects RX8 yX8_after yX8_after, Cond.code yX8_after cX8_after 2 (some .int), Cond.methodLink RX8 216 yX4_happen, Cond.instanceMethod yX4_happen, Cond.selects RX4 yX4_happen yX4_happen, Cond.code yX4_happen cX4_happen 3 none, Cond.fieldLink RX4 84 "BellTouches$HandRows" "second" "[I", Cond.fieldLink RX4 87 "BellTouches$HandRows" "first" "[I", Cond.methodLink RX4 90 Lib.Math.max.name, Cond.static Lib.Math.max.name, Cond.initialized "java/lang/Math", Cond.code Lib.Math.max.name Lib.Math.max.code 2 (some .int), Cond.methodLink RL 114 yX9_after, Cond.instanceMethod yX9_after, Cond.selects RX9 yX9_after yX9_after, Cond.code yX9_after cX9_after 7 (some .int), Cond.methodLink RX9 176 Lib.Math.max.name, Cond.methodLink RL 115 yX8_book, Cond.instanceMethod yX8_book, Cond.selects RX8 yX8_book yX8_book, Cond.code yX8_book cX8_book 3 (some .int), Cond.fieldLink RX8 222 "BellTouches$Setup" "book" "LBellTouches$HandRows;", Cond.methodLink RL 118 yX9_book, Cond.instanceMethod yX9_book]
def wsL_law_r32 : List Cond := [Cond.selects RX9 yX9_book yX9_book, Cond.code yX9_book cX9_book 3 (some .int), Cond.methodLink RL 119 yX8_looked, Cond.instanceMethod yX8_looked, Cond.selects RX8 yX8_looked yX8_looked, Cond.code yX8_looked cX8_looked 4 (some .int), Cond.methodLink RL 122 yX9_looked, Cond.instanceMethod yX9_looked, Cond.selects RX9 yX9_looked yX9_looked, Cond.code yX9_looked cX9_looked 3 (some .int), Cond.methodLink RL 123 yX8_judge, Cond.instanceMethod yX8_judge, Cond.selects RX8 yX8_judge yX8_judge, Cond.code yX8_judge cX8_judge 6 (some .int), Cond.fieldLink RX8 234 "BellTouches$Tape" "sort" "I", Cond.fieldLink RX8 240 "BellTouches$Tape" "items" "[J", Cond.methodLink RX8 231 yX8_isTape, Cond.static yX8_isTape, Cond.code yX8_isTape cX8_isTape 1 (some .boolean), Cond.methodLink RX8 237 yX6_has, Cond.instanceMethod yX6_has, Cond.selects RX6 yX6_has yX6_has, Cond.code yX6_has cX6_has 3 (some .boolean), Cond.methodLink RL 126 yX9_judge]
def wsL_law_r33 : List Cond := [Cond.instanceMethod yX9_judge, Cond.selects RX9 yX9_judge yX9_judge, Cond.code yX9_judge cX9_judge 5 (some .int), Cond.methodLink RX9 181 yX9_isTape, Cond.static yX9_isTape, Cond.code yX9_isTape cX9_isTape 1 (some .boolean), Cond.methodLink RL 127 yX8_image, Cond.instanceMethod yX8_image, Cond.selects RX8 yX8_image yX8_image, Cond.code yX8_image cX8_image 1 (some .int), Cond.methodLink RL 130 yX9_image, Cond.instanceMethod yX9_image, Cond.selects RX9 yX9_image yX9_image, Cond.code yX9_image cX9_image 2 (some .int), Cond.fieldLink RX9 184 "BellTouchesModel" "imaged" "Z", Cond.methodLink RL 131 yX8_undo, Cond.instanceMethod yX8_undo, Cond.selects RX8 yX8_undo yX8_undo, Cond.code yX8_undo cX8_undo 1 (some .int), Cond.methodLink RL 134 yX9_undo, Cond.instanceMethod yX9_undo, Cond.selects RX9 yX9_undo yX9_undo, Cond.code yX9_undo cX9_undo 2 (some .int), Cond.methodLink RL 135 yX8_count]
def wsL_law_r34 : List Cond := [Cond.instanceMethod yX8_count, Cond.selects RX8 yX8_count yX8_count, Cond.code yX8_count cX8_count 2 (some .int), Cond.methodLink RL 138 yX9_count, Cond.instanceMethod yX9_count, Cond.selects RX9 yX9_count yX9_count, Cond.code yX9_count cX9_count 2 (some .int), Cond.methodLink RL 139 yX8_tape, Cond.instanceMethod yX8_tape, Cond.selects RX8 yX8_tape yX8_tape, Cond.code yX8_tape cX8_tape 4 (some .int), Cond.methodLink RX8 244 yX6_begin, Cond.instanceMethod yX6_begin, Cond.selects RX6 yX6_begin yX6_begin, Cond.code yX6_begin cX6_begin 4 none, Cond.methodLink RL 142 yX9_tape, Cond.instanceMethod yX9_tape, Cond.selects RX9 yX9_tape yX9_tape, Cond.code yX9_tape cX9_tape 5 (some .int), Cond.methodLink RL 145 yX8_item, Cond.instanceMethod yX8_item, Cond.selects RX8 yX8_item yX8_item, Cond.code yX8_item cX8_item 6 (some .int), Cond.methodLink RX8 246 yX6_narrowed]
def wsL_law_r35 : List Cond := [Cond.static yX6_narrowed, Cond.code yX6_narrowed cX6_narrowed 3 (some .long), Cond.methodLink RL 149 yX9_item, Cond.instanceMethod yX9_item, Cond.selects RX9 yX9_item yX9_item, Cond.code yX9_item cX9_item 6 (some .int), Cond.methodLink RL 150 yX8_peek, Cond.instanceMethod yX8_peek, Cond.selects RX8 yX8_peek yX8_peek, Cond.code yX8_peek cX8_peek 3 (some .long), Cond.methodLink RL 154 yX9_peek, Cond.instanceMethod yX9_peek, Cond.selects RX9 yX9_peek yX9_peek, Cond.code yX9_peek cX9_peek 3 (some .long), Cond.methodLink RL 155 yX8_shift, Cond.instanceMethod yX8_shift, Cond.selects RX8 yX8_shift yX8_shift, Cond.code yX8_shift cX8_shift 8 (some .int), Cond.methodLink RX8 250 arraycopyName, Cond.methodLink RL 159 yX9_shift, Cond.instanceMethod yX9_shift, Cond.selects RX9 yX9_shift yX9_shift, Cond.code yX9_shift cX9_shift 7 (some .int)]
def wsL_law : List Cond := (wsL_law_r1 ++ (wsL_law_r2 ++ (wsL_law_r3 ++ (wsL_law_r4 ++ (wsL_law_r5 ++ (wsL_law_r6 ++ (wsL_law_r7 ++ (wsL_law_r8 ++ (wsL_law_r9 ++ (wsL_law_r10 ++ (wsL_law_r11 ++ (wsL_law_r12 ++ (wsL_law_r13 ++ (wsL_law_r14 ++ (wsL_law_r15 ++ (wsL_law_r16 ++ (wsL_law_r17 ++ (wsL_law_r18 ++ (wsL_law_r19 ++ (wsL_law_r20 ++ (wsL_law_r21 ++ (wsL_law_r22 ++ (wsL_law_r23 ++ (wsL_law_r24 ++ (wsL_law_r25 ++ (wsL_law_r26 ++ (wsL_law_r27 ++ (wsL_law_r28 ++ (wsL_law_r29 ++ (wsL_law_r30 ++ (wsL_law_r31 ++ (wsL_law_r32 ++ (wsL_law_r33 ++ (wsL_law_r34 ++ wsL_law_r35)))))))))))))))))))))))))))))))))) ++ wsX80 ++ wsX90 ++ wsX40 ++ wsX70 ++ wsX00 ++ wsX50 ++ wsX60 ++ wsX10 ++ wsX30 ++ ([] : List Cond)
abbrev vwCl : List vw_C := [(RX0, TX0, 7), (RX1, TX1, 4), (RX3, TX3, 1), (RX4, TX4, 11), (RX5, TX5, 8), (RX6, TX6, 3), (RX7, TX7, 8), (RX8, TX8, 10), (RX9, TX9, 20)]
end
section
/-! BASE: worlds by numbered cells, numbers as Int -/
abbrev St : Type := Nat → Int → Int
abbrev Kd : Type := (Nat × List (Option (Option Nat))) ⊕ (FieldType × Nat) ⊕ (String × List (Option Nat))
def iv (a : Int) : Value := .int (Int32.ofInt a)
def jv (a : Int) : Value := .long (Int64.ofInt a)
def fvs (h : Nat → Nat) (f : Int → Int) : Nat → List (Option (Option Nat)) → List Value
  | _, [] => []
  | j, none :: r => iv (f (j : Int)) :: fvs h f (j + 1) r
  | j, some none :: r => .null :: fvs h f (j + 1) r
  | j, some (some k) :: r => .ref (h k) :: fvs h f (j + 1) r
def ear (ty : FieldType) (f : Int → Int) : (Nat → Int32) ⊕ (Nat → Int64) ⊕ (Nat → UInt32) ⊕ (Nat → UInt64) ⊕ (Nat → Option Nat) := match ty with
  | .long => .inr (.inl fun i => Int64.ofInt (f (i : Int)))
  | _ => .inl fun i => Int32.ofInt (f (i : Int))
def ent (cA : FieldType → ClassId) (h : Nat → Nat) (f : Int → Int) : Kd → va_E
  | .inl o => .inr (o.1, fvs h f 0 o.2)
  | .inr (.inl a) => .inl (cA a.1, a.2, ear a.1 f)
  | .inr (.inr a) => .inl (cA (.object a.1), a.2.length, .inr (.inr (.inr (.inr (fun i => (a.2.getD i none).map h)))))
def wo (cA : FieldType → ClassId) (h : Nat → Nat) (σ : St) : Nat → List Kd → va_W
  | _, [] => []
  | k, kd :: r => (h k, ent cA h (σ k) kd) :: wo cA h σ (k + 1) r
def up (σ : St) (k : Nat) (j x : Int) : St := fun k' j' => if k' = k ∧ j' = j then x else σ k' j'
theorem wo_get {cA : FieldType → ClassId} {h : Nat → Nat} {σ : St} : ∀ (K : List Kd) (k0 i : Nat) (kd : Kd), K[i]? = some kd → (wo cA h σ k0 K)[i]? = some (h (k0 + i), ent cA h (σ (k0 + i)) kd)
  | [], _, i, _, e => by simp at e
  | c :: r, k0, 0, kd, e => by simp at e; subst e; rfl
  | c :: r, k0, i + 1, kd, e => by
    have := wo_get (cA := cA) (h := h) (σ := σ) r (k0 + 1) i kd (by simpa using e)
    rw [show k0 + 1 + i = k0 + (i + 1) by omega] at this
    simpa [wo] using this
theorem wo_inv {cA : FieldType → ClassId} {h : Nat → Nat} {σ : St} : ∀ (K : List Kd) (k0 i : Nat) (q : Nat × va_E), (wo cA h σ k0 K)[i]? = some q → ∃ kd, K[i]? = some kd ∧ q = (h (k0 + i), ent cA h (σ (k0 + i)) kd)
  | [], _, i, _, e => by simp [wo] at e
  | c :: r, k0, 0, q, e => by simp [wo] at e; exact ⟨c, rfl, e.symm⟩
  | c :: r, k0, i + 1, q, e => by
    obtain ⟨kd, h1, h2⟩ := wo_inv (cA := cA) (h := h) (σ := σ) r (k0 + 1) i q (by simpa [wo] using e)
    rw [show k0 + 1 + i = k0 + (i + 1) by omega] at h2
    exact ⟨kd, by simpa using h1, h2⟩
theorem wo_cong {cA : FieldType → ClassId} {h : Nat → Nat} {σ σ' : St} : ∀ (K : List Kd) (k0 : Nat), (∀ k, k0 ≤ k → σ' k = σ k) → wo cA h σ' k0 K = wo cA h σ k0 K
  | [], _, _ => rfl
  | c :: r, k0, e => by
    show (h k0, ent cA h (σ' k0) c) :: wo cA h σ' (k0 + 1) r = (h k0, ent cA h (σ k0) c) :: wo cA h σ (k0 + 1) r
    rw [e k0 (Nat.le_refl _), wo_cong r (k0 + 1) (fun k hk => e k (by omega))]
theorem wo_set {cA : FieldType → ClassId} {h : Nat → Nat} {σ σ' : St} : ∀ (K : List Kd) (k0 i : Nat) (kd : Kd), K[i]? = some kd → (∀ k, k ≠ k0 + i → σ' k = σ k) → (wo cA h σ k0 K).set i (h (k0 + i), ent cA h (σ' (k0 + i)) kd) = wo cA h σ' k0 K
  | [], _, i, _, e, _ => by simp at e
  | c :: r, k0, 0, kd, e, e2 => by
    simp at e; subst e
    show (h (k0 + 0), ent cA h (σ' (k0 + 0)) c) :: wo cA h σ (k0 + 1) r = (h k0, ent cA h (σ' k0) c) :: wo cA h σ' (k0 + 1) r
    rw [wo_cong (σ := σ) (σ' := σ') r (k0 + 1) (fun k hk => e2 k (by omega))]; rfl
  | c :: r, k0, i + 1, kd, e, e2 => by
    have := wo_set (cA := cA) (h := h) (σ := σ) (σ' := σ') r (k0 + 1) i kd (by simpa using e) (fun k hk => e2 k (by omega))
    rw [show k0 + 1 + i = k0 + (i + 1) by omega] at this
    show (h k0, ent cA h (σ k0) c) :: (wo cA h σ (k0 + 1) r).set i _ = (h k0, ent cA h (σ' k0) c) :: wo cA h σ' (k0 + 1) r
    rw [this, e2 k0 (by omega)]
theorem fvs_get {h : Nat → Nat} {f : Int → Int} : ∀ (fd : List (Option (Option Nat))) (j0 j : Nat), fd[j]? = some none → (fvs h f j0 fd)[j]? = some (iv (f ((j0 + j : Nat) : Int)))
  | [], _, _, e => by simp at e
  | a :: r, j0, 0, e => by simp at e; subst e; rfl
  | a :: r, j0, j + 1, e => by
    have := fvs_get (h := h) (f := f) r (j0 + 1) j (by simpa using e)
    rw [show j0 + 1 + j = j0 + (j + 1) by omega] at this
    rcases a with _ | _ | k <;> simpa [fvs] using this
theorem fvs_ref {h : Nat → Nat} {f : Int → Int} {k : Nat} : ∀ (fd : List (Option (Option Nat))) (j0 j : Nat), fd[j]? = some (some (some k)) → (fvs h f j0 fd)[j]? = some (.ref (h k))
  | [], _, _, e => by simp at e
  | a :: r, j0, 0, e => by simp at e; subst e; rfl
  | a :: r, j0, j + 1, e => by
    have := fvs_ref (h := h) (f := f) r (j0 + 1) j (by simpa using e)
    rcases a with _ | _ | k <;> simpa [fvs] using this
theorem fvs_len {h : Nat → Nat} {f : Int → Int} : ∀ (fd : List (Option (Option Nat))) (j0 : Nat), (fvs h f j0 fd).length = fd.length
  | [], _ => rfl
  | a :: r, j0 => by
    have := fvs_len (h := h) (f := f) r (j0 + 1)
    rcases a with _ | _ | k <;> simp [fvs, this]
theorem fvs_cong {h : Nat → Nat} {f g : Int → Int} : ∀ (fd : List (Option (Option Nat))) (j0 : Nat), (∀ j : Nat, j0 ≤ j → g (j : Int) = f (j : Int)) → fvs h g j0 fd = fvs h f j0 fd
  | [], _, _ => rfl
  | a :: r, j0, e => by
    have h1 := fvs_cong (h := h) (f := f) (g := g) r (j0 + 1) (fun j hj => e j (by omega))
    have h2 := e j0 (Nat.le_refl _)
    rcases a with _ | _ | k <;> simp [fvs, h1, h2]
theorem fvs_set {h : Nat → Nat} {f g : Int → Int} : ∀ (fd : List (Option (Option Nat))) (j0 j : Nat), fd[j]? = some none → (∀ i : Nat, i ≠ j0 + j → g (i : Int) = f (i : Int)) → (fvs h f j0 fd).set j (iv (g ((j0 + j : Nat) : Int))) = fvs h g j0 fd
  | [], _, _, e, _ => by simp at e
  | a :: r, j0, 0, e, e2 => by
    simp at e; subst e
    show iv (g ((j0 + 0 : Nat) : Int)) :: fvs h f (j0 + 1) r = iv (g ((j0 : Nat) : Int)) :: fvs h g (j0 + 1) r
    rw [fvs_cong (f := f) (g := g) r (j0 + 1) (fun i hi => e2 i (by omega))]; rfl
  | a :: r, j0, j + 1, e, e2 => by
    have h1 := fvs_set (h := h) (f := f) (g := g) r (j0 + 1) j (by simpa using e) (fun i hi => e2 i (by omega))
    rw [show j0 + 1 + j = j0 + (j + 1) by omega] at h1
    have h2 := e2 j0 (by omega)
    rcases a with _ | _ | k <;> simp only [fvs, List.set_cons_succ, h1, h2]
/-- the array classes, as every world here has them -/
def tyL (cA : FieldType → ClassId) : List (ClassId × FieldType) := [(cA .int, .int), (cA .long, .long), (cA .byte, .byte), (cA .boolean, .boolean), (cA (.object "BellTouches$Tape"), .object "BellTouches$Tape")]
/-- what holds in a method's body -/
def cx (p : Program) (s : State) (m : MethodId) (args : Array Value) (meth : Method) (c : Code) (ws : List Cond) (own : String) (cc : ByteArray) (nL : Nat) (ret : Option FieldType) (D : va_G) (cA : FieldType → ClassId) : Prop :=
  p.tables.exec = Jvm.exec ∧ c.code = cc ∧ c.maxLocals = nL ∧ s.vm.findClass own = some m.cls ∧ (∀ w ∈ ws, w.before args s = true) ∧ meth.sig.returnType = ret ∧ meth.locks = false ∧ va_K D vwCl (tyL cA) s
/-- the world: cells K at h hold σ; they are apart, in A; nothing outside A has changed since H0 -/
def wd (D : va_G) (cA : FieldType → ClassId) (K : List Kd) (h : Nat → Nat) (σ : St) (A : Nat → Prop) (H0 H : Heap) (locs : List Loc) : Prop :=
  va_P D vwCl (wo cA h σ 0 K) H ∧ va_D A (wo cA h σ 0 K) ∧ va_S A H0 H locs
def aA (n : Nat) (h : Nat → Nat) (sz : Nat) : Nat → Prop := fun q => (∃ k, k < n ∧ q = h k) ∨ sz ≤ q
/-- locals by their places -/
def lh (ls : Array Slot) (nL : Nat) (vl : List (Option Value)) : Prop := ls.size = nL ∧ lv_wf ls ∧ ∀ (i : Nat) (v : Value), vl[i]? = some (some v) → ls[i]? = some (.val v)
theorem lh_at {ls : Array Slot} {nL : Nat} {vl : List (Option Value)} (h : lh ls nL vl) (i : Nat) {v : Value} (e : vl[i]? = some (some v)) : ls[i]? = some (.val v) := h.2.2 i v e
def lmask : List (Option Value) → List Bool → List (Option Value)
  | [], _ => []
  | _ :: r, [] => none :: lmask r []
  | _ :: r, false :: b => none :: lmask r b
  | v :: r, true :: b => v :: lmask r b
theorem lmask_get : ∀ (vl : List (Option Value)) (bs : List Bool) (i : Nat) (v : Value), (lmask vl bs)[i]? = some (some v) → vl[i]? = some (some v)
  | [], _, i, v, e => by simp [lmask] at e
  | a :: r, [], 0, v, e => by simp [lmask] at e
  | a :: r, [], i + 1, v, e => by simpa using lmask_get r [] i v (by simpa [lmask] using e)
  | a :: r, false :: b, 0, v, e => by simp [lmask] at e
  | a :: r, false :: b, i + 1, v, e => by simpa using lmask_get r b i v (by simpa [lmask] using e)
  | a :: r, true :: b, 0, v, e => by simpa [lmask] using e
  | a :: r, true :: b, i + 1, v, e => by simpa using lmask_get r b i v (by simpa [lmask] using e)
theorem lh_mask {ls : Array Slot} {nL : Nat} {vl : List (Option Value)} (h : lh ls nL vl) (bs : List Bool) : lh ls nL (lmask vl bs) := ⟨h.1, h.2.1, fun i v e => h.2.2 i v (lmask_get vl bs i v e)⟩
def okst (vl : List (Option Value)) : Nat → Bool
  | 0 => true
  | i + 1 => match vl[i]? with | some (some v) => v.category == 1 | _ => true
def lvl : Nat → List (Option Value) → List (Nat × Value)
  | _, [] => []
  | i, none :: r => lvl (i + 1) r
  | i, some v :: r => (i, v) :: lvl (i + 1) r
theorem lvl_mem : ∀ (vl : List (Option Value)) (k i : Nat) (v : Value), vl[i]? = some (some v) → (k + i, v) ∈ lvl k vl
  | [], k, i, v, e => by simp at e
  | none :: r, k, 0, v, e => by simp at e
  | none :: r, k, i + 1, v, e => by
    have := lvl_mem r (k + 1) i v (by simpa using e)
    rw [show k + 1 + i = k + (i + 1) by omega] at this; simpa [lvl] using this
  | some a :: r, k, 0, v, e => by simp at e; subst e; simp [lvl]
  | some a :: r, k, i + 1, v, e => by
    have := lvl_mem r (k + 1) i v (by simpa using e)
    rw [show k + 1 + i = k + (i + 1) by omega] at this
    exact List.mem_cons_of_mem _ this
theorem lvl_inv : ∀ (vl : List (Option Value)) (k : Nat) (q : Nat × Value), q ∈ lvl k vl → ∃ i, q.1 = k + i ∧ vl[i]? = some (some q.2)
  | [], k, q, e => by simp [lvl] at e
  | none :: r, k, q, e => by
    obtain ⟨i, h1, h2⟩ := lvl_inv r (k + 1) q (by simpa [lvl] using e)
    exact ⟨i + 1, by omega, by simpa using h2⟩
  | some a :: r, k, q, e => by
    rcases List.mem_cons.mp (by simpa [lvl] using e) with e | e
    · subst e; exact ⟨0, rfl, rfl⟩
    · obtain ⟨i, h1, h2⟩ := lvl_inv r (k + 1) q e
      exact ⟨i + 1, by omega, by simpa using h2⟩
theorem lh_lv {ls : Array Slot} {nL : Nat} {vl : List (Option Value)} (h : lh ls nL vl) : lv_has ls nL (lvl 0 vl) := ⟨h.1, h.2.1, fun q hq => by
  obtain ⟨i, h1, h2⟩ := lvl_inv vl 0 q hq
  rw [h1, Nat.zero_add]; exact h.2.2 i q.2 h2⟩
theorem lh_of_lv {ls : Array Slot} {nL i : Nat} {vl : List (Option Value)} {v : Value} (hi : i < vl.length) (hok : okst vl i = true) (h : lv_has ls nL ((i, v) :: (lvl 0 vl).filter (fun q => !(q.1 == i) && !(q.1 + 1 == i && q.2.category == 2)))) : lh ls nL (vl.set i (some v)) := by
  refine ⟨h.1, h.2.1, fun j w e => ?_⟩
  by_cases hj : j = i
  · subst hj
    rw [List.getElem?_set_self hi] at e
    simp at e; subst e
    exact h.2.2 (j, v) List.mem_cons_self
  · rw [List.getElem?_set_ne (fun q => hj q.symm)] at e
    have hm := lvl_mem vl 0 j w e
    rw [Nat.zero_add] at hm
    refine h.2.2 (j, w) (List.mem_cons_of_mem _ (List.mem_filter.mpr ⟨hm, ?_⟩))
    by_cases hk : j + 1 = i
    · subst hk
      simp only [okst, e] at hok
      have : w.category = 1 := by simpa using hok
      simp [this]
    · simp [hj, hk]
abbrev rg (a : Int) : Prop := -2147483648 ≤ a ∧ a < 2147483648
abbrev rl (a : Int) : Prop := -9223372036854775808 ≤ a ∧ a < 9223372036854775808
theorem oi_t {a : Int} (h : rg a) : (Int32.ofInt a).toInt = a := Int32.toInt_ofInt_of_le (by omega) (by omega)
theorem oi_lt {a b : Int} (ha : rg a) (hb : rg b) : Int32.ofInt a < Int32.ofInt b ↔ a < b := by rw [Int32.lt_iff_toInt_lt, oi_t ha, oi_t hb]
theorem oi_le {a b : Int} (ha : rg a) (hb : rg b) : Int32.ofInt a ≤ Int32.ofInt b ↔ a ≤ b := by rw [Int32.le_iff_toInt_le, oi_t ha, oi_t hb]
theorem oi_eq {a b : Int} (ha : rg a) (hb : rg b) : Int32.ofInt a = Int32.ofInt b ↔ a = b := ⟨fun e => by rw [← oi_t ha, ← oi_t hb, e], fun e => by rw [e]⟩
theorem oi_0 : (0 : Int32) = Int32.ofInt 0 := rfl
theorem oi_cl {a : Int} (h0 : 0 ≤ a) (h : a < 2147483648) : (Int32.ofInt a).toNatClampNeg = a.toNat := by rw [Int32.toNatClampNeg, oi_t ⟨by omega, h⟩]
theorem oi_in {a : Int} {n : Nat} (h0 : 0 ≤ a) (h1 : a < (n : Int)) (hn : n < 2147483648) : vp_in (Int32.ofInt a) n := by
  refine fun hc => ?_
  rcases hc with hc | hc
  · rw [oi_0, oi_lt ⟨by omega, by omega⟩ ⟨by omega, by omega⟩] at hc; omega
  · rw [oi_cl h0 (by omega)] at hc; omega
def bnd (a b : Int) : Int := (Int32.ofInt a &&& Int32.ofInt b).toInt
def bor (a b : Int) : Int := (Int32.ofInt a ||| Int32.ofInt b).toInt
def bxr (a b : Int) : Int := (Int32.ofInt a ^^^ Int32.ofInt b).toInt
def bsl (a b : Int) : Int := (Int32.ofInt a <<< (Int32.ofInt b &&& 31)).toInt
def bsr (a b : Int) : Int := (Int32.ofInt a >>> (Int32.ofInt b &&& 31)).toInt
def bur (a b : Int) : Int := (((Int32.ofInt a).toUInt32 >>> ((Int32.ofInt b).toUInt32 &&& Int32.toUInt32 31)).toInt32).toInt
def i2b (a : Int) : Int := (Int32.ofInt a).toInt8.toInt
def i2s (a : Int) : Int := (Int32.ofInt a).toInt16.toInt
theorem ivt (x : Int32) : iv x.toInt = .int x := by rw [iv, Int32.ofInt_toInt]
theorem jvt (x : Int64) : jv x.toInt = .long x := by rw [jv, Int64.ofInt_toInt]
end
section
section
variable {p : Program} {l : Launch} {e : Env} {R : Room} {s : State} {m : MethodId} {args : Array Value} {below : List Frame} {meth : Method} {c : Code} {H : Heap} {locs : List Loc} {cells slots : Nat} {Q : State → Prop} {pc : Nat} {ls : Array Slot} {st : List Value}
variable {ws : List Cond} {own : String} {cc : ByteArray} {nL : Nat} {ret : Option FieldType} {D : va_G} {cA : FieldType → ClassId} {K : List Kd} {h : Nat → Nat} {σ : St} {A : Nat → Prop} {H0 : Heap} {vl : List (Option Value)}
theorem r_const (C : cx p s m args meth c ws own cc nL ret D cA) {n : Int} (hd : decode cc pc = .ok (.iconst n, 1)) (k : W p l e R s m args below meth c H locs cells slots Q (F0 m (pc + 1) ls (iv n :: st))) : W p l e R s m args below meth c H locs cells slots Q (F0 m pc ls st) := lv_iconst C.1 C.2.1 hd rfl k
theorem r_bipush (C : cx p s m args meth c ws own cc nL ret D cA) {n : Int} (hd : decode cc pc = .ok (.bipush n, 2)) (hv : (Int8.ofInt n).toInt32 = Int32.ofInt n) (k : W p l e R s m args below meth c H locs cells slots Q (F0 m (pc + 2) ls (iv n :: st))) : W p l e R s m args below meth c H locs cells slots Q (F0 m pc ls st) := lv_bipush C.1 C.2.1 hd hv k
theorem r_sipush (C : cx p s m args meth c ws own cc nL ret D cA) {n : Int} (hd : decode cc pc = .ok (.sipush n, 3)) (hv : (Int16.ofInt n).toInt32 = Int32.ofInt n) (k : W p l e R s m args below meth c H locs cells slots Q (F0 m (pc + 3) ls (iv n :: st))) : W p l e R s m args below meth c H locs cells slots Q (F0 m pc ls st) := lv_sipush C.1 C.2.1 hd hv k
theorem r_ldc (C : cx p s m args meth c ws own cc nL ret D cA) {n : Int} {ix : Nat} (hc : Jvm.Cond.constant own ix (Int32.ofInt n) ∈ ws) (hd : decode cc pc = .ok (.ldc ix, 2)) (k : W p l e R s m args below meth c H locs cells slots Q (F0 m (pc + 2) ls (iv n :: st))) : W p l e R s m args below meth c H locs cells slots Q (F0 m pc ls st) := lv_ldc C.1 C.2.1 C.2.2.2.1 (C.2.2.2.2.1 _ hc) hd k
theorem r_ldc2 (C : cx p s m args meth c ws own cc nL ret D cA) {n : Int} {ix : Nat} (hc : Jvm.Cond.constantLong own ix (Int64.ofInt n) ∈ ws) (hd : decode cc pc = .ok (.ldc2_w ix, 3)) (k : W p l e R s m args below meth c H locs cells slots Q (F0 m (pc + 3) ls (jv n :: st))) : W p l e R s m args below meth c H locs cells slots Q (F0 m pc ls st) := lv_ldc2 C.1 C.2.1 C.2.2.2.1 (C.2.2.2.2.1 _ hc) hd k
theorem r_lconst (C : cx p s m args meth c ws own cc nL ret D cA) {i : Fin 2} (n : Int) (hv : Int64.ofNat i.val = Int64.ofInt n) (hd : decode cc pc = .ok (.lconst i, 1)) (k : W p l e R s m args below meth c H locs cells slots Q (F0 m (pc + 1) ls (jv n :: st))) : W p l e R s m args below meth c H locs cells slots Q (F0 m pc ls st) := lv_lconst C.1 C.2.1 hd hv k
theorem r_iload_n (C : cx p s m args meth c ws own cc nL ret D cA) {i : Fin 4} {a : Int} (hd : decode cc pc = .ok (.iload_n i, 1)) (hl : lh ls nL vl) (he : vl[i.val]? = some (some (iv a))) (k : W p l e R s m args below meth c H locs cells slots Q (F0 m (pc + 1) ls (iv a :: st))) : W p l e R s m args below meth c H locs cells slots Q (F0 m pc ls st) := lv_iload_n C.1 C.2.1 hd rfl (lh_at hl _ he) k
theorem r_iload (C : cx p s m args meth c ws own cc nL ret D cA) {i : Nat} {a : Int} (hd : decode cc pc = .ok (.iload i, 2)) (hl : lh ls nL vl) (he : vl[i]? = some (some (iv a))) (k : W p l e R s m args below meth c H locs cells slots Q (F0 m (pc + 2) ls (iv a :: st))) : W p l e R s m args below meth c H locs cells slots Q (F0 m pc ls st) := lv_iload C.1 C.2.1 hd (lh_at hl _ he) k
theorem r_lload_n (C : cx p s m args meth c ws own cc nL ret D cA) {i : Fin 4} {a : Int} (hd : decode cc pc = .ok (.lload_n i, 1)) (hl : lh ls nL vl) (he : vl[i.val]? = some (some (jv a))) (k : W p l e R s m args below meth c H locs cells slots Q (F0 m (pc + 1) ls (jv a :: st))) : W p l e R s m args below meth c H locs cells slots Q (F0 m pc ls st) := lv_lload_n C.1 C.2.1 hd rfl (lh_at hl _ he) k
theorem r_lload (C : cx p s m args meth c ws own cc nL ret D cA) {i : Nat} {a : Int} (hd : decode cc pc = .ok (.lload i, 2)) (hl : lh ls nL vl) (he : vl[i]? = some (some (jv a))) (k : W p l e R s m args below meth c H locs cells slots Q (F0 m (pc + 2) ls (jv a :: st))) : W p l e R s m args below meth c H locs cells slots Q (F0 m pc ls st) := lv_lload C.1 C.2.1 hd (lh_at hl _ he) k
theorem r_aload_n (C : cx p s m args meth c ws own cc nL ret D cA) {i : Fin 4} {a : Nat} (hd : decode cc pc = .ok (.aload_n i, 1)) (hl : lh ls nL vl) (he : vl[i.val]? = some (some (.ref a))) (k : W p l e R s m args below meth c H locs cells slots Q (F0 m (pc + 1) ls (.ref a :: st))) : W p l e R s m args below meth c H locs cells slots Q (F0 m pc ls st) := lv_aload_n C.1 C.2.1 hd rfl (lh_at hl _ he) k
theorem r_aload (C : cx p s m args meth c ws own cc nL ret D cA) {i : Nat} {a : Nat} (hd : decode cc pc = .ok (.aload i, 2)) (hl : lh ls nL vl) (he : vl[i]? = some (some (.ref a))) (k : W p l e R s m args below meth c H locs cells slots Q (F0 m (pc + 2) ls (.ref a :: st))) : W p l e R s m args below meth c H locs cells slots Q (F0 m pc ls st) := lv_aload C.1 C.2.1 hd (lh_at hl _ he) k
theorem r_istore_n (C : cx p s m args meth c ws own cc nL ret D cA) {i : Fin 4} {a : Int} (hd : decode cc pc = .ok (.istore_n i, 1)) (hl : lh ls nL vl) (hn : i.val < nL) (hi : i.val < vl.length) (ho : okst vl i.val = true) (k : ∀ ls' : Array Slot, lh ls' nL (vl.set i.val (some (iv a))) → W p l e R s m args below meth c H locs cells slots Q (F0 m (pc + 1) ls' st)) : W p l e R s m args below meth c H locs cells slots Q (F0 m pc ls (iv a :: st)) := lv_istore_n C.1 C.2.1 hd rfl (lh_lv hl) hn rfl (fun ls' h' => k ls' (lh_of_lv hi ho h'))
theorem r_istore (C : cx p s m args meth c ws own cc nL ret D cA) {i : Nat} {a : Int} (hd : decode cc pc = .ok (.istore i, 2)) (hl : lh ls nL vl) (hn : i < nL) (hi : i < vl.length) (ho : okst vl i = true) (k : ∀ ls' : Array Slot, lh ls' nL (vl.set i (some (iv a))) → W p l e R s m args below meth c H locs cells slots Q (F0 m (pc + 2) ls' st)) : W p l e R s m args below meth c H locs cells slots Q (F0 m pc ls (iv a :: st)) := lv_istore C.1 C.2.1 hd (lh_lv hl) hn rfl (fun ls' h' => k ls' (lh_of_lv hi ho h'))
theorem r_astore_n (C : cx p s m args meth c ws own cc nL ret D cA) {i : Fin 4} {a : Nat} (hd : decode cc pc = .ok (.astore_n i, 1)) (hl : lh ls nL vl) (hn : i.val < nL) (hi : i.val < vl.length) (ho : okst vl i.val = true) (k : ∀ ls' : Array Slot, lh ls' nL (vl.set i.val (some (.ref a))) → W p l e R s m args below meth c H locs cells slots Q (F0 m (pc + 1) ls' st)) : W p l e R s m args below meth c H locs cells slots Q (F0 m pc ls (.ref a :: st)) := lv_astore_n C.1 C.2.1 hd rfl (lh_lv hl) hn rfl (fun ls' h' => k ls' (lh_of_lv hi ho h'))
theorem r_astore (C : cx p s m args meth c ws own cc nL ret D cA) {i : Nat} {a : Nat} (hd : decode cc pc = .ok (.astore i, 2)) (hl : lh ls nL vl) (hn : i < nL) (hi : i < vl.length) (ho : okst vl i = true) (k : ∀ ls' : Array Slot, lh ls' nL (vl.set i (some (.ref a))) → W p l e R s m args below meth c H locs cells slots Q (F0 m (pc + 2) ls' st)) : W p l e R s m args below meth c H locs cells slots Q (F0 m pc ls (.ref a :: st)) := lv_astore C.1 C.2.1 hd (lh_lv hl) hn rfl (fun ls' h' => k ls' (lh_of_lv hi ho h'))
theorem r_iinc (C : cx p s m args meth c ws own cc nL ret D cA) {i : Nat} {n a : Int} (hd : decode cc pc = .ok (.iinc i n, 3)) (hl : lh ls nL vl) (he : vl[i]? = some (some (iv a))) (hn : i < nL) (ho : okst vl i = true) (k : ∀ ls' : Array Slot, lh ls' nL (vl.set i (some (iv (a + n)))) → W p l e R s m args below meth c H locs cells slots Q (F0 m (pc + 3) ls' st)) : W p l e R s m args below meth c H locs cells slots Q (F0 m pc ls st) := by
  have hm := lvl_mem vl 0 i _ he
  rw [Nat.zero_add] at hm
  obtain ⟨q, hq⟩ := List.getElem?_of_mem hm
  refine lv_iinc (v := Int32.ofInt (a + n)) C.1 C.2.1 hd (lh_lv hl) hq (Int32.ofInt_add a n).symm hn rfl (fun ls' h' => k ls' (lh_of_lv ?_ ho h'))
  exact (List.getElem?_eq_some_iff.mp he).1
theorem r_iadd (C : cx p s m args meth c ws own cc nL ret D cA) {a b : Int} (hd : decode cc pc = .ok (.iadd, 1)) (k : W p l e R s m args below meth c H locs cells slots Q (F0 m (pc + 1) ls (iv (a + b) :: st))) : W p l e R s m args below meth c H locs cells slots Q (F0 m pc ls (iv b :: iv a :: st)) := lv_iadd C.1 C.2.1 hd (by rw [← Int32.ofInt_add]; exact k)
theorem r_isub (C : cx p s m args meth c ws own cc nL ret D cA) {a b : Int} (hd : decode cc pc = .ok (.isub, 1)) (k : W p l e R s m args below meth c H locs cells slots Q (F0 m (pc + 1) ls (iv (a - b) :: st))) : W p l e R s m args below meth c H locs cells slots Q (F0 m pc ls (iv b :: iv a :: st)) := lv_isub C.1 C.2.1 hd (by rw [← Int32.ofInt_sub]; exact k)
theorem r_imul (C : cx p s m args meth c ws own cc nL ret D cA) {a b : Int} (hd : decode cc pc = .ok (.imul, 1)) (k : W p l e R s m args below meth c H locs cells slots Q (F0 m (pc + 1) ls (iv (a * b) :: st))) : W p l e R s m args below meth c H locs cells slots Q (F0 m pc ls (iv b :: iv a :: st)) := lv_imul C.1 C.2.1 hd (by rw [← Int32.ofInt_mul]; exact k)
theorem r_iand (C : cx p s m args meth c ws own cc nL ret D cA) {a b : Int} (hd : decode cc pc = .ok (.iand, 1)) (k : W p l e R s m args below meth c H locs cells slots Q (F0 m (pc + 1) ls (iv (bnd a b) :: st))) : W p l e R s m args below meth c H locs cells slots Q (F0 m pc ls (iv b :: iv a :: st)) := lv_iand C.1 C.2.1 hd (by rw [bnd, ivt] at k; exact k)
theorem r_ior (C : cx p s m args meth c ws own cc nL ret D cA) {a b : Int} (hd : decode cc pc = .ok (.ior, 1)) (k : W p l e R s m args below meth c H locs cells slots Q (F0 m (pc + 1) ls (iv (bor a b) :: st))) : W p l e R s m args below meth c H locs cells slots Q (F0 m pc ls (iv b :: iv a :: st)) := lv_ior C.1 C.2.1 hd (by rw [bor, ivt] at k; exact k)
theorem r_ixor (C : cx p s m args meth c ws own cc nL ret D cA) {a b : Int} (hd : decode cc pc = .ok (.ixor, 1)) (k : W p l e R s m args below meth c H locs cells slots Q (F0 m (pc + 1) ls (iv (bxr a b) :: st))) : W p l e R s m args below meth c H locs cells slots Q (F0 m pc ls (iv b :: iv a :: st)) := lv_ixor C.1 C.2.1 hd (by rw [bxr, ivt] at k; exact k)
theorem r_ishl (C : cx p s m args meth c ws own cc nL ret D cA) {a b : Int} (hd : decode cc pc = .ok (.ishl, 1)) (k : W p l e R s m args below meth c H locs cells slots Q (F0 m (pc + 1) ls (iv (bsl a b) :: st))) : W p l e R s m args below meth c H locs cells slots Q (F0 m pc ls (iv b :: iv a :: st)) := lv_ishl C.1 C.2.1 hd (by rw [bsl, ivt] at k; exact k)
theorem r_ishr (C : cx p s m args meth c ws own cc nL ret D cA) {a b : Int} (hd : decode cc pc = .ok (.ishr, 1)) (k : W p l e R s m args below meth c H locs cells slots Q (F0 m (pc + 1) ls (iv (bsr a b) :: st))) : W p l e R s m args below meth c H locs cells slots Q (F0 m pc ls (iv b :: iv a :: st)) := lv_ishr C.1 C.2.1 hd (by rw [bsr, ivt] at k; exact k)
theorem r_iushr (C : cx p s m args meth c ws own cc nL ret D cA) {a b : Int} (hd : decode cc pc = .ok (.iushr, 1)) (k : W p l e R s m args below meth c H locs cells slots Q (F0 m (pc + 1) ls (iv (bur a b) :: st))) : W p l e R s m args below meth c H locs cells slots Q (F0 m pc ls (iv b :: iv a :: st)) := lv_iushr C.1 C.2.1 hd rfl (by rw [bur, ivt] at k; exact k)
theorem oi_div {a b : Int} (ha : rg a) (hb : rg b) : Int32.ofInt a / Int32.ofInt b = Int32.ofInt (a.tdiv b) := by
  refine (Int32.ofInt_eq_iff_bmod_eq_toInt _ _).mpr ?_ |>.symm
  rw [Int32.toInt_div, oi_t ha, oi_t hb]
theorem oi_rem {a b : Int} (ha : rg a) (hb : rg b) : Int32.ofInt a - Int32.ofInt a / Int32.ofInt b * Int32.ofInt b = Int32.ofInt (a.tmod b) := by
  rw [oi_div ha hb, ← Int32.ofInt_mul, ← Int32.ofInt_sub, Int.tmod_def, Int.mul_comm b]
theorem oi_n0 {b : Int} (hb : rg b) (h0 : b ≠ 0) : ¬ Int32.ofInt b = 0 := fun e => h0 ((oi_eq hb (by omega)).mp e)
theorem r_idiv (C : cx p s m args meth c ws own cc nL ret D cA) {a b : Int} (hd : decode cc pc = .ok (.idiv, 1)) (ha : rg a) (hb : rg b) (h0 : b ≠ 0) (k : W p l e R s m args below meth c H locs cells slots Q (F0 m (pc + 1) ls (iv (a.tdiv b) :: st))) : W p l e R s m args below meth c H locs cells slots Q (F0 m pc ls (iv b :: iv a :: st)) := lv_idiv C.1 C.2.1 hd (oi_n0 hb h0) (by rw [oi_div ha hb]; exact k)
theorem r_irem (C : cx p s m args meth c ws own cc nL ret D cA) {a b : Int} (hd : decode cc pc = .ok (.irem, 1)) (ha : rg a) (hb : rg b) (h0 : b ≠ 0) (k : W p l e R s m args below meth c H locs cells slots Q (F0 m (pc + 1) ls (iv (a.tmod b) :: st))) : W p l e R s m args below meth c H locs cells slots Q (F0 m pc ls (iv b :: iv a :: st)) := lv_irem C.1 C.2.1 hd (oi_n0 hb h0) (by rw [oi_rem ha hb]; exact k)
theorem r_i2b (C : cx p s m args meth c ws own cc nL ret D cA) {a : Int} (hd : decode cc pc = .ok (.i2b, 1)) (k : W p l e R s m args below meth c H locs cells slots Q (F0 m (pc + 1) ls (iv (i2b a) :: st))) : W p l e R s m args below meth c H locs cells slots Q (F0 m pc ls (iv a :: st)) := lv_i2b C.1 C.2.1 hd rfl k
theorem r_i2s (C : cx p s m args meth c ws own cc nL ret D cA) {a : Int} (hd : decode cc pc = .ok (.i2s, 1)) (k : W p l e R s m args below meth c H locs cells slots Q (F0 m (pc + 1) ls (iv (i2s a) :: st))) : W p l e R s m args below meth c H locs cells slots Q (F0 m pc ls (iv a :: st)) := lv_i2s C.1 C.2.1 hd rfl k
theorem r_i2l (C : cx p s m args meth c ws own cc nL ret D cA) {a : Int} (hd : decode cc pc = .ok (.i2l, 1)) (ha : rg a) (k : W p l e R s m args below meth c H locs cells slots Q (F0 m (pc + 1) ls (jv a :: st))) : W p l e R s m args below meth c H locs cells slots Q (F0 m pc ls (iv a :: st)) := lv_i2l C.1 C.2.1 hd (show (Int32.ofInt a).toInt64 = Int64.ofInt a by rw [← Int64.ofInt_int32ToInt, oi_t ha]) k
theorem r_l2i (C : cx p s m args meth c ws own cc nL ret D cA) {a : Int} (hd : decode cc pc = .ok (.l2i, 1)) (k : W p l e R s m args below meth c H locs cells slots Q (F0 m (pc + 1) ls (iv a :: st))) : W p l e R s m args below meth c H locs cells slots Q (F0 m pc ls (jv a :: st)) := lv_l2i C.1 C.2.1 hd (show (Int64.ofInt a).toInt32 = Int32.ofInt a from Int64.toInt32_ofInt) k
theorem r_ladd (C : cx p s m args meth c ws own cc nL ret D cA) {a b : Int} (hd : decode cc pc = .ok (.ladd, 1)) (k : W p l e R s m args below meth c H locs cells slots Q (F0 m (pc + 1) ls (jv (a + b) :: st))) : W p l e R s m args below meth c H locs cells slots Q (F0 m pc ls (jv b :: jv a :: st)) := lv_ladd C.1 C.2.1 hd (by rw [← Int64.ofInt_add]; exact k)
def lcp (a b : Int) : Int := if b < a then 1 else if a = b then 0 else -1
theorem r_lcmp (C : cx p s m args meth c ws own cc nL ret D cA) {a b : Int} (hd : decode cc pc = .ok (.lcmp, 1)) (ha : rl a) (hb : rl b) (k : W p l e R s m args below meth c H locs cells slots Q (F0 m (pc + 1) ls (iv (lcp a b) :: st))) : W p l e R s m args below meth c H locs cells slots Q (F0 m pc ls (jv b :: jv a :: st)) := W.lcmp C.1 C.2.1 hd (by
  have e1 : (Int64.ofInt a).toInt = a := Int64.toInt_ofInt_of_le (by omega) (by omega)
  have e2 : (Int64.ofInt b).toInt = b := Int64.toInt_ofInt_of_le (by omega) (by omega)
  have e : lg_cmp (Int64.ofInt a) (Int64.ofInt b) = Int32.ofInt (lcp a b) := by
    unfold lg_cmp lcp
    simp only [gt_iff_lt, Int64.lt_iff_toInt_lt, ← Int64.toInt_inj, e1, e2]
    split
    · rfl
    · split <;> rfl
  rw [e]; exact k)
theorem r_pop (C : cx p s m args meth c ws own cc nL ret D cA) {v : Value} (hd : decode cc pc = .ok (.pop, 1)) (hv : v.category = 1) (k : W p l e R s m args below meth c H locs cells slots Q (F0 m (pc + 1) ls st)) : W p l e R s m args below meth c H locs cells slots Q (F0 m pc ls (v :: st)) := lv_pop C.1 C.2.1 hd hv k
theorem r_dup (C : cx p s m args meth c ws own cc nL ret D cA) {v : Value} (hd : decode cc pc = .ok (.dup, 1)) (hv : v.category = 1) (k : W p l e R s m args below meth c H locs cells slots Q (F0 m (pc + 1) ls (v :: v :: st))) : W p l e R s m args below meth c H locs cells slots Q (F0 m pc ls (v :: st)) := lv_dup C.1 C.2.1 hd hv k
theorem r_dup_x1 (C : cx p s m args meth c ws own cc nL ret D cA) {v w : Value} (hd : decode cc pc = .ok (.dup_x1, 1)) (hv : v.category = 1) (hw : w.category = 1) (k : W p l e R s m args below meth c H locs cells slots Q (F0 m (pc + 1) ls (v :: w :: v :: st))) : W p l e R s m args below meth c H locs cells slots Q (F0 m pc ls (v :: w :: st)) := lv_dup_x1 C.1 C.2.1 hd hv hw k
theorem r_dup_x2 (C : cx p s m args meth c ws own cc nL ret D cA) {v w u : Value} (hd : decode cc pc = .ok (.dup_x2, 1)) (hv : v.category = 1) (hw : w.category = 1) (hu : u.category = 1) (k : W p l e R s m args below meth c H locs cells slots Q (F0 m (pc + 1) ls (v :: w :: u :: v :: st))) : W p l e R s m args below meth c H locs cells slots Q (F0 m pc ls (v :: w :: u :: st)) := lv_dup_x2 C.1 C.2.1 hd hv hw hu k
theorem r_dup2 (C : cx p s m args meth c ws own cc nL ret D cA) {v w : Value} (hd : decode cc pc = .ok (.dup2, 1)) (hv : v.category = 1) (hw : w.category = 1) (k : W p l e R s m args below meth c H locs cells slots Q (F0 m (pc + 1) ls (v :: w :: v :: w :: st))) : W p l e R s m args below meth c H locs cells slots Q (F0 m pc ls (v :: w :: st)) := lv_dup2_11 C.1 C.2.1 hd hv hw k
theorem r_goto (C : cx p s m args meth c ws own cc nL ret D cA) {off : Int} {tgt : Nat} (hd : decode cc pc = .ok (.goto off, 3)) (ht : (pc : Int) + off = (tgt : Int)) (k : W p l e R s m args below meth c H locs cells slots Q (F0 m tgt ls st)) : W p l e R s m args below meth c H locs cells slots Q (F0 m pc ls st) := lv_goto C.1 C.2.1 hd ht k
theorem rg0 : rg 0 := by omega
theorem r_icmp_lt (C : cx p s m args meth c ws own cc nL ret D cA) {a b off : Int} {tgt : Nat} (hd : decode cc pc = .ok (.if_icmp .lt off, 3)) (ht : (pc : Int) + off = (tgt : Int)) (ra : rg a) (rb : rg b) (kt : a < b → W p l e R s m args below meth c H locs cells slots Q (F0 m tgt ls st)) (kf : ¬ a < b → W p l e R s m args below meth c H locs cells slots Q (F0 m (pc + 3) ls st)) : W p l e R s m args below meth c H locs cells slots Q (F0 m pc ls (iv b :: iv a :: st)) := lv_icmp_lt C.1 C.2.1 hd ht (fun h => kt ((oi_lt ra rb).mp h)) (fun h => kf (fun q => h ((oi_lt ra rb).mpr q)))
theorem r_if_lt (C : cx p s m args meth c ws own cc nL ret D cA) {a off : Int} {tgt : Nat} (hd : decode cc pc = .ok (.ifCond .lt off, 3)) (ht : (pc : Int) + off = (tgt : Int)) (ra : rg a) (kt : a < 0 → W p l e R s m args below meth c H locs cells slots Q (F0 m tgt ls st)) (kf : ¬ a < 0 → W p l e R s m args below meth c H locs cells slots Q (F0 m (pc + 3) ls st)) : W p l e R s m args below meth c H locs cells slots Q (F0 m pc ls (iv a :: st)) := lv_if_lt C.1 C.2.1 hd ht (fun h => kt ((oi_lt ra rg0).mp h)) (fun h => kf (fun q => h ((oi_lt ra rg0).mpr q)))
theorem r_icmp_ge (C : cx p s m args meth c ws own cc nL ret D cA) {a b off : Int} {tgt : Nat} (hd : decode cc pc = .ok (.if_icmp .ge off, 3)) (ht : (pc : Int) + off = (tgt : Int)) (ra : rg a) (rb : rg b) (kt : b ≤ a → W p l e R s m args below meth c H locs cells slots Q (F0 m tgt ls st)) (kf : ¬ b ≤ a → W p l e R s m args below meth c H locs cells slots Q (F0 m (pc + 3) ls st)) : W p l e R s m args below meth c H locs cells slots Q (F0 m pc ls (iv b :: iv a :: st)) := lv_icmp_ge C.1 C.2.1 hd ht (fun h => kt ((oi_le rb ra).mp h)) (fun h => kf (fun q => h ((oi_le rb ra).mpr q)))
theorem r_if_ge (C : cx p s m args meth c ws own cc nL ret D cA) {a off : Int} {tgt : Nat} (hd : decode cc pc = .ok (.ifCond .ge off, 3)) (ht : (pc : Int) + off = (tgt : Int)) (ra : rg a) (kt : 0 ≤ a → W p l e R s m args below meth c H locs cells slots Q (F0 m tgt ls st)) (kf : ¬ 0 ≤ a → W p l e R s m args below meth c H locs cells slots Q (F0 m (pc + 3) ls st)) : W p l e R s m args below meth c H locs cells slots Q (F0 m pc ls (iv a :: st)) := lv_if_ge C.1 C.2.1 hd ht (fun h => kt ((oi_le rg0 ra).mp h)) (fun h => kf (fun q => h ((oi_le rg0 ra).mpr q)))
theorem r_icmp_gt (C : cx p s m args meth c ws own cc nL ret D cA) {a b off : Int} {tgt : Nat} (hd : decode cc pc = .ok (.if_icmp .gt off, 3)) (ht : (pc : Int) + off = (tgt : Int)) (ra : rg a) (rb : rg b) (kt : b < a → W p l e R s m args below meth c H locs cells slots Q (F0 m tgt ls st)) (kf : ¬ b < a → W p l e R s m args below meth c H locs cells slots Q (F0 m (pc + 3) ls st)) : W p l e R s m args below meth c H locs cells slots Q (F0 m pc ls (iv b :: iv a :: st)) := lv_icmp_gt C.1 C.2.1 hd ht (fun h => kt ((oi_lt rb ra).mp h)) (fun h => kf (fun q => h ((oi_lt rb ra).mpr q)))
theorem r_if_gt (C : cx p s m args meth c ws own cc nL ret D cA) {a off : Int} {tgt : Nat} (hd : decode cc pc = .ok (.ifCond .gt off, 3)) (ht : (pc : Int) + off = (tgt : Int)) (ra : rg a) (kt : 0 < a → W p l e R s m args below meth c H locs cells slots Q (F0 m tgt ls st)) (kf : ¬ 0 < a → W p l e R s m args below meth c H locs cells slots Q (F0 m (pc + 3) ls st)) : W p l e R s m args below meth c H locs cells slots Q (F0 m pc ls (iv a :: st)) := lv_if_gt C.1 C.2.1 hd ht (fun h => kt ((oi_lt rg0 ra).mp h)) (fun h => kf (fun q => h ((oi_lt rg0 ra).mpr q)))
theorem r_icmp_le (C : cx p s m args meth c ws own cc nL ret D cA) {a b off : Int} {tgt : Nat} (hd : decode cc pc = .ok (.if_icmp .le off, 3)) (ht : (pc : Int) + off = (tgt : Int)) (ra : rg a) (rb : rg b) (kt : a ≤ b → W p l e R s m args below meth c H locs cells slots Q (F0 m tgt ls st)) (kf : ¬ a ≤ b → W p l e R s m args below meth c H locs cells slots Q (F0 m (pc + 3) ls st)) : W p l e R s m args below meth c H locs cells slots Q (F0 m pc ls (iv b :: iv a :: st)) := lv_icmp_le C.1 C.2.1 hd ht (fun h => kt ((oi_le ra rb).mp h)) (fun h => kf (fun q => h ((oi_le ra rb).mpr q)))
theorem r_if_le (C : cx p s m args meth c ws own cc nL ret D cA) {a off : Int} {tgt : Nat} (hd : decode cc pc = .ok (.ifCond .le off, 3)) (ht : (pc : Int) + off = (tgt : Int)) (ra : rg a) (kt : a ≤ 0 → W p l e R s m args below meth c H locs cells slots Q (F0 m tgt ls st)) (kf : ¬ a ≤ 0 → W p l e R s m args below meth c H locs cells slots Q (F0 m (pc + 3) ls st)) : W p l e R s m args below meth c H locs cells slots Q (F0 m pc ls (iv a :: st)) := lv_if_le C.1 C.2.1 hd ht (fun h => kt ((oi_le ra rg0).mp h)) (fun h => kf (fun q => h ((oi_le ra rg0).mpr q)))
theorem r_icmp_eq (C : cx p s m args meth c ws own cc nL ret D cA) {a b off : Int} {tgt : Nat} (hd : decode cc pc = .ok (.if_icmp .eq off, 3)) (ht : (pc : Int) + off = (tgt : Int)) (ra : rg a) (rb : rg b) (kt : a = b → W p l e R s m args below meth c H locs cells slots Q (F0 m tgt ls st)) (kf : ¬ a = b → W p l e R s m args below meth c H locs cells slots Q (F0 m (pc + 3) ls st)) : W p l e R s m args below meth c H locs cells slots Q (F0 m pc ls (iv b :: iv a :: st)) := lv_icmp_eq C.1 C.2.1 hd ht (fun h => kt ((oi_eq ra rb).mp h)) (fun h => kf (fun q => h ((oi_eq ra rb).mpr q)))
theorem r_if_eq (C : cx p s m args meth c ws own cc nL ret D cA) {a off : Int} {tgt : Nat} (hd : decode cc pc = .ok (.ifCond .eq off, 3)) (ht : (pc : Int) + off = (tgt : Int)) (ra : rg a) (kt : a = 0 → W p l e R s m args below meth c H locs cells slots Q (F0 m tgt ls st)) (kf : ¬ a = 0 → W p l e R s m args below meth c H locs cells slots Q (F0 m (pc + 3) ls st)) : W p l e R s m args below meth c H locs cells slots Q (F0 m pc ls (iv a :: st)) := lv_if_eq C.1 C.2.1 hd ht (fun h => kt ((oi_eq ra rg0).mp h)) (fun h => kf (fun q => h ((oi_eq ra rg0).mpr q)))
theorem r_icmp_ne (C : cx p s m args meth c ws own cc nL ret D cA) {a b off : Int} {tgt : Nat} (hd : decode cc pc = .ok (.if_icmp .ne off, 3)) (ht : (pc : Int) + off = (tgt : Int)) (ra : rg a) (rb : rg b) (kt : ¬ a = b → W p l e R s m args below meth c H locs cells slots Q (F0 m tgt ls st)) (kf : a = b → W p l e R s m args below meth c H locs cells slots Q (F0 m (pc + 3) ls st)) : W p l e R s m args below meth c H locs cells slots Q (F0 m pc ls (iv b :: iv a :: st)) := lv_icmp_ne C.1 C.2.1 hd ht (fun h => kt (fun q => h ((oi_eq ra rb).mpr q))) (fun h => kf ((oi_eq ra rb).mp h))
theorem r_if_ne (C : cx p s m args meth c ws own cc nL ret D cA) {a off : Int} {tgt : Nat} (hd : decode cc pc = .ok (.ifCond .ne off, 3)) (ht : (pc : Int) + off = (tgt : Int)) (ra : rg a) (kt : ¬ a = 0 → W p l e R s m args below meth c H locs cells slots Q (F0 m tgt ls st)) (kf : a = 0 → W p l e R s m args below meth c H locs cells slots Q (F0 m (pc + 3) ls st)) : W p l e R s m args below meth c H locs cells slots Q (F0 m pc ls (iv a :: st)) := lv_if_ne C.1 C.2.1 hd ht (fun h => kt (fun q => h ((oi_eq ra rg0).mpr q))) (fun h => kf ((oi_eq ra rg0).mp h))
theorem r_tin (C : cx p s m args meth c ws own cc nL ret D cA) {dflt lo hi : Int} {offs : Array Int} {len : Nat} {a off : Int} {tgt : Nat} (hd : decode cc pc = .ok (.tableswitch dflt lo hi offs, len)) (ra : rg a) (n : Int) (hn : a = n) (h1 : lo ≤ n) (h2 : n ≤ hi) (ho : offs[(n - lo).toNat]? = some off) (ht : (pc : Int) + off = (tgt : Int)) (k : W p l e R s m args below meth c H locs cells slots Q (F0 m tgt ls st)) : W p l e R s m args below meth c H locs cells slots Q (F0 m pc ls (iv a :: st)) := by
  subst hn
  exact lv_tableIn C.1 C.2.1 hd (by rw [oi_t ra]; omega) (by rw [oi_t ra]; omega) (by rw [oi_t ra]; exact ho) ht k
theorem r_tout (C : cx p s m args meth c ws own cc nL ret D cA) {dflt lo hi : Int} {offs : Array Int} {len : Nat} {a : Int} {tgt : Nat} (hd : decode cc pc = .ok (.tableswitch dflt lo hi offs, len)) (ra : rg a) (hn : ¬ (lo ≤ a ∧ a ≤ hi)) (ht : (pc : Int) + dflt = (tgt : Int)) (k : W p l e R s m args below meth c H locs cells slots Q (F0 m tgt ls st)) : W p l e R s m args below meth c H locs cells slots Q (F0 m pc ls (iv a :: st)) :=
  lv_tableOut C.1 C.2.1 hd (by rw [oi_t ra]; omega) ht k
theorem r_look (C : cx p s m args meth c ws own cc nL ret D cA) {dflt : Int} {ps : Array (Int × Int)} {len : Nat} {a off : Int} {tgt : Nat} (hd : decode cc pc = .ok (.lookupswitch dflt ps, len)) (ra : rg a) (hp : (ps.toList.zip (ps.toList.drop 1)).all (fun (a, next) => a.1 < next.1) = true) (ho : Op.lookupswitch.offset ps.toList dflt a = off) (ht : (pc : Int) + off = (tgt : Int)) (k : W p l e R s m args below meth c H locs cells slots Q (F0 m tgt ls st)) : W p l e R s m args below meth c H locs cells slots Q (F0 m pc ls (iv a :: st)) :=
  lv_lookup C.1 C.2.1 hd hp (by rw [oi_t ra]; exact ho) ht k
end
end
section
/-- class ci of the world's classes: its name, fields, how many, their types -/
def clo (ci : Nat) (Cn : String) (T : u_T) (N : Nat) (ty : Nat → FieldType) : Prop := vwCl[ci]? = some (Cn, T, N) ∧ (∀ k, k < N → parseFieldDescriptor (T k).2.2.1 = some (ty k)) ∧ ∀ a, a < N → ∀ b, b < N → a ≠ b → (T a).2.1 ≠ (T b).2.1
theorem up_ne {σ : St} {k : Nat} {j x : Int} (k' : Nat) (h : k' ≠ k) : up σ k j x k' = σ k' := by
  funext j'; simp [up, h]
theorem up_same {σ : St} {k : Nat} {j x : Int} : up σ k j x k j = x := by simp [up]
theorem nar_i (x : Int) : narrow .int (iv x) = iv x := rfl
theorem fit_i (x : Int) : fits .int (iv x) = true := rfl
theorem oi_z {x : Int} (h : x = 0 ∨ x = 1) : narrow .boolean (iv x) = iv x ∧ fits .boolean (iv x) = true := by
  rcases h with h | h <;> subst h <;> exact ⟨rfl, rfl⟩
theorem wo_D {cA : FieldType → ClassId} {h : Nat → Nat} {σ σ' : St} {A : Nat → Prop} {K : List Kd} (hD : va_D A (wo cA h σ 0 K)) : va_D A (wo cA h σ' 0 K) := by
  refine ⟨fun i j p q hp hq e => ?_, fun k q hq => ?_⟩
  · obtain ⟨k1, a1, b1⟩ := wo_inv K 0 i p hp
    obtain ⟨k2, a2, b2⟩ := wo_inv K 0 j q hq
    refine hD.1 i j _ _ (wo_get K 0 i k1 a1) (wo_get K 0 j k2 a2) ?_
    subst b1; subst b2; exact e
  · obtain ⟨k1, a1, b1⟩ := wo_inv K 0 k q hq
    have := hD.2 k _ (wo_get K 0 k k1 a1)
    subst b1; exact this
section
variable {p : Program} {l : Launch} {e : Env} {R : Room} {s : State} {m : MethodId} {args : Array Value} {below : List Frame} {meth : Method} {c : Code} {H : Heap} {locs : List Loc} {cells slots : Nat} {Q : State → Prop} {pc : Nat} {ls : Array Slot} {st : List Value}
variable {ws : List Cond} {own : String} {cc : ByteArray} {nL : Nat} {ret : Option FieldType} {D : va_G} {cA : FieldType → ClassId} {K : List Kd} {h : Nat → Nat} {σ : St} {A : Nat → Prop} {H0 : Heap} {vl : List (Option Value)}
theorem r_get (C : cx p s m args meth c ws own cc nL ret D cA) (hw : wd D cA K h σ A H0 H locs) {ci : Nat} {Cn : String} {T : u_T} {N : Nat} {ty : Nat → FieldType} (hc : clo ci Cn T N ty) (k : Nat) {fds : List (Option (Option Nat))} (hk : K[k]? = some (.inl (ci, fds))) (j : Nat) (ji : Int) (hj : (j : Int) = ji) (hf : fds[j]? = some none) (hN : j < N) {ix : Nat} (hin : ∀ w ∈ u_ws Cn T N, w ∈ ws) (hlink : Cond.fieldLink own ix (T j).1 (T j).2.1 (T j).2.2.1 ∈ ws) (hd : decode cc pc = .ok (.getfield ix, 3))
    (kk : W p l e R s m args below meth c H locs cells slots Q (F0 m (pc + 3) ls (iv (σ k ji) :: st))) : W p l e R s m args below meth c H locs cells slots Q (F0 m pc ls (.ref (h k) :: st)) := by
  have he := wo_get (cA := cA) (h := h) (σ := σ) K 0 k _ hk
  rw [Nat.zero_add] at he
  have hv := fvs_get (h := h) (f := σ k) fds 0 j hf
  rw [Nat.zero_add, hj] at hv
  exact va_get (D := D) C.1 C.2.1 C.2.2.2.2.1 hin C.2.2.2.1 C.2.2.2.2.2.2.2 hw.1 k he hc.1 j hN (C.2.2.2.2.1 _ hlink) (fun _ h9 => h9) hv hd kk
theorem r_getr (C : cx p s m args meth c ws own cc nL ret D cA) (hw : wd D cA K h σ A H0 H locs) {ci : Nat} {Cn : String} {T : u_T} {N : Nat} {ty : Nat → FieldType} (hc : clo ci Cn T N ty) (k : Nat) {fds : List (Option (Option Nat))} (hk : K[k]? = some (.inl (ci, fds))) (j r : Nat) (hf : fds[j]? = some (some (some r))) (hN : j < N) {ix : Nat} (hin : ∀ w ∈ u_ws Cn T N, w ∈ ws) (hlink : Cond.fieldLink own ix (T j).1 (T j).2.1 (T j).2.2.1 ∈ ws) (hd : decode cc pc = .ok (.getfield ix, 3))
    (kk : W p l e R s m args below meth c H locs cells slots Q (F0 m (pc + 3) ls (.ref (h r) :: st))) : W p l e R s m args below meth c H locs cells slots Q (F0 m pc ls (.ref (h k) :: st)) := by
  have he := wo_get (cA := cA) (h := h) (σ := σ) K 0 k _ hk
  rw [Nat.zero_add] at he
  have hv := fvs_ref (h := h) (f := σ k) fds 0 j hf
  exact va_get (D := D) C.1 C.2.1 C.2.2.2.2.1 hin C.2.2.2.1 C.2.2.2.2.2.2.2 hw.1 k he hc.1 j hN (C.2.2.2.2.1 _ hlink) (fun _ h9 => h9) hv hd kk
theorem wd_obj (hw : wd D cA K h σ A H0 H locs) {k : Nat} {ci : Nat} {fds : List (Option (Option Nat))} (hk : K[k]? = some (.inl (ci, fds))) {j : Nat} {ji : Int} (hj : (j : Int) = ji) (hf : fds[j]? = some none) {x : Int} : (wo cA h σ 0 K).set k (h k, .inr (ci, (fvs h (σ k) 0 fds).set j (iv x))) = wo cA h (up σ k ji x) 0 K := by
  have h1 := wo_set (cA := cA) (h := h) (σ := σ) (σ' := up σ k ji x) K 0 k _ hk (fun k' hk' => up_ne k' (by omega))
  have h2 := fvs_set (h := h) (f := σ k) (g := up σ k ji x k) fds 0 j hf (fun i hi => by simp only [up]; rw [if_neg]; omega)
  rw [Nat.zero_add, hj, up_same] at h2
  rw [Nat.zero_add] at h1
  rw [← h1, h2]; rfl
theorem r_put (C : cx p s m args meth c ws own cc nL ret D cA) (hw : wd D cA K h σ A H0 H locs) {ci : Nat} {Cn : String} {T : u_T} {N : Nat} {ty : Nat → FieldType} (hc : clo ci Cn T N ty) (k : Nat) {fds : List (Option (Option Nat))} (hk : K[k]? = some (.inl (ci, fds))) (j : Nat) (ji : Int) (hj : (j : Int) = ji) (hf : fds[j]? = some none) (hN : j < N) {ix : Nat} (hin : ∀ w ∈ u_ws Cn T N, w ∈ ws) (hlink : Cond.fieldLink own ix (T j).1 (T j).2.1 (T j).2.2.1 ∈ ws) (hfin : (T j).2.2.2 = false) {x : Int} (hty : narrow (ty j) (iv x) = iv x ∧ fits (ty j) (iv x) = true) (hd : decode cc pc = .ok (.putfield ix, 3))
    (kk : ∀ (H1 : Heap) (locs1 : List Loc), wd D cA K h (up σ k ji x) A H0 H1 locs1 → W p l e R s m args below meth c H1 locs1 cells slots Q (F0 m (pc + 3) ls st)) : W p l e R s m args below meth c H locs cells slots Q (F0 m pc ls (iv x :: .ref (h k) :: st)) := by
  have he := wo_get (cA := cA) (h := h) (σ := σ) K 0 k _ hk
  rw [Nat.zero_add] at he
  refine va_put (D := D) C.1 C.2.1 C.2.2.2.2.1 hin ty hc.2.1 hc.2.2 C.2.2.2.1 C.2.2.2.2.2.2.2 hw.1 hw.2.1 hw.2.2 k he hc.1 j hN (C.2.2.2.2.1 _ hlink) (fun _ h9 => h9) hfin (hc.2.1 j hN) hty.1 hty.2 ?_ hd (fun H1 locs1 hP hD hS => kk H1 locs1 ?_)
  · rw [fvs_len]; exact (List.getElem?_eq_some_iff.mp hf).1
  · rw [wd_obj hw hk hj hf] at hP hD
    exact ⟨hP, hD, hS⟩
theorem wd_arr (hw : wd D cA K h σ A H0 H locs) {k n : Nat} {ty : FieldType} (hk : K[k]? = some (.inr (.inl (ty, n)))) {a x : Int} (h0 : 0 ≤ a) {f' : (Nat → Int32) ⊕ (Nat → Int64) ⊕ (Nat → UInt32) ⊕ (Nat → UInt64) ⊕ (Nat → Option Nat)} (hf : f' = ear ty (fun i => if i = a then x else σ k i)) : (wo cA h σ 0 K).set k (h k, .inl (cA ty, n, f')) = wo cA h (up σ k a x) 0 K := by
  have h1 := wo_set (cA := cA) (h := h) (σ := σ) (σ' := up σ k a x) K 0 k _ hk (fun k' hk' => up_ne k' (by omega))
  rw [Nat.zero_add] at h1
  rw [← h1, hf]
  have : up σ k a x k = fun i => if i = a then x else σ k i := by funext i; simp [up]
  rw [this]; rfl
theorem ear_i {ty : FieldType} (ht : refKind ty = false ∧ ty ≠ .long) {f : Int → Int} : ear ty f = .inl fun i => Int32.ofInt (f (i : Int)) := by
  unfold ear; split
  · exact absurd rfl ht.2
  · rfl
theorem upd_i {f : Int → Int} {a x : Int} (h0 : 0 ≤ a) : upd (fun i => Int32.ofInt (f (i : Int))) a.toNat (Int32.ofInt x) = fun i : Nat => Int32.ofInt ((fun j => if j = a then x else f j) (i : Int)) := by
  funext i
  simp only [upd]
  by_cases hi : i = a.toNat
  · rw [if_pos hi, if_pos (by omega)]
  · rw [if_neg hi, if_neg (by omega)]
theorem upd_l {f : Int → Int} {a x : Int} (h0 : 0 ≤ a) : vp_updL (fun i => Int64.ofInt (f (i : Int))) a.toNat (Int64.ofInt x) = fun i : Nat => Int64.ofInt ((fun j => if j = a then x else f j) (i : Int)) := by
  funext i
  simp only [vp_updL]
  by_cases hi : i = a.toNat
  · rw [if_pos hi, if_pos (by omega)]
  · rw [if_neg hi, if_neg (by omega)]
theorem r_iald (C : cx p s m args meth c ws own cc nL ret D cA) (hw : wd D cA K h σ A H0 H locs) (k : Nat) {n : Nat} (hk : K[k]? = some (.inr (.inl (.int, n)))) (hn : Nat.ble (n + 1) 2147483648 = true) {a : Int} (h0 : 0 ≤ a) (h1 : a < (n : Int)) (hd : decode cc pc = .ok (.iaload, 1))
    (kk : W p l e R s m args below meth c H locs cells slots Q (F0 m (pc + 1) ls (iv (σ k a) :: st))) : W p l e R s m args below meth c H locs cells slots Q (F0 m pc ls (iv a :: .ref (h k) :: st)) := by
  have he := wo_get (cA := cA) (h := h) (σ := σ) K 0 k _ hk
  rw [Nat.zero_add] at he
  have hn' : n < 2147483648 := Nat.le_of_ble_eq_true hn
  refine va_iald (D := D) (i := Int32.ofInt a) (f := fun i => Int32.ofInt (σ k (i : Int))) C.1 C.2.1 C.2.2.2.2.2.2.2 hw.1 k 0 he rfl (oi_in h0 h1 hn') hd ?_
  rw [oi_cl h0 (by omega), Int.toNat_of_nonneg h0]; exact kk
theorem r_bald (C : cx p s m args meth c ws own cc nL ret D cA) (hw : wd D cA K h σ A H0 H locs) (k : Nat) {n : Nat} (hk : K[k]? = some (.inr (.inl (.byte, n)))) (hn : Nat.ble (n + 1) 2147483648 = true) {a : Int} (h0 : 0 ≤ a) (h1 : a < (n : Int)) (hd : decode cc pc = .ok (.baload, 1))
    (kk : W p l e R s m args below meth c H locs cells slots Q (F0 m (pc + 1) ls (iv (σ k a) :: st))) : W p l e R s m args below meth c H locs cells slots Q (F0 m pc ls (iv a :: .ref (h k) :: st)) := by
  have he := wo_get (cA := cA) (h := h) (σ := σ) K 0 k _ hk
  rw [Nat.zero_add] at he
  have hn' : n < 2147483648 := Nat.le_of_ble_eq_true hn
  refine va_bald (D := D) (i := Int32.ofInt a) (f := fun i => Int32.ofInt (σ k (i : Int))) C.1 C.2.1 C.2.2.2.2.2.2.2 hw.1 k 2 he rfl (oi_in h0 h1 hn') hd ?_
  rw [oi_cl h0 (by omega), Int.toNat_of_nonneg h0]; exact kk
theorem r_zald (C : cx p s m args meth c ws own cc nL ret D cA) (hw : wd D cA K h σ A H0 H locs) (k : Nat) {n : Nat} (hk : K[k]? = some (.inr (.inl (.boolean, n)))) (hn : Nat.ble (n + 1) 2147483648 = true) {a : Int} (h0 : 0 ≤ a) (h1 : a < (n : Int)) (hd : decode cc pc = .ok (.baload, 1))
    (kk : W p l e R s m args below meth c H locs cells slots Q (F0 m (pc + 1) ls (iv (σ k a) :: st))) : W p l e R s m args below meth c H locs cells slots Q (F0 m pc ls (iv a :: .ref (h k) :: st)) := by
  have he := wo_get (cA := cA) (h := h) (σ := σ) K 0 k _ hk
  rw [Nat.zero_add] at he
  have hn' : n < 2147483648 := Nat.le_of_ble_eq_true hn
  refine va_zald (D := D) (i := Int32.ofInt a) (f := fun i => Int32.ofInt (σ k (i : Int))) C.1 C.2.1 C.2.2.2.2.2.2.2 hw.1 k 3 he rfl (oi_in h0 h1 hn') hd ?_
  rw [oi_cl h0 (by omega), Int.toNat_of_nonneg h0]; exact kk
theorem r_lald (C : cx p s m args meth c ws own cc nL ret D cA) (hw : wd D cA K h σ A H0 H locs) (k : Nat) {n : Nat} (hk : K[k]? = some (.inr (.inl (.long, n)))) (hn : Nat.ble (n + 1) 2147483648 = true) {a : Int} (h0 : 0 ≤ a) (h1 : a < (n : Int)) (hd : decode cc pc = .ok (.laload, 1))
    (kk : W p l e R s m args below meth c H locs cells slots Q (F0 m (pc + 1) ls (jv (σ k a) :: st))) : W p l e R s m args below meth c H locs cells slots Q (F0 m pc ls (iv a :: .ref (h k) :: st)) := by
  have he := wo_get (cA := cA) (h := h) (σ := σ) K 0 k _ hk
  rw [Nat.zero_add] at he
  have hn' : n < 2147483648 := Nat.le_of_ble_eq_true hn
  refine va_lald (D := D) (i := Int32.ofInt a) (f := fun i => Int64.ofInt (σ k (i : Int))) C.1 C.2.1 C.2.2.2.2.2.2.2 hw.1 k 1 he rfl (oi_in h0 h1 hn') hd ?_
  rw [oi_cl h0 (by omega), Int.toNat_of_nonneg h0]; exact kk
theorem r_iast (C : cx p s m args meth c ws own cc nL ret D cA) (hw : wd D cA K h σ A H0 H locs) (k : Nat) {n : Nat} (hk : K[k]? = some (.inr (.inl (.int, n)))) (hn : Nat.ble (n + 1) 2147483648 = true) {a x : Int} (h0 : 0 ≤ a) (h1 : a < (n : Int)) (hd : decode cc pc = .ok (.iastore, 1))
    (kk : ∀ (H1 : Heap) (locs1 : List Loc), wd D cA K h (up σ k a x) A H0 H1 locs1 → W p l e R s m args below meth c H1 locs1 cells slots Q (F0 m (pc + 1) ls st)) : W p l e R s m args below meth c H locs cells slots Q (F0 m pc ls (iv x :: iv a :: .ref (h k) :: st)) := by
  have he := wo_get (cA := cA) (h := h) (σ := σ) K 0 k _ hk
  rw [Nat.zero_add] at he
  have hn' : n < 2147483648 := Nat.le_of_ble_eq_true hn
  refine va_iast (D := D) (i := Int32.ofInt a) (f := fun i => Int32.ofInt (σ k (i : Int))) C.1 C.2.1 C.2.2.2.2.2.2.2 hw.1 hw.2.1 hw.2.2 k 0 he rfl (oi_in h0 h1 hn') hd (fun H1 locs1 hP hD hS => kk H1 locs1 ?_)
  rw [oi_cl h0 (by omega), upd_i h0] at hP hD
  have hP : va_P D vwCl ((wo cA h σ 0 K).set k (h k, .inl (cA .int, n, ear .int fun i => if i = a then x else σ k i))) H1 := hP
  have hD : va_D A ((wo cA h σ 0 K).set k (h k, .inl (cA .int, n, ear .int fun i => if i = a then x else σ k i))) := hD
  rw [wd_arr hw hk h0 rfl] at hP hD
  exact ⟨hP, hD, hS⟩
theorem r_bast (C : cx p s m args meth c ws own cc nL ret D cA) (hw : wd D cA K h σ A H0 H locs) (k : Nat) {n : Nat} (hk : K[k]? = some (.inr (.inl (.byte, n)))) (hn : Nat.ble (n + 1) 2147483648 = true) {a x : Int} (h0 : 0 ≤ a) (h1 : a < (n : Int)) (hx : i2b x = x) (hd : decode cc pc = .ok (.bastore, 1))
    (kk : ∀ (H1 : Heap) (locs1 : List Loc), wd D cA K h (up σ k a x) A H0 H1 locs1 → W p l e R s m args below meth c H1 locs1 cells slots Q (F0 m (pc + 1) ls st)) : W p l e R s m args below meth c H locs cells slots Q (F0 m pc ls (iv x :: iv a :: .ref (h k) :: st)) := by
  have he := wo_get (cA := cA) (h := h) (σ := σ) K 0 k _ hk
  rw [Nat.zero_add] at he
  have hn' : n < 2147483648 := Nat.le_of_ble_eq_true hn
  have hx2 : vp_nar .byte (Int32.ofInt x) = Int32.ofInt x := by
    rw [vp_nar_byte, ← Int32.ofInt_int8ToInt]
    exact congrArg Int32.ofInt hx
  refine va_bast (D := D) (i := Int32.ofInt a) (f := fun i => Int32.ofInt (σ k (i : Int))) C.1 C.2.1 C.2.2.2.2.2.2.2 hw.1 hw.2.1 hw.2.2 k 2 he rfl (oi_in h0 h1 hn') hd (fun H1 locs1 hP hD hS => kk H1 locs1 ?_)
  rw [oi_cl h0 (by omega), hx2, upd_i h0] at hP hD
  have hP : va_P D vwCl ((wo cA h σ 0 K).set k (h k, .inl (cA .byte, n, ear .byte fun i => if i = a then x else σ k i))) H1 := hP
  have hD : va_D A ((wo cA h σ 0 K).set k (h k, .inl (cA .byte, n, ear .byte fun i => if i = a then x else σ k i))) := hD
  rw [wd_arr hw hk h0 rfl] at hP hD
  exact ⟨hP, hD, hS⟩
theorem r_zast (C : cx p s m args meth c ws own cc nL ret D cA) (hw : wd D cA K h σ A H0 H locs) (k : Nat) {n : Nat} (hk : K[k]? = some (.inr (.inl (.boolean, n)))) (hn : Nat.ble (n + 1) 2147483648 = true) {a x : Int} (h0 : 0 ≤ a) (h1 : a < (n : Int)) (hx : x = 0 ∨ x = 1) (hd : decode cc pc = .ok (.bastore, 1))
    (kk : ∀ (H1 : Heap) (locs1 : List Loc), wd D cA K h (up σ k a x) A H0 H1 locs1 → W p l e R s m args below meth c H1 locs1 cells slots Q (F0 m (pc + 1) ls st)) : W p l e R s m args below meth c H locs cells slots Q (F0 m pc ls (iv x :: iv a :: .ref (h k) :: st)) := by
  have he := wo_get (cA := cA) (h := h) (σ := σ) K 0 k _ hk
  rw [Nat.zero_add] at he
  have hn' : n < 2147483648 := Nat.le_of_ble_eq_true hn
  have hx2 : vp_nar .boolean (Int32.ofInt x) = Int32.ofInt x := by rcases hx with hx | hx <;> subst hx <;> rfl
  refine va_zast (D := D) (i := Int32.ofInt a) (f := fun i => Int32.ofInt (σ k (i : Int))) C.1 C.2.1 C.2.2.2.2.2.2.2 hw.1 hw.2.1 hw.2.2 k 3 he rfl (oi_in h0 h1 hn') hd (fun H1 locs1 hP hD hS => kk H1 locs1 ?_)
  rw [oi_cl h0 (by omega), hx2, upd_i h0] at hP hD
  have hP : va_P D vwCl ((wo cA h σ 0 K).set k (h k, .inl (cA .boolean, n, ear .boolean fun i => if i = a then x else σ k i))) H1 := hP
  have hD : va_D A ((wo cA h σ 0 K).set k (h k, .inl (cA .boolean, n, ear .boolean fun i => if i = a then x else σ k i))) := hD
  rw [wd_arr hw hk h0 rfl] at hP hD
  exact ⟨hP, hD, hS⟩
theorem r_last (C : cx p s m args meth c ws own cc nL ret D cA) (hw : wd D cA K h σ A H0 H locs) (k : Nat) {n : Nat} (hk : K[k]? = some (.inr (.inl (.long, n)))) (hn : Nat.ble (n + 1) 2147483648 = true) {a x : Int} (h0 : 0 ≤ a) (h1 : a < (n : Int)) (hd : decode cc pc = .ok (.lastore, 1))
    (kk : ∀ (H1 : Heap) (locs1 : List Loc), wd D cA K h (up σ k a x) A H0 H1 locs1 → W p l e R s m args below meth c H1 locs1 cells slots Q (F0 m (pc + 1) ls st)) : W p l e R s m args below meth c H locs cells slots Q (F0 m pc ls (jv x :: iv a :: .ref (h k) :: st)) := by
  have he := wo_get (cA := cA) (h := h) (σ := σ) K 0 k _ hk
  rw [Nat.zero_add] at he
  have hn' : n < 2147483648 := Nat.le_of_ble_eq_true hn
  refine va_last (D := D) (i := Int32.ofInt a) (f := fun i => Int64.ofInt (σ k (i : Int))) C.1 C.2.1 C.2.2.2.2.2.2.2 hw.1 hw.2.1 hw.2.2 k 1 he rfl (oi_in h0 h1 hn') hd (fun H1 locs1 hP hD hS => kk H1 locs1 ?_)
  rw [oi_cl h0 (by omega), upd_l h0] at hP hD
  have hP : va_P D vwCl ((wo cA h σ 0 K).set k (h k, .inl (cA .long, n, ear .long fun i => if i = a then x else σ k i))) H1 := hP
  have hD : va_D A ((wo cA h σ 0 K).set k (h k, .inl (cA .long, n, ear .long fun i => if i = a then x else σ k i))) := hD
  rw [wd_arr hw hk h0 rfl] at hP hD
  exact ⟨hP, hD, hS⟩
theorem r_alen (C : cx p s m args meth c ws own cc nL ret D cA) (hw : wd D cA K h σ A H0 H locs) (k : Nat) {n : Nat} (hk : K[k]? = some (.inr (.inl (.int, n)))) (hd : decode cc pc = .ok (.arraylength, 1))
    (kk : W p l e R s m args below meth c H locs cells slots Q (F0 m (pc + 1) ls (iv (n : Int) :: st))) : W p l e R s m args below meth c H locs cells slots Q (F0 m pc ls (.ref (h k) :: st)) := by
  have he := wo_get (cA := cA) (h := h) (σ := σ) K 0 k _ hk
  rw [Nat.zero_add] at he
  exact va_alen (D := D) (x := (n, .inl fun i => Int32.ofInt (σ k (i : Int)))) C.1 C.2.1 C.2.2.2.2.2.2.2 hw.1 k 0 he rfl (Int32.ofInt_eq_ofNat).symm hd kk
theorem r_aald (C : cx p s m args meth c ws own cc nL ret D cA) (hw : wd D cA K h σ A H0 H locs) (k : Nat) {rs : List (Option Nat)} (hk : K[k]? = some (.inr (.inr ("BellTouches$Tape", rs)))) (hn : Nat.ble (rs.length + 1) 2147483648 = true) {a : Int} (h0 : 0 ≤ a) (h1 : a < (rs.length : Int)) (r : Nat) (hr : rs.getD a.toNat none = some r) (hd : decode cc pc = .ok (.aaload, 1))
    (kk : W p l e R s m args below meth c H locs cells slots Q (F0 m (pc + 1) ls (.ref (h r) :: st))) : W p l e R s m args below meth c H locs cells slots Q (F0 m pc ls (iv a :: .ref (h k) :: st)) := by
  have he := wo_get (cA := cA) (h := h) (σ := σ) K 0 k _ hk
  rw [Nat.zero_add] at he
  have hn' : rs.length < 2147483648 := Nat.le_of_ble_eq_true hn
  refine va_aldq (D := D) (i := Int32.ofInt a) (f := fun i => (rs.getD i none).map h) C.1 C.2.1 C.2.2.2.2.2.2.2 hw.1 k 4 he rfl (oi_in h0 h1 hn') hd ?_
  rw [oi_cl h0 (by omega), hr]; exact kk
end
end
section
/-- the place of a cell among the callee's -/
def ixo : List Nat → Nat → Option Nat
  | [], _ => none
  | a :: r, k => if a = k then some 0 else (ixo r k).map (· + 1)
def renF (js : List Nat) (fd : Option (Option Nat)) : Option (Option Nat) := fd.map fun o => o.map fun k => js.getD k 0
def renK (js : List Nat) : Kd → Kd
  | .inl o => .inl (o.1, o.2.map (renF js))
  | .inr (.inl a) => .inr (.inl a)
  | .inr (.inr a) => .inr (.inr (a.1, a.2.map fun o => o.map fun k => js.getD k 0))
/-- the callee's cells K' are the caller's cells js -/
def sbK (K K' : List Kd) (js : List Nat) : Prop := K'.map (fun kd => some (renK js kd)) = js.map (fun k => K[k]?) ∧ va_nd js = true
def hm (h : Nat → Nat) (js : List Nat) : Nat → Nat := fun i => h (js.getD i 0)
def pk (σ : St) (js : List Nat) : St := fun i => σ (js.getD i 0)
def mrg (σ : St) (js : List Nat) (σ' : St) : St := fun k => match ixo js k with | some i => σ' i | none => σ k
theorem ixo_some : ∀ {js : List Nat} {k i : Nat}, ixo js k = some i → js[i]? = some k
  | [], k, i, e => by simp [ixo] at e
  | a :: r, k, i, e => by
    simp only [ixo] at e
    by_cases h : a = k
    · rw [if_pos h] at e; simp at e; subst e; subst h; rfl
    · rw [if_neg h] at e
      cases e2 : ixo r k with
      | none => rw [e2] at e; simp at e
      | some j => rw [e2] at e; simp at e; subst e; simpa using ixo_some e2
theorem ixo_none : ∀ {js : List Nat} {k : Nat}, ixo js k = none → ∀ i : Nat, js[i]? ≠ some k
  | [], k, e, i => by simp
  | a :: r, k, e, i => by
    simp only [ixo] at e
    by_cases h : a = k
    · rw [if_pos h] at e; simp at e
    · rw [if_neg h] at e
      cases e2 : ixo r k with
      | none =>
        cases i with
        | zero => simpa using h
        | succ i => simpa using ixo_none e2 i
      | some j => rw [e2] at e; simp at e
theorem ixo_at : ∀ {js : List Nat} (k i : Nat), va_nd js = true → js[i]? = some k → ixo js k = some i := by
  intro js k i hn hi
  cases e : ixo js k with
  | none => exact absurd hi (ixo_none e i)
  | some j => rw [va_nd_inj js hn _ _ _ (ixo_some e) hi]
theorem sbk_at {K K' : List Kd} {js : List Nat} (hs : sbK K K' js) {i : Nat} {kd : Kd} (hk : K'[i]? = some kd) : ∃ k, js[i]? = some k ∧ K[k]? = some (renK js kd) := by
  have h1 := congrArg (fun l : List (Option Kd) => l[i]?) hs.1
  simp only [List.getElem?_map, hk] at h1
  cases e : js[i]? with
  | none => rw [e] at h1; simp at h1
  | some k => rw [e] at h1; simp at h1; exact ⟨k, rfl, h1.symm⟩
theorem sbk_inv {K K' : List Kd} {js : List Nat} (hs : sbK K K' js) {i k : Nat} (hk : js[i]? = some k) : ∃ kd, K'[i]? = some kd ∧ K[k]? = some (renK js kd) := by
  have h1 := congrArg (fun l : List (Option Kd) => l[i]?) hs.1
  simp only [List.getElem?_map, hk] at h1
  cases e : K'[i]? with
  | none => rw [e] at h1; simp at h1
  | some kd => rw [e] at h1; simp at h1; exact ⟨kd, rfl, h1.symm⟩
theorem fvs_ren {h : Nat → Nat} {f : Int → Int} {js : List Nat} : ∀ (fd : List (Option (Option Nat))) (j0 : Nat), fvs h f j0 (fd.map (renF js)) = fvs (hm h js) f j0 fd
  | [], _ => rfl
  | a :: r, j0 => by
    have := fvs_ren (h := h) (f := f) (js := js) r (j0 + 1)
    rcases a with _ | _ | k <;> simp [fvs, renF, hm] <;> simpa [renF] using this
theorem ent_ren {cA : FieldType → ClassId} {h : Nat → Nat} {f : Int → Int} {js : List Nat} (kd : Kd) : ent cA h f (renK js kd) = ent cA (hm h js) f kd := by
  rcases kd with o | a | a
  · simp only [renK, ent, fvs_ren]
  · rfl
  · simp only [renK, ent, List.length_map]
    congr 7
    funext i
    simp only [List.getD_eq_getElem?_getD, List.getElem?_map]
    cases a.2[i]? with
    | none => rfl
    | some o => cases o <;> rfl
section
variable {D : va_G} {cA : FieldType → ClassId} {K K' : List Kd} {h : Nat → Nat} {σ σ' : St} {A : Nat → Prop} {H0 H : Heap} {locs : List Loc} {js : List Nat}
theorem wd_pk (hw : wd D cA K h σ A H0 H locs) (hs : sbK K K' js) : va_P D vwCl (wo cA (hm h js) (pk σ js) 0 K') H := by
  intro i q hq
  obtain ⟨kd, h1, h2⟩ := wo_inv K' 0 i q hq
  obtain ⟨k, h3, h4⟩ := sbk_at hs h1
  have := hw.1 k _ (wo_get K 0 k _ h4)
  rw [Nat.zero_add] at this h2
  rw [ent_ren] at this
  subst h2
  have e : hm h js i = h k := by simp [hm, List.getD_eq_getElem?_getD, h3]
  have e2 : pk σ js i = σ k := by simp [pk, List.getD_eq_getElem?_getD, h3]
  rw [e, e2]; exact this
theorem wd_pkD (hw : wd D cA K h σ A H0 H locs) (hs : sbK K K' js) : va_D (fun _ => True) (wo cA (hm h js) (pk σ js) 0 K') := by
  refine ⟨fun i j p q hp hq e => ?_, fun _ _ _ => trivial⟩
  obtain ⟨kp, a1, b1⟩ := wo_inv K' 0 i p hp
  obtain ⟨kq, a2, b2⟩ := wo_inv K' 0 j q hq
  obtain ⟨x, c1, d1⟩ := sbk_at hs a1
  obtain ⟨y, c2, d2⟩ := sbk_at hs a2
  subst b1; subst b2
  simp only [Nat.zero_add, hm, List.getD_eq_getElem?_getD, c1, c2, Option.getD_some] at e
  have := hw.2.1.1 x y _ _ (wo_get K 0 x _ d1) (wo_get K 0 y _ d2) (by simpa using e)
  subst this
  exact va_nd_inj js hs.2 _ _ _ c1 c2
theorem aA_sub (hw : wd D cA K h σ A H0 H locs) (hA : ∀ q, H0.size ≤ q → A q) (hs : sbK K K' js) : ∀ q, aA K'.length (hm h js) H.size q → A q := by
  rintro q (⟨i, hi, rfl⟩ | hq)
  · obtain ⟨k, h3, h4⟩ := sbk_at hs (List.getElem?_eq_getElem hi)
    have := hw.2.1.2 k _ (wo_get K 0 k _ h4)
    simpa [hm, List.getD_eq_getElem?_getD, h3] using this
  · exact hA q (Nat.le_trans hw.2.2.1 hq)
theorem wd_back {H1 : Heap} {locs1 : List Loc} (hw : wd D cA K h σ A H0 H locs) (hs : sbK K K' js) (hP : va_P D vwCl (wo cA (hm h js) σ' 0 K') H1) (hk : ∀ q : Nat, q < H.size → ¬ aA K'.length (hm h js) H.size q → H1[q]? = H[q]?) (hS : va_S A H0 H1 locs1) : wd D cA K h (mrg σ js σ') A H0 H1 locs1 := by
  refine ⟨fun k q hq => ?_, wo_D hw.2.1, hS⟩
  obtain ⟨kd, h1, h2⟩ := wo_inv K 0 k q hq
  subst h2
  rw [Nat.zero_add]
  cases e : ixo js k with
  | some i =>
    have h3 := ixo_some e
    obtain ⟨kd', h4, h5⟩ := sbk_inv hs h3
    rw [h1] at h5
    have h6 := hP i _ (wo_get K' 0 i _ h4)
    rw [Nat.zero_add, ← ent_ren, ← Option.some.inj h5] at h6
    have e1 : hm h js i = h k := by simp [hm, List.getD_eq_getElem?_getD, h3]
    have e2 : mrg σ js σ' k = σ' i := by simp [mrg, e]
    rw [e1] at h6; rw [e2]; exact h6
  | none =>
    have e2 : mrg σ js σ' k = σ k := by simp [mrg, e]
    rw [e2]
    have h3 := hw.1 k _ (wo_get K 0 k _ h1)
    rw [Nat.zero_add] at h3
    refine h3.kept (hk _ h3.lt ?_)
    rintro (⟨i, hi, hq⟩ | hq)
    · obtain ⟨k2, h4, h5⟩ := sbk_at hs (List.getElem?_eq_getElem hi)
      have h6 : h k = h k2 := by simpa [hm, List.getD_eq_getElem?_getD, h4] using hq
      have := hw.2.1.1 k k2 _ _ (wo_get K 0 k _ h1) (wo_get K 0 k2 _ h5) (by simpa using h6)
      subst this
      exact ixo_none e i h4
    · exact absurd h3.lt (Nat.not_lt.mpr hq)
theorem mrg_pk : mrg σ js (pk σ js) = σ := by
  funext k
  unfold mrg
  cases e : ixo js k with
  | none => rfl
  | some i => simp [pk, List.getD_eq_getElem?_getD, ixo_some e]
end
/-- a contract's start: the cells K at h hold σ, the heap has sz cells -/
def preS (D : va_G) (cA : FieldType → ClassId) (K : List Kd) (h : Nat → Nat) (σ : St) (sz : Nat) : State → Prop := fun U => U.heap.size = sz ∧ va_P D vwCl (wo cA h σ 0 K) U.heap ∧ va_K D vwCl (tyL cA) U ∧ va_D (fun _ => True) (wo cA h σ 0 K)
theorem preS_blind {D : va_G} {cA : FieldType → ClassId} {K : List Kd} {h : Nat → Nat} {σ : St} {sz : Nat} {As : List Value} : FrameBlind (va_Pc As (preS D cA K h σ sz)) := fun a U g mk q => by
  obtain ⟨q0, q1, qP, qK, qD⟩ := q
  exact ⟨q0, q1, qP, va_K.moved (u := U) (U := U.calling g mk a) (Vm.Alike.refl U.vm) qK, qD⟩
def QI (D : va_G) (cA : FieldType → ClassId) (K : List Kd) (h : Nat → Nat) (sz : Nat) (post : Int → St → Prop) : Array Value → State → Outcome → State → Prop := va_Qi (fun (r : Int32) (u : Int × St) => r = Int32.ofInt u.1 ∧ post u.1 u.2) (fun u t => va_P D vwCl (wo cA h u.2 0 K) t.heap) (aA K.length h sz)
def QL (D : va_G) (cA : FieldType → ClassId) (K : List Kd) (h : Nat → Nat) (sz : Nat) (post : Int → St → Prop) : Array Value → State → Outcome → State → Prop := va_Ql (fun (r : Int64) (u : Int × St) => r = Int64.ofInt u.1 ∧ post u.1 u.2) (fun u t => va_P D vwCl (wo cA h u.2 0 K) t.heap) (aA K.length h sz)
def QV (D : va_G) (cA : FieldType → ClassId) (K : List Kd) (h : Nat → Nat) (sz : Nat) (post : St → Prop) : Array Value → State → Outcome → State → Prop := va_Qv (fun (u : St) => post u) (fun u t => va_P D vwCl (wo cA h u 0 K) t.heap) (aA K.length h sz)
def QR (D : va_G) (cA : FieldType → ClassId) (K : List Kd) (h : Nat → Nat) (sz : Nat) (rk : Nat) (post : St → Prop) : Array Value → State → Outcome → State → Prop := va_Qr (fun (u : St) => post u) (fun u a t => a = h rk ∧ va_P D vwCl (wo cA h u 0 K) t.heap) (aA K.length h sz)
section
variable {p : Program} {l : Launch} {e : Env} {R : Room} {s : State} {m : MethodId} {args : Array Value} {below : List Frame} {meth : Method} {c : Code} {H : Heap} {locs : List Loc} {cells slots : Nat} {Q : State → Prop} {pc : Nat} {ls : Array Slot} {st st0 : List Value}
variable {ws : List Cond} {own : String} {cc : ByteArray} {nL : Nat} {ret : Option FieldType} {D : va_G} {cA : FieldType → ClassId} {K K' : List Kd} {h : Nat → Nat} {σ : St} {A : Nat → Prop} {js : List Nat} {vl : List (Option Value)}
theorem run_v (C : cx p s m args meth c ws own cc nL ret D cA) (hw : wd D cA K h σ A s.heap H locs) (hs : sbK K K' js) {ci : Nat} {fds : List (Option (Option Nat))} {Cn : String} {T : u_T} {N : Nat} {ty : Nat → FieldType} (hc : clo ci Cn T N ty) (h0 : K'[0]? = some (.inl (ci, fds))) {y : MethodName} {ws' : List Cond} {rm' : Room} {As : List Value} {Qc : Array Value → State → Outcome → State → Prop} {ix n maxL : Nat} {bytes : ByteArray} {ret' : Option FieldType}
    (hM : Met l y ws' rm' (va_Pc (.ref (hm h js 0) :: As) (preS D cA K' (hm h js) (pk σ js) H.size)) Qc 0 0 (aA K'.length (hm h js) H.size)) (cw : CallW R s args own Cn ix y bytes maxL ret' ws' rm' 0 0 n) (hn : As.length = n) (hst : st0 = As.reverse ++ .ref (hm h js 0) :: st) (hcat : Nat.ble (st.map fun v => v.category).sum 8 = true) (hl : lh ls nL vl) (hd : decode cc pc = .ok (.invokevirtual ix, 3)) (hf : cells ≤ R.cells ∧ slots ≤ R.slots) :
    va_Run p l e R s m args below meth c H locs cells slots 0 0 (F0 m pc ls st0) st (Qc (Value.ref (hm h js 0) :: As).toArray) (aA K'.length (hm h js) H.size) :=
  va_runV ⟨C.1, C.2.1, C.2.2.1, C.2.2.2.1, C.2.2.2.2.1⟩ hM cw
    ⟨preS_blind, va_recv C.2.2.2.2.2.2.2 (wd_pk hw hs) hc.1 (wo_get K' 0 0 _ h0), fun U hU hW => ⟨rfl, by rw [hU], by rw [hU]; exact wd_pk hw hs, va_K.moved hW.alike C.2.2.2.2.2.2.2, wd_pkD hw hs⟩⟩
    rfl hn hl.1 hst (lv_room (Nat.le_of_ble_eq_true hcat)) hd hf
theorem run_s (C : cx p s m args meth c ws own cc nL ret D cA) (hw : wd D cA K h σ A s.heap H locs) (hs : sbK K K' js) {y : MethodName} {ws' : List Cond} {rm' : Room} {As : List Value} {Qc : Array Value → State → Outcome → State → Prop} {ix n maxL : Nat} {bytes : ByteArray} {ret' : Option FieldType}
    (hM : Met l y ws' rm' (va_Pc As (preS D cA K' (hm h js) (pk σ js) H.size)) Qc 0 0 (aA K'.length (hm h js) H.size)) (cw : CallB R s args own ix y bytes maxL ret' ws' rm' 0 0 n ∧ (Cond.static y).before args s = true) (hn : As.length = n) (hst : st0 = As.reverse ++ st) (hcat : Nat.ble (st.map fun v => v.category).sum 8 = true) (hl : lh ls nL vl) (hd : decode cc pc = .ok (.invokestatic ix, 3)) (hf : cells ≤ R.cells ∧ slots ≤ R.slots) :
    va_Run p l e R s m args below meth c H locs cells slots 0 0 (F0 m pc ls st0) st (Qc As.toArray) (aA K'.length (hm h js) H.size) :=
  va_runS ⟨C.1, C.2.1, C.2.2.1, C.2.2.2.1, C.2.2.2.2.1⟩ hM cw
    ⟨preS_blind, fun U hU hW => ⟨rfl, by rw [hU], by rw [hU]; exact wd_pk hw hs, va_K.moved hW.alike C.2.2.2.2.2.2.2, wd_pkD hw hs⟩⟩
    rfl hn hl.1 hst (lv_room (Nat.le_of_ble_eq_true hcat)) hd hf
theorem r_cI (hA : ∀ q, s.heap.size ≤ q → A q) (hw : wd D cA K h σ A s.heap H locs) (hs : sbK K K' js) {a : Array Value} {post : Int → St → Prop}
    (hr : va_Run p l e R s m args below meth c H locs cells slots 0 0 (F0 m pc ls st0) st (QI D cA K' (hm h js) H.size post a) (aA K'.length (hm h js) H.size))
    (k : ∀ (r : Int) (σ' : St) (H1 : Heap) (locs1 : List Loc), post r σ' → wd D cA K h (mrg σ js σ') A s.heap H1 locs1 → W p l e R s m args below meth c H1 locs1 cells slots Q (F0 m (pc + 3) ls (iv r :: st))) : W p l e R s m args below meth c H locs cells slots Q (F0 m pc ls st0) :=
  va_calli hr hw.2.2 (fun q _ hq => aA_sub hw hA hs q hq) (aA_sub hw hA hs) (fun r u t H1 locs1 ht hvm hp hB hz hk hS => by
    obtain ⟨rfl, hp⟩ := hp
    subst ht
    exact k u.1 u.2 _ locs1 hp (wd_back hw hs hB hk hS))
theorem r_cL (hA : ∀ q, s.heap.size ≤ q → A q) (hw : wd D cA K h σ A s.heap H locs) (hs : sbK K K' js) {a : Array Value} {post : Int → St → Prop}
    (hr : va_Run p l e R s m args below meth c H locs cells slots 0 0 (F0 m pc ls st0) st (QL D cA K' (hm h js) H.size post a) (aA K'.length (hm h js) H.size))
    (k : ∀ (r : Int) (σ' : St) (H1 : Heap) (locs1 : List Loc), post r σ' → wd D cA K h (mrg σ js σ') A s.heap H1 locs1 → W p l e R s m args below meth c H1 locs1 cells slots Q (F0 m (pc + 3) ls (jv r :: st))) : W p l e R s m args below meth c H locs cells slots Q (F0 m pc ls st0) :=
  va_calll hr hw.2.2 (fun q _ hq => aA_sub hw hA hs q hq) (aA_sub hw hA hs) (fun r u t H1 locs1 ht hvm hp hB hz hk hS => by
    obtain ⟨rfl, hp⟩ := hp
    subst ht
    exact k u.1 u.2 _ locs1 hp (wd_back hw hs hB hk hS))
theorem r_cV (hA : ∀ q, s.heap.size ≤ q → A q) (hw : wd D cA K h σ A s.heap H locs) (hs : sbK K K' js) {a : Array Value} {post : St → Prop}
    (hr : va_Run p l e R s m args below meth c H locs cells slots 0 0 (F0 m pc ls st0) st (QV D cA K' (hm h js) H.size post a) (aA K'.length (hm h js) H.size))
    (k : ∀ (σ' : St) (H1 : Heap) (locs1 : List Loc), post σ' → wd D cA K h (mrg σ js σ') A s.heap H1 locs1 → W p l e R s m args below meth c H1 locs1 cells slots Q (F0 m (pc + 3) ls st)) : W p l e R s m args below meth c H locs cells slots Q (F0 m pc ls st0) :=
  va_callv hr hw.2.2 (fun q _ hq => aA_sub hw hA hs q hq) (aA_sub hw hA hs) (fun u t H1 locs1 ht hvm hp hB hz hk hS => by
    subst ht
    exact k u _ locs1 hp (wd_back hw hs hB hk hS))
theorem r_cR (hA : ∀ q, s.heap.size ≤ q → A q) (hw : wd D cA K h σ A s.heap H locs) (hs : sbK K K' js) {a : Array Value} {rk : Nat} {post : St → Prop}
    (hr : va_Run p l e R s m args below meth c H locs cells slots 0 0 (F0 m pc ls st0) st (QR D cA K' (hm h js) H.size rk post a) (aA K'.length (hm h js) H.size))
    (k : ∀ (σ' : St) (H1 : Heap) (locs1 : List Loc), post σ' → wd D cA K h (mrg σ js σ') A s.heap H1 locs1 → W p l e R s m args below meth c H1 locs1 cells slots Q (F0 m (pc + 3) ls (.ref (hm h js rk) :: st))) : W p l e R s m args below meth c H locs cells slots Q (F0 m pc ls st0) :=
  va_callr hr hw.2.2 (fun q _ hq => aA_sub hw hA hs q hq) (aA_sub hw hA hs) (fun u ra t H1 locs1 ht hvm hp hB hz hk hS => by
    subst ht
    obtain ⟨rfl, hB⟩ := hB
    exact k u _ locs1 hp (wd_back hw hs hB hk hS))
/-- a reader's answer: the cells are as they were -/
theorem r_cIr (hA : ∀ q, s.heap.size ≤ q → A q) (hw : wd D cA K h σ A s.heap H locs) (hs : sbK K K' js) {a : Array Value} {post : Int → Prop}
    (hr : va_Run p l e R s m args below meth c H locs cells slots 0 0 (F0 m pc ls st0) st (QI D cA K' (hm h js) H.size (fun r σ' => σ' = pk σ js ∧ post r) a) (aA K'.length (hm h js) H.size))
    (k : ∀ (r : Int) (H1 : Heap) (locs1 : List Loc), post r → wd D cA K h σ A s.heap H1 locs1 → W p l e R s m args below meth c H1 locs1 cells slots Q (F0 m (pc + 3) ls (iv r :: st))) : W p l e R s m args below meth c H locs cells slots Q (F0 m pc ls st0) :=
  r_cI hA hw hs hr (fun r σ' H1 locs1 hp hw1 => by
    obtain ⟨rfl, hp⟩ := hp
    rw [mrg_pk] at hw1
    exact k r H1 locs1 hp hw1)
theorem r_cLr (hA : ∀ q, s.heap.size ≤ q → A q) (hw : wd D cA K h σ A s.heap H locs) (hs : sbK K K' js) {a : Array Value} {post : Int → Prop}
    (hr : va_Run p l e R s m args below meth c H locs cells slots 0 0 (F0 m pc ls st0) st (QL D cA K' (hm h js) H.size (fun r σ' => σ' = pk σ js ∧ post r) a) (aA K'.length (hm h js) H.size))
    (k : ∀ (r : Int) (H1 : Heap) (locs1 : List Loc), post r → wd D cA K h σ A s.heap H1 locs1 → W p l e R s m args below meth c H1 locs1 cells slots Q (F0 m (pc + 3) ls (jv r :: st))) : W p l e R s m args below meth c H locs cells slots Q (F0 m pc ls st0) :=
  r_cL hA hw hs hr (fun r σ' H1 locs1 hp hw1 => by
    obtain ⟨rfl, hp⟩ := hp
    rw [mrg_pk] at hw1
    exact k r H1 locs1 hp hw1)
/-- the ends -/
def RtI (p : Program) (l : Launch) (e : Env) (R : Room) (s : State) (m : MethodId) (args : Array Value) (below : List Frame) (meth : Method) (c : Code) (Q : State → Prop) (cc : ByteArray) (D : va_G) (cA : FieldType → ClassId) (K : List Kd) (h : Nat → Nat) (A : Nat → Prop) (ok : Int → Prop) (post : Int → St → Prop) : Prop :=
  ∀ (x : Int) (σ' : St) (H : Heap) (locs : List Loc) (pc : Nat) (ls : Array Slot), decode cc pc = .ok (.ireturn, 1) → ok x → post x σ' → wd D cA K h σ' A s.heap H locs → W p l e R s m args below meth c H locs 0 0 Q (F0 m pc ls [iv x])
def RtL (p : Program) (l : Launch) (e : Env) (R : Room) (s : State) (m : MethodId) (args : Array Value) (below : List Frame) (meth : Method) (c : Code) (Q : State → Prop) (cc : ByteArray) (D : va_G) (cA : FieldType → ClassId) (K : List Kd) (h : Nat → Nat) (A : Nat → Prop) (post : Int → St → Prop) : Prop :=
  ∀ (x : Int) (σ' : St) (H : Heap) (locs : List Loc) (pc : Nat) (ls : Array Slot), decode cc pc = .ok (.lreturn, 1) → post x σ' → wd D cA K h σ' A s.heap H locs → W p l e R s m args below meth c H locs 0 0 Q (F0 m pc ls [jv x])
def RtV (p : Program) (l : Launch) (e : Env) (R : Room) (s : State) (m : MethodId) (args : Array Value) (below : List Frame) (meth : Method) (c : Code) (Q : State → Prop) (cc : ByteArray) (D : va_G) (cA : FieldType → ClassId) (K : List Kd) (h : Nat → Nat) (A : Nat → Prop) (post : St → Prop) : Prop :=
  ∀ (σ' : St) (H : Heap) (locs : List Loc) (pc : Nat) (ls : Array Slot), decode cc pc = .ok (.return_, 1) → post σ' → wd D cA K h σ' A s.heap H locs → W p l e R s m args below meth c H locs 0 0 Q (F0 m pc ls [])
def RtR (p : Program) (l : Launch) (e : Env) (R : Room) (s : State) (m : MethodId) (args : Array Value) (below : List Frame) (meth : Method) (c : Code) (Q : State → Prop) (cc : ByteArray) (D : va_G) (cA : FieldType → ClassId) (K : List Kd) (h : Nat → Nat) (A : Nat → Prop) (rk : Nat) (post : St → Prop) : Prop :=
  ∀ (σ' : St) (H : Heap) (locs : List Loc) (pc : Nat) (ls : Array Slot), decode cc pc = .ok (.areturn, 1) → post σ' → wd D cA K h σ' A s.heap H locs → W p l e R s m args below meth c H locs 0 0 Q (F0 m pc ls [.ref (h rk)])
theorem rt_i (C : cx p s m args meth c ws own cc nL (some .int) D cA) (post : Int → St → Prop) : RtI p l e R s m args below meth c (MQ below (QI D cA K h s.heap.size post) args s 0 0 (aA K.length h s.heap.size)) cc D cA K h (aA K.length h s.heap.size) (fun _ => True) post := fun x σ' H locs pc ls hd _ hp hw =>
  W.iret C.1 C.2.1 C.2.2.2.2.2.1 (fun t ht _ => ⟨⟨_, (x, σ'), rfl, ⟨rfl, hp⟩, by dsimp only; rw [ht]; exact hw.1⟩, hw.2.2.F ht⟩) hw.2.2.2.2 hd C.2.2.2.2.2.2.1
theorem rt_z (C : cx p s m args meth c ws own cc nL (some .boolean) D cA) (post : Int → St → Prop) : RtI p l e R s m args below meth c (MQ below (QI D cA K h s.heap.size post) args s 0 0 (aA K.length h s.heap.size)) cc D cA K h (aA K.length h s.heap.size) (fun x => x = 0 ∨ x = 1) post := fun x σ' H locs pc ls hd hx hp hw =>
  W.zret C.1 C.2.1 C.2.2.2.2.2.1 (oi_z hx).1 (fun t ht _ => ⟨⟨_, (x, σ'), rfl, ⟨rfl, hp⟩, by dsimp only; rw [ht]; exact hw.1⟩, hw.2.2.F ht⟩) hw.2.2.2.2 hd C.2.2.2.2.2.2.1
theorem rt_l (C : cx p s m args meth c ws own cc nL (some .long) D cA) (post : Int → St → Prop) : RtL p l e R s m args below meth c (MQ below (QL D cA K h s.heap.size post) args s 0 0 (aA K.length h s.heap.size)) cc D cA K h (aA K.length h s.heap.size) post := fun x σ' H locs pc ls hd hp hw =>
  W.lret C.1 C.2.1 C.2.2.2.2.2.1 (fun t ht _ => ⟨⟨_, (x, σ'), rfl, ⟨rfl, hp⟩, by dsimp only; rw [ht]; exact hw.1⟩, hw.2.2.F ht⟩) hw.2.2.2.2 hd C.2.2.2.2.2.2.1
theorem rt_v (C : cx p s m args meth c ws own cc nL none D cA) (post : St → Prop) : RtV p l e R s m args below meth c (MQ below (QV D cA K h s.heap.size post) args s 0 0 (aA K.length h s.heap.size)) cc D cA K h (aA K.length h s.heap.size) post := fun σ' H locs pc ls hd hp hw =>
  W.vret C.1 C.2.1 C.2.2.2.2.2.1 (fun t ht _ => ⟨⟨σ', rfl, hp, by dsimp only; rw [ht]; exact hw.1⟩, hw.2.2.F ht⟩) hw.2.2.2.2 hd C.2.2.2.2.2.2.1
theorem rt_r {Cr : String} (C : cx p s m args meth c ws own cc nL (some (.object Cr)) D cA) (rk : Nat) (post : St → Prop) : RtR p l e R s m args below meth c (MQ below (QR D cA K h s.heap.size rk post) args s 0 0 (aA K.length h s.heap.size)) cc D cA K h (aA K.length h s.heap.size) rk post := fun σ' H locs pc ls hd hp hw =>
  W.aret C.1 C.2.1 C.2.2.2.2.2.1 (Or.inl ⟨Cr, rfl⟩) (Or.inr ⟨_, rfl⟩) (fun t ht _ => ⟨⟨σ', _, rfl, hp, rfl, by rw [ht]; exact hw.1⟩, hw.2.2.F ht⟩) hw.2.2.2.2 hd C.2.2.2.2.2.2.1
end
/-- a method's arguments in its locals -/
def slv : List Value → List (Option Value)
  | [] => []
  | v :: r => if v.category = 2 then some v :: none :: slv r else some v :: slv r
theorem slv_args : ∀ (vs : List Value) (k i : Nat) (v : Value), (slv vs)[i]? = some (some v) → (k + i, v) ∈ lv_args k vs
  | [], k, i, v, e => by simp [slv] at e
  | a :: r, k, i, v, e => by
    unfold slv at e
    unfold lv_args
    by_cases hc : a.category = 2
    · rw [if_pos hc] at e
      rw [if_pos hc]
      match i, e with
      | 0, e => simp at e; subst e; exact List.mem_cons_self
      | 1, e => simp at e
      | i + 2, e =>
        have := slv_args r (k + 2) i v (by simpa using e)
        rw [show k + 2 + i = k + (i + 2) by omega] at this
        exact List.mem_cons_of_mem _ this
    · rw [if_neg hc] at e
      rw [if_neg hc]
      match i, e with
      | 0, e => simp at e; subst e; exact List.mem_cons_self
      | i + 1, e =>
        have := slv_args r (k + 1) i v (by simpa using e)
        rw [show k + 1 + i = k + (i + 1) by omega] at this
        exact List.mem_cons_of_mem _ this
theorem lh_entry (vs : List Value) {n : Nat} (hn : (lg_sl vs).length ≤ n) (k : Nat) : lh ((lg_sl vs ++ List.replicate (n - (lg_sl vs).length) Slot.unset).toArray) n (slv vs ++ List.replicate k none) := by
  have hl := lv_entry vs hn
  refine ⟨hl.1, hl.2.1, fun i v e => ?_⟩
  have e2 : (slv vs)[i]? = some (some v) := by
    rcases Nat.lt_or_ge i (slv vs).length with q | q
    · rwa [List.getElem?_append_left q] at e
    · rw [List.getElem?_append_right q] at e
      have := List.getElem?_replicate (a := (none : Option Value)) (n := k) (i := i - (slv vs).length)
      rw [this] at e
      split at e <;> simp at e
  have := slv_args vs 0 i v e2
  rw [Nat.zero_add] at this
  exact hl.2.2 (i, v) this
/-- a contract out of a walk of the body -/
theorem mk_met {l : Launch} {y : MethodName} {ws ws' : List Cond} {rm : Room} {cc : ByteArray} {nL : Nat} {ret : Option FieldType} {own : String} {D : va_G} {cA : FieldType → ClassId} {K : List Kd} {h : Nat → Nat} {σ : St} {sz : Nat} {As : List Value} {Qc : Array Value → State → Outcome → State → Prop} (k : Nat)
    (hy : plainName y.cls = true) (hw : ws = Cond.code y cc nL ret :: ws') (hown : y.cls = own) (hrm : (headSpec ws rm).room = rm) (hn : Nat.ble (lg_sl As).length nL = true)
    (body : ∀ (p : Program) (e : Env) (s : State) (m : MethodId) (args : Array Value) (below : List Frame) (meth : Method) (c : Code) (ls : Array Slot), s.heap.size = sz → cx p s m args meth c ws own cc nL ret D cA → wd D cA K h σ (aA K.length h s.heap.size) s.heap s.heap [] → lh ls nL (slv As ++ List.replicate k none) → (∀ q, s.heap.size ≤ q → aA K.length h s.heap.size q) → W p l e rm s m args below meth c s.heap [] 0 0 (MQ below Qc args s 0 0 (aA K.length h s.heap.size)) (F0 m 0 ls [])) : Met l y ws rm (va_Pc As (preS D cA K h σ sz)) Qc 0 0 (aA K.length h sz) := by
  refine Met.ofW (cc := cc) (maxL := nL) (ret := ret) hy hw ?_
  intro p e s m args below meth c s₁ B hml hv
  obtain ⟨rfl, hsz, hP, hK, hD0⟩ := hv
  subst hsz
  rw [lg_entry_eq, hrm]
  refine body p e s m _ below meth c _ rfl ⟨B.exec, B.bytes, hml, ?_, atoms_spec (ws := ws) B.pre, B.returns, B.notSynchronized, hK⟩ ⟨hP, ?_, va_S.rf⟩ (lh_entry As (Nat.le_of_ble_eq_true hn) k) (fun q hq => Or.inr hq)
  · rw [← hown]; exact findClass_of_methodNamed B.named
  · refine ⟨hD0.1, fun i q hq => ?_⟩
    obtain ⟨kd, a1, b1⟩ := wo_inv K 0 i q hq
    subst b1
    exact Or.inl ⟨i, (List.getElem?_eq_some_iff.mp a1).1, by rw [Nat.zero_add]⟩
end
section
section
variable {p : Program} {l : Launch} {e : Env} {R : Room} {s : State} {m : MethodId} {args : Array Value} {below : List Frame} {meth : Method} {c : Code} {H : Heap} {locs : List Loc} {cells slots : Nat} {Q : State → Prop} {pc : Nat} {ls : Array Slot} {st st0 : List Value}
variable {ws : List Cond} {own : String} {cc : ByteArray} {nL : Nat} {ret : Option FieldType} {D : va_G} {cA : FieldType → ClassId} {K : List Kd} {h : Nat → Nat} {σ : St} {A : Nat → Prop} {H0 : Heap} {vl : List (Option Value)}
theorem wd_self (hw : wd D cA K h σ A H0 H locs) (hA : ∀ q, H0.size ≤ q → A q) : ∀ q, aA K.length h H.size q → A q := by
  rintro q (⟨i, hi, rfl⟩ | hq)
  · have := hw.2.1.2 i _ (wo_get K 0 i _ (List.getElem?_eq_getElem hi))
    simpa using this
  · exact hA q (Nat.le_trans hw.2.2.1 hq)
theorem wd_T (hw : wd D cA K h σ A H0 H locs) : va_D (fun _ => True) (wo cA h σ 0 K) := hw.2.1.weaken (fun _ _ _ _ => trivial)
theorem run_v0 (C : cx p s m args meth c ws own cc nL ret D cA) (hw : wd D cA K h σ A s.heap H locs) {ci : Nat} {fds : List (Option (Option Nat))} {Cn : String} {T : u_T} {N : Nat} {ty : Nat → FieldType} (hc : clo ci Cn T N ty) (h0 : K[0]? = some (.inl (ci, fds))) {y : MethodName} {ws' : List Cond} {rm' : Room} {As : List Value} {Qc : Array Value → State → Outcome → State → Prop} {ix n maxL : Nat} {bytes : ByteArray} {ret' : Option FieldType}
    (hM : Met l y ws' rm' (va_Pc (.ref (h 0) :: As) (preS D cA K h σ H.size)) Qc 0 0 (aA K.length h H.size)) (cw : CallW R s args own Cn ix y bytes maxL ret' ws' rm' 0 0 n) (hn : As.length = n) (hst : st0 = As.reverse ++ .ref (h 0) :: st) (hcat : Nat.ble (st.map fun v => v.category).sum 8 = true) (hl : lh ls nL vl) (hd : decode cc pc = .ok (.invokevirtual ix, 3)) (hf : cells ≤ R.cells ∧ slots ≤ R.slots) :
    va_Run p l e R s m args below meth c H locs cells slots 0 0 (F0 m pc ls st0) st (Qc (Value.ref (h 0) :: As).toArray) (aA K.length h H.size) :=
  va_runV ⟨C.1, C.2.1, C.2.2.1, C.2.2.2.1, C.2.2.2.2.1⟩ hM cw
    ⟨preS_blind, va_recv C.2.2.2.2.2.2.2 hw.1 hc.1 (wo_get K 0 0 _ h0), fun U hU hW => ⟨rfl, by rw [hU], by rw [hU]; exact hw.1, va_K.moved hW.alike C.2.2.2.2.2.2.2, wd_T hw⟩⟩
    rfl hn hl.1 hst (lv_room (Nat.le_of_ble_eq_true hcat)) hd hf
theorem run_s0 (C : cx p s m args meth c ws own cc nL ret D cA) (hw : wd D cA K h σ A s.heap H locs) {y : MethodName} {ws' : List Cond} {rm' : Room} {As : List Value} {Qc : Array Value → State → Outcome → State → Prop} {ix n maxL : Nat} {bytes : ByteArray} {ret' : Option FieldType}
    (hM : Met l y ws' rm' (va_Pc As (preS D cA K h σ H.size)) Qc 0 0 (aA K.length h H.size)) (cw : CallB R s args own ix y bytes maxL ret' ws' rm' 0 0 n ∧ (Cond.static y).before args s = true) (hn : As.length = n) (hst : st0 = As.reverse ++ st) (hcat : Nat.ble (st.map fun v => v.category).sum 8 = true) (hl : lh ls nL vl) (hd : decode cc pc = .ok (.invokestatic ix, 3)) (hf : cells ≤ R.cells ∧ slots ≤ R.slots) :
    va_Run p l e R s m args below meth c H locs cells slots 0 0 (F0 m pc ls st0) st (Qc As.toArray) (aA K.length h H.size) :=
  va_runS ⟨C.1, C.2.1, C.2.2.1, C.2.2.2.1, C.2.2.2.2.1⟩ hM cw
    ⟨preS_blind, fun U hU hW => ⟨rfl, by rw [hU], by rw [hU]; exact hw.1, va_K.moved hW.alike C.2.2.2.2.2.2.2, wd_T hw⟩⟩
    rfl hn hl.1 hst (lv_room (Nat.le_of_ble_eq_true hcat)) hd hf
theorem r_cI0 (hA : ∀ q, s.heap.size ≤ q → A q) (hw : wd D cA K h σ A s.heap H locs) {a : Array Value} {post : Int → St → Prop}
    (hr : va_Run p l e R s m args below meth c H locs cells slots 0 0 (F0 m pc ls st0) st (QI D cA K h H.size post a) (aA K.length h H.size))
    (k : ∀ (r : Int) (σ' : St) (H1 : Heap) (locs1 : List Loc), post r σ' → wd D cA K h σ' A s.heap H1 locs1 → W p l e R s m args below meth c H1 locs1 cells slots Q (F0 m (pc + 3) ls (iv r :: st))) : W p l e R s m args below meth c H locs cells slots Q (F0 m pc ls st0) :=
  va_calli hr hw.2.2 (fun q _ hq => wd_self hw hA q hq) (wd_self hw hA) (fun r u t H1 locs1 ht hvm hp hB hz hk hS => by
    obtain ⟨rfl, hp⟩ := hp
    subst ht
    exact k u.1 u.2 _ locs1 hp ⟨hB, wo_D hw.2.1, hS⟩)
theorem r_cL0 (hA : ∀ q, s.heap.size ≤ q → A q) (hw : wd D cA K h σ A s.heap H locs) {a : Array Value} {post : Int → St → Prop}
    (hr : va_Run p l e R s m args below meth c H locs cells slots 0 0 (F0 m pc ls st0) st (QL D cA K h H.size post a) (aA K.length h H.size))
    (k : ∀ (r : Int) (σ' : St) (H1 : Heap) (locs1 : List Loc), post r σ' → wd D cA K h σ' A s.heap H1 locs1 → W p l e R s m args below meth c H1 locs1 cells slots Q (F0 m (pc + 3) ls (jv r :: st))) : W p l e R s m args below meth c H locs cells slots Q (F0 m pc ls st0) :=
  va_calll hr hw.2.2 (fun q _ hq => wd_self hw hA q hq) (wd_self hw hA) (fun r u t H1 locs1 ht hvm hp hB hz hk hS => by
    obtain ⟨rfl, hp⟩ := hp
    subst ht
    exact k u.1 u.2 _ locs1 hp ⟨hB, wo_D hw.2.1, hS⟩)
theorem r_cV0 (hA : ∀ q, s.heap.size ≤ q → A q) (hw : wd D cA K h σ A s.heap H locs) {a : Array Value} {post : St → Prop}
    (hr : va_Run p l e R s m args below meth c H locs cells slots 0 0 (F0 m pc ls st0) st (QV D cA K h H.size post a) (aA K.length h H.size))
    (k : ∀ (σ' : St) (H1 : Heap) (locs1 : List Loc), post σ' → wd D cA K h σ' A s.heap H1 locs1 → W p l e R s m args below meth c H1 locs1 cells slots Q (F0 m (pc + 3) ls st)) : W p l e R s m args below meth c H locs cells slots Q (F0 m pc ls st0) :=
  va_callv hr hw.2.2 (fun q _ hq => wd_self hw hA q hq) (wd_self hw hA) (fun u t H1 locs1 ht hvm hp hB hz hk hS => by
    subst ht
    exact k u _ locs1 hp ⟨hB, wo_D hw.2.1, hS⟩)
theorem r_cR0 (hA : ∀ q, s.heap.size ≤ q → A q) (hw : wd D cA K h σ A s.heap H locs) {a : Array Value} {rk : Nat} {post : St → Prop}
    (hr : va_Run p l e R s m args below meth c H locs cells slots 0 0 (F0 m pc ls st0) st (QR D cA K h H.size rk post a) (aA K.length h H.size))
    (k : ∀ (σ' : St) (H1 : Heap) (locs1 : List Loc), post σ' → wd D cA K h σ' A s.heap H1 locs1 → W p l e R s m args below meth c H1 locs1 cells slots Q (F0 m (pc + 3) ls (.ref (h rk) :: st))) : W p l e R s m args below meth c H locs cells slots Q (F0 m pc ls st0) :=
  va_callr hr hw.2.2 (fun q _ hq => wd_self hw hA q hq) (wd_self hw hA) (fun u ra t H1 locs1 ht hvm hp hB hz hk hS => by
    subst ht
    obtain ⟨rfl, hB⟩ := hB
    exact k u _ locs1 hp ⟨hB, wo_D hw.2.1, hS⟩)
theorem r_cIr0 (hA : ∀ q, s.heap.size ≤ q → A q) (hw : wd D cA K h σ A s.heap H locs) {a : Array Value} {post : Int → Prop}
    (hr : va_Run p l e R s m args below meth c H locs cells slots 0 0 (F0 m pc ls st0) st (QI D cA K h H.size (fun r σ' => σ' = σ ∧ post r) a) (aA K.length h H.size))
    (k : ∀ (r : Int) (H1 : Heap) (locs1 : List Loc), post r → wd D cA K h σ A s.heap H1 locs1 → W p l e R s m args below meth c H1 locs1 cells slots Q (F0 m (pc + 3) ls (iv r :: st))) : W p l e R s m args below meth c H locs cells slots Q (F0 m pc ls st0) :=
  r_cI0 hA hw hr (fun r σ' H1 locs1 hp hw1 => by
    obtain ⟨rfl, hp⟩ := hp
    exact k r H1 locs1 hp hw1)
theorem r_cLr0 (hA : ∀ q, s.heap.size ≤ q → A q) (hw : wd D cA K h σ A s.heap H locs) {a : Array Value} {post : Int → Prop}
    (hr : va_Run p l e R s m args below meth c H locs cells slots 0 0 (F0 m pc ls st0) st (QL D cA K h H.size (fun r σ' => σ' = σ ∧ post r) a) (aA K.length h H.size))
    (k : ∀ (r : Int) (H1 : Heap) (locs1 : List Loc), post r → wd D cA K h σ A s.heap H1 locs1 → W p l e R s m args below meth c H1 locs1 cells slots Q (F0 m (pc + 3) ls (jv r :: st))) : W p l e R s m args below meth c H locs cells slots Q (F0 m pc ls st0) :=
  r_cL0 hA hw hr (fun r σ' H1 locs1 hp hw1 => by
    obtain ⟨rfl, hp⟩ := hp
    exact k r H1 locs1 hp hw1)
theorem r_max (C : cx p s m args meth c ws own cc nL ret D cA) (hl : lh ls nL vl) {ix : Nat} (q1 : Cond.methodLink own ix Lib.Math.max.name ∈ ws) (q2 : Cond.static Lib.Math.max.name ∈ ws) (q3 : Cond.initialized "java/lang/Math" ∈ ws) (q4 : Cond.code Lib.Math.max.name Lib.Math.max.code 2 (some .int) ∈ ws) (hfr : 1 ≤ R.frames) (hlo : (st.map fun v => v.category).sum + 13 ≤ R.locals) (hc : cells ≤ R.cells) (hs : slots ≤ R.slots) {a b : Int} (ra : rg a) (rb : rg b) (hd : decode cc pc = .ok (.invokestatic ix, 3))
    (kk : W p l e R s m args below meth c H locs cells slots Q (F0 m (pc + 3) ls (iv (if a < b then b else a) :: st))) : W p l e R s m args below meth c H locs cells slots Q (F0 m pc ls (iv b :: iv a :: st)) := by
  refine va_mmax C.1 C.2.1 (C.2.2.1.trans hl.1.symm) C.2.2.2.1 (C.2.2.2.2.1 _ q1) (C.2.2.2.2.1 _ q2) (C.2.2.2.2.1 _ q3) (C.2.2.2.2.1 _ q4) hfr hlo hc hs hd ?_
  have e1 : (Value.int (if Int32.ofInt a < Int32.ofInt b then Int32.ofInt b else Int32.ofInt a)) = iv (if a < b then b else a) := by
    rw [iv]
    by_cases q : a < b
    · rw [if_pos q, if_pos ((oi_lt ra rb).mpr q)]
    · rw [if_neg q, if_neg (fun z => q ((oi_lt ra rb).mp z))]
  rw [e1]; exact kk
end
def cpy (σ : St) (k0 : Nat) (sp : Int) (k1 : Nat) (dp n : Int) : St := fun k j => if k = k1 ∧ dp ≤ j ∧ j < dp + n then σ k0 (sp + (j - dp)) else σ k j
section
variable {p : Program} {l : Launch} {e : Env} {R : Room} {s : State} {m : MethodId} {args : Array Value} {below : List Frame} {meth : Method} {c : Code} {H : Heap} {locs : List Loc} {cells slots : Nat} {Q : State → Prop} {pc : Nat} {ls : Array Slot} {st st0 : List Value}
variable {ws : List Cond} {own : String} {cc : ByteArray} {nL : Nat} {ret : Option FieldType} {D : va_G} {cA : FieldType → ClassId} {K : List Kd} {h : Nat → Nat} {σ : St} {A : Nat → Prop} {H0 : Heap} {vl : List (Option Value)}
theorem wd_cpy {k1 n1 : Nat} {ty : FieldType} (hk : K[k1]? = some (.inr (.inl (ty, n1)))) {σ' : St} (h0 : ∀ k, k ≠ k1 → σ' k = σ k) {f' : (Nat → Int32) ⊕ (Nat → Int64) ⊕ (Nat → UInt32) ⊕ (Nat → UInt64) ⊕ (Nat → Option Nat)} (hf : f' = ear ty (σ' k1)) : (wo cA h σ 0 K).set k1 (h k1, .inl (cA ty, n1, f')) = wo cA h σ' 0 K := by
  have h1 := wo_set (cA := cA) (h := h) (σ := σ) (σ' := σ') K 0 k1 _ hk (fun k' hk' => h0 k' (by omega))
  rw [Nat.zero_add] at h1
  rw [← h1, hf]; rfl
theorem cpy_ne {k0 k1 : Nat} {sp dp n : Int} (k : Nat) (hk : k ≠ k1) : cpy σ k0 sp k1 dp n k = σ k := by funext j; simp [cpy, hk]
theorem cpy_i {k0 k1 : Nat} {sp dp n : Int} (h1 : 0 ≤ sp) (h2 : 0 ≤ dp) (h3 : 0 ≤ n) : va_cpy (fun i : Nat => Int32.ofInt (σ k0 (i : Int))) (fun i : Nat => Int32.ofInt (σ k1 (i : Int))) sp.toNat dp.toNat n.toNat = fun i : Nat => Int32.ofInt (cpy σ k0 sp k1 dp n k1 (i : Int)) := by
  funext i
  simp only [va_cpy, cpy]
  by_cases q : dp.toNat ≤ i ∧ i < dp.toNat + n.toNat
  · rw [if_pos q, if_pos ⟨trivial, by omega, by omega⟩]
    congr 2; omega
  · rw [if_neg q, if_neg (by omega)]
theorem cpy_l {k0 k1 : Nat} {sp dp n : Int} (h1 : 0 ≤ sp) (h2 : 0 ≤ dp) (h3 : 0 ≤ n) : va_cpy (fun i : Nat => Int64.ofInt (σ k0 (i : Int))) (fun i : Nat => Int64.ofInt (σ k1 (i : Int))) sp.toNat dp.toNat n.toNat = fun i : Nat => Int64.ofInt (cpy σ k0 sp k1 dp n k1 (i : Int)) := by
  funext i
  simp only [va_cpy, cpy]
  by_cases q : dp.toNat ≤ i ∧ i < dp.toNat + n.toNat
  · rw [if_pos q, if_pos ⟨trivial, by omega, by omega⟩]
    congr 2; omega
  · rw [if_neg q, if_neg (by omega)]
theorem oi_n {a : Int} (h0 : 0 ≤ a) (h : a < 2147483648) : ¬ Int32.ofInt a < 0 := by rw [oi_0, oi_lt ⟨by omega, h⟩ ⟨by omega, by omega⟩]; omega
theorem r_copy_int (C : cx p s m args meth c ws own cc nL ret D cA) (hw : wd D cA K h σ A H0 H locs) (hl : lh ls nL vl) (k0 k1 : Nat) {n0 n1 : Nat} (hk0 : K[k0]? = some (.inr (.inl (.int, n0)))) (hk1 : K[k1]? = some (.inr (.inl (.int, n1)))) (hn0 : Nat.ble (n0 + 1) 2147483648 = true) (hn1 : Nat.ble (n1 + 1) 2147483648 = true) {ix : Nat} (q1 : Cond.methodLink own ix arraycopyName ∈ ws) (q2 : Cond.native arraycopyName ∈ ws) (q3 : Cond.static arraycopyName ∈ ws) (q4 : Cond.initialized "java/lang/System" ∈ ws) {sp dp n : Int} (h1 : 0 ≤ sp) (h2 : 0 ≤ dp) (h3 : 0 ≤ n) (h4 : sp + n ≤ (n0 : Int)) (h5 : dp + n ≤ (n1 : Int)) (hfr : 1 ≤ R.frames) (hlo : (st.map fun v => v.category).sum + (nativeFrameWords "java/lang/System" "arraycopy" 5 + 11) ≤ R.locals) (hd : decode cc pc = .ok (.invokestatic ix, 3))
    (kk : ∀ (H1 : Heap) (locs1 : List Loc), wd D cA K h (cpy σ k0 sp k1 dp n) A H0 H1 locs1 → W p l e R s m args below meth c H1 locs1 cells slots Q (F0 m (pc + 3) ls st)) : W p l e R s m args below meth c H locs cells slots Q (F0 m pc ls (iv n :: iv dp :: .ref (h k1) :: iv sp :: .ref (h k0) :: st)) := by
  have he0 := wo_get (cA := cA) (h := h) (σ := σ) K 0 k0 _ hk0
  have he1 := wo_get (cA := cA) (h := h) (σ := σ) K 0 k1 _ hk1
  rw [Nat.zero_add] at he0 he1
  have a0 : n0 < 2147483648 := Nat.le_of_ble_eq_true hn0
  have a1 : n1 < 2147483648 := Nat.le_of_ble_eq_true hn1
  have e1 := oi_cl h1 (show sp < 2147483648 by omega)
  have e2 := oi_cl h2 (show dp < 2147483648 by omega)
  have e3 := oi_cl h3 (show n < 2147483648 by omega)
  refine va_copyi (D := D) (f := fun i : Nat => Int32.ofInt (σ k0 (i : Int))) (g := fun i : Nat => Int32.ofInt (σ k1 (i : Int))) C.1 C.2.1 (C.2.2.1.trans hl.1.symm) C.2.2.2.1 (C.2.2.2.2.1 _ q1) (C.2.2.2.2.1 _ q2) (C.2.2.2.2.1 _ q3) (C.2.2.2.2.1 _ q4) C.2.2.2.2.2.2.2 hw.1 hw.2.1 hw.2.2 k0 k1 0 0 he0 he1 rfl rfl rfl (oi_n h1 (by omega)) (oi_n h2 (by omega)) (oi_n h3 (by omega)) (by rw [e1, e3]; omega) (by rw [e2, e3]; omega) (fun _ _ => rfl) hfr hlo hd (fun H1 locs1 hP hD hS => kk H1 locs1 ?_)
  rw [e1, e2, e3, cpy_i h1 h2 h3] at hP hD
  have hP : va_P D vwCl ((wo cA h σ 0 K).set k1 (h k1, .inl (cA .int, n1, ear .int (cpy σ k0 sp k1 dp n k1)))) H1 := hP
  have hD : va_D A ((wo cA h σ 0 K).set k1 (h k1, .inl (cA .int, n1, ear .int (cpy σ k0 sp k1 dp n k1)))) := hD
  rw [wd_cpy hk1 (fun k hk => cpy_ne k hk) rfl] at hP hD
  exact ⟨hP, hD, hS⟩
theorem r_copy_long (C : cx p s m args meth c ws own cc nL ret D cA) (hw : wd D cA K h σ A H0 H locs) (hl : lh ls nL vl) (k0 k1 : Nat) {n0 n1 : Nat} (hk0 : K[k0]? = some (.inr (.inl (.long, n0)))) (hk1 : K[k1]? = some (.inr (.inl (.long, n1)))) (hn0 : Nat.ble (n0 + 1) 2147483648 = true) (hn1 : Nat.ble (n1 + 1) 2147483648 = true) {ix : Nat} (q1 : Cond.methodLink own ix arraycopyName ∈ ws) (q2 : Cond.native arraycopyName ∈ ws) (q3 : Cond.static arraycopyName ∈ ws) (q4 : Cond.initialized "java/lang/System" ∈ ws) {sp dp n : Int} (h1 : 0 ≤ sp) (h2 : 0 ≤ dp) (h3 : 0 ≤ n) (h4 : sp + n ≤ (n0 : Int)) (h5 : dp + n ≤ (n1 : Int)) (hfr : 1 ≤ R.frames) (hlo : (st.map fun v => v.category).sum + (nativeFrameWords "java/lang/System" "arraycopy" 5 + 11) ≤ R.locals) (hd : decode cc pc = .ok (.invokestatic ix, 3))
    (kk : ∀ (H1 : Heap) (locs1 : List Loc), wd D cA K h (cpy σ k0 sp k1 dp n) A H0 H1 locs1 → W p l e R s m args below meth c H1 locs1 cells slots Q (F0 m (pc + 3) ls st)) : W p l e R s m args below meth c H locs cells slots Q (F0 m pc ls (iv n :: iv dp :: .ref (h k1) :: iv sp :: .ref (h k0) :: st)) := by
  have he0 := wo_get (cA := cA) (h := h) (σ := σ) K 0 k0 _ hk0
  have he1 := wo_get (cA := cA) (h := h) (σ := σ) K 0 k1 _ hk1
  rw [Nat.zero_add] at he0 he1
  have a0 : n0 < 2147483648 := Nat.le_of_ble_eq_true hn0
  have a1 : n1 < 2147483648 := Nat.le_of_ble_eq_true hn1
  have e1 := oi_cl h1 (show sp < 2147483648 by omega)
  have e2 := oi_cl h2 (show dp < 2147483648 by omega)
  have e3 := oi_cl h3 (show n < 2147483648 by omega)
  refine va_copyl (D := D) (f := fun i : Nat => Int64.ofInt (σ k0 (i : Int))) (g := fun i : Nat => Int64.ofInt (σ k1 (i : Int))) C.1 C.2.1 (C.2.2.1.trans hl.1.symm) C.2.2.2.1 (C.2.2.2.2.1 _ q1) (C.2.2.2.2.1 _ q2) (C.2.2.2.2.1 _ q3) (C.2.2.2.2.1 _ q4) C.2.2.2.2.2.2.2 hw.1 hw.2.1 hw.2.2 k0 k1 1 1 he0 he1 rfl rfl rfl (oi_n h1 (by omega)) (oi_n h2 (by omega)) (oi_n h3 (by omega)) (by rw [e1, e3]; omega) (by rw [e2, e3]; omega) (fun _ _ => rfl) hfr hlo hd (fun H1 locs1 hP hD hS => kk H1 locs1 ?_)
  rw [e1, e2, e3, cpy_l h1 h2 h3] at hP hD
  have hP : va_P D vwCl ((wo cA h σ 0 K).set k1 (h k1, .inl (cA .long, n1, ear .long (cpy σ k0 sp k1 dp n k1)))) H1 := hP
  have hD : va_D A ((wo cA h σ 0 K).set k1 (h k1, .inl (cA .long, n1, ear .long (cpy σ k0 sp k1 dp n k1)))) := hD
  rw [wd_cpy hk1 (fun k hk => cpy_ne k hk) rfl] at hP hD
  exact ⟨hP, hD, hS⟩
end
end
section
def K_HR (N : Nat) : List Kd := [.inl (1, [some (some 1), some (some 2), some (some 3), none]), .inr (.inl (.int, N)), .inr (.inl (.int, N)), .inr (.inl (.int, N))]
def K_RT : List Kd := [.inl (2, [some (some 1)]), .inr (.inl (.int, 512))]
def K_Setup : List Kd := [.inl (3, [none, some (some 1), none, none, none, some (some 2), none, some (some 3), some (some 4), some (some 8), some (some 12)]), .inr (.inl (.int, 16)), .inr (.inl (.int, 12)), .inr (.inl (.int, 8)), .inl (1, [some (some 5), some (some 6), some (some 7), none]), .inr (.inl (.int, 5)), .inr (.inl (.int, 5)), .inr (.inl (.int, 5)), .inl (1, [some (some 9), some (some 10), some (some 11), none]), .inr (.inl (.int, 8)), .inr (.inl (.int, 8)), .inr (.inl (.int, 8)), .inl (1, [some (some 13), some (some 14), some (some 15), none]), .inr (.inl (.int, 8)), .inr (.inl (.int, 8)), .inr (.inl (.int, 8))]
def K_Touch : List Kd := [.inl (6, [some (some 1), none, none, some (some 2), some (some 3), some (some 4), some (some 5), none]), .inr (.inl (.int, 193)), .inr (.inl (.int, 16)), .inr (.inl (.int, 3)), .inr (.inl (.int, 193)), .inl (2, [some (some 6)]), .inr (.inl (.int, 512))]
def K_Few : List Kd := [.inl (0, [none, none, some (some 1), some (some 8), some (some 10), none, none]), .inl (6, [some (some 2), none, none, some (some 3), some (some 4), some (some 5), some (some 6), none]), .inr (.inl (.int, 193)), .inr (.inl (.int, 16)), .inr (.inl (.int, 3)), .inr (.inl (.int, 193)), .inl (2, [some (some 7)]), .inr (.inl (.int, 512)), .inl (2, [some (some 9)]), .inr (.inl (.int, 512)), .inr (.inl (.boolean, 3))]
def K_Text : List Kd := [.inl (4, [none, some (some 1), none, some (some 2), some (some 3), none, some (some 4), none]), .inr (.inl (.byte, 100)), .inr (.inl (.int, 10)), .inr (.inl (.int, 11)), .inr (.inl (.int, 100))]
def K_Tape : List Kd := [.inl (5, [none, none, some (some 1)]), .inr (.inl (.long, 60))]
def K_BT : List Kd := [.inl (7, [some (some 1), some (some 17), some (some 33), some (some 49), some (some 56), some (some 63), some (some 74), some (some 79), none, none]), .inl (3, [none, some (some 2), none, none, none, some (some 3), none, some (some 4), some (some 5), some (some 9), some (some 13)]), .inr (.inl (.int, 16)), .inr (.inl (.int, 12)), .inr (.inl (.int, 8)), .inl (1, [some (some 6), some (some 7), some (some 8), none]), .inr (.inl (.int, 5)), .inr (.inl (.int, 5)), .inr (.inl (.int, 5)), .inl (1, [some (some 10), some (some 11), some (some 12), none]), .inr (.inl (.int, 8)), .inr (.inl (.int, 8)), .inr (.inl (.int, 8)), .inl (1, [some (some 14), some (some 15), some (some 16), none]), .inr (.inl (.int, 8)), .inr (.inl (.int, 8)), .inr (.inl (.int, 8)), .inl (3, [none, some (some 18), none, none, none, some (some 19), none, some (some 20), some (some 21), some (some 25), some (some 29)]), .inr (.inl (.int, 16)), .inr (.inl (.int, 12)), .inr (.inl (.int, 8)), .inl (1, [some (some 22), some (some 23), some (some 24), none]), .inr (.inl (.int, 5)), .inr (.inl (.int, 5)), .inr (.inl (.int, 5)), .inl (1, [some (some 26), some (some 27), some (some 28), none]), .inr (.inl (.int, 8)), .inr (.inl (.int, 8)), .inr (.inl (.int, 8)), .inl (1, [some (some 30), some (some 31), some (some 32), none]), .inr (.inl (.int, 8)), .inr (.inl (.int, 8)), .inr (.inl (.int, 8)), .inl (3, [none, some (some 34), none, none, none, some (some 35), none, some (some 36), some (some 37), some (some 41), some (some 45)]), .inr (.inl (.int, 16)), .inr (.inl (.int, 12)), .inr (.inl (.int, 8)), .inl (1, [some (some 38), some (some 39), some (some 40), none]), .inr (.inl (.int, 5)), .inr (.inl (.int, 5)), .inr (.inl (.int, 5)), .inl (1, [some (some 42), some (some 43), some (some 44), none]), .inr (.inl (.int, 8)), .inr (.inl (.int, 8)), .inr (.inl (.int, 8)), .inl (1, [some (some 46), some (some 47), some (some 48), none]), .inr (.inl (.int, 8)), .inr (.inl (.int, 8)), .inr (.inl (.int, 8)), .inl (6, [some (some 50), none, none, some (some 51), some (some 52), some (some 53), some (some 54), none]), .inr (.inl (.int, 193)), .inr (.inl (.int, 16)), .inr (.inl (.int, 3)), .inr (.inl (.int, 193)), .inl (2, [some (some 55)]), .inr (.inl (.int, 512)), .inl (6, [some (some 57), none, none, some (some 58), some (some 59), some (some 60), some (some 61), none]), .inr (.inl (.int, 193)), .inr (.inl (.int, 16)), .inr (.inl (.int, 3)), .inr (.inl (.int, 193)), .inl (2, [some (some 62)]), .inr (.inl (.int, 512)), .inl (0, [none, none, some (some 64), some (some 71), some (some 73), none, none]), .inl (6, [some (some 65), none, none, some (some 66), some (some 67), some (some 68), some (some 69), none]), .inr (.inl (.int, 193)), .inr (.inl (.int, 16)), .inr (.inl (.int, 3)), .inr (.inl (.int, 193)), .inl (2, [some (some 70)]), .inr (.inl (.int, 512)), .inl (2, [some (some 72)]), .inr (.inl (.int, 512)), .inr (.inl (.boolean, 3)), .inl (4, [none, some (some 75), none, some (some 76), some (some 77), none, some (some 78), none]), .inr (.inl (.byte, 100)), .inr (.inl (.int, 10)), .inr (.inl (.int, 11)), .inr (.inl (.int, 100)), .inr (.inr ("BellTouches$Tape", [some 80, some 82, some 84, some 86, some 88, some 90])), .inl (5, [none, none, some (some 81)]), .inr (.inl (.long, 60)), .inl (5, [none, none, some (some 83)]), .inr (.inl (.long, 60)), .inl (5, [none, none, some (some 85)]), .inr (.inl (.long, 60)), .inl (5, [none, none, some (some 87)]), .inr (.inl (.long, 60)), .inl (5, [none, none, some (some 89)]), .inr (.inl (.long, 60)), .inl (5, [none, none, some (some 91)]), .inr (.inl (.long, 60))]
def K_M : List Kd := [.inl (8, [some (some 1), some (some 2), none, none, some (some 3), some (some 4), none, some (some 5), none, none, none, some (some 6), some (some 7), some (some 8), none, some (some 9), some (some 10), some (some 11), some (some 12), some (some 13)]), .inr (.inl (.int, 91)), .inr (.inl (.int, 91)), .inr (.inl (.int, 1544)), .inr (.inl (.int, 193)), .inr (.inl (.int, 100)), .inr (.inl (.int, 10)), .inr (.inl (.int, 10)), .inr (.inl (.int, 10)), .inr (.inl (.int, 100)), .inr (.inl (.int, 6)), .inr (.inl (.int, 6)), .inr (.inl (.long, 360)), .inr (.inl (.long, 60))]
def K_HR2 (N : Nat) : List Kd := [.inl (1, [some (some 1), some (some 2), some (some 3), none]), .inr (.inl (.int, N)), .inr (.inl (.int, N)), .inr (.inl (.int, N)), .inl (1, [some (some 5), some (some 6), some (some 7), none]), .inr (.inl (.int, N)), .inr (.inl (.int, N)), .inr (.inl (.int, N))]
def K_RTr : List Kd := [.inl (2, [some (some 1)]), .inr (.inl (.int, 512)), .inr (.inl (.int, 193))]
def K_Setup2 : List Kd := [.inl (3, [none, some (some 1), none, none, none, some (some 2), none, some (some 3), some (some 4), some (some 8), some (some 12)]), .inr (.inl (.int, 16)), .inr (.inl (.int, 12)), .inr (.inl (.int, 8)), .inl (1, [some (some 5), some (some 6), some (some 7), none]), .inr (.inl (.int, 5)), .inr (.inl (.int, 5)), .inr (.inl (.int, 5)), .inl (1, [some (some 9), some (some 10), some (some 11), none]), .inr (.inl (.int, 8)), .inr (.inl (.int, 8)), .inr (.inl (.int, 8)), .inl (1, [some (some 13), some (some 14), some (some 15), none]), .inr (.inl (.int, 8)), .inr (.inl (.int, 8)), .inr (.inl (.int, 8)), .inl (3, [none, some (some 17), none, none, none, some (some 18), none, some (some 19), some (some 20), some (some 24), some (some 28)]), .inr (.inl (.int, 16)), .inr (.inl (.int, 12)), .inr (.inl (.int, 8)), .inl (1, [some (some 21), some (some 22), some (some 23), none]), .inr (.inl (.int, 5)), .inr (.inl (.int, 5)), .inr (.inl (.int, 5)), .inl (1, [some (some 25), some (some 26), some (some 27), none]), .inr (.inl (.int, 8)), .inr (.inl (.int, 8)), .inr (.inl (.int, 8)), .inl (1, [some (some 29), some (some 30), some (some 31), none]), .inr (.inl (.int, 8)), .inr (.inl (.int, 8)), .inr (.inl (.int, 8))]
def K_TouchS : List Kd := [.inl (6, [some (some 1), none, none, some (some 2), some (some 3), some (some 4), some (some 5), none]), .inr (.inl (.int, 193)), .inr (.inl (.int, 16)), .inr (.inl (.int, 3)), .inr (.inl (.int, 193)), .inl (2, [some (some 6)]), .inr (.inl (.int, 512)), .inl (3, [none, some (some 8), none, none, none, some (some 9), none, some (some 10), some (some 11), some (some 15), some (some 19)]), .inr (.inl (.int, 16)), .inr (.inl (.int, 12)), .inr (.inl (.int, 8)), .inl (1, [some (some 12), some (some 13), some (some 14), none]), .inr (.inl (.int, 5)), .inr (.inl (.int, 5)), .inr (.inl (.int, 5)), .inl (1, [some (some 16), some (some 17), some (some 18), none]), .inr (.inl (.int, 8)), .inr (.inl (.int, 8)), .inr (.inl (.int, 8)), .inl (1, [some (some 20), some (some 21), some (some 22), none]), .inr (.inl (.int, 8)), .inr (.inl (.int, 8)), .inr (.inl (.int, 8))]
def K_FewS : List Kd := [.inl (0, [none, none, some (some 1), some (some 8), some (some 10), none, none]), .inl (6, [some (some 2), none, none, some (some 3), some (some 4), some (some 5), some (some 6), none]), .inr (.inl (.int, 193)), .inr (.inl (.int, 16)), .inr (.inl (.int, 3)), .inr (.inl (.int, 193)), .inl (2, [some (some 7)]), .inr (.inl (.int, 512)), .inl (2, [some (some 9)]), .inr (.inl (.int, 512)), .inr (.inl (.boolean, 3)), .inl (3, [none, some (some 12), none, none, none, some (some 13), none, some (some 14), some (some 15), some (some 19), some (some 23)]), .inr (.inl (.int, 16)), .inr (.inl (.int, 12)), .inr (.inl (.int, 8)), .inl (1, [some (some 16), some (some 17), some (some 18), none]), .inr (.inl (.int, 5)), .inr (.inl (.int, 5)), .inr (.inl (.int, 5)), .inl (1, [some (some 20), some (some 21), some (some 22), none]), .inr (.inl (.int, 8)), .inr (.inl (.int, 8)), .inr (.inl (.int, 8)), .inl (1, [some (some 24), some (some 25), some (some 26), none]), .inr (.inl (.int, 8)), .inr (.inl (.int, 8)), .inr (.inl (.int, 8))]
def K_TextS : List Kd := [.inl (4, [none, some (some 1), none, some (some 2), some (some 3), none, some (some 4), none]), .inr (.inl (.byte, 100)), .inr (.inl (.int, 10)), .inr (.inl (.int, 11)), .inr (.inl (.int, 100)), .inl (3, [none, some (some 6), none, none, none, some (some 7), none, some (some 8), some (some 9), some (some 13), some (some 17)]), .inr (.inl (.int, 16)), .inr (.inl (.int, 12)), .inr (.inl (.int, 8)), .inl (1, [some (some 10), some (some 11), some (some 12), none]), .inr (.inl (.int, 5)), .inr (.inl (.int, 5)), .inr (.inl (.int, 5)), .inl (1, [some (some 14), some (some 15), some (some 16), none]), .inr (.inl (.int, 8)), .inr (.inl (.int, 8)), .inr (.inl (.int, 8)), .inl (1, [some (some 18), some (some 19), some (some 20), none]), .inr (.inl (.int, 8)), .inr (.inl (.int, 8)), .inr (.inl (.int, 8))]
def K_0 : List Kd := []
theorem clX0 : clo 0 RX0 TX0 7 tyX0 := ⟨rfl, tyX0_ok, nmX0⟩
theorem clX1 : clo 1 RX1 TX1 4 tyX1 := ⟨rfl, tyX1_ok, nmX1⟩
theorem clX3 : clo 2 RX3 TX3 1 tyX3 := ⟨rfl, tyX3_ok, nmX3⟩
theorem clX4 : clo 3 RX4 TX4 11 tyX4 := ⟨rfl, tyX4_ok, nmX4⟩
theorem clX5 : clo 4 RX5 TX5 8 tyX5 := ⟨rfl, tyX5_ok, nmX5⟩
theorem clX6 : clo 5 RX6 TX6 3 tyX6 := ⟨rfl, tyX6_ok, nmX6⟩
theorem clX7 : clo 6 RX7 TX7 8 tyX7 := ⟨rfl, tyX7_ok, nmX7⟩
theorem clX8 : clo 7 RX8 TX8 10 tyX8 := ⟨rfl, tyX8_ok, nmX8⟩
theorem clX9 : clo 8 RX9 TX9 20 tyX9 := ⟨rfl, tyX9_ok, nmX9⟩
theorem bpb_m14 : (Int8.ofInt (-14)).toInt32 = Int32.ofInt (-14) := by decide +kernel
theorem bpb_m13 : (Int8.ofInt (-13)).toInt32 = Int32.ofInt (-13) := by decide +kernel
theorem bpb_m12 : (Int8.ofInt (-12)).toInt32 = Int32.ofInt (-12) := by decide +kernel
theorem bpb_m11 : (Int8.ofInt (-11)).toInt32 = Int32.ofInt (-11) := by decide +kernel
theorem bpb_m10 : (Int8.ofInt (-10)).toInt32 = Int32.ofInt (-10) := by decide +kernel
theorem bpb_m5 : (Int8.ofInt (-5)).toInt32 = Int32.ofInt (-5) := by decide +kernel
theorem bpb_m4 : (Int8.ofInt (-4)).toInt32 = Int32.ofInt (-4) := by decide +kernel
theorem bpb_m3 : (Int8.ofInt (-3)).toInt32 = Int32.ofInt (-3) := by decide +kernel
theorem bpb_m2 : (Int8.ofInt (-2)).toInt32 = Int32.ofInt (-2) := by decide +kernel
theorem bpb_6 : (Int8.ofInt 6).toInt32 = Int32.ofInt 6 := by decide +kernel
theorem bpb_7 : (Int8.ofInt 7).toInt32 = Int32.ofInt 7 := by decide +kernel
theorem bpb_8 : (Int8.ofInt 8).toInt32 = Int32.ofInt 8 := by decide +kernel
theorem bpb_9 : (Int8.ofInt 9).toInt32 = Int32.ofInt 9 := by decide +kernel
theorem bpb_10 : (Int8.ofInt 10).toInt32 = Int32.ofInt 10 := by decide +kernel
theorem bpb_11 : (Int8.ofInt 11).toInt32 = Int32.ofInt 11 := by decide +kernel
theorem bpb_12 : (Int8.ofInt 12).toInt32 = Int32.ofInt 12 := by decide +kernel
theorem bpb_15 : (Int8.ofInt 15).toInt32 = Int32.ofInt 15 := by decide +kernel
theorem bpb_16 : (Int8.ofInt 16).toInt32 = Int32.ofInt 16 := by decide +kernel
theorem bpb_23 : (Int8.ofInt 23).toInt32 = Int32.ofInt 23 := by decide +kernel
theorem bpb_24 : (Int8.ofInt 24).toInt32 = Int32.ofInt 24 := by decide +kernel
theorem bpb_25 : (Int8.ofInt 25).toInt32 = Int32.ofInt 25 := by decide +kernel
theorem bpb_26 : (Int8.ofInt 26).toInt32 = Int32.ofInt 26 := by decide +kernel
theorem bpb_27 : (Int8.ofInt 27).toInt32 = Int32.ofInt 27 := by decide +kernel
theorem bpb_28 : (Int8.ofInt 28).toInt32 = Int32.ofInt 28 := by decide +kernel
theorem bpb_36 : (Int8.ofInt 36).toInt32 = Int32.ofInt 36 := by decide +kernel
theorem bpb_44 : (Int8.ofInt 44).toInt32 = Int32.ofInt 44 := by decide +kernel
theorem bpb_46 : (Int8.ofInt 46).toInt32 = Int32.ofInt 46 := by decide +kernel
theorem bpb_48 : (Int8.ofInt 48).toInt32 = Int32.ofInt 48 := by decide +kernel
theorem bpb_49 : (Int8.ofInt 49).toInt32 = Int32.ofInt 49 := by decide +kernel
theorem bpb_56 : (Int8.ofInt 56).toInt32 = Int32.ofInt 56 := by decide +kernel
theorem bpb_57 : (Int8.ofInt 57).toInt32 = Int32.ofInt 57 := by decide +kernel
theorem bpb_59 : (Int8.ofInt 59).toInt32 = Int32.ofInt 59 := by decide +kernel
theorem bpb_60 : (Int8.ofInt 60).toInt32 = Int32.ofInt 60 := by decide +kernel
theorem bpb_75 : (Int8.ofInt 75).toInt32 = Int32.ofInt 75 := by decide +kernel
theorem bpb_91 : (Int8.ofInt 91).toInt32 = Int32.ofInt 91 := by decide +kernel
theorem bpb_98 : (Int8.ofInt 98).toInt32 = Int32.ofInt 98 := by decide +kernel
theorem bpb_100 : (Int8.ofInt 100).toInt32 = Int32.ofInt 100 := by decide +kernel
theorem bpb_112 : (Int8.ofInt 112).toInt32 = Int32.ofInt 112 := by decide +kernel
theorem bpb_115 : (Int8.ofInt 115).toInt32 = Int32.ofInt 115 := by decide +kernel
theorem bpb_120 : (Int8.ofInt 120).toInt32 = Int32.ofInt 120 := by decide +kernel
theorem bpb_127 : (Int8.ofInt 127).toInt32 = Int32.ofInt 127 := by decide +kernel
theorem bps_192 : (Int16.ofInt 192).toInt32 = Int32.ofInt 192 := by decide +kernel
theorem bps_511 : (Int16.ofInt 511).toInt32 = Int32.ofInt 511 := by decide +kernel
theorem bps_512 : (Int16.ofInt 512).toInt32 = Int32.ofInt 512 := by decide +kernel
theorem sw_0_2 {a : Int} (ra : rg a) : a = 0 ∨ a = 1 ∨ a = 2 ∨ ¬ (0 ≤ a ∧ a ≤ 2) := by omega
theorem sw_0_3 {a : Int} (ra : rg a) : a = 0 ∨ a = 1 ∨ a = 2 ∨ a = 3 ∨ ¬ (0 ≤ a ∧ a ≤ 3) := by omega
theorem sw_0_6 {a : Int} (ra : rg a) : a = 0 ∨ a = 1 ∨ a = 2 ∨ a = 3 ∨ a = 4 ∨ a = 5 ∨ a = 6 ∨ ¬ (0 ≤ a ∧ a ≤ 6) := by omega
theorem sw_0_7 {a : Int} (ra : rg a) : a = 0 ∨ a = 1 ∨ a = 2 ∨ a = 3 ∨ a = 4 ∨ a = 5 ∨ a = 6 ∨ a = 7 ∨ ¬ (0 ≤ a ∧ a ≤ 7) := by omega
theorem sw_0_33 {a : Int} (ra : rg a) : a = 0 ∨ a = 1 ∨ a = 2 ∨ a = 3 ∨ a = 4 ∨ a = 5 ∨ a = 6 ∨ a = 7 ∨ a = 8 ∨ a = 9 ∨ a = 10 ∨ a = 11 ∨ a = 12 ∨ a = 13 ∨ a = 14 ∨ a = 15 ∨ a = 16 ∨ a = 17 ∨ a = 18 ∨ a = 19 ∨ a = 20 ∨ a = 21 ∨ a = 22 ∨ a = 23 ∨ a = 24 ∨ a = 25 ∨ a = 26 ∨ a = 27 ∨ a = 28 ∨ a = 29 ∨ a = 30 ∨ a = 31 ∨ a = 32 ∨ a = 33 ∨ ¬ (0 ≤ a ∧ a ≤ 33) := by omega
theorem lk_1_2 {a : Int} (ra : rg a) : a = 1 ∨ a = 2 ∨ (¬ a = 1 ∧ ¬ a = 2) := by omega
theorem lo_1_2 {a o0 o1 d : Int} (h : (¬ a = 1 ∧ ¬ a = 2)) : Op.lookupswitch.offset [(1, o0), (2, o1)] d a = d := by
  simp only [Op.lookupswitch.offset]; repeat (rw [if_neg (by omega)])
theorem lk_98_112_115 {a : Int} (ra : rg a) : a = 98 ∨ a = 112 ∨ a = 115 ∨ (¬ a = 98 ∧ ¬ a = 112 ∧ ¬ a = 115) := by omega
theorem lo_98_112_115 {a o0 o1 o2 d : Int} (h : (¬ a = 98 ∧ ¬ a = 112 ∧ ¬ a = 115)) : Op.lookupswitch.offset [(98, o0), (112, o1), (115, o2)] d a = d := by
  simp only [Op.lookupswitch.offset]; repeat (rw [if_neg (by omega)])
theorem lk_98_99_109_110_115 {a : Int} (ra : rg a) : a = 98 ∨ a = 99 ∨ a = 109 ∨ a = 110 ∨ a = 115 ∨ (¬ a = 98 ∧ ¬ a = 99 ∧ ¬ a = 109 ∧ ¬ a = 110 ∧ ¬ a = 115) := by omega
theorem lo_98_99_109_110_115 {a o0 o1 o2 o3 o4 d : Int} (h : (¬ a = 98 ∧ ¬ a = 99 ∧ ¬ a = 109 ∧ ¬ a = 110 ∧ ¬ a = 115)) : Op.lookupswitch.offset [(98, o0), (99, o1), (109, o2), (110, o3), (115, o4)] d a = d := by
  simp only [Op.lookupswitch.offset]; repeat (rw [if_neg (by omega)])
theorem lk_98_109_110_115 {a : Int} (ra : rg a) : a = 98 ∨ a = 109 ∨ a = 110 ∨ a = 115 ∨ (¬ a = 98 ∧ ¬ a = 109 ∧ ¬ a = 110 ∧ ¬ a = 115) := by omega
theorem lo_98_109_110_115 {a o0 o1 o2 o3 d : Int} (h : (¬ a = 98 ∧ ¬ a = 109 ∧ ¬ a = 110 ∧ ¬ a = 115)) : Op.lookupswitch.offset [(98, o0), (109, o1), (110, o2), (115, o3)] d a = d := by
  simp only [Op.lookupswitch.offset]; repeat (rw [if_neg (by omega)])
theorem lk_0_1 {a : Int} (ra : rg a) : a = 0 ∨ a = 1 ∨ (¬ a = 0 ∧ ¬ a = 1) := by omega
theorem lo_0_1 {a o0 o1 d : Int} (h : (¬ a = 0 ∧ ¬ a = 1)) : Op.lookupswitch.offset [(0, o0), (1, o1)] d a = d := by
  simp only [Op.lookupswitch.offset]; repeat (rw [if_neg (by omega)])
theorem lk_98_99_110_115 {a : Int} (ra : rg a) : a = 98 ∨ a = 99 ∨ a = 110 ∨ a = 115 ∨ (¬ a = 98 ∧ ¬ a = 99 ∧ ¬ a = 110 ∧ ¬ a = 115) := by omega
theorem lo_98_99_110_115 {a o0 o1 o2 o3 d : Int} (h : (¬ a = 98 ∧ ¬ a = 99 ∧ ¬ a = 110 ∧ ¬ a = 115)) : Op.lookupswitch.offset [(98, o0), (99, o1), (110, o2), (115, o3)] d a = d := by
  simp only [Op.lookupswitch.offset]; repeat (rw [if_neg (by omega)])
theorem kt_o {t : Nat} (ht : t < 6) : K_BT[80 + 2 * t]? = some (.inl (5, [none, none, some (some (81 + 2 * t))])) := by
  match t, ht with
  | 0, _ => rfl
  | 1, _ => rfl
  | 2, _ => rfl
  | 3, _ => rfl
  | 4, _ => rfl
  | 5, _ => rfl
theorem kt_a {t : Nat} (ht : t < 6) : K_BT[81 + 2 * t]? = some (.inr (.inl (.long, 60))) := by
  match t, ht with
  | 0, _ => rfl
  | 1, _ => rfl
  | 2, _ => rfl
  | 3, _ => rfl
  | 4, _ => rfl
  | 5, _ => rfl
theorem kt_r {t : Nat} (ht : t < 6) : ([some 80, some 82, some 84, some 86, some 88, some 90] : List (Option Nat)).getD t none = some (80 + 2 * t) := by
  match t, ht with
  | 0, _ => rfl
  | 1, _ => rfl
  | 2, _ => rfl
  | 3, _ => rfl
  | 4, _ => rfl
  | 5, _ => rfl
theorem sub_tape {t : Nat} (ht : t < 6) : sbK K_BT K_Tape [80 + 2 * t, 81 + 2 * t] := by
  match t, ht with
  | 0, _ => exact ⟨rfl, rfl⟩
  | 1, _ => exact ⟨rfl, rfl⟩
  | 2, _ => exact ⟨rfl, rfl⟩
  | 3, _ => exact ⟨rfl, rfl⟩
  | 4, _ => exact ⟨rfl, rfl⟩
  | 5, _ => exact ⟨rfl, rfl⟩
theorem sb_0_0_0_0 : sbK K_0 K_0 [] := ⟨rfl, rfl⟩
theorem sb_RTr_0_0_1 : sbK K_RTr K_0 [] := ⟨rfl, rfl⟩
theorem sb_HR2_HR_0_2 (N : Nat) : sbK (K_HR2 N) (K_HR N) [0, 1, 2, 3] := ⟨rfl, rfl⟩
theorem sb_Setup2_HR2_4_3 : sbK K_Setup2 (K_HR2 5) [4, 5, 6, 7, 20, 21, 22, 23] := ⟨rfl, rfl⟩
theorem sb_Setup2_HR2_8_4 : sbK K_Setup2 (K_HR2 8) [8, 9, 10, 11, 24, 25, 26, 27] := ⟨rfl, rfl⟩
theorem sb_Setup2_HR2_12_5 : sbK K_Setup2 (K_HR2 8) [12, 13, 14, 15, 28, 29, 30, 31] := ⟨rfl, rfl⟩
theorem sb_Setup_0_0_6 : sbK K_Setup K_0 [] := ⟨rfl, rfl⟩
theorem sb_TouchS_0_0_7 : sbK K_TouchS K_0 [] := ⟨rfl, rfl⟩
theorem sb_TouchS_Setup_7_8 : sbK K_TouchS K_Setup [7, 8, 9, 10, 11, 12, 13, 14, 15, 16, 17, 18, 19, 20, 21, 22] := ⟨rfl, rfl⟩
theorem sb_Touch_0_0_9 : sbK K_Touch K_0 [] := ⟨rfl, rfl⟩
theorem sb_TouchS_Touch_0_10 : sbK K_TouchS K_Touch [0, 1, 2, 3, 4, 5, 6] := ⟨rfl, rfl⟩
theorem sb_Touch_RTr_5_11 : sbK K_Touch K_RTr [5, 6, 1] := ⟨rfl, rfl⟩
theorem sb_Few_Touch_1_12 : sbK K_Few K_Touch [1, 2, 3, 4, 5, 6, 7] := ⟨rfl, rfl⟩
theorem sb_Few_RTr_8_13 : sbK K_Few K_RTr [8, 9, 2] := ⟨rfl, rfl⟩
theorem sb_FewS_TouchS_1_14 : sbK K_FewS K_TouchS [1, 2, 3, 4, 5, 6, 7, 11, 12, 13, 14, 15, 16, 17, 18, 19, 20, 21, 22, 23, 24, 25, 26] := ⟨rfl, rfl⟩
theorem sb_FewS_RTr_8_15 : sbK K_FewS K_RTr [8, 9, 2] := ⟨rfl, rfl⟩
theorem sb_FewS_Few_0_16 : sbK K_FewS K_Few [0, 1, 2, 3, 4, 5, 6, 7, 8, 9, 10] := ⟨rfl, rfl⟩
theorem sb_Text_0_0_17 : sbK K_Text K_0 [] := ⟨rfl, rfl⟩
theorem sb_TextS_0_0_18 : sbK K_TextS K_0 [] := ⟨rfl, rfl⟩
theorem sb_TextS_Setup_5_19 : sbK K_TextS K_Setup [5, 6, 7, 8, 9, 10, 11, 12, 13, 14, 15, 16, 17, 18, 19, 20] := ⟨rfl, rfl⟩
theorem sb_BT_Setup_1_20 : sbK K_BT K_Setup [1, 2, 3, 4, 5, 6, 7, 8, 9, 10, 11, 12, 13, 14, 15, 16] := ⟨rfl, rfl⟩
theorem sb_BT_0_0_21 : sbK K_BT K_0 [] := ⟨rfl, rfl⟩
theorem sb_BT_Text_74_22 : sbK K_BT K_Text [74, 75, 76, 77, 78] := ⟨rfl, rfl⟩
theorem sb_BT_TextS_74_23 : sbK K_BT K_TextS [74, 75, 76, 77, 78, 1, 2, 3, 4, 5, 6, 7, 8, 9, 10, 11, 12, 13, 14, 15, 16] := ⟨rfl, rfl⟩
theorem sb_BT_TouchS_49_24 : sbK K_BT K_TouchS [49, 50, 51, 52, 53, 54, 55, 1, 2, 3, 4, 5, 6, 7, 8, 9, 10, 11, 12, 13, 14, 15, 16] := ⟨rfl, rfl⟩
theorem sb_BT_Touch_49_25 : sbK K_BT K_Touch [49, 50, 51, 52, 53, 54, 55] := ⟨rfl, rfl⟩
theorem sb_BT_FewS_63_26 : sbK K_BT K_FewS [63, 64, 65, 66, 67, 68, 69, 70, 71, 72, 73, 1, 2, 3, 4, 5, 6, 7, 8, 9, 10, 11, 12, 13, 14, 15, 16] := ⟨rfl, rfl⟩
theorem sb_BT_HR_5_27 : sbK K_BT (K_HR 5) [5, 6, 7, 8] := ⟨rfl, rfl⟩
theorem sb_BT_TouchS_56_28 : sbK K_BT K_TouchS [56, 57, 58, 59, 60, 61, 62, 33, 34, 35, 36, 37, 38, 39, 40, 41, 42, 43, 44, 45, 46, 47, 48] := ⟨rfl, rfl⟩
theorem sb_BT_Setup2_33_29 : sbK K_BT K_Setup2 [33, 34, 35, 36, 37, 38, 39, 40, 41, 42, 43, 44, 45, 46, 47, 48, 1, 2, 3, 4, 5, 6, 7, 8, 9, 10, 11, 12, 13, 14, 15, 16] := ⟨rfl, rfl⟩
theorem sb_BT_HR_9_30 : sbK K_BT (K_HR 8) [9, 10, 11, 12] := ⟨rfl, rfl⟩
theorem sb_BT_Setup_33_31 : sbK K_BT K_Setup [33, 34, 35, 36, 37, 38, 39, 40, 41, 42, 43, 44, 45, 46, 47, 48] := ⟨rfl, rfl⟩
theorem sb_BT_Touch_56_32 : sbK K_BT K_Touch [56, 57, 58, 59, 60, 61, 62] := ⟨rfl, rfl⟩
theorem sb_BT_HR_13_33 : sbK K_BT (K_HR 8) [13, 14, 15, 16] := ⟨rfl, rfl⟩
theorem sb_BT_Setup2_17_34 : sbK K_BT K_Setup2 [17, 18, 19, 20, 21, 22, 23, 24, 25, 26, 27, 28, 29, 30, 31, 32, 1, 2, 3, 4, 5, 6, 7, 8, 9, 10, 11, 12, 13, 14, 15, 16] := ⟨rfl, rfl⟩
theorem sb_BT_Setup2_1_35 : sbK K_BT K_Setup2 [1, 2, 3, 4, 5, 6, 7, 8, 9, 10, 11, 12, 13, 14, 15, 16, 17, 18, 19, 20, 21, 22, 23, 24, 25, 26, 27, 28, 29, 30, 31, 32] := ⟨rfl, rfl⟩
theorem sb_M_0_0_36 : sbK K_M K_0 [] := ⟨rfl, rfl⟩
theorem hd_X2_bellIn : yX2_bellIn.cls ≠ "java/lang/invoke/MethodHandle" ∧ yX2_bellIn.cls ≠ "java/lang/invoke/VarHandle" ∧ (parseMethodDescriptor yX2_bellIn.desc).map (fun d => d.parameters.length) = some 2 := by decide +kernel
theorem hd_X2_placeOf : yX2_placeOf.cls ≠ "java/lang/invoke/MethodHandle" ∧ yX2_placeOf.cls ≠ "java/lang/invoke/VarHandle" ∧ (parseMethodDescriptor yX2_placeOf.desc).map (fun d => d.parameters.length) = some 2 := by decide +kernel
theorem hd_X2_isKept : yX2_isKept.cls ≠ "java/lang/invoke/MethodHandle" ∧ yX2_isKept.cls ≠ "java/lang/invoke/VarHandle" ∧ (parseMethodDescriptor yX2_isKept.desc).map (fun d => d.parameters.length) = some 2 := by decide +kernel
theorem hd_X2_pairs : yX2_pairs.cls ≠ "java/lang/invoke/MethodHandle" ∧ yX2_pairs.cls ≠ "java/lang/invoke/VarHandle" ∧ (parseMethodDescriptor yX2_pairs.desc).map (fun d => d.parameters.length) = some 2 := by decide +kernel
theorem hd_X3_start : yX3_start.cls ≠ "java/lang/invoke/MethodHandle" ∧ yX3_start.cls ≠ "java/lang/invoke/VarHandle" ∧ (parseMethodDescriptor yX3_start.desc).map (fun d => d.parameters.length) = some 1 := by decide +kernel
theorem hd_X1_append : yX1_append.cls = RX1 ∧ yX1_append.cls ≠ "java/lang/invoke/MethodHandle" ∧ yX1_append.cls ≠ "java/lang/invoke/VarHandle" ∧ (parseMethodDescriptor yX1_append.desc).map (fun d => d.parameters.length) = some 3 := by decide +kernel
theorem hd_X1_copyFrom : yX1_copyFrom.cls = RX1 ∧ yX1_copyFrom.cls ≠ "java/lang/invoke/MethodHandle" ∧ yX1_copyFrom.cls ≠ "java/lang/invoke/VarHandle" ∧ (parseMethodDescriptor yX1_copyFrom.desc).map (fun d => d.parameters.length) = some 1 := by decide +kernel
theorem hd_X2_rounds : yX2_rounds.cls ≠ "java/lang/invoke/MethodHandle" ∧ yX2_rounds.cls ≠ "java/lang/invoke/VarHandle" ∧ (parseMethodDescriptor yX2_rounds.desc).map (fun d => d.parameters.length) = some 1 := by decide +kernel
theorem hd_X4_holdsPattern : yX4_holdsPattern.cls = RX4 ∧ yX4_holdsPattern.cls ≠ "java/lang/invoke/MethodHandle" ∧ yX4_holdsPattern.cls ≠ "java/lang/invoke/VarHandle" ∧ (parseMethodDescriptor yX4_holdsPattern.desc).map (fun d => d.parameters.length) = some 1 := by decide +kernel
theorem hd_X2_isRightAhead : yX2_isRightAhead.cls ≠ "java/lang/invoke/MethodHandle" ∧ yX2_isRightAhead.cls ≠ "java/lang/invoke/VarHandle" ∧ (parseMethodDescriptor yX2_isRightAhead.desc).map (fun d => d.parameters.length) = some 3 := by decide +kernel
theorem hd_X4_calledChange : yX4_calledChange.cls = RX4 ∧ yX4_calledChange.cls ≠ "java/lang/invoke/MethodHandle" ∧ yX4_calledChange.cls ≠ "java/lang/invoke/VarHandle" ∧ (parseMethodDescriptor yX4_calledChange.desc).map (fun d => d.parameters.length) = some 1 := by decide +kernel
theorem hd_X2_swapped : yX2_swapped.cls ≠ "java/lang/invoke/MethodHandle" ∧ yX2_swapped.cls ≠ "java/lang/invoke/VarHandle" ∧ (parseMethodDescriptor yX2_swapped.desc).map (fun d => d.parameters.length) = some 2 := by decide +kernel
theorem hd_X7_begin : yX7_begin.cls = RX7 ∧ yX7_begin.cls ≠ "java/lang/invoke/MethodHandle" ∧ yX7_begin.cls ≠ "java/lang/invoke/VarHandle" ∧ (parseMethodDescriptor yX7_begin.desc).map (fun d => d.parameters.length) = some 1 := by decide +kernel
theorem hd_X7_step : yX7_step.cls = RX7 ∧ yX7_step.cls ≠ "java/lang/invoke/MethodHandle" ∧ yX7_step.cls ≠ "java/lang/invoke/VarHandle" ∧ (parseMethodDescriptor yX7_step.desc).map (fun d => d.parameters.length) = some 2 := by decide +kernel
theorem hd_X3_enter : yX3_enter.cls = RX3 ∧ yX3_enter.cls ≠ "java/lang/invoke/MethodHandle" ∧ yX3_enter.cls ≠ "java/lang/invoke/VarHandle" ∧ (parseMethodDescriptor yX3_enter.desc).map (fun d => d.parameters.length) = some 2 := by decide +kernel
theorem hd_X3_leave : yX3_leave.cls = RX3 ∧ yX3_leave.cls ≠ "java/lang/invoke/MethodHandle" ∧ yX3_leave.cls ≠ "java/lang/invoke/VarHandle" ∧ (parseMethodDescriptor yX3_leave.desc).map (fun d => d.parameters.length) = some 2 := by decide +kernel
theorem hd_X7_compare : yX7_compare.cls = RX7 ∧ yX7_compare.cls ≠ "java/lang/invoke/MethodHandle" ∧ yX7_compare.cls ≠ "java/lang/invoke/VarHandle" ∧ (parseMethodDescriptor yX7_compare.desc).map (fun d => d.parameters.length) = some 0 := by decide +kernel
theorem hd_X7_falseRow : yX7_falseRow.cls = RX7 ∧ yX7_falseRow.cls ≠ "java/lang/invoke/MethodHandle" ∧ yX7_falseRow.cls ≠ "java/lang/invoke/VarHandle" ∧ (parseMethodDescriptor yX7_falseRow.desc).map (fun d => d.parameters.length) = some 0 := by decide +kernel
theorem hd_X0_ringTillAgain : yX0_ringTillAgain.cls = RX0 ∧ yX0_ringTillAgain.cls ≠ "java/lang/invoke/MethodHandle" ∧ yX0_ringTillAgain.cls ≠ "java/lang/invoke/VarHandle" ∧ (parseMethodDescriptor yX0_ringTillAgain.desc).map (fun d => d.parameters.length) = some 1 := by decide +kernel
theorem hd_X0_isEnd : yX0_isEnd.cls = RX0 ∧ yX0_isEnd.cls ≠ "java/lang/invoke/MethodHandle" ∧ yX0_isEnd.cls ≠ "java/lang/invoke/VarHandle" ∧ (parseMethodDescriptor yX0_isEnd.desc).map (fun d => d.parameters.length) = some 1 := by decide +kernel
theorem hd_X0_search : yX0_search.cls ≠ "java/lang/invoke/MethodHandle" ∧ yX0_search.cls ≠ "java/lang/invoke/VarHandle" ∧ (parseMethodDescriptor yX0_search.desc).map (fun d => d.parameters.length) = some 4 := by decide +kernel
theorem hd_X0_backTo : yX0_backTo.cls = RX0 ∧ yX0_backTo.cls ≠ "java/lang/invoke/MethodHandle" ∧ yX0_backTo.cls ≠ "java/lang/invoke/VarHandle" ∧ (parseMethodDescriptor yX0_backTo.desc).map (fun d => d.parameters.length) = some 1 := by decide +kernel
theorem hd_X5_next : yX5_next.cls = RX5 ∧ yX5_next.cls ≠ "java/lang/invoke/MethodHandle" ∧ yX5_next.cls ≠ "java/lang/invoke/VarHandle" ∧ (parseMethodDescriptor yX5_next.desc).map (fun d => d.parameters.length) = some 0 := by decide +kernel
theorem hd_X5_keep : yX5_keep.cls = RX5 ∧ yX5_keep.cls ≠ "java/lang/invoke/MethodHandle" ∧ yX5_keep.cls ≠ "java/lang/invoke/VarHandle" ∧ (parseMethodDescriptor yX5_keep.desc).map (fun d => d.parameters.length) = some 1 := by decide +kernel
theorem hd_X5_isPlaceSign : yX5_isPlaceSign.cls ≠ "java/lang/invoke/MethodHandle" ∧ yX5_isPlaceSign.cls ≠ "java/lang/invoke/VarHandle" ∧ (parseMethodDescriptor yX5_isPlaceSign.desc).map (fun d => d.parameters.length) = some 1 := by decide +kernel
theorem hd_X5_parseWord : yX5_parseWord.cls = RX5 ∧ yX5_parseWord.cls ≠ "java/lang/invoke/MethodHandle" ∧ yX5_parseWord.cls ≠ "java/lang/invoke/VarHandle" ∧ (parseMethodDescriptor yX5_parseWord.desc).map (fun d => d.parameters.length) = some 0 := by decide +kernel
theorem hd_X5_callOf : yX5_callOf.cls ≠ "java/lang/invoke/MethodHandle" ∧ yX5_callOf.cls ≠ "java/lang/invoke/VarHandle" ∧ (parseMethodDescriptor yX5_callOf.desc).map (fun d => d.parameters.length) = some 1 := by decide +kernel
theorem hd_X5_parseCalls : yX5_parseCalls.cls = RX5 ∧ yX5_parseCalls.cls ≠ "java/lang/invoke/MethodHandle" ∧ yX5_parseCalls.cls ≠ "java/lang/invoke/VarHandle" ∧ (parseMethodDescriptor yX5_parseCalls.desc).map (fun d => d.parameters.length) = some 0 := by decide +kernel
theorem hd_X5_parseWords : yX5_parseWords.cls = RX5 ∧ yX5_parseWords.cls ≠ "java/lang/invoke/MethodHandle" ∧ yX5_parseWords.cls ≠ "java/lang/invoke/VarHandle" ∧ (parseMethodDescriptor yX5_parseWords.desc).map (fun d => d.parameters.length) = some 0 := by decide +kernel
theorem hd_X5_parseDigit : yX5_parseDigit.cls = RX5 ∧ yX5_parseDigit.cls ≠ "java/lang/invoke/MethodHandle" ∧ yX5_parseDigit.cls ≠ "java/lang/invoke/VarHandle" ∧ (parseMethodDescriptor yX5_parseDigit.desc).map (fun d => d.parameters.length) = some 0 := by decide +kernel
theorem hd_X5_parseClause : yX5_parseClause.cls = RX5 ∧ yX5_parseClause.cls ≠ "java/lang/invoke/MethodHandle" ∧ yX5_parseClause.cls ≠ "java/lang/invoke/VarHandle" ∧ (parseMethodDescriptor yX5_parseClause.desc).map (fun d => d.parameters.length) = some 0 := by decide +kernel
theorem hd_X4_begin : yX4_begin.cls = RX4 ∧ yX4_begin.cls ≠ "java/lang/invoke/MethodHandle" ∧ yX4_begin.cls ≠ "java/lang/invoke/VarHandle" ∧ (parseMethodDescriptor yX4_begin.desc).map (fun d => d.parameters.length) = some 1 := by decide +kernel
theorem hd_X2_isGood : yX2_isGood.cls ≠ "java/lang/invoke/MethodHandle" ∧ yX2_isGood.cls ≠ "java/lang/invoke/VarHandle" ∧ (parseMethodDescriptor yX2_isGood.desc).map (fun d => d.parameters.length) = some 2 := by decide +kernel
theorem hd_X4_setCalledChange : yX4_setCalledChange.cls = RX4 ∧ yX4_setCalledChange.cls ≠ "java/lang/invoke/MethodHandle" ∧ yX4_setCalledChange.cls ≠ "java/lang/invoke/VarHandle" ∧ (parseMethodDescriptor yX4_setCalledChange.desc).map (fun d => d.parameters.length) = some 2 := by decide +kernel
theorem hd_X5_setCall : yX5_setCall.cls ≠ "java/lang/invoke/MethodHandle" ∧ yX5_setCall.cls ≠ "java/lang/invoke/VarHandle" ∧ (parseMethodDescriptor yX5_setCall.desc).map (fun d => d.parameters.length) = some 3 := by decide +kernel
theorem hd_X5_setMethod : yX5_setMethod.cls = RX5 ∧ yX5_setMethod.cls ≠ "java/lang/invoke/MethodHandle" ∧ yX5_setMethod.cls ≠ "java/lang/invoke/VarHandle" ∧ (parseMethodDescriptor yX5_setMethod.desc).map (fun d => d.parameters.length) = some 3 := by decide +kernel
theorem hd_X5_beginBells : yX5_beginBells.cls ≠ "java/lang/invoke/MethodHandle" ∧ yX5_beginBells.cls ≠ "java/lang/invoke/VarHandle" ∧ (parseMethodDescriptor yX5_beginBells.desc).map (fun d => d.parameters.length) = some 2 := by decide +kernel
theorem hd_X5_setLeads : yX5_setLeads.cls = RX5 ∧ yX5_setLeads.cls ≠ "java/lang/invoke/MethodHandle" ∧ yX5_setLeads.cls ≠ "java/lang/invoke/VarHandle" ∧ (parseMethodDescriptor yX5_setLeads.desc).map (fun d => d.parameters.length) = some 3 := by decide +kernel
theorem hd_X5_performClause : yX5_performClause.cls = RX5 ∧ yX5_performClause.cls ≠ "java/lang/invoke/MethodHandle" ∧ yX5_performClause.cls ≠ "java/lang/invoke/VarHandle" ∧ (parseMethodDescriptor yX5_performClause.desc).map (fun d => d.parameters.length) = some 4 := by decide +kernel
theorem hd_X8_isPlaces : yX8_isPlaces.cls = RX8 ∧ yX8_isPlaces.cls ≠ "java/lang/invoke/MethodHandle" ∧ yX8_isPlaces.cls ≠ "java/lang/invoke/VarHandle" ∧ (parseMethodDescriptor yX8_isPlaces.desc).map (fun d => d.parameters.length) = some 1 := by decide +kernel
theorem hd_X8_isLead : yX8_isLead.cls ≠ "java/lang/invoke/MethodHandle" ∧ yX8_isLead.cls ≠ "java/lang/invoke/VarHandle" ∧ (parseMethodDescriptor yX8_isLead.desc).map (fun d => d.parameters.length) = some 1 := by decide +kernel
theorem hd_X5_append : yX5_append.cls = RX5 ∧ yX5_append.cls ≠ "java/lang/invoke/MethodHandle" ∧ yX5_append.cls ≠ "java/lang/invoke/VarHandle" ∧ (parseMethodDescriptor yX5_append.desc).map (fun d => d.parameters.length) = some 1 := by decide +kernel
theorem hd_X5_parse : yX5_parse.cls = RX5 ∧ yX5_parse.cls ≠ "java/lang/invoke/MethodHandle" ∧ yX5_parse.cls ≠ "java/lang/invoke/VarHandle" ∧ (parseMethodDescriptor yX5_parse.desc).map (fun d => d.parameters.length) = some 0 := by decide +kernel
theorem hd_X5_perform : yX5_perform.cls = RX5 ∧ yX5_perform.cls ≠ "java/lang/invoke/MethodHandle" ∧ yX5_perform.cls ≠ "java/lang/invoke/VarHandle" ∧ (parseMethodDescriptor yX5_perform.desc).map (fun d => d.parameters.length) = some 1 := by decide +kernel
theorem hd_X8_orNotFound : yX8_orNotFound.cls ≠ "java/lang/invoke/MethodHandle" ∧ yX8_orNotFound.cls ≠ "java/lang/invoke/VarHandle" ∧ (parseMethodDescriptor yX8_orNotFound.desc).map (fun d => d.parameters.length) = some 1 := by decide +kernel
theorem hd_X7_ring : yX7_ring.cls = RX7 ∧ yX7_ring.cls ≠ "java/lang/invoke/MethodHandle" ∧ yX7_ring.cls ≠ "java/lang/invoke/VarHandle" ∧ (parseMethodDescriptor yX7_ring.desc).map (fun d => d.parameters.length) = some 1 := by decide +kernel
theorem hd_X8_rung : yX8_rung.cls = RX8 ∧ yX8_rung.cls ≠ "java/lang/invoke/MethodHandle" ∧ yX8_rung.cls ≠ "java/lang/invoke/VarHandle" ∧ (parseMethodDescriptor yX8_rung.desc).map (fun d => d.parameters.length) = some 0 := by decide +kernel
theorem hd_X7_roundRow : yX7_roundRow.cls = RX7 ∧ yX7_roundRow.cls ≠ "java/lang/invoke/MethodHandle" ∧ yX7_roundRow.cls ≠ "java/lang/invoke/VarHandle" ∧ (parseMethodDescriptor yX7_roundRow.desc).map (fun d => d.parameters.length) = some 0 := by decide +kernel
theorem hd_X7_isTrue : yX7_isTrue.cls = RX7 ∧ yX7_isTrue.cls ≠ "java/lang/invoke/MethodHandle" ∧ yX7_isTrue.cls ≠ "java/lang/invoke/VarHandle" ∧ (parseMethodDescriptor yX7_isTrue.desc).map (fun d => d.parameters.length) = some 0 := by decide +kernel
theorem hd_X7_course : yX7_course.cls = RX7 ∧ yX7_course.cls ≠ "java/lang/invoke/MethodHandle" ∧ yX7_course.cls ≠ "java/lang/invoke/VarHandle" ∧ (parseMethodDescriptor yX7_course.desc).map (fun d => d.parameters.length) = some 0 := by decide +kernel
theorem hd_X8_isRow : yX8_isRow.cls = RX8 ∧ yX8_isRow.cls ≠ "java/lang/invoke/MethodHandle" ∧ yX8_isRow.cls ≠ "java/lang/invoke/VarHandle" ∧ (parseMethodDescriptor yX8_isRow.desc).map (fun d => d.parameters.length) = some 1 := by decide +kernel
theorem hd_X8_isBell : yX8_isBell.cls = RX8 ∧ yX8_isBell.cls ≠ "java/lang/invoke/MethodHandle" ∧ yX8_isBell.cls ≠ "java/lang/invoke/VarHandle" ∧ (parseMethodDescriptor yX8_isBell.desc).map (fun d => d.parameters.length) = some 1 := by decide +kernel
theorem hd_X7_firstAs : yX7_firstAs.cls = RX7 ∧ yX7_firstAs.cls ≠ "java/lang/invoke/MethodHandle" ∧ yX7_firstAs.cls ≠ "java/lang/invoke/VarHandle" ∧ (parseMethodDescriptor yX7_firstAs.desc).map (fun d => d.parameters.length) = some 1 := by decide +kernel
theorem hd_X4_isMusic : yX4_isMusic.cls = RX4 ∧ yX4_isMusic.cls ≠ "java/lang/invoke/MethodHandle" ∧ yX4_isMusic.cls ≠ "java/lang/invoke/VarHandle" ∧ (parseMethodDescriptor yX4_isMusic.desc).map (fun d => d.parameters.length) = some 2 := by decide +kernel
theorem hd_X8_countMusic : yX8_countMusic.cls = RX8 ∧ yX8_countMusic.cls ≠ "java/lang/invoke/MethodHandle" ∧ yX8_countMusic.cls ≠ "java/lang/invoke/VarHandle" ∧ (parseMethodDescriptor yX8_countMusic.desc).map (fun d => d.parameters.length) = some 1 := by decide +kernel
theorem hd_X0_find : yX0_find.cls = RX0 ∧ yX0_find.cls ≠ "java/lang/invoke/MethodHandle" ∧ yX0_find.cls ≠ "java/lang/invoke/VarHandle" ∧ (parseMethodDescriptor yX0_find.desc).map (fun d => d.parameters.length) = some 2 := by decide +kernel
theorem hd_X4_copyFrom : yX4_copyFrom.cls = RX4 ∧ yX4_copyFrom.cls ≠ "java/lang/invoke/MethodHandle" ∧ yX4_copyFrom.cls ≠ "java/lang/invoke/VarHandle" ∧ (parseMethodDescriptor yX4_copyFrom.desc).map (fun d => d.parameters.length) = some 1 := by decide +kernel
theorem hd_X8_fitsLast : yX8_fitsLast.cls = RX8 ∧ yX8_fitsLast.cls ≠ "java/lang/invoke/MethodHandle" ∧ yX8_fitsLast.cls ≠ "java/lang/invoke/VarHandle" ∧ (parseMethodDescriptor yX8_fitsLast.desc).map (fun d => d.parameters.length) = some 1 := by decide +kernel
theorem hd_X8_isPart : yX8_isPart.cls ≠ "java/lang/invoke/MethodHandle" ∧ yX8_isPart.cls ≠ "java/lang/invoke/VarHandle" ∧ (parseMethodDescriptor yX8_isPart.desc).map (fun d => d.parameters.length) = some 1 := by decide +kernel
theorem hd_X8_lowestTerms : yX8_lowestTerms.cls ≠ "java/lang/invoke/MethodHandle" ∧ yX8_lowestTerms.cls ≠ "java/lang/invoke/VarHandle" ∧ (parseMethodDescriptor yX8_lowestTerms.desc).map (fun d => d.parameters.length) = some 3 := by decide +kernel
theorem hd_X4_happen : yX4_happen.cls = RX4 ∧ yX4_happen.cls ≠ "java/lang/invoke/MethodHandle" ∧ yX4_happen.cls ≠ "java/lang/invoke/VarHandle" ∧ (parseMethodDescriptor yX4_happen.desc).map (fun d => d.parameters.length) = some 0 := by decide +kernel
theorem hd_X8_isTape : yX8_isTape.cls ≠ "java/lang/invoke/MethodHandle" ∧ yX8_isTape.cls ≠ "java/lang/invoke/VarHandle" ∧ (parseMethodDescriptor yX8_isTape.desc).map (fun d => d.parameters.length) = some 1 := by decide +kernel
theorem hd_X6_has : yX6_has.cls = RX6 ∧ yX6_has.cls ≠ "java/lang/invoke/MethodHandle" ∧ yX6_has.cls ≠ "java/lang/invoke/VarHandle" ∧ (parseMethodDescriptor yX6_has.desc).map (fun d => d.parameters.length) = some 2 := by decide +kernel
theorem hd_X6_begin : yX6_begin.cls = RX6 ∧ yX6_begin.cls ≠ "java/lang/invoke/MethodHandle" ∧ yX6_begin.cls ≠ "java/lang/invoke/VarHandle" ∧ (parseMethodDescriptor yX6_begin.desc).map (fun d => d.parameters.length) = some 2 := by decide +kernel
theorem hd_X6_narrowed : yX6_narrowed.cls ≠ "java/lang/invoke/MethodHandle" ∧ yX6_narrowed.cls ≠ "java/lang/invoke/VarHandle" ∧ (parseMethodDescriptor yX6_narrowed.desc).map (fun d => d.parameters.length) = some 2 := by decide +kernel
theorem hd_X9_within : yX9_within.cls ≠ "java/lang/invoke/MethodHandle" ∧ yX9_within.cls ≠ "java/lang/invoke/VarHandle" ∧ (parseMethodDescriptor yX9_within.desc).map (fun d => d.parameters.length) = some 3 := by decide +kernel
theorem hd_X9_begins : yX9_begins.cls = RX9 ∧ yX9_begins.cls ≠ "java/lang/invoke/MethodHandle" ∧ yX9_begins.cls ≠ "java/lang/invoke/VarHandle" ∧ (parseMethodDescriptor yX9_begins.desc).map (fun d => d.parameters.length) = some 1 := by decide +kernel
theorem hd_X9_areKept : yX9_areKept.cls = RX9 ∧ yX9_areKept.cls ≠ "java/lang/invoke/MethodHandle" ∧ yX9_areKept.cls ≠ "java/lang/invoke/VarHandle" ∧ (parseMethodDescriptor yX9_areKept.desc).map (fun d => d.parameters.length) = some 1 := by decide +kernel
theorem hd_X9_isGood : yX9_isGood.cls = RX9 ∧ yX9_isGood.cls ≠ "java/lang/invoke/MethodHandle" ∧ yX9_isGood.cls ≠ "java/lang/invoke/VarHandle" ∧ (parseMethodDescriptor yX9_isGood.desc).map (fun d => d.parameters.length) = some 1 := by decide +kernel
theorem hd_X9_becomes : yX9_becomes.cls = RX9 ∧ yX9_becomes.cls ≠ "java/lang/invoke/MethodHandle" ∧ yX9_becomes.cls ≠ "java/lang/invoke/VarHandle" ∧ (parseMethodDescriptor yX9_becomes.desc).map (fun d => d.parameters.length) = some 2 := by decide +kernel
theorem hd_X9_sign : yX9_sign.cls = RX9 ∧ yX9_sign.cls ≠ "java/lang/invoke/MethodHandle" ∧ yX9_sign.cls ≠ "java/lang/invoke/VarHandle" ∧ (parseMethodDescriptor yX9_sign.desc).map (fun d => d.parameters.length) = some 0 := by decide +kernel
theorem hd_X9_adds : yX9_adds.cls = RX9 ∧ yX9_adds.cls ≠ "java/lang/invoke/MethodHandle" ∧ yX9_adds.cls ≠ "java/lang/invoke/VarHandle" ∧ (parseMethodDescriptor yX9_adds.desc).map (fun d => d.parameters.length) = some 1 := by decide +kernel
theorem hd_X9_wrong : yX9_wrong.cls = RX9 ∧ yX9_wrong.cls ≠ "java/lang/invoke/MethodHandle" ∧ yX9_wrong.cls ≠ "java/lang/invoke/VarHandle" ∧ (parseMethodDescriptor yX9_wrong.desc).map (fun d => d.parameters.length) = some 0 := by decide +kernel
theorem hd_X9_digits : yX9_digits.cls = RX9 ∧ yX9_digits.cls ≠ "java/lang/invoke/MethodHandle" ∧ yX9_digits.cls ≠ "java/lang/invoke/VarHandle" ∧ (parseMethodDescriptor yX9_digits.desc).map (fun d => d.parameters.length) = some 0 := by decide +kernel
theorem hd_X9_word : yX9_word.cls = RX9 ∧ yX9_word.cls ≠ "java/lang/invoke/MethodHandle" ∧ yX9_word.cls ≠ "java/lang/invoke/VarHandle" ∧ (parseMethodDescriptor yX9_word.desc).map (fun d => d.parameters.length) = some 0 := by decide +kernel
theorem hd_X9_words : yX9_words.cls = RX9 ∧ yX9_words.cls ≠ "java/lang/invoke/MethodHandle" ∧ yX9_words.cls ≠ "java/lang/invoke/VarHandle" ∧ (parseMethodDescriptor yX9_words.desc).map (fun d => d.parameters.length) = some 0 := by decide +kernel
theorem hd_X9_callOf : yX9_callOf.cls ≠ "java/lang/invoke/MethodHandle" ∧ yX9_callOf.cls ≠ "java/lang/invoke/VarHandle" ∧ (parseMethodDescriptor yX9_callOf.desc).map (fun d => d.parameters.length) = some 1 := by decide +kernel
theorem hd_X9_calls : yX9_calls.cls = RX9 ∧ yX9_calls.cls ≠ "java/lang/invoke/MethodHandle" ∧ yX9_calls.cls ≠ "java/lang/invoke/VarHandle" ∧ (parseMethodDescriptor yX9_calls.desc).map (fun d => d.parameters.length) = some 2 := by decide +kernel
theorem hd_X9_bells : yX9_bells.cls = RX9 ∧ yX9_bells.cls ≠ "java/lang/invoke/MethodHandle" ∧ yX9_bells.cls ≠ "java/lang/invoke/VarHandle" ∧ (parseMethodDescriptor yX9_bells.desc).map (fun d => d.parameters.length) = some 1 := by decide +kernel
theorem hd_X9_areGood : yX9_areGood.cls = RX9 ∧ yX9_areGood.cls ≠ "java/lang/invoke/MethodHandle" ∧ yX9_areGood.cls ≠ "java/lang/invoke/VarHandle" ∧ (parseMethodDescriptor yX9_areGood.desc).map (fun d => d.parameters.length) = some 1 := by decide +kernel
theorem hd_X9_reads : yX9_reads.cls = RX9 ∧ yX9_reads.cls ≠ "java/lang/invoke/MethodHandle" ∧ yX9_reads.cls ≠ "java/lang/invoke/VarHandle" ∧ (parseMethodDescriptor yX9_reads.desc).map (fun d => d.parameters.length) = some 0 := by decide +kernel
theorem hd_X9_does : yX9_does.cls = RX9 ∧ yX9_does.cls ≠ "java/lang/invoke/MethodHandle" ∧ yX9_does.cls ≠ "java/lang/invoke/VarHandle" ∧ (parseMethodDescriptor yX9_does.desc).map (fun d => d.parameters.length) = some 1 := by decide +kernel
theorem hd_X9_keys : yX9_keys.cls = RX9 ∧ yX9_keys.cls ≠ "java/lang/invoke/MethodHandle" ∧ yX9_keys.cls ≠ "java/lang/invoke/VarHandle" ∧ (parseMethodDescriptor yX9_keys.desc).map (fun d => d.parameters.length) = some 1 := by decide +kernel
theorem hd_X9_goes : yX9_goes.cls = RX9 ∧ yX9_goes.cls ≠ "java/lang/invoke/MethodHandle" ∧ yX9_goes.cls ≠ "java/lang/invoke/VarHandle" ∧ (parseMethodDescriptor yX9_goes.desc).map (fun d => d.parameters.length) = some 2 := by decide +kernel
theorem hd_X9_first : yX9_first.cls = RX9 ∧ yX9_first.cls ≠ "java/lang/invoke/MethodHandle" ∧ yX9_first.cls ≠ "java/lang/invoke/VarHandle" ∧ (parseMethodDescriptor yX9_first.desc).map (fun d => d.parameters.length) = some 1 := by decide +kernel
theorem hd_X9_wrongRow : yX9_wrongRow.cls = RX9 ∧ yX9_wrongRow.cls ≠ "java/lang/invoke/MethodHandle" ∧ yX9_wrongRow.cls ≠ "java/lang/invoke/VarHandle" ∧ (parseMethodDescriptor yX9_wrongRow.desc).map (fun d => d.parameters.length) = some 0 := by decide +kernel
theorem hd_X9_rings : yX9_rings.cls = RX9 ∧ yX9_rings.cls ≠ "java/lang/invoke/MethodHandle" ∧ yX9_rings.cls ≠ "java/lang/invoke/VarHandle" ∧ (parseMethodDescriptor yX9_rings.desc).map (fun d => d.parameters.length) = some 0 := by decide +kernel
theorem hd_X9_round : yX9_round.cls = RX9 ∧ yX9_round.cls ≠ "java/lang/invoke/MethodHandle" ∧ yX9_round.cls ≠ "java/lang/invoke/VarHandle" ∧ (parseMethodDescriptor yX9_round.desc).map (fun d => d.parameters.length) = some 0 := by decide +kernel
theorem hd_X9_isTrue : yX9_isTrue.cls = RX9 ∧ yX9_isTrue.cls ≠ "java/lang/invoke/MethodHandle" ∧ yX9_isTrue.cls ≠ "java/lang/invoke/VarHandle" ∧ (parseMethodDescriptor yX9_isTrue.desc).map (fun d => d.parameters.length) = some 0 := by decide +kernel
theorem hd_X9_course : yX9_course.cls = RX9 ∧ yX9_course.cls ≠ "java/lang/invoke/MethodHandle" ∧ yX9_course.cls ≠ "java/lang/invoke/VarHandle" ∧ (parseMethodDescriptor yX9_course.desc).map (fun d => d.parameters.length) = some 0 := by decide +kernel
theorem hd_X9_isPlace : yX9_isPlace.cls = RX9 ∧ yX9_isPlace.cls ≠ "java/lang/invoke/MethodHandle" ∧ yX9_isPlace.cls ≠ "java/lang/invoke/VarHandle" ∧ (parseMethodDescriptor yX9_isPlace.desc).map (fun d => d.parameters.length) = some 1 := by decide +kernel
theorem hd_X9_place : yX9_place.cls = RX9 ∧ yX9_place.cls ≠ "java/lang/invoke/MethodHandle" ∧ yX9_place.cls ≠ "java/lang/invoke/VarHandle" ∧ (parseMethodDescriptor yX9_place.desc).map (fun d => d.parameters.length) = some 2 := by decide +kernel
theorem hd_X9_isMusic : yX9_isMusic.cls = RX9 ∧ yX9_isMusic.cls ≠ "java/lang/invoke/MethodHandle" ∧ yX9_isMusic.cls ≠ "java/lang/invoke/VarHandle" ∧ (parseMethodDescriptor yX9_isMusic.desc).map (fun d => d.parameters.length) = some 2 := by decide +kernel
theorem hd_X9_musicOf : yX9_musicOf.cls = RX9 ∧ yX9_musicOf.cls ≠ "java/lang/invoke/MethodHandle" ∧ yX9_musicOf.cls ≠ "java/lang/invoke/VarHandle" ∧ (parseMethodDescriptor yX9_musicOf.desc).map (fun d => d.parameters.length) = some 1 := by decide +kernel
theorem hd_X9_isSeen : yX9_isSeen.cls = RX9 ∧ yX9_isSeen.cls ≠ "java/lang/invoke/MethodHandle" ∧ yX9_isSeen.cls ≠ "java/lang/invoke/VarHandle" ∧ (parseMethodDescriptor yX9_isSeen.desc).map (fun d => d.parameters.length) = some 0 := by decide +kernel
theorem hd_X9_lowest : yX9_lowest.cls ≠ "java/lang/invoke/MethodHandle" ∧ yX9_lowest.cls ≠ "java/lang/invoke/VarHandle" ∧ (parseMethodDescriptor yX9_lowest.desc).map (fun d => d.parameters.length) = some 3 := by decide +kernel
theorem hd_X9_isTape : yX9_isTape.cls ≠ "java/lang/invoke/MethodHandle" ∧ yX9_isTape.cls ≠ "java/lang/invoke/VarHandle" ∧ (parseMethodDescriptor yX9_isTape.desc).map (fun d => d.parameters.length) = some 1 := by decide +kernel
end
section
theorem dX2_rounds_0 : decode cX2_rounds 0 = .ok (.iconst 0, 1) := by decide +kernel
theorem dX2_rounds_1 : decode cX2_rounds 1 = .ok (.istore_n 1, 1) := by decide +kernel
theorem dX2_rounds_2 : decode cX2_rounds 2 = .ok (.iconst 1, 1) := by decide +kernel
theorem dX2_rounds_3 : decode cX2_rounds 3 = .ok (.istore_n 2, 1) := by decide +kernel
theorem dX2_rounds_4 : decode cX2_rounds 4 = .ok (.iload_n 2, 1) := by decide +kernel
theorem dX2_rounds_5 : decode cX2_rounds 5 = .ok (.iload_n 0, 1) := by decide +kernel
theorem dX2_rounds_6 : decode cX2_rounds 6 = .ok (.if_icmp .gt 19, 3) := by decide +kernel
theorem dX2_rounds_9 : decode cX2_rounds 9 = .ok (.iload_n 1, 1) := by decide +kernel
theorem dX2_rounds_10 : decode cX2_rounds 10 = .ok (.iload_n 2, 1) := by decide +kernel
theorem dX2_rounds_11 : decode cX2_rounds 11 = .ok (.iconst 4, 1) := by decide +kernel
theorem dX2_rounds_12 : decode cX2_rounds 12 = .ok (.iload_n 2, 1) := by decide +kernel
theorem dX2_rounds_13 : decode cX2_rounds 13 = .ok (.iconst 1, 1) := by decide +kernel
theorem dX2_rounds_14 : decode cX2_rounds 14 = .ok (.isub, 1) := by decide +kernel
theorem dX2_rounds_15 : decode cX2_rounds 15 = .ok (.imul, 1) := by decide +kernel
theorem dX2_rounds_16 : decode cX2_rounds 16 = .ok (.ishl, 1) := by decide +kernel
theorem dX2_rounds_17 : decode cX2_rounds 17 = .ok (.ior, 1) := by decide +kernel
theorem dX2_rounds_18 : decode cX2_rounds 18 = .ok (.istore_n 1, 1) := by decide +kernel
theorem dX2_rounds_19 : decode cX2_rounds 19 = .ok (.iinc 2 1, 3) := by decide +kernel
theorem dX2_rounds_22 : decode cX2_rounds 22 = .ok (.goto (-18), 3) := by decide +kernel
theorem dX2_rounds_25 : decode cX2_rounds 25 = .ok (.iload_n 1, 1) := by decide +kernel
theorem dX2_rounds_26 : decode cX2_rounds 26 = .ok (.ireturn, 1) := by decide +kernel
theorem dX2_bellIn_0 : decode cX2_bellIn 0 = .ok (.iload_n 0, 1) := by decide +kernel
theorem dX2_bellIn_1 : decode cX2_bellIn 1 = .ok (.iconst 4, 1) := by decide +kernel
theorem dX2_bellIn_2 : decode cX2_bellIn 2 = .ok (.iload_n 1, 1) := by decide +kernel
theorem dX2_bellIn_3 : decode cX2_bellIn 3 = .ok (.iconst 1, 1) := by decide +kernel
theorem dX2_bellIn_4 : decode cX2_bellIn 4 = .ok (.isub, 1) := by decide +kernel
theorem dX2_bellIn_5 : decode cX2_bellIn 5 = .ok (.imul, 1) := by decide +kernel
theorem dX2_bellIn_6 : decode cX2_bellIn 6 = .ok (.iushr, 1) := by decide +kernel
theorem dX2_bellIn_7 : decode cX2_bellIn 7 = .ok (.bipush 15, 2) := by decide +kernel
theorem dX2_bellIn_9 : decode cX2_bellIn 9 = .ok (.iand, 1) := by decide +kernel
theorem dX2_bellIn_10 : decode cX2_bellIn 10 = .ok (.ireturn, 1) := by decide +kernel
set_option maxRecDepth 20000 in
theorem ggX2_placeOf_X2_bellIn : GoodIn wsX2_placeOf wsX2_bellIn := goodIn_r _ [4] (by decide +kernel) (by decide +kernel)
set_option maxRecDepth 20000 in
theorem gX2_placeOf_X2_bellIn : GoodIn wsX2_placeOf (va_wsS RX2 9 yX2_bellIn wsX2_bellIn) := goodIn_app (goodIn_of _ (by decide +kernel)) ggX2_placeOf_X2_bellIn
theorem dX2_placeOf_0 : decode cX2_placeOf 0 = .ok (.iconst 1, 1) := by decide +kernel
theorem dX2_placeOf_1 : decode cX2_placeOf 1 = .ok (.istore_n 2, 1) := by decide +kernel
theorem dX2_placeOf_2 : decode cX2_placeOf 2 = .ok (.iload_n 2, 1) := by decide +kernel
theorem dX2_placeOf_3 : decode cX2_placeOf 3 = .ok (.bipush 8, 2) := by decide +kernel
theorem dX2_placeOf_5 : decode cX2_placeOf 5 = .ok (.if_icmp .gt 20, 3) := by decide +kernel
theorem dX2_placeOf_8 : decode cX2_placeOf 8 = .ok (.iload_n 0, 1) := by decide +kernel
theorem dX2_placeOf_9 : decode cX2_placeOf 9 = .ok (.iload_n 2, 1) := by decide +kernel
theorem dX2_placeOf_10 : decode cX2_placeOf 10 = .ok (.invokestatic 9, 3) := by decide +kernel
theorem dX2_placeOf_13 : decode cX2_placeOf 13 = .ok (.iload_n 1, 1) := by decide +kernel
theorem dX2_placeOf_14 : decode cX2_placeOf 14 = .ok (.if_icmp .ne 5, 3) := by decide +kernel
theorem dX2_placeOf_17 : decode cX2_placeOf 17 = .ok (.iload_n 2, 1) := by decide +kernel
theorem dX2_placeOf_18 : decode cX2_placeOf 18 = .ok (.ireturn, 1) := by decide +kernel
theorem dX2_placeOf_19 : decode cX2_placeOf 19 = .ok (.iinc 2 1, 3) := by decide +kernel
theorem dX2_placeOf_22 : decode cX2_placeOf 22 = .ok (.goto (-20), 3) := by decide +kernel
theorem dX2_placeOf_25 : decode cX2_placeOf 25 = .ok (.iconst 0, 1) := by decide +kernel
theorem dX2_placeOf_26 : decode cX2_placeOf 26 = .ok (.ireturn, 1) := by decide +kernel
set_option maxRecDepth 20000 in
theorem ggX2_isRightAhead_X2_placeOf : GoodIn wsX2_isRightAhead wsX2_placeOf := goodIn_r _ [4, 5, 6, 3, 7] (by decide +kernel) (by decide +kernel)
set_option maxRecDepth 20000 in
theorem gX2_isRightAhead_X2_placeOf : GoodIn wsX2_isRightAhead (va_wsS RX2 15 yX2_placeOf wsX2_placeOf) := goodIn_app (goodIn_of _ (by decide +kernel)) ggX2_isRightAhead_X2_placeOf
theorem dX2_isRightAhead_0 : decode cX2_isRightAhead 0 = .ok (.iload_n 0, 1) := by decide +kernel
theorem dX2_isRightAhead_1 : decode cX2_isRightAhead 1 = .ok (.iload_n 1, 1) := by decide +kernel
theorem dX2_isRightAhead_2 : decode cX2_isRightAhead 2 = .ok (.invokestatic 15, 3) := by decide +kernel
theorem dX2_isRightAhead_5 : decode cX2_isRightAhead 5 = .ok (.iconst 1, 1) := by decide +kernel
theorem dX2_isRightAhead_6 : decode cX2_isRightAhead 6 = .ok (.iadd, 1) := by decide +kernel
theorem dX2_isRightAhead_7 : decode cX2_isRightAhead 7 = .ok (.iload_n 0, 1) := by decide +kernel
theorem dX2_isRightAhead_8 : decode cX2_isRightAhead 8 = .ok (.iload_n 2, 1) := by decide +kernel
theorem dX2_isRightAhead_9 : decode cX2_isRightAhead 9 = .ok (.invokestatic 15, 3) := by decide +kernel
theorem dX2_isRightAhead_12 : decode cX2_isRightAhead 12 = .ok (.if_icmp .ne 7, 3) := by decide +kernel
theorem dX2_isRightAhead_15 : decode cX2_isRightAhead 15 = .ok (.iconst 1, 1) := by decide +kernel
theorem dX2_isRightAhead_16 : decode cX2_isRightAhead 16 = .ok (.goto 4, 3) := by decide +kernel
theorem dX2_isRightAhead_19 : decode cX2_isRightAhead 19 = .ok (.iconst 0, 1) := by decide +kernel
theorem dX2_isRightAhead_20 : decode cX2_isRightAhead 20 = .ok (.ireturn, 1) := by decide +kernel
set_option maxRecDepth 20000 in
theorem ggX2_isGood_X2_pairs : GoodIn wsX2_isGood wsX2_pairs := goodIn_r _ [4, 5, 6, 3, 7] (by decide +kernel) (by decide +kernel)
set_option maxRecDepth 20000 in
theorem gX2_isGood_X2_pairs : GoodIn wsX2_isGood (va_wsS RX2 18 yX2_pairs wsX2_pairs) := goodIn_app (goodIn_of _ (by decide +kernel)) ggX2_isGood_X2_pairs
theorem dX2_isGood_0 : decode cX2_isGood 0 = .ok (.iload_n 0, 1) := by decide +kernel
theorem dX2_isGood_1 : decode cX2_isGood 1 = .ok (.iload_n 1, 1) := by decide +kernel
theorem dX2_isGood_2 : decode cX2_isGood 2 = .ok (.invokestatic 18, 3) := by decide +kernel
theorem dX2_isGood_5 : decode cX2_isGood 5 = .ok (.iconst (-1), 1) := by decide +kernel
theorem dX2_isGood_6 : decode cX2_isGood 6 = .ok (.if_icmp .eq 7, 3) := by decide +kernel
theorem dX2_isGood_9 : decode cX2_isGood 9 = .ok (.iconst 1, 1) := by decide +kernel
theorem dX2_isGood_10 : decode cX2_isGood 10 = .ok (.goto 4, 3) := by decide +kernel
theorem dX2_isGood_13 : decode cX2_isGood 13 = .ok (.iconst 0, 1) := by decide +kernel
theorem dX2_isGood_14 : decode cX2_isGood 14 = .ok (.ireturn, 1) := by decide +kernel
set_option maxRecDepth 20000 in
theorem ggX2_pairs_X2_isKept : GoodIn wsX2_pairs wsX2_isKept := goodIn_r _ [4] (by decide +kernel) (by decide +kernel)
set_option maxRecDepth 20000 in
theorem gX2_pairs_X2_isKept : GoodIn wsX2_pairs (va_wsS RX2 21 yX2_isKept wsX2_isKept) := goodIn_app (goodIn_of _ (by decide +kernel)) ggX2_pairs_X2_isKept
theorem dX2_pairs_0 : decode cX2_pairs 0 = .ok (.iload_n 1, 1) := by decide +kernel
theorem dX2_pairs_1 : decode cX2_pairs 1 = .ok (.ifCond .lt 9, 3) := by decide +kernel
theorem dX2_pairs_4 : decode cX2_pairs 4 = .ok (.iload_n 1, 1) := by decide +kernel
theorem dX2_pairs_5 : decode cX2_pairs 5 = .ok (.iload_n 0, 1) := by decide +kernel
theorem dX2_pairs_6 : decode cX2_pairs 6 = .ok (.ishr, 1) := by decide +kernel
theorem dX2_pairs_7 : decode cX2_pairs 7 = .ok (.ifCond .eq 5, 3) := by decide +kernel
theorem dX2_pairs_10 : decode cX2_pairs 10 = .ok (.iconst (-1), 1) := by decide +kernel
theorem dX2_pairs_11 : decode cX2_pairs 11 = .ok (.ireturn, 1) := by decide +kernel
theorem dX2_pairs_12 : decode cX2_pairs 12 = .ok (.iconst 0, 1) := by decide +kernel
theorem dX2_pairs_13 : decode cX2_pairs 13 = .ok (.istore_n 2, 1) := by decide +kernel
theorem dX2_pairs_14 : decode cX2_pairs 14 = .ok (.iconst 0, 1) := by decide +kernel
theorem dX2_pairs_15 : decode cX2_pairs 15 = .ok (.istore_n 3, 1) := by decide +kernel
theorem dX2_pairs_16 : decode cX2_pairs 16 = .ok (.iload_n 3, 1) := by decide +kernel
theorem dX2_pairs_17 : decode cX2_pairs 17 = .ok (.iload_n 0, 1) := by decide +kernel
theorem dX2_pairs_18 : decode cX2_pairs 18 = .ok (.if_icmp .ge 51, 3) := by decide +kernel
theorem dX2_pairs_21 : decode cX2_pairs 21 = .ok (.iload_n 1, 1) := by decide +kernel
theorem dX2_pairs_22 : decode cX2_pairs 22 = .ok (.iload_n 3, 1) := by decide +kernel
theorem dX2_pairs_23 : decode cX2_pairs 23 = .ok (.invokestatic 21, 3) := by decide +kernel
theorem dX2_pairs_26 : decode cX2_pairs 26 = .ok (.ifCond .eq 9, 3) := by decide +kernel
theorem dX2_pairs_29 : decode cX2_pairs 29 = .ok (.iinc 3 1, 3) := by decide +kernel
theorem dX2_pairs_32 : decode cX2_pairs 32 = .ok (.goto (-16), 3) := by decide +kernel
theorem dX2_pairs_35 : decode cX2_pairs 35 = .ok (.iload_n 3, 1) := by decide +kernel
theorem dX2_pairs_36 : decode cX2_pairs 36 = .ok (.iconst 1, 1) := by decide +kernel
theorem dX2_pairs_37 : decode cX2_pairs 37 = .ok (.iadd, 1) := by decide +kernel
theorem dX2_pairs_38 : decode cX2_pairs 38 = .ok (.iload_n 0, 1) := by decide +kernel
theorem dX2_pairs_39 : decode cX2_pairs 39 = .ok (.if_icmp .ge 13, 3) := by decide +kernel
theorem dX2_pairs_42 : decode cX2_pairs 42 = .ok (.iload_n 1, 1) := by decide +kernel
theorem dX2_pairs_43 : decode cX2_pairs 43 = .ok (.iload_n 3, 1) := by decide +kernel
theorem dX2_pairs_44 : decode cX2_pairs 44 = .ok (.iconst 1, 1) := by decide +kernel
theorem dX2_pairs_45 : decode cX2_pairs 45 = .ok (.iadd, 1) := by decide +kernel
theorem dX2_pairs_46 : decode cX2_pairs 46 = .ok (.invokestatic 21, 3) := by decide +kernel
theorem dX2_pairs_49 : decode cX2_pairs 49 = .ok (.ifCond .eq 5, 3) := by decide +kernel
theorem dX2_pairs_52 : decode cX2_pairs 52 = .ok (.iconst (-1), 1) := by decide +kernel
theorem dX2_pairs_53 : decode cX2_pairs 53 = .ok (.ireturn, 1) := by decide +kernel
theorem dX2_pairs_54 : decode cX2_pairs 54 = .ok (.iload_n 2, 1) := by decide +kernel
theorem dX2_pairs_55 : decode cX2_pairs 55 = .ok (.bipush 15, 2) := by decide +kernel
theorem dX2_pairs_57 : decode cX2_pairs 57 = .ok (.iconst 4, 1) := by decide +kernel
theorem dX2_pairs_58 : decode cX2_pairs 58 = .ok (.iload_n 3, 1) := by decide +kernel
theorem dX2_pairs_59 : decode cX2_pairs 59 = .ok (.imul, 1) := by decide +kernel
theorem dX2_pairs_60 : decode cX2_pairs 60 = .ok (.ishl, 1) := by decide +kernel
theorem dX2_pairs_61 : decode cX2_pairs 61 = .ok (.ior, 1) := by decide +kernel
theorem dX2_pairs_62 : decode cX2_pairs 62 = .ok (.istore_n 2, 1) := by decide +kernel
theorem dX2_pairs_63 : decode cX2_pairs 63 = .ok (.iinc 3 2, 3) := by decide +kernel
theorem dX2_pairs_66 : decode cX2_pairs 66 = .ok (.goto (-50), 3) := by decide +kernel
theorem dX2_pairs_69 : decode cX2_pairs 69 = .ok (.iload_n 2, 1) := by decide +kernel
theorem dX2_pairs_70 : decode cX2_pairs 70 = .ok (.ireturn, 1) := by decide +kernel
theorem dX2_isKept_0 : decode cX2_isKept 0 = .ok (.iload_n 0, 1) := by decide +kernel
theorem dX2_isKept_1 : decode cX2_isKept 1 = .ok (.iload_n 1, 1) := by decide +kernel
theorem dX2_isKept_2 : decode cX2_isKept 2 = .ok (.ishr, 1) := by decide +kernel
theorem dX2_isKept_3 : decode cX2_isKept 3 = .ok (.iconst 1, 1) := by decide +kernel
theorem dX2_isKept_4 : decode cX2_isKept 4 = .ok (.iand, 1) := by decide +kernel
theorem dX2_isKept_5 : decode cX2_isKept 5 = .ok (.ifCond .eq 7, 3) := by decide +kernel
theorem dX2_isKept_8 : decode cX2_isKept 8 = .ok (.iconst 1, 1) := by decide +kernel
theorem dX2_isKept_9 : decode cX2_isKept 9 = .ok (.goto 4, 3) := by decide +kernel
theorem dX2_isKept_12 : decode cX2_isKept 12 = .ok (.iconst 0, 1) := by decide +kernel
theorem dX2_isKept_13 : decode cX2_isKept 13 = .ok (.ireturn, 1) := by decide +kernel
theorem dX2_swapped_0 : decode cX2_swapped 0 = .ok (.iload_n 0, 1) := by decide +kernel
theorem dX2_swapped_1 : decode cX2_swapped 1 = .ok (.iload_n 1, 1) := by decide +kernel
theorem dX2_swapped_2 : decode cX2_swapped 2 = .ok (.iload_n 1, 1) := by decide +kernel
theorem dX2_swapped_3 : decode cX2_swapped 3 = .ok (.iconst 4, 1) := by decide +kernel
theorem dX2_swapped_4 : decode cX2_swapped 4 = .ok (.ishl, 1) := by decide +kernel
theorem dX2_swapped_5 : decode cX2_swapped 5 = .ok (.ior, 1) := by decide +kernel
theorem dX2_swapped_6 : decode cX2_swapped 6 = .ok (.iconst (-1), 1) := by decide +kernel
theorem dX2_swapped_7 : decode cX2_swapped 7 = .ok (.ixor, 1) := by decide +kernel
theorem dX2_swapped_8 : decode cX2_swapped 8 = .ok (.iand, 1) := by decide +kernel
theorem dX2_swapped_9 : decode cX2_swapped 9 = .ok (.istore_n 2, 1) := by decide +kernel
theorem dX2_swapped_10 : decode cX2_swapped 10 = .ok (.iload_n 2, 1) := by decide +kernel
theorem dX2_swapped_11 : decode cX2_swapped 11 = .ok (.iload_n 0, 1) := by decide +kernel
theorem dX2_swapped_12 : decode cX2_swapped 12 = .ok (.iload_n 1, 1) := by decide +kernel
theorem dX2_swapped_13 : decode cX2_swapped 13 = .ok (.iand, 1) := by decide +kernel
theorem dX2_swapped_14 : decode cX2_swapped 14 = .ok (.iconst 4, 1) := by decide +kernel
theorem dX2_swapped_15 : decode cX2_swapped 15 = .ok (.ishl, 1) := by decide +kernel
theorem dX2_swapped_16 : decode cX2_swapped 16 = .ok (.ior, 1) := by decide +kernel
theorem dX2_swapped_17 : decode cX2_swapped 17 = .ok (.iload_n 0, 1) := by decide +kernel
theorem dX2_swapped_18 : decode cX2_swapped 18 = .ok (.iconst 4, 1) := by decide +kernel
theorem dX2_swapped_19 : decode cX2_swapped 19 = .ok (.iushr, 1) := by decide +kernel
theorem dX2_swapped_20 : decode cX2_swapped 20 = .ok (.iload_n 1, 1) := by decide +kernel
theorem dX2_swapped_21 : decode cX2_swapped 21 = .ok (.iand, 1) := by decide +kernel
theorem dX2_swapped_22 : decode cX2_swapped 22 = .ok (.ior, 1) := by decide +kernel
theorem dX2_swapped_23 : decode cX2_swapped 23 = .ok (.ireturn, 1) := by decide +kernel
end
section
-- X2_rounds
def wp_X2_rounds_4 (post : Int → Prop) : Nat → Int → Int → Int → Prop
  | 0, _, _, _ => False
  | fu + 1, v0, v1, v2 => (rg v2 ∧ rg v0 ∧ (v0 < v2 → (post v1)) ∧ (¬ v0 < v2 → (wp_X2_rounds_4 post fu v0 (bor v1 (bsl v2 (4 * (v2 - 1)))) (v2 + 1))))
def wp_X2_rounds (v0 : Int) (post : Int → Prop) : Prop := (∃ n : Nat, wp_X2_rounds_4 post n v0 0 1)
-- X2_bellIn
def wp_X2_bellIn (v0 v1 : Int) (post : Int → Prop) : Prop := (post (bnd (bur v0 (4 * (v1 - 1))) 15))
-- X2_placeOf
def wp_X2_placeOf_2 (post : Int → Prop) : Nat → Int → Int → Int → Prop
  | 0, _, _, _ => False
  | fu + 1, v0, v1, v2 => (rg v2 ∧ (8 < v2 → (post 0)) ∧ (¬ 8 < v2 → (wp_X2_bellIn v0 v2 (fun r1 => (rg r1 ∧ rg v1 ∧ (¬ r1 = v1 → (wp_X2_placeOf_2 post fu v0 v1 (v2 + 1))) ∧ (r1 = v1 → (post v2)))))))
def wp_X2_placeOf (v0 v1 : Int) (post : Int → Prop) : Prop := (∃ n : Nat, wp_X2_placeOf_2 post n v0 v1 1)
-- X2_isRightAhead
def wp_X2_isRightAhead (v0 v1 v2 : Int) (post : Int → Prop) : Prop := (wp_X2_placeOf v0 v1 (fun r1 => (wp_X2_placeOf v0 v2 (fun r2 => (rg (r1 + 1) ∧ rg r2 ∧ (¬ (r1 + 1) = r2 → (post 0)) ∧ ((r1 + 1) = r2 → (post 1)))))))
-- X2_isKept
def wp_X2_isKept (v0 v1 : Int) (post : Int → Prop) : Prop := (rg (bnd (bsr v0 v1) 1) ∧ ((bnd (bsr v0 v1) 1) = 0 → (post 0)) ∧ (¬ (bnd (bsr v0 v1) 1) = 0 → (post 1)))
-- X2_pairs
def wp_X2_pairs_16 (post : Int → Prop) : Nat → Int → Int → Int → Int → Prop
  | 0, _, _, _, _ => False
  | fu + 1, v0, v1, v2, v3 => (rg v3 ∧ rg v0 ∧ (v0 ≤ v3 → (post v2)) ∧ (¬ v0 ≤ v3 → (wp_X2_isKept v1 v3 (fun r1 => (rg r1 ∧ (r1 = 0 → (rg (v3 + 1) ∧ rg v0 ∧ (v0 ≤ (v3 + 1) → (post (-1))) ∧ (¬ v0 ≤ (v3 + 1) → (wp_X2_isKept v1 (v3 + 1) (fun r2 => (rg r2 ∧ (r2 = 0 → (wp_X2_pairs_16 post fu v0 v1 (bor v2 (bsl 15 (4 * v3))) (v3 + 2))) ∧ (¬ r2 = 0 → (post (-1))))))))) ∧ (¬ r1 = 0 → (wp_X2_pairs_16 post fu v0 v1 v2 (v3 + 1))))))))
def wp_X2_pairs (v0 v1 : Int) (post : Int → Prop) : Prop := (rg v1 ∧ (v1 < 0 → (post (-1))) ∧ (¬ v1 < 0 → (rg (bsr v1 v0) ∧ ((bsr v1 v0) = 0 → (∃ n : Nat, wp_X2_pairs_16 post n v0 v1 0 0)) ∧ (¬ (bsr v1 v0) = 0 → (post (-1))))))
-- X2_isGood
def wp_X2_isGood (v0 v1 : Int) (post : Int → Prop) : Prop := (wp_X2_pairs v0 v1 (fun r1 => (rg r1 ∧ (r1 = (-1) → (post 0)) ∧ (¬ r1 = (-1) → (post 1)))))
-- X2_swapped
def wp_X2_swapped (v0 v1 : Int) (post : Int → Prop) : Prop := (post (bor (bor (bnd v0 (bxr (bor v1 (bsl v1 4)) (-1))) (bsl (bnd v0 v1) 4)) (bnd (bur v0 4) v1)))
end
section
section
variable {p : Program} {l : Launch} {e : Env} {s : State} {m : MethodId} {args : Array Value} {below : List Frame} {meth : Method} {c : Code} {Q : State → Prop} {D : va_G} {cA : FieldType → ClassId} {h : Nat → Nat} {A : Nat → Prop}
-- X2_rounds
def rm_X2_rounds : Room := { frames := 0, cells := 0, slots := 0, locals := 0 }
set_option maxRecDepth 100000 in
theorem b_X2_rounds_4 {σ : St} {post : Int → Prop} (C : cx p s m args meth c wsX2_rounds RX2 cX2_rounds 3 (some .int) D cA) (hA : ∀ q, s.heap.size ≤ q → A q) (hR : RtI p l e rm_X2_rounds s m args below meth c Q cX2_rounds D cA K_0 h A (fun _ => True) (fun r σ' => σ' = σ ∧ post r)) : ∀ (n : Nat) {v0 v1 v2 : Int} {H : Heap} {locs : List Loc} {ls : Array Slot}, wp_X2_rounds_4 post n v0 v1 v2 → wd D cA K_0 h σ A s.heap H locs → lh ls 3 [some (iv v0), some (iv v1), some (iv v2)] → W p l e rm_X2_rounds s m args below meth c H locs 0 0 Q (F0 m 4 ls []) := by
  intro n; induction n with
  | zero => intros; rename_i hwp _ _; exact hwp.elim
  | succ n ih =>
    intro v0 v1 v2 H locs ls hwp hw hl
    refine r_iload_n C dX2_rounds_4 hl rfl ?_
    refine r_iload_n C dX2_rounds_5 hl rfl ?_
    obtain ⟨ra, rb, hT, hF⟩ := hwp
    refine r_icmp_gt C (tgt := 25) dX2_rounds_6 rfl ra rb (fun hc => ?_) (fun hc => ?_)
    · have hwp := hT hc
      refine r_iload_n C dX2_rounds_25 hl rfl ?_
      exact hR _ _ _ _ _ _ dX2_rounds_26 trivial ⟨rfl, hwp⟩ hw
    · have hwp := hF hc
      refine r_iload_n C dX2_rounds_9 hl rfl ?_
      refine r_iload_n C dX2_rounds_10 hl rfl ?_
      refine r_const C dX2_rounds_11 ?_
      refine r_iload_n C dX2_rounds_12 hl rfl ?_
      refine r_const C dX2_rounds_13 ?_
      refine r_isub C dX2_rounds_14 ?_
      refine r_imul C dX2_rounds_15 ?_
      refine r_ishl C dX2_rounds_16 ?_
      refine r_ior C dX2_rounds_17 ?_
      refine r_istore_n C dX2_rounds_18 hl (Nat.le_of_ble_eq_true rfl) (Nat.le_of_ble_eq_true rfl) rfl (fun ls hl => ?_)
      refine r_iinc C dX2_rounds_19 hl rfl (Nat.le_of_ble_eq_true rfl) rfl (fun ls hl => ?_)
      refine r_goto C (tgt := 4) dX2_rounds_22 rfl ?_
      exact ih hwp hw (lh_mask hl [true, true, true])
set_option maxRecDepth 100000 in
theorem b_X2_rounds_0 {σ : St} {post : Int → Prop} (C : cx p s m args meth c wsX2_rounds RX2 cX2_rounds 3 (some .int) D cA) (hA : ∀ q, s.heap.size ≤ q → A q) (hR : RtI p l e rm_X2_rounds s m args below meth c Q cX2_rounds D cA K_0 h A (fun _ => True) (fun r σ' => σ' = σ ∧ post r)) : ∀ {v0 : Int} {H : Heap} {locs : List Loc} {ls : Array Slot}, wp_X2_rounds v0 post → wd D cA K_0 h σ A s.heap H locs → lh ls 3 [some (iv v0), none, none] → W p l e rm_X2_rounds s m args below meth c H locs 0 0 Q (F0 m 0 ls []) := by
  intro v0 H locs ls hwp hw hl
  refine r_const C dX2_rounds_0 ?_
  refine r_istore_n C dX2_rounds_1 hl (Nat.le_of_ble_eq_true rfl) (Nat.le_of_ble_eq_true rfl) rfl (fun ls hl => ?_)
  refine r_const C dX2_rounds_2 ?_
  refine r_istore_n C dX2_rounds_3 hl (Nat.le_of_ble_eq_true rfl) (Nat.le_of_ble_eq_true rfl) rfl (fun ls hl => ?_)
  obtain ⟨n9, hwp⟩ := hwp
  exact b_X2_rounds_4 C hA hR n9 hwp hw (lh_mask hl [true, true, true])
set_option maxRecDepth 100000 in
theorem c_X2_rounds {l : Launch} {D : va_G} {cA : FieldType → ClassId} {h : Nat → Nat} {σ : St} {sz : Nat} {v0 : Int} {post : Int → Prop} (hwp : wp_X2_rounds v0 post) : Met l yX2_rounds wsX2_rounds rm_X2_rounds (va_Pc [iv v0] (preS D cA K_0 h σ sz)) (QI D cA K_0 h sz (fun r σ' => σ' = σ ∧ post r)) 0 0 (aA K_0.length h sz) := by
  refine mk_met (cc := cX2_rounds) (nL := 3) (ret := (some .int)) (own := RX2) 2 (by decide) rfl rfl rfl rfl ?_
  intro p e s m args below meth c ls hsz C hw hl hA
  subst hsz
  exact b_X2_rounds_0 C hA (rt_i C _) hwp hw hl
-- X2_bellIn
def rm_X2_bellIn : Room := { frames := 0, cells := 0, slots := 0, locals := 0 }
set_option maxRecDepth 100000 in
theorem b_X2_bellIn_0 {σ : St} {post : Int → Prop} (C : cx p s m args meth c wsX2_bellIn RX2 cX2_bellIn 2 (some .int) D cA) (hA : ∀ q, s.heap.size ≤ q → A q) (hR : RtI p l e rm_X2_bellIn s m args below meth c Q cX2_bellIn D cA K_0 h A (fun _ => True) (fun r σ' => σ' = σ ∧ post r)) : ∀ {v0 v1 : Int} {H : Heap} {locs : List Loc} {ls : Array Slot}, wp_X2_bellIn v0 v1 post → wd D cA K_0 h σ A s.heap H locs → lh ls 2 [some (iv v0), some (iv v1)] → W p l e rm_X2_bellIn s m args below meth c H locs 0 0 Q (F0 m 0 ls []) := by
  intro v0 v1 H locs ls hwp hw hl
  refine r_iload_n C dX2_bellIn_0 hl rfl ?_
  refine r_const C dX2_bellIn_1 ?_
  refine r_iload_n C dX2_bellIn_2 hl rfl ?_
  refine r_const C dX2_bellIn_3 ?_
  refine r_isub C dX2_bellIn_4 ?_
  refine r_imul C dX2_bellIn_5 ?_
  refine r_iushr C dX2_bellIn_6 ?_
  refine r_bipush C dX2_bellIn_7 bpb_15 ?_
  refine r_iand C dX2_bellIn_9 ?_
  exact hR _ _ _ _ _ _ dX2_bellIn_10 trivial ⟨rfl, hwp⟩ hw
set_option maxRecDepth 100000 in
theorem c_X2_bellIn {l : Launch} {D : va_G} {cA : FieldType → ClassId} {h : Nat → Nat} {σ : St} {sz : Nat} {v0 v1 : Int} {post : Int → Prop} (hwp : wp_X2_bellIn v0 v1 post) : Met l yX2_bellIn wsX2_bellIn rm_X2_bellIn (va_Pc [iv v0, iv v1] (preS D cA K_0 h σ sz)) (QI D cA K_0 h sz (fun r σ' => σ' = σ ∧ post r)) 0 0 (aA K_0.length h sz) := by
  refine mk_met (cc := cX2_bellIn) (nL := 2) (ret := (some .int)) (own := RX2) 0 (by decide) rfl rfl rfl rfl ?_
  intro p e s m args below meth c ls hsz C hw hl hA
  subst hsz
  exact b_X2_bellIn_0 C hA (rt_i C _) hwp hw hl
-- X2_placeOf
def rm_X2_placeOf : Room := { frames := 1, cells := 0, slots := 0, locals := 21 }
set_option maxRecDepth 100000 in
theorem b_X2_placeOf_2 {σ : St} {post : Int → Prop} (C : cx p s m args meth c wsX2_placeOf RX2 cX2_placeOf 3 (some .int) D cA) (hA : ∀ q, s.heap.size ≤ q → A q) (hR : RtI p l e rm_X2_placeOf s m args below meth c Q cX2_placeOf D cA K_0 h A (fun _ => True) (fun r σ' => σ' = σ ∧ post r)) : ∀ (n : Nat) {v0 v1 v2 : Int} {H : Heap} {locs : List Loc} {ls : Array Slot}, wp_X2_placeOf_2 post n v0 v1 v2 → wd D cA K_0 h σ A s.heap H locs → lh ls 3 [some (iv v0), some (iv v1), some (iv v2)] → W p l e rm_X2_placeOf s m args below meth c H locs 0 0 Q (F0 m 2 ls []) := by
  intro n; induction n with
  | zero => intros; rename_i hwp _ _; exact hwp.elim
  | succ n ih =>
    intro v0 v1 v2 H locs ls hwp hw hl
    refine r_iload_n C dX2_placeOf_2 hl rfl ?_
    refine r_bipush C dX2_placeOf_3 bpb_8 ?_
    obtain ⟨ra, hT, hF⟩ := hwp
    refine r_icmp_gt C (tgt := 25) dX2_placeOf_5 rfl ra (by decide) (fun hc => ?_) (fun hc => ?_)
    · have hwp := hT hc
      refine r_const C dX2_placeOf_25 ?_
      exact hR _ _ _ _ _ _ dX2_placeOf_26 trivial ⟨rfl, hwp⟩ hw
    · have hwp := hF hc
      refine r_iload_n C dX2_placeOf_8 hl rfl ?_
      refine r_iload_n C dX2_placeOf_9 hl rfl ?_
      refine r_cIr hA hw sb_0_0_0_0 (run_s C hw sb_0_0_0_0 (c_X2_bellIn hwp) (va_cwS 2 C.2.2.2.2.1 gX2_placeOf_X2_bellIn rfl rfl rfl hd_X2_bellIn ⟨Nat.le_of_ble_eq_true rfl, Nat.le_of_ble_eq_true rfl⟩) rfl rfl rfl hl dX2_placeOf_10 ⟨Nat.zero_le _, Nat.zero_le _⟩) (fun r H locs hwp hw => ?_)
      refine r_iload_n C dX2_placeOf_13 hl rfl ?_
      obtain ⟨ra, rb, hT, hF⟩ := hwp
      refine r_icmp_ne C (tgt := 19) dX2_placeOf_14 rfl ra rb (fun hc => ?_) (fun hc => ?_)
      · have hwp := hT hc
        refine r_iinc C dX2_placeOf_19 hl rfl (Nat.le_of_ble_eq_true rfl) rfl (fun ls hl => ?_)
        refine r_goto C (tgt := 2) dX2_placeOf_22 rfl ?_
        exact ih hwp hw (lh_mask hl [true, true, true])
      · have hwp := hF hc
        refine r_iload_n C dX2_placeOf_17 hl rfl ?_
        exact hR _ _ _ _ _ _ dX2_placeOf_18 trivial ⟨rfl, hwp⟩ hw
set_option maxRecDepth 100000 in
theorem b_X2_placeOf_0 {σ : St} {post : Int → Prop} (C : cx p s m args meth c wsX2_placeOf RX2 cX2_placeOf 3 (some .int) D cA) (hA : ∀ q, s.heap.size ≤ q → A q) (hR : RtI p l e rm_X2_placeOf s m args below meth c Q cX2_placeOf D cA K_0 h A (fun _ => True) (fun r σ' => σ' = σ ∧ post r)) : ∀ {v0 v1 : Int} {H : Heap} {locs : List Loc} {ls : Array Slot}, wp_X2_placeOf v0 v1 post → wd D cA K_0 h σ A s.heap H locs → lh ls 3 [some (iv v0), some (iv v1), none] → W p l e rm_X2_placeOf s m args below meth c H locs 0 0 Q (F0 m 0 ls []) := by
  intro v0 v1 H locs ls hwp hw hl
  refine r_const C dX2_placeOf_0 ?_
  refine r_istore_n C dX2_placeOf_1 hl (Nat.le_of_ble_eq_true rfl) (Nat.le_of_ble_eq_true rfl) rfl (fun ls hl => ?_)
  obtain ⟨n9, hwp⟩ := hwp
  exact b_X2_placeOf_2 C hA hR n9 hwp hw (lh_mask hl [true, true, true])
set_option maxRecDepth 100000 in
theorem c_X2_placeOf {l : Launch} {D : va_G} {cA : FieldType → ClassId} {h : Nat → Nat} {σ : St} {sz : Nat} {v0 v1 : Int} {post : Int → Prop} (hwp : wp_X2_placeOf v0 v1 post) : Met l yX2_placeOf wsX2_placeOf rm_X2_placeOf (va_Pc [iv v0, iv v1] (preS D cA K_0 h σ sz)) (QI D cA K_0 h sz (fun r σ' => σ' = σ ∧ post r)) 0 0 (aA K_0.length h sz) := by
  refine mk_met (cc := cX2_placeOf) (nL := 3) (ret := (some .int)) (own := RX2) 1 (by decide) rfl rfl rfl rfl ?_
  intro p e s m args below meth c ls hsz C hw hl hA
  subst hsz
  exact b_X2_placeOf_0 C hA (rt_i C _) hwp hw hl
-- X2_isRightAhead
def rm_X2_isRightAhead : Room := { frames := 2, cells := 0, slots := 0, locals := 43 }
set_option maxRecDepth 100000 in
theorem b_X2_isRightAhead_0 {σ : St} {post : Int → Prop} (C : cx p s m args meth c wsX2_isRightAhead RX2 cX2_isRightAhead 3 (some .boolean) D cA) (hA : ∀ q, s.heap.size ≤ q → A q) (hR : RtI p l e rm_X2_isRightAhead s m args below meth c Q cX2_isRightAhead D cA K_0 h A (fun x => x = 0 ∨ x = 1) (fun r σ' => σ' = σ ∧ post r)) : ∀ {v0 v1 v2 : Int} {H : Heap} {locs : List Loc} {ls : Array Slot}, wp_X2_isRightAhead v0 v1 v2 post → wd D cA K_0 h σ A s.heap H locs → lh ls 3 [some (iv v0), some (iv v1), some (iv v2)] → W p l e rm_X2_isRightAhead s m args below meth c H locs 0 0 Q (F0 m 0 ls []) := by
  intro v0 v1 v2 H locs ls hwp hw hl
  refine r_iload_n C dX2_isRightAhead_0 hl rfl ?_
  refine r_iload_n C dX2_isRightAhead_1 hl rfl ?_
  refine r_cIr hA hw sb_0_0_0_0 (run_s C hw sb_0_0_0_0 (c_X2_placeOf hwp) (va_cwS 2 C.2.2.2.2.1 gX2_isRightAhead_X2_placeOf rfl rfl rfl hd_X2_placeOf ⟨Nat.le_of_ble_eq_true rfl, Nat.le_of_ble_eq_true rfl⟩) rfl rfl rfl hl dX2_isRightAhead_2 ⟨Nat.zero_le _, Nat.zero_le _⟩) (fun r H locs hwp hw => ?_)
  refine r_const C dX2_isRightAhead_5 ?_
  refine r_iadd C dX2_isRightAhead_6 ?_
  refine r_iload_n C dX2_isRightAhead_7 hl rfl ?_
  refine r_iload_n C dX2_isRightAhead_8 hl rfl ?_
  refine r_cIr hA hw sb_0_0_0_0 (run_s C hw sb_0_0_0_0 (c_X2_placeOf hwp) (va_cwS 2 C.2.2.2.2.1 gX2_isRightAhead_X2_placeOf rfl rfl rfl hd_X2_placeOf ⟨Nat.le_of_ble_eq_true rfl, Nat.le_of_ble_eq_true rfl⟩) rfl rfl rfl hl dX2_isRightAhead_9 ⟨Nat.zero_le _, Nat.zero_le _⟩) (fun r H locs hwp hw => ?_)
  obtain ⟨ra, rb, hT, hF⟩ := hwp
  refine r_icmp_ne C (tgt := 19) dX2_isRightAhead_12 rfl ra rb (fun hc => ?_) (fun hc => ?_)
  · have hwp := hT hc
    refine r_const C dX2_isRightAhead_19 ?_
    exact hR _ _ _ _ _ _ dX2_isRightAhead_20 (Or.inl rfl) ⟨rfl, hwp⟩ hw
  · have hwp := hF hc
    refine r_const C dX2_isRightAhead_15 ?_
    refine r_goto C (tgt := 20) dX2_isRightAhead_16 rfl ?_
    exact hR _ _ _ _ _ _ dX2_isRightAhead_20 (Or.inr rfl) ⟨rfl, hwp⟩ hw
set_option maxRecDepth 100000 in
theorem c_X2_isRightAhead {l : Launch} {D : va_G} {cA : FieldType → ClassId} {h : Nat → Nat} {σ : St} {sz : Nat} {v0 v1 v2 : Int} {post : Int → Prop} (hwp : wp_X2_isRightAhead v0 v1 v2 post) : Met l yX2_isRightAhead wsX2_isRightAhead rm_X2_isRightAhead (va_Pc [iv v0, iv v1, iv v2] (preS D cA K_0 h σ sz)) (QI D cA K_0 h sz (fun r σ' => σ' = σ ∧ post r)) 0 0 (aA K_0.length h sz) := by
  refine mk_met (cc := cX2_isRightAhead) (nL := 3) (ret := (some .boolean)) (own := RX2) 0 (by decide) rfl rfl rfl rfl ?_
  intro p e s m args below meth c ls hsz C hw hl hA
  subst hsz
  exact b_X2_isRightAhead_0 C hA (rt_z C _) hwp hw hl
-- X2_isKept
def rm_X2_isKept : Room := { frames := 0, cells := 0, slots := 0, locals := 0 }
set_option maxRecDepth 100000 in
theorem b_X2_isKept_0 {σ : St} {post : Int → Prop} (C : cx p s m args meth c wsX2_isKept RX2 cX2_isKept 2 (some .boolean) D cA) (hA : ∀ q, s.heap.size ≤ q → A q) (hR : RtI p l e rm_X2_isKept s m args below meth c Q cX2_isKept D cA K_0 h A (fun x => x = 0 ∨ x = 1) (fun r σ' => σ' = σ ∧ post r)) : ∀ {v0 v1 : Int} {H : Heap} {locs : List Loc} {ls : Array Slot}, wp_X2_isKept v0 v1 post → wd D cA K_0 h σ A s.heap H locs → lh ls 2 [some (iv v0), some (iv v1)] → W p l e rm_X2_isKept s m args below meth c H locs 0 0 Q (F0 m 0 ls []) := by
  intro v0 v1 H locs ls hwp hw hl
  refine r_iload_n C dX2_isKept_0 hl rfl ?_
  refine r_iload_n C dX2_isKept_1 hl rfl ?_
  refine r_ishr C dX2_isKept_2 ?_
  refine r_const C dX2_isKept_3 ?_
  refine r_iand C dX2_isKept_4 ?_
  obtain ⟨ra, hT, hF⟩ := hwp
  refine r_if_eq C (tgt := 12) dX2_isKept_5 rfl ra (fun hc => ?_) (fun hc => ?_)
  · have hwp := hT hc
    refine r_const C dX2_isKept_12 ?_
    exact hR _ _ _ _ _ _ dX2_isKept_13 (Or.inl rfl) ⟨rfl, hwp⟩ hw
  · have hwp := hF hc
    refine r_const C dX2_isKept_8 ?_
    refine r_goto C (tgt := 13) dX2_isKept_9 rfl ?_
    exact hR _ _ _ _ _ _ dX2_isKept_13 (Or.inr rfl) ⟨rfl, hwp⟩ hw
set_option maxRecDepth 100000 in
theorem c_X2_isKept {l : Launch} {D : va_G} {cA : FieldType → ClassId} {h : Nat → Nat} {σ : St} {sz : Nat} {v0 v1 : Int} {post : Int → Prop} (hwp : wp_X2_isKept v0 v1 post) : Met l yX2_isKept wsX2_isKept rm_X2_isKept (va_Pc [iv v0, iv v1] (preS D cA K_0 h σ sz)) (QI D cA K_0 h sz (fun r σ' => σ' = σ ∧ post r)) 0 0 (aA K_0.length h sz) := by
  refine mk_met (cc := cX2_isKept) (nL := 2) (ret := (some .boolean)) (own := RX2) 0 (by decide) rfl rfl rfl rfl ?_
  intro p e s m args below meth c ls hsz C hw hl hA
  subst hsz
  exact b_X2_isKept_0 C hA (rt_z C _) hwp hw hl
-- X2_pairs
def rm_X2_pairs : Room := { frames := 1, cells := 0, slots := 0, locals := 21 }
set_option maxRecDepth 100000 in
theorem b_X2_pairs_16 {σ : St} {post : Int → Prop} (C : cx p s m args meth c wsX2_pairs RX2 cX2_pairs 4 (some .int) D cA) (hA : ∀ q, s.heap.size ≤ q → A q) (hR : RtI p l e rm_X2_pairs s m args below meth c Q cX2_pairs D cA K_0 h A (fun _ => True) (fun r σ' => σ' = σ ∧ post r)) : ∀ (n : Nat) {v0 v1 v2 v3 : Int} {H : Heap} {locs : List Loc} {ls : Array Slot}, wp_X2_pairs_16 post n v0 v1 v2 v3 → wd D cA K_0 h σ A s.heap H locs → lh ls 4 [some (iv v0), some (iv v1), some (iv v2), some (iv v3)] → W p l e rm_X2_pairs s m args below meth c H locs 0 0 Q (F0 m 16 ls []) := by
  intro n; induction n with
  | zero => intros; rename_i hwp _ _; exact hwp.elim
  | succ n ih =>
    intro v0 v1 v2 v3 H locs ls hwp hw hl
    refine r_iload_n C dX2_pairs_16 hl rfl ?_
    refine r_iload_n C dX2_pairs_17 hl rfl ?_
    obtain ⟨ra, rb, hT, hF⟩ := hwp
    refine r_icmp_ge C (tgt := 69) dX2_pairs_18 rfl ra rb (fun hc => ?_) (fun hc => ?_)
    · have hwp := hT hc
      refine r_iload_n C dX2_pairs_69 hl rfl ?_
      exact hR _ _ _ _ _ _ dX2_pairs_70 trivial ⟨rfl, hwp⟩ hw
    · have hwp := hF hc
      refine r_iload_n C dX2_pairs_21 hl rfl ?_
      refine r_iload_n C dX2_pairs_22 hl rfl ?_
      refine r_cIr hA hw sb_0_0_0_0 (run_s C hw sb_0_0_0_0 (c_X2_isKept hwp) (va_cwS 2 C.2.2.2.2.1 gX2_pairs_X2_isKept rfl rfl rfl hd_X2_isKept ⟨Nat.le_of_ble_eq_true rfl, Nat.le_of_ble_eq_true rfl⟩) rfl rfl rfl hl dX2_pairs_23 ⟨Nat.zero_le _, Nat.zero_le _⟩) (fun r H locs hwp hw => ?_)
      obtain ⟨ra, hT, hF⟩ := hwp
      refine r_if_eq C (tgt := 35) dX2_pairs_26 rfl ra (fun hc => ?_) (fun hc => ?_)
      · have hwp := hT hc
        refine r_iload_n C dX2_pairs_35 hl rfl ?_
        refine r_const C dX2_pairs_36 ?_
        refine r_iadd C dX2_pairs_37 ?_
        refine r_iload_n C dX2_pairs_38 hl rfl ?_
        obtain ⟨ra, rb, hT, hF⟩ := hwp
        refine r_icmp_ge C (tgt := 52) dX2_pairs_39 rfl ra rb (fun hc => ?_) (fun hc => ?_)
        · have hwp := hT hc
          refine r_const C dX2_pairs_52 ?_
          exact hR _ _ _ _ _ _ dX2_pairs_53 trivial ⟨rfl, hwp⟩ hw
        · have hwp := hF hc
          refine r_iload_n C dX2_pairs_42 hl rfl ?_
          refine r_iload_n C dX2_pairs_43 hl rfl ?_
          refine r_const C dX2_pairs_44 ?_
          refine r_iadd C dX2_pairs_45 ?_
          refine r_cIr hA hw sb_0_0_0_0 (run_s C hw sb_0_0_0_0 (c_X2_isKept hwp) (va_cwS 2 C.2.2.2.2.1 gX2_pairs_X2_isKept rfl rfl rfl hd_X2_isKept ⟨Nat.le_of_ble_eq_true rfl, Nat.le_of_ble_eq_true rfl⟩) rfl rfl rfl hl dX2_pairs_46 ⟨Nat.zero_le _, Nat.zero_le _⟩) (fun r H locs hwp hw => ?_)
          obtain ⟨ra, hT, hF⟩ := hwp
          refine r_if_eq C (tgt := 54) dX2_pairs_49 rfl ra (fun hc => ?_) (fun hc => ?_)
          · have hwp := hT hc
            refine r_iload_n C dX2_pairs_54 hl rfl ?_
            refine r_bipush C dX2_pairs_55 bpb_15 ?_
            refine r_const C dX2_pairs_57 ?_
            refine r_iload_n C dX2_pairs_58 hl rfl ?_
            refine r_imul C dX2_pairs_59 ?_
            refine r_ishl C dX2_pairs_60 ?_
            refine r_ior C dX2_pairs_61 ?_
            refine r_istore_n C dX2_pairs_62 hl (Nat.le_of_ble_eq_true rfl) (Nat.le_of_ble_eq_true rfl) rfl (fun ls hl => ?_)
            refine r_iinc C dX2_pairs_63 hl rfl (Nat.le_of_ble_eq_true rfl) rfl (fun ls hl => ?_)
            refine r_goto C (tgt := 16) dX2_pairs_66 rfl ?_
            exact ih hwp hw (lh_mask hl [true, true, true, true])
          · have hwp := hF hc
            refine r_const C dX2_pairs_52 ?_
            exact hR _ _ _ _ _ _ dX2_pairs_53 trivial ⟨rfl, hwp⟩ hw
      · have hwp := hF hc
        refine r_iinc C dX2_pairs_29 hl rfl (Nat.le_of_ble_eq_true rfl) rfl (fun ls hl => ?_)
        refine r_goto C (tgt := 16) dX2_pairs_32 rfl ?_
        exact ih hwp hw (lh_mask hl [true, true, true, true])
set_option maxRecDepth 100000 in
theorem b_X2_pairs_0 {σ : St} {post : Int → Prop} (C : cx p s m args meth c wsX2_pairs RX2 cX2_pairs 4 (some .int) D cA) (hA : ∀ q, s.heap.size ≤ q → A q) (hR : RtI p l e rm_X2_pairs s m args below meth c Q cX2_pairs D cA K_0 h A (fun _ => True) (fun r σ' => σ' = σ ∧ post r)) : ∀ {v0 v1 : Int} {H : Heap} {locs : List Loc} {ls : Array Slot}, wp_X2_pairs v0 v1 post → wd D cA K_0 h σ A s.heap H locs → lh ls 4 [some (iv v0), some (iv v1), none, none] → W p l e rm_X2_pairs s m args below meth c H locs 0 0 Q (F0 m 0 ls []) := by
  intro v0 v1 H locs ls hwp hw hl
  refine r_iload_n C dX2_pairs_0 hl rfl ?_
  obtain ⟨ra, hT, hF⟩ := hwp
  refine r_if_lt C (tgt := 10) dX2_pairs_1 rfl ra (fun hc => ?_) (fun hc => ?_)
  · have hwp := hT hc
    refine r_const C dX2_pairs_10 ?_
    exact hR _ _ _ _ _ _ dX2_pairs_11 trivial ⟨rfl, hwp⟩ hw
  · have hwp := hF hc
    refine r_iload_n C dX2_pairs_4 hl rfl ?_
    refine r_iload_n C dX2_pairs_5 hl rfl ?_
    refine r_ishr C dX2_pairs_6 ?_
    obtain ⟨ra, hT, hF⟩ := hwp
    refine r_if_eq C (tgt := 12) dX2_pairs_7 rfl ra (fun hc => ?_) (fun hc => ?_)
    · have hwp := hT hc
      refine r_const C dX2_pairs_12 ?_
      refine r_istore_n C dX2_pairs_13 hl (Nat.le_of_ble_eq_true rfl) (Nat.le_of_ble_eq_true rfl) rfl (fun ls hl => ?_)
      refine r_const C dX2_pairs_14 ?_
      refine r_istore_n C dX2_pairs_15 hl (Nat.le_of_ble_eq_true rfl) (Nat.le_of_ble_eq_true rfl) rfl (fun ls hl => ?_)
      obtain ⟨n9, hwp⟩ := hwp
      exact b_X2_pairs_16 C hA hR n9 hwp hw (lh_mask hl [true, true, true, true])
    · have hwp := hF hc
      refine r_const C dX2_pairs_10 ?_
      exact hR _ _ _ _ _ _ dX2_pairs_11 trivial ⟨rfl, hwp⟩ hw
set_option maxRecDepth 100000 in
theorem c_X2_pairs {l : Launch} {D : va_G} {cA : FieldType → ClassId} {h : Nat → Nat} {σ : St} {sz : Nat} {v0 v1 : Int} {post : Int → Prop} (hwp : wp_X2_pairs v0 v1 post) : Met l yX2_pairs wsX2_pairs rm_X2_pairs (va_Pc [iv v0, iv v1] (preS D cA K_0 h σ sz)) (QI D cA K_0 h sz (fun r σ' => σ' = σ ∧ post r)) 0 0 (aA K_0.length h sz) := by
  refine mk_met (cc := cX2_pairs) (nL := 4) (ret := (some .int)) (own := RX2) 2 (by decide) rfl rfl rfl rfl ?_
  intro p e s m args below meth c ls hsz C hw hl hA
  subst hsz
  exact b_X2_pairs_0 C hA (rt_i C _) hwp hw hl
-- X2_isGood
def rm_X2_isGood : Room := { frames := 2, cells := 0, slots := 0, locals := 44 }
set_option maxRecDepth 100000 in
theorem b_X2_isGood_0 {σ : St} {post : Int → Prop} (C : cx p s m args meth c wsX2_isGood RX2 cX2_isGood 2 (some .boolean) D cA) (hA : ∀ q, s.heap.size ≤ q → A q) (hR : RtI p l e rm_X2_isGood s m args below meth c Q cX2_isGood D cA K_0 h A (fun x => x = 0 ∨ x = 1) (fun r σ' => σ' = σ ∧ post r)) : ∀ {v0 v1 : Int} {H : Heap} {locs : List Loc} {ls : Array Slot}, wp_X2_isGood v0 v1 post → wd D cA K_0 h σ A s.heap H locs → lh ls 2 [some (iv v0), some (iv v1)] → W p l e rm_X2_isGood s m args below meth c H locs 0 0 Q (F0 m 0 ls []) := by
  intro v0 v1 H locs ls hwp hw hl
  refine r_iload_n C dX2_isGood_0 hl rfl ?_
  refine r_iload_n C dX2_isGood_1 hl rfl ?_
  refine r_cIr hA hw sb_0_0_0_0 (run_s C hw sb_0_0_0_0 (c_X2_pairs hwp) (va_cwS 2 C.2.2.2.2.1 gX2_isGood_X2_pairs rfl rfl rfl hd_X2_pairs ⟨Nat.le_of_ble_eq_true rfl, Nat.le_of_ble_eq_true rfl⟩) rfl rfl rfl hl dX2_isGood_2 ⟨Nat.zero_le _, Nat.zero_le _⟩) (fun r H locs hwp hw => ?_)
  refine r_const C dX2_isGood_5 ?_
  obtain ⟨ra, hT, hF⟩ := hwp
  refine r_icmp_eq C (tgt := 13) dX2_isGood_6 rfl ra (by decide) (fun hc => ?_) (fun hc => ?_)
  · have hwp := hT hc
    refine r_const C dX2_isGood_13 ?_
    exact hR _ _ _ _ _ _ dX2_isGood_14 (Or.inl rfl) ⟨rfl, hwp⟩ hw
  · have hwp := hF hc
    refine r_const C dX2_isGood_9 ?_
    refine r_goto C (tgt := 14) dX2_isGood_10 rfl ?_
    exact hR _ _ _ _ _ _ dX2_isGood_14 (Or.inr rfl) ⟨rfl, hwp⟩ hw
set_option maxRecDepth 100000 in
theorem c_X2_isGood {l : Launch} {D : va_G} {cA : FieldType → ClassId} {h : Nat → Nat} {σ : St} {sz : Nat} {v0 v1 : Int} {post : Int → Prop} (hwp : wp_X2_isGood v0 v1 post) : Met l yX2_isGood wsX2_isGood rm_X2_isGood (va_Pc [iv v0, iv v1] (preS D cA K_0 h σ sz)) (QI D cA K_0 h sz (fun r σ' => σ' = σ ∧ post r)) 0 0 (aA K_0.length h sz) := by
  refine mk_met (cc := cX2_isGood) (nL := 2) (ret := (some .boolean)) (own := RX2) 0 (by decide) rfl rfl rfl rfl ?_
  intro p e s m args below meth c ls hsz C hw hl hA
  subst hsz
  exact b_X2_isGood_0 C hA (rt_z C _) hwp hw hl
-- X2_swapped
def rm_X2_swapped : Room := { frames := 0, cells := 0, slots := 0, locals := 0 }
set_option maxRecDepth 100000 in
theorem b_X2_swapped_0 {σ : St} {post : Int → Prop} (C : cx p s m args meth c wsX2_swapped RX2 cX2_swapped 3 (some .int) D cA) (hA : ∀ q, s.heap.size ≤ q → A q) (hR : RtI p l e rm_X2_swapped s m args below meth c Q cX2_swapped D cA K_0 h A (fun _ => True) (fun r σ' => σ' = σ ∧ post r)) : ∀ {v0 v1 : Int} {H : Heap} {locs : List Loc} {ls : Array Slot}, wp_X2_swapped v0 v1 post → wd D cA K_0 h σ A s.heap H locs → lh ls 3 [some (iv v0), some (iv v1), none] → W p l e rm_X2_swapped s m args below meth c H locs 0 0 Q (F0 m 0 ls []) := by
  intro v0 v1 H locs ls hwp hw hl
  refine r_iload_n C dX2_swapped_0 hl rfl ?_
  refine r_iload_n C dX2_swapped_1 hl rfl ?_
  refine r_iload_n C dX2_swapped_2 hl rfl ?_
  refine r_const C dX2_swapped_3 ?_
  refine r_ishl C dX2_swapped_4 ?_
  refine r_ior C dX2_swapped_5 ?_
  refine r_const C dX2_swapped_6 ?_
  refine r_ixor C dX2_swapped_7 ?_
  refine r_iand C dX2_swapped_8 ?_
  refine r_istore_n C dX2_swapped_9 hl (Nat.le_of_ble_eq_true rfl) (Nat.le_of_ble_eq_true rfl) rfl (fun ls hl => ?_)
  refine r_iload_n C dX2_swapped_10 hl rfl ?_
  refine r_iload_n C dX2_swapped_11 hl rfl ?_
  refine r_iload_n C dX2_swapped_12 hl rfl ?_
  refine r_iand C dX2_swapped_13 ?_
  refine r_const C dX2_swapped_14 ?_
  refine r_ishl C dX2_swapped_15 ?_
  refine r_ior C dX2_swapped_16 ?_
  refine r_iload_n C dX2_swapped_17 hl rfl ?_
  refine r_const C dX2_swapped_18 ?_
  refine r_iushr C dX2_swapped_19 ?_
  refine r_iload_n C dX2_swapped_20 hl rfl ?_
  refine r_iand C dX2_swapped_21 ?_
  refine r_ior C dX2_swapped_22 ?_
  exact hR _ _ _ _ _ _ dX2_swapped_23 trivial ⟨rfl, hwp⟩ hw
set_option maxRecDepth 100000 in
theorem c_X2_swapped {l : Launch} {D : va_G} {cA : FieldType → ClassId} {h : Nat → Nat} {σ : St} {sz : Nat} {v0 v1 : Int} {post : Int → Prop} (hwp : wp_X2_swapped v0 v1 post) : Met l yX2_swapped wsX2_swapped rm_X2_swapped (va_Pc [iv v0, iv v1] (preS D cA K_0 h σ sz)) (QI D cA K_0 h sz (fun r σ' => σ' = σ ∧ post r)) 0 0 (aA K_0.length h sz) := by
  refine mk_met (cc := cX2_swapped) (nL := 3) (ret := (some .int)) (own := RX2) 1 (by decide) rfl rfl rfl rfl ?_
  intro p e s m args below meth c ls hsz C hw hl hA
  subst hsz
  exact b_X2_swapped_0 C hA (rt_i C _) hwp hw hl
end
end
section
theorem dX3_init_0 : decode cX3_init 0 = .ok (.aload_n 0, 1) := by decide +kernel
theorem dX3_init_1 : decode cX3_init 1 = .ok (.invokespecial 3, 3) := by decide +kernel
theorem dX3_init_4 : decode cX3_init 4 = .ok (.aload_n 0, 1) := by decide +kernel
theorem dX3_init_5 : decode cX3_init 5 = .ok (.sipush 512, 3) := by decide +kernel
theorem dX3_init_8 : decode cX3_init 8 = .ok (.newarray .int, 2) := by decide +kernel
theorem dX3_init_10 : decode cX3_init 10 = .ok (.putfield 9, 3) := by decide +kernel
theorem dX3_init_13 : decode cX3_init 13 = .ok (.return_, 1) := by decide +kernel
set_option maxRecDepth 20000 in
theorem ggX3_enter_X3_start : GoodIn wsX3_enter wsX3_start := goodIn_r _ [5, 6] (by decide +kernel) (by decide +kernel)
set_option maxRecDepth 20000 in
theorem gX3_enter_X3_start : GoodIn wsX3_enter (va_wsS RX3 13 yX3_start wsX3_start) := goodIn_app (goodIn_of _ (by decide +kernel)) ggX3_enter_X3_start
theorem dX3_enter_0 : decode cX3_enter 0 = .ok (.aload_n 1, 1) := by decide +kernel
theorem dX3_enter_1 : decode cX3_enter 1 = .ok (.iload_n 2, 1) := by decide +kernel
theorem dX3_enter_2 : decode cX3_enter 2 = .ok (.iaload, 1) := by decide +kernel
theorem dX3_enter_3 : decode cX3_enter 3 = .ok (.invokestatic 13, 3) := by decide +kernel
theorem dX3_enter_6 : decode cX3_enter 6 = .ok (.istore_n 3, 1) := by decide +kernel
theorem dX3_enter_7 : decode cX3_enter 7 = .ok (.iconst 0, 1) := by decide +kernel
theorem dX3_enter_8 : decode cX3_enter 8 = .ok (.istore 4, 2) := by decide +kernel
theorem dX3_enter_10 : decode cX3_enter 10 = .ok (.iload 4, 2) := by decide +kernel
theorem dX3_enter_12 : decode cX3_enter 12 = .ok (.sipush 512, 3) := by decide +kernel
theorem dX3_enter_15 : decode cX3_enter 15 = .ok (.if_icmp .ge 60, 3) := by decide +kernel
theorem dX3_enter_18 : decode cX3_enter 18 = .ok (.iload_n 3, 1) := by decide +kernel
theorem dX3_enter_19 : decode cX3_enter 19 = .ok (.iload 4, 2) := by decide +kernel
theorem dX3_enter_21 : decode cX3_enter 21 = .ok (.iadd, 1) := by decide +kernel
theorem dX3_enter_22 : decode cX3_enter 22 = .ok (.sipush 511, 3) := by decide +kernel
theorem dX3_enter_25 : decode cX3_enter 25 = .ok (.iand, 1) := by decide +kernel
theorem dX3_enter_26 : decode cX3_enter 26 = .ok (.istore 5, 2) := by decide +kernel
theorem dX3_enter_28 : decode cX3_enter 28 = .ok (.aload_n 0, 1) := by decide +kernel
theorem dX3_enter_29 : decode cX3_enter 29 = .ok (.getfield 9, 3) := by decide +kernel
theorem dX3_enter_32 : decode cX3_enter 32 = .ok (.iload 5, 2) := by decide +kernel
theorem dX3_enter_34 : decode cX3_enter 34 = .ok (.iaload, 1) := by decide +kernel
theorem dX3_enter_35 : decode cX3_enter 35 = .ok (.iconst 1, 1) := by decide +kernel
theorem dX3_enter_36 : decode cX3_enter 36 = .ok (.isub, 1) := by decide +kernel
theorem dX3_enter_37 : decode cX3_enter 37 = .ok (.istore 6, 2) := by decide +kernel
theorem dX3_enter_39 : decode cX3_enter 39 = .ok (.iload 6, 2) := by decide +kernel
theorem dX3_enter_41 : decode cX3_enter 41 = .ok (.ifCond .ge 15, 3) := by decide +kernel
theorem dX3_enter_44 : decode cX3_enter 44 = .ok (.aload_n 0, 1) := by decide +kernel
theorem dX3_enter_45 : decode cX3_enter 45 = .ok (.getfield 9, 3) := by decide +kernel
theorem dX3_enter_48 : decode cX3_enter 48 = .ok (.iload 5, 2) := by decide +kernel
theorem dX3_enter_50 : decode cX3_enter 50 = .ok (.iload_n 2, 1) := by decide +kernel
theorem dX3_enter_51 : decode cX3_enter 51 = .ok (.iconst 1, 1) := by decide +kernel
theorem dX3_enter_52 : decode cX3_enter 52 = .ok (.iadd, 1) := by decide +kernel
theorem dX3_enter_53 : decode cX3_enter 53 = .ok (.iastore, 1) := by decide +kernel
theorem dX3_enter_54 : decode cX3_enter 54 = .ok (.iload_n 2, 1) := by decide +kernel
theorem dX3_enter_55 : decode cX3_enter 55 = .ok (.ireturn, 1) := by decide +kernel
theorem dX3_enter_56 : decode cX3_enter 56 = .ok (.aload_n 1, 1) := by decide +kernel
theorem dX3_enter_57 : decode cX3_enter 57 = .ok (.iload 6, 2) := by decide +kernel
theorem dX3_enter_59 : decode cX3_enter 59 = .ok (.iaload, 1) := by decide +kernel
theorem dX3_enter_60 : decode cX3_enter 60 = .ok (.aload_n 1, 1) := by decide +kernel
theorem dX3_enter_61 : decode cX3_enter 61 = .ok (.iload_n 2, 1) := by decide +kernel
theorem dX3_enter_62 : decode cX3_enter 62 = .ok (.iaload, 1) := by decide +kernel
theorem dX3_enter_63 : decode cX3_enter 63 = .ok (.if_icmp .ne 6, 3) := by decide +kernel
theorem dX3_enter_66 : decode cX3_enter 66 = .ok (.iload 6, 2) := by decide +kernel
theorem dX3_enter_68 : decode cX3_enter 68 = .ok (.ireturn, 1) := by decide +kernel
theorem dX3_enter_69 : decode cX3_enter 69 = .ok (.iinc 4 1, 3) := by decide +kernel
theorem dX3_enter_72 : decode cX3_enter 72 = .ok (.goto (-62), 3) := by decide +kernel
theorem dX3_enter_75 : decode cX3_enter 75 = .ok (.iload_n 2, 1) := by decide +kernel
theorem dX3_enter_76 : decode cX3_enter 76 = .ok (.ireturn, 1) := by decide +kernel
set_option maxRecDepth 20000 in
theorem ggX3_leave_X3_start : GoodIn wsX3_leave wsX3_start := goodIn_r _ [5, 6] (by decide +kernel) (by decide +kernel)
set_option maxRecDepth 20000 in
theorem gX3_leave_X3_start : GoodIn wsX3_leave (va_wsS RX3 13 yX3_start wsX3_start) := goodIn_app (goodIn_of _ (by decide +kernel)) ggX3_leave_X3_start
theorem dX3_leave_0 : decode cX3_leave 0 = .ok (.aload_n 1, 1) := by decide +kernel
theorem dX3_leave_1 : decode cX3_leave 1 = .ok (.iload_n 2, 1) := by decide +kernel
theorem dX3_leave_2 : decode cX3_leave 2 = .ok (.iaload, 1) := by decide +kernel
theorem dX3_leave_3 : decode cX3_leave 3 = .ok (.invokestatic 13, 3) := by decide +kernel
theorem dX3_leave_6 : decode cX3_leave 6 = .ok (.istore_n 3, 1) := by decide +kernel
theorem dX3_leave_7 : decode cX3_leave 7 = .ok (.iconst 0, 1) := by decide +kernel
theorem dX3_leave_8 : decode cX3_leave 8 = .ok (.istore 4, 2) := by decide +kernel
theorem dX3_leave_10 : decode cX3_leave 10 = .ok (.iload 4, 2) := by decide +kernel
theorem dX3_leave_12 : decode cX3_leave 12 = .ok (.sipush 512, 3) := by decide +kernel
theorem dX3_leave_15 : decode cX3_leave 15 = .ok (.if_icmp .ge 52, 3) := by decide +kernel
theorem dX3_leave_18 : decode cX3_leave 18 = .ok (.iload_n 3, 1) := by decide +kernel
theorem dX3_leave_19 : decode cX3_leave 19 = .ok (.iload 4, 2) := by decide +kernel
theorem dX3_leave_21 : decode cX3_leave 21 = .ok (.iadd, 1) := by decide +kernel
theorem dX3_leave_22 : decode cX3_leave 22 = .ok (.sipush 511, 3) := by decide +kernel
theorem dX3_leave_25 : decode cX3_leave 25 = .ok (.iand, 1) := by decide +kernel
theorem dX3_leave_26 : decode cX3_leave 26 = .ok (.istore 5, 2) := by decide +kernel
theorem dX3_leave_28 : decode cX3_leave 28 = .ok (.aload_n 0, 1) := by decide +kernel
theorem dX3_leave_29 : decode cX3_leave 29 = .ok (.getfield 9, 3) := by decide +kernel
theorem dX3_leave_32 : decode cX3_leave 32 = .ok (.iload 5, 2) := by decide +kernel
theorem dX3_leave_34 : decode cX3_leave 34 = .ok (.iaload, 1) := by decide +kernel
theorem dX3_leave_35 : decode cX3_leave 35 = .ok (.iload_n 2, 1) := by decide +kernel
theorem dX3_leave_36 : decode cX3_leave 36 = .ok (.iconst 1, 1) := by decide +kernel
theorem dX3_leave_37 : decode cX3_leave 37 = .ok (.iadd, 1) := by decide +kernel
theorem dX3_leave_38 : decode cX3_leave 38 = .ok (.if_icmp .ne 12, 3) := by decide +kernel
theorem dX3_leave_41 : decode cX3_leave 41 = .ok (.aload_n 0, 1) := by decide +kernel
theorem dX3_leave_42 : decode cX3_leave 42 = .ok (.getfield 9, 3) := by decide +kernel
theorem dX3_leave_45 : decode cX3_leave 45 = .ok (.iload 5, 2) := by decide +kernel
theorem dX3_leave_47 : decode cX3_leave 47 = .ok (.iconst 0, 1) := by decide +kernel
theorem dX3_leave_48 : decode cX3_leave 48 = .ok (.iastore, 1) := by decide +kernel
theorem dX3_leave_49 : decode cX3_leave 49 = .ok (.return_, 1) := by decide +kernel
theorem dX3_leave_50 : decode cX3_leave 50 = .ok (.aload_n 0, 1) := by decide +kernel
theorem dX3_leave_51 : decode cX3_leave 51 = .ok (.getfield 9, 3) := by decide +kernel
theorem dX3_leave_54 : decode cX3_leave 54 = .ok (.iload 5, 2) := by decide +kernel
theorem dX3_leave_56 : decode cX3_leave 56 = .ok (.iaload, 1) := by decide +kernel
theorem dX3_leave_57 : decode cX3_leave 57 = .ok (.ifCond .ne 4, 3) := by decide +kernel
theorem dX3_leave_60 : decode cX3_leave 60 = .ok (.return_, 1) := by decide +kernel
theorem dX3_leave_61 : decode cX3_leave 61 = .ok (.iinc 4 1, 3) := by decide +kernel
theorem dX3_leave_64 : decode cX3_leave 64 = .ok (.goto (-54), 3) := by decide +kernel
theorem dX3_leave_67 : decode cX3_leave 67 = .ok (.return_, 1) := by decide +kernel
theorem dX3_start_0 : decode cX3_start 0 = .ok (.iload_n 0, 1) := by decide +kernel
theorem dX3_start_1 : decode cX3_start 1 = .ok (.ldc 17, 2) := by decide +kernel
theorem dX3_start_3 : decode cX3_start 3 = .ok (.imul, 1) := by decide +kernel
theorem dX3_start_4 : decode cX3_start 4 = .ok (.bipush 23, 2) := by decide +kernel
theorem dX3_start_6 : decode cX3_start 6 = .ok (.iushr, 1) := by decide +kernel
theorem dX3_start_7 : decode cX3_start 7 = .ok (.ireturn, 1) := by decide +kernel
end
section
-- X3_start
def wp_X3_start (v0 : Int) (post : Int → Prop) : Prop := (post (bur (v0 * (-1640531535)) 23))
-- X3_enter
def wp_X3_enter_10 (post : Int → St → Prop) : Nat → Int → Int → Int → St → Prop
  | 0, _, _, _, _ => False
  | fu + 1, v2, v3, v4, σ => (rg v4 ∧ (512 ≤ v4 → (post v2 σ)) ∧ (¬ 512 ≤ v4 → (0 ≤ (bnd (v3 + v4) 511) ∧ (bnd (v3 + v4) 511) < 512 ∧ (rg ((σ 1 (bnd (v3 + v4) 511)) - 1) ∧ (0 ≤ ((σ 1 (bnd (v3 + v4) 511)) - 1) → (0 ≤ ((σ 1 (bnd (v3 + v4) 511)) - 1) ∧ ((σ 1 (bnd (v3 + v4) 511)) - 1) < 193 ∧ (0 ≤ v2 ∧ v2 < 193 ∧ (rg (σ 2 ((σ 1 (bnd (v3 + v4) 511)) - 1)) ∧ rg (σ 2 v2) ∧ (¬ (σ 2 ((σ 1 (bnd (v3 + v4) 511)) - 1)) = (σ 2 v2) → (wp_X3_enter_10 post fu v2 v3 (v4 + 1) σ)) ∧ ((σ 2 ((σ 1 (bnd (v3 + v4) 511)) - 1)) = (σ 2 v2) → (post ((σ 1 (bnd (v3 + v4) 511)) - 1) σ)))))) ∧ (¬ 0 ≤ ((σ 1 (bnd (v3 + v4) 511)) - 1) → (0 ≤ (bnd (v3 + v4) 511) ∧ (bnd (v3 + v4) 511) < 512 ∧ ∀ σ1 : St, σ1 = up σ 1 (bnd (v3 + v4) 511) (v2 + 1) → (post v2 σ1)))))))
def wp_X3_enter (σ : St) (v2 : Int) (post : Int → St → Prop) : Prop := (0 ≤ v2 ∧ v2 < 193 ∧ (wp_X3_start (σ 2 v2) (fun r1 => (∃ n : Nat, wp_X3_enter_10 post n v2 r1 0 σ))))
-- X3_leave
def wp_X3_leave_10 (post : St → Prop) : Nat → Int → Int → Int → St → Prop
  | 0, _, _, _, _ => False
  | fu + 1, v2, v3, v4, σ => (rg v4 ∧ (512 ≤ v4 → (post σ)) ∧ (¬ 512 ≤ v4 → (0 ≤ (bnd (v3 + v4) 511) ∧ (bnd (v3 + v4) 511) < 512 ∧ (rg (σ 1 (bnd (v3 + v4) 511)) ∧ rg (v2 + 1) ∧ (¬ (σ 1 (bnd (v3 + v4) 511)) = (v2 + 1) → (0 ≤ (bnd (v3 + v4) 511) ∧ (bnd (v3 + v4) 511) < 512 ∧ (rg (σ 1 (bnd (v3 + v4) 511)) ∧ (¬ (σ 1 (bnd (v3 + v4) 511)) = 0 → (wp_X3_leave_10 post fu v2 v3 (v4 + 1) σ)) ∧ ((σ 1 (bnd (v3 + v4) 511)) = 0 → (post σ))))) ∧ ((σ 1 (bnd (v3 + v4) 511)) = (v2 + 1) → (0 ≤ (bnd (v3 + v4) 511) ∧ (bnd (v3 + v4) 511) < 512 ∧ ∀ σ1 : St, σ1 = up σ 1 (bnd (v3 + v4) 511) 0 → (post σ1)))))))
def wp_X3_leave (σ : St) (v2 : Int) (post : St → Prop) : Prop := (0 ≤ v2 ∧ v2 < 193 ∧ (wp_X3_start (σ 2 v2) (fun r1 => (∃ n : Nat, wp_X3_leave_10 post n v2 r1 0 σ))))
end
section
section
variable {p : Program} {l : Launch} {e : Env} {s : State} {m : MethodId} {args : Array Value} {below : List Frame} {meth : Method} {c : Code} {Q : State → Prop} {D : va_G} {cA : FieldType → ClassId} {h : Nat → Nat} {A : Nat → Prop}
-- X3_start
def rm_X3_start : Room := { frames := 0, cells := 0, slots := 0, locals := 0 }
set_option maxRecDepth 100000 in
theorem b_X3_start_0 {σ : St} {post : Int → Prop} (C : cx p s m args meth c wsX3_start RX3 cX3_start 1 (some .int) D cA) (hA : ∀ q, s.heap.size ≤ q → A q) (hR : RtI p l e rm_X3_start s m args below meth c Q cX3_start D cA K_0 h A (fun _ => True) (fun r σ' => σ' = σ ∧ post r)) : ∀ {v0 : Int} {H : Heap} {locs : List Loc} {ls : Array Slot}, wp_X3_start v0 post → wd D cA K_0 h σ A s.heap H locs → lh ls 1 [some (iv v0)] → W p l e rm_X3_start s m args below meth c H locs 0 0 Q (F0 m 0 ls []) := by
  intro v0 H locs ls hwp hw hl
  refine r_iload_n C dX3_start_0 hl rfl ?_
  refine r_ldc C (n := -1640531535) (by decide +kernel) dX3_start_1 ?_
  refine r_imul C dX3_start_3 ?_
  refine r_bipush C dX3_start_4 bpb_23 ?_
  refine r_iushr C dX3_start_6 ?_
  exact hR _ _ _ _ _ _ dX3_start_7 trivial ⟨rfl, hwp⟩ hw
set_option maxRecDepth 100000 in
theorem c_X3_start {l : Launch} {D : va_G} {cA : FieldType → ClassId} {h : Nat → Nat} {σ : St} {sz : Nat} {v0 : Int} {post : Int → Prop} (hwp : wp_X3_start v0 post) : Met l yX3_start wsX3_start rm_X3_start (va_Pc [iv v0] (preS D cA K_0 h σ sz)) (QI D cA K_0 h sz (fun r σ' => σ' = σ ∧ post r)) 0 0 (aA K_0.length h sz) := by
  refine mk_met (cc := cX3_start) (nL := 1) (ret := (some .int)) (own := RX3) 0 (by decide) rfl rfl rfl rfl ?_
  intro p e s m args below meth c ls hsz C hw hl hA
  subst hsz
  exact b_X3_start_0 C hA (rt_i C _) hwp hw hl
-- X3_enter
theorem hi_X3_enter_X3 : ∀ w ∈ u_ws RX3 TX3 1, w ∈ wsX3_enter := by decide +kernel
theorem hf_X3_enter_9 : Cond.fieldLink RX3 9 (TX3 0).1 (TX3 0).2.1 (TX3 0).2.2.1 ∈ wsX3_enter := by decide +kernel
def rm_X3_enter : Room := { frames := 1, cells := 0, slots := 0, locals := 20 }
set_option maxRecDepth 100000 in
theorem b_X3_enter_10 {post : Int → St → Prop} (C : cx p s m args meth c wsX3_enter RX3 cX3_enter 7 (some .int) D cA) (hA : ∀ q, s.heap.size ≤ q → A q) (hR : RtI p l e rm_X3_enter s m args below meth c Q cX3_enter D cA K_RTr h A (fun _ => True) post) : ∀ (n : Nat) {v2 v3 v4 : Int} {σ : St} {H : Heap} {locs : List Loc} {ls : Array Slot}, wp_X3_enter_10 post n v2 v3 v4 σ → wd D cA K_RTr h σ A s.heap H locs → lh ls 7 [some (.ref (h 0)), some (.ref (h 2)), some (iv v2), some (iv v3), some (iv v4), none, none] → W p l e rm_X3_enter s m args below meth c H locs 0 0 Q (F0 m 10 ls []) := by
  intro n; induction n with
  | zero => intros; rename_i hwp _ _; exact hwp.elim
  | succ n ih =>
    intro v2 v3 v4 σ H locs ls hwp hw hl
    refine r_iload C dX3_enter_10 hl rfl ?_
    refine r_sipush C dX3_enter_12 bps_512 ?_
    obtain ⟨ra, hT, hF⟩ := hwp
    refine r_icmp_ge C (tgt := 75) dX3_enter_15 rfl ra (by decide) (fun hc => ?_) (fun hc => ?_)
    · have hwp := hT hc
      refine r_iload_n C dX3_enter_75 hl rfl ?_
      exact hR _ _ _ _ _ _ dX3_enter_76 trivial hwp hw
    · have hwp := hF hc
      refine r_iload_n C dX3_enter_18 hl rfl ?_
      refine r_iload C dX3_enter_19 hl rfl ?_
      refine r_iadd C dX3_enter_21 ?_
      refine r_sipush C dX3_enter_22 bps_511 ?_
      refine r_iand C dX3_enter_25 ?_
      refine r_istore C dX3_enter_26 hl (Nat.le_of_ble_eq_true rfl) (Nat.le_of_ble_eq_true rfl) rfl (fun ls hl => ?_)
      refine r_aload_n C dX3_enter_28 hl rfl ?_
      refine r_getr C hw clX3 0 rfl 0 1 rfl (Nat.le_of_ble_eq_true rfl) hi_X3_enter_X3 hf_X3_enter_9 dX3_enter_29 ?_
      refine r_iload C dX3_enter_32 hl rfl ?_
      obtain ⟨h0, h1, hwp⟩ := hwp
      refine r_iald C hw 1 rfl rfl h0 h1 dX3_enter_34 ?_
      refine r_const C dX3_enter_35 ?_
      refine r_isub C dX3_enter_36 ?_
      refine r_istore C dX3_enter_37 hl (Nat.le_of_ble_eq_true rfl) (Nat.le_of_ble_eq_true rfl) rfl (fun ls hl => ?_)
      refine r_iload C dX3_enter_39 hl rfl ?_
      obtain ⟨ra, hT, hF⟩ := hwp
      refine r_if_ge C (tgt := 56) dX3_enter_41 rfl ra (fun hc => ?_) (fun hc => ?_)
      · have hwp := hT hc
        refine r_aload_n C dX3_enter_56 hl rfl ?_
        refine r_iload C dX3_enter_57 hl rfl ?_
        obtain ⟨h0, h1, hwp⟩ := hwp
        refine r_iald C hw 2 rfl rfl h0 h1 dX3_enter_59 ?_
        refine r_aload_n C dX3_enter_60 hl rfl ?_
        refine r_iload_n C dX3_enter_61 hl rfl ?_
        obtain ⟨h0, h1, hwp⟩ := hwp
        refine r_iald C hw 2 rfl rfl h0 h1 dX3_enter_62 ?_
        obtain ⟨ra, rb, hT, hF⟩ := hwp
        refine r_icmp_ne C (tgt := 69) dX3_enter_63 rfl ra rb (fun hc => ?_) (fun hc => ?_)
        · have hwp := hT hc
          refine r_iinc C dX3_enter_69 hl rfl (Nat.le_of_ble_eq_true rfl) rfl (fun ls hl => ?_)
          refine r_goto C (tgt := 10) dX3_enter_72 rfl ?_
          exact ih hwp hw (lh_mask hl [true, true, true, true, true, false, false])
        · have hwp := hF hc
          refine r_iload C dX3_enter_66 hl rfl ?_
          exact hR _ _ _ _ _ _ dX3_enter_68 trivial hwp hw
      · have hwp := hF hc
        refine r_aload_n C dX3_enter_44 hl rfl ?_
        refine r_getr C hw clX3 0 rfl 0 1 rfl (Nat.le_of_ble_eq_true rfl) hi_X3_enter_X3 hf_X3_enter_9 dX3_enter_45 ?_
        refine r_iload C dX3_enter_48 hl rfl ?_
        refine r_iload_n C dX3_enter_50 hl rfl ?_
        refine r_const C dX3_enter_51 ?_
        refine r_iadd C dX3_enter_52 ?_
        obtain ⟨h0, h1, hwp⟩ := hwp
        refine r_iast C hw 1 rfl rfl h0 h1 dX3_enter_53 (fun H locs hw => ?_)
        have hwp := hwp _ rfl
        refine r_iload_n C dX3_enter_54 hl rfl ?_
        exact hR _ _ _ _ _ _ dX3_enter_55 trivial hwp hw
set_option maxRecDepth 100000 in
theorem b_X3_enter_0 {post : Int → St → Prop} (C : cx p s m args meth c wsX3_enter RX3 cX3_enter 7 (some .int) D cA) (hA : ∀ q, s.heap.size ≤ q → A q) (hR : RtI p l e rm_X3_enter s m args below meth c Q cX3_enter D cA K_RTr h A (fun _ => True) post) : ∀ {v2 : Int} {σ : St} {H : Heap} {locs : List Loc} {ls : Array Slot}, wp_X3_enter σ v2 post → wd D cA K_RTr h σ A s.heap H locs → lh ls 7 [some (.ref (h 0)), some (.ref (h 2)), some (iv v2), none, none, none, none] → W p l e rm_X3_enter s m args below meth c H locs 0 0 Q (F0 m 0 ls []) := by
  intro v2 σ H locs ls hwp hw hl
  refine r_aload_n C dX3_enter_0 hl rfl ?_
  refine r_iload_n C dX3_enter_1 hl rfl ?_
  obtain ⟨h0, h1, hwp⟩ := hwp
  refine r_iald C hw 2 rfl rfl h0 h1 dX3_enter_2 ?_
  refine r_cIr hA hw sb_RTr_0_0_1 (run_s C hw sb_RTr_0_0_1 (c_X3_start hwp) (va_cwS 1 C.2.2.2.2.1 gX3_enter_X3_start rfl rfl rfl hd_X3_start ⟨Nat.le_of_ble_eq_true rfl, Nat.le_of_ble_eq_true rfl⟩) rfl rfl rfl hl dX3_enter_3 ⟨Nat.zero_le _, Nat.zero_le _⟩) (fun r H locs hwp hw => ?_)
  refine r_istore_n C dX3_enter_6 hl (Nat.le_of_ble_eq_true rfl) (Nat.le_of_ble_eq_true rfl) rfl (fun ls hl => ?_)
  refine r_const C dX3_enter_7 ?_
  refine r_istore C dX3_enter_8 hl (Nat.le_of_ble_eq_true rfl) (Nat.le_of_ble_eq_true rfl) rfl (fun ls hl => ?_)
  obtain ⟨n9, hwp⟩ := hwp
  exact b_X3_enter_10 C hA hR n9 hwp hw (lh_mask hl [true, true, true, true, true, false, false])
set_option maxRecDepth 100000 in
theorem c_X3_enter {l : Launch} {D : va_G} {cA : FieldType → ClassId} {h : Nat → Nat} {σ : St} {sz : Nat} {v2 : Int} {post : Int → St → Prop} (hwp : wp_X3_enter σ v2 post) : Met l yX3_enter wsX3_enter rm_X3_enter (va_Pc [.ref (h 0), .ref (h 2), iv v2] (preS D cA K_RTr h σ sz)) (QI D cA K_RTr h sz post) 0 0 (aA K_RTr.length h sz) := by
  refine mk_met (cc := cX3_enter) (nL := 7) (ret := (some .int)) (own := RX3) 4 (by decide) rfl rfl rfl rfl ?_
  intro p e s m args below meth c ls hsz C hw hl hA
  subst hsz
  exact b_X3_enter_0 C hA (rt_i C _) hwp hw hl
-- X3_leave
theorem hi_X3_leave_X3 : ∀ w ∈ u_ws RX3 TX3 1, w ∈ wsX3_leave := by decide +kernel
theorem hf_X3_leave_9 : Cond.fieldLink RX3 9 (TX3 0).1 (TX3 0).2.1 (TX3 0).2.2.1 ∈ wsX3_leave := by decide +kernel
def rm_X3_leave : Room := { frames := 1, cells := 0, slots := 0, locals := 20 }
set_option maxRecDepth 100000 in
theorem b_X3_leave_10 {post : St → Prop} (C : cx p s m args meth c wsX3_leave RX3 cX3_leave 6 none D cA) (hA : ∀ q, s.heap.size ≤ q → A q) (hR : RtV p l e rm_X3_leave s m args below meth c Q cX3_leave D cA K_RTr h A post) : ∀ (n : Nat) {v2 v3 v4 : Int} {σ : St} {H : Heap} {locs : List Loc} {ls : Array Slot}, wp_X3_leave_10 post n v2 v3 v4 σ → wd D cA K_RTr h σ A s.heap H locs → lh ls 6 [some (.ref (h 0)), none, some (iv v2), some (iv v3), some (iv v4), none] → W p l e rm_X3_leave s m args below meth c H locs 0 0 Q (F0 m 10 ls []) := by
  intro n; induction n with
  | zero => intros; rename_i hwp _ _; exact hwp.elim
  | succ n ih =>
    intro v2 v3 v4 σ H locs ls hwp hw hl
    refine r_iload C dX3_leave_10 hl rfl ?_
    refine r_sipush C dX3_leave_12 bps_512 ?_
    obtain ⟨ra, hT, hF⟩ := hwp
    refine r_icmp_ge C (tgt := 67) dX3_leave_15 rfl ra (by decide) (fun hc => ?_) (fun hc => ?_)
    · have hwp := hT hc
      exact hR _ _ _ _ _ dX3_leave_67 hwp hw
    · have hwp := hF hc
      refine r_iload_n C dX3_leave_18 hl rfl ?_
      refine r_iload C dX3_leave_19 hl rfl ?_
      refine r_iadd C dX3_leave_21 ?_
      refine r_sipush C dX3_leave_22 bps_511 ?_
      refine r_iand C dX3_leave_25 ?_
      refine r_istore C dX3_leave_26 hl (Nat.le_of_ble_eq_true rfl) (Nat.le_of_ble_eq_true rfl) rfl (fun ls hl => ?_)
      refine r_aload_n C dX3_leave_28 hl rfl ?_
      refine r_getr C hw clX3 0 rfl 0 1 rfl (Nat.le_of_ble_eq_true rfl) hi_X3_leave_X3 hf_X3_leave_9 dX3_leave_29 ?_
      refine r_iload C dX3_leave_32 hl rfl ?_
      obtain ⟨h0, h1, hwp⟩ := hwp
      refine r_iald C hw 1 rfl rfl h0 h1 dX3_leave_34 ?_
      refine r_iload_n C dX3_leave_35 hl rfl ?_
      refine r_const C dX3_leave_36 ?_
      refine r_iadd C dX3_leave_37 ?_
      obtain ⟨ra, rb, hT, hF⟩ := hwp
      refine r_icmp_ne C (tgt := 50) dX3_leave_38 rfl ra rb (fun hc => ?_) (fun hc => ?_)
      · have hwp := hT hc
        refine r_aload_n C dX3_leave_50 hl rfl ?_
        refine r_getr C hw clX3 0 rfl 0 1 rfl (Nat.le_of_ble_eq_true rfl) hi_X3_leave_X3 hf_X3_leave_9 dX3_leave_51 ?_
        refine r_iload C dX3_leave_54 hl rfl ?_
        obtain ⟨h0, h1, hwp⟩ := hwp
        refine r_iald C hw 1 rfl rfl h0 h1 dX3_leave_56 ?_
        obtain ⟨ra, hT, hF⟩ := hwp
        refine r_if_ne C (tgt := 61) dX3_leave_57 rfl ra (fun hc => ?_) (fun hc => ?_)
        · have hwp := hT hc
          refine r_iinc C dX3_leave_61 hl rfl (Nat.le_of_ble_eq_true rfl) rfl (fun ls hl => ?_)
          refine r_goto C (tgt := 10) dX3_leave_64 rfl ?_
          exact ih hwp hw (lh_mask hl [true, false, true, true, true, false])
        · have hwp := hF hc
          exact hR _ _ _ _ _ dX3_leave_60 hwp hw
      · have hwp := hF hc
        refine r_aload_n C dX3_leave_41 hl rfl ?_
        refine r_getr C hw clX3 0 rfl 0 1 rfl (Nat.le_of_ble_eq_true rfl) hi_X3_leave_X3 hf_X3_leave_9 dX3_leave_42 ?_
        refine r_iload C dX3_leave_45 hl rfl ?_
        refine r_const C dX3_leave_47 ?_
        obtain ⟨h0, h1, hwp⟩ := hwp
        refine r_iast C hw 1 rfl rfl h0 h1 dX3_leave_48 (fun H locs hw => ?_)
        have hwp := hwp _ rfl
        exact hR _ _ _ _ _ dX3_leave_49 hwp hw
set_option maxRecDepth 100000 in
theorem b_X3_leave_0 {post : St → Prop} (C : cx p s m args meth c wsX3_leave RX3 cX3_leave 6 none D cA) (hA : ∀ q, s.heap.size ≤ q → A q) (hR : RtV p l e rm_X3_leave s m args below meth c Q cX3_leave D cA K_RTr h A post) : ∀ {v2 : Int} {σ : St} {H : Heap} {locs : List Loc} {ls : Array Slot}, wp_X3_leave σ v2 post → wd D cA K_RTr h σ A s.heap H locs → lh ls 6 [some (.ref (h 0)), some (.ref (h 2)), some (iv v2), none, none, none] → W p l e rm_X3_leave s m args below meth c H locs 0 0 Q (F0 m 0 ls []) := by
  intro v2 σ H locs ls hwp hw hl
  refine r_aload_n C dX3_leave_0 hl rfl ?_
  refine r_iload_n C dX3_leave_1 hl rfl ?_
  obtain ⟨h0, h1, hwp⟩ := hwp
  refine r_iald C hw 2 rfl rfl h0 h1 dX3_leave_2 ?_
  refine r_cIr hA hw sb_RTr_0_0_1 (run_s C hw sb_RTr_0_0_1 (c_X3_start hwp) (va_cwS 1 C.2.2.2.2.1 gX3_leave_X3_start rfl rfl rfl hd_X3_start ⟨Nat.le_of_ble_eq_true rfl, Nat.le_of_ble_eq_true rfl⟩) rfl rfl rfl hl dX3_leave_3 ⟨Nat.zero_le _, Nat.zero_le _⟩) (fun r H locs hwp hw => ?_)
  refine r_istore_n C dX3_leave_6 hl (Nat.le_of_ble_eq_true rfl) (Nat.le_of_ble_eq_true rfl) rfl (fun ls hl => ?_)
  refine r_const C dX3_leave_7 ?_
  refine r_istore C dX3_leave_8 hl (Nat.le_of_ble_eq_true rfl) (Nat.le_of_ble_eq_true rfl) rfl (fun ls hl => ?_)
  obtain ⟨n9, hwp⟩ := hwp
  exact b_X3_leave_10 C hA hR n9 hwp hw (lh_mask hl [true, false, true, true, true, false])
set_option maxRecDepth 100000 in
theorem c_X3_leave {l : Launch} {D : va_G} {cA : FieldType → ClassId} {h : Nat → Nat} {σ : St} {sz : Nat} {v2 : Int} {post : St → Prop} (hwp : wp_X3_leave σ v2 post) : Met l yX3_leave wsX3_leave rm_X3_leave (va_Pc [.ref (h 0), .ref (h 2), iv v2] (preS D cA K_RTr h σ sz)) (QV D cA K_RTr h sz post) 0 0 (aA K_RTr.length h sz) := by
  refine mk_met (cc := cX3_leave) (nL := 6) (ret := none) (own := RX3) 3 (by decide) rfl rfl rfl rfl ?_
  intro p e s m args below meth c ls hsz C hw hl hA
  subst hsz
  exact b_X3_leave_0 C hA (rt_v C _) hwp hw hl
end
end
section
theorem dX1_init_0 : decode cX1_init 0 = .ok (.aload_n 0, 1) := by decide +kernel
theorem dX1_init_1 : decode cX1_init 1 = .ok (.invokespecial 1, 3) := by decide +kernel
theorem dX1_init_4 : decode cX1_init 4 = .ok (.aload_n 0, 1) := by decide +kernel
theorem dX1_init_5 : decode cX1_init 5 = .ok (.iconst 0, 1) := by decide +kernel
theorem dX1_init_6 : decode cX1_init 6 = .ok (.putfield 7, 3) := by decide +kernel
theorem dX1_init_9 : decode cX1_init 9 = .ok (.iload_n 1, 1) := by decide +kernel
theorem dX1_init_10 : decode cX1_init 10 = .ok (.ifCond .ge 7, 3) := by decide +kernel
theorem dX1_init_13 : decode cX1_init 13 = .ok (.iconst 0, 1) := by decide +kernel
theorem dX1_init_14 : decode cX1_init 14 = .ok (.goto 4, 3) := by decide +kernel
theorem dX1_init_17 : decode cX1_init 17 = .ok (.iload_n 1, 1) := by decide +kernel
theorem dX1_init_18 : decode cX1_init 18 = .ok (.istore_n 2, 1) := by decide +kernel
theorem dX1_init_19 : decode cX1_init 19 = .ok (.aload_n 0, 1) := by decide +kernel
theorem dX1_init_20 : decode cX1_init 20 = .ok (.iload_n 2, 1) := by decide +kernel
theorem dX1_init_21 : decode cX1_init 21 = .ok (.newarray .int, 2) := by decide +kernel
theorem dX1_init_23 : decode cX1_init 23 = .ok (.putfield 13, 3) := by decide +kernel
theorem dX1_init_26 : decode cX1_init 26 = .ok (.aload_n 0, 1) := by decide +kernel
theorem dX1_init_27 : decode cX1_init 27 = .ok (.iload_n 2, 1) := by decide +kernel
theorem dX1_init_28 : decode cX1_init 28 = .ok (.newarray .int, 2) := by decide +kernel
theorem dX1_init_30 : decode cX1_init 30 = .ok (.putfield 17, 3) := by decide +kernel
theorem dX1_init_33 : decode cX1_init 33 = .ok (.aload_n 0, 1) := by decide +kernel
theorem dX1_init_34 : decode cX1_init 34 = .ok (.iload_n 2, 1) := by decide +kernel
theorem dX1_init_35 : decode cX1_init 35 = .ok (.newarray .int, 2) := by decide +kernel
theorem dX1_init_37 : decode cX1_init 37 = .ok (.putfield 20, 3) := by decide +kernel
theorem dX1_init_40 : decode cX1_init 40 = .ok (.return_, 1) := by decide +kernel
theorem dX1_append_0 : decode cX1_append 0 = .ok (.aload_n 0, 1) := by decide +kernel
theorem dX1_append_1 : decode cX1_append 1 = .ok (.getfield 7, 3) := by decide +kernel
theorem dX1_append_4 : decode cX1_append 4 = .ok (.ifCond .lt 15, 3) := by decide +kernel
theorem dX1_append_7 : decode cX1_append 7 = .ok (.aload_n 0, 1) := by decide +kernel
theorem dX1_append_8 : decode cX1_append 8 = .ok (.getfield 7, 3) := by decide +kernel
theorem dX1_append_11 : decode cX1_append 11 = .ok (.aload_n 0, 1) := by decide +kernel
theorem dX1_append_12 : decode cX1_append 12 = .ok (.getfield 13, 3) := by decide +kernel
theorem dX1_append_15 : decode cX1_append 15 = .ok (.arraylength, 1) := by decide +kernel
theorem dX1_append_16 : decode cX1_append 16 = .ok (.if_icmp .lt 5, 3) := by decide +kernel
theorem dX1_append_19 : decode cX1_append 19 = .ok (.iconst 0, 1) := by decide +kernel
theorem dX1_append_20 : decode cX1_append 20 = .ok (.ireturn, 1) := by decide +kernel
theorem dX1_append_21 : decode cX1_append 21 = .ok (.aload_n 0, 1) := by decide +kernel
theorem dX1_append_22 : decode cX1_append 22 = .ok (.getfield 13, 3) := by decide +kernel
theorem dX1_append_25 : decode cX1_append 25 = .ok (.aload_n 0, 1) := by decide +kernel
theorem dX1_append_26 : decode cX1_append 26 = .ok (.getfield 7, 3) := by decide +kernel
theorem dX1_append_29 : decode cX1_append 29 = .ok (.iload_n 1, 1) := by decide +kernel
theorem dX1_append_30 : decode cX1_append 30 = .ok (.iastore, 1) := by decide +kernel
theorem dX1_append_31 : decode cX1_append 31 = .ok (.aload_n 0, 1) := by decide +kernel
theorem dX1_append_32 : decode cX1_append 32 = .ok (.getfield 17, 3) := by decide +kernel
theorem dX1_append_35 : decode cX1_append 35 = .ok (.aload_n 0, 1) := by decide +kernel
theorem dX1_append_36 : decode cX1_append 36 = .ok (.getfield 7, 3) := by decide +kernel
theorem dX1_append_39 : decode cX1_append 39 = .ok (.iload_n 2, 1) := by decide +kernel
theorem dX1_append_40 : decode cX1_append 40 = .ok (.iastore, 1) := by decide +kernel
theorem dX1_append_41 : decode cX1_append 41 = .ok (.aload_n 0, 1) := by decide +kernel
theorem dX1_append_42 : decode cX1_append 42 = .ok (.getfield 20, 3) := by decide +kernel
theorem dX1_append_45 : decode cX1_append 45 = .ok (.aload_n 0, 1) := by decide +kernel
theorem dX1_append_46 : decode cX1_append 46 = .ok (.getfield 7, 3) := by decide +kernel
theorem dX1_append_49 : decode cX1_append 49 = .ok (.iload_n 3, 1) := by decide +kernel
theorem dX1_append_50 : decode cX1_append 50 = .ok (.iastore, 1) := by decide +kernel
theorem dX1_append_51 : decode cX1_append 51 = .ok (.aload_n 0, 1) := by decide +kernel
theorem dX1_append_52 : decode cX1_append 52 = .ok (.dup, 1) := by decide +kernel
theorem dX1_append_53 : decode cX1_append 53 = .ok (.getfield 7, 3) := by decide +kernel
theorem dX1_append_56 : decode cX1_append 56 = .ok (.iconst 1, 1) := by decide +kernel
theorem dX1_append_57 : decode cX1_append 57 = .ok (.iadd, 1) := by decide +kernel
theorem dX1_append_58 : decode cX1_append 58 = .ok (.putfield 7, 3) := by decide +kernel
theorem dX1_append_61 : decode cX1_append 61 = .ok (.iconst 1, 1) := by decide +kernel
theorem dX1_append_62 : decode cX1_append 62 = .ok (.ireturn, 1) := by decide +kernel
set_option maxRecDepth 20000 in
theorem ggX1_copyFrom_X1_append : GoodIn wsX1_copyFrom wsX1_append := goodIn_r _ [9, 1, 2, 3, 4, 10, 11, 12, 13] (by decide +kernel) (by decide +kernel)
set_option maxRecDepth 20000 in
theorem gX1_copyFrom_X1_append : GoodIn wsX1_copyFrom (wsV RX1 23 RX1 yX1_append wsX1_append) := goodIn_app (goodIn_of _ (by decide +kernel)) ggX1_copyFrom_X1_append
theorem dX1_copyFrom_0 : decode cX1_copyFrom 0 = .ok (.aload_n 0, 1) := by decide +kernel
theorem dX1_copyFrom_1 : decode cX1_copyFrom 1 = .ok (.iconst 0, 1) := by decide +kernel
theorem dX1_copyFrom_2 : decode cX1_copyFrom 2 = .ok (.putfield 7, 3) := by decide +kernel
theorem dX1_copyFrom_5 : decode cX1_copyFrom 5 = .ok (.iconst 0, 1) := by decide +kernel
theorem dX1_copyFrom_6 : decode cX1_copyFrom 6 = .ok (.istore_n 2, 1) := by decide +kernel
theorem dX1_copyFrom_7 : decode cX1_copyFrom 7 = .ok (.iload_n 2, 1) := by decide +kernel
theorem dX1_copyFrom_8 : decode cX1_copyFrom 8 = .ok (.aload_n 1, 1) := by decide +kernel
theorem dX1_copyFrom_9 : decode cX1_copyFrom 9 = .ok (.getfield 7, 3) := by decide +kernel
theorem dX1_copyFrom_12 : decode cX1_copyFrom 12 = .ok (.if_icmp .ge 32, 3) := by decide +kernel
theorem dX1_copyFrom_15 : decode cX1_copyFrom 15 = .ok (.aload_n 0, 1) := by decide +kernel
theorem dX1_copyFrom_16 : decode cX1_copyFrom 16 = .ok (.aload_n 1, 1) := by decide +kernel
theorem dX1_copyFrom_17 : decode cX1_copyFrom 17 = .ok (.getfield 13, 3) := by decide +kernel
theorem dX1_copyFrom_20 : decode cX1_copyFrom 20 = .ok (.iload_n 2, 1) := by decide +kernel
theorem dX1_copyFrom_21 : decode cX1_copyFrom 21 = .ok (.iaload, 1) := by decide +kernel
theorem dX1_copyFrom_22 : decode cX1_copyFrom 22 = .ok (.aload_n 1, 1) := by decide +kernel
theorem dX1_copyFrom_23 : decode cX1_copyFrom 23 = .ok (.getfield 17, 3) := by decide +kernel
theorem dX1_copyFrom_26 : decode cX1_copyFrom 26 = .ok (.iload_n 2, 1) := by decide +kernel
theorem dX1_copyFrom_27 : decode cX1_copyFrom 27 = .ok (.iaload, 1) := by decide +kernel
theorem dX1_copyFrom_28 : decode cX1_copyFrom 28 = .ok (.aload_n 1, 1) := by decide +kernel
theorem dX1_copyFrom_29 : decode cX1_copyFrom 29 = .ok (.getfield 20, 3) := by decide +kernel
theorem dX1_copyFrom_32 : decode cX1_copyFrom 32 = .ok (.iload_n 2, 1) := by decide +kernel
theorem dX1_copyFrom_33 : decode cX1_copyFrom 33 = .ok (.iaload, 1) := by decide +kernel
theorem dX1_copyFrom_34 : decode cX1_copyFrom 34 = .ok (.invokevirtual 23, 3) := by decide +kernel
theorem dX1_copyFrom_37 : decode cX1_copyFrom 37 = .ok (.pop, 1) := by decide +kernel
theorem dX1_copyFrom_38 : decode cX1_copyFrom 38 = .ok (.iinc 2 1, 3) := by decide +kernel
theorem dX1_copyFrom_41 : decode cX1_copyFrom 41 = .ok (.goto (-34), 3) := by decide +kernel
theorem dX1_copyFrom_44 : decode cX1_copyFrom 44 = .ok (.return_, 1) := by decide +kernel
end
section
-- X1_append
def wp_X1_append (N : Nat) (σ : St) (v1 v2 v3 : Int) (post : Int → St → Prop) : Prop := (rg (σ 0 3) ∧ ((σ 0 3) < 0 → (post 0 σ)) ∧ (¬ (σ 0 3) < 0 → (rg (σ 0 3) ∧ rg (N : Int) ∧ ((σ 0 3) < (N : Int) → (0 ≤ (σ 0 3) ∧ (σ 0 3) < (N : Int) ∧ ∀ σ1 : St, σ1 = up σ 1 (σ 0 3) v1 → (0 ≤ (σ1 0 3) ∧ (σ1 0 3) < (N : Int) ∧ ∀ σ2 : St, σ2 = up σ1 2 (σ1 0 3) v2 → (0 ≤ (σ2 0 3) ∧ (σ2 0 3) < (N : Int) ∧ ∀ σ3 : St, σ3 = up σ2 3 (σ2 0 3) v3 → (∀ σ4 : St, σ4 = up σ3 0 3 ((σ3 0 3) + 1) → (post 1 σ4)))))) ∧ (¬ (σ 0 3) < (N : Int) → (post 0 σ)))))
-- X1_copyFrom
def wp_X1_copyFrom_7 (N : Nat) (post : St → Prop) : Nat → Int → St → Prop
  | 0, _, _ => False
  | fu + 1, v2, σ => (rg v2 ∧ rg (σ 4 3) ∧ ((σ 4 3) ≤ v2 → (post σ)) ∧ (¬ (σ 4 3) ≤ v2 → (0 ≤ v2 ∧ v2 < (N : Int) ∧ (0 ≤ v2 ∧ v2 < (N : Int) ∧ (0 ≤ v2 ∧ v2 < (N : Int) ∧ (wp_X1_append N (pk σ [0, 1, 2, 3]) (σ 5 v2) (σ 6 v2) (σ 7 v2) (fun r1 τ1 => ∀ σ1 : St, σ1 = mrg σ [0, 1, 2, 3] τ1 → (wp_X1_copyFrom_7 N post fu (v2 + 1) σ1))))))))
def wp_X1_copyFrom (N : Nat) (σ : St) (post : St → Prop) : Prop := (∀ σ1 : St, σ1 = up σ 0 3 0 → (∃ n : Nat, wp_X1_copyFrom_7 N post n 0 σ1))
end
section
section
variable {p : Program} {l : Launch} {e : Env} {s : State} {m : MethodId} {args : Array Value} {below : List Frame} {meth : Method} {c : Code} {Q : State → Prop} {D : va_G} {cA : FieldType → ClassId} {h : Nat → Nat} {A : Nat → Prop}
-- X1_append
theorem hi_X1_append_X1 : ∀ w ∈ u_ws RX1 TX1 4, w ∈ wsX1_append := by decide +kernel
theorem hf_X1_append_13 : Cond.fieldLink RX1 13 (TX1 0).1 (TX1 0).2.1 (TX1 0).2.2.1 ∈ wsX1_append := by decide +kernel
theorem hf_X1_append_17 : Cond.fieldLink RX1 17 (TX1 1).1 (TX1 1).2.1 (TX1 1).2.2.1 ∈ wsX1_append := by decide +kernel
theorem hf_X1_append_20 : Cond.fieldLink RX1 20 (TX1 2).1 (TX1 2).2.1 (TX1 2).2.2.1 ∈ wsX1_append := by decide +kernel
theorem hf_X1_append_7 : Cond.fieldLink RX1 7 (TX1 3).1 (TX1 3).2.1 (TX1 3).2.2.1 ∈ wsX1_append := by decide +kernel
def rm_X1_append : Room := { frames := 0, cells := 0, slots := 0, locals := 0 }
set_option maxRecDepth 100000 in
theorem b_X1_append_0 {N : Nat} {post : Int → St → Prop} (C : cx p s m args meth c wsX1_append RX1 cX1_append 4 (some .boolean) D cA) (hA : ∀ q, s.heap.size ≤ q → A q) (hR : RtI p l e rm_X1_append s m args below meth c Q cX1_append D cA (K_HR N) h A (fun x => x = 0 ∨ x = 1) post) (hN : Nat.ble (N + 1) 2147483648 = true) : ∀ {v1 v2 v3 : Int} {σ : St} {H : Heap} {locs : List Loc} {ls : Array Slot}, wp_X1_append N σ v1 v2 v3 post → wd D cA (K_HR N) h σ A s.heap H locs → lh ls 4 [some (.ref (h 0)), some (iv v1), some (iv v2), some (iv v3)] → W p l e rm_X1_append s m args below meth c H locs 0 0 Q (F0 m 0 ls []) := by
  intro v1 v2 v3 σ H locs ls hwp hw hl
  refine r_aload_n C dX1_append_0 hl rfl ?_
  refine r_get C hw clX1 0 rfl 3 3 rfl rfl (Nat.le_of_ble_eq_true rfl) hi_X1_append_X1 hf_X1_append_7 dX1_append_1 ?_
  obtain ⟨ra, hT, hF⟩ := hwp
  refine r_if_lt C (tgt := 19) dX1_append_4 rfl ra (fun hc => ?_) (fun hc => ?_)
  · have hwp := hT hc
    refine r_const C dX1_append_19 ?_
    exact hR _ _ _ _ _ _ dX1_append_20 (Or.inl rfl) hwp hw
  · have hwp := hF hc
    refine r_aload_n C dX1_append_7 hl rfl ?_
    refine r_get C hw clX1 0 rfl 3 3 rfl rfl (Nat.le_of_ble_eq_true rfl) hi_X1_append_X1 hf_X1_append_7 dX1_append_8 ?_
    refine r_aload_n C dX1_append_11 hl rfl ?_
    refine r_getr C hw clX1 0 rfl 0 1 rfl (Nat.le_of_ble_eq_true rfl) hi_X1_append_X1 hf_X1_append_13 dX1_append_12 ?_
    refine r_alen C hw 1 rfl dX1_append_15 ?_
    obtain ⟨ra, rb, hT, hF⟩ := hwp
    refine r_icmp_lt C (tgt := 21) dX1_append_16 rfl ra rb (fun hc => ?_) (fun hc => ?_)
    · have hwp := hT hc
      refine r_aload_n C dX1_append_21 hl rfl ?_
      refine r_getr C hw clX1 0 rfl 0 1 rfl (Nat.le_of_ble_eq_true rfl) hi_X1_append_X1 hf_X1_append_13 dX1_append_22 ?_
      refine r_aload_n C dX1_append_25 hl rfl ?_
      refine r_get C hw clX1 0 rfl 3 3 rfl rfl (Nat.le_of_ble_eq_true rfl) hi_X1_append_X1 hf_X1_append_7 dX1_append_26 ?_
      refine r_iload_n C dX1_append_29 hl rfl ?_
      obtain ⟨h0, h1, hwp⟩ := hwp
      refine r_iast C hw 1 rfl hN h0 h1 dX1_append_30 (fun H locs hw => ?_)
      have hwp := hwp _ rfl
      refine r_aload_n C dX1_append_31 hl rfl ?_
      refine r_getr C hw clX1 0 rfl 1 2 rfl (Nat.le_of_ble_eq_true rfl) hi_X1_append_X1 hf_X1_append_17 dX1_append_32 ?_
      refine r_aload_n C dX1_append_35 hl rfl ?_
      refine r_get C hw clX1 0 rfl 3 3 rfl rfl (Nat.le_of_ble_eq_true rfl) hi_X1_append_X1 hf_X1_append_7 dX1_append_36 ?_
      refine r_iload_n C dX1_append_39 hl rfl ?_
      obtain ⟨h0, h1, hwp⟩ := hwp
      refine r_iast C hw 2 rfl hN h0 h1 dX1_append_40 (fun H locs hw => ?_)
      have hwp := hwp _ rfl
      refine r_aload_n C dX1_append_41 hl rfl ?_
      refine r_getr C hw clX1 0 rfl 2 3 rfl (Nat.le_of_ble_eq_true rfl) hi_X1_append_X1 hf_X1_append_20 dX1_append_42 ?_
      refine r_aload_n C dX1_append_45 hl rfl ?_
      refine r_get C hw clX1 0 rfl 3 3 rfl rfl (Nat.le_of_ble_eq_true rfl) hi_X1_append_X1 hf_X1_append_7 dX1_append_46 ?_
      refine r_iload_n C dX1_append_49 hl rfl ?_
      obtain ⟨h0, h1, hwp⟩ := hwp
      refine r_iast C hw 3 rfl hN h0 h1 dX1_append_50 (fun H locs hw => ?_)
      have hwp := hwp _ rfl
      refine r_aload_n C dX1_append_51 hl rfl ?_
      refine r_dup C dX1_append_52 rfl ?_
      refine r_get C hw clX1 0 rfl 3 3 rfl rfl (Nat.le_of_ble_eq_true rfl) hi_X1_append_X1 hf_X1_append_7 dX1_append_53 ?_
      refine r_const C dX1_append_56 ?_
      refine r_iadd C dX1_append_57 ?_
      refine r_put C hw clX1 0 rfl 3 3 rfl rfl (Nat.le_of_ble_eq_true rfl) hi_X1_append_X1 hf_X1_append_7 rfl ⟨nar_i _, fit_i _⟩ dX1_append_58 (fun H locs hw => ?_)
      have hwp := hwp _ rfl
      refine r_const C dX1_append_61 ?_
      exact hR _ _ _ _ _ _ dX1_append_62 (Or.inr rfl) hwp hw
    · have hwp := hF hc
      refine r_const C dX1_append_19 ?_
      exact hR _ _ _ _ _ _ dX1_append_20 (Or.inl rfl) hwp hw
set_option maxRecDepth 100000 in
theorem c_X1_append {N : Nat} {l : Launch} {D : va_G} {cA : FieldType → ClassId} {h : Nat → Nat} {σ : St} {sz : Nat} {v1 v2 v3 : Int} {post : Int → St → Prop} (hN : Nat.ble (N + 1) 2147483648 = true) (hwp : wp_X1_append N σ v1 v2 v3 post) : Met l yX1_append wsX1_append rm_X1_append (va_Pc [.ref (h 0), iv v1, iv v2, iv v3] (preS D cA (K_HR N) h σ sz)) (QI D cA (K_HR N) h sz post) 0 0 (aA (K_HR N).length h sz) := by
  refine mk_met (cc := cX1_append) (nL := 4) (ret := (some .boolean)) (own := RX1) 0 (by decide) rfl rfl rfl rfl ?_
  intro p e s m args below meth c ls hsz C hw hl hA
  subst hsz
  exact b_X1_append_0 C hA (rt_z C _) hN hwp hw hl
-- X1_copyFrom
theorem hi_X1_copyFrom_X1 : ∀ w ∈ u_ws RX1 TX1 4, w ∈ wsX1_copyFrom := by decide +kernel
theorem hf_X1_copyFrom_13 : Cond.fieldLink RX1 13 (TX1 0).1 (TX1 0).2.1 (TX1 0).2.2.1 ∈ wsX1_copyFrom := by decide +kernel
theorem hf_X1_copyFrom_17 : Cond.fieldLink RX1 17 (TX1 1).1 (TX1 1).2.1 (TX1 1).2.2.1 ∈ wsX1_copyFrom := by decide +kernel
theorem hf_X1_copyFrom_20 : Cond.fieldLink RX1 20 (TX1 2).1 (TX1 2).2.1 (TX1 2).2.2.1 ∈ wsX1_copyFrom := by decide +kernel
theorem hf_X1_copyFrom_7 : Cond.fieldLink RX1 7 (TX1 3).1 (TX1 3).2.1 (TX1 3).2.2.1 ∈ wsX1_copyFrom := by decide +kernel
def rm_X1_copyFrom : Room := { frames := 1, cells := 0, slots := 0, locals := 23 }
set_option maxRecDepth 100000 in
theorem b_X1_copyFrom_7 {N : Nat} {post : St → Prop} (C : cx p s m args meth c wsX1_copyFrom RX1 cX1_copyFrom 3 none D cA) (hA : ∀ q, s.heap.size ≤ q → A q) (hR : RtV p l e rm_X1_copyFrom s m args below meth c Q cX1_copyFrom D cA (K_HR2 N) h A post) (hN : Nat.ble (N + 1) 2147483648 = true) : ∀ (n : Nat) {v2 : Int} {σ : St} {H : Heap} {locs : List Loc} {ls : Array Slot}, wp_X1_copyFrom_7 N post n v2 σ → wd D cA (K_HR2 N) h σ A s.heap H locs → lh ls 3 [some (.ref (h 0)), some (.ref (h 4)), some (iv v2)] → W p l e rm_X1_copyFrom s m args below meth c H locs 0 0 Q (F0 m 7 ls []) := by
  intro n; induction n with
  | zero => intros; rename_i hwp _ _; exact hwp.elim
  | succ n ih =>
    intro v2 σ H locs ls hwp hw hl
    refine r_iload_n C dX1_copyFrom_7 hl rfl ?_
    refine r_aload_n C dX1_copyFrom_8 hl rfl ?_
    refine r_get C hw clX1 4 rfl 3 3 rfl rfl (Nat.le_of_ble_eq_true rfl) hi_X1_copyFrom_X1 hf_X1_copyFrom_7 dX1_copyFrom_9 ?_
    obtain ⟨ra, rb, hT, hF⟩ := hwp
    refine r_icmp_ge C (tgt := 44) dX1_copyFrom_12 rfl ra rb (fun hc => ?_) (fun hc => ?_)
    · have hwp := hT hc
      exact hR _ _ _ _ _ dX1_copyFrom_44 hwp hw
    · have hwp := hF hc
      refine r_aload_n C dX1_copyFrom_15 hl rfl ?_
      refine r_aload_n C dX1_copyFrom_16 hl rfl ?_
      refine r_getr C hw clX1 4 rfl 0 5 rfl (Nat.le_of_ble_eq_true rfl) hi_X1_copyFrom_X1 hf_X1_copyFrom_13 dX1_copyFrom_17 ?_
      refine r_iload_n C dX1_copyFrom_20 hl rfl ?_
      obtain ⟨h0, h1, hwp⟩ := hwp
      refine r_iald C hw 5 rfl hN h0 h1 dX1_copyFrom_21 ?_
      refine r_aload_n C dX1_copyFrom_22 hl rfl ?_
      refine r_getr C hw clX1 4 rfl 1 6 rfl (Nat.le_of_ble_eq_true rfl) hi_X1_copyFrom_X1 hf_X1_copyFrom_17 dX1_copyFrom_23 ?_
      refine r_iload_n C dX1_copyFrom_26 hl rfl ?_
      obtain ⟨h0, h1, hwp⟩ := hwp
      refine r_iald C hw 6 rfl hN h0 h1 dX1_copyFrom_27 ?_
      refine r_aload_n C dX1_copyFrom_28 hl rfl ?_
      refine r_getr C hw clX1 4 rfl 2 7 rfl (Nat.le_of_ble_eq_true rfl) hi_X1_copyFrom_X1 hf_X1_copyFrom_20 dX1_copyFrom_29 ?_
      refine r_iload_n C dX1_copyFrom_32 hl rfl ?_
      obtain ⟨h0, h1, hwp⟩ := hwp
      refine r_iald C hw 7 rfl hN h0 h1 dX1_copyFrom_33 ?_
      refine r_cI hA hw (sb_HR2_HR_0_2 N) (run_v C hw (sb_HR2_HR_0_2 N) clX1 rfl (c_X1_append hN hwp) (cwV 3 C.2.2.2.2.1 gX1_copyFrom_X1_append rfl rfl rfl hd_X1_append ⟨Nat.le_of_ble_eq_true rfl, Nat.le_of_ble_eq_true rfl⟩) rfl rfl rfl hl dX1_copyFrom_34 ⟨Nat.zero_le _, Nat.zero_le _⟩) (fun r σ H locs hwp hw => ?_)
      have hwp := hwp _ rfl
      refine r_pop C dX1_copyFrom_37 rfl ?_
      refine r_iinc C dX1_copyFrom_38 hl rfl (Nat.le_of_ble_eq_true rfl) rfl (fun ls hl => ?_)
      refine r_goto C (tgt := 7) dX1_copyFrom_41 rfl ?_
      exact ih hwp hw (lh_mask hl [true, true, true])
set_option maxRecDepth 100000 in
theorem b_X1_copyFrom_0 {N : Nat} {post : St → Prop} (C : cx p s m args meth c wsX1_copyFrom RX1 cX1_copyFrom 3 none D cA) (hA : ∀ q, s.heap.size ≤ q → A q) (hR : RtV p l e rm_X1_copyFrom s m args below meth c Q cX1_copyFrom D cA (K_HR2 N) h A post) (hN : Nat.ble (N + 1) 2147483648 = true) : ∀ {σ : St} {H : Heap} {locs : List Loc} {ls : Array Slot}, wp_X1_copyFrom N σ post → wd D cA (K_HR2 N) h σ A s.heap H locs → lh ls 3 [some (.ref (h 0)), some (.ref (h 4)), none] → W p l e rm_X1_copyFrom s m args below meth c H locs 0 0 Q (F0 m 0 ls []) := by
  intro σ H locs ls hwp hw hl
  refine r_aload_n C dX1_copyFrom_0 hl rfl ?_
  refine r_const C dX1_copyFrom_1 ?_
  refine r_put C hw clX1 0 rfl 3 3 rfl rfl (Nat.le_of_ble_eq_true rfl) hi_X1_copyFrom_X1 hf_X1_copyFrom_7 rfl ⟨nar_i _, fit_i _⟩ dX1_copyFrom_2 (fun H locs hw => ?_)
  have hwp := hwp _ rfl
  refine r_const C dX1_copyFrom_5 ?_
  refine r_istore_n C dX1_copyFrom_6 hl (Nat.le_of_ble_eq_true rfl) (Nat.le_of_ble_eq_true rfl) rfl (fun ls hl => ?_)
  obtain ⟨n9, hwp⟩ := hwp
  exact b_X1_copyFrom_7 C hA hR hN n9 hwp hw (lh_mask hl [true, true, true])
set_option maxRecDepth 100000 in
theorem c_X1_copyFrom {N : Nat} {l : Launch} {D : va_G} {cA : FieldType → ClassId} {h : Nat → Nat} {σ : St} {sz : Nat} {post : St → Prop} (hN : Nat.ble (N + 1) 2147483648 = true) (hwp : wp_X1_copyFrom N σ post) : Met l yX1_copyFrom wsX1_copyFrom rm_X1_copyFrom (va_Pc [.ref (h 0), .ref (h 4)] (preS D cA (K_HR2 N) h σ sz)) (QV D cA (K_HR2 N) h sz post) 0 0 (aA (K_HR2 N).length h sz) := by
  refine mk_met (cc := cX1_copyFrom) (nL := 3) (ret := none) (own := RX1) 1 (by decide) rfl rfl rfl rfl ?_
  intro p e s m args below meth c ls hsz C hw hl hA
  subst hsz
  exact b_X1_copyFrom_0 C hA (rt_v C _) hN hwp hw hl
end
end
section
theorem dX6_init_0 : decode cX6_init 0 = .ok (.aload_n 0, 1) := by decide +kernel
theorem dX6_init_1 : decode cX6_init 1 = .ok (.invokespecial 3, 3) := by decide +kernel
theorem dX6_init_4 : decode cX6_init 4 = .ok (.aload_n 0, 1) := by decide +kernel
theorem dX6_init_5 : decode cX6_init 5 = .ok (.iconst (-1), 1) := by decide +kernel
theorem dX6_init_6 : decode cX6_init 6 = .ok (.putfield 9, 3) := by decide +kernel
theorem dX6_init_9 : decode cX6_init 9 = .ok (.aload_n 0, 1) := by decide +kernel
theorem dX6_init_10 : decode cX6_init 10 = .ok (.iconst 0, 1) := by decide +kernel
theorem dX6_init_11 : decode cX6_init 11 = .ok (.putfield 15, 3) := by decide +kernel
theorem dX6_init_14 : decode cX6_init 14 = .ok (.aload_n 0, 1) := by decide +kernel
theorem dX6_init_15 : decode cX6_init 15 = .ok (.bipush 60, 2) := by decide +kernel
theorem dX6_init_17 : decode cX6_init 17 = .ok (.newarray .long, 2) := by decide +kernel
theorem dX6_init_19 : decode cX6_init 19 = .ok (.putfield 18, 3) := by decide +kernel
theorem dX6_init_22 : decode cX6_init 22 = .ok (.return_, 1) := by decide +kernel
theorem dX6_begin_0 : decode cX6_begin 0 = .ok (.aload_n 0, 1) := by decide +kernel
theorem dX6_begin_1 : decode cX6_begin 1 = .ok (.iload_n 1, 1) := by decide +kernel
theorem dX6_begin_2 : decode cX6_begin 2 = .ok (.putfield 9, 3) := by decide +kernel
theorem dX6_begin_5 : decode cX6_begin 5 = .ok (.aload_n 0, 1) := by decide +kernel
theorem dX6_begin_6 : decode cX6_begin 6 = .ok (.iload_n 2, 1) := by decide +kernel
theorem dX6_begin_7 : decode cX6_begin 7 = .ok (.putfield 15, 3) := by decide +kernel
theorem dX6_begin_10 : decode cX6_begin 10 = .ok (.iconst 0, 1) := by decide +kernel
theorem dX6_begin_11 : decode cX6_begin 11 = .ok (.istore_n 3, 1) := by decide +kernel
theorem dX6_begin_12 : decode cX6_begin 12 = .ok (.iload_n 3, 1) := by decide +kernel
theorem dX6_begin_13 : decode cX6_begin 13 = .ok (.bipush 60, 2) := by decide +kernel
theorem dX6_begin_15 : decode cX6_begin 15 = .ok (.if_icmp .ge 16, 3) := by decide +kernel
theorem dX6_begin_18 : decode cX6_begin 18 = .ok (.aload_n 0, 1) := by decide +kernel
theorem dX6_begin_19 : decode cX6_begin 19 = .ok (.getfield 18, 3) := by decide +kernel
theorem dX6_begin_22 : decode cX6_begin 22 = .ok (.iload_n 3, 1) := by decide +kernel
theorem dX6_begin_23 : decode cX6_begin 23 = .ok (.lconst 0, 1) := by decide +kernel
theorem dX6_begin_24 : decode cX6_begin 24 = .ok (.lastore, 1) := by decide +kernel
theorem dX6_begin_25 : decode cX6_begin 25 = .ok (.iinc 3 1, 3) := by decide +kernel
theorem dX6_begin_28 : decode cX6_begin 28 = .ok (.goto (-16), 3) := by decide +kernel
theorem dX6_begin_31 : decode cX6_begin 31 = .ok (.return_, 1) := by decide +kernel
theorem dX6_has_0 : decode cX6_has 0 = .ok (.iload_n 1, 1) := by decide +kernel
theorem dX6_has_1 : decode cX6_has 1 = .ok (.ifCond .lt 29, 3) := by decide +kernel
theorem dX6_has_4 : decode cX6_has 4 = .ok (.iload_n 2, 1) := by decide +kernel
theorem dX6_has_5 : decode cX6_has 5 = .ok (.ifCond .lt 25, 3) := by decide +kernel
theorem dX6_has_8 : decode cX6_has 8 = .ok (.iload_n 2, 1) := by decide +kernel
theorem dX6_has_9 : decode cX6_has 9 = .ok (.aload_n 0, 1) := by decide +kernel
theorem dX6_has_10 : decode cX6_has 10 = .ok (.getfield 15, 3) := by decide +kernel
theorem dX6_has_13 : decode cX6_has 13 = .ok (.if_icmp .gt 17, 3) := by decide +kernel
theorem dX6_has_16 : decode cX6_has 16 = .ok (.iload_n 1, 1) := by decide +kernel
theorem dX6_has_17 : decode cX6_has 17 = .ok (.aload_n 0, 1) := by decide +kernel
theorem dX6_has_18 : decode cX6_has 18 = .ok (.getfield 15, 3) := by decide +kernel
theorem dX6_has_21 : decode cX6_has 21 = .ok (.iload_n 2, 1) := by decide +kernel
theorem dX6_has_22 : decode cX6_has 22 = .ok (.isub, 1) := by decide +kernel
theorem dX6_has_23 : decode cX6_has 23 = .ok (.if_icmp .gt 7, 3) := by decide +kernel
theorem dX6_has_26 : decode cX6_has 26 = .ok (.iconst 1, 1) := by decide +kernel
theorem dX6_has_27 : decode cX6_has 27 = .ok (.goto 4, 3) := by decide +kernel
theorem dX6_has_30 : decode cX6_has 30 = .ok (.iconst 0, 1) := by decide +kernel
theorem dX6_has_31 : decode cX6_has 31 = .ok (.ireturn, 1) := by decide +kernel
theorem dX6_narrowed_0 : decode cX6_narrowed 0 = .ok (.iload_n 0, 1) := by decide +kernel
theorem dX6_narrowed_1 : decode cX6_narrowed 1 = .ok (.tableswitch 47 0 3 #[31, 36, 41, 45], 31) := by decide +kernel
theorem dX6_narrowed_32 : decode cX6_narrowed 32 = .ok (.lload_n 1, 1) := by decide +kernel
theorem dX6_narrowed_33 : decode cX6_narrowed 33 = .ok (.l2i, 1) := by decide +kernel
theorem dX6_narrowed_34 : decode cX6_narrowed 34 = .ok (.i2b, 1) := by decide +kernel
theorem dX6_narrowed_35 : decode cX6_narrowed 35 = .ok (.i2l, 1) := by decide +kernel
theorem dX6_narrowed_36 : decode cX6_narrowed 36 = .ok (.lreturn, 1) := by decide +kernel
theorem dX6_narrowed_37 : decode cX6_narrowed 37 = .ok (.lload_n 1, 1) := by decide +kernel
theorem dX6_narrowed_38 : decode cX6_narrowed 38 = .ok (.l2i, 1) := by decide +kernel
theorem dX6_narrowed_39 : decode cX6_narrowed 39 = .ok (.i2s, 1) := by decide +kernel
theorem dX6_narrowed_40 : decode cX6_narrowed 40 = .ok (.i2l, 1) := by decide +kernel
theorem dX6_narrowed_41 : decode cX6_narrowed 41 = .ok (.lreturn, 1) := by decide +kernel
theorem dX6_narrowed_42 : decode cX6_narrowed 42 = .ok (.lload_n 1, 1) := by decide +kernel
theorem dX6_narrowed_43 : decode cX6_narrowed 43 = .ok (.l2i, 1) := by decide +kernel
theorem dX6_narrowed_44 : decode cX6_narrowed 44 = .ok (.i2l, 1) := by decide +kernel
theorem dX6_narrowed_45 : decode cX6_narrowed 45 = .ok (.lreturn, 1) := by decide +kernel
theorem dX6_narrowed_46 : decode cX6_narrowed 46 = .ok (.lload_n 1, 1) := by decide +kernel
theorem dX6_narrowed_47 : decode cX6_narrowed 47 = .ok (.lreturn, 1) := by decide +kernel
theorem dX6_narrowed_48 : decode cX6_narrowed 48 = .ok (.lload_n 1, 1) := by decide +kernel
theorem dX6_narrowed_49 : decode cX6_narrowed 49 = .ok (.lconst 0, 1) := by decide +kernel
theorem dX6_narrowed_50 : decode cX6_narrowed 50 = .ok (.lcmp, 1) := by decide +kernel
theorem dX6_narrowed_51 : decode cX6_narrowed 51 = .ok (.ifCond .eq 7, 3) := by decide +kernel
theorem dX6_narrowed_54 : decode cX6_narrowed 54 = .ok (.lconst 1, 1) := by decide +kernel
theorem dX6_narrowed_55 : decode cX6_narrowed 55 = .ok (.goto 4, 3) := by decide +kernel
theorem dX6_narrowed_58 : decode cX6_narrowed 58 = .ok (.lconst 0, 1) := by decide +kernel
theorem dX6_narrowed_59 : decode cX6_narrowed 59 = .ok (.lreturn, 1) := by decide +kernel
end
section
-- X6_begin
def wp_X6_begin_12 (post : St → Prop) : Nat → Int → St → Prop
  | 0, _, _ => False
  | fu + 1, v3, σ => (rg v3 ∧ (60 ≤ v3 → (post σ)) ∧ (¬ 60 ≤ v3 → (0 ≤ v3 ∧ v3 < 60 ∧ ∀ σ1 : St, σ1 = up σ 1 v3 0 → (wp_X6_begin_12 post fu (v3 + 1) σ1))))
def wp_X6_begin (σ : St) (v1 v2 : Int) (post : St → Prop) : Prop := (∀ σ1 : St, σ1 = up σ 0 0 v1 → (∀ σ2 : St, σ2 = up σ1 0 1 v2 → (∃ n : Nat, wp_X6_begin_12 post n 0 σ2)))
-- X6_has
def wp_X6_has (σ : St) (v1 v2 : Int) (post : Int → Prop) : Prop := (rg v1 ∧ (v1 < 0 → (post 0)) ∧ (¬ v1 < 0 → (rg v2 ∧ (v2 < 0 → (post 0)) ∧ (¬ v2 < 0 → (rg v2 ∧ rg (σ 0 1) ∧ ((σ 0 1) < v2 → (post 0)) ∧ (¬ (σ 0 1) < v2 → (rg v1 ∧ rg ((σ 0 1) - v2) ∧ (((σ 0 1) - v2) < v1 → (post 0)) ∧ (¬ ((σ 0 1) - v2) < v1 → (post 1)))))))))
-- X6_narrowed
def wp_X6_narrowed (v0 v1 : Int) (post : Int → Prop) : Prop := (rg v0 ∧ (v0 = 0 → (rg (i2b v1) ∧ (post (i2b v1)))) ∧ (v0 = 1 → (rg (i2s v1) ∧ (post (i2s v1)))) ∧ (v0 = 2 → (rg v1 ∧ (post v1))) ∧ (v0 = 3 → (post v1)) ∧ (¬ (0 ≤ v0 ∧ v0 ≤ 3) → (rl v1 ∧ rl 0 ∧ (rg (lcp v1 0) ∧ ((lcp v1 0) = 0 → (post 0)) ∧ (¬ (lcp v1 0) = 0 → (post 1))))))
end
section
section
variable {p : Program} {l : Launch} {e : Env} {s : State} {m : MethodId} {args : Array Value} {below : List Frame} {meth : Method} {c : Code} {Q : State → Prop} {D : va_G} {cA : FieldType → ClassId} {h : Nat → Nat} {A : Nat → Prop}
-- X6_begin
theorem hi_X6_begin_X6 : ∀ w ∈ u_ws RX6 TX6 3, w ∈ wsX6_begin := by decide +kernel
theorem hf_X6_begin_9 : Cond.fieldLink RX6 9 (TX6 0).1 (TX6 0).2.1 (TX6 0).2.2.1 ∈ wsX6_begin := by decide +kernel
theorem hf_X6_begin_15 : Cond.fieldLink RX6 15 (TX6 1).1 (TX6 1).2.1 (TX6 1).2.2.1 ∈ wsX6_begin := by decide +kernel
theorem hf_X6_begin_18 : Cond.fieldLink RX6 18 (TX6 2).1 (TX6 2).2.1 (TX6 2).2.2.1 ∈ wsX6_begin := by decide +kernel
def rm_X6_begin : Room := { frames := 0, cells := 0, slots := 0, locals := 0 }
set_option maxRecDepth 100000 in
theorem b_X6_begin_12 {post : St → Prop} (C : cx p s m args meth c wsX6_begin RX6 cX6_begin 4 none D cA) (hA : ∀ q, s.heap.size ≤ q → A q) (hR : RtV p l e rm_X6_begin s m args below meth c Q cX6_begin D cA K_Tape h A post) : ∀ (n : Nat) {v3 : Int} {σ : St} {H : Heap} {locs : List Loc} {ls : Array Slot}, wp_X6_begin_12 post n v3 σ → wd D cA K_Tape h σ A s.heap H locs → lh ls 4 [some (.ref (h 0)), none, none, some (iv v3)] → W p l e rm_X6_begin s m args below meth c H locs 0 0 Q (F0 m 12 ls []) := by
  intro n; induction n with
  | zero => intros; rename_i hwp _ _; exact hwp.elim
  | succ n ih =>
    intro v3 σ H locs ls hwp hw hl
    refine r_iload_n C dX6_begin_12 hl rfl ?_
    refine r_bipush C dX6_begin_13 bpb_60 ?_
    obtain ⟨ra, hT, hF⟩ := hwp
    refine r_icmp_ge C (tgt := 31) dX6_begin_15 rfl ra (by decide) (fun hc => ?_) (fun hc => ?_)
    · have hwp := hT hc
      exact hR _ _ _ _ _ dX6_begin_31 hwp hw
    · have hwp := hF hc
      refine r_aload_n C dX6_begin_18 hl rfl ?_
      refine r_getr C hw clX6 0 rfl 2 1 rfl (Nat.le_of_ble_eq_true rfl) hi_X6_begin_X6 hf_X6_begin_18 dX6_begin_19 ?_
      refine r_iload_n C dX6_begin_22 hl rfl ?_
      refine r_lconst C 0 rfl dX6_begin_23 ?_
      obtain ⟨h0, h1, hwp⟩ := hwp
      refine r_last C hw 1 rfl rfl h0 h1 dX6_begin_24 (fun H locs hw => ?_)
      have hwp := hwp _ rfl
      refine r_iinc C dX6_begin_25 hl rfl (Nat.le_of_ble_eq_true rfl) rfl (fun ls hl => ?_)
      refine r_goto C (tgt := 12) dX6_begin_28 rfl ?_
      exact ih hwp hw (lh_mask hl [true, false, false, true])
set_option maxRecDepth 100000 in
theorem b_X6_begin_0 {post : St → Prop} (C : cx p s m args meth c wsX6_begin RX6 cX6_begin 4 none D cA) (hA : ∀ q, s.heap.size ≤ q → A q) (hR : RtV p l e rm_X6_begin s m args below meth c Q cX6_begin D cA K_Tape h A post) : ∀ {v1 v2 : Int} {σ : St} {H : Heap} {locs : List Loc} {ls : Array Slot}, wp_X6_begin σ v1 v2 post → wd D cA K_Tape h σ A s.heap H locs → lh ls 4 [some (.ref (h 0)), some (iv v1), some (iv v2), none] → W p l e rm_X6_begin s m args below meth c H locs 0 0 Q (F0 m 0 ls []) := by
  intro v1 v2 σ H locs ls hwp hw hl
  refine r_aload_n C dX6_begin_0 hl rfl ?_
  refine r_iload_n C dX6_begin_1 hl rfl ?_
  refine r_put C hw clX6 0 rfl 0 0 rfl rfl (Nat.le_of_ble_eq_true rfl) hi_X6_begin_X6 hf_X6_begin_9 rfl ⟨nar_i _, fit_i _⟩ dX6_begin_2 (fun H locs hw => ?_)
  have hwp := hwp _ rfl
  refine r_aload_n C dX6_begin_5 hl rfl ?_
  refine r_iload_n C dX6_begin_6 hl rfl ?_
  refine r_put C hw clX6 0 rfl 1 1 rfl rfl (Nat.le_of_ble_eq_true rfl) hi_X6_begin_X6 hf_X6_begin_15 rfl ⟨nar_i _, fit_i _⟩ dX6_begin_7 (fun H locs hw => ?_)
  have hwp := hwp _ rfl
  refine r_const C dX6_begin_10 ?_
  refine r_istore_n C dX6_begin_11 hl (Nat.le_of_ble_eq_true rfl) (Nat.le_of_ble_eq_true rfl) rfl (fun ls hl => ?_)
  obtain ⟨n9, hwp⟩ := hwp
  exact b_X6_begin_12 C hA hR n9 hwp hw (lh_mask hl [true, false, false, true])
set_option maxRecDepth 100000 in
theorem c_X6_begin {l : Launch} {D : va_G} {cA : FieldType → ClassId} {h : Nat → Nat} {σ : St} {sz : Nat} {v1 v2 : Int} {post : St → Prop} (hwp : wp_X6_begin σ v1 v2 post) : Met l yX6_begin wsX6_begin rm_X6_begin (va_Pc [.ref (h 0), iv v1, iv v2] (preS D cA K_Tape h σ sz)) (QV D cA K_Tape h sz post) 0 0 (aA K_Tape.length h sz) := by
  refine mk_met (cc := cX6_begin) (nL := 4) (ret := none) (own := RX6) 1 (by decide) rfl rfl rfl rfl ?_
  intro p e s m args below meth c ls hsz C hw hl hA
  subst hsz
  exact b_X6_begin_0 C hA (rt_v C _) hwp hw hl
-- X6_has
theorem hi_X6_has_X6 : ∀ w ∈ u_ws RX6 TX6 3, w ∈ wsX6_has := by decide +kernel
theorem hf_X6_has_15 : Cond.fieldLink RX6 15 (TX6 1).1 (TX6 1).2.1 (TX6 1).2.2.1 ∈ wsX6_has := by decide +kernel
def rm_X6_has : Room := { frames := 0, cells := 0, slots := 0, locals := 0 }
set_option maxRecDepth 100000 in
theorem b_X6_has_0 {σ : St} {post : Int → Prop} (C : cx p s m args meth c wsX6_has RX6 cX6_has 3 (some .boolean) D cA) (hA : ∀ q, s.heap.size ≤ q → A q) (hR : RtI p l e rm_X6_has s m args below meth c Q cX6_has D cA K_Tape h A (fun x => x = 0 ∨ x = 1) (fun r σ' => σ' = σ ∧ post r)) : ∀ {v1 v2 : Int} {H : Heap} {locs : List Loc} {ls : Array Slot}, wp_X6_has σ v1 v2 post → wd D cA K_Tape h σ A s.heap H locs → lh ls 3 [some (.ref (h 0)), some (iv v1), some (iv v2)] → W p l e rm_X6_has s m args below meth c H locs 0 0 Q (F0 m 0 ls []) := by
  intro v1 v2 H locs ls hwp hw hl
  refine r_iload_n C dX6_has_0 hl rfl ?_
  obtain ⟨ra, hT, hF⟩ := hwp
  refine r_if_lt C (tgt := 30) dX6_has_1 rfl ra (fun hc => ?_) (fun hc => ?_)
  · have hwp := hT hc
    refine r_const C dX6_has_30 ?_
    exact hR _ _ _ _ _ _ dX6_has_31 (Or.inl rfl) ⟨rfl, hwp⟩ hw
  · have hwp := hF hc
    refine r_iload_n C dX6_has_4 hl rfl ?_
    obtain ⟨ra, hT, hF⟩ := hwp
    refine r_if_lt C (tgt := 30) dX6_has_5 rfl ra (fun hc => ?_) (fun hc => ?_)
    · have hwp := hT hc
      refine r_const C dX6_has_30 ?_
      exact hR _ _ _ _ _ _ dX6_has_31 (Or.inl rfl) ⟨rfl, hwp⟩ hw
    · have hwp := hF hc
      refine r_iload_n C dX6_has_8 hl rfl ?_
      refine r_aload_n C dX6_has_9 hl rfl ?_
      refine r_get C hw clX6 0 rfl 1 1 rfl rfl (Nat.le_of_ble_eq_true rfl) hi_X6_has_X6 hf_X6_has_15 dX6_has_10 ?_
      obtain ⟨ra, rb, hT, hF⟩ := hwp
      refine r_icmp_gt C (tgt := 30) dX6_has_13 rfl ra rb (fun hc => ?_) (fun hc => ?_)
      · have hwp := hT hc
        refine r_const C dX6_has_30 ?_
        exact hR _ _ _ _ _ _ dX6_has_31 (Or.inl rfl) ⟨rfl, hwp⟩ hw
      · have hwp := hF hc
        refine r_iload_n C dX6_has_16 hl rfl ?_
        refine r_aload_n C dX6_has_17 hl rfl ?_
        refine r_get C hw clX6 0 rfl 1 1 rfl rfl (Nat.le_of_ble_eq_true rfl) hi_X6_has_X6 hf_X6_has_15 dX6_has_18 ?_
        refine r_iload_n C dX6_has_21 hl rfl ?_
        refine r_isub C dX6_has_22 ?_
        obtain ⟨ra, rb, hT, hF⟩ := hwp
        refine r_icmp_gt C (tgt := 30) dX6_has_23 rfl ra rb (fun hc => ?_) (fun hc => ?_)
        · have hwp := hT hc
          refine r_const C dX6_has_30 ?_
          exact hR _ _ _ _ _ _ dX6_has_31 (Or.inl rfl) ⟨rfl, hwp⟩ hw
        · have hwp := hF hc
          refine r_const C dX6_has_26 ?_
          refine r_goto C (tgt := 31) dX6_has_27 rfl ?_
          exact hR _ _ _ _ _ _ dX6_has_31 (Or.inr rfl) ⟨rfl, hwp⟩ hw
set_option maxRecDepth 100000 in
theorem c_X6_has {l : Launch} {D : va_G} {cA : FieldType → ClassId} {h : Nat → Nat} {σ : St} {sz : Nat} {v1 v2 : Int} {post : Int → Prop} (hwp : wp_X6_has σ v1 v2 post) : Met l yX6_has wsX6_has rm_X6_has (va_Pc [.ref (h 0), iv v1, iv v2] (preS D cA K_Tape h σ sz)) (QI D cA K_Tape h sz (fun r σ' => σ' = σ ∧ post r)) 0 0 (aA K_Tape.length h sz) := by
  refine mk_met (cc := cX6_has) (nL := 3) (ret := (some .boolean)) (own := RX6) 0 (by decide) rfl rfl rfl rfl ?_
  intro p e s m args below meth c ls hsz C hw hl hA
  subst hsz
  exact b_X6_has_0 C hA (rt_z C _) hwp hw hl
-- X6_narrowed
def rm_X6_narrowed : Room := { frames := 0, cells := 0, slots := 0, locals := 0 }
set_option maxRecDepth 100000 in
theorem b_X6_narrowed_0 {σ : St} {post : Int → Prop} (C : cx p s m args meth c wsX6_narrowed RX6 cX6_narrowed 3 (some .long) D cA) (hA : ∀ q, s.heap.size ≤ q → A q) (hR : RtL p l e rm_X6_narrowed s m args below meth c Q cX6_narrowed D cA K_0 h A (fun r σ' => σ' = σ ∧ post r)) : ∀ {v0 v1 : Int} {H : Heap} {locs : List Loc} {ls : Array Slot}, wp_X6_narrowed v0 v1 post → wd D cA K_0 h σ A s.heap H locs → lh ls 3 [some (iv v0), some (jv v1), none] → W p l e rm_X6_narrowed s m args below meth c H locs 0 0 Q (F0 m 0 ls []) := by
  intro v0 v1 H locs ls hwp hw hl
  refine r_iload_n C dX6_narrowed_0 hl rfl ?_
  obtain ⟨ra, hS0, hS1, hS2, hS3, hD⟩ := hwp
  rcases sw_0_3 ra with hc | hc | hc | hc | hc
  · have hwp := hS0 hc
    refine r_tin C (tgt := 32) dX6_narrowed_1 ra 0 hc (by decide) (by decide) rfl rfl ?_
    refine r_lload_n C dX6_narrowed_32 hl rfl ?_
    refine r_l2i C dX6_narrowed_33 ?_
    refine r_i2b C dX6_narrowed_34 ?_
    obtain ⟨ra, hwp⟩ := hwp
    refine r_i2l C dX6_narrowed_35 ra ?_
    exact hR _ _ _ _ _ _ dX6_narrowed_36 ⟨rfl, hwp⟩ hw
  · have hwp := hS1 hc
    refine r_tin C (tgt := 37) dX6_narrowed_1 ra 1 hc (by decide) (by decide) rfl rfl ?_
    refine r_lload_n C dX6_narrowed_37 hl rfl ?_
    refine r_l2i C dX6_narrowed_38 ?_
    refine r_i2s C dX6_narrowed_39 ?_
    obtain ⟨ra, hwp⟩ := hwp
    refine r_i2l C dX6_narrowed_40 ra ?_
    exact hR _ _ _ _ _ _ dX6_narrowed_41 ⟨rfl, hwp⟩ hw
  · have hwp := hS2 hc
    refine r_tin C (tgt := 42) dX6_narrowed_1 ra 2 hc (by decide) (by decide) rfl rfl ?_
    refine r_lload_n C dX6_narrowed_42 hl rfl ?_
    refine r_l2i C dX6_narrowed_43 ?_
    obtain ⟨ra, hwp⟩ := hwp
    refine r_i2l C dX6_narrowed_44 ra ?_
    exact hR _ _ _ _ _ _ dX6_narrowed_45 ⟨rfl, hwp⟩ hw
  · have hwp := hS3 hc
    refine r_tin C (tgt := 46) dX6_narrowed_1 ra 3 hc (by decide) (by decide) rfl rfl ?_
    refine r_lload_n C dX6_narrowed_46 hl rfl ?_
    exact hR _ _ _ _ _ _ dX6_narrowed_47 ⟨rfl, hwp⟩ hw
  · have hwp := hD hc
    refine r_tout C (tgt := 48) dX6_narrowed_1 ra hc rfl ?_
    refine r_lload_n C dX6_narrowed_48 hl rfl ?_
    refine r_lconst C 0 rfl dX6_narrowed_49 ?_
    obtain ⟨ra, rb, hwp⟩ := hwp
    refine r_lcmp C dX6_narrowed_50 ra rb ?_
    obtain ⟨ra, hT, hF⟩ := hwp
    refine r_if_eq C (tgt := 58) dX6_narrowed_51 rfl ra (fun hc => ?_) (fun hc => ?_)
    · have hwp := hT hc
      refine r_lconst C 0 rfl dX6_narrowed_58 ?_
      exact hR _ _ _ _ _ _ dX6_narrowed_59 ⟨rfl, hwp⟩ hw
    · have hwp := hF hc
      refine r_lconst C 1 rfl dX6_narrowed_54 ?_
      refine r_goto C (tgt := 59) dX6_narrowed_55 rfl ?_
      exact hR _ _ _ _ _ _ dX6_narrowed_59 ⟨rfl, hwp⟩ hw
set_option maxRecDepth 100000 in
theorem c_X6_narrowed {l : Launch} {D : va_G} {cA : FieldType → ClassId} {h : Nat → Nat} {σ : St} {sz : Nat} {v0 v1 : Int} {post : Int → Prop} (hwp : wp_X6_narrowed v0 v1 post) : Met l yX6_narrowed wsX6_narrowed rm_X6_narrowed (va_Pc [iv v0, jv v1] (preS D cA K_0 h σ sz)) (QL D cA K_0 h sz (fun r σ' => σ' = σ ∧ post r)) 0 0 (aA K_0.length h sz) := by
  refine mk_met (cc := cX6_narrowed) (nL := 3) (ret := (some .long)) (own := RX6) 0 (by decide) rfl rfl rfl rfl ?_
  intro p e s m args below meth c ls hsz C hw hl hA
  subst hsz
  exact b_X6_narrowed_0 C hA (rt_l C _) hwp hw hl
end
end
section
theorem zz_nothing : True := trivial
end
