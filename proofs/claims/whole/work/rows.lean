section
-- ===== PART A: goes FIRST, ahead of the names: the tables' words, and 'selects' of the private methods out of them =====
/-- a private method of a class that the tables say can be made, by its rows of tables_1 -/
def lw_okq (q : MethodName × Nat) : Prop := (q.1.cls ≠ "java/lang/invoke/MethodHandle" ∧ q.1.cls ≠ "java/lang/invoke/VarHandle") ∧ Cond.instantiable q.1.cls q.2 ∈ tables_1 ∧ Cond.privateMethod q.1 ∈ tables_1 ∧ Cond.instanceMethod q.1 ∈ tables_1
theorem lw_p0 : lw_okq (⟨"BellTouches", "isPlaces", "(I)Z"⟩, 10) := ⟨⟨by decide +kernel, by decide +kernel⟩, List.mem_of_getElem? (i := 14) (by decide +kernel), List.mem_of_getElem? (i := 289) (by decide +kernel), List.mem_of_getElem? (i := 290) (by decide +kernel)⟩
theorem lw_p1 : lw_okq (⟨"BellTouches$SetupText", "next", "()I"⟩, 8) := ⟨⟨by decide +kernel, by decide +kernel⟩, List.mem_of_getElem? (i := 193) (by decide +kernel), List.mem_of_getElem? (i := 345) (by decide +kernel), List.mem_of_getElem? (i := 346) (by decide +kernel)⟩
theorem lw_p2 : lw_okq (⟨"BellTouches$SetupText", "parseClause", "()Z"⟩, 8) := ⟨⟨by decide +kernel, by decide +kernel⟩, List.mem_of_getElem? (i := 193) (by decide +kernel), List.mem_of_getElem? (i := 349) (by decide +kernel), List.mem_of_getElem? (i := 350) (by decide +kernel)⟩
theorem lw_p3 : lw_okq (⟨"BellTouches$SetupText", "parseDigit", "()Z"⟩, 8) := ⟨⟨by decide +kernel, by decide +kernel⟩, List.mem_of_getElem? (i := 193) (by decide +kernel), List.mem_of_getElem? (i := 353) (by decide +kernel), List.mem_of_getElem? (i := 354) (by decide +kernel)⟩
theorem lw_p4 : lw_okq (⟨"BellTouches$SetupText", "keep", "(I)V"⟩, 8) := ⟨⟨by decide +kernel, by decide +kernel⟩, List.mem_of_getElem? (i := 193) (by decide +kernel), List.mem_of_getElem? (i := 357) (by decide +kernel), List.mem_of_getElem? (i := 358) (by decide +kernel)⟩
theorem lw_p5 : lw_okq (⟨"BellTouches$SetupText", "parseWords", "()Z"⟩, 8) := ⟨⟨by decide +kernel, by decide +kernel⟩, List.mem_of_getElem? (i := 193) (by decide +kernel), List.mem_of_getElem? (i := 361) (by decide +kernel), List.mem_of_getElem? (i := 362) (by decide +kernel)⟩
theorem lw_p6 : lw_okq (⟨"BellTouches$SetupText", "parseWord", "()Z"⟩, 8) := ⟨⟨by decide +kernel, by decide +kernel⟩, List.mem_of_getElem? (i := 193) (by decide +kernel), List.mem_of_getElem? (i := 365) (by decide +kernel), List.mem_of_getElem? (i := 366) (by decide +kernel)⟩
theorem lw_p7 : lw_okq (⟨"BellTouches$SetupText", "parseCalls", "()Z"⟩, 8) := ⟨⟨by decide +kernel, by decide +kernel⟩, List.mem_of_getElem? (i := 193) (by decide +kernel), List.mem_of_getElem? (i := 372) (by decide +kernel), List.mem_of_getElem? (i := 373) (by decide +kernel)⟩
theorem lw_p8 : lw_okq (⟨"BellTouches$SetupText", "performClause", "(LBellTouches$Setup;III)Z"⟩, 8) := ⟨⟨by decide +kernel, by decide +kernel⟩, List.mem_of_getElem? (i := 193) (by decide +kernel), List.mem_of_getElem? (i := 383) (by decide +kernel), List.mem_of_getElem? (i := 384) (by decide +kernel)⟩
theorem lw_p9 : lw_okq (⟨"BellTouches$SetupText", "setMethod", "(LBellTouches$Setup;II)Z"⟩, 8) := ⟨⟨by decide +kernel, by decide +kernel⟩, List.mem_of_getElem? (i := 193) (by decide +kernel), List.mem_of_getElem? (i := 391) (by decide +kernel), List.mem_of_getElem? (i := 392) (by decide +kernel)⟩
theorem lw_p10 : lw_okq (⟨"BellTouches$SetupText", "setLeads", "(LBellTouches$Setup;II)Z"⟩, 8) := ⟨⟨by decide +kernel, by decide +kernel⟩, List.mem_of_getElem? (i := 193) (by decide +kernel), List.mem_of_getElem? (i := 400) (by decide +kernel), List.mem_of_getElem? (i := 401) (by decide +kernel)⟩
theorem lw_p11 : lw_okq (⟨"BellTouches", "rung", "()LBellTouches$Touch;"⟩, 10) := ⟨⟨by decide +kernel, by decide +kernel⟩, List.mem_of_getElem? (i := 14) (by decide +kernel), List.mem_of_getElem? (i := 415) (by decide +kernel), List.mem_of_getElem? (i := 416) (by decide +kernel)⟩
theorem lw_p12 : lw_okq (⟨"BellTouches$Touch", "compare", "()V"⟩, 8) := ⟨⟨by decide +kernel, by decide +kernel⟩, List.mem_of_getElem? (i := 112) (by decide +kernel), List.mem_of_getElem? (i := 443) (by decide +kernel), List.mem_of_getElem? (i := 444) (by decide +kernel)⟩
theorem lw_p13 : lw_okq (⟨"BellTouches", "isRow", "(I)Z"⟩, 10) := ⟨⟨by decide +kernel, by decide +kernel⟩, List.mem_of_getElem? (i := 14) (by decide +kernel), List.mem_of_getElem? (i := 476) (by decide +kernel), List.mem_of_getElem? (i := 477) (by decide +kernel)⟩
theorem lw_p14 : lw_okq (⟨"BellTouches", "isBell", "(I)Z"⟩, 10) := ⟨⟨by decide +kernel, by decide +kernel⟩, List.mem_of_getElem? (i := 14) (by decide +kernel), List.mem_of_getElem? (i := 480) (by decide +kernel), List.mem_of_getElem? (i := 481) (by decide +kernel)⟩
theorem lw_p15 : lw_okq (⟨"BellTouches", "countMusic", "(I)I"⟩, 10) := ⟨⟨by decide +kernel, by decide +kernel⟩, List.mem_of_getElem? (i := 14) (by decide +kernel), List.mem_of_getElem? (i := 511) (by decide +kernel), List.mem_of_getElem? (i := 512) (by decide +kernel)⟩
def lw_privs_1 : List (MethodName × Nat) := [(⟨"BellTouches", "isPlaces", "(I)Z"⟩, 10), (⟨"BellTouches$SetupText", "next", "()I"⟩, 8), (⟨"BellTouches$SetupText", "parseClause", "()Z"⟩, 8), (⟨"BellTouches$SetupText", "parseDigit", "()Z"⟩, 8), (⟨"BellTouches$SetupText", "keep", "(I)V"⟩, 8), (⟨"BellTouches$SetupText", "parseWords", "()Z"⟩, 8), (⟨"BellTouches$SetupText", "parseWord", "()Z"⟩, 8), (⟨"BellTouches$SetupText", "parseCalls", "()Z"⟩, 8), (⟨"BellTouches$SetupText", "performClause", "(LBellTouches$Setup;III)Z"⟩, 8), (⟨"BellTouches$SetupText", "setMethod", "(LBellTouches$Setup;II)Z"⟩, 8), (⟨"BellTouches$SetupText", "setLeads", "(LBellTouches$Setup;II)Z"⟩, 8), (⟨"BellTouches", "rung", "()LBellTouches$Touch;"⟩, 10), (⟨"BellTouches$Touch", "compare", "()V"⟩, 8), (⟨"BellTouches", "isRow", "(I)Z"⟩, 10), (⟨"BellTouches", "isBell", "(I)Z"⟩, 10), (⟨"BellTouches", "countMusic", "(I)I"⟩, 10)]
theorem lw_r1 : ∀ q ∈ lw_privs_1, lw_okq q := List.forall_mem_cons.mpr ⟨lw_p0, List.forall_mem_cons.mpr ⟨lw_p1, List.forall_mem_cons.mpr ⟨lw_p2, List.forall_mem_cons.mpr ⟨lw_p3, List.forall_mem_cons.mpr ⟨lw_p4, List.forall_mem_cons.mpr ⟨lw_p5, List.forall_mem_cons.mpr ⟨lw_p6, List.forall_mem_cons.mpr ⟨lw_p7, List.forall_mem_cons.mpr ⟨lw_p8, List.forall_mem_cons.mpr ⟨lw_p9, List.forall_mem_cons.mpr ⟨lw_p10, List.forall_mem_cons.mpr ⟨lw_p11, List.forall_mem_cons.mpr ⟨lw_p12, List.forall_mem_cons.mpr ⟨lw_p13, List.forall_mem_cons.mpr ⟨lw_p14, List.forall_mem_cons.mpr ⟨lw_p15, fun _ h => absurd h List.not_mem_nil⟩⟩⟩⟩⟩⟩⟩⟩⟩⟩⟩⟩⟩⟩⟩⟩
theorem lw_p16 : lw_okq (⟨"BellTouches$Setup", "holdsPattern", "(I)Z"⟩, 11) := ⟨⟨by decide +kernel, by decide +kernel⟩, List.mem_of_getElem? (i := 22) (by decide +kernel), List.mem_of_getElem? (i := 521) (by decide +kernel), List.mem_of_getElem? (i := 522) (by decide +kernel)⟩
theorem lw_p17 : lw_okq (⟨"BellTouches$Fewest", "ringTillAgain", "(I)I"⟩, 7) := ⟨⟨by decide +kernel, by decide +kernel⟩, List.mem_of_getElem? (i := 158) (by decide +kernel), List.mem_of_getElem? (i := 543) (by decide +kernel), List.mem_of_getElem? (i := 544) (by decide +kernel)⟩
theorem lw_p18 : lw_okq (⟨"BellTouches$Fewest", "isEnd", "(I)Z"⟩, 7) := ⟨⟨by decide +kernel, by decide +kernel⟩, List.mem_of_getElem? (i := 158) (by decide +kernel), List.mem_of_getElem? (i := 548) (by decide +kernel), List.mem_of_getElem? (i := 549) (by decide +kernel)⟩
theorem lw_p19 : lw_okq (⟨"BellTouches$Fewest", "backTo", "(I)V"⟩, 7) := ⟨⟨by decide +kernel, by decide +kernel⟩, List.mem_of_getElem? (i := 158) (by decide +kernel), List.mem_of_getElem? (i := 552) (by decide +kernel), List.mem_of_getElem? (i := 553) (by decide +kernel)⟩
theorem lw_p20 : lw_okq (⟨"BellTouches", "fitsLast", "(I)Z"⟩, 10) := ⟨⟨by decide +kernel, by decide +kernel⟩, List.mem_of_getElem? (i := 14) (by decide +kernel), List.mem_of_getElem? (i := 590) (by decide +kernel), List.mem_of_getElem? (i := 591) (by decide +kernel)⟩
theorem lw_p21 : lw_okq (⟨"BellTouchesModel", "begins", "(I)V"⟩, 20) := ⟨⟨by decide +kernel, by decide +kernel⟩, List.mem_of_getElem? (i := 679) (by decide +kernel), List.mem_of_getElem? (i := 685) (by decide +kernel), List.mem_of_getElem? (i := 686) (by decide +kernel)⟩
theorem lw_p22 : lw_okq (⟨"BellTouchesModel", "areKept", "(I)Z"⟩, 20) := ⟨⟨by decide +kernel, by decide +kernel⟩, List.mem_of_getElem? (i := 679) (by decide +kernel), List.mem_of_getElem? (i := 761) (by decide +kernel), List.mem_of_getElem? (i := 762) (by decide +kernel)⟩
theorem lw_p23 : lw_okq (⟨"BellTouchesModel", "isGood", "(I)Z"⟩, 20) := ⟨⟨by decide +kernel, by decide +kernel⟩, List.mem_of_getElem? (i := 679) (by decide +kernel), List.mem_of_getElem? (i := 765) (by decide +kernel), List.mem_of_getElem? (i := 766) (by decide +kernel)⟩
theorem lw_p24 : lw_okq (⟨"BellTouchesModel", "becomes", "(II)I"⟩, 20) := ⟨⟨by decide +kernel, by decide +kernel⟩, List.mem_of_getElem? (i := 679) (by decide +kernel), List.mem_of_getElem? (i := 773) (by decide +kernel), List.mem_of_getElem? (i := 774) (by decide +kernel)⟩
theorem lw_p25 : lw_okq (⟨"BellTouchesModel", "reads", "()V"⟩, 20) := ⟨⟨by decide +kernel, by decide +kernel⟩, List.mem_of_getElem? (i := 679) (by decide +kernel), List.mem_of_getElem? (i := 797) (by decide +kernel), List.mem_of_getElem? (i := 798) (by decide +kernel)⟩
theorem lw_p26 : lw_okq (⟨"BellTouchesModel", "sign", "()I"⟩, 20) := ⟨⟨by decide +kernel, by decide +kernel⟩, List.mem_of_getElem? (i := 679) (by decide +kernel), List.mem_of_getElem? (i := 801) (by decide +kernel), List.mem_of_getElem? (i := 802) (by decide +kernel)⟩
theorem lw_p27 : lw_okq (⟨"BellTouchesModel", "wrong", "()V"⟩, 20) := ⟨⟨by decide +kernel, by decide +kernel⟩, List.mem_of_getElem? (i := 679) (by decide +kernel), List.mem_of_getElem? (i := 805) (by decide +kernel), List.mem_of_getElem? (i := 806) (by decide +kernel)⟩
theorem lw_p28 : lw_okq (⟨"BellTouchesModel", "adds", "(I)V"⟩, 20) := ⟨⟨by decide +kernel, by decide +kernel⟩, List.mem_of_getElem? (i := 679) (by decide +kernel), List.mem_of_getElem? (i := 809) (by decide +kernel), List.mem_of_getElem? (i := 810) (by decide +kernel)⟩
theorem lw_p29 : lw_okq (⟨"BellTouchesModel", "words", "()V"⟩, 20) := ⟨⟨by decide +kernel, by decide +kernel⟩, List.mem_of_getElem? (i := 679) (by decide +kernel), List.mem_of_getElem? (i := 813) (by decide +kernel), List.mem_of_getElem? (i := 814) (by decide +kernel)⟩
theorem lw_p30 : lw_okq (⟨"BellTouchesModel", "word", "()Z"⟩, 20) := ⟨⟨by decide +kernel, by decide +kernel⟩, List.mem_of_getElem? (i := 679) (by decide +kernel), List.mem_of_getElem? (i := 817) (by decide +kernel), List.mem_of_getElem? (i := 818) (by decide +kernel)⟩
theorem lw_p31 : lw_okq (⟨"BellTouchesModel", "digits", "()V"⟩, 20) := ⟨⟨by decide +kernel, by decide +kernel⟩, List.mem_of_getElem? (i := 679) (by decide +kernel), List.mem_of_getElem? (i := 821) (by decide +kernel), List.mem_of_getElem? (i := 822) (by decide +kernel)⟩
def lw_privs_2 : List (MethodName × Nat) := [(⟨"BellTouches$Setup", "holdsPattern", "(I)Z"⟩, 11), (⟨"BellTouches$Fewest", "ringTillAgain", "(I)I"⟩, 7), (⟨"BellTouches$Fewest", "isEnd", "(I)Z"⟩, 7), (⟨"BellTouches$Fewest", "backTo", "(I)V"⟩, 7), (⟨"BellTouches", "fitsLast", "(I)Z"⟩, 10), (⟨"BellTouchesModel", "begins", "(I)V"⟩, 20), (⟨"BellTouchesModel", "areKept", "(I)Z"⟩, 20), (⟨"BellTouchesModel", "isGood", "(I)Z"⟩, 20), (⟨"BellTouchesModel", "becomes", "(II)I"⟩, 20), (⟨"BellTouchesModel", "reads", "()V"⟩, 20), (⟨"BellTouchesModel", "sign", "()I"⟩, 20), (⟨"BellTouchesModel", "wrong", "()V"⟩, 20), (⟨"BellTouchesModel", "adds", "(I)V"⟩, 20), (⟨"BellTouchesModel", "words", "()V"⟩, 20), (⟨"BellTouchesModel", "word", "()Z"⟩, 20), (⟨"BellTouchesModel", "digits", "()V"⟩, 20)]
theorem lw_r2 : ∀ q ∈ lw_privs_2, lw_okq q := List.forall_mem_cons.mpr ⟨lw_p16, List.forall_mem_cons.mpr ⟨lw_p17, List.forall_mem_cons.mpr ⟨lw_p18, List.forall_mem_cons.mpr ⟨lw_p19, List.forall_mem_cons.mpr ⟨lw_p20, List.forall_mem_cons.mpr ⟨lw_p21, List.forall_mem_cons.mpr ⟨lw_p22, List.forall_mem_cons.mpr ⟨lw_p23, List.forall_mem_cons.mpr ⟨lw_p24, List.forall_mem_cons.mpr ⟨lw_p25, List.forall_mem_cons.mpr ⟨lw_p26, List.forall_mem_cons.mpr ⟨lw_p27, List.forall_mem_cons.mpr ⟨lw_p28, List.forall_mem_cons.mpr ⟨lw_p29, List.forall_mem_cons.mpr ⟨lw_p30, List.forall_mem_cons.mpr ⟨lw_p31, fun _ h => absurd h List.not_mem_nil⟩⟩⟩⟩⟩⟩⟩⟩⟩⟩⟩⟩⟩⟩⟩⟩
theorem lw_p32 : lw_okq (⟨"BellTouchesModel", "does", "(I)Z"⟩, 20) := ⟨⟨by decide +kernel, by decide +kernel⟩, List.mem_of_getElem? (i := 679) (by decide +kernel), List.mem_of_getElem? (i := 828) (by decide +kernel), List.mem_of_getElem? (i := 829) (by decide +kernel)⟩
theorem lw_p33 : lw_okq (⟨"BellTouchesModel", "areGood", "(I)Z"⟩, 20) := ⟨⟨by decide +kernel, by decide +kernel⟩, List.mem_of_getElem? (i := 679) (by decide +kernel), List.mem_of_getElem? (i := 834) (by decide +kernel), List.mem_of_getElem? (i := 835) (by decide +kernel)⟩
theorem lw_p34 : lw_okq (⟨"BellTouchesModel", "course", "()I"⟩, 20) := ⟨⟨by decide +kernel, by decide +kernel⟩, List.mem_of_getElem? (i := 679) (by decide +kernel), List.mem_of_getElem? (i := 846) (by decide +kernel), List.mem_of_getElem? (i := 847) (by decide +kernel)⟩
theorem lw_p35 : lw_okq (⟨"BellTouchesModel", "keys", "(I)V"⟩, 20) := ⟨⟨by decide +kernel, by decide +kernel⟩, List.mem_of_getElem? (i := 679) (by decide +kernel), List.mem_of_getElem? (i := 850) (by decide +kernel), List.mem_of_getElem? (i := 851) (by decide +kernel)⟩
theorem lw_p36 : lw_okq (⟨"BellTouchesModel", "goes", "(II)V"⟩, 20) := ⟨⟨by decide +kernel, by decide +kernel⟩, List.mem_of_getElem? (i := 679) (by decide +kernel), List.mem_of_getElem? (i := 854) (by decide +kernel), List.mem_of_getElem? (i := 855) (by decide +kernel)⟩
theorem lw_p37 : lw_okq (⟨"BellTouchesModel", "rings", "()V"⟩, 20) := ⟨⟨by decide +kernel, by decide +kernel⟩, List.mem_of_getElem? (i := 679) (by decide +kernel), List.mem_of_getElem? (i := 858) (by decide +kernel), List.mem_of_getElem? (i := 859) (by decide +kernel)⟩
theorem lw_p38 : lw_okq (⟨"BellTouchesModel", "round", "()I"⟩, 20) := ⟨⟨by decide +kernel, by decide +kernel⟩, List.mem_of_getElem? (i := 679) (by decide +kernel), List.mem_of_getElem? (i := 862) (by decide +kernel), List.mem_of_getElem? (i := 863) (by decide +kernel)⟩
theorem lw_p39 : lw_okq (⟨"BellTouchesModel", "wrongRow", "()I"⟩, 20) := ⟨⟨by decide +kernel, by decide +kernel⟩, List.mem_of_getElem? (i := 679) (by decide +kernel), List.mem_of_getElem? (i := 866) (by decide +kernel), List.mem_of_getElem? (i := 867) (by decide +kernel)⟩
theorem lw_p40 : lw_okq (⟨"BellTouchesModel", "first", "(I)I"⟩, 20) := ⟨⟨by decide +kernel, by decide +kernel⟩, List.mem_of_getElem? (i := 679) (by decide +kernel), List.mem_of_getElem? (i := 870) (by decide +kernel), List.mem_of_getElem? (i := 871) (by decide +kernel)⟩
theorem lw_p41 : lw_okq (⟨"BellTouchesModel", "isTrue", "()I"⟩, 20) := ⟨⟨by decide +kernel, by decide +kernel⟩, List.mem_of_getElem? (i := 679) (by decide +kernel), List.mem_of_getElem? (i := 874) (by decide +kernel), List.mem_of_getElem? (i := 875) (by decide +kernel)⟩
theorem lw_p42 : lw_okq (⟨"BellTouchesModel", "isPlace", "(I)Z"⟩, 20) := ⟨⟨by decide +kernel, by decide +kernel⟩, List.mem_of_getElem? (i := 679) (by decide +kernel), List.mem_of_getElem? (i := 882) (by decide +kernel), List.mem_of_getElem? (i := 883) (by decide +kernel)⟩
theorem lw_p43 : lw_okq (⟨"BellTouchesModel", "place", "(II)I"⟩, 20) := ⟨⟨by decide +kernel, by decide +kernel⟩, List.mem_of_getElem? (i := 679) (by decide +kernel), List.mem_of_getElem? (i := 890) (by decide +kernel), List.mem_of_getElem? (i := 891) (by decide +kernel)⟩
theorem lw_p44 : lw_okq (⟨"BellTouchesModel", "musicOf", "(I)I"⟩, 20) := ⟨⟨by decide +kernel, by decide +kernel⟩, List.mem_of_getElem? (i := 679) (by decide +kernel), List.mem_of_getElem? (i := 906) (by decide +kernel), List.mem_of_getElem? (i := 907) (by decide +kernel)⟩
theorem lw_p45 : lw_okq (⟨"BellTouchesModel", "isMusic", "(II)Z"⟩, 20) := ⟨⟨by decide +kernel, by decide +kernel⟩, List.mem_of_getElem? (i := 679) (by decide +kernel), List.mem_of_getElem? (i := 910) (by decide +kernel), List.mem_of_getElem? (i := 911) (by decide +kernel)⟩
theorem lw_p46 : lw_okq (⟨"BellTouchesModel", "isSeen", "()Z"⟩, 20) := ⟨⟨by decide +kernel, by decide +kernel⟩, List.mem_of_getElem? (i := 679) (by decide +kernel), List.mem_of_getElem? (i := 934) (by decide +kernel), List.mem_of_getElem? (i := 935) (by decide +kernel)⟩
def lw_privs_3 : List (MethodName × Nat) := [(⟨"BellTouchesModel", "does", "(I)Z"⟩, 20), (⟨"BellTouchesModel", "areGood", "(I)Z"⟩, 20), (⟨"BellTouchesModel", "course", "()I"⟩, 20), (⟨"BellTouchesModel", "keys", "(I)V"⟩, 20), (⟨"BellTouchesModel", "goes", "(II)V"⟩, 20), (⟨"BellTouchesModel", "rings", "()V"⟩, 20), (⟨"BellTouchesModel", "round", "()I"⟩, 20), (⟨"BellTouchesModel", "wrongRow", "()I"⟩, 20), (⟨"BellTouchesModel", "first", "(I)I"⟩, 20), (⟨"BellTouchesModel", "isTrue", "()I"⟩, 20), (⟨"BellTouchesModel", "isPlace", "(I)Z"⟩, 20), (⟨"BellTouchesModel", "place", "(II)I"⟩, 20), (⟨"BellTouchesModel", "musicOf", "(I)I"⟩, 20), (⟨"BellTouchesModel", "isMusic", "(II)Z"⟩, 20), (⟨"BellTouchesModel", "isSeen", "()Z"⟩, 20)]
theorem lw_r3 : ∀ q ∈ lw_privs_3, lw_okq q := List.forall_mem_cons.mpr ⟨lw_p32, List.forall_mem_cons.mpr ⟨lw_p33, List.forall_mem_cons.mpr ⟨lw_p34, List.forall_mem_cons.mpr ⟨lw_p35, List.forall_mem_cons.mpr ⟨lw_p36, List.forall_mem_cons.mpr ⟨lw_p37, List.forall_mem_cons.mpr ⟨lw_p38, List.forall_mem_cons.mpr ⟨lw_p39, List.forall_mem_cons.mpr ⟨lw_p40, List.forall_mem_cons.mpr ⟨lw_p41, List.forall_mem_cons.mpr ⟨lw_p42, List.forall_mem_cons.mpr ⟨lw_p43, List.forall_mem_cons.mpr ⟨lw_p44, List.forall_mem_cons.mpr ⟨lw_p45, List.forall_mem_cons.mpr ⟨lw_p46, fun _ h => absurd h List.not_mem_nil⟩⟩⟩⟩⟩⟩⟩⟩⟩⟩⟩⟩⟩⟩⟩
def lw_privs : List (MethodName × Nat) := lw_privs_1 ++ (lw_privs_2 ++ (lw_privs_3))
def lw_tbl : List Cond := k2_sels lw_privs ++ tables_1
theorem lw_privs_ok : ∀ q ∈ lw_privs, lw_okq q := by
  show ∀ q ∈ lw_privs_1 ++ (lw_privs_2 ++ (lw_privs_3)), lw_okq q
  exact List.forall_mem_append.mpr ⟨lw_r1, List.forall_mem_append.mpr ⟨lw_r2, lw_r3⟩⟩
end
section
/-! ===== BEGIN words of one list among another's, by their places ===== -/
theorem goodIn_r {big : List Cond} (ws : List Cond) (ps : List Nat) (hp : ws = ps.filterMap (fun i => big[i]?)) (h : ws.all goodWord = true) : GoodIn big ws := by
  intro w hw
  have h1 := List.all_eq_true.mp h w hw
  rw [hp] at hw
  obtain ⟨i, -, hi⟩ := List.mem_filterMap.mp hw
  have hm : w ∈ big := by first | exact List.mem_of_getElem? hi | exact List.getElem?_mem hi
  exact ⟨hm, good_of_word h1⟩
theorem goodIn_app {big a b : List Cond} (ha : GoodIn big a) (hb : GoodIn big b) : GoodIn big (a ++ b) := fun w h => (List.mem_append.mp h).elim (ha w) (hb w)
theorem goodIn_ca {big a b : List Cond} {c : Cond} (ha : GoodIn big (c :: a)) (hb : GoodIn big b) : GoodIn big (c :: (a ++ b)) := fun w h => (List.mem_cons.mp h).elim (fun e => ha w (List.mem_cons.mpr (Or.inl e))) (fun h => (List.mem_append.mp h).elim (fun h => ha w (List.mem_cons.mpr (Or.inr h))) (hb w))
theorem goodIn_sub {big ws : List Cond} (hm : ∀ w ∈ ws, w ∈ big) (h : ws.all goodWord = true) : GoodIn big ws := fun w hw => ⟨hm w hw, good_of_word (List.all_eq_true.mp h w hw)⟩
/-! ===== END ===== -/

/-! ===== BEGIN printed: names, fields, word lists, decode rows ===== -/
def RX0 : String := "BellTouches$Fewest"
def TX0 : u_T := fun k => match k with
  | 0 => ("BellTouches$Fewest", "number", "I", false)
  | 1 => ("BellTouches$Fewest", "notPlain", "I", false)
  | 2 => ("BellTouches$Fewest", "touch", "LBellTouches$Touch;", true)
  | 3 => ("BellTouches$Fewest", "table", "LBellTouches$RowTable;", true)
  | 4 => ("BellTouches$Fewest", "thereIs", "[Z", true)
  | 5 => ("BellTouches$Fewest", "leadCount", "I", false)
  | _ => ("BellTouches$Fewest", "bound", "I", false)
def tyX0 : Nat → FieldType := fun k => match k with
  | 0 => .int
  | 1 => .int
  | 2 => .object "BellTouches$Touch"
  | 3 => .object "BellTouches$RowTable"
  | 4 => .array .boolean
  | 5 => .int
  | _ => .int
abbrev wsX00 : List Cond := u_ws RX0 TX0 7
theorem nmX0 : ∀ a, a < 7 → ∀ b, b < 7 → a ≠ b → (TX0 a).2.1 ≠ (TX0 b).2.1 := by decide +kernel
theorem tyX0_ok : ∀ k, k < 7 → parseFieldDescriptor (TX0 k).2.2.1 = some (tyX0 k) := by decide +kernel
abbrev cX0_init : ByteArray := prog_2_method_1_code
def yX0_init : MethodName := ⟨RX0, "<init>", "()V"⟩
abbrev cX0_find : ByteArray := prog_2_method_2_code
def yX0_find : MethodName := ⟨RX0, "find", "(LBellTouches$Setup;I)V"⟩
abbrev cX0_search : ByteArray := prog_2_method_3_code
def yX0_search : MethodName := ⟨RX0, "search", "(LBellTouches$Fewest;III)V"⟩
abbrev cX0_ringTillAgain : ByteArray := prog_2_method_4_code
def yX0_ringTillAgain : MethodName := ⟨RX0, "ringTillAgain", "(I)I"⟩
abbrev cX0_isEnd : ByteArray := prog_2_method_5_code
def yX0_isEnd : MethodName := ⟨RX0, "isEnd", "(I)Z"⟩
abbrev cX0_backTo : ByteArray := prog_2_method_6_code
def yX0_backTo : MethodName := ⟨RX0, "backTo", "(I)V"⟩
def RX1 : String := "BellTouches$HandRows"
def TX1 : u_T := fun k => match k with
  | 0 => ("BellTouches$HandRows", "first", "[I", true)
  | 1 => ("BellTouches$HandRows", "second", "[I", true)
  | 2 => ("BellTouches$HandRows", "third", "[I", true)
  | _ => ("BellTouches$HandRows", "size", "I", false)
def tyX1 : Nat → FieldType := fun k => match k with
  | 0 => .array .int
  | 1 => .array .int
  | 2 => .array .int
  | _ => .int
abbrev wsX10 : List Cond := u_ws RX1 TX1 4
theorem nmX1 : ∀ a, a < 4 → ∀ b, b < 4 → a ≠ b → (TX1 a).2.1 ≠ (TX1 b).2.1 := by decide +kernel
theorem tyX1_ok : ∀ k, k < 4 → parseFieldDescriptor (TX1 k).2.2.1 = some (tyX1 k) := by decide +kernel
abbrev cX1_init : ByteArray := prog_3_method_1_code
def yX1_init : MethodName := ⟨RX1, "<init>", "(I)V"⟩
abbrev cX1_append : ByteArray := prog_3_method_2_code
def yX1_append : MethodName := ⟨RX1, "append", "(III)Z"⟩
abbrev cX1_copyFrom : ByteArray := prog_3_method_3_code
def yX1_copyFrom : MethodName := ⟨RX1, "copyFrom", "(LBellTouches$HandRows;)V"⟩
def RX2 : String := "BellTouches$Row"
def TX2 : u_T := fun k => match k with
  | _ => ("", "", "", false)
def tyX2 : Nat → FieldType := fun k => match k with
  | _ => .int
abbrev wsX20 : List Cond := u_ws RX2 TX2 0
theorem nmX2 : ∀ a, a < 0 → ∀ b, b < 0 → a ≠ b → (TX2 a).2.1 ≠ (TX2 b).2.1 := by decide +kernel
theorem tyX2_ok : ∀ k, k < 0 → parseFieldDescriptor (TX2 k).2.2.1 = some (tyX2 k) := by decide +kernel
abbrev cX2_rounds : ByteArray := prog_4_method_2_code
def yX2_rounds : MethodName := ⟨RX2, "rounds", "(I)I"⟩
abbrev cX2_bellIn : ByteArray := prog_4_method_3_code
def yX2_bellIn : MethodName := ⟨RX2, "bellIn", "(II)I"⟩
abbrev cX2_placeOf : ByteArray := prog_4_method_4_code
def yX2_placeOf : MethodName := ⟨RX2, "placeOf", "(II)I"⟩
abbrev cX2_isRightAhead : ByteArray := prog_4_method_5_code
def yX2_isRightAhead : MethodName := ⟨RX2, "isRightAhead", "(III)Z"⟩
abbrev cX2_isGood : ByteArray := prog_4_method_6_code
def yX2_isGood : MethodName := ⟨RX2, "isGood", "(II)Z"⟩
abbrev cX2_pairs : ByteArray := prog_4_method_7_code
def yX2_pairs : MethodName := ⟨RX2, "pairs", "(II)I"⟩
abbrev cX2_isKept : ByteArray := prog_4_method_8_code
def yX2_isKept : MethodName := ⟨RX2, "isKept", "(II)Z"⟩
abbrev cX2_swapped : ByteArray := prog_4_method_9_code
def yX2_swapped : MethodName := ⟨RX2, "swapped", "(II)I"⟩
def RX3 : String := "BellTouches$RowTable"
def TX3 : u_T := fun k => match k with
  | _ => ("BellTouches$RowTable", "numbers", "[I", true)
def tyX3 : Nat → FieldType := fun k => match k with
  | _ => .array .int
abbrev wsX30 : List Cond := u_ws RX3 TX3 1
theorem nmX3 : ∀ a, a < 1 → ∀ b, b < 1 → a ≠ b → (TX3 a).2.1 ≠ (TX3 b).2.1 := by decide +kernel
theorem tyX3_ok : ∀ k, k < 1 → parseFieldDescriptor (TX3 k).2.2.1 = some (tyX3 k) := by decide +kernel
abbrev cX3_init : ByteArray := prog_5_method_1_code
def yX3_init : MethodName := ⟨RX3, "<init>", "()V"⟩
abbrev cX3_enter : ByteArray := prog_5_method_2_code
def yX3_enter : MethodName := ⟨RX3, "enter", "([II)I"⟩
abbrev cX3_leave : ByteArray := prog_5_method_3_code
def yX3_leave : MethodName := ⟨RX3, "leave", "([II)V"⟩
abbrev cX3_start : ByteArray := prog_5_method_4_code
def yX3_start : MethodName := ⟨RX3, "start", "(I)I"⟩
def RX4 : String := "BellTouches$Setup"
def TX4 : u_T := fun k => match k with
  | 0 => ("BellTouches$Setup", "n", "I", false)
  | 1 => ("BellTouches$Setup", "changes", "[I", true)
  | 2 => ("BellTouches$Setup", "changeCount", "I", false)
  | 3 => ("BellTouches$Setup", "bob", "I", false)
  | 4 => ("BellTouches$Setup", "single", "I", false)
  | 5 => ("BellTouches$Setup", "leadCalls", "[I", true)
  | 6 => ("BellTouches$Setup", "leadCount", "I", false)
  | 7 => ("BellTouches$Setup", "patternBells", "[I", true)
  | 8 => ("BellTouches$Setup", "seen", "LBellTouches$HandRows;", true)
  | 9 => ("BellTouches$Setup", "events", "LBellTouches$HandRows;", true)
  | _ => ("BellTouches$Setup", "book", "LBellTouches$HandRows;", true)
def tyX4 : Nat → FieldType := fun k => match k with
  | 0 => .int
  | 1 => .array .int
  | 2 => .int
  | 3 => .int
  | 4 => .int
  | 5 => .array .int
  | 6 => .int
  | 7 => .array .int
  | 8 => .object "BellTouches$HandRows"
  | 9 => .object "BellTouches$HandRows"
  | _ => .object "BellTouches$HandRows"
abbrev wsX40 : List Cond := u_ws RX4 TX4 11
theorem nmX4 : ∀ a, a < 11 → ∀ b, b < 11 → a ≠ b → (TX4 a).2.1 ≠ (TX4 b).2.1 := by decide +kernel
theorem tyX4_ok : ∀ k, k < 11 → parseFieldDescriptor (TX4 k).2.2.1 = some (tyX4 k) := by decide +kernel
abbrev cX4_init : ByteArray := prog_6_method_1_code
def yX4_init : MethodName := ⟨RX4, "<init>", "()V"⟩
abbrev cX4_begin : ByteArray := prog_6_method_2_code
def yX4_begin : MethodName := ⟨RX4, "begin", "(I)V"⟩
abbrev cX4_copyFrom : ByteArray := prog_6_method_3_code
def yX4_copyFrom : MethodName := ⟨RX4, "copyFrom", "(LBellTouches$Setup;)V"⟩
abbrev cX4_calledChange : ByteArray := prog_6_method_4_code
def yX4_calledChange : MethodName := ⟨RX4, "calledChange", "(I)I"⟩
abbrev cX4_setCalledChange : ByteArray := prog_6_method_5_code
def yX4_setCalledChange : MethodName := ⟨RX4, "setCalledChange", "(II)V"⟩
abbrev cX4_isMusic : ByteArray := prog_6_method_6_code
def yX4_isMusic : MethodName := ⟨RX4, "isMusic", "(II)Z"⟩
abbrev cX4_holdsPattern : ByteArray := prog_6_method_7_code
def yX4_holdsPattern : MethodName := ⟨RX4, "holdsPattern", "(I)Z"⟩
abbrev cX4_happen : ByteArray := prog_6_method_8_code
def yX4_happen : MethodName := ⟨RX4, "happen", "()V"⟩
def RX5 : String := "BellTouches$SetupText"
def TX5 : u_T := fun k => match k with
  | 0 => ("BellTouches$SetupText", "length", "I", false)
  | 1 => ("BellTouches$SetupText", "signs", "[B", true)
  | 2 => ("BellTouches$SetupText", "place", "I", false)
  | 3 => ("BellTouches$SetupText", "kinds", "[I", true)
  | 4 => ("BellTouches$SetupText", "starts", "[I", true)
  | 5 => ("BellTouches$SetupText", "clauseCount", "I", false)
  | 6 => ("BellTouches$SetupText", "values", "[I", true)
  | _ => ("BellTouches$SetupText", "valueCount", "I", false)
def tyX5 : Nat → FieldType := fun k => match k with
  | 0 => .int
  | 1 => .array .byte
  | 2 => .int
  | 3 => .array .int
  | 4 => .array .int
  | 5 => .int
  | 6 => .array .int
  | _ => .int
abbrev wsX50 : List Cond := u_ws RX5 TX5 8
theorem nmX5 : ∀ a, a < 8 → ∀ b, b < 8 → a ≠ b → (TX5 a).2.1 ≠ (TX5 b).2.1 := by decide +kernel
theorem tyX5_ok : ∀ k, k < 8 → parseFieldDescriptor (TX5 k).2.2.1 = some (tyX5 k) := by decide +kernel
abbrev cX5_init : ByteArray := prog_7_method_1_code
def yX5_init : MethodName := ⟨RX5, "<init>", "()V"⟩
abbrev cX5_append : ByteArray := prog_7_method_2_code
def yX5_append : MethodName := ⟨RX5, "append", "(I)Z"⟩
abbrev cX5_parse : ByteArray := prog_7_method_3_code
def yX5_parse : MethodName := ⟨RX5, "parse", "()I"⟩
abbrev cX5_next : ByteArray := prog_7_method_4_code
def yX5_next : MethodName := ⟨RX5, "next", "()I"⟩
abbrev cX5_parseClause : ByteArray := prog_7_method_5_code
def yX5_parseClause : MethodName := ⟨RX5, "parseClause", "()Z"⟩
abbrev cX5_parseDigit : ByteArray := prog_7_method_6_code
def yX5_parseDigit : MethodName := ⟨RX5, "parseDigit", "()Z"⟩
abbrev cX5_parseWords : ByteArray := prog_7_method_7_code
def yX5_parseWords : MethodName := ⟨RX5, "parseWords", "()Z"⟩
abbrev cX5_parseWord : ByteArray := prog_7_method_8_code
def yX5_parseWord : MethodName := ⟨RX5, "parseWord", "()Z"⟩
abbrev cX5_parseCalls : ByteArray := prog_7_method_9_code
def yX5_parseCalls : MethodName := ⟨RX5, "parseCalls", "()Z"⟩
abbrev cX5_isPlaceSign : ByteArray := prog_7_method_10_code
def yX5_isPlaceSign : MethodName := ⟨RX5, "isPlaceSign", "(I)Z"⟩
abbrev cX5_callOf : ByteArray := prog_7_method_11_code
def yX5_callOf : MethodName := ⟨RX5, "callOf", "(I)I"⟩
abbrev cX5_keep : ByteArray := prog_7_method_12_code
def yX5_keep : MethodName := ⟨RX5, "keep", "(I)V"⟩
abbrev cX5_perform : ByteArray := prog_7_method_13_code
def yX5_perform : MethodName := ⟨RX5, "perform", "(LBellTouches$Setup;)I"⟩
abbrev cX5_performClause : ByteArray := prog_7_method_14_code
def yX5_performClause : MethodName := ⟨RX5, "performClause", "(LBellTouches$Setup;III)Z"⟩
abbrev cX5_beginBells : ByteArray := prog_7_method_15_code
def yX5_beginBells : MethodName := ⟨RX5, "beginBells", "(LBellTouches$Setup;I)Z"⟩
abbrev cX5_setMethod : ByteArray := prog_7_method_16_code
def yX5_setMethod : MethodName := ⟨RX5, "setMethod", "(LBellTouches$Setup;II)Z"⟩
abbrev cX5_setCall : ByteArray := prog_7_method_17_code
def yX5_setCall : MethodName := ⟨RX5, "setCall", "(LBellTouches$Setup;II)Z"⟩
abbrev cX5_setLeads : ByteArray := prog_7_method_18_code
def yX5_setLeads : MethodName := ⟨RX5, "setLeads", "(LBellTouches$Setup;II)Z"⟩
def RX6 : String := "BellTouches$Tape"
def TX6 : u_T := fun k => match k with
  | 0 => ("BellTouches$Tape", "sort", "I", false)
  | 1 => ("BellTouches$Tape", "length", "I", false)
  | _ => ("BellTouches$Tape", "items", "[J", true)
def tyX6 : Nat → FieldType := fun k => match k with
  | 0 => .int
  | 1 => .int
  | _ => .array .long
abbrev wsX60 : List Cond := u_ws RX6 TX6 3
theorem nmX6 : ∀ a, a < 3 → ∀ b, b < 3 → a ≠ b → (TX6 a).2.1 ≠ (TX6 b).2.1 := by decide +kernel
theorem tyX6_ok : ∀ k, k < 3 → parseFieldDescriptor (TX6 k).2.2.1 = some (tyX6 k) := by decide +kernel
abbrev cX6_init : ByteArray := prog_8_method_1_code
def yX6_init : MethodName := ⟨RX6, "<init>", "()V"⟩
abbrev cX6_begin : ByteArray := prog_8_method_2_code
def yX6_begin : MethodName := ⟨RX6, "begin", "(II)V"⟩
abbrev cX6_has : ByteArray := prog_8_method_3_code
def yX6_has : MethodName := ⟨RX6, "has", "(II)Z"⟩
abbrev cX6_narrowed : ByteArray := prog_8_method_4_code
def yX6_narrowed : MethodName := ⟨RX6, "narrowed", "(IJ)J"⟩
def RX7 : String := "BellTouches$Touch"
def TX7 : u_T := fun k => match k with
  | 0 => ("BellTouches$Touch", "rows", "[I", true)
  | 1 => ("BellTouches$Touch", "last", "I", false)
  | 2 => ("BellTouches$Touch", "changeCount", "I", false)
  | 3 => ("BellTouches$Touch", "pairs", "[I", true)
  | 4 => ("BellTouches$Touch", "lastPairs", "[I", true)
  | 5 => ("BellTouches$Touch", "firsts", "[I", true)
  | 6 => ("BellTouches$Touch", "table", "LBellTouches$RowTable;", true)
  | _ => ("BellTouches$Touch", "compared", "Z", false)
def tyX7 : Nat → FieldType := fun k => match k with
  | 0 => .array .int
  | 1 => .int
  | 2 => .int
  | 3 => .array .int
  | 4 => .array .int
  | 5 => .array .int
  | 6 => .object "BellTouches$RowTable"
  | _ => .boolean
abbrev wsX70 : List Cond := u_ws RX7 TX7 8
theorem nmX7 : ∀ a, a < 8 → ∀ b, b < 8 → a ≠ b → (TX7 a).2.1 ≠ (TX7 b).2.1 := by decide +kernel
theorem tyX7_ok : ∀ k, k < 8 → parseFieldDescriptor (TX7 k).2.2.1 = some (tyX7 k) := by decide +kernel
abbrev cX7_init : ByteArray := prog_9_method_1_code
def yX7_init : MethodName := ⟨RX7, "<init>", "()V"⟩
abbrev cX7_ring : ByteArray := prog_9_method_2_code
def yX7_ring : MethodName := ⟨RX7, "ring", "(LBellTouches$Setup;)V"⟩
abbrev cX7_begin : ByteArray := prog_9_method_3_code
def yX7_begin : MethodName := ⟨RX7, "begin", "(LBellTouches$Setup;)V"⟩
abbrev cX7_step : ByteArray := prog_9_method_4_code
def yX7_step : MethodName := ⟨RX7, "step", "(II)V"⟩
abbrev cX7_firstAs : ByteArray := prog_9_method_5_code
def yX7_firstAs : MethodName := ⟨RX7, "firstAs", "(I)I"⟩
abbrev cX7_roundRow : ByteArray := prog_9_method_6_code
def yX7_roundRow : MethodName := ⟨RX7, "roundRow", "()I"⟩
abbrev cX7_falseRow : ByteArray := prog_9_method_7_code
def yX7_falseRow : MethodName := ⟨RX7, "falseRow", "()I"⟩
abbrev cX7_isTrue : ByteArray := prog_9_method_8_code
def yX7_isTrue : MethodName := ⟨RX7, "isTrue", "()Z"⟩
abbrev cX7_course : ByteArray := prog_9_method_9_code
def yX7_course : MethodName := ⟨RX7, "course", "()I"⟩
abbrev cX7_compare : ByteArray := prog_9_method_10_code
def yX7_compare : MethodName := ⟨RX7, "compare", "()V"⟩
def RX8 : String := "BellTouches"
def TX8 : u_T := fun k => match k with
  | 0 => ("BellTouches", "setup", "LBellTouches$Setup;", true)
  | 1 => ("BellTouches", "kept", "LBellTouches$Setup;", true)
  | 2 => ("BellTouches", "trialSetup", "LBellTouches$Setup;", true)
  | 3 => ("BellTouches", "touch", "LBellTouches$Touch;", true)
  | 4 => ("BellTouches", "trial", "LBellTouches$Touch;", true)
  | 5 => ("BellTouches", "fewest", "LBellTouches$Fewest;", true)
  | 6 => ("BellTouches", "text", "LBellTouches$SetupText;", true)
  | 7 => ("BellTouches", "tapes", "[LBellTouches$Tape;", true)
  | 8 => ("BellTouches", "hasImage", "Z", false)
  | _ => ("BellTouches", "stale", "Z", false)
def tyX8 : Nat → FieldType := fun k => match k with
  | 0 => .object "BellTouches$Setup"
  | 1 => .object "BellTouches$Setup"
  | 2 => .object "BellTouches$Setup"
  | 3 => .object "BellTouches$Touch"
  | 4 => .object "BellTouches$Touch"
  | 5 => .object "BellTouches$Fewest"
  | 6 => .object "BellTouches$SetupText"
  | 7 => .array (.object "BellTouches$Tape")
  | 8 => .boolean
  | _ => .boolean
abbrev wsX80 : List Cond := u_ws RX8 TX8 10
theorem nmX8 : ∀ a, a < 10 → ∀ b, b < 10 → a ≠ b → (TX8 a).2.1 ≠ (TX8 b).2.1 := by decide +kernel
theorem tyX8_ok : ∀ k, k < 10 → parseFieldDescriptor (TX8 k).2.2.1 = some (tyX8 k) := by decide +kernel
abbrev cX8_init : ByteArray := prog_1_method_1_code
def yX8_init : MethodName := ⟨RX8, "<init>", "()V"⟩
abbrev cX8_bells : ByteArray := prog_1_method_2_code
def yX8_bells : MethodName := ⟨RX8, "bells", "(I)I"⟩
abbrev cX8_change : ByteArray := prog_1_method_3_code
def yX8_change : MethodName := ⟨RX8, "change", "(I)I"⟩
abbrev cX8_calls : ByteArray := prog_1_method_4_code
def yX8_calls : MethodName := ⟨RX8, "calls", "(II)I"⟩
abbrev cX8_call : ByteArray := prog_1_method_5_code
def yX8_call : MethodName := ⟨RX8, "call", "(II)I"⟩
abbrev cX8_leads : ByteArray := prog_1_method_6_code
def yX8_leads : MethodName := ⟨RX8, "leads", "(I)I"⟩
abbrev cX8_pattern : ByteArray := prog_1_method_7_code
def yX8_pattern : MethodName := ⟨RX8, "pattern", "(II)I"⟩
abbrev cX8_feed : ByteArray := prog_1_method_8_code
def yX8_feed : MethodName := ⟨RX8, "feed", "(I)I"⟩
abbrev cX8_read : ByteArray := prog_1_method_9_code
def yX8_read : MethodName := ⟨RX8, "read", "()I"⟩
abbrev cX8_of : ByteArray := prog_1_method_10_code
def yX8_of : MethodName := ⟨RX8, "of", "(II)I"⟩
abbrev cX8_told : ByteArray := prog_1_method_11_code
def yX8_told : MethodName := ⟨RX8, "told", "(I)I"⟩
abbrev cX8_at : ByteArray := prog_1_method_12_code
def yX8_at : MethodName := ⟨RX8, "at", "(II)I"⟩
abbrev cX8_where : ByteArray := prog_1_method_13_code
def yX8_where : MethodName := ⟨RX8, "where", "(II)I"⟩
abbrev cX8_same : ByteArray := prog_1_method_14_code
def yX8_same : MethodName := ⟨RX8, "same", "(I)I"⟩
abbrev cX8_good : ByteArray := prog_1_method_15_code
def yX8_good : MethodName := ⟨RX8, "good", "(I)I"⟩
abbrev cX8_music : ByteArray := prog_1_method_16_code
def yX8_music : MethodName := ⟨RX8, "music", "(I)I"⟩
abbrev cX8_least : ByteArray := prog_1_method_17_code
def yX8_least : MethodName := ⟨RX8, "least", "(II)I"⟩
abbrev cX8_still : ByteArray := prog_1_method_18_code
def yX8_still : MethodName := ⟨RX8, "still", "(I)I"⟩
abbrev cX8_ahead : ByteArray := prog_1_method_19_code
def yX8_ahead : MethodName := ⟨RX8, "ahead", "(II)I"⟩
abbrev cX8_see : ByteArray := prog_1_method_20_code
def yX8_see : MethodName := ⟨RX8, "see", "(III)I"⟩
abbrev cX8_fits : ByteArray := prog_1_method_21_code
def yX8_fits : MethodName := ⟨RX8, "fits", "(I)I"⟩
abbrev cX8_odds : ByteArray := prog_1_method_22_code
def yX8_odds : MethodName := ⟨RX8, "odds", "(III)J"⟩
abbrev cX8_mean : ByteArray := prog_1_method_23_code
def yX8_mean : MethodName := ⟨RX8, "mean", "(I)J"⟩
abbrev cX8_event : ByteArray := prog_1_method_24_code
def yX8_event : MethodName := ⟨RX8, "event", "(II)I"⟩
abbrev cX8_after : ByteArray := prog_1_method_25_code
def yX8_after : MethodName := ⟨RX8, "after", "(I)I"⟩
abbrev cX8_book : ByteArray := prog_1_method_26_code
def yX8_book : MethodName := ⟨RX8, "book", "(II)I"⟩
abbrev cX8_looked : ByteArray := prog_1_method_27_code
def yX8_looked : MethodName := ⟨RX8, "looked", "()I"⟩
abbrev cX8_judge : ByteArray := prog_1_method_28_code
def yX8_judge : MethodName := ⟨RX8, "judge", "(III)I"⟩
abbrev cX8_image : ByteArray := prog_1_method_29_code
def yX8_image : MethodName := ⟨RX8, "image", "()I"⟩
abbrev cX8_undo : ByteArray := prog_1_method_30_code
def yX8_undo : MethodName := ⟨RX8, "undo", "()I"⟩
abbrev cX8_count : ByteArray := prog_1_method_31_code
def yX8_count : MethodName := ⟨RX8, "count", "(I)I"⟩
abbrev cX8_tape : ByteArray := prog_1_method_32_code
def yX8_tape : MethodName := ⟨RX8, "tape", "(III)I"⟩
abbrev cX8_item : ByteArray := prog_1_method_33_code
def yX8_item : MethodName := ⟨RX8, "item", "(IIJ)I"⟩
abbrev cX8_peek : ByteArray := prog_1_method_34_code
def yX8_peek : MethodName := ⟨RX8, "peek", "(II)J"⟩
abbrev cX8_shift : ByteArray := prog_1_method_35_code
def yX8_shift : MethodName := ⟨RX8, "shift", "(IIIII)I"⟩
abbrev cX8_isPlaces : ByteArray := prog_1_method_36_code
def yX8_isPlaces : MethodName := ⟨RX8, "isPlaces", "(I)Z"⟩
abbrev cX8_isBell : ByteArray := prog_1_method_37_code
def yX8_isBell : MethodName := ⟨RX8, "isBell", "(I)Z"⟩
abbrev cX8_isRow : ByteArray := prog_1_method_38_code
def yX8_isRow : MethodName := ⟨RX8, "isRow", "(I)Z"⟩
abbrev cX8_isLead : ByteArray := prog_1_method_39_code
def yX8_isLead : MethodName := ⟨RX8, "isLead", "(I)Z"⟩
abbrev cX8_isTape : ByteArray := prog_1_method_40_code
def yX8_isTape : MethodName := ⟨RX8, "isTape", "(I)Z"⟩
abbrev cX8_isPart : ByteArray := prog_1_method_41_code
def yX8_isPart : MethodName := ⟨RX8, "isPart", "(I)Z"⟩
abbrev cX8_orNotFound : ByteArray := prog_1_method_42_code
def yX8_orNotFound : MethodName := ⟨RX8, "orNotFound", "(I)I"⟩
abbrev cX8_rung : ByteArray := prog_1_method_43_code
def yX8_rung : MethodName := ⟨RX8, "rung", "()LBellTouches$Touch;"⟩
abbrev cX8_countMusic : ByteArray := prog_1_method_44_code
def yX8_countMusic : MethodName := ⟨RX8, "countMusic", "(I)I"⟩
abbrev cX8_fitsLast : ByteArray := prog_1_method_45_code
def yX8_fitsLast : MethodName := ⟨RX8, "fitsLast", "(I)Z"⟩
abbrev cX8_lowestTerms : ByteArray := prog_1_method_46_code
def yX8_lowestTerms : MethodName := ⟨RX8, "lowestTerms", "(III)J"⟩
def RX9 : String := "BellTouchesModel"
def TX9 : u_T := fun k => match k with
  | 0 => ("BellTouchesModel", "now", "[I", true)
  | 1 => ("BellTouchesModel", "old", "[I", true)
  | 2 => ("BellTouchesModel", "imaged", "Z", false)
  | 3 => ("BellTouchesModel", "last", "I", false)
  | 4 => ("BellTouchesModel", "bell", "[I", true)
  | 5 => ("BellTouchesModel", "key", "[I", true)
  | 6 => ("BellTouchesModel", "texts", "I", false)
  | 7 => ("BellTouchesModel", "text", "[I", true)
  | 8 => ("BellTouchesModel", "at", "I", false)
  | 9 => ("BellTouchesModel", "fault", "I", false)
  | 10 => ("BellTouchesModel", "clauses", "I", false)
  | 11 => ("BellTouchesModel", "clause", "[I", true)
  | 12 => ("BellTouchesModel", "from", "[I", true)
  | 13 => ("BellTouchesModel", "many", "[I", true)
  | 14 => ("BellTouchesModel", "numbers", "I", false)
  | 15 => ("BellTouchesModel", "number", "[I", true)
  | 16 => ("BellTouchesModel", "sort", "[I", true)
  | 17 => ("BellTouchesModel", "long1", "[I", true)
  | 18 => ("BellTouchesModel", "items", "[J", true)
  | _ => ("BellTouchesModel", "moved", "[J", true)
def tyX9 : Nat → FieldType := fun k => match k with
  | 0 => .array .int
  | 1 => .array .int
  | 2 => .boolean
  | 3 => .int
  | 4 => .array .int
  | 5 => .array .int
  | 6 => .int
  | 7 => .array .int
  | 8 => .int
  | 9 => .int
  | 10 => .int
  | 11 => .array .int
  | 12 => .array .int
  | 13 => .array .int
  | 14 => .int
  | 15 => .array .int
  | 16 => .array .int
  | 17 => .array .int
  | 18 => .array .long
  | _ => .array .long
abbrev wsX90 : List Cond := u_ws RX9 TX9 20
theorem nmX9 : ∀ a, a < 20 → ∀ b, b < 20 → a ≠ b → (TX9 a).2.1 ≠ (TX9 b).2.1 := by decide +kernel
theorem tyX9_ok : ∀ k, k < 20 → parseFieldDescriptor (TX9 k).2.2.1 = some (tyX9 k) := by decide +kernel
abbrev cX9_init : ByteArray := prog_11_method_1_code
def yX9_init : MethodName := ⟨RX9, "<init>", "()V"⟩
abbrev cX9_within : ByteArray := prog_11_method_2_code
def yX9_within : MethodName := ⟨RX9, "within", "(III)Z"⟩
abbrev cX9_begins : ByteArray := prog_11_method_3_code
def yX9_begins : MethodName := ⟨RX9, "begins", "(I)V"⟩
abbrev cX9_becomes : ByteArray := prog_11_method_4_code
def yX9_becomes : MethodName := ⟨RX9, "becomes", "(II)I"⟩
abbrev cX9_bells : ByteArray := prog_11_method_5_code
def yX9_bells : MethodName := ⟨RX9, "bells", "(I)I"⟩
abbrev cX9_areKept : ByteArray := prog_11_method_6_code
def yX9_areKept : MethodName := ⟨RX9, "areKept", "(I)Z"⟩
abbrev cX9_isGood : ByteArray := prog_11_method_7_code
def yX9_isGood : MethodName := ⟨RX9, "isGood", "(I)Z"⟩
abbrev cX9_change : ByteArray := prog_11_method_8_code
def yX9_change : MethodName := ⟨RX9, "change", "(I)I"⟩
abbrev cX9_calls : ByteArray := prog_11_method_9_code
def yX9_calls : MethodName := ⟨RX9, "calls", "(II)I"⟩
abbrev cX9_call : ByteArray := prog_11_method_10_code
def yX9_call : MethodName := ⟨RX9, "call", "(II)I"⟩
abbrev cX9_leads : ByteArray := prog_11_method_11_code
def yX9_leads : MethodName := ⟨RX9, "leads", "(I)I"⟩
abbrev cX9_pattern : ByteArray := prog_11_method_12_code
def yX9_pattern : MethodName := ⟨RX9, "pattern", "(II)I"⟩
abbrev cX9_feed : ByteArray := prog_11_method_13_code
def yX9_feed : MethodName := ⟨RX9, "feed", "(I)I"⟩
abbrev cX9_sign : ByteArray := prog_11_method_14_code
def yX9_sign : MethodName := ⟨RX9, "sign", "()I"⟩
abbrev cX9_wrong : ByteArray := prog_11_method_15_code
def yX9_wrong : MethodName := ⟨RX9, "wrong", "()V"⟩
abbrev cX9_adds : ByteArray := prog_11_method_16_code
def yX9_adds : MethodName := ⟨RX9, "adds", "(I)V"⟩
abbrev cX9_digits : ByteArray := prog_11_method_17_code
def yX9_digits : MethodName := ⟨RX9, "digits", "()V"⟩
abbrev cX9_word : ByteArray := prog_11_method_18_code
def yX9_word : MethodName := ⟨RX9, "word", "()Z"⟩
abbrev cX9_words : ByteArray := prog_11_method_19_code
def yX9_words : MethodName := ⟨RX9, "words", "()V"⟩
abbrev cX9_callOf : ByteArray := prog_11_method_20_code
def yX9_callOf : MethodName := ⟨RX9, "callOf", "(I)I"⟩
abbrev cX9_reads : ByteArray := prog_11_method_21_code
def yX9_reads : MethodName := ⟨RX9, "reads", "()V"⟩
abbrev cX9_areGood : ByteArray := prog_11_method_22_code
def yX9_areGood : MethodName := ⟨RX9, "areGood", "(I)Z"⟩
abbrev cX9_does : ByteArray := prog_11_method_23_code
def yX9_does : MethodName := ⟨RX9, "does", "(I)Z"⟩
abbrev cX9_read : ByteArray := prog_11_method_24_code
def yX9_read : MethodName := ⟨RX9, "read", "()I"⟩
abbrev cX9_goes : ByteArray := prog_11_method_25_code
def yX9_goes : MethodName := ⟨RX9, "goes", "(II)V"⟩
abbrev cX9_keys : ByteArray := prog_11_method_26_code
def yX9_keys : MethodName := ⟨RX9, "keys", "(I)V"⟩
abbrev cX9_rings : ByteArray := prog_11_method_27_code
def yX9_rings : MethodName := ⟨RX9, "rings", "()V"⟩
abbrev cX9_round : ByteArray := prog_11_method_28_code
def yX9_round : MethodName := ⟨RX9, "round", "()I"⟩
abbrev cX9_first : ByteArray := prog_11_method_29_code
def yX9_first : MethodName := ⟨RX9, "first", "(I)I"⟩
abbrev cX9_wrongRow : ByteArray := prog_11_method_30_code
def yX9_wrongRow : MethodName := ⟨RX9, "wrongRow", "()I"⟩
abbrev cX9_isTrue : ByteArray := prog_11_method_31_code
def yX9_isTrue : MethodName := ⟨RX9, "isTrue", "()I"⟩
abbrev cX9_course : ByteArray := prog_11_method_32_code
def yX9_course : MethodName := ⟨RX9, "course", "()I"⟩
abbrev cX9_of : ByteArray := prog_11_method_33_code
def yX9_of : MethodName := ⟨RX9, "of", "(II)I"⟩
abbrev cX9_told : ByteArray := prog_11_method_34_code
def yX9_told : MethodName := ⟨RX9, "told", "(I)I"⟩
abbrev cX9_isPlace : ByteArray := prog_11_method_35_code
def yX9_isPlace : MethodName := ⟨RX9, "isPlace", "(I)Z"⟩
abbrev cX9_place : ByteArray := prog_11_method_36_code
def yX9_place : MethodName := ⟨RX9, "place", "(II)I"⟩
abbrev cX9_at : ByteArray := prog_11_method_37_code
def yX9_at : MethodName := ⟨RX9, "at", "(II)I"⟩
abbrev cX9_where : ByteArray := prog_11_method_38_code
def yX9_where : MethodName := ⟨RX9, "where", "(II)I"⟩
abbrev cX9_same : ByteArray := prog_11_method_39_code
def yX9_same : MethodName := ⟨RX9, "same", "(I)I"⟩
abbrev cX9_good : ByteArray := prog_11_method_40_code
def yX9_good : MethodName := ⟨RX9, "good", "(I)I"⟩
abbrev cX9_isMusic : ByteArray := prog_11_method_41_code
def yX9_isMusic : MethodName := ⟨RX9, "isMusic", "(II)Z"⟩
abbrev cX9_musicOf : ByteArray := prog_11_method_42_code
def yX9_musicOf : MethodName := ⟨RX9, "musicOf", "(I)I"⟩
abbrev cX9_music : ByteArray := prog_11_method_43_code
def yX9_music : MethodName := ⟨RX9, "music", "(I)I"⟩
abbrev cX9_least : ByteArray := prog_11_method_44_code
def yX9_least : MethodName := ⟨RX9, "least", "(II)I"⟩
abbrev cX9_still : ByteArray := prog_11_method_45_code
def yX9_still : MethodName := ⟨RX9, "still", "(I)I"⟩
abbrev cX9_ahead : ByteArray := prog_11_method_46_code
def yX9_ahead : MethodName := ⟨RX9, "ahead", "(II)I"⟩
abbrev cX9_see : ByteArray := prog_11_method_47_code
def yX9_see : MethodName := ⟨RX9, "see", "(III)I"⟩
abbrev cX9_isSeen : ByteArray := prog_11_method_48_code
def yX9_isSeen : MethodName := ⟨RX9, "isSeen", "()Z"⟩
abbrev cX9_fits : ByteArray := prog_11_method_49_code
def yX9_fits : MethodName := ⟨RX9, "fits", "(I)I"⟩
abbrev cX9_lowest : ByteArray := prog_11_method_50_code
def yX9_lowest : MethodName := ⟨RX9, "lowest", "(III)J"⟩
abbrev cX9_odds : ByteArray := prog_11_method_51_code
def yX9_odds : MethodName := ⟨RX9, "odds", "(III)J"⟩
abbrev cX9_mean : ByteArray := prog_11_method_52_code
def yX9_mean : MethodName := ⟨RX9, "mean", "(I)J"⟩
abbrev cX9_event : ByteArray := prog_11_method_53_code
def yX9_event : MethodName := ⟨RX9, "event", "(II)I"⟩
abbrev cX9_after : ByteArray := prog_11_method_54_code
def yX9_after : MethodName := ⟨RX9, "after", "(I)I"⟩
abbrev cX9_book : ByteArray := prog_11_method_55_code
def yX9_book : MethodName := ⟨RX9, "book", "(II)I"⟩
abbrev cX9_looked : ByteArray := prog_11_method_56_code
def yX9_looked : MethodName := ⟨RX9, "looked", "()I"⟩
abbrev cX9_isTape : ByteArray := prog_11_method_57_code
def yX9_isTape : MethodName := ⟨RX9, "isTape", "(I)Z"⟩
abbrev cX9_judge : ByteArray := prog_11_method_58_code
def yX9_judge : MethodName := ⟨RX9, "judge", "(III)I"⟩
abbrev cX9_image : ByteArray := prog_11_method_59_code
def yX9_image : MethodName := ⟨RX9, "image", "()I"⟩
abbrev cX9_undo : ByteArray := prog_11_method_60_code
def yX9_undo : MethodName := ⟨RX9, "undo", "()I"⟩
abbrev cX9_count : ByteArray := prog_11_method_61_code
def yX9_count : MethodName := ⟨RX9, "count", "(I)I"⟩
abbrev cX9_tape : ByteArray := prog_11_method_62_code
def yX9_tape : MethodName := ⟨RX9, "tape", "(III)I"⟩
abbrev cX9_item : ByteArray := prog_11_method_63_code
def yX9_item : MethodName := ⟨RX9, "item", "(IIJ)I"⟩
abbrev cX9_peek : ByteArray := prog_11_method_64_code
def yX9_peek : MethodName := ⟨RX9, "peek", "(II)J"⟩
abbrev cX9_shift : ByteArray := prog_11_method_65_code
def yX9_shift : MethodName := ⟨RX9, "shift", "(IIIII)I"⟩
def RJ9 : String := "java/lang/Math"
def TJ9 : u_T := fun k => match k with
  | _ => ("", "", "", false)
def tyJ9 : Nat → FieldType := fun k => match k with
  | _ => .int
abbrev wsJ90 : List Cond := u_ws RJ9 TJ9 0
theorem nmJ9 : ∀ a, a < 0 → ∀ b, b < 0 → a ≠ b → (TJ9 a).2.1 ≠ (TJ9 b).2.1 := by decide +kernel
theorem tyJ9_ok : ∀ k, k < 0 → parseFieldDescriptor (TJ9 k).2.2.1 = some (tyJ9 k) := by decide +kernel
abbrev cJ9_max_7cf53 : ByteArray := prog_12_method_65_code
def yJ9_max_7cf53 : MethodName := ⟨RJ9, "max", "(II)I"⟩
def RJ10 : String := "java/lang/System"
def TJ10 : u_T := fun k => match k with
  | _ => ("", "", "", false)
def tyJ10 : Nat → FieldType := fun k => match k with
  | _ => .int
abbrev wsJ100 : List Cond := u_ws RJ10 TJ10 0
theorem nmJ10 : ∀ a, a < 0 → ∀ b, b < 0 → a ≠ b → (TJ10 a).2.1 ≠ (TJ10 b).2.1 := by decide +kernel
theorem tyJ10_ok : ∀ k, k < 0 → parseFieldDescriptor (TJ10 k).2.2.1 = some (tyJ10 k) := by decide +kernel
def RL : String := "BellTouchesLaw"
abbrev cL_law : ByteArray := code
def yL_law : MethodName := ⟨RL, "law", "([I)Z"⟩
def wsX3_init : List Cond := .code yX3_init cX3_init 1 none :: ([.methodLink RX3 3 objectInit, .instanceMethod objectInit, .code objectInit ⟨#[0xb1]⟩ 1 none, .arrayClass .int, .fieldLink RX3 9 "BellTouches$RowTable" "numbers" "[I"] ++ wsX30)
def wsX7_init : List Cond := .code yX7_init cX7_init 1 none :: ([.methodLink RX7 3 objectInit, .instanceMethod objectInit, .code objectInit ⟨#[0xb1]⟩ 1 none, .arrayClass .int, .fieldLink RX7 9 "BellTouches$Touch" "rows" "[I", .fieldLink RX7 15 "BellTouches$Touch" "last" "I", .fieldLink RX7 19 "BellTouches$Touch" "changeCount" "I", .fieldLink RX7 22 "BellTouches$Touch" "pairs" "[I", .fieldLink RX7 25 "BellTouches$Touch" "lastPairs" "[I", .fieldLink RX7 28 "BellTouches$Touch" "firsts" "[I", .classLink RX7 31 RX3, .instantiable RX3 1, .initialized RX3, .fieldLink RX7 34 "BellTouches$Touch" "table" "LBellTouches$RowTable;", .fieldLink RX7 38 "BellTouches$Touch" "compared" "Z", .instanceMethod yX3_init, .code yX3_init cX3_init 1 none, .methodLink RX3 3 objectInit, .fieldLink RX3 9 "BellTouches$RowTable" "numbers" "[I"] ++ wsX70 ++ wsX30)
def wsX0_init_r1 : List Cond := [Cond.methodLink RX0 3 objectInit, Cond.instanceMethod objectInit, Cond.code objectInit ⟨#[0xb1]⟩ 1 none, Cond.fieldLink RX0 9 "BellTouches$Fewest" "number" "I", Cond.fieldLink RX0 15 "BellTouches$Fewest" "notPlain" "I", Cond.classLink RX0 18 RX7, Cond.instantiable RX7 8, Cond.initialized RX7, Cond.fieldLink RX0 21 "BellTouches$Fewest" "touch" "LBellTouches$Touch;", Cond.classLink RX0 25 RX3, Cond.instantiable RX3 1, Cond.initialized RX3, Cond.fieldLink RX0 28 "BellTouches$Fewest" "table" "LBellTouches$RowTable;", Cond.arrayClass .boolean, Cond.fieldLink RX0 32 "BellTouches$Fewest" "thereIs" "[Z", Cond.fieldLink RX0 36 "BellTouches$Fewest" "leadCount" "I", Cond.fieldLink RX0 39 "BellTouches$Fewest" "bound" "I", Cond.instanceMethod yX7_init, Cond.code yX7_init cX7_init 1 none, Cond.methodLink RX7 3 objectInit, Cond.arrayClass .int, Cond.fieldLink RX7 9 "BellTouches$Touch" "rows" "[I", Cond.fieldLink RX7 15 "BellTouches$Touch" "last" "I", Cond.fieldLink RX7 19 "BellTouches$Touch" "changeCount" "I"]
def wsX0_init_r2 : List Cond := [Cond.fieldLink RX7 22 "BellTouches$Touch" "pairs" "[I", Cond.fieldLink RX7 25 "BellTouches$Touch" "lastPairs" "[I", Cond.fieldLink RX7 28 "BellTouches$Touch" "firsts" "[I", Cond.classLink RX7 31 RX3, Cond.fieldLink RX7 34 "BellTouches$Touch" "table" "LBellTouches$RowTable;", Cond.fieldLink RX7 38 "BellTouches$Touch" "compared" "Z", Cond.instanceMethod yX3_init, Cond.code yX3_init cX3_init 1 none, Cond.methodLink RX3 3 objectInit, Cond.fieldLink RX3 9 "BellTouches$RowTable" "numbers" "[I"]
def wsX0_init : List Cond := .code yX0_init cX0_init 1 none :: ((wsX0_init_r1 ++ wsX0_init_r2) ++ wsX00 ++ wsX70 ++ wsX30)
def wsX2_isKept : List Cond := .code yX2_isKept cX2_isKept 2 (some .boolean) :: ([])
def wsX2_pairs : List Cond := .code yX2_pairs cX2_pairs 4 (some .int) :: ([.methodLink RX2 21 yX2_isKept, .static yX2_isKept, .initialized RX2, .code yX2_isKept cX2_isKept 2 (some .boolean)])
def wsX4_calledChange : List Cond := .code yX4_calledChange cX4_calledChange 2 (some .int) :: ([.fieldLink RX4 22 "BellTouches$Setup" "bob" "I", .fieldLink RX4 25 "BellTouches$Setup" "single" "I"] ++ wsX40)
def wsX2_rounds : List Cond := .code yX2_rounds cX2_rounds 3 (some .int) :: ([])
def wsX7_begin_r1 : List Cond := [Cond.fieldLink RX7 58 "BellTouches$Setup" "changeCount" "I", Cond.fieldLink RX7 19 "BellTouches$Touch" "changeCount" "I", Cond.fieldLink RX7 22 "BellTouches$Touch" "pairs" "[I", Cond.fieldLink RX7 59 "BellTouches$Setup" "n" "I", Cond.fieldLink RX7 62 "BellTouches$Setup" "changes" "[I", Cond.fieldLink RX7 25 "BellTouches$Touch" "lastPairs" "[I", Cond.fieldLink RX7 9 "BellTouches$Touch" "rows" "[I", Cond.fieldLink RX7 15 "BellTouches$Touch" "last" "I", Cond.fieldLink RX7 38 "BellTouches$Touch" "compared" "Z", Cond.methodLink RX7 65 yX2_pairs, Cond.static yX2_pairs, Cond.initialized RX2, Cond.code yX2_pairs cX2_pairs 4 (some .int), Cond.methodLink RX2 21 yX2_isKept, Cond.static yX2_isKept, Cond.code yX2_isKept cX2_isKept 2 (some .boolean), Cond.methodLink RX7 70 yX4_calledChange, Cond.instanceMethod yX4_calledChange, Cond.selects RX4 yX4_calledChange yX4_calledChange, Cond.initialized RX4, Cond.code yX4_calledChange cX4_calledChange 2 (some .int), Cond.fieldLink RX4 22 "BellTouches$Setup" "bob" "I", Cond.fieldLink RX4 25 "BellTouches$Setup" "single" "I", Cond.methodLink RX7 74 yX2_rounds]
def wsX7_begin_r2 : List Cond := [Cond.static yX2_rounds, Cond.code yX2_rounds cX2_rounds 3 (some .int)]
def wsX7_begin : List Cond := .code yX7_begin cX7_begin 4 none :: ((wsX7_begin_r1 ++ wsX7_begin_r2) ++ wsX40 ++ wsX70)
def wsX3_start : List Cond := .code yX3_start cX3_start 1 (some .int) :: ([.constant RX3 17 (-1640531535)])
def wsX3_enter : List Cond := .code yX3_enter cX3_enter 7 (some .int) :: ([.fieldLink RX3 9 "BellTouches$RowTable" "numbers" "[I", .methodLink RX3 13 yX3_start, .static yX3_start, .initialized RX3, .code yX3_start cX3_start 1 (some .int), .constant RX3 17 (-1640531535)] ++ wsX30)
def wsX2_swapped : List Cond := .code yX2_swapped cX2_swapped 3 (some .int) :: ([])
def wsX7_step : List Cond := .code yX7_step cX7_step 4 none :: ([.fieldLink RX7 15 "BellTouches$Touch" "last" "I", .fieldLink RX7 19 "BellTouches$Touch" "changeCount" "I", .fieldLink RX7 25 "BellTouches$Touch" "lastPairs" "[I", .fieldLink RX7 22 "BellTouches$Touch" "pairs" "[I", .fieldLink RX7 9 "BellTouches$Touch" "rows" "[I", .methodLink RX7 77 yX2_swapped, .static yX2_swapped, .initialized RX2, .code yX2_swapped cX2_swapped 3 (some .int)] ++ wsX70)
def wsX0_ringTillAgain_r1 : List Cond := [Cond.fieldLink RX0 21 "BellTouches$Fewest" "touch" "LBellTouches$Touch;", Cond.fieldLink RX0 54 "BellTouches$Touch" "changeCount" "I", Cond.fieldLink RX0 28 "BellTouches$Fewest" "table" "LBellTouches$RowTable;", Cond.fieldLink RX0 57 "BellTouches$Touch" "rows" "[I", Cond.fieldLink RX0 73 "BellTouches$Touch" "last" "I", Cond.methodLink RX0 88 yX7_step, Cond.instanceMethod yX7_step, Cond.selects RX7 yX7_step yX7_step, Cond.initialized RX7, Cond.code yX7_step cX7_step 4 none, Cond.fieldLink RX7 15 "BellTouches$Touch" "last" "I", Cond.fieldLink RX7 19 "BellTouches$Touch" "changeCount" "I", Cond.fieldLink RX7 25 "BellTouches$Touch" "lastPairs" "[I", Cond.fieldLink RX7 22 "BellTouches$Touch" "pairs" "[I", Cond.fieldLink RX7 9 "BellTouches$Touch" "rows" "[I", Cond.methodLink RX7 77 yX2_swapped, Cond.static yX2_swapped, Cond.initialized RX2, Cond.code yX2_swapped cX2_swapped 3 (some .int), Cond.methodLink RX0 61 yX3_enter, Cond.instanceMethod yX3_enter, Cond.selects RX3 yX3_enter yX3_enter, Cond.initialized RX3, Cond.code yX3_enter cX3_enter 7 (some .int)]
def wsX0_ringTillAgain_r2 : List Cond := [Cond.fieldLink RX3 9 "BellTouches$RowTable" "numbers" "[I", Cond.methodLink RX3 13 yX3_start, Cond.static yX3_start, Cond.code yX3_start cX3_start 1 (some .int), Cond.constant RX3 17 (-1640531535)]
def wsX0_ringTillAgain : List Cond := .code yX0_ringTillAgain cX0_ringTillAgain 3 (some .int) :: ((wsX0_ringTillAgain_r1 ++ wsX0_ringTillAgain_r2) ++ wsX00 ++ wsX70 ++ wsX30)
def wsX0_isEnd : List Cond := .code yX0_isEnd cX0_isEnd 2 (some .boolean) :: ([.fieldLink RX0 36 "BellTouches$Fewest" "leadCount" "I", .fieldLink RX0 21 "BellTouches$Fewest" "touch" "LBellTouches$Touch;", .fieldLink RX0 54 "BellTouches$Touch" "changeCount" "I", .fieldLink RX0 57 "BellTouches$Touch" "rows" "[I"] ++ wsX00 ++ wsX70)
def wsX3_leave : List Cond := .code yX3_leave cX3_leave 6 none :: ([.fieldLink RX3 9 "BellTouches$RowTable" "numbers" "[I", .methodLink RX3 13 yX3_start, .static yX3_start, .initialized RX3, .code yX3_start cX3_start 1 (some .int), .constant RX3 17 (-1640531535)] ++ wsX30)
def wsX0_backTo : List Cond := .code yX0_backTo cX0_backTo 3 none :: ([.fieldLink RX0 21 "BellTouches$Fewest" "touch" "LBellTouches$Touch;", .fieldLink RX0 73 "BellTouches$Touch" "last" "I", .fieldLink RX0 28 "BellTouches$Fewest" "table" "LBellTouches$RowTable;", .fieldLink RX0 57 "BellTouches$Touch" "rows" "[I", .methodLink RX0 69 yX3_leave, .instanceMethod yX3_leave, .selects RX3 yX3_leave yX3_leave, .initialized RX3, .code yX3_leave cX3_leave 6 none, .fieldLink RX3 9 "BellTouches$RowTable" "numbers" "[I", .methodLink RX3 13 yX3_start, .static yX3_start, .code yX3_start cX3_start 1 (some .int), .constant RX3 17 (-1640531535)] ++ wsX00 ++ wsX70 ++ wsX30)
def wsX0_search_r1 : List Cond := [Cond.fieldLink RX0 36 "BellTouches$Fewest" "leadCount" "I", Cond.fieldLink RX0 32 "BellTouches$Fewest" "thereIs" "[Z", Cond.fieldLink RX0 39 "BellTouches$Fewest" "bound" "I", Cond.fieldLink RX0 21 "BellTouches$Fewest" "touch" "LBellTouches$Touch;", Cond.fieldLink RX0 73 "BellTouches$Touch" "last" "I", Cond.fieldLink RX0 9 "BellTouches$Fewest" "number" "I", Cond.fieldLink RX0 15 "BellTouches$Fewest" "notPlain" "I", Cond.methodLink RX0 76 yX0_ringTillAgain, Cond.instanceMethod yX0_ringTillAgain, Cond.selects RX0 yX0_ringTillAgain yX0_ringTillAgain, Cond.initialized RX0, Cond.code yX0_ringTillAgain cX0_ringTillAgain 3 (some .int), Cond.fieldLink RX0 54 "BellTouches$Touch" "changeCount" "I", Cond.fieldLink RX0 28 "BellTouches$Fewest" "table" "LBellTouches$RowTable;", Cond.fieldLink RX0 57 "BellTouches$Touch" "rows" "[I", Cond.methodLink RX0 88 yX7_step, Cond.instanceMethod yX7_step, Cond.selects RX7 yX7_step yX7_step, Cond.initialized RX7, Cond.code yX7_step cX7_step 4 none, Cond.fieldLink RX7 15 "BellTouches$Touch" "last" "I", Cond.fieldLink RX7 19 "BellTouches$Touch" "changeCount" "I", Cond.fieldLink RX7 25 "BellTouches$Touch" "lastPairs" "[I", Cond.fieldLink RX7 22 "BellTouches$Touch" "pairs" "[I"]
def wsX0_search_r2 : List Cond := [Cond.fieldLink RX7 9 "BellTouches$Touch" "rows" "[I", Cond.methodLink RX7 77 yX2_swapped, Cond.static yX2_swapped, Cond.initialized RX2, Cond.code yX2_swapped cX2_swapped 3 (some .int), Cond.methodLink RX0 61 yX3_enter, Cond.instanceMethod yX3_enter, Cond.selects RX3 yX3_enter yX3_enter, Cond.initialized RX3, Cond.code yX3_enter cX3_enter 7 (some .int), Cond.fieldLink RX3 9 "BellTouches$RowTable" "numbers" "[I", Cond.methodLink RX3 13 yX3_start, Cond.static yX3_start, Cond.code yX3_start cX3_start 1 (some .int), Cond.constant RX3 17 (-1640531535), Cond.methodLink RX0 65 yX0_search, Cond.static yX0_search, Cond.methodLink RX0 80 yX0_isEnd, Cond.instanceMethod yX0_isEnd, Cond.selects RX0 yX0_isEnd yX0_isEnd, Cond.code yX0_isEnd cX0_isEnd 2 (some .boolean), Cond.methodLink RX0 84 yX0_backTo, Cond.instanceMethod yX0_backTo, Cond.selects RX0 yX0_backTo yX0_backTo]
def wsX0_search_r3 : List Cond := [Cond.code yX0_backTo cX0_backTo 3 none, Cond.methodLink RX0 69 yX3_leave, Cond.instanceMethod yX3_leave, Cond.selects RX3 yX3_leave yX3_leave, Cond.code yX3_leave cX3_leave 6 none]
def wsX0_search : List Cond := .code yX0_search cX0_search 8 none :: ((wsX0_search_r1 ++ (wsX0_search_r2 ++ wsX0_search_r3)) ++ wsX00 ++ wsX70 ++ wsX30)
def wsX0_find_r1 : List Cond := [Cond.fieldLink RX0 9 "BellTouches$Fewest" "number" "I", Cond.fieldLink RX0 15 "BellTouches$Fewest" "notPlain" "I", Cond.fieldLink RX0 36 "BellTouches$Fewest" "leadCount" "I", Cond.fieldLink RX0 39 "BellTouches$Fewest" "bound" "I", Cond.fieldLink RX0 32 "BellTouches$Fewest" "thereIs" "[Z", Cond.fieldLink RX0 42 "BellTouches$Setup" "bob" "I", Cond.fieldLink RX0 47 "BellTouches$Setup" "single" "I", Cond.fieldLink RX0 21 "BellTouches$Fewest" "touch" "LBellTouches$Touch;", Cond.fieldLink RX0 54 "BellTouches$Touch" "changeCount" "I", Cond.fieldLink RX0 28 "BellTouches$Fewest" "table" "LBellTouches$RowTable;", Cond.fieldLink RX0 57 "BellTouches$Touch" "rows" "[I", Cond.methodLink RX0 50 yX7_begin, Cond.instanceMethod yX7_begin, Cond.selects RX7 yX7_begin yX7_begin, Cond.initialized RX7, Cond.code yX7_begin cX7_begin 4 none, Cond.fieldLink RX7 58 "BellTouches$Setup" "changeCount" "I", Cond.fieldLink RX7 19 "BellTouches$Touch" "changeCount" "I", Cond.fieldLink RX7 22 "BellTouches$Touch" "pairs" "[I", Cond.fieldLink RX7 59 "BellTouches$Setup" "n" "I", Cond.fieldLink RX7 62 "BellTouches$Setup" "changes" "[I", Cond.fieldLink RX7 25 "BellTouches$Touch" "lastPairs" "[I", Cond.fieldLink RX7 9 "BellTouches$Touch" "rows" "[I", Cond.fieldLink RX7 15 "BellTouches$Touch" "last" "I"]
def wsX0_find_r2 : List Cond := [Cond.fieldLink RX7 38 "BellTouches$Touch" "compared" "Z", Cond.methodLink RX7 65 yX2_pairs, Cond.static yX2_pairs, Cond.initialized RX2, Cond.code yX2_pairs cX2_pairs 4 (some .int), Cond.methodLink RX2 21 yX2_isKept, Cond.static yX2_isKept, Cond.code yX2_isKept cX2_isKept 2 (some .boolean), Cond.methodLink RX7 70 yX4_calledChange, Cond.instanceMethod yX4_calledChange, Cond.selects RX4 yX4_calledChange yX4_calledChange, Cond.initialized RX4, Cond.code yX4_calledChange cX4_calledChange 2 (some .int), Cond.fieldLink RX4 22 "BellTouches$Setup" "bob" "I", Cond.fieldLink RX4 25 "BellTouches$Setup" "single" "I", Cond.methodLink RX7 74 yX2_rounds, Cond.static yX2_rounds, Cond.code yX2_rounds cX2_rounds 3 (some .int), Cond.methodLink RX0 61 yX3_enter, Cond.instanceMethod yX3_enter, Cond.selects RX3 yX3_enter yX3_enter, Cond.initialized RX3, Cond.code yX3_enter cX3_enter 7 (some .int), Cond.fieldLink RX3 9 "BellTouches$RowTable" "numbers" "[I"]
def wsX0_find_r3 : List Cond := [Cond.methodLink RX3 13 yX3_start, Cond.static yX3_start, Cond.code yX3_start cX3_start 1 (some .int), Cond.constant RX3 17 (-1640531535), Cond.methodLink RX0 65 yX0_search, Cond.static yX0_search, Cond.initialized RX0, Cond.code yX0_search cX0_search 8 none, Cond.fieldLink RX0 73 "BellTouches$Touch" "last" "I", Cond.methodLink RX0 76 yX0_ringTillAgain, Cond.instanceMethod yX0_ringTillAgain, Cond.selects RX0 yX0_ringTillAgain yX0_ringTillAgain, Cond.code yX0_ringTillAgain cX0_ringTillAgain 3 (some .int), Cond.methodLink RX0 88 yX7_step, Cond.instanceMethod yX7_step, Cond.selects RX7 yX7_step yX7_step, Cond.code yX7_step cX7_step 4 none, Cond.methodLink RX7 77 yX2_swapped, Cond.static yX2_swapped, Cond.code yX2_swapped cX2_swapped 3 (some .int), Cond.methodLink RX0 80 yX0_isEnd, Cond.instanceMethod yX0_isEnd, Cond.selects RX0 yX0_isEnd yX0_isEnd, Cond.code yX0_isEnd cX0_isEnd 2 (some .boolean)]
def wsX0_find_r4 : List Cond := [Cond.methodLink RX0 84 yX0_backTo, Cond.instanceMethod yX0_backTo, Cond.selects RX0 yX0_backTo yX0_backTo, Cond.code yX0_backTo cX0_backTo 3 none, Cond.methodLink RX0 69 yX3_leave, Cond.instanceMethod yX3_leave, Cond.selects RX3 yX3_leave yX3_leave, Cond.code yX3_leave cX3_leave 6 none]
def wsX0_find : List Cond := .code yX0_find cX0_find 3 none :: ((wsX0_find_r1 ++ (wsX0_find_r2 ++ (wsX0_find_r3 ++ wsX0_find_r4))) ++ wsX00 ++ wsX40 ++ wsX70 ++ wsX30)
def wsX1_init : List Cond := .code yX1_init cX1_init 3 none :: ([.methodLink RX1 1 objectInit, .instanceMethod objectInit, .code objectInit ⟨#[0xb1]⟩ 1 none, .fieldLink RX1 7 "BellTouches$HandRows" "size" "I", .arrayClass .int, .fieldLink RX1 13 "BellTouches$HandRows" "first" "[I", .fieldLink RX1 17 "BellTouches$HandRows" "second" "[I", .fieldLink RX1 20 "BellTouches$HandRows" "third" "[I"] ++ wsX10)
def wsX1_append : List Cond := .code yX1_append cX1_append 4 (some .boolean) :: ([.fieldLink RX1 7 "BellTouches$HandRows" "size" "I", .fieldLink RX1 13 "BellTouches$HandRows" "first" "[I", .fieldLink RX1 17 "BellTouches$HandRows" "second" "[I", .fieldLink RX1 20 "BellTouches$HandRows" "third" "[I"] ++ wsX10)
def wsX1_copyFrom : List Cond := .code yX1_copyFrom cX1_copyFrom 3 none :: ([.fieldLink RX1 7 "BellTouches$HandRows" "size" "I", .fieldLink RX1 13 "BellTouches$HandRows" "first" "[I", .fieldLink RX1 17 "BellTouches$HandRows" "second" "[I", .fieldLink RX1 20 "BellTouches$HandRows" "third" "[I", .methodLink RX1 23 yX1_append, .instanceMethod yX1_append, .selects RX1 yX1_append yX1_append, .initialized RX1, .code yX1_append cX1_append 4 (some .boolean)] ++ wsX10)
def wsX2_bellIn : List Cond := .code yX2_bellIn cX2_bellIn 2 (some .int) :: ([])
def wsX2_placeOf : List Cond := .code yX2_placeOf cX2_placeOf 3 (some .int) :: ([.methodLink RX2 9 yX2_bellIn, .static yX2_bellIn, .initialized RX2, .code yX2_bellIn cX2_bellIn 2 (some .int)])
def wsX2_isRightAhead : List Cond := .code yX2_isRightAhead cX2_isRightAhead 3 (some .boolean) :: ([.methodLink RX2 15 yX2_placeOf, .static yX2_placeOf, .initialized RX2, .code yX2_placeOf cX2_placeOf 3 (some .int), .methodLink RX2 9 yX2_bellIn, .static yX2_bellIn, .code yX2_bellIn cX2_bellIn 2 (some .int)])
def wsX2_isGood : List Cond := .code yX2_isGood cX2_isGood 2 (some .boolean) :: ([.methodLink RX2 18 yX2_pairs, .static yX2_pairs, .initialized RX2, .code yX2_pairs cX2_pairs 4 (some .int), .methodLink RX2 21 yX2_isKept, .static yX2_isKept, .code yX2_isKept cX2_isKept 2 (some .boolean)])
def wsX4_init_r1 : List Cond := [Cond.methodLink RX4 3 objectInit, Cond.instanceMethod objectInit, Cond.code objectInit ⟨#[0xb1]⟩ 1 none, Cond.fieldLink RX4 9 "BellTouches$Setup" "n" "I", Cond.arrayClass .int, Cond.fieldLink RX4 15 "BellTouches$Setup" "changes" "[I", Cond.fieldLink RX4 19 "BellTouches$Setup" "changeCount" "I", Cond.fieldLink RX4 22 "BellTouches$Setup" "bob" "I", Cond.fieldLink RX4 25 "BellTouches$Setup" "single" "I", Cond.fieldLink RX4 28 "BellTouches$Setup" "leadCalls" "[I", Cond.fieldLink RX4 31 "BellTouches$Setup" "leadCount" "I", Cond.fieldLink RX4 34 "BellTouches$Setup" "patternBells" "[I", Cond.classLink RX4 37 RX1, Cond.instantiable RX1 4, Cond.initialized RX1, Cond.fieldLink RX4 42 "BellTouches$Setup" "seen" "LBellTouches$HandRows;", Cond.fieldLink RX4 46 "BellTouches$Setup" "events" "LBellTouches$HandRows;", Cond.fieldLink RX4 49 "BellTouches$Setup" "book" "LBellTouches$HandRows;", Cond.methodLink RX4 39 yX1_init, Cond.instanceMethod yX1_init, Cond.code yX1_init cX1_init 3 none, Cond.methodLink RX1 1 objectInit, Cond.fieldLink RX1 7 "BellTouches$HandRows" "size" "I", Cond.fieldLink RX1 13 "BellTouches$HandRows" "first" "[I"]
def wsX4_init_r2 : List Cond := [Cond.fieldLink RX1 17 "BellTouches$HandRows" "second" "[I", Cond.fieldLink RX1 20 "BellTouches$HandRows" "third" "[I"]
def wsX4_init : List Cond := .code yX4_init cX4_init 1 none :: ((wsX4_init_r1 ++ wsX4_init_r2) ++ wsX40 ++ wsX10)
def wsX4_begin : List Cond := .code yX4_begin cX4_begin 3 none :: ([.fieldLink RX4 9 "BellTouches$Setup" "n" "I", .fieldLink RX4 19 "BellTouches$Setup" "changeCount" "I", .fieldLink RX4 22 "BellTouches$Setup" "bob" "I", .fieldLink RX4 25 "BellTouches$Setup" "single" "I", .fieldLink RX4 31 "BellTouches$Setup" "leadCount" "I", .fieldLink RX4 28 "BellTouches$Setup" "leadCalls" "[I", .fieldLink RX4 34 "BellTouches$Setup" "patternBells" "[I", .fieldLink RX4 42 "BellTouches$Setup" "seen" "LBellTouches$HandRows;", .fieldLink RX4 52 "BellTouches$HandRows" "size" "I", .fieldLink RX4 46 "BellTouches$Setup" "events" "LBellTouches$HandRows;", .fieldLink RX4 49 "BellTouches$Setup" "book" "LBellTouches$HandRows;"] ++ wsX40 ++ wsX10)
def wsX4_copyFrom_r1 : List Cond := [Cond.fieldLink RX4 9 "BellTouches$Setup" "n" "I", Cond.fieldLink RX4 19 "BellTouches$Setup" "changeCount" "I", Cond.fieldLink RX4 22 "BellTouches$Setup" "bob" "I", Cond.fieldLink RX4 25 "BellTouches$Setup" "single" "I", Cond.fieldLink RX4 31 "BellTouches$Setup" "leadCount" "I", Cond.fieldLink RX4 15 "BellTouches$Setup" "changes" "[I", Cond.methodLink RX4 55 arraycopyName, Cond.native arraycopyName, Cond.static arraycopyName, Cond.initialized "java/lang/System", Cond.fieldLink RX4 28 "BellTouches$Setup" "leadCalls" "[I", Cond.fieldLink RX4 34 "BellTouches$Setup" "patternBells" "[I", Cond.fieldLink RX4 42 "BellTouches$Setup" "seen" "LBellTouches$HandRows;", Cond.fieldLink RX4 46 "BellTouches$Setup" "events" "LBellTouches$HandRows;", Cond.fieldLink RX4 49 "BellTouches$Setup" "book" "LBellTouches$HandRows;", Cond.methodLink RX4 61 yX1_copyFrom, Cond.instanceMethod yX1_copyFrom, Cond.selects RX1 yX1_copyFrom yX1_copyFrom, Cond.initialized RX1, Cond.code yX1_copyFrom cX1_copyFrom 3 none, Cond.fieldLink RX1 7 "BellTouches$HandRows" "size" "I", Cond.fieldLink RX1 13 "BellTouches$HandRows" "first" "[I", Cond.fieldLink RX1 17 "BellTouches$HandRows" "second" "[I", Cond.fieldLink RX1 20 "BellTouches$HandRows" "third" "[I"]
def wsX4_copyFrom_r2 : List Cond := [Cond.methodLink RX1 23 yX1_append, Cond.instanceMethod yX1_append, Cond.selects RX1 yX1_append yX1_append, Cond.code yX1_append cX1_append 4 (some .boolean)]
def wsX4_copyFrom : List Cond := .code yX4_copyFrom cX4_copyFrom 2 none :: ((wsX4_copyFrom_r1 ++ wsX4_copyFrom_r2) ++ wsX40 ++ wsX10)
def wsX4_setCalledChange : List Cond := .code yX4_setCalledChange cX4_setCalledChange 3 none :: ([.fieldLink RX4 22 "BellTouches$Setup" "bob" "I", .fieldLink RX4 25 "BellTouches$Setup" "single" "I"] ++ wsX40)
def wsX4_holdsPattern : List Cond := .code yX4_holdsPattern cX4_holdsPattern 4 (some .boolean) :: ([.fieldLink RX4 9 "BellTouches$Setup" "n" "I", .fieldLink RX4 34 "BellTouches$Setup" "patternBells" "[I", .methodLink RX4 80 yX2_bellIn, .static yX2_bellIn, .initialized RX2, .code yX2_bellIn cX2_bellIn 2 (some .int)] ++ wsX40)
def wsX4_isMusic : List Cond := .code yX4_isMusic cX4_isMusic 4 (some .boolean) :: ([.fieldLink RX4 9 "BellTouches$Setup" "n" "I", .constant RX4 71 (65535), .methodLink RX4 65 yX2_rounds, .static yX2_rounds, .initialized RX2, .code yX2_rounds cX2_rounds 3 (some .int), .methodLink RX4 72 yX4_holdsPattern, .instanceMethod yX4_holdsPattern, .selects RX4 yX4_holdsPattern yX4_holdsPattern, .initialized RX4, .code yX4_holdsPattern cX4_holdsPattern 4 (some .boolean), .fieldLink RX4 34 "BellTouches$Setup" "patternBells" "[I", .methodLink RX4 80 yX2_bellIn, .static yX2_bellIn, .code yX2_bellIn cX2_bellIn 2 (some .int), .methodLink RX4 76 yX2_isRightAhead, .static yX2_isRightAhead, .code yX2_isRightAhead cX2_isRightAhead 3 (some .boolean), .methodLink RX2 15 yX2_placeOf, .static yX2_placeOf, .code yX2_placeOf cX2_placeOf 3 (some .int), .methodLink RX2 9 yX2_bellIn] ++ wsX40)
def wsX4_happen : List Cond := .code yX4_happen cX4_happen 3 none :: ([.fieldLink RX4 46 "BellTouches$Setup" "events" "LBellTouches$HandRows;", .fieldLink RX4 52 "BellTouches$HandRows" "size" "I", .fieldLink RX4 84 "BellTouches$HandRows" "second" "[I", .fieldLink RX4 87 "BellTouches$HandRows" "first" "[I", .fieldLink RX4 28 "BellTouches$Setup" "leadCalls" "[I", .fieldLink RX4 19 "BellTouches$Setup" "changeCount" "I", .methodLink RX4 90 Lib.Math.max.name, .static Lib.Math.max.name, .initialized "java/lang/Math", .code Lib.Math.max.name Lib.Math.max.code 2 (some .int), .fieldLink RX4 31 "BellTouches$Setup" "leadCount" "I"] ++ wsX40 ++ wsX10)
def wsX5_init : List Cond := .code yX5_init cX5_init 1 none :: ([.methodLink RX5 3 objectInit, .instanceMethod objectInit, .code objectInit ⟨#[0xb1]⟩ 1 none, .fieldLink RX5 9 "BellTouches$SetupText" "length" "I", .arrayClass .byte, .fieldLink RX5 15 "BellTouches$SetupText" "signs" "[B", .fieldLink RX5 19 "BellTouches$SetupText" "place" "I", .arrayClass .int, .fieldLink RX5 22 "BellTouches$SetupText" "kinds" "[I", .fieldLink RX5 26 "BellTouches$SetupText" "starts" "[I", .fieldLink RX5 29 "BellTouches$SetupText" "clauseCount" "I", .fieldLink RX5 32 "BellTouches$SetupText" "values" "[I", .fieldLink RX5 35 "BellTouches$SetupText" "valueCount" "I"] ++ wsX50)
def wsX5_append : List Cond := .code yX5_append cX5_append 2 (some .boolean) :: ([.fieldLink RX5 9 "BellTouches$SetupText" "length" "I", .fieldLink RX5 15 "BellTouches$SetupText" "signs" "[B"] ++ wsX50)
def wsX5_next : List Cond := .code yX5_next cX5_next 1 (some .int) :: ([.fieldLink RX5 19 "BellTouches$SetupText" "place" "I", .fieldLink RX5 9 "BellTouches$SetupText" "length" "I", .fieldLink RX5 15 "BellTouches$SetupText" "signs" "[B"] ++ wsX50)
def wsX5_keep : List Cond := .code yX5_keep cX5_keep 2 none :: ([.fieldLink RX5 35 "BellTouches$SetupText" "valueCount" "I", .fieldLink RX5 32 "BellTouches$SetupText" "values" "[I"] ++ wsX50)
def wsX5_parseDigit : List Cond := .code yX5_parseDigit cX5_parseDigit 2 (some .boolean) :: ([.fieldLink RX5 19 "BellTouches$SetupText" "place" "I", .methodLink RX5 38 yX5_next, .instanceMethod yX5_next, .selects RX5 yX5_next yX5_next, .initialized RX5, .code yX5_next cX5_next 1 (some .int), .fieldLink RX5 9 "BellTouches$SetupText" "length" "I", .fieldLink RX5 15 "BellTouches$SetupText" "signs" "[B", .methodLink RX5 58 yX5_keep, .instanceMethod yX5_keep, .selects RX5 yX5_keep yX5_keep, .code yX5_keep cX5_keep 2 none, .fieldLink RX5 35 "BellTouches$SetupText" "valueCount" "I", .fieldLink RX5 32 "BellTouches$SetupText" "values" "[I"] ++ wsX50)
def wsX5_isPlaceSign : List Cond := .code yX5_isPlaceSign cX5_isPlaceSign 1 (some .boolean) :: ([])
def wsX5_parseWord : List Cond := .code yX5_parseWord cX5_parseWord 3 (some .boolean) :: ([.fieldLink RX5 19 "BellTouches$SetupText" "place" "I", .methodLink RX5 38 yX5_next, .instanceMethod yX5_next, .selects RX5 yX5_next yX5_next, .initialized RX5, .code yX5_next cX5_next 1 (some .int), .fieldLink RX5 9 "BellTouches$SetupText" "length" "I", .fieldLink RX5 15 "BellTouches$SetupText" "signs" "[B", .methodLink RX5 58 yX5_keep, .instanceMethod yX5_keep, .selects RX5 yX5_keep yX5_keep, .code yX5_keep cX5_keep 2 none, .fieldLink RX5 35 "BellTouches$SetupText" "valueCount" "I", .fieldLink RX5 32 "BellTouches$SetupText" "values" "[I", .methodLink RX5 62 yX5_isPlaceSign, .static yX5_isPlaceSign, .code yX5_isPlaceSign cX5_isPlaceSign 1 (some .boolean)] ++ wsX50)
def wsX5_parseWords : List Cond := .code yX5_parseWords cX5_parseWords 3 (some .boolean) :: ([.fieldLink RX5 15 "BellTouches$SetupText" "signs" "[B", .fieldLink RX5 19 "BellTouches$SetupText" "place" "I", .methodLink RX5 52 yX5_parseWord, .instanceMethod yX5_parseWord, .selects RX5 yX5_parseWord yX5_parseWord, .initialized RX5, .code yX5_parseWord cX5_parseWord 3 (some .boolean), .methodLink RX5 38 yX5_next, .instanceMethod yX5_next, .selects RX5 yX5_next yX5_next, .code yX5_next cX5_next 1 (some .int), .fieldLink RX5 9 "BellTouches$SetupText" "length" "I", .methodLink RX5 58 yX5_keep, .instanceMethod yX5_keep, .selects RX5 yX5_keep yX5_keep, .code yX5_keep cX5_keep 2 none, .fieldLink RX5 35 "BellTouches$SetupText" "valueCount" "I", .fieldLink RX5 32 "BellTouches$SetupText" "values" "[I", .methodLink RX5 62 yX5_isPlaceSign, .static yX5_isPlaceSign, .code yX5_isPlaceSign cX5_isPlaceSign 1 (some .boolean)] ++ wsX50)
def wsX5_callOf : List Cond := .code yX5_callOf cX5_callOf 1 (some .int) :: ([])
def wsX5_parseCalls : List Cond := .code yX5_parseCalls cX5_parseCalls 2 (some .boolean) :: ([.fieldLink RX5 19 "BellTouches$SetupText" "place" "I", .methodLink RX5 38 yX5_next, .instanceMethod yX5_next, .selects RX5 yX5_next yX5_next, .initialized RX5, .code yX5_next cX5_next 1 (some .int), .fieldLink RX5 9 "BellTouches$SetupText" "length" "I", .fieldLink RX5 15 "BellTouches$SetupText" "signs" "[B", .methodLink RX5 66 yX5_callOf, .static yX5_callOf, .code yX5_callOf cX5_callOf 1 (some .int), .methodLink RX5 58 yX5_keep, .instanceMethod yX5_keep, .selects RX5 yX5_keep yX5_keep, .code yX5_keep cX5_keep 2 none, .fieldLink RX5 35 "BellTouches$SetupText" "valueCount" "I", .fieldLink RX5 32 "BellTouches$SetupText" "values" "[I"] ++ wsX50)
def wsX5_parseClause_r1 : List Cond := [Cond.fieldLink RX5 19 "BellTouches$SetupText" "place" "I", Cond.methodLink RX5 38 yX5_next, Cond.instanceMethod yX5_next, Cond.selects RX5 yX5_next yX5_next, Cond.initialized RX5, Cond.code yX5_next cX5_next 1 (some .int), Cond.fieldLink RX5 9 "BellTouches$SetupText" "length" "I", Cond.fieldLink RX5 15 "BellTouches$SetupText" "signs" "[B", Cond.methodLink RX5 46 yX5_parseDigit, Cond.instanceMethod yX5_parseDigit, Cond.selects RX5 yX5_parseDigit yX5_parseDigit, Cond.code yX5_parseDigit cX5_parseDigit 2 (some .boolean), Cond.methodLink RX5 58 yX5_keep, Cond.instanceMethod yX5_keep, Cond.selects RX5 yX5_keep yX5_keep, Cond.code yX5_keep cX5_keep 2 none, Cond.fieldLink RX5 35 "BellTouches$SetupText" "valueCount" "I", Cond.fieldLink RX5 32 "BellTouches$SetupText" "values" "[I", Cond.methodLink RX5 49 yX5_parseWords, Cond.instanceMethod yX5_parseWords, Cond.selects RX5 yX5_parseWords yX5_parseWords, Cond.code yX5_parseWords cX5_parseWords 3 (some .boolean), Cond.methodLink RX5 52 yX5_parseWord, Cond.instanceMethod yX5_parseWord]
def wsX5_parseClause_r2 : List Cond := [Cond.selects RX5 yX5_parseWord yX5_parseWord, Cond.code yX5_parseWord cX5_parseWord 3 (some .boolean), Cond.methodLink RX5 62 yX5_isPlaceSign, Cond.static yX5_isPlaceSign, Cond.code yX5_isPlaceSign cX5_isPlaceSign 1 (some .boolean), Cond.methodLink RX5 55 yX5_parseCalls, Cond.instanceMethod yX5_parseCalls, Cond.selects RX5 yX5_parseCalls yX5_parseCalls, Cond.code yX5_parseCalls cX5_parseCalls 2 (some .boolean), Cond.methodLink RX5 66 yX5_callOf, Cond.static yX5_callOf, Cond.code yX5_callOf cX5_callOf 1 (some .int)]
def wsX5_parseClause : List Cond := .code yX5_parseClause cX5_parseClause 2 (some .boolean) :: ((wsX5_parseClause_r1 ++ wsX5_parseClause_r2) ++ wsX50)
def wsX5_parse_r1 : List Cond := [Cond.fieldLink RX5 19 "BellTouches$SetupText" "place" "I", Cond.fieldLink RX5 29 "BellTouches$SetupText" "clauseCount" "I", Cond.fieldLink RX5 35 "BellTouches$SetupText" "valueCount" "I", Cond.fieldLink RX5 26 "BellTouches$SetupText" "starts" "[I", Cond.fieldLink RX5 22 "BellTouches$SetupText" "kinds" "[I", Cond.methodLink RX5 38 yX5_next, Cond.instanceMethod yX5_next, Cond.selects RX5 yX5_next yX5_next, Cond.initialized RX5, Cond.code yX5_next cX5_next 1 (some .int), Cond.fieldLink RX5 9 "BellTouches$SetupText" "length" "I", Cond.fieldLink RX5 15 "BellTouches$SetupText" "signs" "[B", Cond.methodLink RX5 42 yX5_parseClause, Cond.instanceMethod yX5_parseClause, Cond.selects RX5 yX5_parseClause yX5_parseClause, Cond.code yX5_parseClause cX5_parseClause 2 (some .boolean), Cond.methodLink RX5 46 yX5_parseDigit, Cond.instanceMethod yX5_parseDigit, Cond.selects RX5 yX5_parseDigit yX5_parseDigit, Cond.code yX5_parseDigit cX5_parseDigit 2 (some .boolean), Cond.methodLink RX5 58 yX5_keep, Cond.instanceMethod yX5_keep, Cond.selects RX5 yX5_keep yX5_keep, Cond.code yX5_keep cX5_keep 2 none]
def wsX5_parse_r2 : List Cond := [Cond.fieldLink RX5 32 "BellTouches$SetupText" "values" "[I", Cond.methodLink RX5 49 yX5_parseWords, Cond.instanceMethod yX5_parseWords, Cond.selects RX5 yX5_parseWords yX5_parseWords, Cond.code yX5_parseWords cX5_parseWords 3 (some .boolean), Cond.methodLink RX5 52 yX5_parseWord, Cond.instanceMethod yX5_parseWord, Cond.selects RX5 yX5_parseWord yX5_parseWord, Cond.code yX5_parseWord cX5_parseWord 3 (some .boolean), Cond.methodLink RX5 62 yX5_isPlaceSign, Cond.static yX5_isPlaceSign, Cond.code yX5_isPlaceSign cX5_isPlaceSign 1 (some .boolean), Cond.methodLink RX5 55 yX5_parseCalls, Cond.instanceMethod yX5_parseCalls, Cond.selects RX5 yX5_parseCalls yX5_parseCalls, Cond.code yX5_parseCalls cX5_parseCalls 2 (some .boolean), Cond.methodLink RX5 66 yX5_callOf, Cond.static yX5_callOf, Cond.code yX5_callOf cX5_callOf 1 (some .int)]
def wsX5_parse : List Cond := .code yX5_parse cX5_parse 2 (some .int) :: ((wsX5_parse_r1 ++ wsX5_parse_r2) ++ wsX50)
def wsX5_beginBells : List Cond := .code yX5_beginBells cX5_beginBells 2 (some .boolean) :: ([.methodLink RX5 88 yX4_begin, .instanceMethod yX4_begin, .selects RX4 yX4_begin yX4_begin, .initialized RX4, .code yX4_begin cX4_begin 3 none, .fieldLink RX4 9 "BellTouches$Setup" "n" "I", .fieldLink RX4 19 "BellTouches$Setup" "changeCount" "I", .fieldLink RX4 22 "BellTouches$Setup" "bob" "I", .fieldLink RX4 25 "BellTouches$Setup" "single" "I", .fieldLink RX4 31 "BellTouches$Setup" "leadCount" "I", .fieldLink RX4 28 "BellTouches$Setup" "leadCalls" "[I", .fieldLink RX4 34 "BellTouches$Setup" "patternBells" "[I", .fieldLink RX4 42 "BellTouches$Setup" "seen" "LBellTouches$HandRows;", .fieldLink RX4 52 "BellTouches$HandRows" "size" "I", .fieldLink RX4 46 "BellTouches$Setup" "events" "LBellTouches$HandRows;", .fieldLink RX4 49 "BellTouches$Setup" "book" "LBellTouches$HandRows;"] ++ wsX40 ++ wsX10)
def wsX5_setMethod : List Cond := .code yX5_setMethod cX5_setMethod 5 (some .boolean) :: ([.fieldLink RX5 93 "BellTouches$Setup" "n" "I", .fieldLink RX5 32 "BellTouches$SetupText" "values" "[I", .fieldLink RX5 102 "BellTouches$Setup" "changeCount" "I", .fieldLink RX5 105 "BellTouches$Setup" "changes" "[I", .methodLink RX5 96 yX2_isGood, .static yX2_isGood, .initialized RX2, .code yX2_isGood cX2_isGood 2 (some .boolean), .methodLink RX2 18 yX2_pairs, .static yX2_pairs, .code yX2_pairs cX2_pairs 4 (some .int), .methodLink RX2 21 yX2_isKept, .static yX2_isKept, .code yX2_isKept cX2_isKept 2 (some .boolean)] ++ wsX40 ++ wsX50)
def wsX5_setCall : List Cond := .code yX5_setCall cX5_setCall 3 (some .boolean) :: ([.fieldLink RX5 93 "BellTouches$Setup" "n" "I", .methodLink RX5 96 yX2_isGood, .static yX2_isGood, .initialized RX2, .code yX2_isGood cX2_isGood 2 (some .boolean), .methodLink RX2 18 yX2_pairs, .static yX2_pairs, .code yX2_pairs cX2_pairs 4 (some .int), .methodLink RX2 21 yX2_isKept, .static yX2_isKept, .code yX2_isKept cX2_isKept 2 (some .boolean), .methodLink RX5 108 yX4_setCalledChange, .instanceMethod yX4_setCalledChange, .selects RX4 yX4_setCalledChange yX4_setCalledChange, .initialized RX4, .code yX4_setCalledChange cX4_setCalledChange 3 none, .fieldLink RX4 22 "BellTouches$Setup" "bob" "I", .fieldLink RX4 25 "BellTouches$Setup" "single" "I"] ++ wsX40)
def wsX5_setLeads : List Cond := .code yX5_setLeads cX5_setLeads 5 (some .boolean) :: ([.fieldLink RX5 112 "BellTouches$Setup" "leadCount" "I", .fieldLink RX5 115 "BellTouches$Setup" "leadCalls" "[I", .fieldLink RX5 32 "BellTouches$SetupText" "values" "[I"] ++ wsX40 ++ wsX50)
def wsX5_performClause_r1 : List Cond := [Cond.fieldLink RX5 32 "BellTouches$SetupText" "values" "[I", Cond.methodLink RX5 74 yX5_beginBells, Cond.static yX5_beginBells, Cond.initialized RX5, Cond.code yX5_beginBells cX5_beginBells 2 (some .boolean), Cond.methodLink RX5 88 yX4_begin, Cond.instanceMethod yX4_begin, Cond.selects RX4 yX4_begin yX4_begin, Cond.initialized RX4, Cond.code yX4_begin cX4_begin 3 none, Cond.fieldLink RX4 9 "BellTouches$Setup" "n" "I", Cond.fieldLink RX4 19 "BellTouches$Setup" "changeCount" "I", Cond.fieldLink RX4 22 "BellTouches$Setup" "bob" "I", Cond.fieldLink RX4 25 "BellTouches$Setup" "single" "I", Cond.fieldLink RX4 31 "BellTouches$Setup" "leadCount" "I", Cond.fieldLink RX4 28 "BellTouches$Setup" "leadCalls" "[I", Cond.fieldLink RX4 34 "BellTouches$Setup" "patternBells" "[I", Cond.fieldLink RX4 42 "BellTouches$Setup" "seen" "LBellTouches$HandRows;", Cond.fieldLink RX4 52 "BellTouches$HandRows" "size" "I", Cond.fieldLink RX4 46 "BellTouches$Setup" "events" "LBellTouches$HandRows;", Cond.fieldLink RX4 49 "BellTouches$Setup" "book" "LBellTouches$HandRows;", Cond.methodLink RX5 78 yX5_setMethod, Cond.instanceMethod yX5_setMethod, Cond.selects RX5 yX5_setMethod yX5_setMethod]
def wsX5_performClause_r2 : List Cond := [Cond.code yX5_setMethod cX5_setMethod 5 (some .boolean), Cond.fieldLink RX5 93 "BellTouches$Setup" "n" "I", Cond.fieldLink RX5 102 "BellTouches$Setup" "changeCount" "I", Cond.fieldLink RX5 105 "BellTouches$Setup" "changes" "[I", Cond.methodLink RX5 96 yX2_isGood, Cond.static yX2_isGood, Cond.initialized RX2, Cond.code yX2_isGood cX2_isGood 2 (some .boolean), Cond.methodLink RX2 18 yX2_pairs, Cond.static yX2_pairs, Cond.code yX2_pairs cX2_pairs 4 (some .int), Cond.methodLink RX2 21 yX2_isKept, Cond.static yX2_isKept, Cond.code yX2_isKept cX2_isKept 2 (some .boolean), Cond.methodLink RX5 82 yX5_setCall, Cond.static yX5_setCall, Cond.code yX5_setCall cX5_setCall 3 (some .boolean), Cond.methodLink RX5 108 yX4_setCalledChange, Cond.instanceMethod yX4_setCalledChange, Cond.selects RX4 yX4_setCalledChange yX4_setCalledChange, Cond.code yX4_setCalledChange cX4_setCalledChange 3 none, Cond.methodLink RX5 85 yX5_setLeads, Cond.instanceMethod yX5_setLeads, Cond.selects RX5 yX5_setLeads yX5_setLeads]
def wsX5_performClause_r3 : List Cond := [Cond.code yX5_setLeads cX5_setLeads 5 (some .boolean), Cond.fieldLink RX5 112 "BellTouches$Setup" "leadCount" "I", Cond.fieldLink RX5 115 "BellTouches$Setup" "leadCalls" "[I"]
def wsX5_performClause : List Cond := .code yX5_performClause cX5_performClause 5 (some .boolean) :: ((wsX5_performClause_r1 ++ (wsX5_performClause_r2 ++ wsX5_performClause_r3)) ++ wsX50 ++ wsX40 ++ wsX10)
def wsX5_perform_r1 : List Cond := [Cond.fieldLink RX5 29 "BellTouches$SetupText" "clauseCount" "I", Cond.fieldLink RX5 22 "BellTouches$SetupText" "kinds" "[I", Cond.fieldLink RX5 26 "BellTouches$SetupText" "starts" "[I", Cond.methodLink RX5 70 yX5_performClause, Cond.instanceMethod yX5_performClause, Cond.selects RX5 yX5_performClause yX5_performClause, Cond.initialized RX5, Cond.code yX5_performClause cX5_performClause 5 (some .boolean), Cond.fieldLink RX5 32 "BellTouches$SetupText" "values" "[I", Cond.methodLink RX5 74 yX5_beginBells, Cond.static yX5_beginBells, Cond.code yX5_beginBells cX5_beginBells 2 (some .boolean), Cond.methodLink RX5 88 yX4_begin, Cond.instanceMethod yX4_begin, Cond.selects RX4 yX4_begin yX4_begin, Cond.initialized RX4, Cond.code yX4_begin cX4_begin 3 none, Cond.fieldLink RX4 9 "BellTouches$Setup" "n" "I", Cond.fieldLink RX4 19 "BellTouches$Setup" "changeCount" "I", Cond.fieldLink RX4 22 "BellTouches$Setup" "bob" "I", Cond.fieldLink RX4 25 "BellTouches$Setup" "single" "I", Cond.fieldLink RX4 31 "BellTouches$Setup" "leadCount" "I", Cond.fieldLink RX4 28 "BellTouches$Setup" "leadCalls" "[I", Cond.fieldLink RX4 34 "BellTouches$Setup" "patternBells" "[I"]
def wsX5_perform_r2 : List Cond := [Cond.fieldLink RX4 42 "BellTouches$Setup" "seen" "LBellTouches$HandRows;", Cond.fieldLink RX4 52 "BellTouches$HandRows" "size" "I", Cond.fieldLink RX4 46 "BellTouches$Setup" "events" "LBellTouches$HandRows;", Cond.fieldLink RX4 49 "BellTouches$Setup" "book" "LBellTouches$HandRows;", Cond.methodLink RX5 78 yX5_setMethod, Cond.instanceMethod yX5_setMethod, Cond.selects RX5 yX5_setMethod yX5_setMethod, Cond.code yX5_setMethod cX5_setMethod 5 (some .boolean), Cond.fieldLink RX5 93 "BellTouches$Setup" "n" "I", Cond.fieldLink RX5 102 "BellTouches$Setup" "changeCount" "I", Cond.fieldLink RX5 105 "BellTouches$Setup" "changes" "[I", Cond.methodLink RX5 96 yX2_isGood, Cond.static yX2_isGood, Cond.initialized RX2, Cond.code yX2_isGood cX2_isGood 2 (some .boolean), Cond.methodLink RX2 18 yX2_pairs, Cond.static yX2_pairs, Cond.code yX2_pairs cX2_pairs 4 (some .int), Cond.methodLink RX2 21 yX2_isKept, Cond.static yX2_isKept, Cond.code yX2_isKept cX2_isKept 2 (some .boolean), Cond.methodLink RX5 82 yX5_setCall, Cond.static yX5_setCall, Cond.code yX5_setCall cX5_setCall 3 (some .boolean)]
def wsX5_perform_r3 : List Cond := [Cond.methodLink RX5 108 yX4_setCalledChange, Cond.instanceMethod yX4_setCalledChange, Cond.selects RX4 yX4_setCalledChange yX4_setCalledChange, Cond.code yX4_setCalledChange cX4_setCalledChange 3 none, Cond.methodLink RX5 85 yX5_setLeads, Cond.instanceMethod yX5_setLeads, Cond.selects RX5 yX5_setLeads yX5_setLeads, Cond.code yX5_setLeads cX5_setLeads 5 (some .boolean), Cond.fieldLink RX5 112 "BellTouches$Setup" "leadCount" "I", Cond.fieldLink RX5 115 "BellTouches$Setup" "leadCalls" "[I"]
def wsX5_perform : List Cond := .code yX5_perform cX5_perform 4 (some .int) :: ((wsX5_perform_r1 ++ (wsX5_perform_r2 ++ wsX5_perform_r3)) ++ wsX50 ++ wsX40 ++ wsX10)
def wsX6_init : List Cond := .code yX6_init cX6_init 1 none :: ([.methodLink RX6 3 objectInit, .instanceMethod objectInit, .code objectInit ⟨#[0xb1]⟩ 1 none, .fieldLink RX6 9 "BellTouches$Tape" "sort" "I", .fieldLink RX6 15 "BellTouches$Tape" "length" "I", .arrayClass .long, .fieldLink RX6 18 "BellTouches$Tape" "items" "[J"] ++ wsX60)
def wsX6_begin : List Cond := .code yX6_begin cX6_begin 4 none :: ([.fieldLink RX6 9 "BellTouches$Tape" "sort" "I", .fieldLink RX6 15 "BellTouches$Tape" "length" "I", .fieldLink RX6 18 "BellTouches$Tape" "items" "[J"] ++ wsX60)
def wsX6_has : List Cond := .code yX6_has cX6_has 3 (some .boolean) :: ([.fieldLink RX6 15 "BellTouches$Tape" "length" "I"] ++ wsX60)
def wsX6_narrowed : List Cond := .code yX6_narrowed cX6_narrowed 3 (some .long) :: ([])
def wsX7_ring_r1 : List Cond := [Cond.fieldLink RX7 46 "BellTouches$Setup" "leadCount" "I", Cond.fieldLink RX7 19 "BellTouches$Touch" "changeCount" "I", Cond.fieldLink RX7 51 "BellTouches$Setup" "leadCalls" "[I", Cond.methodLink RX7 42 yX7_begin, Cond.instanceMethod yX7_begin, Cond.selects RX7 yX7_begin yX7_begin, Cond.initialized RX7, Cond.code yX7_begin cX7_begin 4 none, Cond.fieldLink RX7 58 "BellTouches$Setup" "changeCount" "I", Cond.fieldLink RX7 22 "BellTouches$Touch" "pairs" "[I", Cond.fieldLink RX7 59 "BellTouches$Setup" "n" "I", Cond.fieldLink RX7 62 "BellTouches$Setup" "changes" "[I", Cond.fieldLink RX7 25 "BellTouches$Touch" "lastPairs" "[I", Cond.fieldLink RX7 9 "BellTouches$Touch" "rows" "[I", Cond.fieldLink RX7 15 "BellTouches$Touch" "last" "I", Cond.fieldLink RX7 38 "BellTouches$Touch" "compared" "Z", Cond.methodLink RX7 65 yX2_pairs, Cond.static yX2_pairs, Cond.initialized RX2, Cond.code yX2_pairs cX2_pairs 4 (some .int), Cond.methodLink RX2 21 yX2_isKept, Cond.static yX2_isKept, Cond.code yX2_isKept cX2_isKept 2 (some .boolean), Cond.methodLink RX7 70 yX4_calledChange]
def wsX7_ring_r2 : List Cond := [Cond.instanceMethod yX4_calledChange, Cond.selects RX4 yX4_calledChange yX4_calledChange, Cond.initialized RX4, Cond.code yX4_calledChange cX4_calledChange 2 (some .int), Cond.fieldLink RX4 22 "BellTouches$Setup" "bob" "I", Cond.fieldLink RX4 25 "BellTouches$Setup" "single" "I", Cond.methodLink RX7 74 yX2_rounds, Cond.static yX2_rounds, Cond.code yX2_rounds cX2_rounds 3 (some .int), Cond.methodLink RX7 54 yX7_step, Cond.instanceMethod yX7_step, Cond.selects RX7 yX7_step yX7_step, Cond.code yX7_step cX7_step 4 none, Cond.methodLink RX7 77 yX2_swapped, Cond.static yX2_swapped, Cond.code yX2_swapped cX2_swapped 3 (some .int)]
def wsX7_ring : List Cond := .code yX7_ring cX7_ring 4 none :: ((wsX7_ring_r1 ++ wsX7_ring_r2) ++ wsX40 ++ wsX70)
def wsX7_compare : List Cond := .code yX7_compare cX7_compare 2 none :: ([.fieldLink RX7 38 "BellTouches$Touch" "compared" "Z", .fieldLink RX7 15 "BellTouches$Touch" "last" "I", .fieldLink RX7 28 "BellTouches$Touch" "firsts" "[I", .fieldLink RX7 34 "BellTouches$Touch" "table" "LBellTouches$RowTable;", .fieldLink RX7 9 "BellTouches$Touch" "rows" "[I", .methodLink RX7 87 yX3_enter, .instanceMethod yX3_enter, .selects RX3 yX3_enter yX3_enter, .initialized RX3, .code yX3_enter cX3_enter 7 (some .int), .fieldLink RX3 9 "BellTouches$RowTable" "numbers" "[I", .methodLink RX3 13 yX3_start, .static yX3_start, .code yX3_start cX3_start 1 (some .int), .constant RX3 17 (-1640531535), .methodLink RX7 91 yX3_leave, .instanceMethod yX3_leave, .selects RX3 yX3_leave yX3_leave, .code yX3_leave cX3_leave 6 none] ++ wsX70 ++ wsX30)
def wsX7_firstAs : List Cond := .code yX7_firstAs cX7_firstAs 2 (some .int) :: ([.fieldLink RX7 28 "BellTouches$Touch" "firsts" "[I", .methodLink RX7 80 yX7_compare, .instanceMethod yX7_compare, .selects RX7 yX7_compare yX7_compare, .initialized RX7, .code yX7_compare cX7_compare 2 none, .fieldLink RX7 38 "BellTouches$Touch" "compared" "Z", .fieldLink RX7 15 "BellTouches$Touch" "last" "I", .fieldLink RX7 34 "BellTouches$Touch" "table" "LBellTouches$RowTable;", .fieldLink RX7 9 "BellTouches$Touch" "rows" "[I", .methodLink RX7 87 yX3_enter, .instanceMethod yX3_enter, .selects RX3 yX3_enter yX3_enter, .initialized RX3, .code yX3_enter cX3_enter 7 (some .int), .fieldLink RX3 9 "BellTouches$RowTable" "numbers" "[I", .methodLink RX3 13 yX3_start, .static yX3_start, .code yX3_start cX3_start 1 (some .int), .constant RX3 17 (-1640531535), .methodLink RX7 91 yX3_leave, .instanceMethod yX3_leave, .selects RX3 yX3_leave yX3_leave, .code yX3_leave cX3_leave 6 none] ++ wsX70 ++ wsX30)
def wsX7_roundRow : List Cond := .code yX7_roundRow cX7_roundRow 2 (some .int) :: ([.fieldLink RX7 15 "BellTouches$Touch" "last" "I", .fieldLink RX7 28 "BellTouches$Touch" "firsts" "[I", .methodLink RX7 80 yX7_compare, .instanceMethod yX7_compare, .selects RX7 yX7_compare yX7_compare, .initialized RX7, .code yX7_compare cX7_compare 2 none, .fieldLink RX7 38 "BellTouches$Touch" "compared" "Z", .fieldLink RX7 34 "BellTouches$Touch" "table" "LBellTouches$RowTable;", .fieldLink RX7 9 "BellTouches$Touch" "rows" "[I", .methodLink RX7 87 yX3_enter, .instanceMethod yX3_enter, .selects RX3 yX3_enter yX3_enter, .initialized RX3, .code yX3_enter cX3_enter 7 (some .int), .fieldLink RX3 9 "BellTouches$RowTable" "numbers" "[I", .methodLink RX3 13 yX3_start, .static yX3_start, .code yX3_start cX3_start 1 (some .int), .constant RX3 17 (-1640531535), .methodLink RX7 91 yX3_leave, .instanceMethod yX3_leave, .selects RX3 yX3_leave yX3_leave, .code yX3_leave cX3_leave 6 none] ++ wsX70 ++ wsX30)
def wsX7_falseRow : List Cond := .code yX7_falseRow cX7_falseRow 3 (some .int) :: ([.fieldLink RX7 15 "BellTouches$Touch" "last" "I", .fieldLink RX7 28 "BellTouches$Touch" "firsts" "[I", .methodLink RX7 80 yX7_compare, .instanceMethod yX7_compare, .selects RX7 yX7_compare yX7_compare, .initialized RX7, .code yX7_compare cX7_compare 2 none, .fieldLink RX7 38 "BellTouches$Touch" "compared" "Z", .fieldLink RX7 34 "BellTouches$Touch" "table" "LBellTouches$RowTable;", .fieldLink RX7 9 "BellTouches$Touch" "rows" "[I", .methodLink RX7 87 yX3_enter, .instanceMethod yX3_enter, .selects RX3 yX3_enter yX3_enter, .initialized RX3, .code yX3_enter cX3_enter 7 (some .int), .fieldLink RX3 9 "BellTouches$RowTable" "numbers" "[I", .methodLink RX3 13 yX3_start, .static yX3_start, .code yX3_start cX3_start 1 (some .int), .constant RX3 17 (-1640531535), .methodLink RX7 91 yX3_leave, .instanceMethod yX3_leave, .selects RX3 yX3_leave yX3_leave, .code yX3_leave cX3_leave 6 none] ++ wsX70 ++ wsX30)
def wsX7_isTrue_r1 : List Cond := [Cond.fieldLink RX7 15 "BellTouches$Touch" "last" "I", Cond.fieldLink RX7 9 "BellTouches$Touch" "rows" "[I", Cond.methodLink RX7 83 yX7_falseRow, Cond.instanceMethod yX7_falseRow, Cond.selects RX7 yX7_falseRow yX7_falseRow, Cond.initialized RX7, Cond.code yX7_falseRow cX7_falseRow 3 (some .int), Cond.fieldLink RX7 28 "BellTouches$Touch" "firsts" "[I", Cond.methodLink RX7 80 yX7_compare, Cond.instanceMethod yX7_compare, Cond.selects RX7 yX7_compare yX7_compare, Cond.code yX7_compare cX7_compare 2 none, Cond.fieldLink RX7 38 "BellTouches$Touch" "compared" "Z", Cond.fieldLink RX7 34 "BellTouches$Touch" "table" "LBellTouches$RowTable;", Cond.methodLink RX7 87 yX3_enter, Cond.instanceMethod yX3_enter, Cond.selects RX3 yX3_enter yX3_enter, Cond.initialized RX3, Cond.code yX3_enter cX3_enter 7 (some .int), Cond.fieldLink RX3 9 "BellTouches$RowTable" "numbers" "[I", Cond.methodLink RX3 13 yX3_start, Cond.static yX3_start, Cond.code yX3_start cX3_start 1 (some .int), Cond.constant RX3 17 (-1640531535)]
def wsX7_isTrue_r2 : List Cond := [Cond.methodLink RX7 91 yX3_leave, Cond.instanceMethod yX3_leave, Cond.selects RX3 yX3_leave yX3_leave, Cond.code yX3_leave cX3_leave 6 none]
def wsX7_isTrue : List Cond := .code yX7_isTrue cX7_isTrue 1 (some .boolean) :: ((wsX7_isTrue_r1 ++ wsX7_isTrue_r2) ++ wsX70 ++ wsX30)
def wsX7_course : List Cond := .code yX7_course cX7_course 4 (some .int) :: ([.fieldLink RX7 9 "BellTouches$Touch" "rows" "[I", .fieldLink RX7 19 "BellTouches$Touch" "changeCount" "I", .fieldLink RX7 22 "BellTouches$Touch" "pairs" "[I", .methodLink RX7 77 yX2_swapped, .static yX2_swapped, .initialized RX2, .code yX2_swapped cX2_swapped 3 (some .int)] ++ wsX70)
def wsX8_init_r1 : List Cond := [Cond.methodLink RX8 5 objectInit, Cond.instanceMethod objectInit, Cond.code objectInit ⟨#[0xb1]⟩ 1 none, Cond.classLink RX8 11 RX4, Cond.instantiable RX4 11, Cond.initialized RX4, Cond.fieldLink RX8 14 "BellTouches" "setup" "LBellTouches$Setup;", Cond.fieldLink RX8 18 "BellTouches" "kept" "LBellTouches$Setup;", Cond.fieldLink RX8 21 "BellTouches" "trialSetup" "LBellTouches$Setup;", Cond.classLink RX8 24 RX7, Cond.instantiable RX7 8, Cond.initialized RX7, Cond.fieldLink RX8 27 "BellTouches" "touch" "LBellTouches$Touch;", Cond.fieldLink RX8 31 "BellTouches" "trial" "LBellTouches$Touch;", Cond.classLink RX8 34 RX0, Cond.instantiable RX0 7, Cond.initialized RX0, Cond.fieldLink RX8 37 "BellTouches" "fewest" "LBellTouches$Fewest;", Cond.classLink RX8 41 RX5, Cond.instantiable RX5 8, Cond.initialized RX5, Cond.fieldLink RX8 44 "BellTouches" "text" "LBellTouches$SetupText;", Cond.classLink RX8 48 RX6, Cond.fieldLink RX8 50 "BellTouches" "tapes" "[LBellTouches$Tape;"]
def wsX8_init_r2 : List Cond := [Cond.fieldLink RX8 54 "BellTouches" "hasImage" "Z", Cond.fieldLink RX8 58 "BellTouches" "stale" "Z", Cond.instantiable RX6 3, Cond.initialized RX6, Cond.instanceMethod yX4_init, Cond.code yX4_init cX4_init 1 none, Cond.methodLink RX4 3 objectInit, Cond.fieldLink RX4 9 "BellTouches$Setup" "n" "I", Cond.arrayClass .int, Cond.fieldLink RX4 15 "BellTouches$Setup" "changes" "[I", Cond.fieldLink RX4 19 "BellTouches$Setup" "changeCount" "I", Cond.fieldLink RX4 22 "BellTouches$Setup" "bob" "I", Cond.fieldLink RX4 25 "BellTouches$Setup" "single" "I", Cond.fieldLink RX4 28 "BellTouches$Setup" "leadCalls" "[I", Cond.fieldLink RX4 31 "BellTouches$Setup" "leadCount" "I", Cond.fieldLink RX4 34 "BellTouches$Setup" "patternBells" "[I", Cond.classLink RX4 37 RX1, Cond.instantiable RX1 4, Cond.initialized RX1, Cond.fieldLink RX4 42 "BellTouches$Setup" "seen" "LBellTouches$HandRows;", Cond.fieldLink RX4 46 "BellTouches$Setup" "events" "LBellTouches$HandRows;", Cond.fieldLink RX4 49 "BellTouches$Setup" "book" "LBellTouches$HandRows;", Cond.methodLink RX4 39 yX1_init, Cond.instanceMethod yX1_init]
def wsX8_init_r3 : List Cond := [Cond.code yX1_init cX1_init 3 none, Cond.methodLink RX1 1 objectInit, Cond.fieldLink RX1 7 "BellTouches$HandRows" "size" "I", Cond.fieldLink RX1 13 "BellTouches$HandRows" "first" "[I", Cond.fieldLink RX1 17 "BellTouches$HandRows" "second" "[I", Cond.fieldLink RX1 20 "BellTouches$HandRows" "third" "[I", Cond.instanceMethod yX7_init, Cond.code yX7_init cX7_init 1 none, Cond.methodLink RX7 3 objectInit, Cond.fieldLink RX7 9 "BellTouches$Touch" "rows" "[I", Cond.fieldLink RX7 15 "BellTouches$Touch" "last" "I", Cond.fieldLink RX7 19 "BellTouches$Touch" "changeCount" "I", Cond.fieldLink RX7 22 "BellTouches$Touch" "pairs" "[I", Cond.fieldLink RX7 25 "BellTouches$Touch" "lastPairs" "[I", Cond.fieldLink RX7 28 "BellTouches$Touch" "firsts" "[I", Cond.classLink RX7 31 RX3, Cond.instantiable RX3 1, Cond.initialized RX3, Cond.fieldLink RX7 34 "BellTouches$Touch" "table" "LBellTouches$RowTable;", Cond.fieldLink RX7 38 "BellTouches$Touch" "compared" "Z", Cond.instanceMethod yX3_init, Cond.code yX3_init cX3_init 1 none, Cond.methodLink RX3 3 objectInit, Cond.fieldLink RX3 9 "BellTouches$RowTable" "numbers" "[I"]
def wsX8_init_r4 : List Cond := [Cond.instanceMethod yX0_init, Cond.code yX0_init cX0_init 1 none, Cond.methodLink RX0 3 objectInit, Cond.fieldLink RX0 9 "BellTouches$Fewest" "number" "I", Cond.fieldLink RX0 15 "BellTouches$Fewest" "notPlain" "I", Cond.classLink RX0 18 RX7, Cond.fieldLink RX0 21 "BellTouches$Fewest" "touch" "LBellTouches$Touch;", Cond.classLink RX0 25 RX3, Cond.fieldLink RX0 28 "BellTouches$Fewest" "table" "LBellTouches$RowTable;", Cond.arrayClass .boolean, Cond.fieldLink RX0 32 "BellTouches$Fewest" "thereIs" "[Z", Cond.fieldLink RX0 36 "BellTouches$Fewest" "leadCount" "I", Cond.fieldLink RX0 39 "BellTouches$Fewest" "bound" "I", Cond.instanceMethod yX5_init, Cond.code yX5_init cX5_init 1 none, Cond.methodLink RX5 3 objectInit, Cond.fieldLink RX5 9 "BellTouches$SetupText" "length" "I", Cond.arrayClass .byte, Cond.fieldLink RX5 15 "BellTouches$SetupText" "signs" "[B", Cond.fieldLink RX5 19 "BellTouches$SetupText" "place" "I", Cond.fieldLink RX5 22 "BellTouches$SetupText" "kinds" "[I", Cond.fieldLink RX5 26 "BellTouches$SetupText" "starts" "[I", Cond.fieldLink RX5 29 "BellTouches$SetupText" "clauseCount" "I", Cond.fieldLink RX5 32 "BellTouches$SetupText" "values" "[I"]
def wsX8_init_r5 : List Cond := [Cond.fieldLink RX5 35 "BellTouches$SetupText" "valueCount" "I", Cond.instanceMethod yX6_init, Cond.code yX6_init cX6_init 1 none, Cond.methodLink RX6 3 objectInit, Cond.fieldLink RX6 9 "BellTouches$Tape" "sort" "I", Cond.fieldLink RX6 15 "BellTouches$Tape" "length" "I", Cond.arrayClass .long, Cond.fieldLink RX6 18 "BellTouches$Tape" "items" "[J"]
def wsX8_init : List Cond := .code yX8_init cX8_init 2 none :: ((wsX8_init_r1 ++ (wsX8_init_r2 ++ (wsX8_init_r3 ++ (wsX8_init_r4 ++ wsX8_init_r5)))) ++ wsX40 ++ wsX80 ++ wsX70 ++ wsX00 ++ wsX50 ++ wsX60 ++ wsX10 ++ wsX30)
def wsX8_bells : List Cond := .code yX8_bells cX8_bells 3 (some .int) :: ([.fieldLink RX8 14 "BellTouches" "setup" "LBellTouches$Setup;", .fieldLink RX8 62 "BellTouches$Setup" "n" "I", .fieldLink RX8 58 "BellTouches" "stale" "Z", .methodLink RX8 66 yX4_begin, .instanceMethod yX4_begin, .selects RX4 yX4_begin yX4_begin, .initialized RX4, .code yX4_begin cX4_begin 3 none, .fieldLink RX4 9 "BellTouches$Setup" "n" "I", .fieldLink RX4 19 "BellTouches$Setup" "changeCount" "I", .fieldLink RX4 22 "BellTouches$Setup" "bob" "I", .fieldLink RX4 25 "BellTouches$Setup" "single" "I", .fieldLink RX4 31 "BellTouches$Setup" "leadCount" "I", .fieldLink RX4 28 "BellTouches$Setup" "leadCalls" "[I", .fieldLink RX4 34 "BellTouches$Setup" "patternBells" "[I", .fieldLink RX4 42 "BellTouches$Setup" "seen" "LBellTouches$HandRows;", .fieldLink RX4 52 "BellTouches$HandRows" "size" "I", .fieldLink RX4 46 "BellTouches$Setup" "events" "LBellTouches$HandRows;", .fieldLink RX4 49 "BellTouches$Setup" "book" "LBellTouches$HandRows;"] ++ wsX80 ++ wsX40 ++ wsX10)
def wsX8_isPlaces : List Cond := .code yX8_isPlaces cX8_isPlaces 2 (some .boolean) :: ([.fieldLink RX8 14 "BellTouches" "setup" "LBellTouches$Setup;", .fieldLink RX8 62 "BellTouches$Setup" "n" "I"] ++ wsX80 ++ wsX40)
def wsX8_change : List Cond := .code yX8_change cX8_change 2 (some .int) :: ([.fieldLink RX8 14 "BellTouches" "setup" "LBellTouches$Setup;", .fieldLink RX8 62 "BellTouches$Setup" "n" "I", .fieldLink RX8 80 "BellTouches$Setup" "changeCount" "I", .fieldLink RX8 83 "BellTouches$Setup" "changes" "[I", .fieldLink RX8 58 "BellTouches" "stale" "Z", .methodLink RX8 70 yX8_isPlaces, .instanceMethod yX8_isPlaces, .selects RX8 yX8_isPlaces yX8_isPlaces, .initialized RX8, .code yX8_isPlaces cX8_isPlaces 2 (some .boolean), .methodLink RX8 74 yX2_isGood, .static yX2_isGood, .initialized RX2, .code yX2_isGood cX2_isGood 2 (some .boolean), .methodLink RX2 18 yX2_pairs, .static yX2_pairs, .code yX2_pairs cX2_pairs 4 (some .int), .methodLink RX2 21 yX2_isKept, .static yX2_isKept, .code yX2_isKept cX2_isKept 2 (some .boolean)] ++ wsX80 ++ wsX40)
def wsX8_calls_r1 : List Cond := [Cond.fieldLink RX8 14 "BellTouches" "setup" "LBellTouches$Setup;", Cond.fieldLink RX8 62 "BellTouches$Setup" "n" "I", Cond.fieldLink RX8 58 "BellTouches" "stale" "Z", Cond.methodLink RX8 70 yX8_isPlaces, Cond.instanceMethod yX8_isPlaces, Cond.selects RX8 yX8_isPlaces yX8_isPlaces, Cond.initialized RX8, Cond.code yX8_isPlaces cX8_isPlaces 2 (some .boolean), Cond.methodLink RX8 74 yX2_isGood, Cond.static yX2_isGood, Cond.initialized RX2, Cond.code yX2_isGood cX2_isGood 2 (some .boolean), Cond.methodLink RX2 18 yX2_pairs, Cond.static yX2_pairs, Cond.code yX2_pairs cX2_pairs 4 (some .int), Cond.methodLink RX2 21 yX2_isKept, Cond.static yX2_isKept, Cond.code yX2_isKept cX2_isKept 2 (some .boolean), Cond.methodLink RX8 87 yX4_calledChange, Cond.instanceMethod yX4_calledChange, Cond.selects RX4 yX4_calledChange yX4_calledChange, Cond.initialized RX4, Cond.code yX4_calledChange cX4_calledChange 2 (some .int), Cond.fieldLink RX4 22 "BellTouches$Setup" "bob" "I"]
def wsX8_calls_r2 : List Cond := [Cond.fieldLink RX4 25 "BellTouches$Setup" "single" "I", Cond.methodLink RX8 91 yX4_setCalledChange, Cond.instanceMethod yX4_setCalledChange, Cond.selects RX4 yX4_setCalledChange yX4_setCalledChange, Cond.code yX4_setCalledChange cX4_setCalledChange 3 none]
def wsX8_calls : List Cond := .code yX8_calls cX8_calls 4 (some .int) :: ((wsX8_calls_r1 ++ wsX8_calls_r2) ++ wsX80 ++ wsX40)
def wsX8_isLead : List Cond := .code yX8_isLead cX8_isLead 1 (some .boolean) :: ([])
def wsX8_call : List Cond := .code yX8_call cX8_call 4 (some .int) :: ([.fieldLink RX8 14 "BellTouches" "setup" "LBellTouches$Setup;", .fieldLink RX8 98 "BellTouches$Setup" "leadCalls" "[I", .fieldLink RX8 58 "BellTouches" "stale" "Z", .methodLink RX8 95 yX8_isLead, .static yX8_isLead, .initialized RX8, .code yX8_isLead cX8_isLead 1 (some .boolean)] ++ wsX80 ++ wsX40)
def wsX8_leads : List Cond := .code yX8_leads cX8_leads 3 (some .int) :: ([.fieldLink RX8 14 "BellTouches" "setup" "LBellTouches$Setup;", .fieldLink RX8 101 "BellTouches$Setup" "leadCount" "I", .fieldLink RX8 58 "BellTouches" "stale" "Z"] ++ wsX80 ++ wsX40)
def wsX8_pattern : List Cond := .code yX8_pattern cX8_pattern 4 (some .int) :: ([.fieldLink RX8 14 "BellTouches" "setup" "LBellTouches$Setup;", .fieldLink RX8 104 "BellTouches$Setup" "patternBells" "[I"] ++ wsX80 ++ wsX40)
def wsX8_feed : List Cond := .code yX8_feed cX8_feed 2 (some .int) :: ([.fieldLink RX8 44 "BellTouches" "text" "LBellTouches$SetupText;", .fieldLink RX8 110 "BellTouches$SetupText" "length" "I", .methodLink RX8 107 yX5_append, .instanceMethod yX5_append, .selects RX5 yX5_append yX5_append, .initialized RX5, .code yX5_append cX5_append 2 (some .boolean), .fieldLink RX5 9 "BellTouches$SetupText" "length" "I", .fieldLink RX5 15 "BellTouches$SetupText" "signs" "[B"] ++ wsX80 ++ wsX50)
def wsX8_read_r1 : List Cond := [Cond.fieldLink RX8 44 "BellTouches" "text" "LBellTouches$SetupText;", Cond.fieldLink RX8 110 "BellTouches$SetupText" "length" "I", Cond.fieldLink RX8 58 "BellTouches" "stale" "Z", Cond.fieldLink RX8 14 "BellTouches" "setup" "LBellTouches$Setup;", Cond.methodLink RX8 113 yX5_parse, Cond.instanceMethod yX5_parse, Cond.selects RX5 yX5_parse yX5_parse, Cond.initialized RX5, Cond.code yX5_parse cX5_parse 2 (some .int), Cond.fieldLink RX5 19 "BellTouches$SetupText" "place" "I", Cond.fieldLink RX5 29 "BellTouches$SetupText" "clauseCount" "I", Cond.fieldLink RX5 35 "BellTouches$SetupText" "valueCount" "I", Cond.fieldLink RX5 26 "BellTouches$SetupText" "starts" "[I", Cond.fieldLink RX5 22 "BellTouches$SetupText" "kinds" "[I", Cond.methodLink RX5 38 yX5_next, Cond.instanceMethod yX5_next, Cond.selects RX5 yX5_next yX5_next, Cond.code yX5_next cX5_next 1 (some .int), Cond.fieldLink RX5 9 "BellTouches$SetupText" "length" "I", Cond.fieldLink RX5 15 "BellTouches$SetupText" "signs" "[B", Cond.methodLink RX5 42 yX5_parseClause, Cond.instanceMethod yX5_parseClause, Cond.selects RX5 yX5_parseClause yX5_parseClause, Cond.code yX5_parseClause cX5_parseClause 2 (some .boolean)]
def wsX8_read_r2 : List Cond := [Cond.methodLink RX5 46 yX5_parseDigit, Cond.instanceMethod yX5_parseDigit, Cond.selects RX5 yX5_parseDigit yX5_parseDigit, Cond.code yX5_parseDigit cX5_parseDigit 2 (some .boolean), Cond.methodLink RX5 58 yX5_keep, Cond.instanceMethod yX5_keep, Cond.selects RX5 yX5_keep yX5_keep, Cond.code yX5_keep cX5_keep 2 none, Cond.fieldLink RX5 32 "BellTouches$SetupText" "values" "[I", Cond.methodLink RX5 49 yX5_parseWords, Cond.instanceMethod yX5_parseWords, Cond.selects RX5 yX5_parseWords yX5_parseWords, Cond.code yX5_parseWords cX5_parseWords 3 (some .boolean), Cond.methodLink RX5 52 yX5_parseWord, Cond.instanceMethod yX5_parseWord, Cond.selects RX5 yX5_parseWord yX5_parseWord, Cond.code yX5_parseWord cX5_parseWord 3 (some .boolean), Cond.methodLink RX5 62 yX5_isPlaceSign, Cond.static yX5_isPlaceSign, Cond.code yX5_isPlaceSign cX5_isPlaceSign 1 (some .boolean), Cond.methodLink RX5 55 yX5_parseCalls, Cond.instanceMethod yX5_parseCalls, Cond.selects RX5 yX5_parseCalls yX5_parseCalls, Cond.code yX5_parseCalls cX5_parseCalls 2 (some .boolean)]
def wsX8_read_r3 : List Cond := [Cond.methodLink RX5 66 yX5_callOf, Cond.static yX5_callOf, Cond.code yX5_callOf cX5_callOf 1 (some .int), Cond.methodLink RX8 117 yX5_perform, Cond.instanceMethod yX5_perform, Cond.selects RX5 yX5_perform yX5_perform, Cond.code yX5_perform cX5_perform 4 (some .int), Cond.methodLink RX5 70 yX5_performClause, Cond.instanceMethod yX5_performClause, Cond.selects RX5 yX5_performClause yX5_performClause, Cond.code yX5_performClause cX5_performClause 5 (some .boolean), Cond.methodLink RX5 74 yX5_beginBells, Cond.static yX5_beginBells, Cond.code yX5_beginBells cX5_beginBells 2 (some .boolean), Cond.methodLink RX5 88 yX4_begin, Cond.instanceMethod yX4_begin, Cond.selects RX4 yX4_begin yX4_begin, Cond.initialized RX4, Cond.code yX4_begin cX4_begin 3 none, Cond.fieldLink RX4 9 "BellTouches$Setup" "n" "I", Cond.fieldLink RX4 19 "BellTouches$Setup" "changeCount" "I", Cond.fieldLink RX4 22 "BellTouches$Setup" "bob" "I", Cond.fieldLink RX4 25 "BellTouches$Setup" "single" "I", Cond.fieldLink RX4 31 "BellTouches$Setup" "leadCount" "I"]
def wsX8_read_r4 : List Cond := [Cond.fieldLink RX4 28 "BellTouches$Setup" "leadCalls" "[I", Cond.fieldLink RX4 34 "BellTouches$Setup" "patternBells" "[I", Cond.fieldLink RX4 42 "BellTouches$Setup" "seen" "LBellTouches$HandRows;", Cond.fieldLink RX4 52 "BellTouches$HandRows" "size" "I", Cond.fieldLink RX4 46 "BellTouches$Setup" "events" "LBellTouches$HandRows;", Cond.fieldLink RX4 49 "BellTouches$Setup" "book" "LBellTouches$HandRows;", Cond.methodLink RX5 78 yX5_setMethod, Cond.instanceMethod yX5_setMethod, Cond.selects RX5 yX5_setMethod yX5_setMethod, Cond.code yX5_setMethod cX5_setMethod 5 (some .boolean), Cond.fieldLink RX5 93 "BellTouches$Setup" "n" "I", Cond.fieldLink RX5 102 "BellTouches$Setup" "changeCount" "I", Cond.fieldLink RX5 105 "BellTouches$Setup" "changes" "[I", Cond.methodLink RX5 96 yX2_isGood, Cond.static yX2_isGood, Cond.initialized RX2, Cond.code yX2_isGood cX2_isGood 2 (some .boolean), Cond.methodLink RX2 18 yX2_pairs, Cond.static yX2_pairs, Cond.code yX2_pairs cX2_pairs 4 (some .int), Cond.methodLink RX2 21 yX2_isKept, Cond.static yX2_isKept, Cond.code yX2_isKept cX2_isKept 2 (some .boolean), Cond.methodLink RX5 82 yX5_setCall]
def wsX8_read_r5 : List Cond := [Cond.static yX5_setCall, Cond.code yX5_setCall cX5_setCall 3 (some .boolean), Cond.methodLink RX5 108 yX4_setCalledChange, Cond.instanceMethod yX4_setCalledChange, Cond.selects RX4 yX4_setCalledChange yX4_setCalledChange, Cond.code yX4_setCalledChange cX4_setCalledChange 3 none, Cond.methodLink RX5 85 yX5_setLeads, Cond.instanceMethod yX5_setLeads, Cond.selects RX5 yX5_setLeads yX5_setLeads, Cond.code yX5_setLeads cX5_setLeads 5 (some .boolean), Cond.fieldLink RX5 112 "BellTouches$Setup" "leadCount" "I", Cond.fieldLink RX5 115 "BellTouches$Setup" "leadCalls" "[I"]
def wsX8_read : List Cond := .code yX8_read cX8_read 2 (some .int) :: ((wsX8_read_r1 ++ (wsX8_read_r2 ++ (wsX8_read_r3 ++ (wsX8_read_r4 ++ wsX8_read_r5)))) ++ wsX80 ++ wsX50 ++ wsX40 ++ wsX10)
def wsX8_orNotFound : List Cond := .code yX8_orNotFound cX8_orNotFound 1 (some .int) :: ([])
def wsX8_of : List Cond := .code yX8_of cX8_of 3 (some .int) :: ([.fieldLink RX8 14 "BellTouches" "setup" "LBellTouches$Setup;", .fieldLink RX8 80 "BellTouches$Setup" "changeCount" "I", .fieldLink RX8 83 "BellTouches$Setup" "changes" "[I", .fieldLink RX8 121 "BellTouches$Setup" "bob" "I", .fieldLink RX8 127 "BellTouches$Setup" "single" "I", .fieldLink RX8 98 "BellTouches$Setup" "leadCalls" "[I", .methodLink RX8 124 yX8_orNotFound, .static yX8_orNotFound, .initialized RX8, .code yX8_orNotFound cX8_orNotFound 1 (some .int), .methodLink RX8 95 yX8_isLead, .static yX8_isLead, .code yX8_isLead cX8_isLead 1 (some .boolean)] ++ wsX80 ++ wsX40)
def wsX8_rung_r1 : List Cond := [Cond.fieldLink RX8 58 "BellTouches" "stale" "Z", Cond.fieldLink RX8 27 "BellTouches" "touch" "LBellTouches$Touch;", Cond.fieldLink RX8 14 "BellTouches" "setup" "LBellTouches$Setup;", Cond.methodLink RX8 219 yX7_ring, Cond.instanceMethod yX7_ring, Cond.selects RX7 yX7_ring yX7_ring, Cond.initialized RX7, Cond.code yX7_ring cX7_ring 4 none, Cond.fieldLink RX7 46 "BellTouches$Setup" "leadCount" "I", Cond.fieldLink RX7 19 "BellTouches$Touch" "changeCount" "I", Cond.fieldLink RX7 51 "BellTouches$Setup" "leadCalls" "[I", Cond.methodLink RX7 42 yX7_begin, Cond.instanceMethod yX7_begin, Cond.selects RX7 yX7_begin yX7_begin, Cond.code yX7_begin cX7_begin 4 none, Cond.fieldLink RX7 58 "BellTouches$Setup" "changeCount" "I", Cond.fieldLink RX7 22 "BellTouches$Touch" "pairs" "[I", Cond.fieldLink RX7 59 "BellTouches$Setup" "n" "I", Cond.fieldLink RX7 62 "BellTouches$Setup" "changes" "[I", Cond.fieldLink RX7 25 "BellTouches$Touch" "lastPairs" "[I", Cond.fieldLink RX7 9 "BellTouches$Touch" "rows" "[I", Cond.fieldLink RX7 15 "BellTouches$Touch" "last" "I", Cond.fieldLink RX7 38 "BellTouches$Touch" "compared" "Z", Cond.methodLink RX7 65 yX2_pairs]
def wsX8_rung_r2 : List Cond := [Cond.static yX2_pairs, Cond.initialized RX2, Cond.code yX2_pairs cX2_pairs 4 (some .int), Cond.methodLink RX2 21 yX2_isKept, Cond.static yX2_isKept, Cond.code yX2_isKept cX2_isKept 2 (some .boolean), Cond.methodLink RX7 70 yX4_calledChange, Cond.instanceMethod yX4_calledChange, Cond.selects RX4 yX4_calledChange yX4_calledChange, Cond.initialized RX4, Cond.code yX4_calledChange cX4_calledChange 2 (some .int), Cond.fieldLink RX4 22 "BellTouches$Setup" "bob" "I", Cond.fieldLink RX4 25 "BellTouches$Setup" "single" "I", Cond.methodLink RX7 74 yX2_rounds, Cond.static yX2_rounds, Cond.code yX2_rounds cX2_rounds 3 (some .int), Cond.methodLink RX7 54 yX7_step, Cond.instanceMethod yX7_step, Cond.selects RX7 yX7_step yX7_step, Cond.code yX7_step cX7_step 4 none, Cond.methodLink RX7 77 yX2_swapped, Cond.static yX2_swapped, Cond.code yX2_swapped cX2_swapped 3 (some .int)]
def wsX8_rung : List Cond := .code yX8_rung cX8_rung 1 (some (.object "BellTouches$Touch")) :: ((wsX8_rung_r1 ++ wsX8_rung_r2) ++ wsX80 ++ wsX40 ++ wsX70)
def wsX8_told_r1 : List Cond := [Cond.fieldLink RX8 14 "BellTouches" "setup" "LBellTouches$Setup;", Cond.fieldLink RX8 62 "BellTouches$Setup" "n" "I", Cond.fieldLink RX8 80 "BellTouches$Setup" "changeCount" "I", Cond.fieldLink RX8 101 "BellTouches$Setup" "leadCount" "I", Cond.fieldLink RX8 134 "BellTouches$Touch" "last" "I", Cond.methodLink RX8 130 yX8_rung, Cond.instanceMethod yX8_rung, Cond.selects RX8 yX8_rung yX8_rung, Cond.initialized RX8, Cond.code yX8_rung cX8_rung 1 (some (.object "BellTouches$Touch")), Cond.fieldLink RX8 58 "BellTouches" "stale" "Z", Cond.fieldLink RX8 27 "BellTouches" "touch" "LBellTouches$Touch;", Cond.methodLink RX8 219 yX7_ring, Cond.instanceMethod yX7_ring, Cond.selects RX7 yX7_ring yX7_ring, Cond.initialized RX7, Cond.code yX7_ring cX7_ring 4 none, Cond.fieldLink RX7 46 "BellTouches$Setup" "leadCount" "I", Cond.fieldLink RX7 19 "BellTouches$Touch" "changeCount" "I", Cond.fieldLink RX7 51 "BellTouches$Setup" "leadCalls" "[I", Cond.methodLink RX7 42 yX7_begin, Cond.instanceMethod yX7_begin, Cond.selects RX7 yX7_begin yX7_begin, Cond.code yX7_begin cX7_begin 4 none]
def wsX8_told_r2 : List Cond := [Cond.fieldLink RX7 58 "BellTouches$Setup" "changeCount" "I", Cond.fieldLink RX7 22 "BellTouches$Touch" "pairs" "[I", Cond.fieldLink RX7 59 "BellTouches$Setup" "n" "I", Cond.fieldLink RX7 62 "BellTouches$Setup" "changes" "[I", Cond.fieldLink RX7 25 "BellTouches$Touch" "lastPairs" "[I", Cond.fieldLink RX7 9 "BellTouches$Touch" "rows" "[I", Cond.fieldLink RX7 15 "BellTouches$Touch" "last" "I", Cond.fieldLink RX7 38 "BellTouches$Touch" "compared" "Z", Cond.methodLink RX7 65 yX2_pairs, Cond.static yX2_pairs, Cond.initialized RX2, Cond.code yX2_pairs cX2_pairs 4 (some .int), Cond.methodLink RX2 21 yX2_isKept, Cond.static yX2_isKept, Cond.code yX2_isKept cX2_isKept 2 (some .boolean), Cond.methodLink RX7 70 yX4_calledChange, Cond.instanceMethod yX4_calledChange, Cond.selects RX4 yX4_calledChange yX4_calledChange, Cond.initialized RX4, Cond.code yX4_calledChange cX4_calledChange 2 (some .int), Cond.fieldLink RX4 22 "BellTouches$Setup" "bob" "I", Cond.fieldLink RX4 25 "BellTouches$Setup" "single" "I", Cond.methodLink RX7 74 yX2_rounds, Cond.static yX2_rounds]
def wsX8_told_r3 : List Cond := [Cond.code yX2_rounds cX2_rounds 3 (some .int), Cond.methodLink RX7 54 yX7_step, Cond.instanceMethod yX7_step, Cond.selects RX7 yX7_step yX7_step, Cond.code yX7_step cX7_step 4 none, Cond.methodLink RX7 77 yX2_swapped, Cond.static yX2_swapped, Cond.code yX2_swapped cX2_swapped 3 (some .int), Cond.methodLink RX8 137 yX7_roundRow, Cond.instanceMethod yX7_roundRow, Cond.selects RX7 yX7_roundRow yX7_roundRow, Cond.code yX7_roundRow cX7_roundRow 2 (some .int), Cond.fieldLink RX7 28 "BellTouches$Touch" "firsts" "[I", Cond.methodLink RX7 80 yX7_compare, Cond.instanceMethod yX7_compare, Cond.selects RX7 yX7_compare yX7_compare, Cond.code yX7_compare cX7_compare 2 none, Cond.fieldLink RX7 34 "BellTouches$Touch" "table" "LBellTouches$RowTable;", Cond.methodLink RX7 87 yX3_enter, Cond.instanceMethod yX3_enter, Cond.selects RX3 yX3_enter yX3_enter, Cond.initialized RX3, Cond.code yX3_enter cX3_enter 7 (some .int), Cond.fieldLink RX3 9 "BellTouches$RowTable" "numbers" "[I"]
def wsX8_told_r4 : List Cond := [Cond.methodLink RX3 13 yX3_start, Cond.static yX3_start, Cond.code yX3_start cX3_start 1 (some .int), Cond.constant RX3 17 (-1640531535), Cond.methodLink RX7 91 yX3_leave, Cond.instanceMethod yX3_leave, Cond.selects RX3 yX3_leave yX3_leave, Cond.code yX3_leave cX3_leave 6 none, Cond.methodLink RX8 140 yX7_falseRow, Cond.instanceMethod yX7_falseRow, Cond.selects RX7 yX7_falseRow yX7_falseRow, Cond.code yX7_falseRow cX7_falseRow 3 (some .int), Cond.methodLink RX8 143 yX7_isTrue, Cond.instanceMethod yX7_isTrue, Cond.selects RX7 yX7_isTrue yX7_isTrue, Cond.code yX7_isTrue cX7_isTrue 1 (some .boolean), Cond.methodLink RX7 83 yX7_falseRow, Cond.methodLink RX8 147 yX7_course, Cond.instanceMethod yX7_course, Cond.selects RX7 yX7_course yX7_course, Cond.code yX7_course cX7_course 4 (some .int)]
def wsX8_told : List Cond := .code yX8_told cX8_told 2 (some .int) :: ((wsX8_told_r1 ++ (wsX8_told_r2 ++ (wsX8_told_r3 ++ wsX8_told_r4))) ++ wsX80 ++ wsX40 ++ wsX70 ++ wsX30)
def wsX8_isRow_r1 : List Cond := [Cond.fieldLink RX8 134 "BellTouches$Touch" "last" "I", Cond.methodLink RX8 130 yX8_rung, Cond.instanceMethod yX8_rung, Cond.selects RX8 yX8_rung yX8_rung, Cond.initialized RX8, Cond.code yX8_rung cX8_rung 1 (some (.object "BellTouches$Touch")), Cond.fieldLink RX8 58 "BellTouches" "stale" "Z", Cond.fieldLink RX8 27 "BellTouches" "touch" "LBellTouches$Touch;", Cond.fieldLink RX8 14 "BellTouches" "setup" "LBellTouches$Setup;", Cond.methodLink RX8 219 yX7_ring, Cond.instanceMethod yX7_ring, Cond.selects RX7 yX7_ring yX7_ring, Cond.initialized RX7, Cond.code yX7_ring cX7_ring 4 none, Cond.fieldLink RX7 46 "BellTouches$Setup" "leadCount" "I", Cond.fieldLink RX7 19 "BellTouches$Touch" "changeCount" "I", Cond.fieldLink RX7 51 "BellTouches$Setup" "leadCalls" "[I", Cond.methodLink RX7 42 yX7_begin, Cond.instanceMethod yX7_begin, Cond.selects RX7 yX7_begin yX7_begin, Cond.code yX7_begin cX7_begin 4 none, Cond.fieldLink RX7 58 "BellTouches$Setup" "changeCount" "I", Cond.fieldLink RX7 22 "BellTouches$Touch" "pairs" "[I", Cond.fieldLink RX7 59 "BellTouches$Setup" "n" "I"]
def wsX8_isRow_r2 : List Cond := [Cond.fieldLink RX7 62 "BellTouches$Setup" "changes" "[I", Cond.fieldLink RX7 25 "BellTouches$Touch" "lastPairs" "[I", Cond.fieldLink RX7 9 "BellTouches$Touch" "rows" "[I", Cond.fieldLink RX7 15 "BellTouches$Touch" "last" "I", Cond.fieldLink RX7 38 "BellTouches$Touch" "compared" "Z", Cond.methodLink RX7 65 yX2_pairs, Cond.static yX2_pairs, Cond.initialized RX2, Cond.code yX2_pairs cX2_pairs 4 (some .int), Cond.methodLink RX2 21 yX2_isKept, Cond.static yX2_isKept, Cond.code yX2_isKept cX2_isKept 2 (some .boolean), Cond.methodLink RX7 70 yX4_calledChange, Cond.instanceMethod yX4_calledChange, Cond.selects RX4 yX4_calledChange yX4_calledChange, Cond.initialized RX4, Cond.code yX4_calledChange cX4_calledChange 2 (some .int), Cond.fieldLink RX4 22 "BellTouches$Setup" "bob" "I", Cond.fieldLink RX4 25 "BellTouches$Setup" "single" "I", Cond.methodLink RX7 74 yX2_rounds, Cond.static yX2_rounds, Cond.code yX2_rounds cX2_rounds 3 (some .int), Cond.methodLink RX7 54 yX7_step, Cond.instanceMethod yX7_step]
def wsX8_isRow_r3 : List Cond := [Cond.selects RX7 yX7_step yX7_step, Cond.code yX7_step cX7_step 4 none, Cond.methodLink RX7 77 yX2_swapped, Cond.static yX2_swapped, Cond.code yX2_swapped cX2_swapped 3 (some .int)]
def wsX8_isRow : List Cond := .code yX8_isRow cX8_isRow 2 (some .boolean) :: ((wsX8_isRow_r1 ++ (wsX8_isRow_r2 ++ wsX8_isRow_r3)) ++ wsX70 ++ wsX80 ++ wsX40)
def wsX8_isBell : List Cond := .code yX8_isBell cX8_isBell 2 (some .boolean) :: ([.fieldLink RX8 14 "BellTouches" "setup" "LBellTouches$Setup;", .fieldLink RX8 62 "BellTouches$Setup" "n" "I"] ++ wsX80 ++ wsX40)
def wsX8_at_r1 : List Cond := [Cond.fieldLink RX8 156 "BellTouches$Touch" "rows" "[I", Cond.methodLink RX8 150 yX8_isRow, Cond.instanceMethod yX8_isRow, Cond.selects RX8 yX8_isRow yX8_isRow, Cond.initialized RX8, Cond.code yX8_isRow cX8_isRow 2 (some .boolean), Cond.fieldLink RX8 134 "BellTouches$Touch" "last" "I", Cond.methodLink RX8 130 yX8_rung, Cond.instanceMethod yX8_rung, Cond.selects RX8 yX8_rung yX8_rung, Cond.code yX8_rung cX8_rung 1 (some (.object "BellTouches$Touch")), Cond.fieldLink RX8 58 "BellTouches" "stale" "Z", Cond.fieldLink RX8 27 "BellTouches" "touch" "LBellTouches$Touch;", Cond.fieldLink RX8 14 "BellTouches" "setup" "LBellTouches$Setup;", Cond.methodLink RX8 219 yX7_ring, Cond.instanceMethod yX7_ring, Cond.selects RX7 yX7_ring yX7_ring, Cond.initialized RX7, Cond.code yX7_ring cX7_ring 4 none, Cond.fieldLink RX7 46 "BellTouches$Setup" "leadCount" "I", Cond.fieldLink RX7 19 "BellTouches$Touch" "changeCount" "I", Cond.fieldLink RX7 51 "BellTouches$Setup" "leadCalls" "[I", Cond.methodLink RX7 42 yX7_begin, Cond.instanceMethod yX7_begin]
def wsX8_at_r2 : List Cond := [Cond.selects RX7 yX7_begin yX7_begin, Cond.code yX7_begin cX7_begin 4 none, Cond.fieldLink RX7 58 "BellTouches$Setup" "changeCount" "I", Cond.fieldLink RX7 22 "BellTouches$Touch" "pairs" "[I", Cond.fieldLink RX7 59 "BellTouches$Setup" "n" "I", Cond.fieldLink RX7 62 "BellTouches$Setup" "changes" "[I", Cond.fieldLink RX7 25 "BellTouches$Touch" "lastPairs" "[I", Cond.fieldLink RX7 9 "BellTouches$Touch" "rows" "[I", Cond.fieldLink RX7 15 "BellTouches$Touch" "last" "I", Cond.fieldLink RX7 38 "BellTouches$Touch" "compared" "Z", Cond.methodLink RX7 65 yX2_pairs, Cond.static yX2_pairs, Cond.initialized RX2, Cond.code yX2_pairs cX2_pairs 4 (some .int), Cond.methodLink RX2 21 yX2_isKept, Cond.static yX2_isKept, Cond.code yX2_isKept cX2_isKept 2 (some .boolean), Cond.methodLink RX7 70 yX4_calledChange, Cond.instanceMethod yX4_calledChange, Cond.selects RX4 yX4_calledChange yX4_calledChange, Cond.initialized RX4, Cond.code yX4_calledChange cX4_calledChange 2 (some .int), Cond.fieldLink RX4 22 "BellTouches$Setup" "bob" "I", Cond.fieldLink RX4 25 "BellTouches$Setup" "single" "I"]
def wsX8_at_r3 : List Cond := [Cond.methodLink RX7 74 yX2_rounds, Cond.static yX2_rounds, Cond.code yX2_rounds cX2_rounds 3 (some .int), Cond.methodLink RX7 54 yX7_step, Cond.instanceMethod yX7_step, Cond.selects RX7 yX7_step yX7_step, Cond.code yX7_step cX7_step 4 none, Cond.methodLink RX7 77 yX2_swapped, Cond.static yX2_swapped, Cond.code yX2_swapped cX2_swapped 3 (some .int), Cond.methodLink RX8 153 yX8_isBell, Cond.instanceMethod yX8_isBell, Cond.selects RX8 yX8_isBell yX8_isBell, Cond.code yX8_isBell cX8_isBell 2 (some .boolean), Cond.fieldLink RX8 62 "BellTouches$Setup" "n" "I", Cond.methodLink RX8 159 yX2_bellIn, Cond.static yX2_bellIn, Cond.code yX2_bellIn cX2_bellIn 2 (some .int)]
def wsX8_at : List Cond := .code yX8_at cX8_at 3 (some .int) :: ((wsX8_at_r1 ++ (wsX8_at_r2 ++ wsX8_at_r3)) ++ wsX70 ++ wsX80 ++ wsX40)
def wsX8_where_r1 : List Cond := [Cond.fieldLink RX8 156 "BellTouches$Touch" "rows" "[I", Cond.methodLink RX8 150 yX8_isRow, Cond.instanceMethod yX8_isRow, Cond.selects RX8 yX8_isRow yX8_isRow, Cond.initialized RX8, Cond.code yX8_isRow cX8_isRow 2 (some .boolean), Cond.fieldLink RX8 134 "BellTouches$Touch" "last" "I", Cond.methodLink RX8 130 yX8_rung, Cond.instanceMethod yX8_rung, Cond.selects RX8 yX8_rung yX8_rung, Cond.code yX8_rung cX8_rung 1 (some (.object "BellTouches$Touch")), Cond.fieldLink RX8 58 "BellTouches" "stale" "Z", Cond.fieldLink RX8 27 "BellTouches" "touch" "LBellTouches$Touch;", Cond.fieldLink RX8 14 "BellTouches" "setup" "LBellTouches$Setup;", Cond.methodLink RX8 219 yX7_ring, Cond.instanceMethod yX7_ring, Cond.selects RX7 yX7_ring yX7_ring, Cond.initialized RX7, Cond.code yX7_ring cX7_ring 4 none, Cond.fieldLink RX7 46 "BellTouches$Setup" "leadCount" "I", Cond.fieldLink RX7 19 "BellTouches$Touch" "changeCount" "I", Cond.fieldLink RX7 51 "BellTouches$Setup" "leadCalls" "[I", Cond.methodLink RX7 42 yX7_begin, Cond.instanceMethod yX7_begin]
def wsX8_where_r2 : List Cond := [Cond.selects RX7 yX7_begin yX7_begin, Cond.code yX7_begin cX7_begin 4 none, Cond.fieldLink RX7 58 "BellTouches$Setup" "changeCount" "I", Cond.fieldLink RX7 22 "BellTouches$Touch" "pairs" "[I", Cond.fieldLink RX7 59 "BellTouches$Setup" "n" "I", Cond.fieldLink RX7 62 "BellTouches$Setup" "changes" "[I", Cond.fieldLink RX7 25 "BellTouches$Touch" "lastPairs" "[I", Cond.fieldLink RX7 9 "BellTouches$Touch" "rows" "[I", Cond.fieldLink RX7 15 "BellTouches$Touch" "last" "I", Cond.fieldLink RX7 38 "BellTouches$Touch" "compared" "Z", Cond.methodLink RX7 65 yX2_pairs, Cond.static yX2_pairs, Cond.initialized RX2, Cond.code yX2_pairs cX2_pairs 4 (some .int), Cond.methodLink RX2 21 yX2_isKept, Cond.static yX2_isKept, Cond.code yX2_isKept cX2_isKept 2 (some .boolean), Cond.methodLink RX7 70 yX4_calledChange, Cond.instanceMethod yX4_calledChange, Cond.selects RX4 yX4_calledChange yX4_calledChange, Cond.initialized RX4, Cond.code yX4_calledChange cX4_calledChange 2 (some .int), Cond.fieldLink RX4 22 "BellTouches$Setup" "bob" "I", Cond.fieldLink RX4 25 "BellTouches$Setup" "single" "I"]
def wsX8_where_r3 : List Cond := [Cond.methodLink RX7 74 yX2_rounds, Cond.static yX2_rounds, Cond.code yX2_rounds cX2_rounds 3 (some .int), Cond.methodLink RX7 54 yX7_step, Cond.instanceMethod yX7_step, Cond.selects RX7 yX7_step yX7_step, Cond.code yX7_step cX7_step 4 none, Cond.methodLink RX7 77 yX2_swapped, Cond.static yX2_swapped, Cond.code yX2_swapped cX2_swapped 3 (some .int), Cond.methodLink RX8 153 yX8_isBell, Cond.instanceMethod yX8_isBell, Cond.selects RX8 yX8_isBell yX8_isBell, Cond.code yX8_isBell cX8_isBell 2 (some .boolean), Cond.fieldLink RX8 62 "BellTouches$Setup" "n" "I", Cond.methodLink RX8 163 yX2_placeOf, Cond.static yX2_placeOf, Cond.code yX2_placeOf cX2_placeOf 3 (some .int), Cond.methodLink RX2 9 yX2_bellIn, Cond.static yX2_bellIn, Cond.code yX2_bellIn cX2_bellIn 2 (some .int)]
def wsX8_where : List Cond := .code yX8_where cX8_where 3 (some .int) :: ((wsX8_where_r1 ++ (wsX8_where_r2 ++ wsX8_where_r3)) ++ wsX70 ++ wsX80 ++ wsX40)
def wsX8_same_r1 : List Cond := [Cond.methodLink RX8 150 yX8_isRow, Cond.instanceMethod yX8_isRow, Cond.selects RX8 yX8_isRow yX8_isRow, Cond.initialized RX8, Cond.code yX8_isRow cX8_isRow 2 (some .boolean), Cond.fieldLink RX8 134 "BellTouches$Touch" "last" "I", Cond.methodLink RX8 130 yX8_rung, Cond.instanceMethod yX8_rung, Cond.selects RX8 yX8_rung yX8_rung, Cond.code yX8_rung cX8_rung 1 (some (.object "BellTouches$Touch")), Cond.fieldLink RX8 58 "BellTouches" "stale" "Z", Cond.fieldLink RX8 27 "BellTouches" "touch" "LBellTouches$Touch;", Cond.fieldLink RX8 14 "BellTouches" "setup" "LBellTouches$Setup;", Cond.methodLink RX8 219 yX7_ring, Cond.instanceMethod yX7_ring, Cond.selects RX7 yX7_ring yX7_ring, Cond.initialized RX7, Cond.code yX7_ring cX7_ring 4 none, Cond.fieldLink RX7 46 "BellTouches$Setup" "leadCount" "I", Cond.fieldLink RX7 19 "BellTouches$Touch" "changeCount" "I", Cond.fieldLink RX7 51 "BellTouches$Setup" "leadCalls" "[I", Cond.methodLink RX7 42 yX7_begin, Cond.instanceMethod yX7_begin, Cond.selects RX7 yX7_begin yX7_begin]
def wsX8_same_r2 : List Cond := [Cond.code yX7_begin cX7_begin 4 none, Cond.fieldLink RX7 58 "BellTouches$Setup" "changeCount" "I", Cond.fieldLink RX7 22 "BellTouches$Touch" "pairs" "[I", Cond.fieldLink RX7 59 "BellTouches$Setup" "n" "I", Cond.fieldLink RX7 62 "BellTouches$Setup" "changes" "[I", Cond.fieldLink RX7 25 "BellTouches$Touch" "lastPairs" "[I", Cond.fieldLink RX7 9 "BellTouches$Touch" "rows" "[I", Cond.fieldLink RX7 15 "BellTouches$Touch" "last" "I", Cond.fieldLink RX7 38 "BellTouches$Touch" "compared" "Z", Cond.methodLink RX7 65 yX2_pairs, Cond.static yX2_pairs, Cond.initialized RX2, Cond.code yX2_pairs cX2_pairs 4 (some .int), Cond.methodLink RX2 21 yX2_isKept, Cond.static yX2_isKept, Cond.code yX2_isKept cX2_isKept 2 (some .boolean), Cond.methodLink RX7 70 yX4_calledChange, Cond.instanceMethod yX4_calledChange, Cond.selects RX4 yX4_calledChange yX4_calledChange, Cond.initialized RX4, Cond.code yX4_calledChange cX4_calledChange 2 (some .int), Cond.fieldLink RX4 22 "BellTouches$Setup" "bob" "I", Cond.fieldLink RX4 25 "BellTouches$Setup" "single" "I", Cond.methodLink RX7 74 yX2_rounds]
def wsX8_same_r3 : List Cond := [Cond.static yX2_rounds, Cond.code yX2_rounds cX2_rounds 3 (some .int), Cond.methodLink RX7 54 yX7_step, Cond.instanceMethod yX7_step, Cond.selects RX7 yX7_step yX7_step, Cond.code yX7_step cX7_step 4 none, Cond.methodLink RX7 77 yX2_swapped, Cond.static yX2_swapped, Cond.code yX2_swapped cX2_swapped 3 (some .int), Cond.methodLink RX8 166 yX7_firstAs, Cond.instanceMethod yX7_firstAs, Cond.selects RX7 yX7_firstAs yX7_firstAs, Cond.code yX7_firstAs cX7_firstAs 2 (some .int), Cond.fieldLink RX7 28 "BellTouches$Touch" "firsts" "[I", Cond.methodLink RX7 80 yX7_compare, Cond.instanceMethod yX7_compare, Cond.selects RX7 yX7_compare yX7_compare, Cond.code yX7_compare cX7_compare 2 none, Cond.fieldLink RX7 34 "BellTouches$Touch" "table" "LBellTouches$RowTable;", Cond.methodLink RX7 87 yX3_enter, Cond.instanceMethod yX3_enter, Cond.selects RX3 yX3_enter yX3_enter, Cond.initialized RX3, Cond.code yX3_enter cX3_enter 7 (some .int)]
def wsX8_same_r4 : List Cond := [Cond.fieldLink RX3 9 "BellTouches$RowTable" "numbers" "[I", Cond.methodLink RX3 13 yX3_start, Cond.static yX3_start, Cond.code yX3_start cX3_start 1 (some .int), Cond.constant RX3 17 (-1640531535), Cond.methodLink RX7 91 yX3_leave, Cond.instanceMethod yX3_leave, Cond.selects RX3 yX3_leave yX3_leave, Cond.code yX3_leave cX3_leave 6 none]
def wsX8_same : List Cond := .code yX8_same cX8_same 2 (some .int) :: ((wsX8_same_r1 ++ (wsX8_same_r2 ++ (wsX8_same_r3 ++ wsX8_same_r4))) ++ wsX70 ++ wsX80 ++ wsX40 ++ wsX30)
def wsX8_good : List Cond := .code yX8_good cX8_good 2 (some .int) :: ([.fieldLink RX8 14 "BellTouches" "setup" "LBellTouches$Setup;", .fieldLink RX8 62 "BellTouches$Setup" "n" "I", .methodLink RX8 70 yX8_isPlaces, .instanceMethod yX8_isPlaces, .selects RX8 yX8_isPlaces yX8_isPlaces, .initialized RX8, .code yX8_isPlaces cX8_isPlaces 2 (some .boolean), .methodLink RX8 74 yX2_isGood, .static yX2_isGood, .initialized RX2, .code yX2_isGood cX2_isGood 2 (some .boolean), .methodLink RX2 18 yX2_pairs, .static yX2_pairs, .code yX2_pairs cX2_pairs 4 (some .int), .methodLink RX2 21 yX2_isKept, .static yX2_isKept, .code yX2_isKept cX2_isKept 2 (some .boolean)] ++ wsX80 ++ wsX40)
def wsX8_countMusic_r1 : List Cond := [Cond.fieldLink RX8 156 "BellTouches$Touch" "rows" "[I", Cond.fieldLink RX8 27 "BellTouches" "touch" "LBellTouches$Touch;", Cond.fieldLink RX8 134 "BellTouches$Touch" "last" "I", Cond.fieldLink RX8 14 "BellTouches" "setup" "LBellTouches$Setup;", Cond.methodLink RX8 130 yX8_rung, Cond.instanceMethod yX8_rung, Cond.selects RX8 yX8_rung yX8_rung, Cond.initialized RX8, Cond.code yX8_rung cX8_rung 1 (some (.object "BellTouches$Touch")), Cond.fieldLink RX8 58 "BellTouches" "stale" "Z", Cond.methodLink RX8 219 yX7_ring, Cond.instanceMethod yX7_ring, Cond.selects RX7 yX7_ring yX7_ring, Cond.initialized RX7, Cond.code yX7_ring cX7_ring 4 none, Cond.fieldLink RX7 46 "BellTouches$Setup" "leadCount" "I", Cond.fieldLink RX7 19 "BellTouches$Touch" "changeCount" "I", Cond.fieldLink RX7 51 "BellTouches$Setup" "leadCalls" "[I", Cond.methodLink RX7 42 yX7_begin, Cond.instanceMethod yX7_begin, Cond.selects RX7 yX7_begin yX7_begin, Cond.code yX7_begin cX7_begin 4 none, Cond.fieldLink RX7 58 "BellTouches$Setup" "changeCount" "I", Cond.fieldLink RX7 22 "BellTouches$Touch" "pairs" "[I"]
def wsX8_countMusic_r2 : List Cond := [Cond.fieldLink RX7 59 "BellTouches$Setup" "n" "I", Cond.fieldLink RX7 62 "BellTouches$Setup" "changes" "[I", Cond.fieldLink RX7 25 "BellTouches$Touch" "lastPairs" "[I", Cond.fieldLink RX7 9 "BellTouches$Touch" "rows" "[I", Cond.fieldLink RX7 15 "BellTouches$Touch" "last" "I", Cond.fieldLink RX7 38 "BellTouches$Touch" "compared" "Z", Cond.methodLink RX7 65 yX2_pairs, Cond.static yX2_pairs, Cond.initialized RX2, Cond.code yX2_pairs cX2_pairs 4 (some .int), Cond.methodLink RX2 21 yX2_isKept, Cond.static yX2_isKept, Cond.code yX2_isKept cX2_isKept 2 (some .boolean), Cond.methodLink RX7 70 yX4_calledChange, Cond.instanceMethod yX4_calledChange, Cond.selects RX4 yX4_calledChange yX4_calledChange, Cond.initialized RX4, Cond.code yX4_calledChange cX4_calledChange 2 (some .int), Cond.fieldLink RX4 22 "BellTouches$Setup" "bob" "I", Cond.fieldLink RX4 25 "BellTouches$Setup" "single" "I", Cond.methodLink RX7 74 yX2_rounds, Cond.static yX2_rounds, Cond.code yX2_rounds cX2_rounds 3 (some .int), Cond.methodLink RX7 54 yX7_step]
def wsX8_countMusic_r3 : List Cond := [Cond.instanceMethod yX7_step, Cond.selects RX7 yX7_step yX7_step, Cond.code yX7_step cX7_step 4 none, Cond.methodLink RX7 77 yX2_swapped, Cond.static yX2_swapped, Cond.code yX2_swapped cX2_swapped 3 (some .int), Cond.methodLink RX8 256 yX4_isMusic, Cond.instanceMethod yX4_isMusic, Cond.selects RX4 yX4_isMusic yX4_isMusic, Cond.code yX4_isMusic cX4_isMusic 4 (some .boolean), Cond.fieldLink RX4 9 "BellTouches$Setup" "n" "I", Cond.constant RX4 71 (65535), Cond.methodLink RX4 65 yX2_rounds, Cond.methodLink RX4 72 yX4_holdsPattern, Cond.instanceMethod yX4_holdsPattern, Cond.selects RX4 yX4_holdsPattern yX4_holdsPattern, Cond.code yX4_holdsPattern cX4_holdsPattern 4 (some .boolean), Cond.fieldLink RX4 34 "BellTouches$Setup" "patternBells" "[I", Cond.methodLink RX4 80 yX2_bellIn, Cond.static yX2_bellIn, Cond.code yX2_bellIn cX2_bellIn 2 (some .int), Cond.methodLink RX4 76 yX2_isRightAhead, Cond.static yX2_isRightAhead, Cond.code yX2_isRightAhead cX2_isRightAhead 3 (some .boolean)]
def wsX8_countMusic_r4 : List Cond := [Cond.methodLink RX2 15 yX2_placeOf, Cond.static yX2_placeOf, Cond.code yX2_placeOf cX2_placeOf 3 (some .int), Cond.methodLink RX2 9 yX2_bellIn]
def wsX8_countMusic : List Cond := .code yX8_countMusic cX8_countMusic 5 (some .int) :: ((wsX8_countMusic_r1 ++ (wsX8_countMusic_r2 ++ (wsX8_countMusic_r3 ++ wsX8_countMusic_r4))) ++ wsX70 ++ wsX80 ++ wsX40)
def wsX8_music_r1 : List Cond := [Cond.methodLink RX8 169 yX8_countMusic, Cond.instanceMethod yX8_countMusic, Cond.selects RX8 yX8_countMusic yX8_countMusic, Cond.initialized RX8, Cond.code yX8_countMusic cX8_countMusic 5 (some .int), Cond.fieldLink RX8 156 "BellTouches$Touch" "rows" "[I", Cond.fieldLink RX8 27 "BellTouches" "touch" "LBellTouches$Touch;", Cond.fieldLink RX8 134 "BellTouches$Touch" "last" "I", Cond.fieldLink RX8 14 "BellTouches" "setup" "LBellTouches$Setup;", Cond.methodLink RX8 130 yX8_rung, Cond.instanceMethod yX8_rung, Cond.selects RX8 yX8_rung yX8_rung, Cond.code yX8_rung cX8_rung 1 (some (.object "BellTouches$Touch")), Cond.fieldLink RX8 58 "BellTouches" "stale" "Z", Cond.methodLink RX8 219 yX7_ring, Cond.instanceMethod yX7_ring, Cond.selects RX7 yX7_ring yX7_ring, Cond.initialized RX7, Cond.code yX7_ring cX7_ring 4 none, Cond.fieldLink RX7 46 "BellTouches$Setup" "leadCount" "I", Cond.fieldLink RX7 19 "BellTouches$Touch" "changeCount" "I", Cond.fieldLink RX7 51 "BellTouches$Setup" "leadCalls" "[I", Cond.methodLink RX7 42 yX7_begin, Cond.instanceMethod yX7_begin]
def wsX8_music_r2 : List Cond := [Cond.selects RX7 yX7_begin yX7_begin, Cond.code yX7_begin cX7_begin 4 none, Cond.fieldLink RX7 58 "BellTouches$Setup" "changeCount" "I", Cond.fieldLink RX7 22 "BellTouches$Touch" "pairs" "[I", Cond.fieldLink RX7 59 "BellTouches$Setup" "n" "I", Cond.fieldLink RX7 62 "BellTouches$Setup" "changes" "[I", Cond.fieldLink RX7 25 "BellTouches$Touch" "lastPairs" "[I", Cond.fieldLink RX7 9 "BellTouches$Touch" "rows" "[I", Cond.fieldLink RX7 15 "BellTouches$Touch" "last" "I", Cond.fieldLink RX7 38 "BellTouches$Touch" "compared" "Z", Cond.methodLink RX7 65 yX2_pairs, Cond.static yX2_pairs, Cond.initialized RX2, Cond.code yX2_pairs cX2_pairs 4 (some .int), Cond.methodLink RX2 21 yX2_isKept, Cond.static yX2_isKept, Cond.code yX2_isKept cX2_isKept 2 (some .boolean), Cond.methodLink RX7 70 yX4_calledChange, Cond.instanceMethod yX4_calledChange, Cond.selects RX4 yX4_calledChange yX4_calledChange, Cond.initialized RX4, Cond.code yX4_calledChange cX4_calledChange 2 (some .int), Cond.fieldLink RX4 22 "BellTouches$Setup" "bob" "I", Cond.fieldLink RX4 25 "BellTouches$Setup" "single" "I"]
def wsX8_music_r3 : List Cond := [Cond.methodLink RX7 74 yX2_rounds, Cond.static yX2_rounds, Cond.code yX2_rounds cX2_rounds 3 (some .int), Cond.methodLink RX7 54 yX7_step, Cond.instanceMethod yX7_step, Cond.selects RX7 yX7_step yX7_step, Cond.code yX7_step cX7_step 4 none, Cond.methodLink RX7 77 yX2_swapped, Cond.static yX2_swapped, Cond.code yX2_swapped cX2_swapped 3 (some .int), Cond.methodLink RX8 256 yX4_isMusic, Cond.instanceMethod yX4_isMusic, Cond.selects RX4 yX4_isMusic yX4_isMusic, Cond.code yX4_isMusic cX4_isMusic 4 (some .boolean), Cond.fieldLink RX4 9 "BellTouches$Setup" "n" "I", Cond.constant RX4 71 (65535), Cond.methodLink RX4 65 yX2_rounds, Cond.methodLink RX4 72 yX4_holdsPattern, Cond.instanceMethod yX4_holdsPattern, Cond.selects RX4 yX4_holdsPattern yX4_holdsPattern, Cond.code yX4_holdsPattern cX4_holdsPattern 4 (some .boolean), Cond.fieldLink RX4 34 "BellTouches$Setup" "patternBells" "[I", Cond.methodLink RX4 80 yX2_bellIn, Cond.static yX2_bellIn]
def wsX8_music_r4 : List Cond := [Cond.code yX2_bellIn cX2_bellIn 2 (some .int), Cond.methodLink RX4 76 yX2_isRightAhead, Cond.static yX2_isRightAhead, Cond.code yX2_isRightAhead cX2_isRightAhead 3 (some .boolean), Cond.methodLink RX2 15 yX2_placeOf, Cond.static yX2_placeOf, Cond.code yX2_placeOf cX2_placeOf 3 (some .int), Cond.methodLink RX2 9 yX2_bellIn]
def wsX8_music : List Cond := .code yX8_music cX8_music 2 (some .int) :: ((wsX8_music_r1 ++ (wsX8_music_r2 ++ (wsX8_music_r3 ++ wsX8_music_r4))) ++ wsX70 ++ wsX80 ++ wsX40)
def wsX8_least_r1 : List Cond := [Cond.fieldLink RX8 37 "BellTouches" "fewest" "LBellTouches$Fewest;", Cond.fieldLink RX8 14 "BellTouches" "setup" "LBellTouches$Setup;", Cond.fieldLink RX8 176 "BellTouches$Fewest" "number" "I", Cond.fieldLink RX8 179 "BellTouches$Fewest" "notPlain" "I", Cond.methodLink RX8 172 yX0_find, Cond.instanceMethod yX0_find, Cond.selects RX0 yX0_find yX0_find, Cond.initialized RX0, Cond.code yX0_find cX0_find 3 none, Cond.fieldLink RX0 9 "BellTouches$Fewest" "number" "I", Cond.fieldLink RX0 15 "BellTouches$Fewest" "notPlain" "I", Cond.fieldLink RX0 36 "BellTouches$Fewest" "leadCount" "I", Cond.fieldLink RX0 39 "BellTouches$Fewest" "bound" "I", Cond.fieldLink RX0 32 "BellTouches$Fewest" "thereIs" "[Z", Cond.fieldLink RX0 42 "BellTouches$Setup" "bob" "I", Cond.fieldLink RX0 47 "BellTouches$Setup" "single" "I", Cond.fieldLink RX0 21 "BellTouches$Fewest" "touch" "LBellTouches$Touch;", Cond.fieldLink RX0 54 "BellTouches$Touch" "changeCount" "I", Cond.fieldLink RX0 28 "BellTouches$Fewest" "table" "LBellTouches$RowTable;", Cond.fieldLink RX0 57 "BellTouches$Touch" "rows" "[I", Cond.methodLink RX0 50 yX7_begin, Cond.instanceMethod yX7_begin, Cond.selects RX7 yX7_begin yX7_begin, Cond.initialized RX7]
def wsX8_least_r2 : List Cond := [Cond.code yX7_begin cX7_begin 4 none, Cond.fieldLink RX7 58 "BellTouches$Setup" "changeCount" "I", Cond.fieldLink RX7 19 "BellTouches$Touch" "changeCount" "I", Cond.fieldLink RX7 22 "BellTouches$Touch" "pairs" "[I", Cond.fieldLink RX7 59 "BellTouches$Setup" "n" "I", Cond.fieldLink RX7 62 "BellTouches$Setup" "changes" "[I", Cond.fieldLink RX7 25 "BellTouches$Touch" "lastPairs" "[I", Cond.fieldLink RX7 9 "BellTouches$Touch" "rows" "[I", Cond.fieldLink RX7 15 "BellTouches$Touch" "last" "I", Cond.fieldLink RX7 38 "BellTouches$Touch" "compared" "Z", Cond.methodLink RX7 65 yX2_pairs, Cond.static yX2_pairs, Cond.initialized RX2, Cond.code yX2_pairs cX2_pairs 4 (some .int), Cond.methodLink RX2 21 yX2_isKept, Cond.static yX2_isKept, Cond.code yX2_isKept cX2_isKept 2 (some .boolean), Cond.methodLink RX7 70 yX4_calledChange, Cond.instanceMethod yX4_calledChange, Cond.selects RX4 yX4_calledChange yX4_calledChange, Cond.initialized RX4, Cond.code yX4_calledChange cX4_calledChange 2 (some .int), Cond.fieldLink RX4 22 "BellTouches$Setup" "bob" "I", Cond.fieldLink RX4 25 "BellTouches$Setup" "single" "I"]
def wsX8_least_r3 : List Cond := [Cond.methodLink RX7 74 yX2_rounds, Cond.static yX2_rounds, Cond.code yX2_rounds cX2_rounds 3 (some .int), Cond.methodLink RX0 61 yX3_enter, Cond.instanceMethod yX3_enter, Cond.selects RX3 yX3_enter yX3_enter, Cond.initialized RX3, Cond.code yX3_enter cX3_enter 7 (some .int), Cond.fieldLink RX3 9 "BellTouches$RowTable" "numbers" "[I", Cond.methodLink RX3 13 yX3_start, Cond.static yX3_start, Cond.code yX3_start cX3_start 1 (some .int), Cond.constant RX3 17 (-1640531535), Cond.methodLink RX0 65 yX0_search, Cond.static yX0_search, Cond.code yX0_search cX0_search 8 none, Cond.fieldLink RX0 73 "BellTouches$Touch" "last" "I", Cond.methodLink RX0 76 yX0_ringTillAgain, Cond.instanceMethod yX0_ringTillAgain, Cond.selects RX0 yX0_ringTillAgain yX0_ringTillAgain, Cond.code yX0_ringTillAgain cX0_ringTillAgain 3 (some .int), Cond.methodLink RX0 88 yX7_step, Cond.instanceMethod yX7_step, Cond.selects RX7 yX7_step yX7_step]
def wsX8_least_r4 : List Cond := [Cond.code yX7_step cX7_step 4 none, Cond.methodLink RX7 77 yX2_swapped, Cond.static yX2_swapped, Cond.code yX2_swapped cX2_swapped 3 (some .int), Cond.methodLink RX0 80 yX0_isEnd, Cond.instanceMethod yX0_isEnd, Cond.selects RX0 yX0_isEnd yX0_isEnd, Cond.code yX0_isEnd cX0_isEnd 2 (some .boolean), Cond.methodLink RX0 84 yX0_backTo, Cond.instanceMethod yX0_backTo, Cond.selects RX0 yX0_backTo yX0_backTo, Cond.code yX0_backTo cX0_backTo 3 none, Cond.methodLink RX0 69 yX3_leave, Cond.instanceMethod yX3_leave, Cond.selects RX3 yX3_leave yX3_leave, Cond.code yX3_leave cX3_leave 6 none]
def wsX8_least : List Cond := .code yX8_least cX8_least 3 (some .int) :: ((wsX8_least_r1 ++ (wsX8_least_r2 ++ (wsX8_least_r3 ++ wsX8_least_r4))) ++ wsX80 ++ wsX00 ++ wsX40 ++ wsX70 ++ wsX30)
def wsX8_still_r1 : List Cond := [Cond.fieldLink RX8 156 "BellTouches$Touch" "rows" "[I", Cond.fieldLink RX8 27 "BellTouches" "touch" "LBellTouches$Touch;", Cond.fieldLink RX8 134 "BellTouches$Touch" "last" "I", Cond.methodLink RX8 153 yX8_isBell, Cond.instanceMethod yX8_isBell, Cond.selects RX8 yX8_isBell yX8_isBell, Cond.initialized RX8, Cond.code yX8_isBell cX8_isBell 2 (some .boolean), Cond.fieldLink RX8 14 "BellTouches" "setup" "LBellTouches$Setup;", Cond.fieldLink RX8 62 "BellTouches$Setup" "n" "I", Cond.methodLink RX8 130 yX8_rung, Cond.instanceMethod yX8_rung, Cond.selects RX8 yX8_rung yX8_rung, Cond.code yX8_rung cX8_rung 1 (some (.object "BellTouches$Touch")), Cond.fieldLink RX8 58 "BellTouches" "stale" "Z", Cond.methodLink RX8 219 yX7_ring, Cond.instanceMethod yX7_ring, Cond.selects RX7 yX7_ring yX7_ring, Cond.initialized RX7, Cond.code yX7_ring cX7_ring 4 none, Cond.fieldLink RX7 46 "BellTouches$Setup" "leadCount" "I", Cond.fieldLink RX7 19 "BellTouches$Touch" "changeCount" "I", Cond.fieldLink RX7 51 "BellTouches$Setup" "leadCalls" "[I", Cond.methodLink RX7 42 yX7_begin]
def wsX8_still_r2 : List Cond := [Cond.instanceMethod yX7_begin, Cond.selects RX7 yX7_begin yX7_begin, Cond.code yX7_begin cX7_begin 4 none, Cond.fieldLink RX7 58 "BellTouches$Setup" "changeCount" "I", Cond.fieldLink RX7 22 "BellTouches$Touch" "pairs" "[I", Cond.fieldLink RX7 59 "BellTouches$Setup" "n" "I", Cond.fieldLink RX7 62 "BellTouches$Setup" "changes" "[I", Cond.fieldLink RX7 25 "BellTouches$Touch" "lastPairs" "[I", Cond.fieldLink RX7 9 "BellTouches$Touch" "rows" "[I", Cond.fieldLink RX7 15 "BellTouches$Touch" "last" "I", Cond.fieldLink RX7 38 "BellTouches$Touch" "compared" "Z", Cond.methodLink RX7 65 yX2_pairs, Cond.static yX2_pairs, Cond.initialized RX2, Cond.code yX2_pairs cX2_pairs 4 (some .int), Cond.methodLink RX2 21 yX2_isKept, Cond.static yX2_isKept, Cond.code yX2_isKept cX2_isKept 2 (some .boolean), Cond.methodLink RX7 70 yX4_calledChange, Cond.instanceMethod yX4_calledChange, Cond.selects RX4 yX4_calledChange yX4_calledChange, Cond.initialized RX4, Cond.code yX4_calledChange cX4_calledChange 2 (some .int), Cond.fieldLink RX4 22 "BellTouches$Setup" "bob" "I"]
def wsX8_still_r3 : List Cond := [Cond.fieldLink RX4 25 "BellTouches$Setup" "single" "I", Cond.methodLink RX7 74 yX2_rounds, Cond.static yX2_rounds, Cond.code yX2_rounds cX2_rounds 3 (some .int), Cond.methodLink RX7 54 yX7_step, Cond.instanceMethod yX7_step, Cond.selects RX7 yX7_step yX7_step, Cond.code yX7_step cX7_step 4 none, Cond.methodLink RX7 77 yX2_swapped, Cond.static yX2_swapped, Cond.code yX2_swapped cX2_swapped 3 (some .int), Cond.methodLink RX8 163 yX2_placeOf, Cond.static yX2_placeOf, Cond.code yX2_placeOf cX2_placeOf 3 (some .int), Cond.methodLink RX2 9 yX2_bellIn, Cond.static yX2_bellIn, Cond.code yX2_bellIn cX2_bellIn 2 (some .int)]
def wsX8_still : List Cond := .code yX8_still cX8_still 5 (some .int) :: ((wsX8_still_r1 ++ (wsX8_still_r2 ++ wsX8_still_r3)) ++ wsX70 ++ wsX80 ++ wsX40)
def wsX8_ahead_r1 : List Cond := [Cond.fieldLink RX8 156 "BellTouches$Touch" "rows" "[I", Cond.fieldLink RX8 27 "BellTouches" "touch" "LBellTouches$Touch;", Cond.fieldLink RX8 134 "BellTouches$Touch" "last" "I", Cond.methodLink RX8 153 yX8_isBell, Cond.instanceMethod yX8_isBell, Cond.selects RX8 yX8_isBell yX8_isBell, Cond.initialized RX8, Cond.code yX8_isBell cX8_isBell 2 (some .boolean), Cond.fieldLink RX8 14 "BellTouches" "setup" "LBellTouches$Setup;", Cond.fieldLink RX8 62 "BellTouches$Setup" "n" "I", Cond.methodLink RX8 130 yX8_rung, Cond.instanceMethod yX8_rung, Cond.selects RX8 yX8_rung yX8_rung, Cond.code yX8_rung cX8_rung 1 (some (.object "BellTouches$Touch")), Cond.fieldLink RX8 58 "BellTouches" "stale" "Z", Cond.methodLink RX8 219 yX7_ring, Cond.instanceMethod yX7_ring, Cond.selects RX7 yX7_ring yX7_ring, Cond.initialized RX7, Cond.code yX7_ring cX7_ring 4 none, Cond.fieldLink RX7 46 "BellTouches$Setup" "leadCount" "I", Cond.fieldLink RX7 19 "BellTouches$Touch" "changeCount" "I", Cond.fieldLink RX7 51 "BellTouches$Setup" "leadCalls" "[I", Cond.methodLink RX7 42 yX7_begin]
def wsX8_ahead_r2 : List Cond := [Cond.instanceMethod yX7_begin, Cond.selects RX7 yX7_begin yX7_begin, Cond.code yX7_begin cX7_begin 4 none, Cond.fieldLink RX7 58 "BellTouches$Setup" "changeCount" "I", Cond.fieldLink RX7 22 "BellTouches$Touch" "pairs" "[I", Cond.fieldLink RX7 59 "BellTouches$Setup" "n" "I", Cond.fieldLink RX7 62 "BellTouches$Setup" "changes" "[I", Cond.fieldLink RX7 25 "BellTouches$Touch" "lastPairs" "[I", Cond.fieldLink RX7 9 "BellTouches$Touch" "rows" "[I", Cond.fieldLink RX7 15 "BellTouches$Touch" "last" "I", Cond.fieldLink RX7 38 "BellTouches$Touch" "compared" "Z", Cond.methodLink RX7 65 yX2_pairs, Cond.static yX2_pairs, Cond.initialized RX2, Cond.code yX2_pairs cX2_pairs 4 (some .int), Cond.methodLink RX2 21 yX2_isKept, Cond.static yX2_isKept, Cond.code yX2_isKept cX2_isKept 2 (some .boolean), Cond.methodLink RX7 70 yX4_calledChange, Cond.instanceMethod yX4_calledChange, Cond.selects RX4 yX4_calledChange yX4_calledChange, Cond.initialized RX4, Cond.code yX4_calledChange cX4_calledChange 2 (some .int), Cond.fieldLink RX4 22 "BellTouches$Setup" "bob" "I"]
def wsX8_ahead_r3 : List Cond := [Cond.fieldLink RX4 25 "BellTouches$Setup" "single" "I", Cond.methodLink RX7 74 yX2_rounds, Cond.static yX2_rounds, Cond.code yX2_rounds cX2_rounds 3 (some .int), Cond.methodLink RX7 54 yX7_step, Cond.instanceMethod yX7_step, Cond.selects RX7 yX7_step yX7_step, Cond.code yX7_step cX7_step 4 none, Cond.methodLink RX7 77 yX2_swapped, Cond.static yX2_swapped, Cond.code yX2_swapped cX2_swapped 3 (some .int), Cond.methodLink RX8 182 yX2_isRightAhead, Cond.static yX2_isRightAhead, Cond.code yX2_isRightAhead cX2_isRightAhead 3 (some .boolean), Cond.methodLink RX2 15 yX2_placeOf, Cond.static yX2_placeOf, Cond.code yX2_placeOf cX2_placeOf 3 (some .int), Cond.methodLink RX2 9 yX2_bellIn, Cond.static yX2_bellIn, Cond.code yX2_bellIn cX2_bellIn 2 (some .int)]
def wsX8_ahead : List Cond := .code yX8_ahead cX8_ahead 6 (some .int) :: ((wsX8_ahead_r1 ++ (wsX8_ahead_r2 ++ wsX8_ahead_r3)) ++ wsX70 ++ wsX80 ++ wsX40)
def wsX8_see : List Cond := .code yX8_see cX8_see 4 (some .int) :: ([.fieldLink RX8 14 "BellTouches" "setup" "LBellTouches$Setup;", .fieldLink RX8 186 "BellTouches$Setup" "seen" "LBellTouches$HandRows;", .fieldLink RX8 190 "BellTouches$HandRows" "size" "I", .methodLink RX8 153 yX8_isBell, .instanceMethod yX8_isBell, .selects RX8 yX8_isBell yX8_isBell, .initialized RX8, .code yX8_isBell cX8_isBell 2 (some .boolean), .fieldLink RX8 62 "BellTouches$Setup" "n" "I", .methodLink RX8 195 yX1_append, .instanceMethod yX1_append, .selects RX1 yX1_append yX1_append, .initialized RX1, .code yX1_append cX1_append 4 (some .boolean), .fieldLink RX1 7 "BellTouches$HandRows" "size" "I", .fieldLink RX1 13 "BellTouches$HandRows" "first" "[I", .fieldLink RX1 17 "BellTouches$HandRows" "second" "[I", .fieldLink RX1 20 "BellTouches$HandRows" "third" "[I"] ++ wsX80 ++ wsX40 ++ wsX10)
def wsX8_fitsLast_r1 : List Cond := [Cond.fieldLink RX8 21 "BellTouches" "trialSetup" "LBellTouches$Setup;", Cond.fieldLink RX8 80 "BellTouches$Setup" "changeCount" "I", Cond.fieldLink RX8 83 "BellTouches$Setup" "changes" "[I", Cond.fieldLink RX8 31 "BellTouches" "trial" "LBellTouches$Touch;", Cond.fieldLink RX8 14 "BellTouches" "setup" "LBellTouches$Setup;", Cond.fieldLink RX8 186 "BellTouches$Setup" "seen" "LBellTouches$HandRows;", Cond.fieldLink RX8 190 "BellTouches$HandRows" "size" "I", Cond.fieldLink RX8 225 "BellTouches$HandRows" "first" "[I", Cond.fieldLink RX8 134 "BellTouches$Touch" "last" "I", Cond.fieldLink RX8 156 "BellTouches$Touch" "rows" "[I", Cond.fieldLink RX8 228 "BellTouches$HandRows" "second" "[I", Cond.fieldLink RX8 259 "BellTouches$HandRows" "third" "[I", Cond.methodLink RX8 219 yX7_ring, Cond.instanceMethod yX7_ring, Cond.selects RX7 yX7_ring yX7_ring, Cond.initialized RX7, Cond.code yX7_ring cX7_ring 4 none, Cond.fieldLink RX7 46 "BellTouches$Setup" "leadCount" "I", Cond.fieldLink RX7 19 "BellTouches$Touch" "changeCount" "I", Cond.fieldLink RX7 51 "BellTouches$Setup" "leadCalls" "[I", Cond.methodLink RX7 42 yX7_begin, Cond.instanceMethod yX7_begin, Cond.selects RX7 yX7_begin yX7_begin, Cond.code yX7_begin cX7_begin 4 none]
def wsX8_fitsLast_r2 : List Cond := [Cond.fieldLink RX7 58 "BellTouches$Setup" "changeCount" "I", Cond.fieldLink RX7 22 "BellTouches$Touch" "pairs" "[I", Cond.fieldLink RX7 59 "BellTouches$Setup" "n" "I", Cond.fieldLink RX7 62 "BellTouches$Setup" "changes" "[I", Cond.fieldLink RX7 25 "BellTouches$Touch" "lastPairs" "[I", Cond.fieldLink RX7 9 "BellTouches$Touch" "rows" "[I", Cond.fieldLink RX7 15 "BellTouches$Touch" "last" "I", Cond.fieldLink RX7 38 "BellTouches$Touch" "compared" "Z", Cond.methodLink RX7 65 yX2_pairs, Cond.static yX2_pairs, Cond.initialized RX2, Cond.code yX2_pairs cX2_pairs 4 (some .int), Cond.methodLink RX2 21 yX2_isKept, Cond.static yX2_isKept, Cond.code yX2_isKept cX2_isKept 2 (some .boolean), Cond.methodLink RX7 70 yX4_calledChange, Cond.instanceMethod yX4_calledChange, Cond.selects RX4 yX4_calledChange yX4_calledChange, Cond.initialized RX4, Cond.code yX4_calledChange cX4_calledChange 2 (some .int), Cond.fieldLink RX4 22 "BellTouches$Setup" "bob" "I", Cond.fieldLink RX4 25 "BellTouches$Setup" "single" "I", Cond.methodLink RX7 74 yX2_rounds, Cond.static yX2_rounds]
def wsX8_fitsLast_r3 : List Cond := [Cond.code yX2_rounds cX2_rounds 3 (some .int), Cond.methodLink RX7 54 yX7_step, Cond.instanceMethod yX7_step, Cond.selects RX7 yX7_step yX7_step, Cond.code yX7_step cX7_step 4 none, Cond.methodLink RX7 77 yX2_swapped, Cond.static yX2_swapped, Cond.code yX2_swapped cX2_swapped 3 (some .int), Cond.methodLink RX8 159 yX2_bellIn, Cond.static yX2_bellIn, Cond.code yX2_bellIn cX2_bellIn 2 (some .int)]
def wsX8_fitsLast : List Cond := .code yX8_fitsLast cX8_fitsLast 6 (some .boolean) :: ((wsX8_fitsLast_r1 ++ (wsX8_fitsLast_r2 ++ wsX8_fitsLast_r3)) ++ wsX80 ++ wsX40 ++ wsX10 ++ wsX70)
def wsX8_fits_r1 : List Cond := [Cond.fieldLink RX8 21 "BellTouches" "trialSetup" "LBellTouches$Setup;", Cond.fieldLink RX8 14 "BellTouches" "setup" "LBellTouches$Setup;", Cond.fieldLink RX8 80 "BellTouches$Setup" "changeCount" "I", Cond.fieldLink RX8 62 "BellTouches$Setup" "n" "I", Cond.methodLink RX8 197 yX4_copyFrom, Cond.instanceMethod yX4_copyFrom, Cond.selects RX4 yX4_copyFrom yX4_copyFrom, Cond.initialized RX4, Cond.code yX4_copyFrom cX4_copyFrom 2 none, Cond.fieldLink RX4 9 "BellTouches$Setup" "n" "I", Cond.fieldLink RX4 19 "BellTouches$Setup" "changeCount" "I", Cond.fieldLink RX4 22 "BellTouches$Setup" "bob" "I", Cond.fieldLink RX4 25 "BellTouches$Setup" "single" "I", Cond.fieldLink RX4 31 "BellTouches$Setup" "leadCount" "I", Cond.fieldLink RX4 15 "BellTouches$Setup" "changes" "[I", Cond.methodLink RX4 55 arraycopyName, Cond.native arraycopyName, Cond.static arraycopyName, Cond.initialized "java/lang/System", Cond.fieldLink RX4 28 "BellTouches$Setup" "leadCalls" "[I", Cond.fieldLink RX4 34 "BellTouches$Setup" "patternBells" "[I", Cond.fieldLink RX4 42 "BellTouches$Setup" "seen" "LBellTouches$HandRows;", Cond.fieldLink RX4 46 "BellTouches$Setup" "events" "LBellTouches$HandRows;", Cond.fieldLink RX4 49 "BellTouches$Setup" "book" "LBellTouches$HandRows;"]
def wsX8_fits_r2 : List Cond := [Cond.methodLink RX4 61 yX1_copyFrom, Cond.instanceMethod yX1_copyFrom, Cond.selects RX1 yX1_copyFrom yX1_copyFrom, Cond.initialized RX1, Cond.code yX1_copyFrom cX1_copyFrom 3 none, Cond.fieldLink RX1 7 "BellTouches$HandRows" "size" "I", Cond.fieldLink RX1 13 "BellTouches$HandRows" "first" "[I", Cond.fieldLink RX1 17 "BellTouches$HandRows" "second" "[I", Cond.fieldLink RX1 20 "BellTouches$HandRows" "third" "[I", Cond.methodLink RX1 23 yX1_append, Cond.instanceMethod yX1_append, Cond.selects RX1 yX1_append yX1_append, Cond.code yX1_append cX1_append 4 (some .boolean), Cond.methodLink RX8 74 yX2_isGood, Cond.static yX2_isGood, Cond.initialized RX2, Cond.code yX2_isGood cX2_isGood 2 (some .boolean), Cond.methodLink RX2 18 yX2_pairs, Cond.static yX2_pairs, Cond.code yX2_pairs cX2_pairs 4 (some .int), Cond.methodLink RX2 21 yX2_isKept, Cond.static yX2_isKept, Cond.code yX2_isKept cX2_isKept 2 (some .boolean), Cond.methodLink RX8 201 yX8_fitsLast]
def wsX8_fits_r3 : List Cond := [Cond.instanceMethod yX8_fitsLast, Cond.selects RX8 yX8_fitsLast yX8_fitsLast, Cond.initialized RX8, Cond.code yX8_fitsLast cX8_fitsLast 6 (some .boolean), Cond.fieldLink RX8 83 "BellTouches$Setup" "changes" "[I", Cond.fieldLink RX8 31 "BellTouches" "trial" "LBellTouches$Touch;", Cond.fieldLink RX8 186 "BellTouches$Setup" "seen" "LBellTouches$HandRows;", Cond.fieldLink RX8 190 "BellTouches$HandRows" "size" "I", Cond.fieldLink RX8 225 "BellTouches$HandRows" "first" "[I", Cond.fieldLink RX8 134 "BellTouches$Touch" "last" "I", Cond.fieldLink RX8 156 "BellTouches$Touch" "rows" "[I", Cond.fieldLink RX8 228 "BellTouches$HandRows" "second" "[I", Cond.fieldLink RX8 259 "BellTouches$HandRows" "third" "[I", Cond.methodLink RX8 219 yX7_ring, Cond.instanceMethod yX7_ring, Cond.selects RX7 yX7_ring yX7_ring, Cond.initialized RX7, Cond.code yX7_ring cX7_ring 4 none, Cond.fieldLink RX7 46 "BellTouches$Setup" "leadCount" "I", Cond.fieldLink RX7 19 "BellTouches$Touch" "changeCount" "I", Cond.fieldLink RX7 51 "BellTouches$Setup" "leadCalls" "[I", Cond.methodLink RX7 42 yX7_begin, Cond.instanceMethod yX7_begin, Cond.selects RX7 yX7_begin yX7_begin]
def wsX8_fits_r4 : List Cond := [Cond.code yX7_begin cX7_begin 4 none, Cond.fieldLink RX7 58 "BellTouches$Setup" "changeCount" "I", Cond.fieldLink RX7 22 "BellTouches$Touch" "pairs" "[I", Cond.fieldLink RX7 59 "BellTouches$Setup" "n" "I", Cond.fieldLink RX7 62 "BellTouches$Setup" "changes" "[I", Cond.fieldLink RX7 25 "BellTouches$Touch" "lastPairs" "[I", Cond.fieldLink RX7 9 "BellTouches$Touch" "rows" "[I", Cond.fieldLink RX7 15 "BellTouches$Touch" "last" "I", Cond.fieldLink RX7 38 "BellTouches$Touch" "compared" "Z", Cond.methodLink RX7 65 yX2_pairs, Cond.methodLink RX7 70 yX4_calledChange, Cond.instanceMethod yX4_calledChange, Cond.selects RX4 yX4_calledChange yX4_calledChange, Cond.code yX4_calledChange cX4_calledChange 2 (some .int), Cond.methodLink RX7 74 yX2_rounds, Cond.static yX2_rounds, Cond.code yX2_rounds cX2_rounds 3 (some .int), Cond.methodLink RX7 54 yX7_step, Cond.instanceMethod yX7_step, Cond.selects RX7 yX7_step yX7_step, Cond.code yX7_step cX7_step 4 none, Cond.methodLink RX7 77 yX2_swapped, Cond.static yX2_swapped, Cond.code yX2_swapped cX2_swapped 3 (some .int)]
def wsX8_fits_r5 : List Cond := [Cond.methodLink RX8 159 yX2_bellIn, Cond.static yX2_bellIn, Cond.code yX2_bellIn cX2_bellIn 2 (some .int)]
def wsX8_fits : List Cond := .code yX8_fits cX8_fits 6 (some .int) :: ((wsX8_fits_r1 ++ (wsX8_fits_r2 ++ (wsX8_fits_r3 ++ (wsX8_fits_r4 ++ wsX8_fits_r5)))) ++ wsX80 ++ wsX40 ++ wsX10 ++ wsX70)
def wsX8_isPart : List Cond := .code yX8_isPart cX8_isPart 1 (some .boolean) :: ([])
def wsX8_lowestTerms : List Cond := .code yX8_lowestTerms cX8_lowestTerms 5 (some .long) :: ([])
def wsX8_odds_r1 : List Cond := [Cond.constantLong RX8 207 (-9223372036854775808), Cond.fieldLink RX8 156 "BellTouches$Touch" "rows" "[I", Cond.fieldLink RX8 27 "BellTouches" "touch" "LBellTouches$Touch;", Cond.fieldLink RX8 134 "BellTouches$Touch" "last" "I", Cond.methodLink RX8 153 yX8_isBell, Cond.instanceMethod yX8_isBell, Cond.selects RX8 yX8_isBell yX8_isBell, Cond.initialized RX8, Cond.code yX8_isBell cX8_isBell 2 (some .boolean), Cond.fieldLink RX8 14 "BellTouches" "setup" "LBellTouches$Setup;", Cond.fieldLink RX8 62 "BellTouches$Setup" "n" "I", Cond.methodLink RX8 204 yX8_isPart, Cond.static yX8_isPart, Cond.code yX8_isPart cX8_isPart 1 (some .boolean), Cond.methodLink RX8 130 yX8_rung, Cond.instanceMethod yX8_rung, Cond.selects RX8 yX8_rung yX8_rung, Cond.code yX8_rung cX8_rung 1 (some (.object "BellTouches$Touch")), Cond.fieldLink RX8 58 "BellTouches" "stale" "Z", Cond.methodLink RX8 219 yX7_ring, Cond.instanceMethod yX7_ring, Cond.selects RX7 yX7_ring yX7_ring, Cond.initialized RX7, Cond.code yX7_ring cX7_ring 4 none]
def wsX8_odds_r2 : List Cond := [Cond.fieldLink RX7 46 "BellTouches$Setup" "leadCount" "I", Cond.fieldLink RX7 19 "BellTouches$Touch" "changeCount" "I", Cond.fieldLink RX7 51 "BellTouches$Setup" "leadCalls" "[I", Cond.methodLink RX7 42 yX7_begin, Cond.instanceMethod yX7_begin, Cond.selects RX7 yX7_begin yX7_begin, Cond.code yX7_begin cX7_begin 4 none, Cond.fieldLink RX7 58 "BellTouches$Setup" "changeCount" "I", Cond.fieldLink RX7 22 "BellTouches$Touch" "pairs" "[I", Cond.fieldLink RX7 59 "BellTouches$Setup" "n" "I", Cond.fieldLink RX7 62 "BellTouches$Setup" "changes" "[I", Cond.fieldLink RX7 25 "BellTouches$Touch" "lastPairs" "[I", Cond.fieldLink RX7 9 "BellTouches$Touch" "rows" "[I", Cond.fieldLink RX7 15 "BellTouches$Touch" "last" "I", Cond.fieldLink RX7 38 "BellTouches$Touch" "compared" "Z", Cond.methodLink RX7 65 yX2_pairs, Cond.static yX2_pairs, Cond.initialized RX2, Cond.code yX2_pairs cX2_pairs 4 (some .int), Cond.methodLink RX2 21 yX2_isKept, Cond.static yX2_isKept, Cond.code yX2_isKept cX2_isKept 2 (some .boolean), Cond.methodLink RX7 70 yX4_calledChange, Cond.instanceMethod yX4_calledChange]
def wsX8_odds_r3 : List Cond := [Cond.selects RX4 yX4_calledChange yX4_calledChange, Cond.initialized RX4, Cond.code yX4_calledChange cX4_calledChange 2 (some .int), Cond.fieldLink RX4 22 "BellTouches$Setup" "bob" "I", Cond.fieldLink RX4 25 "BellTouches$Setup" "single" "I", Cond.methodLink RX7 74 yX2_rounds, Cond.static yX2_rounds, Cond.code yX2_rounds cX2_rounds 3 (some .int), Cond.methodLink RX7 54 yX7_step, Cond.instanceMethod yX7_step, Cond.selects RX7 yX7_step yX7_step, Cond.code yX7_step cX7_step 4 none, Cond.methodLink RX7 77 yX2_swapped, Cond.static yX2_swapped, Cond.code yX2_swapped cX2_swapped 3 (some .int), Cond.methodLink RX8 159 yX2_bellIn, Cond.static yX2_bellIn, Cond.code yX2_bellIn cX2_bellIn 2 (some .int), Cond.methodLink RX8 209 yX8_lowestTerms, Cond.static yX8_lowestTerms, Cond.code yX8_lowestTerms cX8_lowestTerms 5 (some .long)]
def wsX8_odds : List Cond := .code yX8_odds cX8_odds 7 (some .long) :: ((wsX8_odds_r1 ++ (wsX8_odds_r2 ++ wsX8_odds_r3)) ++ wsX70 ++ wsX80 ++ wsX40)
def wsX8_mean_r1 : List Cond := [Cond.constantLong RX8 207 (-9223372036854775808), Cond.fieldLink RX8 134 "BellTouches$Touch" "last" "I", Cond.methodLink RX8 204 yX8_isPart, Cond.static yX8_isPart, Cond.initialized RX8, Cond.code yX8_isPart cX8_isPart 1 (some .boolean), Cond.methodLink RX8 169 yX8_countMusic, Cond.instanceMethod yX8_countMusic, Cond.selects RX8 yX8_countMusic yX8_countMusic, Cond.code yX8_countMusic cX8_countMusic 5 (some .int), Cond.fieldLink RX8 156 "BellTouches$Touch" "rows" "[I", Cond.fieldLink RX8 27 "BellTouches" "touch" "LBellTouches$Touch;", Cond.fieldLink RX8 14 "BellTouches" "setup" "LBellTouches$Setup;", Cond.methodLink RX8 130 yX8_rung, Cond.instanceMethod yX8_rung, Cond.selects RX8 yX8_rung yX8_rung, Cond.code yX8_rung cX8_rung 1 (some (.object "BellTouches$Touch")), Cond.fieldLink RX8 58 "BellTouches" "stale" "Z", Cond.methodLink RX8 219 yX7_ring, Cond.instanceMethod yX7_ring, Cond.selects RX7 yX7_ring yX7_ring, Cond.initialized RX7, Cond.code yX7_ring cX7_ring 4 none, Cond.fieldLink RX7 46 "BellTouches$Setup" "leadCount" "I"]
def wsX8_mean_r2 : List Cond := [Cond.fieldLink RX7 19 "BellTouches$Touch" "changeCount" "I", Cond.fieldLink RX7 51 "BellTouches$Setup" "leadCalls" "[I", Cond.methodLink RX7 42 yX7_begin, Cond.instanceMethod yX7_begin, Cond.selects RX7 yX7_begin yX7_begin, Cond.code yX7_begin cX7_begin 4 none, Cond.fieldLink RX7 58 "BellTouches$Setup" "changeCount" "I", Cond.fieldLink RX7 22 "BellTouches$Touch" "pairs" "[I", Cond.fieldLink RX7 59 "BellTouches$Setup" "n" "I", Cond.fieldLink RX7 62 "BellTouches$Setup" "changes" "[I", Cond.fieldLink RX7 25 "BellTouches$Touch" "lastPairs" "[I", Cond.fieldLink RX7 9 "BellTouches$Touch" "rows" "[I", Cond.fieldLink RX7 15 "BellTouches$Touch" "last" "I", Cond.fieldLink RX7 38 "BellTouches$Touch" "compared" "Z", Cond.methodLink RX7 65 yX2_pairs, Cond.static yX2_pairs, Cond.initialized RX2, Cond.code yX2_pairs cX2_pairs 4 (some .int), Cond.methodLink RX2 21 yX2_isKept, Cond.static yX2_isKept, Cond.code yX2_isKept cX2_isKept 2 (some .boolean), Cond.methodLink RX7 70 yX4_calledChange, Cond.instanceMethod yX4_calledChange, Cond.selects RX4 yX4_calledChange yX4_calledChange]
def wsX8_mean_r3 : List Cond := [Cond.initialized RX4, Cond.code yX4_calledChange cX4_calledChange 2 (some .int), Cond.fieldLink RX4 22 "BellTouches$Setup" "bob" "I", Cond.fieldLink RX4 25 "BellTouches$Setup" "single" "I", Cond.methodLink RX7 74 yX2_rounds, Cond.static yX2_rounds, Cond.code yX2_rounds cX2_rounds 3 (some .int), Cond.methodLink RX7 54 yX7_step, Cond.instanceMethod yX7_step, Cond.selects RX7 yX7_step yX7_step, Cond.code yX7_step cX7_step 4 none, Cond.methodLink RX7 77 yX2_swapped, Cond.static yX2_swapped, Cond.code yX2_swapped cX2_swapped 3 (some .int), Cond.methodLink RX8 256 yX4_isMusic, Cond.instanceMethod yX4_isMusic, Cond.selects RX4 yX4_isMusic yX4_isMusic, Cond.code yX4_isMusic cX4_isMusic 4 (some .boolean), Cond.fieldLink RX4 9 "BellTouches$Setup" "n" "I", Cond.constant RX4 71 (65535), Cond.methodLink RX4 65 yX2_rounds, Cond.methodLink RX4 72 yX4_holdsPattern, Cond.instanceMethod yX4_holdsPattern, Cond.selects RX4 yX4_holdsPattern yX4_holdsPattern]
def wsX8_mean_r4 : List Cond := [Cond.code yX4_holdsPattern cX4_holdsPattern 4 (some .boolean), Cond.fieldLink RX4 34 "BellTouches$Setup" "patternBells" "[I", Cond.methodLink RX4 80 yX2_bellIn, Cond.static yX2_bellIn, Cond.code yX2_bellIn cX2_bellIn 2 (some .int), Cond.methodLink RX4 76 yX2_isRightAhead, Cond.static yX2_isRightAhead, Cond.code yX2_isRightAhead cX2_isRightAhead 3 (some .boolean), Cond.methodLink RX2 15 yX2_placeOf, Cond.static yX2_placeOf, Cond.code yX2_placeOf cX2_placeOf 3 (some .int), Cond.methodLink RX2 9 yX2_bellIn, Cond.methodLink RX8 209 yX8_lowestTerms, Cond.static yX8_lowestTerms, Cond.code yX8_lowestTerms cX8_lowestTerms 5 (some .long)]
def wsX8_mean : List Cond := .code yX8_mean cX8_mean 4 (some .long) :: ((wsX8_mean_r1 ++ (wsX8_mean_r2 ++ (wsX8_mean_r3 ++ wsX8_mean_r4))) ++ wsX70 ++ wsX80 ++ wsX40)
def wsX8_event : List Cond := .code yX8_event cX8_event 3 (some .int) :: ([.fieldLink RX8 14 "BellTouches" "setup" "LBellTouches$Setup;", .fieldLink RX8 213 "BellTouches$Setup" "events" "LBellTouches$HandRows;", .fieldLink RX8 190 "BellTouches$HandRows" "size" "I", .methodLink RX8 95 yX8_isLead, .static yX8_isLead, .initialized RX8, .code yX8_isLead cX8_isLead 1 (some .boolean), .methodLink RX8 195 yX1_append, .instanceMethod yX1_append, .selects RX1 yX1_append yX1_append, .initialized RX1, .code yX1_append cX1_append 4 (some .boolean), .fieldLink RX1 7 "BellTouches$HandRows" "size" "I", .fieldLink RX1 13 "BellTouches$HandRows" "first" "[I", .fieldLink RX1 17 "BellTouches$HandRows" "second" "[I", .fieldLink RX1 20 "BellTouches$HandRows" "third" "[I"] ++ wsX80 ++ wsX40 ++ wsX10)
def wsX8_after_r1 : List Cond := [Cond.fieldLink RX8 21 "BellTouches" "trialSetup" "LBellTouches$Setup;", Cond.fieldLink RX8 14 "BellTouches" "setup" "LBellTouches$Setup;", Cond.fieldLink RX8 31 "BellTouches" "trial" "LBellTouches$Touch;", Cond.methodLink RX8 197 yX4_copyFrom, Cond.instanceMethod yX4_copyFrom, Cond.selects RX4 yX4_copyFrom yX4_copyFrom, Cond.initialized RX4, Cond.code yX4_copyFrom cX4_copyFrom 2 none, Cond.fieldLink RX4 9 "BellTouches$Setup" "n" "I", Cond.fieldLink RX4 19 "BellTouches$Setup" "changeCount" "I", Cond.fieldLink RX4 22 "BellTouches$Setup" "bob" "I", Cond.fieldLink RX4 25 "BellTouches$Setup" "single" "I", Cond.fieldLink RX4 31 "BellTouches$Setup" "leadCount" "I", Cond.fieldLink RX4 15 "BellTouches$Setup" "changes" "[I", Cond.methodLink RX4 55 arraycopyName, Cond.native arraycopyName, Cond.static arraycopyName, Cond.initialized "java/lang/System", Cond.fieldLink RX4 28 "BellTouches$Setup" "leadCalls" "[I", Cond.fieldLink RX4 34 "BellTouches$Setup" "patternBells" "[I", Cond.fieldLink RX4 42 "BellTouches$Setup" "seen" "LBellTouches$HandRows;", Cond.fieldLink RX4 46 "BellTouches$Setup" "events" "LBellTouches$HandRows;", Cond.fieldLink RX4 49 "BellTouches$Setup" "book" "LBellTouches$HandRows;", Cond.methodLink RX4 61 yX1_copyFrom]
def wsX8_after_r2 : List Cond := [Cond.instanceMethod yX1_copyFrom, Cond.selects RX1 yX1_copyFrom yX1_copyFrom, Cond.initialized RX1, Cond.code yX1_copyFrom cX1_copyFrom 3 none, Cond.fieldLink RX1 7 "BellTouches$HandRows" "size" "I", Cond.fieldLink RX1 13 "BellTouches$HandRows" "first" "[I", Cond.fieldLink RX1 17 "BellTouches$HandRows" "second" "[I", Cond.fieldLink RX1 20 "BellTouches$HandRows" "third" "[I", Cond.methodLink RX1 23 yX1_append, Cond.instanceMethod yX1_append, Cond.selects RX1 yX1_append yX1_append, Cond.code yX1_append cX1_append 4 (some .boolean), Cond.methodLink RX8 216 yX4_happen, Cond.instanceMethod yX4_happen, Cond.selects RX4 yX4_happen yX4_happen, Cond.code yX4_happen cX4_happen 3 none, Cond.fieldLink RX4 52 "BellTouches$HandRows" "size" "I", Cond.fieldLink RX4 84 "BellTouches$HandRows" "second" "[I", Cond.fieldLink RX4 87 "BellTouches$HandRows" "first" "[I", Cond.methodLink RX4 90 Lib.Math.max.name, Cond.static Lib.Math.max.name, Cond.initialized "java/lang/Math", Cond.code Lib.Math.max.name Lib.Math.max.code 2 (some .int), Cond.methodLink RX8 219 yX7_ring]
def wsX8_after_r3 : List Cond := [Cond.instanceMethod yX7_ring, Cond.selects RX7 yX7_ring yX7_ring, Cond.initialized RX7, Cond.code yX7_ring cX7_ring 4 none, Cond.fieldLink RX7 46 "BellTouches$Setup" "leadCount" "I", Cond.fieldLink RX7 19 "BellTouches$Touch" "changeCount" "I", Cond.fieldLink RX7 51 "BellTouches$Setup" "leadCalls" "[I", Cond.methodLink RX7 42 yX7_begin, Cond.instanceMethod yX7_begin, Cond.selects RX7 yX7_begin yX7_begin, Cond.code yX7_begin cX7_begin 4 none, Cond.fieldLink RX7 58 "BellTouches$Setup" "changeCount" "I", Cond.fieldLink RX7 22 "BellTouches$Touch" "pairs" "[I", Cond.fieldLink RX7 59 "BellTouches$Setup" "n" "I", Cond.fieldLink RX7 62 "BellTouches$Setup" "changes" "[I", Cond.fieldLink RX7 25 "BellTouches$Touch" "lastPairs" "[I", Cond.fieldLink RX7 9 "BellTouches$Touch" "rows" "[I", Cond.fieldLink RX7 15 "BellTouches$Touch" "last" "I", Cond.fieldLink RX7 38 "BellTouches$Touch" "compared" "Z", Cond.methodLink RX7 65 yX2_pairs, Cond.static yX2_pairs, Cond.initialized RX2, Cond.code yX2_pairs cX2_pairs 4 (some .int), Cond.methodLink RX2 21 yX2_isKept]
def wsX8_after_r4 : List Cond := [Cond.static yX2_isKept, Cond.code yX2_isKept cX2_isKept 2 (some .boolean), Cond.methodLink RX7 70 yX4_calledChange, Cond.instanceMethod yX4_calledChange, Cond.selects RX4 yX4_calledChange yX4_calledChange, Cond.code yX4_calledChange cX4_calledChange 2 (some .int), Cond.methodLink RX7 74 yX2_rounds, Cond.static yX2_rounds, Cond.code yX2_rounds cX2_rounds 3 (some .int), Cond.methodLink RX7 54 yX7_step, Cond.instanceMethod yX7_step, Cond.selects RX7 yX7_step yX7_step, Cond.code yX7_step cX7_step 4 none, Cond.methodLink RX7 77 yX2_swapped, Cond.static yX2_swapped, Cond.code yX2_swapped cX2_swapped 3 (some .int), Cond.methodLink RX8 137 yX7_roundRow, Cond.instanceMethod yX7_roundRow, Cond.selects RX7 yX7_roundRow yX7_roundRow, Cond.code yX7_roundRow cX7_roundRow 2 (some .int), Cond.fieldLink RX7 28 "BellTouches$Touch" "firsts" "[I", Cond.methodLink RX7 80 yX7_compare, Cond.instanceMethod yX7_compare, Cond.selects RX7 yX7_compare yX7_compare]
def wsX8_after_r5 : List Cond := [Cond.code yX7_compare cX7_compare 2 none, Cond.fieldLink RX7 34 "BellTouches$Touch" "table" "LBellTouches$RowTable;", Cond.methodLink RX7 87 yX3_enter, Cond.instanceMethod yX3_enter, Cond.selects RX3 yX3_enter yX3_enter, Cond.initialized RX3, Cond.code yX3_enter cX3_enter 7 (some .int), Cond.fieldLink RX3 9 "BellTouches$RowTable" "numbers" "[I", Cond.methodLink RX3 13 yX3_start, Cond.static yX3_start, Cond.code yX3_start cX3_start 1 (some .int), Cond.constant RX3 17 (-1640531535), Cond.methodLink RX7 91 yX3_leave, Cond.instanceMethod yX3_leave, Cond.selects RX3 yX3_leave yX3_leave, Cond.code yX3_leave cX3_leave 6 none, Cond.methodLink RX8 140 yX7_falseRow, Cond.instanceMethod yX7_falseRow, Cond.selects RX7 yX7_falseRow yX7_falseRow, Cond.code yX7_falseRow cX7_falseRow 3 (some .int), Cond.methodLink RX8 143 yX7_isTrue, Cond.instanceMethod yX7_isTrue, Cond.selects RX7 yX7_isTrue yX7_isTrue, Cond.code yX7_isTrue cX7_isTrue 1 (some .boolean)]
def wsX8_after_r6 : List Cond := [Cond.methodLink RX7 83 yX7_falseRow]
def wsX8_after : List Cond := .code yX8_after cX8_after 2 (some .int) :: ((wsX8_after_r1 ++ (wsX8_after_r2 ++ (wsX8_after_r3 ++ (wsX8_after_r4 ++ (wsX8_after_r5 ++ wsX8_after_r6))))) ++ wsX80 ++ wsX40 ++ wsX10 ++ wsX70 ++ wsX30)
def wsX8_book : List Cond := .code yX8_book cX8_book 3 (some .int) :: ([.fieldLink RX8 14 "BellTouches" "setup" "LBellTouches$Setup;", .fieldLink RX8 222 "BellTouches$Setup" "book" "LBellTouches$HandRows;", .fieldLink RX8 190 "BellTouches$HandRows" "size" "I", .methodLink RX8 153 yX8_isBell, .instanceMethod yX8_isBell, .selects RX8 yX8_isBell yX8_isBell, .initialized RX8, .code yX8_isBell cX8_isBell 2 (some .boolean), .fieldLink RX8 62 "BellTouches$Setup" "n" "I", .methodLink RX8 195 yX1_append, .instanceMethod yX1_append, .selects RX1 yX1_append yX1_append, .initialized RX1, .code yX1_append cX1_append 4 (some .boolean), .fieldLink RX1 7 "BellTouches$HandRows" "size" "I", .fieldLink RX1 13 "BellTouches$HandRows" "first" "[I", .fieldLink RX1 17 "BellTouches$HandRows" "second" "[I", .fieldLink RX1 20 "BellTouches$HandRows" "third" "[I"] ++ wsX80 ++ wsX40 ++ wsX10)
def wsX8_looked_r1 : List Cond := [Cond.fieldLink RX8 14 "BellTouches" "setup" "LBellTouches$Setup;", Cond.fieldLink RX8 222 "BellTouches$Setup" "book" "LBellTouches$HandRows;", Cond.fieldLink RX8 190 "BellTouches$HandRows" "size" "I", Cond.fieldLink RX8 225 "BellTouches$HandRows" "first" "[I", Cond.fieldLink RX8 156 "BellTouches$Touch" "rows" "[I", Cond.fieldLink RX8 228 "BellTouches$HandRows" "second" "[I", Cond.methodLink RX8 150 yX8_isRow, Cond.instanceMethod yX8_isRow, Cond.selects RX8 yX8_isRow yX8_isRow, Cond.initialized RX8, Cond.code yX8_isRow cX8_isRow 2 (some .boolean), Cond.fieldLink RX8 134 "BellTouches$Touch" "last" "I", Cond.methodLink RX8 130 yX8_rung, Cond.instanceMethod yX8_rung, Cond.selects RX8 yX8_rung yX8_rung, Cond.code yX8_rung cX8_rung 1 (some (.object "BellTouches$Touch")), Cond.fieldLink RX8 58 "BellTouches" "stale" "Z", Cond.fieldLink RX8 27 "BellTouches" "touch" "LBellTouches$Touch;", Cond.methodLink RX8 219 yX7_ring, Cond.instanceMethod yX7_ring, Cond.selects RX7 yX7_ring yX7_ring, Cond.initialized RX7, Cond.code yX7_ring cX7_ring 4 none, Cond.fieldLink RX7 46 "BellTouches$Setup" "leadCount" "I"]
def wsX8_looked_r2 : List Cond := [Cond.fieldLink RX7 19 "BellTouches$Touch" "changeCount" "I", Cond.fieldLink RX7 51 "BellTouches$Setup" "leadCalls" "[I", Cond.methodLink RX7 42 yX7_begin, Cond.instanceMethod yX7_begin, Cond.selects RX7 yX7_begin yX7_begin, Cond.code yX7_begin cX7_begin 4 none, Cond.fieldLink RX7 58 "BellTouches$Setup" "changeCount" "I", Cond.fieldLink RX7 22 "BellTouches$Touch" "pairs" "[I", Cond.fieldLink RX7 59 "BellTouches$Setup" "n" "I", Cond.fieldLink RX7 62 "BellTouches$Setup" "changes" "[I", Cond.fieldLink RX7 25 "BellTouches$Touch" "lastPairs" "[I", Cond.fieldLink RX7 9 "BellTouches$Touch" "rows" "[I", Cond.fieldLink RX7 15 "BellTouches$Touch" "last" "I", Cond.fieldLink RX7 38 "BellTouches$Touch" "compared" "Z", Cond.methodLink RX7 65 yX2_pairs, Cond.static yX2_pairs, Cond.initialized RX2, Cond.code yX2_pairs cX2_pairs 4 (some .int), Cond.methodLink RX2 21 yX2_isKept, Cond.static yX2_isKept, Cond.code yX2_isKept cX2_isKept 2 (some .boolean), Cond.methodLink RX7 70 yX4_calledChange, Cond.instanceMethod yX4_calledChange, Cond.selects RX4 yX4_calledChange yX4_calledChange]
def wsX8_looked_r3 : List Cond := [Cond.initialized RX4, Cond.code yX4_calledChange cX4_calledChange 2 (some .int), Cond.fieldLink RX4 22 "BellTouches$Setup" "bob" "I", Cond.fieldLink RX4 25 "BellTouches$Setup" "single" "I", Cond.methodLink RX7 74 yX2_rounds, Cond.static yX2_rounds, Cond.code yX2_rounds cX2_rounds 3 (some .int), Cond.methodLink RX7 54 yX7_step, Cond.instanceMethod yX7_step, Cond.selects RX7 yX7_step yX7_step, Cond.code yX7_step cX7_step 4 none, Cond.methodLink RX7 77 yX2_swapped, Cond.static yX2_swapped, Cond.code yX2_swapped cX2_swapped 3 (some .int), Cond.methodLink RX8 159 yX2_bellIn, Cond.static yX2_bellIn, Cond.code yX2_bellIn cX2_bellIn 2 (some .int)]
def wsX8_looked : List Cond := .code yX8_looked cX8_looked 4 (some .int) :: ((wsX8_looked_r1 ++ (wsX8_looked_r2 ++ wsX8_looked_r3)) ++ wsX80 ++ wsX40 ++ wsX10 ++ wsX70)
def wsX8_isTape : List Cond := .code yX8_isTape cX8_isTape 1 (some .boolean) :: ([])
def wsX8_judge_r1 : List Cond := [Cond.fieldLink RX8 50 "BellTouches" "tapes" "[LBellTouches$Tape;", Cond.fieldLink RX8 234 "BellTouches$Tape" "sort" "I", Cond.fieldLink RX8 14 "BellTouches" "setup" "LBellTouches$Setup;", Cond.fieldLink RX8 62 "BellTouches$Setup" "n" "I", Cond.fieldLink RX8 240 "BellTouches$Tape" "items" "[J", Cond.fieldLink RX8 156 "BellTouches$Touch" "rows" "[I", Cond.methodLink RX8 150 yX8_isRow, Cond.instanceMethod yX8_isRow, Cond.selects RX8 yX8_isRow yX8_isRow, Cond.initialized RX8, Cond.code yX8_isRow cX8_isRow 2 (some .boolean), Cond.fieldLink RX8 134 "BellTouches$Touch" "last" "I", Cond.methodLink RX8 130 yX8_rung, Cond.instanceMethod yX8_rung, Cond.selects RX8 yX8_rung yX8_rung, Cond.code yX8_rung cX8_rung 1 (some (.object "BellTouches$Touch")), Cond.fieldLink RX8 58 "BellTouches" "stale" "Z", Cond.fieldLink RX8 27 "BellTouches" "touch" "LBellTouches$Touch;", Cond.methodLink RX8 219 yX7_ring, Cond.instanceMethod yX7_ring, Cond.selects RX7 yX7_ring yX7_ring, Cond.initialized RX7, Cond.code yX7_ring cX7_ring 4 none, Cond.fieldLink RX7 46 "BellTouches$Setup" "leadCount" "I"]
def wsX8_judge_r2 : List Cond := [Cond.fieldLink RX7 19 "BellTouches$Touch" "changeCount" "I", Cond.fieldLink RX7 51 "BellTouches$Setup" "leadCalls" "[I", Cond.methodLink RX7 42 yX7_begin, Cond.instanceMethod yX7_begin, Cond.selects RX7 yX7_begin yX7_begin, Cond.code yX7_begin cX7_begin 4 none, Cond.fieldLink RX7 58 "BellTouches$Setup" "changeCount" "I", Cond.fieldLink RX7 22 "BellTouches$Touch" "pairs" "[I", Cond.fieldLink RX7 59 "BellTouches$Setup" "n" "I", Cond.fieldLink RX7 62 "BellTouches$Setup" "changes" "[I", Cond.fieldLink RX7 25 "BellTouches$Touch" "lastPairs" "[I", Cond.fieldLink RX7 9 "BellTouches$Touch" "rows" "[I", Cond.fieldLink RX7 15 "BellTouches$Touch" "last" "I", Cond.fieldLink RX7 38 "BellTouches$Touch" "compared" "Z", Cond.methodLink RX7 65 yX2_pairs, Cond.static yX2_pairs, Cond.initialized RX2, Cond.code yX2_pairs cX2_pairs 4 (some .int), Cond.methodLink RX2 21 yX2_isKept, Cond.static yX2_isKept, Cond.code yX2_isKept cX2_isKept 2 (some .boolean), Cond.methodLink RX7 70 yX4_calledChange, Cond.instanceMethod yX4_calledChange, Cond.selects RX4 yX4_calledChange yX4_calledChange]
def wsX8_judge_r3 : List Cond := [Cond.initialized RX4, Cond.code yX4_calledChange cX4_calledChange 2 (some .int), Cond.fieldLink RX4 22 "BellTouches$Setup" "bob" "I", Cond.fieldLink RX4 25 "BellTouches$Setup" "single" "I", Cond.methodLink RX7 74 yX2_rounds, Cond.static yX2_rounds, Cond.code yX2_rounds cX2_rounds 3 (some .int), Cond.methodLink RX7 54 yX7_step, Cond.instanceMethod yX7_step, Cond.selects RX7 yX7_step yX7_step, Cond.code yX7_step cX7_step 4 none, Cond.methodLink RX7 77 yX2_swapped, Cond.static yX2_swapped, Cond.code yX2_swapped cX2_swapped 3 (some .int), Cond.methodLink RX8 231 yX8_isTape, Cond.static yX8_isTape, Cond.code yX8_isTape cX8_isTape 1 (some .boolean), Cond.methodLink RX8 237 yX6_has, Cond.instanceMethod yX6_has, Cond.selects RX6 yX6_has yX6_has, Cond.initialized RX6, Cond.code yX6_has cX6_has 3 (some .boolean), Cond.fieldLink RX6 15 "BellTouches$Tape" "length" "I", Cond.methodLink RX8 159 yX2_bellIn]
def wsX8_judge_r4 : List Cond := [Cond.static yX2_bellIn, Cond.code yX2_bellIn cX2_bellIn 2 (some .int)]
def wsX8_judge : List Cond := .code yX8_judge cX8_judge 6 (some .int) :: ((wsX8_judge_r1 ++ (wsX8_judge_r2 ++ (wsX8_judge_r3 ++ wsX8_judge_r4))) ++ wsX80 ++ wsX60 ++ wsX40 ++ wsX70)
def wsX8_image_r1 : List Cond := [Cond.fieldLink RX8 18 "BellTouches" "kept" "LBellTouches$Setup;", Cond.fieldLink RX8 14 "BellTouches" "setup" "LBellTouches$Setup;", Cond.fieldLink RX8 54 "BellTouches" "hasImage" "Z", Cond.fieldLink RX8 80 "BellTouches$Setup" "changeCount" "I", Cond.methodLink RX8 197 yX4_copyFrom, Cond.instanceMethod yX4_copyFrom, Cond.selects RX4 yX4_copyFrom yX4_copyFrom, Cond.initialized RX4, Cond.code yX4_copyFrom cX4_copyFrom 2 none, Cond.fieldLink RX4 9 "BellTouches$Setup" "n" "I", Cond.fieldLink RX4 19 "BellTouches$Setup" "changeCount" "I", Cond.fieldLink RX4 22 "BellTouches$Setup" "bob" "I", Cond.fieldLink RX4 25 "BellTouches$Setup" "single" "I", Cond.fieldLink RX4 31 "BellTouches$Setup" "leadCount" "I", Cond.fieldLink RX4 15 "BellTouches$Setup" "changes" "[I", Cond.methodLink RX4 55 arraycopyName, Cond.native arraycopyName, Cond.static arraycopyName, Cond.initialized "java/lang/System", Cond.fieldLink RX4 28 "BellTouches$Setup" "leadCalls" "[I", Cond.fieldLink RX4 34 "BellTouches$Setup" "patternBells" "[I", Cond.fieldLink RX4 42 "BellTouches$Setup" "seen" "LBellTouches$HandRows;", Cond.fieldLink RX4 46 "BellTouches$Setup" "events" "LBellTouches$HandRows;", Cond.fieldLink RX4 49 "BellTouches$Setup" "book" "LBellTouches$HandRows;"]
def wsX8_image_r2 : List Cond := [Cond.methodLink RX4 61 yX1_copyFrom, Cond.instanceMethod yX1_copyFrom, Cond.selects RX1 yX1_copyFrom yX1_copyFrom, Cond.initialized RX1, Cond.code yX1_copyFrom cX1_copyFrom 3 none, Cond.fieldLink RX1 7 "BellTouches$HandRows" "size" "I", Cond.fieldLink RX1 13 "BellTouches$HandRows" "first" "[I", Cond.fieldLink RX1 17 "BellTouches$HandRows" "second" "[I", Cond.fieldLink RX1 20 "BellTouches$HandRows" "third" "[I", Cond.methodLink RX1 23 yX1_append, Cond.instanceMethod yX1_append, Cond.selects RX1 yX1_append yX1_append, Cond.code yX1_append cX1_append 4 (some .boolean)]
def wsX8_image : List Cond := .code yX8_image cX8_image 1 (some .int) :: ((wsX8_image_r1 ++ wsX8_image_r2) ++ wsX80 ++ wsX40 ++ wsX10)
def wsX8_undo_r1 : List Cond := [Cond.fieldLink RX8 54 "BellTouches" "hasImage" "Z", Cond.fieldLink RX8 14 "BellTouches" "setup" "LBellTouches$Setup;", Cond.fieldLink RX8 18 "BellTouches" "kept" "LBellTouches$Setup;", Cond.fieldLink RX8 58 "BellTouches" "stale" "Z", Cond.fieldLink RX8 80 "BellTouches$Setup" "changeCount" "I", Cond.methodLink RX8 197 yX4_copyFrom, Cond.instanceMethod yX4_copyFrom, Cond.selects RX4 yX4_copyFrom yX4_copyFrom, Cond.initialized RX4, Cond.code yX4_copyFrom cX4_copyFrom 2 none, Cond.fieldLink RX4 9 "BellTouches$Setup" "n" "I", Cond.fieldLink RX4 19 "BellTouches$Setup" "changeCount" "I", Cond.fieldLink RX4 22 "BellTouches$Setup" "bob" "I", Cond.fieldLink RX4 25 "BellTouches$Setup" "single" "I", Cond.fieldLink RX4 31 "BellTouches$Setup" "leadCount" "I", Cond.fieldLink RX4 15 "BellTouches$Setup" "changes" "[I", Cond.methodLink RX4 55 arraycopyName, Cond.native arraycopyName, Cond.static arraycopyName, Cond.initialized "java/lang/System", Cond.fieldLink RX4 28 "BellTouches$Setup" "leadCalls" "[I", Cond.fieldLink RX4 34 "BellTouches$Setup" "patternBells" "[I", Cond.fieldLink RX4 42 "BellTouches$Setup" "seen" "LBellTouches$HandRows;", Cond.fieldLink RX4 46 "BellTouches$Setup" "events" "LBellTouches$HandRows;"]
def wsX8_undo_r2 : List Cond := [Cond.fieldLink RX4 49 "BellTouches$Setup" "book" "LBellTouches$HandRows;", Cond.methodLink RX4 61 yX1_copyFrom, Cond.instanceMethod yX1_copyFrom, Cond.selects RX1 yX1_copyFrom yX1_copyFrom, Cond.initialized RX1, Cond.code yX1_copyFrom cX1_copyFrom 3 none, Cond.fieldLink RX1 7 "BellTouches$HandRows" "size" "I", Cond.fieldLink RX1 13 "BellTouches$HandRows" "first" "[I", Cond.fieldLink RX1 17 "BellTouches$HandRows" "second" "[I", Cond.fieldLink RX1 20 "BellTouches$HandRows" "third" "[I", Cond.methodLink RX1 23 yX1_append, Cond.instanceMethod yX1_append, Cond.selects RX1 yX1_append yX1_append, Cond.code yX1_append cX1_append 4 (some .boolean)]
def wsX8_undo : List Cond := .code yX8_undo cX8_undo 1 (some .int) :: ((wsX8_undo_r1 ++ wsX8_undo_r2) ++ wsX80 ++ wsX40 ++ wsX10)
def wsX8_count : List Cond := .code yX8_count cX8_count 2 (some .int) :: ([.fieldLink RX8 14 "BellTouches" "setup" "LBellTouches$Setup;", .fieldLink RX8 186 "BellTouches$Setup" "seen" "LBellTouches$HandRows;", .fieldLink RX8 190 "BellTouches$HandRows" "size" "I", .fieldLink RX8 213 "BellTouches$Setup" "events" "LBellTouches$HandRows;", .fieldLink RX8 222 "BellTouches$Setup" "book" "LBellTouches$HandRows;", .fieldLink RX8 44 "BellTouches" "text" "LBellTouches$SetupText;", .fieldLink RX8 110 "BellTouches$SetupText" "length" "I"] ++ wsX80 ++ wsX40 ++ wsX10 ++ wsX50)
def wsX8_tape : List Cond := .code yX8_tape cX8_tape 4 (some .int) :: ([.fieldLink RX8 50 "BellTouches" "tapes" "[LBellTouches$Tape;", .methodLink RX8 231 yX8_isTape, .static yX8_isTape, .initialized RX8, .code yX8_isTape cX8_isTape 1 (some .boolean), .methodLink RX8 244 yX6_begin, .instanceMethod yX6_begin, .selects RX6 yX6_begin yX6_begin, .initialized RX6, .code yX6_begin cX6_begin 4 none, .fieldLink RX6 9 "BellTouches$Tape" "sort" "I", .fieldLink RX6 15 "BellTouches$Tape" "length" "I", .fieldLink RX6 18 "BellTouches$Tape" "items" "[J"] ++ wsX80 ++ wsX60)
def wsX8_item : List Cond := .code yX8_item cX8_item 6 (some .int) :: ([.fieldLink RX8 50 "BellTouches" "tapes" "[LBellTouches$Tape;", .fieldLink RX8 234 "BellTouches$Tape" "sort" "I", .fieldLink RX8 240 "BellTouches$Tape" "items" "[J", .methodLink RX8 231 yX8_isTape, .static yX8_isTape, .initialized RX8, .code yX8_isTape cX8_isTape 1 (some .boolean), .methodLink RX8 237 yX6_has, .instanceMethod yX6_has, .selects RX6 yX6_has yX6_has, .initialized RX6, .code yX6_has cX6_has 3 (some .boolean), .fieldLink RX6 15 "BellTouches$Tape" "length" "I", .methodLink RX8 246 yX6_narrowed, .static yX6_narrowed, .code yX6_narrowed cX6_narrowed 3 (some .long)] ++ wsX80 ++ wsX60)
def wsX8_peek : List Cond := .code yX8_peek cX8_peek 3 (some .long) :: ([.fieldLink RX8 50 "BellTouches" "tapes" "[LBellTouches$Tape;", .constantLong RX8 207 (-9223372036854775808), .fieldLink RX8 240 "BellTouches$Tape" "items" "[J", .methodLink RX8 231 yX8_isTape, .static yX8_isTape, .initialized RX8, .code yX8_isTape cX8_isTape 1 (some .boolean), .methodLink RX8 237 yX6_has, .instanceMethod yX6_has, .selects RX6 yX6_has yX6_has, .initialized RX6, .code yX6_has cX6_has 3 (some .boolean), .fieldLink RX6 15 "BellTouches$Tape" "length" "I"] ++ wsX80 ++ wsX60)
def wsX8_shift : List Cond := .code yX8_shift cX8_shift 8 (some .int) :: ([.fieldLink RX8 50 "BellTouches" "tapes" "[LBellTouches$Tape;", .fieldLink RX8 234 "BellTouches$Tape" "sort" "I", .fieldLink RX8 240 "BellTouches$Tape" "items" "[J", .methodLink RX8 250 arraycopyName, .native arraycopyName, .static arraycopyName, .initialized "java/lang/System", .methodLink RX8 231 yX8_isTape, .static yX8_isTape, .initialized RX8, .code yX8_isTape cX8_isTape 1 (some .boolean), .methodLink RX8 237 yX6_has, .instanceMethod yX6_has, .selects RX6 yX6_has yX6_has, .initialized RX6, .code yX6_has cX6_has 3 (some .boolean), .fieldLink RX6 15 "BellTouches$Tape" "length" "I"] ++ wsX80 ++ wsX60)
def wsX9_begins : List Cond := .code yX9_begins cX9_begins 3 none :: ([.fieldLink RX9 9 "BellTouchesModel" "now" "[I"] ++ wsX90)
def wsX9_init : List Cond := .code yX9_init cX9_init 1 none :: ([.methodLink RX9 3 objectInit, .instanceMethod objectInit, .code objectInit ⟨#[0xb1]⟩ 1 none, .arrayClass .int, .fieldLink RX9 9 "BellTouchesModel" "now" "[I", .fieldLink RX9 15 "BellTouchesModel" "old" "[I", .fieldLink RX9 18 "BellTouchesModel" "bell" "[I", .fieldLink RX9 21 "BellTouchesModel" "key" "[I", .fieldLink RX9 24 "BellTouchesModel" "text" "[I", .fieldLink RX9 27 "BellTouchesModel" "clause" "[I", .fieldLink RX9 30 "BellTouchesModel" "from" "[I", .fieldLink RX9 33 "BellTouchesModel" "many" "[I", .fieldLink RX9 36 "BellTouchesModel" "number" "[I", .fieldLink RX9 39 "BellTouchesModel" "sort" "[I", .fieldLink RX9 42 "BellTouchesModel" "long1" "[I", .arrayClass .long, .fieldLink RX9 45 "BellTouchesModel" "items" "[J", .fieldLink RX9 49 "BellTouchesModel" "moved" "[J", .methodLink RX9 52 yX9_begins, .instanceMethod yX9_begins, .selects RX9 yX9_begins yX9_begins, .initialized RX9, .code yX9_begins cX9_begins 3 none] ++ wsX90)
def wsX9_within : List Cond := .code yX9_within cX9_within 3 (some .boolean) :: ([])
def wsX9_becomes : List Cond := .code yX9_becomes cX9_becomes 4 (some .int) :: ([.fieldLink RX9 9 "BellTouchesModel" "now" "[I"] ++ wsX90)
def wsX9_bells : List Cond := .code yX9_bells cX9_bells 3 (some .int) :: ([.fieldLink RX9 9 "BellTouchesModel" "now" "[I", .methodLink RX9 56 yX9_within, .static yX9_within, .initialized RX9, .code yX9_within cX9_within 3 (some .boolean), .methodLink RX9 52 yX9_begins, .instanceMethod yX9_begins, .selects RX9 yX9_begins yX9_begins, .code yX9_begins cX9_begins 3 none] ++ wsX90)
def wsX9_areKept : List Cond := .code yX9_areKept cX9_areKept 2 (some .boolean) :: ([.fieldLink RX9 9 "BellTouchesModel" "now" "[I", .methodLink RX9 56 yX9_within, .static yX9_within, .initialized RX9, .code yX9_within cX9_within 3 (some .boolean)] ++ wsX90)
def wsX9_isGood : List Cond := .code yX9_isGood cX9_isGood 3 (some .boolean) :: ([.fieldLink RX9 9 "BellTouchesModel" "now" "[I"] ++ wsX90)
def wsX9_change : List Cond := .code yX9_change cX9_change 2 (some .int) :: ([.fieldLink RX9 9 "BellTouchesModel" "now" "[I", .methodLink RX9 60 yX9_areKept, .instanceMethod yX9_areKept, .selects RX9 yX9_areKept yX9_areKept, .initialized RX9, .code yX9_areKept cX9_areKept 2 (some .boolean), .methodLink RX9 56 yX9_within, .static yX9_within, .code yX9_within cX9_within 3 (some .boolean), .methodLink RX9 64 yX9_isGood, .instanceMethod yX9_isGood, .selects RX9 yX9_isGood yX9_isGood, .code yX9_isGood cX9_isGood 3 (some .boolean)] ++ wsX90)
def wsX9_calls : List Cond := .code yX9_calls cX9_calls 3 (some .int) :: ([.methodLink RX9 56 yX9_within, .static yX9_within, .initialized RX9, .code yX9_within cX9_within 3 (some .boolean), .methodLink RX9 60 yX9_areKept, .instanceMethod yX9_areKept, .selects RX9 yX9_areKept yX9_areKept, .code yX9_areKept cX9_areKept 2 (some .boolean), .fieldLink RX9 9 "BellTouchesModel" "now" "[I", .methodLink RX9 64 yX9_isGood, .instanceMethod yX9_isGood, .selects RX9 yX9_isGood yX9_isGood, .code yX9_isGood cX9_isGood 3 (some .boolean), .methodLink RX9 67 yX9_becomes, .instanceMethod yX9_becomes, .selects RX9 yX9_becomes yX9_becomes, .code yX9_becomes cX9_becomes 4 (some .int)] ++ wsX90)
def wsX9_call : List Cond := .code yX9_call cX9_call 3 (some .int) :: ([.methodLink RX9 56 yX9_within, .static yX9_within, .initialized RX9, .code yX9_within cX9_within 3 (some .boolean), .methodLink RX9 67 yX9_becomes, .instanceMethod yX9_becomes, .selects RX9 yX9_becomes yX9_becomes, .code yX9_becomes cX9_becomes 4 (some .int), .fieldLink RX9 9 "BellTouchesModel" "now" "[I"] ++ wsX90)
def wsX9_leads : List Cond := .code yX9_leads cX9_leads 2 (some .int) :: ([.methodLink RX9 56 yX9_within, .static yX9_within, .initialized RX9, .code yX9_within cX9_within 3 (some .boolean), .methodLink RX9 67 yX9_becomes, .instanceMethod yX9_becomes, .selects RX9 yX9_becomes yX9_becomes, .code yX9_becomes cX9_becomes 4 (some .int), .fieldLink RX9 9 "BellTouchesModel" "now" "[I"] ++ wsX90)
def wsX9_pattern : List Cond := .code yX9_pattern cX9_pattern 3 (some .int) :: ([.methodLink RX9 56 yX9_within, .static yX9_within, .initialized RX9, .code yX9_within cX9_within 3 (some .boolean), .methodLink RX9 67 yX9_becomes, .instanceMethod yX9_becomes, .selects RX9 yX9_becomes yX9_becomes, .code yX9_becomes cX9_becomes 4 (some .int), .fieldLink RX9 9 "BellTouchesModel" "now" "[I"] ++ wsX90)
def wsX9_feed : List Cond := .code yX9_feed cX9_feed 2 (some .int) :: ([.fieldLink RX9 71 "BellTouchesModel" "texts" "I", .fieldLink RX9 24 "BellTouchesModel" "text" "[I", .methodLink RX9 56 yX9_within, .static yX9_within, .initialized RX9, .code yX9_within cX9_within 3 (some .boolean)] ++ wsX90)
def wsX9_sign : List Cond := .code yX9_sign cX9_sign 1 (some .int) :: ([.fieldLink RX9 75 "BellTouchesModel" "at" "I", .fieldLink RX9 71 "BellTouchesModel" "texts" "I", .fieldLink RX9 24 "BellTouchesModel" "text" "[I"] ++ wsX90)
def wsX9_wrong : List Cond := .code yX9_wrong cX9_wrong 1 none :: ([.fieldLink RX9 78 "BellTouchesModel" "fault" "I", .fieldLink RX9 75 "BellTouchesModel" "at" "I"] ++ wsX90)
def wsX9_adds : List Cond := .code yX9_adds cX9_adds 2 none :: ([.fieldLink RX9 36 "BellTouchesModel" "number" "[I", .fieldLink RX9 81 "BellTouchesModel" "numbers" "I", .fieldLink RX9 33 "BellTouchesModel" "many" "[I", .fieldLink RX9 84 "BellTouchesModel" "clauses" "I"] ++ wsX90)
def wsX9_digits : List Cond := .code yX9_digits cX9_digits 3 none :: ([.fieldLink RX9 75 "BellTouchesModel" "at" "I", .methodLink RX9 87 yX9_sign, .instanceMethod yX9_sign, .selects RX9 yX9_sign yX9_sign, .initialized RX9, .code yX9_sign cX9_sign 1 (some .int), .fieldLink RX9 71 "BellTouchesModel" "texts" "I", .fieldLink RX9 24 "BellTouchesModel" "text" "[I", .methodLink RX9 56 yX9_within, .static yX9_within, .code yX9_within cX9_within 3 (some .boolean), .methodLink RX9 91 yX9_wrong, .instanceMethod yX9_wrong, .selects RX9 yX9_wrong yX9_wrong, .code yX9_wrong cX9_wrong 1 none, .fieldLink RX9 78 "BellTouchesModel" "fault" "I", .methodLink RX9 94 yX9_adds, .instanceMethod yX9_adds, .selects RX9 yX9_adds yX9_adds, .code yX9_adds cX9_adds 2 none, .fieldLink RX9 36 "BellTouchesModel" "number" "[I", .fieldLink RX9 81 "BellTouchesModel" "numbers" "I", .fieldLink RX9 33 "BellTouchesModel" "many" "[I", .fieldLink RX9 84 "BellTouchesModel" "clauses" "I"] ++ wsX90)
def wsX9_word_r1 : List Cond := [Cond.fieldLink RX9 75 "BellTouchesModel" "at" "I", Cond.methodLink RX9 87 yX9_sign, Cond.instanceMethod yX9_sign, Cond.selects RX9 yX9_sign yX9_sign, Cond.initialized RX9, Cond.code yX9_sign cX9_sign 1 (some .int), Cond.fieldLink RX9 71 "BellTouchesModel" "texts" "I", Cond.fieldLink RX9 24 "BellTouchesModel" "text" "[I", Cond.methodLink RX9 94 yX9_adds, Cond.instanceMethod yX9_adds, Cond.selects RX9 yX9_adds yX9_adds, Cond.code yX9_adds cX9_adds 2 none, Cond.fieldLink RX9 36 "BellTouchesModel" "number" "[I", Cond.fieldLink RX9 81 "BellTouchesModel" "numbers" "I", Cond.fieldLink RX9 33 "BellTouchesModel" "many" "[I", Cond.fieldLink RX9 84 "BellTouchesModel" "clauses" "I", Cond.methodLink RX9 97 yX9_digits, Cond.instanceMethod yX9_digits, Cond.selects RX9 yX9_digits yX9_digits, Cond.code yX9_digits cX9_digits 3 none, Cond.methodLink RX9 56 yX9_within, Cond.static yX9_within, Cond.code yX9_within cX9_within 3 (some .boolean), Cond.methodLink RX9 91 yX9_wrong]
def wsX9_word_r2 : List Cond := [Cond.instanceMethod yX9_wrong, Cond.selects RX9 yX9_wrong yX9_wrong, Cond.code yX9_wrong cX9_wrong 1 none, Cond.fieldLink RX9 78 "BellTouchesModel" "fault" "I"]
def wsX9_word : List Cond := .code yX9_word cX9_word 1 (some .boolean) :: ((wsX9_word_r1 ++ wsX9_word_r2) ++ wsX90)
def wsX9_words_r1 : List Cond := [Cond.fieldLink RX9 78 "BellTouchesModel" "fault" "I", Cond.fieldLink RX9 33 "BellTouchesModel" "many" "[I", Cond.fieldLink RX9 84 "BellTouchesModel" "clauses" "I", Cond.fieldLink RX9 75 "BellTouchesModel" "at" "I", Cond.methodLink RX9 100 yX9_word, Cond.instanceMethod yX9_word, Cond.selects RX9 yX9_word yX9_word, Cond.initialized RX9, Cond.code yX9_word cX9_word 1 (some .boolean), Cond.methodLink RX9 87 yX9_sign, Cond.instanceMethod yX9_sign, Cond.selects RX9 yX9_sign yX9_sign, Cond.code yX9_sign cX9_sign 1 (some .int), Cond.fieldLink RX9 71 "BellTouchesModel" "texts" "I", Cond.fieldLink RX9 24 "BellTouchesModel" "text" "[I", Cond.methodLink RX9 94 yX9_adds, Cond.instanceMethod yX9_adds, Cond.selects RX9 yX9_adds yX9_adds, Cond.code yX9_adds cX9_adds 2 none, Cond.fieldLink RX9 36 "BellTouchesModel" "number" "[I", Cond.fieldLink RX9 81 "BellTouchesModel" "numbers" "I", Cond.methodLink RX9 97 yX9_digits, Cond.instanceMethod yX9_digits, Cond.selects RX9 yX9_digits yX9_digits]
def wsX9_words_r2 : List Cond := [Cond.code yX9_digits cX9_digits 3 none, Cond.methodLink RX9 56 yX9_within, Cond.static yX9_within, Cond.code yX9_within cX9_within 3 (some .boolean), Cond.methodLink RX9 91 yX9_wrong, Cond.instanceMethod yX9_wrong, Cond.selects RX9 yX9_wrong yX9_wrong, Cond.code yX9_wrong cX9_wrong 1 none]
def wsX9_words : List Cond := .code yX9_words cX9_words 4 none :: ((wsX9_words_r1 ++ wsX9_words_r2) ++ wsX90)
def wsX9_callOf : List Cond := .code yX9_callOf cX9_callOf 1 (some .int) :: ([])
def wsX9_reads_r1 : List Cond := [Cond.fieldLink RX9 27 "BellTouchesModel" "clause" "[I", Cond.fieldLink RX9 84 "BellTouchesModel" "clauses" "I", Cond.fieldLink RX9 30 "BellTouchesModel" "from" "[I", Cond.fieldLink RX9 81 "BellTouchesModel" "numbers" "I", Cond.fieldLink RX9 33 "BellTouchesModel" "many" "[I", Cond.fieldLink RX9 75 "BellTouchesModel" "at" "I", Cond.methodLink RX9 87 yX9_sign, Cond.instanceMethod yX9_sign, Cond.selects RX9 yX9_sign yX9_sign, Cond.initialized RX9, Cond.code yX9_sign cX9_sign 1 (some .int), Cond.fieldLink RX9 71 "BellTouchesModel" "texts" "I", Cond.fieldLink RX9 24 "BellTouchesModel" "text" "[I", Cond.methodLink RX9 56 yX9_within, Cond.static yX9_within, Cond.code yX9_within cX9_within 3 (some .boolean), Cond.methodLink RX9 91 yX9_wrong, Cond.instanceMethod yX9_wrong, Cond.selects RX9 yX9_wrong yX9_wrong, Cond.code yX9_wrong cX9_wrong 1 none, Cond.fieldLink RX9 78 "BellTouchesModel" "fault" "I", Cond.methodLink RX9 94 yX9_adds, Cond.instanceMethod yX9_adds, Cond.selects RX9 yX9_adds yX9_adds]
def wsX9_reads_r2 : List Cond := [Cond.code yX9_adds cX9_adds 2 none, Cond.fieldLink RX9 36 "BellTouchesModel" "number" "[I", Cond.methodLink RX9 104 yX9_words, Cond.instanceMethod yX9_words, Cond.selects RX9 yX9_words yX9_words, Cond.code yX9_words cX9_words 4 none, Cond.methodLink RX9 100 yX9_word, Cond.instanceMethod yX9_word, Cond.selects RX9 yX9_word yX9_word, Cond.code yX9_word cX9_word 1 (some .boolean), Cond.methodLink RX9 97 yX9_digits, Cond.instanceMethod yX9_digits, Cond.selects RX9 yX9_digits yX9_digits, Cond.code yX9_digits cX9_digits 3 none, Cond.methodLink RX9 107 yX9_callOf, Cond.static yX9_callOf, Cond.code yX9_callOf cX9_callOf 1 (some .int)]
def wsX9_reads : List Cond := .code yX9_reads cX9_reads 1 none :: ((wsX9_reads_r1 ++ wsX9_reads_r2) ++ wsX90)
def wsX9_areGood : List Cond := .code yX9_areGood cX9_areGood 4 (some .boolean) :: ([.fieldLink RX9 33 "BellTouchesModel" "many" "[I", .fieldLink RX9 36 "BellTouchesModel" "number" "[I", .fieldLink RX9 30 "BellTouchesModel" "from" "[I", .methodLink RX9 60 yX9_areKept, .instanceMethod yX9_areKept, .selects RX9 yX9_areKept yX9_areKept, .initialized RX9, .code yX9_areKept cX9_areKept 2 (some .boolean), .fieldLink RX9 9 "BellTouchesModel" "now" "[I", .methodLink RX9 56 yX9_within, .static yX9_within, .code yX9_within cX9_within 3 (some .boolean), .methodLink RX9 64 yX9_isGood, .instanceMethod yX9_isGood, .selects RX9 yX9_isGood yX9_isGood, .code yX9_isGood cX9_isGood 3 (some .boolean)] ++ wsX90)
def wsX9_does_r1 : List Cond := [Cond.fieldLink RX9 36 "BellTouchesModel" "number" "[I", Cond.fieldLink RX9 30 "BellTouchesModel" "from" "[I", Cond.fieldLink RX9 27 "BellTouchesModel" "clause" "[I", Cond.fieldLink RX9 9 "BellTouchesModel" "now" "[I", Cond.fieldLink RX9 33 "BellTouchesModel" "many" "[I", Cond.methodLink RX9 111 yX9_bells, Cond.instanceMethod yX9_bells, Cond.selects RX9 yX9_bells yX9_bells, Cond.initialized RX9, Cond.code yX9_bells cX9_bells 3 (some .int), Cond.methodLink RX9 56 yX9_within, Cond.static yX9_within, Cond.code yX9_within cX9_within 3 (some .boolean), Cond.methodLink RX9 52 yX9_begins, Cond.instanceMethod yX9_begins, Cond.selects RX9 yX9_begins yX9_begins, Cond.code yX9_begins cX9_begins 3 none, Cond.methodLink RX9 114 yX9_calls, Cond.instanceMethod yX9_calls, Cond.selects RX9 yX9_calls yX9_calls, Cond.code yX9_calls cX9_calls 3 (some .int), Cond.methodLink RX9 60 yX9_areKept, Cond.instanceMethod yX9_areKept, Cond.selects RX9 yX9_areKept yX9_areKept]
def wsX9_does_r2 : List Cond := [Cond.code yX9_areKept cX9_areKept 2 (some .boolean), Cond.methodLink RX9 64 yX9_isGood, Cond.instanceMethod yX9_isGood, Cond.selects RX9 yX9_isGood yX9_isGood, Cond.code yX9_isGood cX9_isGood 3 (some .boolean), Cond.methodLink RX9 67 yX9_becomes, Cond.instanceMethod yX9_becomes, Cond.selects RX9 yX9_becomes yX9_becomes, Cond.code yX9_becomes cX9_becomes 4 (some .int), Cond.methodLink RX9 117 yX9_areGood, Cond.instanceMethod yX9_areGood, Cond.selects RX9 yX9_areGood yX9_areGood, Cond.code yX9_areGood cX9_areGood 4 (some .boolean)]
def wsX9_does : List Cond := .code yX9_does cX9_does 4 (some .boolean) :: ((wsX9_does_r1 ++ wsX9_does_r2) ++ wsX90)
def wsX9_read_r1 : List Cond := [Cond.fieldLink RX9 75 "BellTouchesModel" "at" "I", Cond.fieldLink RX9 78 "BellTouchesModel" "fault" "I", Cond.fieldLink RX9 84 "BellTouchesModel" "clauses" "I", Cond.fieldLink RX9 81 "BellTouchesModel" "numbers" "I", Cond.fieldLink RX9 71 "BellTouchesModel" "texts" "I", Cond.methodLink RX9 120 yX9_reads, Cond.instanceMethod yX9_reads, Cond.selects RX9 yX9_reads yX9_reads, Cond.initialized RX9, Cond.code yX9_reads cX9_reads 1 none, Cond.fieldLink RX9 27 "BellTouchesModel" "clause" "[I", Cond.fieldLink RX9 30 "BellTouchesModel" "from" "[I", Cond.fieldLink RX9 33 "BellTouchesModel" "many" "[I", Cond.methodLink RX9 87 yX9_sign, Cond.instanceMethod yX9_sign, Cond.selects RX9 yX9_sign yX9_sign, Cond.code yX9_sign cX9_sign 1 (some .int), Cond.fieldLink RX9 24 "BellTouchesModel" "text" "[I", Cond.methodLink RX9 56 yX9_within, Cond.static yX9_within, Cond.code yX9_within cX9_within 3 (some .boolean), Cond.methodLink RX9 91 yX9_wrong, Cond.instanceMethod yX9_wrong, Cond.selects RX9 yX9_wrong yX9_wrong]
def wsX9_read_r2 : List Cond := [Cond.code yX9_wrong cX9_wrong 1 none, Cond.methodLink RX9 94 yX9_adds, Cond.instanceMethod yX9_adds, Cond.selects RX9 yX9_adds yX9_adds, Cond.code yX9_adds cX9_adds 2 none, Cond.fieldLink RX9 36 "BellTouchesModel" "number" "[I", Cond.methodLink RX9 104 yX9_words, Cond.instanceMethod yX9_words, Cond.selects RX9 yX9_words yX9_words, Cond.code yX9_words cX9_words 4 none, Cond.methodLink RX9 100 yX9_word, Cond.instanceMethod yX9_word, Cond.selects RX9 yX9_word yX9_word, Cond.code yX9_word cX9_word 1 (some .boolean), Cond.methodLink RX9 97 yX9_digits, Cond.instanceMethod yX9_digits, Cond.selects RX9 yX9_digits yX9_digits, Cond.code yX9_digits cX9_digits 3 none, Cond.methodLink RX9 107 yX9_callOf, Cond.static yX9_callOf, Cond.code yX9_callOf cX9_callOf 1 (some .int), Cond.methodLink RX9 123 yX9_does, Cond.instanceMethod yX9_does, Cond.selects RX9 yX9_does yX9_does]
def wsX9_read_r3 : List Cond := [Cond.code yX9_does cX9_does 4 (some .boolean), Cond.fieldLink RX9 9 "BellTouchesModel" "now" "[I", Cond.methodLink RX9 111 yX9_bells, Cond.instanceMethod yX9_bells, Cond.selects RX9 yX9_bells yX9_bells, Cond.code yX9_bells cX9_bells 3 (some .int), Cond.methodLink RX9 52 yX9_begins, Cond.instanceMethod yX9_begins, Cond.selects RX9 yX9_begins yX9_begins, Cond.code yX9_begins cX9_begins 3 none, Cond.methodLink RX9 114 yX9_calls, Cond.instanceMethod yX9_calls, Cond.selects RX9 yX9_calls yX9_calls, Cond.code yX9_calls cX9_calls 3 (some .int), Cond.methodLink RX9 60 yX9_areKept, Cond.instanceMethod yX9_areKept, Cond.selects RX9 yX9_areKept yX9_areKept, Cond.code yX9_areKept cX9_areKept 2 (some .boolean), Cond.methodLink RX9 64 yX9_isGood, Cond.instanceMethod yX9_isGood, Cond.selects RX9 yX9_isGood yX9_isGood, Cond.code yX9_isGood cX9_isGood 3 (some .boolean), Cond.methodLink RX9 67 yX9_becomes, Cond.instanceMethod yX9_becomes]
def wsX9_read_r4 : List Cond := [Cond.selects RX9 yX9_becomes yX9_becomes, Cond.code yX9_becomes cX9_becomes 4 (some .int), Cond.methodLink RX9 117 yX9_areGood, Cond.instanceMethod yX9_areGood, Cond.selects RX9 yX9_areGood yX9_areGood, Cond.code yX9_areGood cX9_areGood 4 (some .boolean)]
def wsX9_read : List Cond := .code yX9_read cX9_read 4 (some .int) :: ((wsX9_read_r1 ++ (wsX9_read_r2 ++ (wsX9_read_r3 ++ wsX9_read_r4))) ++ wsX90)
def wsX9_keys : List Cond := .code yX9_keys cX9_keys 4 none :: ([.fieldLink RX9 9 "BellTouchesModel" "now" "[I", .fieldLink RX9 18 "BellTouchesModel" "bell" "[I", .fieldLink RX9 21 "BellTouchesModel" "key" "[I"] ++ wsX90)
def wsX9_goes : List Cond := .code yX9_goes cX9_goes 5 none :: ([.fieldLink RX9 9 "BellTouchesModel" "now" "[I", .fieldLink RX9 18 "BellTouchesModel" "bell" "[I", .methodLink RX9 126 yX9_keys, .instanceMethod yX9_keys, .selects RX9 yX9_keys yX9_keys, .initialized RX9, .code yX9_keys cX9_keys 4 none, .fieldLink RX9 21 "BellTouchesModel" "key" "[I"] ++ wsX90)
def wsX9_rings : List Cond := .code yX9_rings cX9_rings 5 none :: ([.fieldLink RX9 9 "BellTouchesModel" "now" "[I", .fieldLink RX9 18 "BellTouchesModel" "bell" "[I", .fieldLink RX9 129 "BellTouchesModel" "last" "I", .methodLink RX9 126 yX9_keys, .instanceMethod yX9_keys, .selects RX9 yX9_keys yX9_keys, .initialized RX9, .code yX9_keys cX9_keys 4 none, .fieldLink RX9 21 "BellTouchesModel" "key" "[I", .methodLink RX9 132 yX9_goes, .instanceMethod yX9_goes, .selects RX9 yX9_goes yX9_goes, .code yX9_goes cX9_goes 5 none] ++ wsX90)
def wsX9_round : List Cond := .code yX9_round cX9_round 2 (some .int) :: ([.fieldLink RX9 129 "BellTouchesModel" "last" "I", .fieldLink RX9 21 "BellTouchesModel" "key" "[I"] ++ wsX90)
def wsX9_first : List Cond := .code yX9_first cX9_first 3 (some .int) :: ([.fieldLink RX9 21 "BellTouchesModel" "key" "[I"] ++ wsX90)
def wsX9_wrongRow : List Cond := .code yX9_wrongRow cX9_wrongRow 3 (some .int) :: ([.fieldLink RX9 129 "BellTouchesModel" "last" "I", .methodLink RX9 136 yX9_first, .instanceMethod yX9_first, .selects RX9 yX9_first yX9_first, .initialized RX9, .code yX9_first cX9_first 3 (some .int), .fieldLink RX9 21 "BellTouchesModel" "key" "[I"] ++ wsX90)
def wsX9_isTrue : List Cond := .code yX9_isTrue cX9_isTrue 1 (some .int) :: ([.fieldLink RX9 129 "BellTouchesModel" "last" "I", .fieldLink RX9 21 "BellTouchesModel" "key" "[I", .methodLink RX9 139 yX9_wrongRow, .instanceMethod yX9_wrongRow, .selects RX9 yX9_wrongRow yX9_wrongRow, .initialized RX9, .code yX9_wrongRow cX9_wrongRow 3 (some .int), .methodLink RX9 136 yX9_first, .instanceMethod yX9_first, .selects RX9 yX9_first yX9_first, .code yX9_first cX9_first 3 (some .int)] ++ wsX90)
def wsX9_course : List Cond := .code yX9_course cX9_course 6 (some .int) :: ([.fieldLink RX9 9 "BellTouchesModel" "now" "[I", .fieldLink RX9 18 "BellTouchesModel" "bell" "[I", .fieldLink RX9 21 "BellTouchesModel" "key" "[I", .methodLink RX9 126 yX9_keys, .instanceMethod yX9_keys, .selects RX9 yX9_keys yX9_keys, .initialized RX9, .code yX9_keys cX9_keys 4 none, .methodLink RX9 132 yX9_goes, .instanceMethod yX9_goes, .selects RX9 yX9_goes yX9_goes, .code yX9_goes cX9_goes 5 none] ++ wsX90)
def wsX9_of : List Cond := .code yX9_of cX9_of 3 (some .int) :: ([.fieldLink RX9 9 "BellTouchesModel" "now" "[I", .methodLink RX9 56 yX9_within, .static yX9_within, .initialized RX9, .code yX9_within cX9_within 3 (some .boolean)] ++ wsX90)
def wsX9_told_r1 : List Cond := [Cond.fieldLink RX9 9 "BellTouchesModel" "now" "[I", Cond.fieldLink RX9 129 "BellTouchesModel" "last" "I", Cond.methodLink RX9 142 yX9_course, Cond.instanceMethod yX9_course, Cond.selects RX9 yX9_course yX9_course, Cond.initialized RX9, Cond.code yX9_course cX9_course 6 (some .int), Cond.fieldLink RX9 18 "BellTouchesModel" "bell" "[I", Cond.fieldLink RX9 21 "BellTouchesModel" "key" "[I", Cond.methodLink RX9 126 yX9_keys, Cond.instanceMethod yX9_keys, Cond.selects RX9 yX9_keys yX9_keys, Cond.code yX9_keys cX9_keys 4 none, Cond.methodLink RX9 132 yX9_goes, Cond.instanceMethod yX9_goes, Cond.selects RX9 yX9_goes yX9_goes, Cond.code yX9_goes cX9_goes 5 none, Cond.methodLink RX9 145 yX9_rings, Cond.instanceMethod yX9_rings, Cond.selects RX9 yX9_rings yX9_rings, Cond.code yX9_rings cX9_rings 5 none, Cond.methodLink RX9 148 yX9_round, Cond.instanceMethod yX9_round, Cond.selects RX9 yX9_round yX9_round]
def wsX9_told_r2 : List Cond := [Cond.code yX9_round cX9_round 2 (some .int), Cond.methodLink RX9 139 yX9_wrongRow, Cond.instanceMethod yX9_wrongRow, Cond.selects RX9 yX9_wrongRow yX9_wrongRow, Cond.code yX9_wrongRow cX9_wrongRow 3 (some .int), Cond.methodLink RX9 136 yX9_first, Cond.instanceMethod yX9_first, Cond.selects RX9 yX9_first yX9_first, Cond.code yX9_first cX9_first 3 (some .int), Cond.methodLink RX9 151 yX9_isTrue, Cond.instanceMethod yX9_isTrue, Cond.selects RX9 yX9_isTrue yX9_isTrue, Cond.code yX9_isTrue cX9_isTrue 1 (some .int)]
def wsX9_told : List Cond := .code yX9_told cX9_told 2 (some .int) :: ((wsX9_told_r1 ++ wsX9_told_r2) ++ wsX90)
def wsX9_isPlace : List Cond := .code yX9_isPlace cX9_isPlace 2 (some .boolean) :: ([.fieldLink RX9 9 "BellTouchesModel" "now" "[I", .methodLink RX9 56 yX9_within, .static yX9_within, .initialized RX9, .code yX9_within cX9_within 3 (some .boolean)] ++ wsX90)
def wsX9_place : List Cond := .code yX9_place cX9_place 4 (some .int) :: ([.fieldLink RX9 18 "BellTouchesModel" "bell" "[I"] ++ wsX90)
def wsX9_at : List Cond := .code yX9_at cX9_at 3 (some .int) :: ([.fieldLink RX9 129 "BellTouchesModel" "last" "I", .fieldLink RX9 18 "BellTouchesModel" "bell" "[I", .methodLink RX9 145 yX9_rings, .instanceMethod yX9_rings, .selects RX9 yX9_rings yX9_rings, .initialized RX9, .code yX9_rings cX9_rings 5 none, .fieldLink RX9 9 "BellTouchesModel" "now" "[I", .methodLink RX9 126 yX9_keys, .instanceMethod yX9_keys, .selects RX9 yX9_keys yX9_keys, .code yX9_keys cX9_keys 4 none, .fieldLink RX9 21 "BellTouchesModel" "key" "[I", .methodLink RX9 132 yX9_goes, .instanceMethod yX9_goes, .selects RX9 yX9_goes yX9_goes, .code yX9_goes cX9_goes 5 none, .methodLink RX9 56 yX9_within, .static yX9_within, .code yX9_within cX9_within 3 (some .boolean), .methodLink RX9 154 yX9_isPlace, .instanceMethod yX9_isPlace, .selects RX9 yX9_isPlace yX9_isPlace, .code yX9_isPlace cX9_isPlace 2 (some .boolean)] ++ wsX90)
def wsX9_where_r1 : List Cond := [Cond.fieldLink RX9 129 "BellTouchesModel" "last" "I", Cond.methodLink RX9 145 yX9_rings, Cond.instanceMethod yX9_rings, Cond.selects RX9 yX9_rings yX9_rings, Cond.initialized RX9, Cond.code yX9_rings cX9_rings 5 none, Cond.fieldLink RX9 9 "BellTouchesModel" "now" "[I", Cond.fieldLink RX9 18 "BellTouchesModel" "bell" "[I", Cond.methodLink RX9 126 yX9_keys, Cond.instanceMethod yX9_keys, Cond.selects RX9 yX9_keys yX9_keys, Cond.code yX9_keys cX9_keys 4 none, Cond.fieldLink RX9 21 "BellTouchesModel" "key" "[I", Cond.methodLink RX9 132 yX9_goes, Cond.instanceMethod yX9_goes, Cond.selects RX9 yX9_goes yX9_goes, Cond.code yX9_goes cX9_goes 5 none, Cond.methodLink RX9 56 yX9_within, Cond.static yX9_within, Cond.code yX9_within cX9_within 3 (some .boolean), Cond.methodLink RX9 154 yX9_isPlace, Cond.instanceMethod yX9_isPlace, Cond.selects RX9 yX9_isPlace yX9_isPlace, Cond.code yX9_isPlace cX9_isPlace 2 (some .boolean)]
def wsX9_where_r2 : List Cond := [Cond.methodLink RX9 157 yX9_place, Cond.instanceMethod yX9_place, Cond.selects RX9 yX9_place yX9_place, Cond.code yX9_place cX9_place 4 (some .int)]
def wsX9_where : List Cond := .code yX9_where cX9_where 3 (some .int) :: ((wsX9_where_r1 ++ wsX9_where_r2) ++ wsX90)
def wsX9_same : List Cond := .code yX9_same cX9_same 2 (some .int) :: ([.fieldLink RX9 129 "BellTouchesModel" "last" "I", .methodLink RX9 145 yX9_rings, .instanceMethod yX9_rings, .selects RX9 yX9_rings yX9_rings, .initialized RX9, .code yX9_rings cX9_rings 5 none, .fieldLink RX9 9 "BellTouchesModel" "now" "[I", .fieldLink RX9 18 "BellTouchesModel" "bell" "[I", .methodLink RX9 126 yX9_keys, .instanceMethod yX9_keys, .selects RX9 yX9_keys yX9_keys, .code yX9_keys cX9_keys 4 none, .fieldLink RX9 21 "BellTouchesModel" "key" "[I", .methodLink RX9 132 yX9_goes, .instanceMethod yX9_goes, .selects RX9 yX9_goes yX9_goes, .code yX9_goes cX9_goes 5 none, .methodLink RX9 56 yX9_within, .static yX9_within, .code yX9_within cX9_within 3 (some .boolean), .methodLink RX9 136 yX9_first, .instanceMethod yX9_first, .selects RX9 yX9_first yX9_first, .code yX9_first cX9_first 3 (some .int)] ++ wsX90)
def wsX9_good : List Cond := .code yX9_good cX9_good 2 (some .int) :: ([.methodLink RX9 60 yX9_areKept, .instanceMethod yX9_areKept, .selects RX9 yX9_areKept yX9_areKept, .initialized RX9, .code yX9_areKept cX9_areKept 2 (some .boolean), .fieldLink RX9 9 "BellTouchesModel" "now" "[I", .methodLink RX9 56 yX9_within, .static yX9_within, .code yX9_within cX9_within 3 (some .boolean), .methodLink RX9 64 yX9_isGood, .instanceMethod yX9_isGood, .selects RX9 yX9_isGood yX9_isGood, .code yX9_isGood cX9_isGood 3 (some .boolean)] ++ wsX90)
def wsX9_isMusic : List Cond := .code yX9_isMusic cX9_isMusic 5 (some .boolean) :: ([.fieldLink RX9 9 "BellTouchesModel" "now" "[I", .fieldLink RX9 18 "BellTouchesModel" "bell" "[I", .methodLink RX9 157 yX9_place, .instanceMethod yX9_place, .selects RX9 yX9_place yX9_place, .initialized RX9, .code yX9_place cX9_place 4 (some .int)] ++ wsX90)
def wsX9_musicOf : List Cond := .code yX9_musicOf cX9_musicOf 4 (some .int) :: ([.fieldLink RX9 129 "BellTouchesModel" "last" "I", .methodLink RX9 160 yX9_isMusic, .instanceMethod yX9_isMusic, .selects RX9 yX9_isMusic yX9_isMusic, .initialized RX9, .code yX9_isMusic cX9_isMusic 5 (some .boolean), .fieldLink RX9 9 "BellTouchesModel" "now" "[I", .fieldLink RX9 18 "BellTouchesModel" "bell" "[I", .methodLink RX9 157 yX9_place, .instanceMethod yX9_place, .selects RX9 yX9_place yX9_place, .code yX9_place cX9_place 4 (some .int)] ++ wsX90)
def wsX9_music_r1 : List Cond := [Cond.methodLink RX9 56 yX9_within, Cond.static yX9_within, Cond.initialized RX9, Cond.code yX9_within cX9_within 3 (some .boolean), Cond.methodLink RX9 145 yX9_rings, Cond.instanceMethod yX9_rings, Cond.selects RX9 yX9_rings yX9_rings, Cond.code yX9_rings cX9_rings 5 none, Cond.fieldLink RX9 9 "BellTouchesModel" "now" "[I", Cond.fieldLink RX9 18 "BellTouchesModel" "bell" "[I", Cond.fieldLink RX9 129 "BellTouchesModel" "last" "I", Cond.methodLink RX9 126 yX9_keys, Cond.instanceMethod yX9_keys, Cond.selects RX9 yX9_keys yX9_keys, Cond.code yX9_keys cX9_keys 4 none, Cond.fieldLink RX9 21 "BellTouchesModel" "key" "[I", Cond.methodLink RX9 132 yX9_goes, Cond.instanceMethod yX9_goes, Cond.selects RX9 yX9_goes yX9_goes, Cond.code yX9_goes cX9_goes 5 none, Cond.methodLink RX9 164 yX9_musicOf, Cond.instanceMethod yX9_musicOf, Cond.selects RX9 yX9_musicOf yX9_musicOf, Cond.code yX9_musicOf cX9_musicOf 4 (some .int)]
def wsX9_music_r2 : List Cond := [Cond.methodLink RX9 160 yX9_isMusic, Cond.instanceMethod yX9_isMusic, Cond.selects RX9 yX9_isMusic yX9_isMusic, Cond.code yX9_isMusic cX9_isMusic 5 (some .boolean), Cond.methodLink RX9 157 yX9_place, Cond.instanceMethod yX9_place, Cond.selects RX9 yX9_place yX9_place, Cond.code yX9_place cX9_place 4 (some .int)]
def wsX9_music : List Cond := .code yX9_music cX9_music 2 (some .int) :: ((wsX9_music_r1 ++ wsX9_music_r2) ++ wsX90)
def wsX9_least_r1 : List Cond := [Cond.fieldLink RX9 9 "BellTouchesModel" "now" "[I", Cond.methodLink RX9 56 yX9_within, Cond.static yX9_within, Cond.initialized RX9, Cond.code yX9_within cX9_within 3 (some .boolean), Cond.methodLink RX9 145 yX9_rings, Cond.instanceMethod yX9_rings, Cond.selects RX9 yX9_rings yX9_rings, Cond.code yX9_rings cX9_rings 5 none, Cond.fieldLink RX9 18 "BellTouchesModel" "bell" "[I", Cond.fieldLink RX9 129 "BellTouchesModel" "last" "I", Cond.methodLink RX9 126 yX9_keys, Cond.instanceMethod yX9_keys, Cond.selects RX9 yX9_keys yX9_keys, Cond.code yX9_keys cX9_keys 4 none, Cond.fieldLink RX9 21 "BellTouchesModel" "key" "[I", Cond.methodLink RX9 132 yX9_goes, Cond.instanceMethod yX9_goes, Cond.selects RX9 yX9_goes yX9_goes, Cond.code yX9_goes cX9_goes 5 none, Cond.methodLink RX9 151 yX9_isTrue, Cond.instanceMethod yX9_isTrue, Cond.selects RX9 yX9_isTrue yX9_isTrue, Cond.code yX9_isTrue cX9_isTrue 1 (some .int)]
def wsX9_least_r2 : List Cond := [Cond.methodLink RX9 139 yX9_wrongRow, Cond.instanceMethod yX9_wrongRow, Cond.selects RX9 yX9_wrongRow yX9_wrongRow, Cond.code yX9_wrongRow cX9_wrongRow 3 (some .int), Cond.methodLink RX9 136 yX9_first, Cond.instanceMethod yX9_first, Cond.selects RX9 yX9_first yX9_first, Cond.code yX9_first cX9_first 3 (some .int)]
def wsX9_least : List Cond := .code yX9_least cX9_least 16 (some .int) :: ((wsX9_least_r1 ++ wsX9_least_r2) ++ wsX90)
def wsX9_still_r1 : List Cond := [Cond.fieldLink RX9 129 "BellTouchesModel" "last" "I", Cond.methodLink RX9 154 yX9_isPlace, Cond.instanceMethod yX9_isPlace, Cond.selects RX9 yX9_isPlace yX9_isPlace, Cond.initialized RX9, Cond.code yX9_isPlace cX9_isPlace 2 (some .boolean), Cond.fieldLink RX9 9 "BellTouchesModel" "now" "[I", Cond.methodLink RX9 56 yX9_within, Cond.static yX9_within, Cond.code yX9_within cX9_within 3 (some .boolean), Cond.methodLink RX9 145 yX9_rings, Cond.instanceMethod yX9_rings, Cond.selects RX9 yX9_rings yX9_rings, Cond.code yX9_rings cX9_rings 5 none, Cond.fieldLink RX9 18 "BellTouchesModel" "bell" "[I", Cond.methodLink RX9 126 yX9_keys, Cond.instanceMethod yX9_keys, Cond.selects RX9 yX9_keys yX9_keys, Cond.code yX9_keys cX9_keys 4 none, Cond.fieldLink RX9 21 "BellTouchesModel" "key" "[I", Cond.methodLink RX9 132 yX9_goes, Cond.instanceMethod yX9_goes, Cond.selects RX9 yX9_goes yX9_goes, Cond.code yX9_goes cX9_goes 5 none]
def wsX9_still_r2 : List Cond := [Cond.methodLink RX9 157 yX9_place, Cond.instanceMethod yX9_place, Cond.selects RX9 yX9_place yX9_place, Cond.code yX9_place cX9_place 4 (some .int)]
def wsX9_still : List Cond := .code yX9_still cX9_still 4 (some .int) :: ((wsX9_still_r1 ++ wsX9_still_r2) ++ wsX90)
def wsX9_ahead_r1 : List Cond := [Cond.fieldLink RX9 129 "BellTouchesModel" "last" "I", Cond.methodLink RX9 154 yX9_isPlace, Cond.instanceMethod yX9_isPlace, Cond.selects RX9 yX9_isPlace yX9_isPlace, Cond.initialized RX9, Cond.code yX9_isPlace cX9_isPlace 2 (some .boolean), Cond.fieldLink RX9 9 "BellTouchesModel" "now" "[I", Cond.methodLink RX9 56 yX9_within, Cond.static yX9_within, Cond.code yX9_within cX9_within 3 (some .boolean), Cond.methodLink RX9 145 yX9_rings, Cond.instanceMethod yX9_rings, Cond.selects RX9 yX9_rings yX9_rings, Cond.code yX9_rings cX9_rings 5 none, Cond.fieldLink RX9 18 "BellTouchesModel" "bell" "[I", Cond.methodLink RX9 126 yX9_keys, Cond.instanceMethod yX9_keys, Cond.selects RX9 yX9_keys yX9_keys, Cond.code yX9_keys cX9_keys 4 none, Cond.fieldLink RX9 21 "BellTouchesModel" "key" "[I", Cond.methodLink RX9 132 yX9_goes, Cond.instanceMethod yX9_goes, Cond.selects RX9 yX9_goes yX9_goes, Cond.code yX9_goes cX9_goes 5 none]
def wsX9_ahead_r2 : List Cond := [Cond.methodLink RX9 157 yX9_place, Cond.instanceMethod yX9_place, Cond.selects RX9 yX9_place yX9_place, Cond.code yX9_place cX9_place 4 (some .int)]
def wsX9_ahead : List Cond := .code yX9_ahead cX9_ahead 5 (some .int) :: ((wsX9_ahead_r1 ++ wsX9_ahead_r2) ++ wsX90)
def wsX9_see : List Cond := .code yX9_see cX9_see 5 (some .int) :: ([.fieldLink RX9 9 "BellTouchesModel" "now" "[I", .methodLink RX9 56 yX9_within, .static yX9_within, .initialized RX9, .code yX9_within cX9_within 3 (some .boolean), .methodLink RX9 154 yX9_isPlace, .instanceMethod yX9_isPlace, .selects RX9 yX9_isPlace yX9_isPlace, .code yX9_isPlace cX9_isPlace 2 (some .boolean)] ++ wsX90)
def wsX9_isSeen : List Cond := .code yX9_isSeen cX9_isSeen 3 (some .boolean) :: ([.fieldLink RX9 9 "BellTouchesModel" "now" "[I", .fieldLink RX9 129 "BellTouchesModel" "last" "I", .fieldLink RX9 18 "BellTouchesModel" "bell" "[I"] ++ wsX90)
def wsX9_fits_r1 : List Cond := [Cond.fieldLink RX9 9 "BellTouchesModel" "now" "[I", Cond.methodLink RX9 56 yX9_within, Cond.static yX9_within, Cond.initialized RX9, Cond.code yX9_within cX9_within 3 (some .boolean), Cond.methodLink RX9 64 yX9_isGood, Cond.instanceMethod yX9_isGood, Cond.selects RX9 yX9_isGood yX9_isGood, Cond.code yX9_isGood cX9_isGood 3 (some .boolean), Cond.methodLink RX9 145 yX9_rings, Cond.instanceMethod yX9_rings, Cond.selects RX9 yX9_rings yX9_rings, Cond.code yX9_rings cX9_rings 5 none, Cond.fieldLink RX9 18 "BellTouchesModel" "bell" "[I", Cond.fieldLink RX9 129 "BellTouchesModel" "last" "I", Cond.methodLink RX9 126 yX9_keys, Cond.instanceMethod yX9_keys, Cond.selects RX9 yX9_keys yX9_keys, Cond.code yX9_keys cX9_keys 4 none, Cond.fieldLink RX9 21 "BellTouchesModel" "key" "[I", Cond.methodLink RX9 132 yX9_goes, Cond.instanceMethod yX9_goes, Cond.selects RX9 yX9_goes yX9_goes, Cond.code yX9_goes cX9_goes 5 none]
def wsX9_fits_r2 : List Cond := [Cond.methodLink RX9 167 yX9_isSeen, Cond.instanceMethod yX9_isSeen, Cond.selects RX9 yX9_isSeen yX9_isSeen, Cond.code yX9_isSeen cX9_isSeen 3 (some .boolean)]
def wsX9_fits : List Cond := .code yX9_fits cX9_fits 7 (some .int) :: ((wsX9_fits_r1 ++ wsX9_fits_r2) ++ wsX90)
def wsX9_lowest : List Cond := .code yX9_lowest cX9_lowest 6 (some .long) :: ([])
def wsX9_odds_r1 : List Cond := [Cond.constantLong RX9 170 (-9223372036854775808), Cond.fieldLink RX9 129 "BellTouchesModel" "last" "I", Cond.methodLink RX9 154 yX9_isPlace, Cond.instanceMethod yX9_isPlace, Cond.selects RX9 yX9_isPlace yX9_isPlace, Cond.initialized RX9, Cond.code yX9_isPlace cX9_isPlace 2 (some .boolean), Cond.fieldLink RX9 9 "BellTouchesModel" "now" "[I", Cond.methodLink RX9 56 yX9_within, Cond.static yX9_within, Cond.code yX9_within cX9_within 3 (some .boolean), Cond.methodLink RX9 145 yX9_rings, Cond.instanceMethod yX9_rings, Cond.selects RX9 yX9_rings yX9_rings, Cond.code yX9_rings cX9_rings 5 none, Cond.fieldLink RX9 18 "BellTouchesModel" "bell" "[I", Cond.methodLink RX9 126 yX9_keys, Cond.instanceMethod yX9_keys, Cond.selects RX9 yX9_keys yX9_keys, Cond.code yX9_keys cX9_keys 4 none, Cond.fieldLink RX9 21 "BellTouchesModel" "key" "[I", Cond.methodLink RX9 132 yX9_goes, Cond.instanceMethod yX9_goes, Cond.selects RX9 yX9_goes yX9_goes]
def wsX9_odds_r2 : List Cond := [Cond.code yX9_goes cX9_goes 5 none, Cond.methodLink RX9 157 yX9_place, Cond.instanceMethod yX9_place, Cond.selects RX9 yX9_place yX9_place, Cond.code yX9_place cX9_place 4 (some .int), Cond.methodLink RX9 172 yX9_lowest, Cond.static yX9_lowest, Cond.code yX9_lowest cX9_lowest 6 (some .long)]
def wsX9_odds : List Cond := .code yX9_odds cX9_odds 6 (some .long) :: ((wsX9_odds_r1 ++ wsX9_odds_r2) ++ wsX90)
def wsX9_mean_r1 : List Cond := [Cond.constantLong RX9 170 (-9223372036854775808), Cond.fieldLink RX9 129 "BellTouchesModel" "last" "I", Cond.methodLink RX9 56 yX9_within, Cond.static yX9_within, Cond.initialized RX9, Cond.code yX9_within cX9_within 3 (some .boolean), Cond.methodLink RX9 145 yX9_rings, Cond.instanceMethod yX9_rings, Cond.selects RX9 yX9_rings yX9_rings, Cond.code yX9_rings cX9_rings 5 none, Cond.fieldLink RX9 9 "BellTouchesModel" "now" "[I", Cond.fieldLink RX9 18 "BellTouchesModel" "bell" "[I", Cond.methodLink RX9 126 yX9_keys, Cond.instanceMethod yX9_keys, Cond.selects RX9 yX9_keys yX9_keys, Cond.code yX9_keys cX9_keys 4 none, Cond.fieldLink RX9 21 "BellTouchesModel" "key" "[I", Cond.methodLink RX9 132 yX9_goes, Cond.instanceMethod yX9_goes, Cond.selects RX9 yX9_goes yX9_goes, Cond.code yX9_goes cX9_goes 5 none, Cond.methodLink RX9 164 yX9_musicOf, Cond.instanceMethod yX9_musicOf, Cond.selects RX9 yX9_musicOf yX9_musicOf]
def wsX9_mean_r2 : List Cond := [Cond.code yX9_musicOf cX9_musicOf 4 (some .int), Cond.methodLink RX9 160 yX9_isMusic, Cond.instanceMethod yX9_isMusic, Cond.selects RX9 yX9_isMusic yX9_isMusic, Cond.code yX9_isMusic cX9_isMusic 5 (some .boolean), Cond.methodLink RX9 157 yX9_place, Cond.instanceMethod yX9_place, Cond.selects RX9 yX9_place yX9_place, Cond.code yX9_place cX9_place 4 (some .int), Cond.methodLink RX9 172 yX9_lowest, Cond.static yX9_lowest, Cond.code yX9_lowest cX9_lowest 6 (some .long)]
def wsX9_mean : List Cond := .code yX9_mean cX9_mean 4 (some .long) :: ((wsX9_mean_r1 ++ wsX9_mean_r2) ++ wsX90)
def wsX9_event : List Cond := .code yX9_event cX9_event 3 (some .int) :: ([.fieldLink RX9 9 "BellTouchesModel" "now" "[I", .methodLink RX9 56 yX9_within, .static yX9_within, .initialized RX9, .code yX9_within cX9_within 3 (some .boolean)] ++ wsX90)
def wsX9_after_r1 : List Cond := [Cond.fieldLink RX9 9 "BellTouchesModel" "now" "[I", Cond.methodLink RX9 176 Lib.Math.max.name, Cond.static Lib.Math.max.name, Cond.initialized "java/lang/Math", Cond.code Lib.Math.max.name Lib.Math.max.code 2 (some .int), Cond.methodLink RX9 56 yX9_within, Cond.static yX9_within, Cond.initialized RX9, Cond.code yX9_within cX9_within 3 (some .boolean), Cond.methodLink RX9 145 yX9_rings, Cond.instanceMethod yX9_rings, Cond.selects RX9 yX9_rings yX9_rings, Cond.code yX9_rings cX9_rings 5 none, Cond.fieldLink RX9 18 "BellTouchesModel" "bell" "[I", Cond.fieldLink RX9 129 "BellTouchesModel" "last" "I", Cond.methodLink RX9 126 yX9_keys, Cond.instanceMethod yX9_keys, Cond.selects RX9 yX9_keys yX9_keys, Cond.code yX9_keys cX9_keys 4 none, Cond.fieldLink RX9 21 "BellTouchesModel" "key" "[I", Cond.methodLink RX9 132 yX9_goes, Cond.instanceMethod yX9_goes, Cond.selects RX9 yX9_goes yX9_goes, Cond.code yX9_goes cX9_goes 5 none]
def wsX9_after_r2 : List Cond := [Cond.methodLink RX9 148 yX9_round, Cond.instanceMethod yX9_round, Cond.selects RX9 yX9_round yX9_round, Cond.code yX9_round cX9_round 2 (some .int), Cond.methodLink RX9 139 yX9_wrongRow, Cond.instanceMethod yX9_wrongRow, Cond.selects RX9 yX9_wrongRow yX9_wrongRow, Cond.code yX9_wrongRow cX9_wrongRow 3 (some .int), Cond.methodLink RX9 136 yX9_first, Cond.instanceMethod yX9_first, Cond.selects RX9 yX9_first yX9_first, Cond.code yX9_first cX9_first 3 (some .int), Cond.methodLink RX9 151 yX9_isTrue, Cond.instanceMethod yX9_isTrue, Cond.selects RX9 yX9_isTrue yX9_isTrue, Cond.code yX9_isTrue cX9_isTrue 1 (some .int)]
def wsX9_after : List Cond := .code yX9_after cX9_after 7 (some .int) :: ((wsX9_after_r1 ++ wsX9_after_r2) ++ wsX90)
def wsX9_book : List Cond := .code yX9_book cX9_book 3 (some .int) :: ([.fieldLink RX9 9 "BellTouchesModel" "now" "[I", .methodLink RX9 56 yX9_within, .static yX9_within, .initialized RX9, .code yX9_within cX9_within 3 (some .boolean), .methodLink RX9 154 yX9_isPlace, .instanceMethod yX9_isPlace, .selects RX9 yX9_isPlace yX9_isPlace, .code yX9_isPlace cX9_isPlace 2 (some .boolean)] ++ wsX90)
def wsX9_looked : List Cond := .code yX9_looked cX9_looked 3 (some .int) :: ([.fieldLink RX9 9 "BellTouchesModel" "now" "[I", .fieldLink RX9 129 "BellTouchesModel" "last" "I", .fieldLink RX9 18 "BellTouchesModel" "bell" "[I", .methodLink RX9 145 yX9_rings, .instanceMethod yX9_rings, .selects RX9 yX9_rings yX9_rings, .initialized RX9, .code yX9_rings cX9_rings 5 none, .methodLink RX9 126 yX9_keys, .instanceMethod yX9_keys, .selects RX9 yX9_keys yX9_keys, .code yX9_keys cX9_keys 4 none, .fieldLink RX9 21 "BellTouchesModel" "key" "[I", .methodLink RX9 132 yX9_goes, .instanceMethod yX9_goes, .selects RX9 yX9_goes yX9_goes, .code yX9_goes cX9_goes 5 none] ++ wsX90)
def wsX9_isTape : List Cond := .code yX9_isTape cX9_isTape 1 (some .boolean) :: ([.methodLink RX9 56 yX9_within, .static yX9_within, .initialized RX9, .code yX9_within cX9_within 3 (some .boolean)])
def wsX9_judge_r1 : List Cond := [Cond.fieldLink RX9 129 "BellTouchesModel" "last" "I", Cond.fieldLink RX9 39 "BellTouchesModel" "sort" "[I", Cond.fieldLink RX9 9 "BellTouchesModel" "now" "[I", Cond.fieldLink RX9 42 "BellTouchesModel" "long1" "[I", Cond.fieldLink RX9 45 "BellTouchesModel" "items" "[J", Cond.fieldLink RX9 18 "BellTouchesModel" "bell" "[I", Cond.methodLink RX9 145 yX9_rings, Cond.instanceMethod yX9_rings, Cond.selects RX9 yX9_rings yX9_rings, Cond.initialized RX9, Cond.code yX9_rings cX9_rings 5 none, Cond.methodLink RX9 126 yX9_keys, Cond.instanceMethod yX9_keys, Cond.selects RX9 yX9_keys yX9_keys, Cond.code yX9_keys cX9_keys 4 none, Cond.fieldLink RX9 21 "BellTouchesModel" "key" "[I", Cond.methodLink RX9 132 yX9_goes, Cond.instanceMethod yX9_goes, Cond.selects RX9 yX9_goes yX9_goes, Cond.code yX9_goes cX9_goes 5 none, Cond.methodLink RX9 56 yX9_within, Cond.static yX9_within, Cond.code yX9_within cX9_within 3 (some .boolean), Cond.methodLink RX9 181 yX9_isTape]
def wsX9_judge_r2 : List Cond := [Cond.static yX9_isTape, Cond.code yX9_isTape cX9_isTape 1 (some .boolean)]
def wsX9_judge : List Cond := .code yX9_judge cX9_judge 5 (some .int) :: ((wsX9_judge_r1 ++ wsX9_judge_r2) ++ wsX90)
def wsX9_image : List Cond := .code yX9_image cX9_image 2 (some .int) :: ([.fieldLink RX9 184 "BellTouchesModel" "imaged" "Z", .fieldLink RX9 15 "BellTouchesModel" "old" "[I", .fieldLink RX9 9 "BellTouchesModel" "now" "[I"] ++ wsX90)
def wsX9_undo : List Cond := .code yX9_undo cX9_undo 2 (some .int) :: ([.fieldLink RX9 184 "BellTouchesModel" "imaged" "Z", .fieldLink RX9 9 "BellTouchesModel" "now" "[I", .fieldLink RX9 15 "BellTouchesModel" "old" "[I"] ++ wsX90)
def wsX9_count : List Cond := .code yX9_count cX9_count 2 (some .int) :: ([.fieldLink RX9 9 "BellTouchesModel" "now" "[I", .fieldLink RX9 71 "BellTouchesModel" "texts" "I", .methodLink RX9 56 yX9_within, .static yX9_within, .initialized RX9, .code yX9_within cX9_within 3 (some .boolean)] ++ wsX90)
def wsX9_tape : List Cond := .code yX9_tape cX9_tape 5 (some .int) :: ([.fieldLink RX9 39 "BellTouchesModel" "sort" "[I", .fieldLink RX9 42 "BellTouchesModel" "long1" "[I", .fieldLink RX9 45 "BellTouchesModel" "items" "[J", .methodLink RX9 181 yX9_isTape, .static yX9_isTape, .initialized RX9, .code yX9_isTape cX9_isTape 1 (some .boolean), .methodLink RX9 56 yX9_within, .static yX9_within, .code yX9_within cX9_within 3 (some .boolean)] ++ wsX90)
def wsX9_item : List Cond := .code yX9_item cX9_item 6 (some .int) :: ([.fieldLink RX9 39 "BellTouchesModel" "sort" "[I", .fieldLink RX9 42 "BellTouchesModel" "long1" "[I", .fieldLink RX9 45 "BellTouchesModel" "items" "[J", .methodLink RX9 181 yX9_isTape, .static yX9_isTape, .initialized RX9, .code yX9_isTape cX9_isTape 1 (some .boolean), .methodLink RX9 56 yX9_within, .static yX9_within, .code yX9_within cX9_within 3 (some .boolean)] ++ wsX90)
def wsX9_peek : List Cond := .code yX9_peek cX9_peek 3 (some .long) :: ([.fieldLink RX9 42 "BellTouchesModel" "long1" "[I", .fieldLink RX9 45 "BellTouchesModel" "items" "[J", .constantLong RX9 170 (-9223372036854775808), .methodLink RX9 181 yX9_isTape, .static yX9_isTape, .initialized RX9, .code yX9_isTape cX9_isTape 1 (some .boolean), .methodLink RX9 56 yX9_within, .static yX9_within, .code yX9_within cX9_within 3 (some .boolean)] ++ wsX90)
def wsX9_shift : List Cond := .code yX9_shift cX9_shift 7 (some .int) :: ([.fieldLink RX9 39 "BellTouchesModel" "sort" "[I", .fieldLink RX9 42 "BellTouchesModel" "long1" "[I", .fieldLink RX9 49 "BellTouchesModel" "moved" "[J", .fieldLink RX9 45 "BellTouchesModel" "items" "[J", .methodLink RX9 181 yX9_isTape, .static yX9_isTape, .initialized RX9, .code yX9_isTape cX9_isTape 1 (some .boolean), .methodLink RX9 56 yX9_within, .static yX9_within, .code yX9_within cX9_within 3 (some .boolean)] ++ wsX90)
def wsJ9_max_7cf53 : List Cond := .code yJ9_max_7cf53 cJ9_max_7cf53 2 (some .int) :: ([])
def wsL_law_r1 : List Cond := [Cond.classLink RL 7 RX8, Cond.instantiable RX8 10, Cond.initialized RX8, Cond.classLink RL 10 RX9, Cond.instantiable RX9 20, Cond.initialized RX9, Cond.constantLong RL 143 (4294967295), Cond.methodLink RL 9 yX8_init, Cond.instanceMethod yX8_init, Cond.code yX8_init cX8_init 2 none, Cond.methodLink RX8 5 objectInit, Cond.instanceMethod objectInit, Cond.code objectInit ⟨#[0xb1]⟩ 1 none, Cond.classLink RX8 11 RX4, Cond.instantiable RX4 11, Cond.initialized RX4, Cond.fieldLink RX8 14 "BellTouches" "setup" "LBellTouches$Setup;", Cond.fieldLink RX8 18 "BellTouches" "kept" "LBellTouches$Setup;", Cond.fieldLink RX8 21 "BellTouches" "trialSetup" "LBellTouches$Setup;", Cond.classLink RX8 24 RX7, Cond.instantiable RX7 8, Cond.initialized RX7, Cond.fieldLink RX8 27 "BellTouches" "touch" "LBellTouches$Touch;", Cond.fieldLink RX8 31 "BellTouches" "trial" "LBellTouches$Touch;"]
def wsL_law_r2 : List Cond := [Cond.classLink RX8 34 RX0, Cond.instantiable RX0 7, Cond.initialized RX0, Cond.fieldLink RX8 37 "BellTouches" "fewest" "LBellTouches$Fewest;", Cond.classLink RX8 41 RX5, Cond.instantiable RX5 8, Cond.initialized RX5, Cond.fieldLink RX8 44 "BellTouches" "text" "LBellTouches$SetupText;", Cond.classLink RX8 48 RX6, Cond.fieldLink RX8 50 "BellTouches" "tapes" "[LBellTouches$Tape;", Cond.fieldLink RX8 54 "BellTouches" "hasImage" "Z", Cond.fieldLink RX8 58 "BellTouches" "stale" "Z", Cond.instantiable RX6 3, Cond.initialized RX6, Cond.instanceMethod yX4_init, Cond.code yX4_init cX4_init 1 none, Cond.methodLink RX4 3 objectInit, Cond.fieldLink RX4 9 "BellTouches$Setup" "n" "I", Cond.arrayClass .int, Cond.fieldLink RX4 15 "BellTouches$Setup" "changes" "[I", Cond.fieldLink RX4 19 "BellTouches$Setup" "changeCount" "I", Cond.fieldLink RX4 22 "BellTouches$Setup" "bob" "I", Cond.fieldLink RX4 25 "BellTouches$Setup" "single" "I", Cond.fieldLink RX4 28 "BellTouches$Setup" "leadCalls" "[I"]
def wsL_law_r3 : List Cond := [Cond.fieldLink RX4 31 "BellTouches$Setup" "leadCount" "I", Cond.fieldLink RX4 34 "BellTouches$Setup" "patternBells" "[I", Cond.classLink RX4 37 RX1, Cond.instantiable RX1 4, Cond.initialized RX1, Cond.fieldLink RX4 42 "BellTouches$Setup" "seen" "LBellTouches$HandRows;", Cond.fieldLink RX4 46 "BellTouches$Setup" "events" "LBellTouches$HandRows;", Cond.fieldLink RX4 49 "BellTouches$Setup" "book" "LBellTouches$HandRows;", Cond.methodLink RX4 39 yX1_init, Cond.instanceMethod yX1_init, Cond.code yX1_init cX1_init 3 none, Cond.methodLink RX1 1 objectInit, Cond.fieldLink RX1 7 "BellTouches$HandRows" "size" "I", Cond.fieldLink RX1 13 "BellTouches$HandRows" "first" "[I", Cond.fieldLink RX1 17 "BellTouches$HandRows" "second" "[I", Cond.fieldLink RX1 20 "BellTouches$HandRows" "third" "[I", Cond.instanceMethod yX7_init, Cond.code yX7_init cX7_init 1 none, Cond.methodLink RX7 3 objectInit, Cond.fieldLink RX7 9 "BellTouches$Touch" "rows" "[I", Cond.fieldLink RX7 15 "BellTouches$Touch" "last" "I", Cond.fieldLink RX7 19 "BellTouches$Touch" "changeCount" "I", Cond.fieldLink RX7 22 "BellTouches$Touch" "pairs" "[I", Cond.fieldLink RX7 25 "BellTouches$Touch" "lastPairs" "[I"]
def wsL_law_r4 : List Cond := [Cond.fieldLink RX7 28 "BellTouches$Touch" "firsts" "[I", Cond.classLink RX7 31 RX3, Cond.instantiable RX3 1, Cond.initialized RX3, Cond.fieldLink RX7 34 "BellTouches$Touch" "table" "LBellTouches$RowTable;", Cond.fieldLink RX7 38 "BellTouches$Touch" "compared" "Z", Cond.instanceMethod yX3_init, Cond.code yX3_init cX3_init 1 none, Cond.methodLink RX3 3 objectInit, Cond.fieldLink RX3 9 "BellTouches$RowTable" "numbers" "[I", Cond.instanceMethod yX0_init, Cond.code yX0_init cX0_init 1 none, Cond.methodLink RX0 3 objectInit, Cond.fieldLink RX0 9 "BellTouches$Fewest" "number" "I", Cond.fieldLink RX0 15 "BellTouches$Fewest" "notPlain" "I", Cond.classLink RX0 18 RX7, Cond.fieldLink RX0 21 "BellTouches$Fewest" "touch" "LBellTouches$Touch;", Cond.classLink RX0 25 RX3, Cond.fieldLink RX0 28 "BellTouches$Fewest" "table" "LBellTouches$RowTable;", Cond.arrayClass .boolean, Cond.fieldLink RX0 32 "BellTouches$Fewest" "thereIs" "[Z", Cond.fieldLink RX0 36 "BellTouches$Fewest" "leadCount" "I", Cond.fieldLink RX0 39 "BellTouches$Fewest" "bound" "I", Cond.instanceMethod yX5_init]
def wsL_law_r5 : List Cond := [Cond.code yX5_init cX5_init 1 none, Cond.methodLink RX5 3 objectInit, Cond.fieldLink RX5 9 "BellTouches$SetupText" "length" "I", Cond.arrayClass .byte, Cond.fieldLink RX5 15 "BellTouches$SetupText" "signs" "[B", Cond.fieldLink RX5 19 "BellTouches$SetupText" "place" "I", Cond.fieldLink RX5 22 "BellTouches$SetupText" "kinds" "[I", Cond.fieldLink RX5 26 "BellTouches$SetupText" "starts" "[I", Cond.fieldLink RX5 29 "BellTouches$SetupText" "clauseCount" "I", Cond.fieldLink RX5 32 "BellTouches$SetupText" "values" "[I", Cond.fieldLink RX5 35 "BellTouches$SetupText" "valueCount" "I", Cond.instanceMethod yX6_init, Cond.code yX6_init cX6_init 1 none, Cond.methodLink RX6 3 objectInit, Cond.fieldLink RX6 9 "BellTouches$Tape" "sort" "I", Cond.fieldLink RX6 15 "BellTouches$Tape" "length" "I", Cond.arrayClass .long, Cond.fieldLink RX6 18 "BellTouches$Tape" "items" "[J", Cond.methodLink RL 12 yX9_init, Cond.instanceMethod yX9_init, Cond.code yX9_init cX9_init 1 none, Cond.methodLink RX9 3 objectInit, Cond.fieldLink RX9 9 "BellTouchesModel" "now" "[I", Cond.fieldLink RX9 15 "BellTouchesModel" "old" "[I"]
def wsL_law_r6 : List Cond := [Cond.fieldLink RX9 18 "BellTouchesModel" "bell" "[I", Cond.fieldLink RX9 21 "BellTouchesModel" "key" "[I", Cond.fieldLink RX9 24 "BellTouchesModel" "text" "[I", Cond.fieldLink RX9 27 "BellTouchesModel" "clause" "[I", Cond.fieldLink RX9 30 "BellTouchesModel" "from" "[I", Cond.fieldLink RX9 33 "BellTouchesModel" "many" "[I", Cond.fieldLink RX9 36 "BellTouchesModel" "number" "[I", Cond.fieldLink RX9 39 "BellTouchesModel" "sort" "[I", Cond.fieldLink RX9 42 "BellTouchesModel" "long1" "[I", Cond.fieldLink RX9 45 "BellTouchesModel" "items" "[J", Cond.fieldLink RX9 49 "BellTouchesModel" "moved" "[J", Cond.methodLink RX9 52 yX9_begins, Cond.instanceMethod yX9_begins, Cond.selects RX9 yX9_begins yX9_begins, Cond.code yX9_begins cX9_begins 3 none, Cond.methodLink RL 13 yX8_bells, Cond.instanceMethod yX8_bells, Cond.selects RX8 yX8_bells yX8_bells, Cond.code yX8_bells cX8_bells 3 (some .int), Cond.fieldLink RX8 62 "BellTouches$Setup" "n" "I", Cond.methodLink RX8 66 yX4_begin, Cond.instanceMethod yX4_begin, Cond.selects RX4 yX4_begin yX4_begin, Cond.code yX4_begin cX4_begin 3 none]
def wsL_law_r7 : List Cond := [Cond.fieldLink RX4 52 "BellTouches$HandRows" "size" "I", Cond.methodLink RL 17 yX9_bells, Cond.instanceMethod yX9_bells, Cond.selects RX9 yX9_bells yX9_bells, Cond.code yX9_bells cX9_bells 3 (some .int), Cond.methodLink RX9 56 yX9_within, Cond.static yX9_within, Cond.code yX9_within cX9_within 3 (some .boolean), Cond.methodLink RL 18 yX8_change, Cond.instanceMethod yX8_change, Cond.selects RX8 yX8_change yX8_change, Cond.code yX8_change cX8_change 2 (some .int), Cond.fieldLink RX8 80 "BellTouches$Setup" "changeCount" "I", Cond.fieldLink RX8 83 "BellTouches$Setup" "changes" "[I", Cond.methodLink RX8 70 yX8_isPlaces, Cond.instanceMethod yX8_isPlaces, Cond.selects RX8 yX8_isPlaces yX8_isPlaces, Cond.code yX8_isPlaces cX8_isPlaces 2 (some .boolean), Cond.methodLink RX8 74 yX2_isGood, Cond.static yX2_isGood, Cond.initialized RX2, Cond.code yX2_isGood cX2_isGood 2 (some .boolean), Cond.methodLink RX2 18 yX2_pairs, Cond.static yX2_pairs]
def wsL_law_r8 : List Cond := [Cond.code yX2_pairs cX2_pairs 4 (some .int), Cond.methodLink RX2 21 yX2_isKept, Cond.static yX2_isKept, Cond.code yX2_isKept cX2_isKept 2 (some .boolean), Cond.methodLink RL 21 yX9_change, Cond.instanceMethod yX9_change, Cond.selects RX9 yX9_change yX9_change, Cond.code yX9_change cX9_change 2 (some .int), Cond.methodLink RX9 60 yX9_areKept, Cond.instanceMethod yX9_areKept, Cond.selects RX9 yX9_areKept yX9_areKept, Cond.code yX9_areKept cX9_areKept 2 (some .boolean), Cond.methodLink RX9 64 yX9_isGood, Cond.instanceMethod yX9_isGood, Cond.selects RX9 yX9_isGood yX9_isGood, Cond.code yX9_isGood cX9_isGood 3 (some .boolean), Cond.methodLink RL 22 yX8_calls, Cond.instanceMethod yX8_calls, Cond.selects RX8 yX8_calls yX8_calls, Cond.code yX8_calls cX8_calls 4 (some .int), Cond.methodLink RX8 87 yX4_calledChange, Cond.instanceMethod yX4_calledChange, Cond.selects RX4 yX4_calledChange yX4_calledChange, Cond.code yX4_calledChange cX4_calledChange 2 (some .int)]
def wsL_law_r9 : List Cond := [Cond.methodLink RX8 91 yX4_setCalledChange, Cond.instanceMethod yX4_setCalledChange, Cond.selects RX4 yX4_setCalledChange yX4_setCalledChange, Cond.code yX4_setCalledChange cX4_setCalledChange 3 none, Cond.methodLink RL 26 yX9_calls, Cond.instanceMethod yX9_calls, Cond.selects RX9 yX9_calls yX9_calls, Cond.code yX9_calls cX9_calls 3 (some .int), Cond.methodLink RX9 67 yX9_becomes, Cond.instanceMethod yX9_becomes, Cond.selects RX9 yX9_becomes yX9_becomes, Cond.code yX9_becomes cX9_becomes 4 (some .int), Cond.methodLink RL 27 yX8_call, Cond.instanceMethod yX8_call, Cond.selects RX8 yX8_call yX8_call, Cond.code yX8_call cX8_call 4 (some .int), Cond.fieldLink RX8 98 "BellTouches$Setup" "leadCalls" "[I", Cond.methodLink RX8 95 yX8_isLead, Cond.static yX8_isLead, Cond.code yX8_isLead cX8_isLead 1 (some .boolean), Cond.methodLink RL 30 yX9_call, Cond.instanceMethod yX9_call, Cond.selects RX9 yX9_call yX9_call, Cond.code yX9_call cX9_call 3 (some .int)]
def wsL_law_r10 : List Cond := [Cond.methodLink RL 31 yX8_leads, Cond.instanceMethod yX8_leads, Cond.selects RX8 yX8_leads yX8_leads, Cond.code yX8_leads cX8_leads 3 (some .int), Cond.fieldLink RX8 101 "BellTouches$Setup" "leadCount" "I", Cond.methodLink RL 34 yX9_leads, Cond.instanceMethod yX9_leads, Cond.selects RX9 yX9_leads yX9_leads, Cond.code yX9_leads cX9_leads 2 (some .int), Cond.methodLink RL 35 yX8_pattern, Cond.instanceMethod yX8_pattern, Cond.selects RX8 yX8_pattern yX8_pattern, Cond.code yX8_pattern cX8_pattern 4 (some .int), Cond.fieldLink RX8 104 "BellTouches$Setup" "patternBells" "[I", Cond.methodLink RL 38 yX9_pattern, Cond.instanceMethod yX9_pattern, Cond.selects RX9 yX9_pattern yX9_pattern, Cond.code yX9_pattern cX9_pattern 3 (some .int), Cond.methodLink RL 39 yX8_feed, Cond.instanceMethod yX8_feed, Cond.selects RX8 yX8_feed yX8_feed, Cond.code yX8_feed cX8_feed 2 (some .int), Cond.fieldLink RX8 110 "BellTouches$SetupText" "length" "I", Cond.methodLink RX8 107 yX5_append]
def wsL_law_r11 : List Cond := [Cond.instanceMethod yX5_append, Cond.selects RX5 yX5_append yX5_append, Cond.code yX5_append cX5_append 2 (some .boolean), Cond.methodLink RL 42 yX9_feed, Cond.instanceMethod yX9_feed, Cond.selects RX9 yX9_feed yX9_feed, Cond.code yX9_feed cX9_feed 2 (some .int), Cond.fieldLink RX9 71 "BellTouchesModel" "texts" "I", Cond.methodLink RL 43 yX8_read, Cond.instanceMethod yX8_read, Cond.selects RX8 yX8_read yX8_read, Cond.code yX8_read cX8_read 2 (some .int), Cond.methodLink RX8 113 yX5_parse, Cond.instanceMethod yX5_parse, Cond.selects RX5 yX5_parse yX5_parse, Cond.code yX5_parse cX5_parse 2 (some .int), Cond.methodLink RX5 38 yX5_next, Cond.instanceMethod yX5_next, Cond.selects RX5 yX5_next yX5_next, Cond.code yX5_next cX5_next 1 (some .int), Cond.methodLink RX5 42 yX5_parseClause, Cond.instanceMethod yX5_parseClause, Cond.selects RX5 yX5_parseClause yX5_parseClause, Cond.code yX5_parseClause cX5_parseClause 2 (some .boolean)]
def wsL_law_r12 : List Cond := [Cond.methodLink RX5 46 yX5_parseDigit, Cond.instanceMethod yX5_parseDigit, Cond.selects RX5 yX5_parseDigit yX5_parseDigit, Cond.code yX5_parseDigit cX5_parseDigit 2 (some .boolean), Cond.methodLink RX5 58 yX5_keep, Cond.instanceMethod yX5_keep, Cond.selects RX5 yX5_keep yX5_keep, Cond.code yX5_keep cX5_keep 2 none, Cond.methodLink RX5 49 yX5_parseWords, Cond.instanceMethod yX5_parseWords, Cond.selects RX5 yX5_parseWords yX5_parseWords, Cond.code yX5_parseWords cX5_parseWords 3 (some .boolean), Cond.methodLink RX5 52 yX5_parseWord, Cond.instanceMethod yX5_parseWord, Cond.selects RX5 yX5_parseWord yX5_parseWord, Cond.code yX5_parseWord cX5_parseWord 3 (some .boolean), Cond.methodLink RX5 62 yX5_isPlaceSign, Cond.static yX5_isPlaceSign, Cond.code yX5_isPlaceSign cX5_isPlaceSign 1 (some .boolean), Cond.methodLink RX5 55 yX5_parseCalls, Cond.instanceMethod yX5_parseCalls, Cond.selects RX5 yX5_parseCalls yX5_parseCalls, Cond.code yX5_parseCalls cX5_parseCalls 2 (some .boolean), Cond.methodLink RX5 66 yX5_callOf]
def wsL_law_r13 : List Cond := [Cond.static yX5_callOf, Cond.code yX5_callOf cX5_callOf 1 (some .int), Cond.methodLink RX8 117 yX5_perform, Cond.instanceMethod yX5_perform, Cond.selects RX5 yX5_perform yX5_perform, Cond.code yX5_perform cX5_perform 4 (some .int), Cond.methodLink RX5 70 yX5_performClause, Cond.instanceMethod yX5_performClause, Cond.selects RX5 yX5_performClause yX5_performClause, Cond.code yX5_performClause cX5_performClause 5 (some .boolean), Cond.methodLink RX5 74 yX5_beginBells, Cond.static yX5_beginBells, Cond.code yX5_beginBells cX5_beginBells 2 (some .boolean), Cond.methodLink RX5 88 yX4_begin, Cond.methodLink RX5 78 yX5_setMethod, Cond.instanceMethod yX5_setMethod, Cond.selects RX5 yX5_setMethod yX5_setMethod, Cond.code yX5_setMethod cX5_setMethod 5 (some .boolean), Cond.fieldLink RX5 93 "BellTouches$Setup" "n" "I", Cond.fieldLink RX5 102 "BellTouches$Setup" "changeCount" "I", Cond.fieldLink RX5 105 "BellTouches$Setup" "changes" "[I", Cond.methodLink RX5 96 yX2_isGood, Cond.methodLink RX5 82 yX5_setCall, Cond.static yX5_setCall]
def wsL_law_r14 : List Cond := [Cond.code yX5_setCall cX5_setCall 3 (some .boolean), Cond.methodLink RX5 108 yX4_setCalledChange, Cond.methodLink RX5 85 yX5_setLeads, Cond.instanceMethod yX5_setLeads, Cond.selects RX5 yX5_setLeads yX5_setLeads, Cond.code yX5_setLeads cX5_setLeads 5 (some .boolean), Cond.fieldLink RX5 112 "BellTouches$Setup" "leadCount" "I", Cond.fieldLink RX5 115 "BellTouches$Setup" "leadCalls" "[I", Cond.methodLink RL 47 yX9_read, Cond.instanceMethod yX9_read, Cond.selects RX9 yX9_read yX9_read, Cond.code yX9_read cX9_read 4 (some .int), Cond.fieldLink RX9 75 "BellTouchesModel" "at" "I", Cond.fieldLink RX9 78 "BellTouchesModel" "fault" "I", Cond.fieldLink RX9 84 "BellTouchesModel" "clauses" "I", Cond.fieldLink RX9 81 "BellTouchesModel" "numbers" "I", Cond.methodLink RX9 120 yX9_reads, Cond.instanceMethod yX9_reads, Cond.selects RX9 yX9_reads yX9_reads, Cond.code yX9_reads cX9_reads 1 none, Cond.methodLink RX9 87 yX9_sign, Cond.instanceMethod yX9_sign, Cond.selects RX9 yX9_sign yX9_sign, Cond.code yX9_sign cX9_sign 1 (some .int)]
def wsL_law_r15 : List Cond := [Cond.methodLink RX9 91 yX9_wrong, Cond.instanceMethod yX9_wrong, Cond.selects RX9 yX9_wrong yX9_wrong, Cond.code yX9_wrong cX9_wrong 1 none, Cond.methodLink RX9 94 yX9_adds, Cond.instanceMethod yX9_adds, Cond.selects RX9 yX9_adds yX9_adds, Cond.code yX9_adds cX9_adds 2 none, Cond.methodLink RX9 104 yX9_words, Cond.instanceMethod yX9_words, Cond.selects RX9 yX9_words yX9_words, Cond.code yX9_words cX9_words 4 none, Cond.methodLink RX9 100 yX9_word, Cond.instanceMethod yX9_word, Cond.selects RX9 yX9_word yX9_word, Cond.code yX9_word cX9_word 1 (some .boolean), Cond.methodLink RX9 97 yX9_digits, Cond.instanceMethod yX9_digits, Cond.selects RX9 yX9_digits yX9_digits, Cond.code yX9_digits cX9_digits 3 none, Cond.methodLink RX9 107 yX9_callOf, Cond.static yX9_callOf, Cond.code yX9_callOf cX9_callOf 1 (some .int), Cond.methodLink RX9 123 yX9_does]
def wsL_law_r16 : List Cond := [Cond.instanceMethod yX9_does, Cond.selects RX9 yX9_does yX9_does, Cond.code yX9_does cX9_does 4 (some .boolean), Cond.methodLink RX9 111 yX9_bells, Cond.methodLink RX9 114 yX9_calls, Cond.methodLink RX9 117 yX9_areGood, Cond.instanceMethod yX9_areGood, Cond.selects RX9 yX9_areGood yX9_areGood, Cond.code yX9_areGood cX9_areGood 4 (some .boolean), Cond.methodLink RL 48 yX8_of, Cond.instanceMethod yX8_of, Cond.selects RX8 yX8_of yX8_of, Cond.code yX8_of cX8_of 3 (some .int), Cond.fieldLink RX8 121 "BellTouches$Setup" "bob" "I", Cond.fieldLink RX8 127 "BellTouches$Setup" "single" "I", Cond.methodLink RX8 124 yX8_orNotFound, Cond.static yX8_orNotFound, Cond.code yX8_orNotFound cX8_orNotFound 1 (some .int), Cond.methodLink RL 51 yX9_of, Cond.instanceMethod yX9_of, Cond.selects RX9 yX9_of yX9_of, Cond.code yX9_of cX9_of 3 (some .int), Cond.methodLink RL 52 yX8_told, Cond.instanceMethod yX8_told]
def wsL_law_r17 : List Cond := [Cond.selects RX8 yX8_told yX8_told, Cond.code yX8_told cX8_told 2 (some .int), Cond.fieldLink RX8 134 "BellTouches$Touch" "last" "I", Cond.methodLink RX8 130 yX8_rung, Cond.instanceMethod yX8_rung, Cond.selects RX8 yX8_rung yX8_rung, Cond.code yX8_rung cX8_rung 1 (some (.object "BellTouches$Touch")), Cond.methodLink RX8 219 yX7_ring, Cond.instanceMethod yX7_ring, Cond.selects RX7 yX7_ring yX7_ring, Cond.code yX7_ring cX7_ring 4 none, Cond.fieldLink RX7 46 "BellTouches$Setup" "leadCount" "I", Cond.fieldLink RX7 51 "BellTouches$Setup" "leadCalls" "[I", Cond.methodLink RX7 42 yX7_begin, Cond.instanceMethod yX7_begin, Cond.selects RX7 yX7_begin yX7_begin, Cond.code yX7_begin cX7_begin 4 none, Cond.fieldLink RX7 58 "BellTouches$Setup" "changeCount" "I", Cond.fieldLink RX7 59 "BellTouches$Setup" "n" "I", Cond.fieldLink RX7 62 "BellTouches$Setup" "changes" "[I", Cond.methodLink RX7 65 yX2_pairs, Cond.methodLink RX7 70 yX4_calledChange, Cond.methodLink RX7 74 yX2_rounds, Cond.static yX2_rounds]
def wsL_law_r18 : List Cond := [Cond.code yX2_rounds cX2_rounds 3 (some .int), Cond.methodLink RX7 54 yX7_step, Cond.instanceMethod yX7_step, Cond.selects RX7 yX7_step yX7_step, Cond.code yX7_step cX7_step 4 none, Cond.methodLink RX7 77 yX2_swapped, Cond.static yX2_swapped, Cond.code yX2_swapped cX2_swapped 3 (some .int), Cond.methodLink RX8 137 yX7_roundRow, Cond.instanceMethod yX7_roundRow, Cond.selects RX7 yX7_roundRow yX7_roundRow, Cond.code yX7_roundRow cX7_roundRow 2 (some .int), Cond.methodLink RX7 80 yX7_compare, Cond.instanceMethod yX7_compare, Cond.selects RX7 yX7_compare yX7_compare, Cond.code yX7_compare cX7_compare 2 none, Cond.methodLink RX7 87 yX3_enter, Cond.instanceMethod yX3_enter, Cond.selects RX3 yX3_enter yX3_enter, Cond.code yX3_enter cX3_enter 7 (some .int), Cond.methodLink RX3 13 yX3_start, Cond.static yX3_start, Cond.code yX3_start cX3_start 1 (some .int), Cond.constant RX3 17 (-1640531535)]
def wsL_law_r19 : List Cond := [Cond.methodLink RX7 91 yX3_leave, Cond.instanceMethod yX3_leave, Cond.selects RX3 yX3_leave yX3_leave, Cond.code yX3_leave cX3_leave 6 none, Cond.methodLink RX8 140 yX7_falseRow, Cond.instanceMethod yX7_falseRow, Cond.selects RX7 yX7_falseRow yX7_falseRow, Cond.code yX7_falseRow cX7_falseRow 3 (some .int), Cond.methodLink RX8 143 yX7_isTrue, Cond.instanceMethod yX7_isTrue, Cond.selects RX7 yX7_isTrue yX7_isTrue, Cond.code yX7_isTrue cX7_isTrue 1 (some .boolean), Cond.methodLink RX7 83 yX7_falseRow, Cond.methodLink RX8 147 yX7_course, Cond.instanceMethod yX7_course, Cond.selects RX7 yX7_course yX7_course, Cond.code yX7_course cX7_course 4 (some .int), Cond.methodLink RL 55 yX9_told, Cond.instanceMethod yX9_told, Cond.selects RX9 yX9_told yX9_told, Cond.code yX9_told cX9_told 2 (some .int), Cond.fieldLink RX9 129 "BellTouchesModel" "last" "I", Cond.methodLink RX9 142 yX9_course, Cond.instanceMethod yX9_course]
def wsL_law_r20 : List Cond := [Cond.selects RX9 yX9_course yX9_course, Cond.code yX9_course cX9_course 6 (some .int), Cond.methodLink RX9 126 yX9_keys, Cond.instanceMethod yX9_keys, Cond.selects RX9 yX9_keys yX9_keys, Cond.code yX9_keys cX9_keys 4 none, Cond.methodLink RX9 132 yX9_goes, Cond.instanceMethod yX9_goes, Cond.selects RX9 yX9_goes yX9_goes, Cond.code yX9_goes cX9_goes 5 none, Cond.methodLink RX9 145 yX9_rings, Cond.instanceMethod yX9_rings, Cond.selects RX9 yX9_rings yX9_rings, Cond.code yX9_rings cX9_rings 5 none, Cond.methodLink RX9 148 yX9_round, Cond.instanceMethod yX9_round, Cond.selects RX9 yX9_round yX9_round, Cond.code yX9_round cX9_round 2 (some .int), Cond.methodLink RX9 139 yX9_wrongRow, Cond.instanceMethod yX9_wrongRow, Cond.selects RX9 yX9_wrongRow yX9_wrongRow, Cond.code yX9_wrongRow cX9_wrongRow 3 (some .int), Cond.methodLink RX9 136 yX9_first, Cond.instanceMethod yX9_first]
def wsL_law_r21 : List Cond := [Cond.selects RX9 yX9_first yX9_first, Cond.code yX9_first cX9_first 3 (some .int), Cond.methodLink RX9 151 yX9_isTrue, Cond.instanceMethod yX9_isTrue, Cond.selects RX9 yX9_isTrue yX9_isTrue, Cond.code yX9_isTrue cX9_isTrue 1 (some .int), Cond.methodLink RL 56 yX8_at, Cond.instanceMethod yX8_at, Cond.selects RX8 yX8_at yX8_at, Cond.code yX8_at cX8_at 3 (some .int), Cond.fieldLink RX8 156 "BellTouches$Touch" "rows" "[I", Cond.methodLink RX8 150 yX8_isRow, Cond.instanceMethod yX8_isRow, Cond.selects RX8 yX8_isRow yX8_isRow, Cond.code yX8_isRow cX8_isRow 2 (some .boolean), Cond.methodLink RX8 153 yX8_isBell, Cond.instanceMethod yX8_isBell, Cond.selects RX8 yX8_isBell yX8_isBell, Cond.code yX8_isBell cX8_isBell 2 (some .boolean), Cond.methodLink RX8 159 yX2_bellIn, Cond.static yX2_bellIn, Cond.code yX2_bellIn cX2_bellIn 2 (some .int), Cond.methodLink RL 59 yX9_at, Cond.instanceMethod yX9_at]
def wsL_law_r22 : List Cond := [Cond.selects RX9 yX9_at yX9_at, Cond.code yX9_at cX9_at 3 (some .int), Cond.methodLink RX9 154 yX9_isPlace, Cond.instanceMethod yX9_isPlace, Cond.selects RX9 yX9_isPlace yX9_isPlace, Cond.code yX9_isPlace cX9_isPlace 2 (some .boolean), Cond.methodLink RL 60 yX8_where, Cond.instanceMethod yX8_where, Cond.selects RX8 yX8_where yX8_where, Cond.code yX8_where cX8_where 3 (some .int), Cond.methodLink RX8 163 yX2_placeOf, Cond.static yX2_placeOf, Cond.code yX2_placeOf cX2_placeOf 3 (some .int), Cond.methodLink RX2 9 yX2_bellIn, Cond.methodLink RL 63 yX9_where, Cond.instanceMethod yX9_where, Cond.selects RX9 yX9_where yX9_where, Cond.code yX9_where cX9_where 3 (some .int), Cond.methodLink RX9 157 yX9_place, Cond.instanceMethod yX9_place, Cond.selects RX9 yX9_place yX9_place, Cond.code yX9_place cX9_place 4 (some .int), Cond.methodLink RL 64 yX8_same, Cond.instanceMethod yX8_same]
def wsL_law_r23 : List Cond := [Cond.selects RX8 yX8_same yX8_same, Cond.code yX8_same cX8_same 2 (some .int), Cond.methodLink RX8 166 yX7_firstAs, Cond.instanceMethod yX7_firstAs, Cond.selects RX7 yX7_firstAs yX7_firstAs, Cond.code yX7_firstAs cX7_firstAs 2 (some .int), Cond.methodLink RL 67 yX9_same, Cond.instanceMethod yX9_same, Cond.selects RX9 yX9_same yX9_same, Cond.code yX9_same cX9_same 2 (some .int), Cond.methodLink RL 68 yX8_good, Cond.instanceMethod yX8_good, Cond.selects RX8 yX8_good yX8_good, Cond.code yX8_good cX8_good 2 (some .int), Cond.methodLink RL 71 yX9_good, Cond.instanceMethod yX9_good, Cond.selects RX9 yX9_good yX9_good, Cond.code yX9_good cX9_good 2 (some .int), Cond.methodLink RL 72 yX8_music, Cond.instanceMethod yX8_music, Cond.selects RX8 yX8_music yX8_music, Cond.code yX8_music cX8_music 2 (some .int), Cond.methodLink RX8 169 yX8_countMusic, Cond.instanceMethod yX8_countMusic]
def wsL_law_r24 : List Cond := [Cond.selects RX8 yX8_countMusic yX8_countMusic, Cond.code yX8_countMusic cX8_countMusic 5 (some .int), Cond.methodLink RX8 256 yX4_isMusic, Cond.instanceMethod yX4_isMusic, Cond.selects RX4 yX4_isMusic yX4_isMusic, Cond.code yX4_isMusic cX4_isMusic 4 (some .boolean), Cond.constant RX4 71 (65535), Cond.methodLink RX4 65 yX2_rounds, Cond.methodLink RX4 72 yX4_holdsPattern, Cond.instanceMethod yX4_holdsPattern, Cond.selects RX4 yX4_holdsPattern yX4_holdsPattern, Cond.code yX4_holdsPattern cX4_holdsPattern 4 (some .boolean), Cond.methodLink RX4 80 yX2_bellIn, Cond.methodLink RX4 76 yX2_isRightAhead, Cond.static yX2_isRightAhead, Cond.code yX2_isRightAhead cX2_isRightAhead 3 (some .boolean), Cond.methodLink RX2 15 yX2_placeOf, Cond.methodLink RL 75 yX9_music, Cond.instanceMethod yX9_music, Cond.selects RX9 yX9_music yX9_music, Cond.code yX9_music cX9_music 2 (some .int), Cond.methodLink RX9 164 yX9_musicOf, Cond.instanceMethod yX9_musicOf, Cond.selects RX9 yX9_musicOf yX9_musicOf]
def wsL_law_r25 : List Cond := [Cond.code yX9_musicOf cX9_musicOf 4 (some .int), Cond.methodLink RX9 160 yX9_isMusic, Cond.instanceMethod yX9_isMusic, Cond.selects RX9 yX9_isMusic yX9_isMusic, Cond.code yX9_isMusic cX9_isMusic 5 (some .boolean), Cond.methodLink RL 76 yX8_least, Cond.instanceMethod yX8_least, Cond.selects RX8 yX8_least yX8_least, Cond.code yX8_least cX8_least 3 (some .int), Cond.fieldLink RX8 176 "BellTouches$Fewest" "number" "I", Cond.fieldLink RX8 179 "BellTouches$Fewest" "notPlain" "I", Cond.methodLink RX8 172 yX0_find, Cond.instanceMethod yX0_find, Cond.selects RX0 yX0_find yX0_find, Cond.code yX0_find cX0_find 3 none, Cond.fieldLink RX0 42 "BellTouches$Setup" "bob" "I", Cond.fieldLink RX0 47 "BellTouches$Setup" "single" "I", Cond.fieldLink RX0 54 "BellTouches$Touch" "changeCount" "I", Cond.fieldLink RX0 57 "BellTouches$Touch" "rows" "[I", Cond.methodLink RX0 50 yX7_begin, Cond.methodLink RX0 61 yX3_enter, Cond.methodLink RX0 65 yX0_search, Cond.static yX0_search, Cond.code yX0_search cX0_search 8 none]
def wsL_law_r26 : List Cond := [Cond.fieldLink RX0 73 "BellTouches$Touch" "last" "I", Cond.methodLink RX0 76 yX0_ringTillAgain, Cond.instanceMethod yX0_ringTillAgain, Cond.selects RX0 yX0_ringTillAgain yX0_ringTillAgain, Cond.code yX0_ringTillAgain cX0_ringTillAgain 3 (some .int), Cond.methodLink RX0 88 yX7_step, Cond.methodLink RX0 80 yX0_isEnd, Cond.instanceMethod yX0_isEnd, Cond.selects RX0 yX0_isEnd yX0_isEnd, Cond.code yX0_isEnd cX0_isEnd 2 (some .boolean), Cond.methodLink RX0 84 yX0_backTo, Cond.instanceMethod yX0_backTo, Cond.selects RX0 yX0_backTo yX0_backTo, Cond.code yX0_backTo cX0_backTo 3 none, Cond.methodLink RX0 69 yX3_leave, Cond.methodLink RL 79 yX9_least, Cond.instanceMethod yX9_least, Cond.selects RX9 yX9_least yX9_least, Cond.code yX9_least cX9_least 16 (some .int), Cond.methodLink RL 80 yX8_still, Cond.instanceMethod yX8_still, Cond.selects RX8 yX8_still yX8_still, Cond.code yX8_still cX8_still 5 (some .int), Cond.methodLink RL 83 yX9_still]
def wsL_law_r27 : List Cond := [Cond.instanceMethod yX9_still, Cond.selects RX9 yX9_still yX9_still, Cond.code yX9_still cX9_still 4 (some .int), Cond.methodLink RL 84 yX8_ahead, Cond.instanceMethod yX8_ahead, Cond.selects RX8 yX8_ahead yX8_ahead, Cond.code yX8_ahead cX8_ahead 6 (some .int), Cond.methodLink RX8 182 yX2_isRightAhead, Cond.methodLink RL 87 yX9_ahead, Cond.instanceMethod yX9_ahead, Cond.selects RX9 yX9_ahead yX9_ahead, Cond.code yX9_ahead cX9_ahead 5 (some .int), Cond.methodLink RL 88 yX8_see, Cond.instanceMethod yX8_see, Cond.selects RX8 yX8_see yX8_see, Cond.code yX8_see cX8_see 4 (some .int), Cond.fieldLink RX8 186 "BellTouches$Setup" "seen" "LBellTouches$HandRows;", Cond.fieldLink RX8 190 "BellTouches$HandRows" "size" "I", Cond.methodLink RX8 195 yX1_append, Cond.instanceMethod yX1_append, Cond.selects RX1 yX1_append yX1_append, Cond.code yX1_append cX1_append 4 (some .boolean), Cond.methodLink RL 92 yX9_see, Cond.instanceMethod yX9_see]
def wsL_law_r28 : List Cond := [Cond.selects RX9 yX9_see yX9_see, Cond.code yX9_see cX9_see 5 (some .int), Cond.methodLink RL 93 yX8_fits, Cond.instanceMethod yX8_fits, Cond.selects RX8 yX8_fits yX8_fits, Cond.code yX8_fits cX8_fits 6 (some .int), Cond.methodLink RX8 197 yX4_copyFrom, Cond.instanceMethod yX4_copyFrom, Cond.selects RX4 yX4_copyFrom yX4_copyFrom, Cond.code yX4_copyFrom cX4_copyFrom 2 none, Cond.methodLink RX4 55 arraycopyName, Cond.native arraycopyName, Cond.static arraycopyName, Cond.initialized "java/lang/System", Cond.methodLink RX4 61 yX1_copyFrom, Cond.instanceMethod yX1_copyFrom, Cond.selects RX1 yX1_copyFrom yX1_copyFrom, Cond.code yX1_copyFrom cX1_copyFrom 3 none, Cond.methodLink RX1 23 yX1_append, Cond.methodLink RX8 201 yX8_fitsLast, Cond.instanceMethod yX8_fitsLast, Cond.selects RX8 yX8_fitsLast yX8_fitsLast, Cond.code yX8_fitsLast cX8_fitsLast 6 (some .boolean), Cond.fieldLink RX8 225 "BellTouches$HandRows" "first" "[I"]
def wsL_law_r29 : List Cond := [Cond.fieldLink RX8 228 "BellTouches$HandRows" "second" "[I", Cond.fieldLink RX8 259 "BellTouches$HandRows" "third" "[I", Cond.methodLink RL 96 yX9_fits, Cond.instanceMethod yX9_fits, Cond.selects RX9 yX9_fits yX9_fits, Cond.code yX9_fits cX9_fits 7 (some .int), Cond.methodLink RX9 167 yX9_isSeen, Cond.instanceMethod yX9_isSeen, Cond.selects RX9 yX9_isSeen yX9_isSeen, Cond.code yX9_isSeen cX9_isSeen 3 (some .boolean), Cond.methodLink RL 97 yX8_odds, Cond.instanceMethod yX8_odds, Cond.selects RX8 yX8_odds yX8_odds, Cond.code yX8_odds cX8_odds 7 (some .long), Cond.constantLong RX8 207 (-9223372036854775808), Cond.methodLink RX8 204 yX8_isPart, Cond.static yX8_isPart, Cond.code yX8_isPart cX8_isPart 1 (some .boolean), Cond.methodLink RX8 209 yX8_lowestTerms, Cond.static yX8_lowestTerms, Cond.code yX8_lowestTerms cX8_lowestTerms 5 (some .long), Cond.methodLink RL 101 yX9_odds, Cond.instanceMethod yX9_odds, Cond.selects RX9 yX9_odds yX9_odds]
def wsL_law_r30 : List Cond := [Cond.code yX9_odds cX9_odds 6 (some .long), Cond.constantLong RX9 170 (-9223372036854775808), Cond.methodLink RX9 172 yX9_lowest, Cond.static yX9_lowest, Cond.code yX9_lowest cX9_lowest 6 (some .long), Cond.methodLink RL 102 yX8_mean, Cond.instanceMethod yX8_mean, Cond.selects RX8 yX8_mean yX8_mean, Cond.code yX8_mean cX8_mean 4 (some .long), Cond.methodLink RL 106 yX9_mean, Cond.instanceMethod yX9_mean, Cond.selects RX9 yX9_mean yX9_mean, Cond.code yX9_mean cX9_mean 4 (some .long), Cond.methodLink RL 107 yX8_event, Cond.instanceMethod yX8_event, Cond.selects RX8 yX8_event yX8_event, Cond.code yX8_event cX8_event 3 (some .int), Cond.fieldLink RX8 213 "BellTouches$Setup" "events" "LBellTouches$HandRows;", Cond.methodLink RL 110 yX9_event, Cond.instanceMethod yX9_event, Cond.selects RX9 yX9_event yX9_event, Cond.code yX9_event cX9_event 3 (some .int), Cond.methodLink RL 111 yX8_after, Cond.instanceMethod yX8_after]
def wsL_law_r31 : List Cond := [Cond.selects RX8 yX8_after yX8_after, Cond.code yX8_after cX8_after 2 (some .int), Cond.methodLink RX8 216 yX4_happen, Cond.instanceMethod yX4_happen, Cond.selects RX4 yX4_happen yX4_happen, Cond.code yX4_happen cX4_happen 3 none, Cond.fieldLink RX4 84 "BellTouches$HandRows" "second" "[I", Cond.fieldLink RX4 87 "BellTouches$HandRows" "first" "[I", Cond.methodLink RX4 90 Lib.Math.max.name, Cond.static Lib.Math.max.name, Cond.initialized "java/lang/Math", Cond.code Lib.Math.max.name Lib.Math.max.code 2 (some .int), Cond.methodLink RL 114 yX9_after, Cond.instanceMethod yX9_after, Cond.selects RX9 yX9_after yX9_after, Cond.code yX9_after cX9_after 7 (some .int), Cond.methodLink RX9 176 Lib.Math.max.name, Cond.methodLink RL 115 yX8_book, Cond.instanceMethod yX8_book, Cond.selects RX8 yX8_book yX8_book, Cond.code yX8_book cX8_book 3 (some .int), Cond.fieldLink RX8 222 "BellTouches$Setup" "book" "LBellTouches$HandRows;", Cond.methodLink RL 118 yX9_book, Cond.instanceMethod yX9_book]
def wsL_law_r32 : List Cond := [Cond.selects RX9 yX9_book yX9_book, Cond.code yX9_book cX9_book 3 (some .int), Cond.methodLink RL 119 yX8_looked, Cond.instanceMethod yX8_looked, Cond.selects RX8 yX8_looked yX8_looked, Cond.code yX8_looked cX8_looked 4 (some .int), Cond.methodLink RL 122 yX9_looked, Cond.instanceMethod yX9_looked, Cond.selects RX9 yX9_looked yX9_looked, Cond.code yX9_looked cX9_looked 3 (some .int), Cond.methodLink RL 123 yX8_judge, Cond.instanceMethod yX8_judge, Cond.selects RX8 yX8_judge yX8_judge, Cond.code yX8_judge cX8_judge 6 (some .int), Cond.fieldLink RX8 234 "BellTouches$Tape" "sort" "I", Cond.fieldLink RX8 240 "BellTouches$Tape" "items" "[J", Cond.methodLink RX8 231 yX8_isTape, Cond.static yX8_isTape, Cond.code yX8_isTape cX8_isTape 1 (some .boolean), Cond.methodLink RX8 237 yX6_has, Cond.instanceMethod yX6_has, Cond.selects RX6 yX6_has yX6_has, Cond.code yX6_has cX6_has 3 (some .boolean), Cond.methodLink RL 126 yX9_judge]
def wsL_law_r33 : List Cond := [Cond.instanceMethod yX9_judge, Cond.selects RX9 yX9_judge yX9_judge, Cond.code yX9_judge cX9_judge 5 (some .int), Cond.methodLink RX9 181 yX9_isTape, Cond.static yX9_isTape, Cond.code yX9_isTape cX9_isTape 1 (some .boolean), Cond.methodLink RL 127 yX8_image, Cond.instanceMethod yX8_image, Cond.selects RX8 yX8_image yX8_image, Cond.code yX8_image cX8_image 1 (some .int), Cond.methodLink RL 130 yX9_image, Cond.instanceMethod yX9_image, Cond.selects RX9 yX9_image yX9_image, Cond.code yX9_image cX9_image 2 (some .int), Cond.fieldLink RX9 184 "BellTouchesModel" "imaged" "Z", Cond.methodLink RL 131 yX8_undo, Cond.instanceMethod yX8_undo, Cond.selects RX8 yX8_undo yX8_undo, Cond.code yX8_undo cX8_undo 1 (some .int), Cond.methodLink RL 134 yX9_undo, Cond.instanceMethod yX9_undo, Cond.selects RX9 yX9_undo yX9_undo, Cond.code yX9_undo cX9_undo 2 (some .int), Cond.methodLink RL 135 yX8_count]
def wsL_law_r34 : List Cond := [Cond.instanceMethod yX8_count, Cond.selects RX8 yX8_count yX8_count, Cond.code yX8_count cX8_count 2 (some .int), Cond.methodLink RL 138 yX9_count, Cond.instanceMethod yX9_count, Cond.selects RX9 yX9_count yX9_count, Cond.code yX9_count cX9_count 2 (some .int), Cond.methodLink RL 139 yX8_tape, Cond.instanceMethod yX8_tape, Cond.selects RX8 yX8_tape yX8_tape, Cond.code yX8_tape cX8_tape 4 (some .int), Cond.methodLink RX8 244 yX6_begin, Cond.instanceMethod yX6_begin, Cond.selects RX6 yX6_begin yX6_begin, Cond.code yX6_begin cX6_begin 4 none, Cond.methodLink RL 142 yX9_tape, Cond.instanceMethod yX9_tape, Cond.selects RX9 yX9_tape yX9_tape, Cond.code yX9_tape cX9_tape 5 (some .int), Cond.methodLink RL 145 yX8_item, Cond.instanceMethod yX8_item, Cond.selects RX8 yX8_item yX8_item, Cond.code yX8_item cX8_item 6 (some .int), Cond.methodLink RX8 246 yX6_narrowed]
def wsL_law_r35 : List Cond := [Cond.static yX6_narrowed, Cond.code yX6_narrowed cX6_narrowed 3 (some .long), Cond.methodLink RL 149 yX9_item, Cond.instanceMethod yX9_item, Cond.selects RX9 yX9_item yX9_item, Cond.code yX9_item cX9_item 6 (some .int), Cond.methodLink RL 150 yX8_peek, Cond.instanceMethod yX8_peek, Cond.selects RX8 yX8_peek yX8_peek, Cond.code yX8_peek cX8_peek 3 (some .long), Cond.methodLink RL 154 yX9_peek, Cond.instanceMethod yX9_peek, Cond.selects RX9 yX9_peek yX9_peek, Cond.code yX9_peek cX9_peek 3 (some .long), Cond.methodLink RL 155 yX8_shift, Cond.instanceMethod yX8_shift, Cond.selects RX8 yX8_shift yX8_shift, Cond.code yX8_shift cX8_shift 8 (some .int), Cond.methodLink RX8 250 arraycopyName, Cond.methodLink RL 159 yX9_shift, Cond.instanceMethod yX9_shift, Cond.selects RX9 yX9_shift yX9_shift, Cond.code yX9_shift cX9_shift 7 (some .int)]
def wsL_law : List Cond := (wsL_law_r1 ++ (wsL_law_r2 ++ (wsL_law_r3 ++ (wsL_law_r4 ++ (wsL_law_r5 ++ (wsL_law_r6 ++ (wsL_law_r7 ++ (wsL_law_r8 ++ (wsL_law_r9 ++ (wsL_law_r10 ++ (wsL_law_r11 ++ (wsL_law_r12 ++ (wsL_law_r13 ++ (wsL_law_r14 ++ (wsL_law_r15 ++ (wsL_law_r16 ++ (wsL_law_r17 ++ (wsL_law_r18 ++ (wsL_law_r19 ++ (wsL_law_r20 ++ (wsL_law_r21 ++ (wsL_law_r22 ++ (wsL_law_r23 ++ (wsL_law_r24 ++ (wsL_law_r25 ++ (wsL_law_r26 ++ (wsL_law_r27 ++ (wsL_law_r28 ++ (wsL_law_r29 ++ (wsL_law_r30 ++ (wsL_law_r31 ++ (wsL_law_r32 ++ (wsL_law_r33 ++ (wsL_law_r34 ++ wsL_law_r35)))))))))))))))))))))))))))))))))) ++ wsX80 ++ wsX90 ++ wsX40 ++ wsX70 ++ wsX00 ++ wsX50 ++ wsX60 ++ wsX10 ++ wsX30 ++ ([] : List Cond)
abbrev vwCl : List vw_C := [(RX0, TX0, 7), (RX1, TX1, 4), (RX3, TX3, 1), (RX4, TX4, 11), (RX5, TX5, 8), (RX6, TX6, 3), (RX7, TX7, 8), (RX8, TX8, 10), (RX9, TX9, 20)]
end
section
/-! BASE: worlds by numbered cells, numbers as Int -/
abbrev St : Type := Nat → Int → Int
abbrev Kd : Type := (Nat × List (Option (Option Nat))) ⊕ (FieldType × Nat) ⊕ (String × List (Option Nat))
def iv (a : Int) : Value := .int (Int32.ofInt a)
def jv (a : Int) : Value := .long (Int64.ofInt a)
def fvs (h : Nat → Nat) (f : Int → Int) : Nat → List (Option (Option Nat)) → List Value
  | _, [] => []
  | j, none :: r => iv (f (j : Int)) :: fvs h f (j + 1) r
  | j, some none :: r => .null :: fvs h f (j + 1) r
  | j, some (some k) :: r => .ref (h k) :: fvs h f (j + 1) r
def ear (ty : FieldType) (f : Int → Int) : (Nat → Int32) ⊕ (Nat → Int64) ⊕ (Nat → UInt32) ⊕ (Nat → UInt64) ⊕ (Nat → Option Nat) := match ty with
  | .long => .inr (.inl fun i => Int64.ofInt (f (i : Int)))
  | _ => .inl fun i => Int32.ofInt (f (i : Int))
def ent (cA : FieldType → ClassId) (h : Nat → Nat) (f : Int → Int) : Kd → va_E
  | .inl o => .inr (o.1, fvs h f 0 o.2)
  | .inr (.inl a) => .inl (cA a.1, a.2, ear a.1 f)
  | .inr (.inr a) => .inl (cA (.object a.1), a.2.length, .inr (.inr (.inr (.inr (fun i => (a.2.getD i none).map h)))))
def wo (cA : FieldType → ClassId) (h : Nat → Nat) (σ : St) : Nat → List Kd → va_W
  | _, [] => []
  | k, kd :: r => (h k, ent cA h (σ k) kd) :: wo cA h σ (k + 1) r
def up (σ : St) (k : Nat) (j x : Int) : St := fun k' j' => if k' = k ∧ j' = j then x else σ k' j'
theorem wo_get {cA : FieldType → ClassId} {h : Nat → Nat} {σ : St} : ∀ (K : List Kd) (k0 i : Nat) (kd : Kd), K[i]? = some kd → (wo cA h σ k0 K)[i]? = some (h (k0 + i), ent cA h (σ (k0 + i)) kd)
  | [], _, i, _, e => by simp at e
  | c :: r, k0, 0, kd, e => by simp at e; subst e; rfl
  | c :: r, k0, i + 1, kd, e => by
    have := wo_get (cA := cA) (h := h) (σ := σ) r (k0 + 1) i kd (by simpa using e)
    rw [show k0 + 1 + i = k0 + (i + 1) by omega] at this
    simpa [wo] using this
theorem wo_inv {cA : FieldType → ClassId} {h : Nat → Nat} {σ : St} : ∀ (K : List Kd) (k0 i : Nat) (q : Nat × va_E), (wo cA h σ k0 K)[i]? = some q → ∃ kd, K[i]? = some kd ∧ q = (h (k0 + i), ent cA h (σ (k0 + i)) kd)
  | [], _, i, _, e => by simp [wo] at e
  | c :: r, k0, 0, q, e => by simp [wo] at e; exact ⟨c, rfl, e.symm⟩
  | c :: r, k0, i + 1, q, e => by
    obtain ⟨kd, h1, h2⟩ := wo_inv (cA := cA) (h := h) (σ := σ) r (k0 + 1) i q (by simpa [wo] using e)
    rw [show k0 + 1 + i = k0 + (i + 1) by omega] at h2
    exact ⟨kd, by simpa using h1, h2⟩
theorem wo_cong {cA : FieldType → ClassId} {h : Nat → Nat} {σ σ' : St} : ∀ (K : List Kd) (k0 : Nat), (∀ k, k0 ≤ k → σ' k = σ k) → wo cA h σ' k0 K = wo cA h σ k0 K
  | [], _, _ => rfl
  | c :: r, k0, e => by
    show (h k0, ent cA h (σ' k0) c) :: wo cA h σ' (k0 + 1) r = (h k0, ent cA h (σ k0) c) :: wo cA h σ (k0 + 1) r
    rw [e k0 (Nat.le_refl _), wo_cong r (k0 + 1) (fun k hk => e k (by omega))]
theorem wo_set {cA : FieldType → ClassId} {h : Nat → Nat} {σ σ' : St} : ∀ (K : List Kd) (k0 i : Nat) (kd : Kd), K[i]? = some kd → (∀ k, k ≠ k0 + i → σ' k = σ k) → (wo cA h σ k0 K).set i (h (k0 + i), ent cA h (σ' (k0 + i)) kd) = wo cA h σ' k0 K
  | [], _, i, _, e, _ => by simp at e
  | c :: r, k0, 0, kd, e, e2 => by
    simp at e; subst e
    show (h (k0 + 0), ent cA h (σ' (k0 + 0)) c) :: wo cA h σ (k0 + 1) r = (h k0, ent cA h (σ' k0) c) :: wo cA h σ' (k0 + 1) r
    rw [wo_cong (σ := σ) (σ' := σ') r (k0 + 1) (fun k hk => e2 k (by omega))]; rfl
  | c :: r, k0, i + 1, kd, e, e2 => by
    have := wo_set (cA := cA) (h := h) (σ := σ) (σ' := σ') r (k0 + 1) i kd (by simpa using e) (fun k hk => e2 k (by omega))
    rw [show k0 + 1 + i = k0 + (i + 1) by omega] at this
    show (h k0, ent cA h (σ k0) c) :: (wo cA h σ (k0 + 1) r).set i _ = (h k0, ent cA h (σ' k0) c) :: wo cA h σ' (k0 + 1) r
    rw [this, e2 k0 (by omega)]
theorem fvs_get {h : Nat → Nat} {f : Int → Int} : ∀ (fd : List (Option (Option Nat))) (j0 j : Nat), fd[j]? = some none → (fvs h f j0 fd)[j]? = some (iv (f ((j0 + j : Nat) : Int)))
  | [], _, _, e => by simp at e
  | a :: r, j0, 0, e => by simp at e; subst e; rfl
  | a :: r, j0, j + 1, e => by
    have := fvs_get (h := h) (f := f) r (j0 + 1) j (by simpa using e)
    rw [show j0 + 1 + j = j0 + (j + 1) by omega] at this
    rcases a with _ | _ | k <;> simpa [fvs] using this
theorem fvs_ref {h : Nat → Nat} {f : Int → Int} {k : Nat} : ∀ (fd : List (Option (Option Nat))) (j0 j : Nat), fd[j]? = some (some (some k)) → (fvs h f j0 fd)[j]? = some (.ref (h k))
  | [], _, _, e => by simp at e
  | a :: r, j0, 0, e => by simp at e; subst e; rfl
  | a :: r, j0, j + 1, e => by
    have := fvs_ref (h := h) (f := f) r (j0 + 1) j (by simpa using e)
    rcases a with _ | _ | k <;> simpa [fvs] using this
theorem fvs_len {h : Nat → Nat} {f : Int → Int} : ∀ (fd : List (Option (Option Nat))) (j0 : Nat), (fvs h f j0 fd).length = fd.length
  | [], _ => rfl
  | a :: r, j0 => by
    have := fvs_len (h := h) (f := f) r (j0 + 1)
    rcases a with _ | _ | k <;> simp [fvs, this]
theorem fvs_cong {h : Nat → Nat} {f g : Int → Int} : ∀ (fd : List (Option (Option Nat))) (j0 : Nat), (∀ j : Nat, j0 ≤ j → g (j : Int) = f (j : Int)) → fvs h g j0 fd = fvs h f j0 fd
  | [], _, _ => rfl
  | a :: r, j0, e => by
    have h1 := fvs_cong (h := h) (f := f) (g := g) r (j0 + 1) (fun j hj => e j (by omega))
    have h2 := e j0 (Nat.le_refl _)
    rcases a with _ | _ | k <;> simp [fvs, h1, h2]
theorem fvs_set {h : Nat → Nat} {f g : Int → Int} : ∀ (fd : List (Option (Option Nat))) (j0 j : Nat), fd[j]? = some none → (∀ i : Nat, i ≠ j0 + j → g (i : Int) = f (i : Int)) → (fvs h f j0 fd).set j (iv (g ((j0 + j : Nat) : Int))) = fvs h g j0 fd
  | [], _, _, e, _ => by simp at e
  | a :: r, j0, 0, e, e2 => by
    simp at e; subst e
    show iv (g ((j0 + 0 : Nat) : Int)) :: fvs h f (j0 + 1) r = iv (g ((j0 : Nat) : Int)) :: fvs h g (j0 + 1) r
    rw [fvs_cong (f := f) (g := g) r (j0 + 1) (fun i hi => e2 i (by omega))]; rfl
  | a :: r, j0, j + 1, e, e2 => by
    have h1 := fvs_set (h := h) (f := f) (g := g) r (j0 + 1) j (by simpa using e) (fun i hi => e2 i (by omega))
    rw [show j0 + 1 + j = j0 + (j + 1) by omega] at h1
    have h2 := e2 j0 (by omega)
    rcases a with _ | _ | k <;> simp only [fvs, List.set_cons_succ, h1, h2]
/-- the array classes, as every world here has them -/
def tyL (cA : FieldType → ClassId) : List (ClassId × FieldType) := [(cA .int, .int), (cA .long, .long), (cA .byte, .byte), (cA .boolean, .boolean), (cA (.object "BellTouches$Tape"), .object "BellTouches$Tape")]
/-- what holds in a method's body -/
def cx (p : Program) (s : State) (m : MethodId) (args : Array Value) (meth : Method) (c : Code) (ws : List Cond) (own : String) (cc : ByteArray) (nL : Nat) (ret : Option FieldType) (D : va_G) (cA : FieldType → ClassId) : Prop :=
  p.tables.exec = Jvm.exec ∧ c.code = cc ∧ c.maxLocals = nL ∧ s.vm.findClass own = some m.cls ∧ (∀ w ∈ ws, w.before args s = true) ∧ meth.sig.returnType = ret ∧ meth.locks = false ∧ va_K D vwCl (tyL cA) s
/-- the world: cells K at h hold σ; they are apart, in A; nothing outside A has changed since H0 -/
def wd (D : va_G) (cA : FieldType → ClassId) (K : List Kd) (h : Nat → Nat) (σ : St) (A : Nat → Prop) (H0 H : Heap) (locs : List Loc) : Prop :=
  va_P D vwCl (wo cA h σ 0 K) H ∧ va_D A (wo cA h σ 0 K) ∧ va_S A H0 H locs
def aA (n : Nat) (h : Nat → Nat) (sz : Nat) : Nat → Prop := fun q => (∃ k, k < n ∧ q = h k) ∨ sz ≤ q
/-- locals by their places -/
def lh (ls : Array Slot) (nL : Nat) (vl : List (Option Value)) : Prop := ls.size = nL ∧ lv_wf ls ∧ ∀ (i : Nat) (v : Value), vl[i]? = some (some v) → ls[i]? = some (.val v)
theorem lh_at {ls : Array Slot} {nL : Nat} {vl : List (Option Value)} (h : lh ls nL vl) (i : Nat) {v : Value} (e : vl[i]? = some (some v)) : ls[i]? = some (.val v) := h.2.2 i v e
def lmask : List (Option Value) → List Bool → List (Option Value)
  | [], _ => []
  | _ :: r, [] => none :: lmask r []
  | _ :: r, false :: b => none :: lmask r b
  | v :: r, true :: b => v :: lmask r b
theorem lmask_get : ∀ (vl : List (Option Value)) (bs : List Bool) (i : Nat) (v : Value), (lmask vl bs)[i]? = some (some v) → vl[i]? = some (some v)
  | [], _, i, v, e => by simp [lmask] at e
  | a :: r, [], 0, v, e => by simp [lmask] at e
  | a :: r, [], i + 1, v, e => by simpa using lmask_get r [] i v (by simpa [lmask] using e)
  | a :: r, false :: b, 0, v, e => by simp [lmask] at e
  | a :: r, false :: b, i + 1, v, e => by simpa using lmask_get r b i v (by simpa [lmask] using e)
  | a :: r, true :: b, 0, v, e => by simpa [lmask] using e
  | a :: r, true :: b, i + 1, v, e => by simpa using lmask_get r b i v (by simpa [lmask] using e)
theorem lh_mask {ls : Array Slot} {nL : Nat} {vl : List (Option Value)} (h : lh ls nL vl) (bs : List Bool) : lh ls nL (lmask vl bs) := ⟨h.1, h.2.1, fun i v e => h.2.2 i v (lmask_get vl bs i v e)⟩
def okst (vl : List (Option Value)) : Nat → Bool
  | 0 => true
  | i + 1 => match vl[i]? with | some (some v) => v.category == 1 | _ => true
def lvl : Nat → List (Option Value) → List (Nat × Value)
  | _, [] => []
  | i, none :: r => lvl (i + 1) r
  | i, some v :: r => (i, v) :: lvl (i + 1) r
theorem lvl_mem : ∀ (vl : List (Option Value)) (k i : Nat) (v : Value), vl[i]? = some (some v) → (k + i, v) ∈ lvl k vl
  | [], k, i, v, e => by simp at e
  | none :: r, k, 0, v, e => by simp at e
  | none :: r, k, i + 1, v, e => by
    have := lvl_mem r (k + 1) i v (by simpa using e)
    rw [show k + 1 + i = k + (i + 1) by omega] at this; simpa [lvl] using this
  | some a :: r, k, 0, v, e => by simp at e; subst e; simp [lvl]
  | some a :: r, k, i + 1, v, e => by
    have := lvl_mem r (k + 1) i v (by simpa using e)
    rw [show k + 1 + i = k + (i + 1) by omega] at this
    exact List.mem_cons_of_mem _ this
theorem lvl_inv : ∀ (vl : List (Option Value)) (k : Nat) (q : Nat × Value), q ∈ lvl k vl → ∃ i, q.1 = k + i ∧ vl[i]? = some (some q.2)
  | [], k, q, e => by simp [lvl] at e
  | none :: r, k, q, e => by
    obtain ⟨i, h1, h2⟩ := lvl_inv r (k + 1) q (by simpa [lvl] using e)
    exact ⟨i + 1, by omega, by simpa using h2⟩
  | some a :: r, k, q, e => by
    rcases List.mem_cons.mp (by simpa [lvl] using e) with e | e
    · subst e; exact ⟨0, rfl, rfl⟩
    · obtain ⟨i, h1, h2⟩ := lvl_inv r (k + 1) q e
      exact ⟨i + 1, by omega, by simpa using h2⟩
theorem lh_lv {ls : Array Slot} {nL : Nat} {vl : List (Option Value)} (h : lh ls nL vl) : lv_has ls nL (lvl 0 vl) := ⟨h.1, h.2.1, fun q hq => by
  obtain ⟨i, h1, h2⟩ := lvl_inv vl 0 q hq
  rw [h1, Nat.zero_add]; exact h.2.2 i q.2 h2⟩
theorem lh_of_lv {ls : Array Slot} {nL i : Nat} {vl : List (Option Value)} {v : Value} (hi : i < vl.length) (hok : okst vl i = true) (h : lv_has ls nL ((i, v) :: (lvl 0 vl).filter (fun q => !(q.1 == i) && !(q.1 + 1 == i && q.2.category == 2)))) : lh ls nL (vl.set i (some v)) := by
  refine ⟨h.1, h.2.1, fun j w e => ?_⟩
  by_cases hj : j = i
  · subst hj
    rw [List.getElem?_set_self hi] at e
    simp at e; subst e
    exact h.2.2 (j, v) List.mem_cons_self
  · rw [List.getElem?_set_ne (fun q => hj q.symm)] at e
    have hm := lvl_mem vl 0 j w e
    rw [Nat.zero_add] at hm
    refine h.2.2 (j, w) (List.mem_cons_of_mem _ (List.mem_filter.mpr ⟨hm, ?_⟩))
    by_cases hk : j + 1 = i
    · subst hk
      simp only [okst, e] at hok
      have : w.category = 1 := by simpa using hok
      simp [this]
    · simp [hj, hk]
abbrev rg (a : Int) : Prop := -2147483648 ≤ a ∧ a < 2147483648
abbrev rl (a : Int) : Prop := -9223372036854775808 ≤ a ∧ a < 9223372036854775808
theorem oi_t {a : Int} (h : rg a) : (Int32.ofInt a).toInt = a := Int32.toInt_ofInt_of_le (by omega) (by omega)
theorem oi_lt {a b : Int} (ha : rg a) (hb : rg b) : Int32.ofInt a < Int32.ofInt b ↔ a < b := by rw [Int32.lt_iff_toInt_lt, oi_t ha, oi_t hb]
theorem oi_le {a b : Int} (ha : rg a) (hb : rg b) : Int32.ofInt a ≤ Int32.ofInt b ↔ a ≤ b := by rw [Int32.le_iff_toInt_le, oi_t ha, oi_t hb]
theorem oi_eq {a b : Int} (ha : rg a) (hb : rg b) : Int32.ofInt a = Int32.ofInt b ↔ a = b := ⟨fun e => by rw [← oi_t ha, ← oi_t hb, e], fun e => by rw [e]⟩
theorem oi_0 : (0 : Int32) = Int32.ofInt 0 := rfl
theorem oi_cl {a : Int} (h0 : 0 ≤ a) (h : a < 2147483648) : (Int32.ofInt a).toNatClampNeg = a.toNat := by rw [Int32.toNatClampNeg, oi_t ⟨by omega, h⟩]
theorem oi_in {a : Int} {n : Nat} (h0 : 0 ≤ a) (h1 : a < (n : Int)) (hn : n < 2147483648) : vp_in (Int32.ofInt a) n := by
  refine fun hc => ?_
  rcases hc with hc | hc
  · rw [oi_0, oi_lt ⟨by omega, by omega⟩ ⟨by omega, by omega⟩] at hc; omega
  · rw [oi_cl h0 (by omega)] at hc; omega
def bnd (a b : Int) : Int := (Int32.ofInt a &&& Int32.ofInt b).toInt
def bor (a b : Int) : Int := (Int32.ofInt a ||| Int32.ofInt b).toInt
def bxr (a b : Int) : Int := (Int32.ofInt a ^^^ Int32.ofInt b).toInt
def bsl (a b : Int) : Int := (Int32.ofInt a <<< (Int32.ofInt b &&& 31)).toInt
def bsr (a b : Int) : Int := (Int32.ofInt a >>> (Int32.ofInt b &&& 31)).toInt
def bur (a b : Int) : Int := (((Int32.ofInt a).toUInt32 >>> ((Int32.ofInt b).toUInt32 &&& Int32.toUInt32 31)).toInt32).toInt
def i2b (a : Int) : Int := (Int32.ofInt a).toInt8.toInt
def i2s (a : Int) : Int := (Int32.ofInt a).toInt16.toInt
theorem ivt (x : Int32) : iv x.toInt = .int x := by rw [iv, Int32.ofInt_toInt]
theorem jvt (x : Int64) : jv x.toInt = .long x := by rw [jv, Int64.ofInt_toInt]
end
section
section
variable {p : Program} {l : Launch} {e : Env} {R : Room} {s : State} {m : MethodId} {args : Array Value} {below : List Frame} {meth : Method} {c : Code} {H : Heap} {locs : List Loc} {cells slots : Nat} {Q : State → Prop} {pc : Nat} {ls : Array Slot} {st : List Value}
variable {ws : List Cond} {own : String} {cc : ByteArray} {nL : Nat} {ret : Option FieldType} {D : va_G} {cA : FieldType → ClassId} {K : List Kd} {h : Nat → Nat} {σ : St} {A : Nat → Prop} {H0 : Heap} {vl : List (Option Value)}
theorem r_const (C : cx p s m args meth c ws own cc nL ret D cA) {n : Int} (hd : decode cc pc = .ok (.iconst n, 1)) (k : W p l e R s m args below meth c H locs cells slots Q (F0 m (pc + 1) ls (iv n :: st))) : W p l e R s m args below meth c H locs cells slots Q (F0 m pc ls st) := lv_iconst C.1 C.2.1 hd rfl k
theorem r_bipush (C : cx p s m args meth c ws own cc nL ret D cA) {n : Int} (hd : decode cc pc = .ok (.bipush n, 2)) (hv : (Int8.ofInt n).toInt32 = Int32.ofInt n) (k : W p l e R s m args below meth c H locs cells slots Q (F0 m (pc + 2) ls (iv n :: st))) : W p l e R s m args below meth c H locs cells slots Q (F0 m pc ls st) := lv_bipush C.1 C.2.1 hd hv k
theorem r_sipush (C : cx p s m args meth c ws own cc nL ret D cA) {n : Int} (hd : decode cc pc = .ok (.sipush n, 3)) (hv : (Int16.ofInt n).toInt32 = Int32.ofInt n) (k : W p l e R s m args below meth c H locs cells slots Q (F0 m (pc + 3) ls (iv n :: st))) : W p l e R s m args below meth c H locs cells slots Q (F0 m pc ls st) := lv_sipush C.1 C.2.1 hd hv k
theorem r_ldc (C : cx p s m args meth c ws own cc nL ret D cA) {n : Int} {ix : Nat} (hc : Jvm.Cond.constant own ix (Int32.ofInt n) ∈ ws) (hd : decode cc pc = .ok (.ldc ix, 2)) (k : W p l e R s m args below meth c H locs cells slots Q (F0 m (pc + 2) ls (iv n :: st))) : W p l e R s m args below meth c H locs cells slots Q (F0 m pc ls st) := lv_ldc C.1 C.2.1 C.2.2.2.1 (C.2.2.2.2.1 _ hc) hd k
theorem r_ldc2 (C : cx p s m args meth c ws own cc nL ret D cA) {n : Int} {ix : Nat} (hc : Jvm.Cond.constantLong own ix (Int64.ofInt n) ∈ ws) (hd : decode cc pc = .ok (.ldc2_w ix, 3)) (k : W p l e R s m args below meth c H locs cells slots Q (F0 m (pc + 3) ls (jv n :: st))) : W p l e R s m args below meth c H locs cells slots Q (F0 m pc ls st) := lv_ldc2 C.1 C.2.1 C.2.2.2.1 (C.2.2.2.2.1 _ hc) hd k
theorem r_lconst (C : cx p s m args meth c ws own cc nL ret D cA) {i : Fin 2} (n : Int) (hv : Int64.ofNat i.val = Int64.ofInt n) (hd : decode cc pc = .ok (.lconst i, 1)) (k : W p l e R s m args below meth c H locs cells slots Q (F0 m (pc + 1) ls (jv n :: st))) : W p l e R s m args below meth c H locs cells slots Q (F0 m pc ls st) := lv_lconst C.1 C.2.1 hd hv k
theorem r_iload_n (C : cx p s m args meth c ws own cc nL ret D cA) {i : Fin 4} {a : Int} (hd : decode cc pc = .ok (.iload_n i, 1)) (hl : lh ls nL vl) (he : vl[i.val]? = some (some (iv a))) (k : W p l e R s m args below meth c H locs cells slots Q (F0 m (pc + 1) ls (iv a :: st))) : W p l e R s m args below meth c H locs cells slots Q (F0 m pc ls st) := lv_iload_n C.1 C.2.1 hd rfl (lh_at hl _ he) k
theorem r_iload (C : cx p s m args meth c ws own cc nL ret D cA) {i : Nat} {a : Int} (hd : decode cc pc = .ok (.iload i, 2)) (hl : lh ls nL vl) (he : vl[i]? = some (some (iv a))) (k : W p l e R s m args below meth c H locs cells slots Q (F0 m (pc + 2) ls (iv a :: st))) : W p l e R s m args below meth c H locs cells slots Q (F0 m pc ls st) := lv_iload C.1 C.2.1 hd (lh_at hl _ he) k
theorem r_lload_n (C : cx p s m args meth c ws own cc nL ret D cA) {i : Fin 4} {a : Int} (hd : decode cc pc = .ok (.lload_n i, 1)) (hl : lh ls nL vl) (he : vl[i.val]? = some (some (jv a))) (k : W p l e R s m args below meth c H locs cells slots Q (F0 m (pc + 1) ls (jv a :: st))) : W p l e R s m args below meth c H locs cells slots Q (F0 m pc ls st) := lv_lload_n C.1 C.2.1 hd rfl (lh_at hl _ he) k
theorem r_lload (C : cx p s m args meth c ws own cc nL ret D cA) {i : Nat} {a : Int} (hd : decode cc pc = .ok (.lload i, 2)) (hl : lh ls nL vl) (he : vl[i]? = some (some (jv a))) (k : W p l e R s m args below meth c H locs cells slots Q (F0 m (pc + 2) ls (jv a :: st))) : W p l e R s m args below meth c H locs cells slots Q (F0 m pc ls st) := lv_lload C.1 C.2.1 hd (lh_at hl _ he) k
theorem r_aload_n (C : cx p s m args meth c ws own cc nL ret D cA) {i : Fin 4} {a : Nat} (hd : decode cc pc = .ok (.aload_n i, 1)) (hl : lh ls nL vl) (he : vl[i.val]? = some (some (.ref a))) (k : W p l e R s m args below meth c H locs cells slots Q (F0 m (pc + 1) ls (.ref a :: st))) : W p l e R s m args below meth c H locs cells slots Q (F0 m pc ls st) := lv_aload_n C.1 C.2.1 hd rfl (lh_at hl _ he) k
theorem r_aload (C : cx p s m args meth c ws own cc nL ret D cA) {i : Nat} {a : Nat} (hd : decode cc pc = .ok (.aload i, 2)) (hl : lh ls nL vl) (he : vl[i]? = some (some (.ref a))) (k : W p l e R s m args below meth c H locs cells slots Q (F0 m (pc + 2) ls (.ref a :: st))) : W p l e R s m args below meth c H locs cells slots Q (F0 m pc ls st) := lv_aload C.1 C.2.1 hd (lh_at hl _ he) k
theorem r_istore_n (C : cx p s m args meth c ws own cc nL ret D cA) {i : Fin 4} {a : Int} (hd : decode cc pc = .ok (.istore_n i, 1)) (hl : lh ls nL vl) (hn : i.val < nL) (hi : i.val < vl.length) (ho : okst vl i.val = true) (k : ∀ ls' : Array Slot, lh ls' nL (vl.set i.val (some (iv a))) → W p l e R s m args below meth c H locs cells slots Q (F0 m (pc + 1) ls' st)) : W p l e R s m args below meth c H locs cells slots Q (F0 m pc ls (iv a :: st)) := lv_istore_n C.1 C.2.1 hd rfl (lh_lv hl) hn rfl (fun ls' h' => k ls' (lh_of_lv hi ho h'))
theorem r_istore (C : cx p s m args meth c ws own cc nL ret D cA) {i : Nat} {a : Int} (hd : decode cc pc = .ok (.istore i, 2)) (hl : lh ls nL vl) (hn : i < nL) (hi : i < vl.length) (ho : okst vl i = true) (k : ∀ ls' : Array Slot, lh ls' nL (vl.set i (some (iv a))) → W p l e R s m args below meth c H locs cells slots Q (F0 m (pc + 2) ls' st)) : W p l e R s m args below meth c H locs cells slots Q (F0 m pc ls (iv a :: st)) := lv_istore C.1 C.2.1 hd (lh_lv hl) hn rfl (fun ls' h' => k ls' (lh_of_lv hi ho h'))
theorem r_astore_n (C : cx p s m args meth c ws own cc nL ret D cA) {i : Fin 4} {a : Nat} (hd : decode cc pc = .ok (.astore_n i, 1)) (hl : lh ls nL vl) (hn : i.val < nL) (hi : i.val < vl.length) (ho : okst vl i.val = true) (k : ∀ ls' : Array Slot, lh ls' nL (vl.set i.val (some (.ref a))) → W p l e R s m args below meth c H locs cells slots Q (F0 m (pc + 1) ls' st)) : W p l e R s m args below meth c H locs cells slots Q (F0 m pc ls (.ref a :: st)) := lv_astore_n C.1 C.2.1 hd rfl (lh_lv hl) hn rfl (fun ls' h' => k ls' (lh_of_lv hi ho h'))
theorem r_astore (C : cx p s m args meth c ws own cc nL ret D cA) {i : Nat} {a : Nat} (hd : decode cc pc = .ok (.astore i, 2)) (hl : lh ls nL vl) (hn : i < nL) (hi : i < vl.length) (ho : okst vl i = true) (k : ∀ ls' : Array Slot, lh ls' nL (vl.set i (some (.ref a))) → W p l e R s m args below meth c H locs cells slots Q (F0 m (pc + 2) ls' st)) : W p l e R s m args below meth c H locs cells slots Q (F0 m pc ls (.ref a :: st)) := lv_astore C.1 C.2.1 hd (lh_lv hl) hn rfl (fun ls' h' => k ls' (lh_of_lv hi ho h'))
theorem r_iinc (C : cx p s m args meth c ws own cc nL ret D cA) {i : Nat} {n a : Int} (hd : decode cc pc = .ok (.iinc i n, 3)) (hl : lh ls nL vl) (he : vl[i]? = some (some (iv a))) (hn : i < nL) (ho : okst vl i = true) (k : ∀ ls' : Array Slot, lh ls' nL (vl.set i (some (iv (a + n)))) → W p l e R s m args below meth c H locs cells slots Q (F0 m (pc + 3) ls' st)) : W p l e R s m args below meth c H locs cells slots Q (F0 m pc ls st) := by
  have hm := lvl_mem vl 0 i _ he
  rw [Nat.zero_add] at hm
  obtain ⟨q, hq⟩ := List.getElem?_of_mem hm
  refine lv_iinc (v := Int32.ofInt (a + n)) C.1 C.2.1 hd (lh_lv hl) hq (Int32.ofInt_add a n).symm hn rfl (fun ls' h' => k ls' (lh_of_lv ?_ ho h'))
  exact (List.getElem?_eq_some_iff.mp he).1
theorem r_iadd (C : cx p s m args meth c ws own cc nL ret D cA) {a b : Int} (hd : decode cc pc = .ok (.iadd, 1)) (k : W p l e R s m args below meth c H locs cells slots Q (F0 m (pc + 1) ls (iv (a + b) :: st))) : W p l e R s m args below meth c H locs cells slots Q (F0 m pc ls (iv b :: iv a :: st)) := lv_iadd C.1 C.2.1 hd (by rw [← Int32.ofInt_add]; exact k)
theorem r_isub (C : cx p s m args meth c ws own cc nL ret D cA) {a b : Int} (hd : decode cc pc = .ok (.isub, 1)) (k : W p l e R s m args below meth c H locs cells slots Q (F0 m (pc + 1) ls (iv (a - b) :: st))) : W p l e R s m args below meth c H locs cells slots Q (F0 m pc ls (iv b :: iv a :: st)) := lv_isub C.1 C.2.1 hd (by rw [← Int32.ofInt_sub]; exact k)
theorem r_imul (C : cx p s m args meth c ws own cc nL ret D cA) {a b : Int} (hd : decode cc pc = .ok (.imul, 1)) (k : W p l e R s m args below meth c H locs cells slots Q (F0 m (pc + 1) ls (iv (a * b) :: st))) : W p l e R s m args below meth c H locs cells slots Q (F0 m pc ls (iv b :: iv a :: st)) := lv_imul C.1 C.2.1 hd (by rw [← Int32.ofInt_mul]; exact k)
theorem r_iand (C : cx p s m args meth c ws own cc nL ret D cA) {a b : Int} (hd : decode cc pc = .ok (.iand, 1)) (k : W p l e R s m args below meth c H locs cells slots Q (F0 m (pc + 1) ls (iv (bnd a b) :: st))) : W p l e R s m args below meth c H locs cells slots Q (F0 m pc ls (iv b :: iv a :: st)) := lv_iand C.1 C.2.1 hd (by rw [bnd, ivt] at k; exact k)
theorem r_ior (C : cx p s m args meth c ws own cc nL ret D cA) {a b : Int} (hd : decode cc pc = .ok (.ior, 1)) (k : W p l e R s m args below meth c H locs cells slots Q (F0 m (pc + 1) ls (iv (bor a b) :: st))) : W p l e R s m args below meth c H locs cells slots Q (F0 m pc ls (iv b :: iv a :: st)) := lv_ior C.1 C.2.1 hd (by rw [bor, ivt] at k; exact k)
theorem r_ixor (C : cx p s m args meth c ws own cc nL ret D cA) {a b : Int} (hd : decode cc pc = .ok (.ixor, 1)) (k : W p l e R s m args below meth c H locs cells slots Q (F0 m (pc + 1) ls (iv (bxr a b) :: st))) : W p l e R s m args below meth c H locs cells slots Q (F0 m pc ls (iv b :: iv a :: st)) := lv_ixor C.1 C.2.1 hd (by rw [bxr, ivt] at k; exact k)
theorem r_ishl (C : cx p s m args meth c ws own cc nL ret D cA) {a b : Int} (hd : decode cc pc = .ok (.ishl, 1)) (k : W p l e R s m args below meth c H locs cells slots Q (F0 m (pc + 1) ls (iv (bsl a b) :: st))) : W p l e R s m args below meth c H locs cells slots Q (F0 m pc ls (iv b :: iv a :: st)) := lv_ishl C.1 C.2.1 hd (by rw [bsl, ivt] at k; exact k)
theorem r_ishr (C : cx p s m args meth c ws own cc nL ret D cA) {a b : Int} (hd : decode cc pc = .ok (.ishr, 1)) (k : W p l e R s m args below meth c H locs cells slots Q (F0 m (pc + 1) ls (iv (bsr a b) :: st))) : W p l e R s m args below meth c H locs cells slots Q (F0 m pc ls (iv b :: iv a :: st)) := lv_ishr C.1 C.2.1 hd (by rw [bsr, ivt] at k; exact k)
theorem r_iushr (C : cx p s m args meth c ws own cc nL ret D cA) {a b : Int} (hd : decode cc pc = .ok (.iushr, 1)) (k : W p l e R s m args below meth c H locs cells slots Q (F0 m (pc + 1) ls (iv (bur a b) :: st))) : W p l e R s m args below meth c H locs cells slots Q (F0 m pc ls (iv b :: iv a :: st)) := lv_iushr C.1 C.2.1 hd rfl (by rw [bur, ivt] at k; exact k)
theorem oi_div {a b : Int} (ha : rg a) (hb : rg b) : Int32.ofInt a / Int32.ofInt b = Int32.ofInt (a.tdiv b) := by
  refine (Int32.ofInt_eq_iff_bmod_eq_toInt _ _).mpr ?_ |>.symm
  rw [Int32.toInt_div, oi_t ha, oi_t hb]
theorem oi_rem {a b : Int} (ha : rg a) (hb : rg b) : Int32.ofInt a - Int32.ofInt a / Int32.ofInt b * Int32.ofInt b = Int32.ofInt (a.tmod b) := by
  rw [oi_div ha hb, ← Int32.ofInt_mul, ← Int32.ofInt_sub, Int.tmod_def, Int.mul_comm b]
theorem oi_n0 {b : Int} (hb : rg b) (h0 : b ≠ 0) : ¬ Int32.ofInt b = 0 := fun e => h0 ((oi_eq hb (by omega)).mp e)
theorem r_idiv (C : cx p s m args meth c ws own cc nL ret D cA) {a b : Int} (hd : decode cc pc = .ok (.idiv, 1)) (ha : rg a) (hb : rg b) (h0 : b ≠ 0) (k : W p l e R s m args below meth c H locs cells slots Q (F0 m (pc + 1) ls (iv (a.tdiv b) :: st))) : W p l e R s m args below meth c H locs cells slots Q (F0 m pc ls (iv b :: iv a :: st)) := lv_idiv C.1 C.2.1 hd (oi_n0 hb h0) (by rw [oi_div ha hb]; exact k)
theorem r_irem (C : cx p s m args meth c ws own cc nL ret D cA) {a b : Int} (hd : decode cc pc = .ok (.irem, 1)) (ha : rg a) (hb : rg b) (h0 : b ≠ 0) (k : W p l e R s m args below meth c H locs cells slots Q (F0 m (pc + 1) ls (iv (a.tmod b) :: st))) : W p l e R s m args below meth c H locs cells slots Q (F0 m pc ls (iv b :: iv a :: st)) := lv_irem C.1 C.2.1 hd (oi_n0 hb h0) (by rw [oi_rem ha hb]; exact k)
theorem r_i2b (C : cx p s m args meth c ws own cc nL ret D cA) {a : Int} (hd : decode cc pc = .ok (.i2b, 1)) (k : W p l e R s m args below meth c H locs cells slots Q (F0 m (pc + 1) ls (iv (i2b a) :: st))) : W p l e R s m args below meth c H locs cells slots Q (F0 m pc ls (iv a :: st)) := lv_i2b C.1 C.2.1 hd rfl k
theorem r_i2s (C : cx p s m args meth c ws own cc nL ret D cA) {a : Int} (hd : decode cc pc = .ok (.i2s, 1)) (k : W p l e R s m args below meth c H locs cells slots Q (F0 m (pc + 1) ls (iv (i2s a) :: st))) : W p l e R s m args below meth c H locs cells slots Q (F0 m pc ls (iv a :: st)) := lv_i2s C.1 C.2.1 hd rfl k
theorem r_i2l (C : cx p s m args meth c ws own cc nL ret D cA) {a : Int} (hd : decode cc pc = .ok (.i2l, 1)) (ha : rg a) (k : W p l e R s m args below meth c H locs cells slots Q (F0 m (pc + 1) ls (jv a :: st))) : W p l e R s m args below meth c H locs cells slots Q (F0 m pc ls (iv a :: st)) := lv_i2l C.1 C.2.1 hd (show (Int32.ofInt a).toInt64 = Int64.ofInt a by rw [← Int64.ofInt_int32ToInt, oi_t ha]) k
theorem r_l2i (C : cx p s m args meth c ws own cc nL ret D cA) {a : Int} (hd : decode cc pc = .ok (.l2i, 1)) (k : W p l e R s m args below meth c H locs cells slots Q (F0 m (pc + 1) ls (iv a :: st))) : W p l e R s m args below meth c H locs cells slots Q (F0 m pc ls (jv a :: st)) := lv_l2i C.1 C.2.1 hd (show (Int64.ofInt a).toInt32 = Int32.ofInt a from Int64.toInt32_ofInt) k
theorem r_ladd (C : cx p s m args meth c ws own cc nL ret D cA) {a b : Int} (hd : decode cc pc = .ok (.ladd, 1)) (k : W p l e R s m args below meth c H locs cells slots Q (F0 m (pc + 1) ls (jv (a + b) :: st))) : W p l e R s m args below meth c H locs cells slots Q (F0 m pc ls (jv b :: jv a :: st)) := lv_ladd C.1 C.2.1 hd (by rw [← Int64.ofInt_add]; exact k)
def lcp (a b : Int) : Int := if b < a then 1 else if a = b then 0 else -1
theorem r_lcmp (C : cx p s m args meth c ws own cc nL ret D cA) {a b : Int} (hd : decode cc pc = .ok (.lcmp, 1)) (ha : rl a) (hb : rl b) (k : W p l e R s m args below meth c H locs cells slots Q (F0 m (pc + 1) ls (iv (lcp a b) :: st))) : W p l e R s m args below meth c H locs cells slots Q (F0 m pc ls (jv b :: jv a :: st)) := W.lcmp C.1 C.2.1 hd (by
  have e1 : (Int64.ofInt a).toInt = a := Int64.toInt_ofInt_of_le (by omega) (by omega)
  have e2 : (Int64.ofInt b).toInt = b := Int64.toInt_ofInt_of_le (by omega) (by omega)
  have e : lg_cmp (Int64.ofInt a) (Int64.ofInt b) = Int32.ofInt (lcp a b) := by
    unfold lg_cmp lcp
    simp only [gt_iff_lt, Int64.lt_iff_toInt_lt, ← Int64.toInt_inj, e1, e2]
    split
    · rfl
    · split <;> rfl
  rw [e]; exact k)
theorem r_pop (C : cx p s m args meth c ws own cc nL ret D cA) {v : Value} (hd : decode cc pc = .ok (.pop, 1)) (hv : v.category = 1) (k : W p l e R s m args below meth c H locs cells slots Q (F0 m (pc + 1) ls st)) : W p l e R s m args below meth c H locs cells slots Q (F0 m pc ls (v :: st)) := lv_pop C.1 C.2.1 hd hv k
theorem r_dup (C : cx p s m args meth c ws own cc nL ret D cA) {v : Value} (hd : decode cc pc = .ok (.dup, 1)) (hv : v.category = 1) (k : W p l e R s m args below meth c H locs cells slots Q (F0 m (pc + 1) ls (v :: v :: st))) : W p l e R s m args below meth c H locs cells slots Q (F0 m pc ls (v :: st)) := lv_dup C.1 C.2.1 hd hv k
theorem r_dup_x1 (C : cx p s m args meth c ws own cc nL ret D cA) {v w : Value} (hd : decode cc pc = .ok (.dup_x1, 1)) (hv : v.category = 1) (hw : w.category = 1) (k : W p l e R s m args below meth c H locs cells slots Q (F0 m (pc + 1) ls (v :: w :: v :: st))) : W p l e R s m args below meth c H locs cells slots Q (F0 m pc ls (v :: w :: st)) := lv_dup_x1 C.1 C.2.1 hd hv hw k
theorem r_dup_x2 (C : cx p s m args meth c ws own cc nL ret D cA) {v w u : Value} (hd : decode cc pc = .ok (.dup_x2, 1)) (hv : v.category = 1) (hw : w.category = 1) (hu : u.category = 1) (k : W p l e R s m args below meth c H locs cells slots Q (F0 m (pc + 1) ls (v :: w :: u :: v :: st))) : W p l e R s m args below meth c H locs cells slots Q (F0 m pc ls (v :: w :: u :: st)) := lv_dup_x2 C.1 C.2.1 hd hv hw hu k
theorem r_dup2 (C : cx p s m args meth c ws own cc nL ret D cA) {v w : Value} (hd : decode cc pc = .ok (.dup2, 1)) (hv : v.category = 1) (hw : w.category = 1) (k : W p l e R s m args below meth c H locs cells slots Q (F0 m (pc + 1) ls (v :: w :: v :: w :: st))) : W p l e R s m args below meth c H locs cells slots Q (F0 m pc ls (v :: w :: st)) := lv_dup2_11 C.1 C.2.1 hd hv hw k
theorem r_goto (C : cx p s m args meth c ws own cc nL ret D cA) {off : Int} {tgt : Nat} (hd : decode cc pc = .ok (.goto off, 3)) (ht : (pc : Int) + off = (tgt : Int)) (k : W p l e R s m args below meth c H locs cells slots Q (F0 m tgt ls st)) : W p l e R s m args below meth c H locs cells slots Q (F0 m pc ls st) := lv_goto C.1 C.2.1 hd ht k
theorem rg0 : rg 0 := by omega
theorem r_icmp_lt (C : cx p s m args meth c ws own cc nL ret D cA) {a b off : Int} {tgt : Nat} (hd : decode cc pc = .ok (.if_icmp .lt off, 3)) (ht : (pc : Int) + off = (tgt : Int)) (ra : rg a) (rb : rg b) (kt : a < b → W p l e R s m args below meth c H locs cells slots Q (F0 m tgt ls st)) (kf : ¬ a < b → W p l e R s m args below meth c H locs cells slots Q (F0 m (pc + 3) ls st)) : W p l e R s m args below meth c H locs cells slots Q (F0 m pc ls (iv b :: iv a :: st)) := lv_icmp_lt C.1 C.2.1 hd ht (fun h => kt ((oi_lt ra rb).mp h)) (fun h => kf (fun q => h ((oi_lt ra rb).mpr q)))
theorem r_if_lt (C : cx p s m args meth c ws own cc nL ret D cA) {a off : Int} {tgt : Nat} (hd : decode cc pc = .ok (.ifCond .lt off, 3)) (ht : (pc : Int) + off = (tgt : Int)) (ra : rg a) (kt : a < 0 → W p l e R s m args below meth c H locs cells slots Q (F0 m tgt ls st)) (kf : ¬ a < 0 → W p l e R s m args below meth c H locs cells slots Q (F0 m (pc + 3) ls st)) : W p l e R s m args below meth c H locs cells slots Q (F0 m pc ls (iv a :: st)) := lv_if_lt C.1 C.2.1 hd ht (fun h => kt ((oi_lt ra rg0).mp h)) (fun h => kf (fun q => h ((oi_lt ra rg0).mpr q)))
theorem r_icmp_ge (C : cx p s m args meth c ws own cc nL ret D cA) {a b off : Int} {tgt : Nat} (hd : decode cc pc = .ok (.if_icmp .ge off, 3)) (ht : (pc : Int) + off = (tgt : Int)) (ra : rg a) (rb : rg b) (kt : b ≤ a → W p l e R s m args below meth c H locs cells slots Q (F0 m tgt ls st)) (kf : ¬ b ≤ a → W p l e R s m args below meth c H locs cells slots Q (F0 m (pc + 3) ls st)) : W p l e R s m args below meth c H locs cells slots Q (F0 m pc ls (iv b :: iv a :: st)) := lv_icmp_ge C.1 C.2.1 hd ht (fun h => kt ((oi_le rb ra).mp h)) (fun h => kf (fun q => h ((oi_le rb ra).mpr q)))
theorem r_if_ge (C : cx p s m args meth c ws own cc nL ret D cA) {a off : Int} {tgt : Nat} (hd : decode cc pc = .ok (.ifCond .ge off, 3)) (ht : (pc : Int) + off = (tgt : Int)) (ra : rg a) (kt : 0 ≤ a → W p l e R s m args below meth c H locs cells slots Q (F0 m tgt ls st)) (kf : ¬ 0 ≤ a → W p l e R s m args below meth c H locs cells slots Q (F0 m (pc + 3) ls st)) : W p l e R s m args below meth c H locs cells slots Q (F0 m pc ls (iv a :: st)) := lv_if_ge C.1 C.2.1 hd ht (fun h => kt ((oi_le rg0 ra).mp h)) (fun h => kf (fun q => h ((oi_le rg0 ra).mpr q)))
theorem r_icmp_gt (C : cx p s m args meth c ws own cc nL ret D cA) {a b off : Int} {tgt : Nat} (hd : decode cc pc = .ok (.if_icmp .gt off, 3)) (ht : (pc : Int) + off = (tgt : Int)) (ra : rg a) (rb : rg b) (kt : b < a → W p l e R s m args below meth c H locs cells slots Q (F0 m tgt ls st)) (kf : ¬ b < a → W p l e R s m args below meth c H locs cells slots Q (F0 m (pc + 3) ls st)) : W p l e R s m args below meth c H locs cells slots Q (F0 m pc ls (iv b :: iv a :: st)) := lv_icmp_gt C.1 C.2.1 hd ht (fun h => kt ((oi_lt rb ra).mp h)) (fun h => kf (fun q => h ((oi_lt rb ra).mpr q)))
theorem r_if_gt (C : cx p s m args meth c ws own cc nL ret D cA) {a off : Int} {tgt : Nat} (hd : decode cc pc = .ok (.ifCond .gt off, 3)) (ht : (pc : Int) + off = (tgt : Int)) (ra : rg a) (kt : 0 < a → W p l e R s m args below meth c H locs cells slots Q (F0 m tgt ls st)) (kf : ¬ 0 < a → W p l e R s m args below meth c H locs cells slots Q (F0 m (pc + 3) ls st)) : W p l e R s m args below meth c H locs cells slots Q (F0 m pc ls (iv a :: st)) := lv_if_gt C.1 C.2.1 hd ht (fun h => kt ((oi_lt rg0 ra).mp h)) (fun h => kf (fun q => h ((oi_lt rg0 ra).mpr q)))
theorem r_icmp_le (C : cx p s m args meth c ws own cc nL ret D cA) {a b off : Int} {tgt : Nat} (hd : decode cc pc = .ok (.if_icmp .le off, 3)) (ht : (pc : Int) + off = (tgt : Int)) (ra : rg a) (rb : rg b) (kt : a ≤ b → W p l e R s m args below meth c H locs cells slots Q (F0 m tgt ls st)) (kf : ¬ a ≤ b → W p l e R s m args below meth c H locs cells slots Q (F0 m (pc + 3) ls st)) : W p l e R s m args below meth c H locs cells slots Q (F0 m pc ls (iv b :: iv a :: st)) := lv_icmp_le C.1 C.2.1 hd ht (fun h => kt ((oi_le ra rb).mp h)) (fun h => kf (fun q => h ((oi_le ra rb).mpr q)))
theorem r_if_le (C : cx p s m args meth c ws own cc nL ret D cA) {a off : Int} {tgt : Nat} (hd : decode cc pc = .ok (.ifCond .le off, 3)) (ht : (pc : Int) + off = (tgt : Int)) (ra : rg a) (kt : a ≤ 0 → W p l e R s m args below meth c H locs cells slots Q (F0 m tgt ls st)) (kf : ¬ a ≤ 0 → W p l e R s m args below meth c H locs cells slots Q (F0 m (pc + 3) ls st)) : W p l e R s m args below meth c H locs cells slots Q (F0 m pc ls (iv a :: st)) := lv_if_le C.1 C.2.1 hd ht (fun h => kt ((oi_le ra rg0).mp h)) (fun h => kf (fun q => h ((oi_le ra rg0).mpr q)))
theorem r_icmp_eq (C : cx p s m args meth c ws own cc nL ret D cA) {a b off : Int} {tgt : Nat} (hd : decode cc pc = .ok (.if_icmp .eq off, 3)) (ht : (pc : Int) + off = (tgt : Int)) (ra : rg a) (rb : rg b) (kt : a = b → W p l e R s m args below meth c H locs cells slots Q (F0 m tgt ls st)) (kf : ¬ a = b → W p l e R s m args below meth c H locs cells slots Q (F0 m (pc + 3) ls st)) : W p l e R s m args below meth c H locs cells slots Q (F0 m pc ls (iv b :: iv a :: st)) := lv_icmp_eq C.1 C.2.1 hd ht (fun h => kt ((oi_eq ra rb).mp h)) (fun h => kf (fun q => h ((oi_eq ra rb).mpr q)))
theorem r_if_eq (C : cx p s m args meth c ws own cc nL ret D cA) {a off : Int} {tgt : Nat} (hd : decode cc pc = .ok (.ifCond .eq off, 3)) (ht : (pc : Int) + off = (tgt : Int)) (ra : rg a) (kt : a = 0 → W p l e R s m args below meth c H locs cells slots Q (F0 m tgt ls st)) (kf : ¬ a = 0 → W p l e R s m args below meth c H locs cells slots Q (F0 m (pc + 3) ls st)) : W p l e R s m args below meth c H locs cells slots Q (F0 m pc ls (iv a :: st)) := lv_if_eq C.1 C.2.1 hd ht (fun h => kt ((oi_eq ra rg0).mp h)) (fun h => kf (fun q => h ((oi_eq ra rg0).mpr q)))
theorem r_icmp_ne (C : cx p s m args meth c ws own cc nL ret D cA) {a b off : Int} {tgt : Nat} (hd : decode cc pc = .ok (.if_icmp .ne off, 3)) (ht : (pc : Int) + off = (tgt : Int)) (ra : rg a) (rb : rg b) (kt : ¬ a = b → W p l e R s m args below meth c H locs cells slots Q (F0 m tgt ls st)) (kf : a = b → W p l e R s m args below meth c H locs cells slots Q (F0 m (pc + 3) ls st)) : W p l e R s m args below meth c H locs cells slots Q (F0 m pc ls (iv b :: iv a :: st)) := lv_icmp_ne C.1 C.2.1 hd ht (fun h => kt (fun q => h ((oi_eq ra rb).mpr q))) (fun h => kf ((oi_eq ra rb).mp h))
theorem r_if_ne (C : cx p s m args meth c ws own cc nL ret D cA) {a off : Int} {tgt : Nat} (hd : decode cc pc = .ok (.ifCond .ne off, 3)) (ht : (pc : Int) + off = (tgt : Int)) (ra : rg a) (kt : ¬ a = 0 → W p l e R s m args below meth c H locs cells slots Q (F0 m tgt ls st)) (kf : a = 0 → W p l e R s m args below meth c H locs cells slots Q (F0 m (pc + 3) ls st)) : W p l e R s m args below meth c H locs cells slots Q (F0 m pc ls (iv a :: st)) := lv_if_ne C.1 C.2.1 hd ht (fun h => kt (fun q => h ((oi_eq ra rg0).mpr q))) (fun h => kf ((oi_eq ra rg0).mp h))
theorem r_tin (C : cx p s m args meth c ws own cc nL ret D cA) {dflt lo hi : Int} {offs : Array Int} {len : Nat} {a off : Int} {tgt : Nat} (hd : decode cc pc = .ok (.tableswitch dflt lo hi offs, len)) (ra : rg a) (n : Int) (hn : a = n) (h1 : lo ≤ n) (h2 : n ≤ hi) (ho : offs[(n - lo).toNat]? = some off) (ht : (pc : Int) + off = (tgt : Int)) (k : W p l e R s m args below meth c H locs cells slots Q (F0 m tgt ls st)) : W p l e R s m args below meth c H locs cells slots Q (F0 m pc ls (iv a :: st)) := by
  subst hn
  exact lv_tableIn C.1 C.2.1 hd (by rw [oi_t ra]; omega) (by rw [oi_t ra]; omega) (by rw [oi_t ra]; exact ho) ht k
theorem r_tout (C : cx p s m args meth c ws own cc nL ret D cA) {dflt lo hi : Int} {offs : Array Int} {len : Nat} {a : Int} {tgt : Nat} (hd : decode cc pc = .ok (.tableswitch dflt lo hi offs, len)) (ra : rg a) (hn : ¬ (lo ≤ a ∧ a ≤ hi)) (ht : (pc : Int) + dflt = (tgt : Int)) (k : W p l e R s m args below meth c H locs cells slots Q (F0 m tgt ls st)) : W p l e R s m args below meth c H locs cells slots Q (F0 m pc ls (iv a :: st)) :=
  lv_tableOut C.1 C.2.1 hd (by rw [oi_t ra]; omega) ht k
theorem r_look (C : cx p s m args meth c ws own cc nL ret D cA) {dflt : Int} {ps : Array (Int × Int)} {len : Nat} {a off : Int} {tgt : Nat} (hd : decode cc pc = .ok (.lookupswitch dflt ps, len)) (ra : rg a) (hp : (ps.toList.zip (ps.toList.drop 1)).all (fun (a, next) => a.1 < next.1) = true) (ho : Op.lookupswitch.offset ps.toList dflt a = off) (ht : (pc : Int) + off = (tgt : Int)) (k : W p l e R s m args below meth c H locs cells slots Q (F0 m tgt ls st)) : W p l e R s m args below meth c H locs cells slots Q (F0 m pc ls (iv a :: st)) :=
  lv_lookup C.1 C.2.1 hd hp (by rw [oi_t ra]; exact ho) ht k
end
end
section
/-- class ci of the world's classes: its name, fields, how many, their types -/
def clo (ci : Nat) (Cn : String) (T : u_T) (N : Nat) (ty : Nat → FieldType) : Prop := vwCl[ci]? = some (Cn, T, N) ∧ (∀ k, k < N → parseFieldDescriptor (T k).2.2.1 = some (ty k)) ∧ ∀ a, a < N → ∀ b, b < N → a ≠ b → (T a).2.1 ≠ (T b).2.1
theorem up_ne {σ : St} {k : Nat} {j x : Int} (k' : Nat) (h : k' ≠ k) : up σ k j x k' = σ k' := by
  funext j'; simp [up, h]
theorem up_same {σ : St} {k : Nat} {j x : Int} : up σ k j x k j = x := by simp [up]
theorem nar_i (x : Int) : narrow .int (iv x) = iv x := rfl
theorem fit_i (x : Int) : fits .int (iv x) = true := rfl
theorem oi_z {x : Int} (h : x = 0 ∨ x = 1) : narrow .boolean (iv x) = iv x ∧ fits .boolean (iv x) = true := by
  rcases h with h | h <;> subst h <;> exact ⟨rfl, rfl⟩
theorem wo_D {cA : FieldType → ClassId} {h : Nat → Nat} {σ σ' : St} {A : Nat → Prop} {K : List Kd} (hD : va_D A (wo cA h σ 0 K)) : va_D A (wo cA h σ' 0 K) := by
  refine ⟨fun i j p q hp hq e => ?_, fun k q hq => ?_⟩
  · obtain ⟨k1, a1, b1⟩ := wo_inv K 0 i p hp
    obtain ⟨k2, a2, b2⟩ := wo_inv K 0 j q hq
    refine hD.1 i j _ _ (wo_get K 0 i k1 a1) (wo_get K 0 j k2 a2) ?_
    subst b1; subst b2; exact e
  · obtain ⟨k1, a1, b1⟩ := wo_inv K 0 k q hq
    have := hD.2 k _ (wo_get K 0 k k1 a1)
    subst b1; exact this
section
variable {p : Program} {l : Launch} {e : Env} {R : Room} {s : State} {m : MethodId} {args : Array Value} {below : List Frame} {meth : Method} {c : Code} {H : Heap} {locs : List Loc} {cells slots : Nat} {Q : State → Prop} {pc : Nat} {ls : Array Slot} {st : List Value}
variable {ws : List Cond} {own : String} {cc : ByteArray} {nL : Nat} {ret : Option FieldType} {D : va_G} {cA : FieldType → ClassId} {K : List Kd} {h : Nat → Nat} {σ : St} {A : Nat → Prop} {H0 : Heap} {vl : List (Option Value)}
theorem r_get (C : cx p s m args meth c ws own cc nL ret D cA) (hw : wd D cA K h σ A H0 H locs) {ci : Nat} {Cn : String} {T : u_T} {N : Nat} {ty : Nat → FieldType} (hc : clo ci Cn T N ty) (k : Nat) {fds : List (Option (Option Nat))} (hk : K[k]? = some (.inl (ci, fds))) (j : Nat) (ji : Int) (hj : (j : Int) = ji) (hf : fds[j]? = some none) (hN : j < N) {ix : Nat} (hin : ∀ w ∈ u_ws Cn T N, w ∈ ws) (hlink : Cond.fieldLink own ix (T j).1 (T j).2.1 (T j).2.2.1 ∈ ws) (hd : decode cc pc = .ok (.getfield ix, 3))
    (kk : W p l e R s m args below meth c H locs cells slots Q (F0 m (pc + 3) ls (iv (σ k ji) :: st))) : W p l e R s m args below meth c H locs cells slots Q (F0 m pc ls (.ref (h k) :: st)) := by
  have he := wo_get (cA := cA) (h := h) (σ := σ) K 0 k _ hk
  rw [Nat.zero_add] at he
  have hv := fvs_get (h := h) (f := σ k) fds 0 j hf
  rw [Nat.zero_add, hj] at hv
  exact va_get (D := D) C.1 C.2.1 C.2.2.2.2.1 hin C.2.2.2.1 C.2.2.2.2.2.2.2 hw.1 k he hc.1 j hN (C.2.2.2.2.1 _ hlink) (fun _ h9 => h9) hv hd kk
theorem r_getr (C : cx p s m args meth c ws own cc nL ret D cA) (hw : wd D cA K h σ A H0 H locs) {ci : Nat} {Cn : String} {T : u_T} {N : Nat} {ty : Nat → FieldType} (hc : clo ci Cn T N ty) (k : Nat) {fds : List (Option (Option Nat))} (hk : K[k]? = some (.inl (ci, fds))) (j r : Nat) (hf : fds[j]? = some (some (some r))) (hN : j < N) {ix : Nat} (hin : ∀ w ∈ u_ws Cn T N, w ∈ ws) (hlink : Cond.fieldLink own ix (T j).1 (T j).2.1 (T j).2.2.1 ∈ ws) (hd : decode cc pc = .ok (.getfield ix, 3))
    (kk : W p l e R s m args below meth c H locs cells slots Q (F0 m (pc + 3) ls (.ref (h r) :: st))) : W p l e R s m args below meth c H locs cells slots Q (F0 m pc ls (.ref (h k) :: st)) := by
  have he := wo_get (cA := cA) (h := h) (σ := σ) K 0 k _ hk
  rw [Nat.zero_add] at he
  have hv := fvs_ref (h := h) (f := σ k) fds 0 j hf
  exact va_get (D := D) C.1 C.2.1 C.2.2.2.2.1 hin C.2.2.2.1 C.2.2.2.2.2.2.2 hw.1 k he hc.1 j hN (C.2.2.2.2.1 _ hlink) (fun _ h9 => h9) hv hd kk
theorem wd_obj (hw : wd D cA K h σ A H0 H locs) {k : Nat} {ci : Nat} {fds : List (Option (Option Nat))} (hk : K[k]? = some (.inl (ci, fds))) {j : Nat} {ji : Int} (hj : (j : Int) = ji) (hf : fds[j]? = some none) {x : Int} : (wo cA h σ 0 K).set k (h k, .inr (ci, (fvs h (σ k) 0 fds).set j (iv x))) = wo cA h (up σ k ji x) 0 K := by
  have h1 := wo_set (cA := cA) (h := h) (σ := σ) (σ' := up σ k ji x) K 0 k _ hk (fun k' hk' => up_ne k' (by omega))
  have h2 := fvs_set (h := h) (f := σ k) (g := up σ k ji x k) fds 0 j hf (fun i hi => by simp only [up]; rw [if_neg]; omega)
  rw [Nat.zero_add, hj, up_same] at h2
  rw [Nat.zero_add] at h1
  rw [← h1, h2]; rfl
theorem r_put (C : cx p s m args meth c ws own cc nL ret D cA) (hw : wd D cA K h σ A H0 H locs) {ci : Nat} {Cn : String} {T : u_T} {N : Nat} {ty : Nat → FieldType} (hc : clo ci Cn T N ty) (k : Nat) {fds : List (Option (Option Nat))} (hk : K[k]? = some (.inl (ci, fds))) (j : Nat) (ji : Int) (hj : (j : Int) = ji) (hf : fds[j]? = some none) (hN : j < N) {ix : Nat} (hin : ∀ w ∈ u_ws Cn T N, w ∈ ws) (hlink : Cond.fieldLink own ix (T j).1 (T j).2.1 (T j).2.2.1 ∈ ws) (hfin : (T j).2.2.2 = false) {x : Int} (hty : narrow (ty j) (iv x) = iv x ∧ fits (ty j) (iv x) = true) (hd : decode cc pc = .ok (.putfield ix, 3))
    (kk : ∀ (H1 : Heap) (locs1 : List Loc), wd D cA K h (up σ k ji x) A H0 H1 locs1 → W p l e R s m args below meth c H1 locs1 cells slots Q (F0 m (pc + 3) ls st)) : W p l e R s m args below meth c H locs cells slots Q (F0 m pc ls (iv x :: .ref (h k) :: st)) := by
  have he := wo_get (cA := cA) (h := h) (σ := σ) K 0 k _ hk
  rw [Nat.zero_add] at he
  refine va_put (D := D) C.1 C.2.1 C.2.2.2.2.1 hin ty hc.2.1 hc.2.2 C.2.2.2.1 C.2.2.2.2.2.2.2 hw.1 hw.2.1 hw.2.2 k he hc.1 j hN (C.2.2.2.2.1 _ hlink) (fun _ h9 => h9) hfin (hc.2.1 j hN) hty.1 hty.2 ?_ hd (fun H1 locs1 hP hD hS => kk H1 locs1 ?_)
  · rw [fvs_len]; exact (List.getElem?_eq_some_iff.mp hf).1
  · rw [wd_obj hw hk hj hf] at hP hD
    exact ⟨hP, hD, hS⟩
theorem wd_arr (hw : wd D cA K h σ A H0 H locs) {k n : Nat} {ty : FieldType} (hk : K[k]? = some (.inr (.inl (ty, n)))) {a x : Int} (h0 : 0 ≤ a) {f' : (Nat → Int32) ⊕ (Nat → Int64) ⊕ (Nat → UInt32) ⊕ (Nat → UInt64) ⊕ (Nat → Option Nat)} (hf : f' = ear ty (fun i => if i = a then x else σ k i)) : (wo cA h σ 0 K).set k (h k, .inl (cA ty, n, f')) = wo cA h (up σ k a x) 0 K := by
  have h1 := wo_set (cA := cA) (h := h) (σ := σ) (σ' := up σ k a x) K 0 k _ hk (fun k' hk' => up_ne k' (by omega))
  rw [Nat.zero_add] at h1
  rw [← h1, hf]
  have : up σ k a x k = fun i => if i = a then x else σ k i := by funext i; simp [up]
  rw [this]; rfl
theorem ear_i {ty : FieldType} (ht : refKind ty = false ∧ ty ≠ .long) {f : Int → Int} : ear ty f = .inl fun i => Int32.ofInt (f (i : Int)) := by
  unfold ear; split
  · exact absurd rfl ht.2
  · rfl
theorem upd_i {f : Int → Int} {a x : Int} (h0 : 0 ≤ a) : upd (fun i => Int32.ofInt (f (i : Int))) a.toNat (Int32.ofInt x) = fun i : Nat => Int32.ofInt ((fun j => if j = a then x else f j) (i : Int)) := by
  funext i
  simp only [upd]
  by_cases hi : i = a.toNat
  · rw [if_pos hi, if_pos (by omega)]
  · rw [if_neg hi, if_neg (by omega)]
theorem upd_l {f : Int → Int} {a x : Int} (h0 : 0 ≤ a) : vp_updL (fun i => Int64.ofInt (f (i : Int))) a.toNat (Int64.ofInt x) = fun i : Nat => Int64.ofInt ((fun j => if j = a then x else f j) (i : Int)) := by
  funext i
  simp only [vp_updL]
  by_cases hi : i = a.toNat
  · rw [if_pos hi, if_pos (by omega)]
  · rw [if_neg hi, if_neg (by omega)]
theorem r_iald (C : cx p s m args meth c ws own cc nL ret D cA) (hw : wd D cA K h σ A H0 H locs) (k : Nat) {n : Nat} (hk : K[k]? = some (.inr (.inl (.int, n)))) (hn : Nat.ble (n + 1) 2147483648 = true) {a : Int} (h0 : 0 ≤ a) (h1 : a < (n : Int)) (hd : decode cc pc = .ok (.iaload, 1))
    (kk : W p l e R s m args below meth c H locs cells slots Q (F0 m (pc + 1) ls (iv (σ k a) :: st))) : W p l e R s m args below meth c H locs cells slots Q (F0 m pc ls (iv a :: .ref (h k) :: st)) := by
  have he := wo_get (cA := cA) (h := h) (σ := σ) K 0 k _ hk
  rw [Nat.zero_add] at he
  have hn' : n < 2147483648 := Nat.le_of_ble_eq_true hn
  refine va_iald (D := D) (i := Int32.ofInt a) (f := fun i => Int32.ofInt (σ k (i : Int))) C.1 C.2.1 C.2.2.2.2.2.2.2 hw.1 k 0 he rfl (oi_in h0 h1 hn') hd ?_
  rw [oi_cl h0 (by omega), Int.toNat_of_nonneg h0]; exact kk
theorem r_bald (C : cx p s m args meth c ws own cc nL ret D cA) (hw : wd D cA K h σ A H0 H locs) (k : Nat) {n : Nat} (hk : K[k]? = some (.inr (.inl (.byte, n)))) (hn : Nat.ble (n + 1) 2147483648 = true) {a : Int} (h0 : 0 ≤ a) (h1 : a < (n : Int)) (hd : decode cc pc = .ok (.baload, 1))
    (kk : W p l e R s m args below meth c H locs cells slots Q (F0 m (pc + 1) ls (iv (σ k a) :: st))) : W p l e R s m args below meth c H locs cells slots Q (F0 m pc ls (iv a :: .ref (h k) :: st)) := by
  have he := wo_get (cA := cA) (h := h) (σ := σ) K 0 k _ hk
  rw [Nat.zero_add] at he
  have hn' : n < 2147483648 := Nat.le_of_ble_eq_true hn
  refine va_bald (D := D) (i := Int32.ofInt a) (f := fun i => Int32.ofInt (σ k (i : Int))) C.1 C.2.1 C.2.2.2.2.2.2.2 hw.1 k 2 he rfl (oi_in h0 h1 hn') hd ?_
  rw [oi_cl h0 (by omega), Int.toNat_of_nonneg h0]; exact kk
theorem r_zald (C : cx p s m args meth c ws own cc nL ret D cA) (hw : wd D cA K h σ A H0 H locs) (k : Nat) {n : Nat} (hk : K[k]? = some (.inr (.inl (.boolean, n)))) (hn : Nat.ble (n + 1) 2147483648 = true) {a : Int} (h0 : 0 ≤ a) (h1 : a < (n : Int)) (hd : decode cc pc = .ok (.baload, 1))
    (kk : W p l e R s m args below meth c H locs cells slots Q (F0 m (pc + 1) ls (iv (σ k a) :: st))) : W p l e R s m args below meth c H locs cells slots Q (F0 m pc ls (iv a :: .ref (h k) :: st)) := by
  have he := wo_get (cA := cA) (h := h) (σ := σ) K 0 k _ hk
  rw [Nat.zero_add] at he
  have hn' : n < 2147483648 := Nat.le_of_ble_eq_true hn
  refine va_zald (D := D) (i := Int32.ofInt a) (f := fun i => Int32.ofInt (σ k (i : Int))) C.1 C.2.1 C.2.2.2.2.2.2.2 hw.1 k 3 he rfl (oi_in h0 h1 hn') hd ?_
  rw [oi_cl h0 (by omega), Int.toNat_of_nonneg h0]; exact kk
theorem r_lald (C : cx p s m args meth c ws own cc nL ret D cA) (hw : wd D cA K h σ A H0 H locs) (k : Nat) {n : Nat} (hk : K[k]? = some (.inr (.inl (.long, n)))) (hn : Nat.ble (n + 1) 2147483648 = true) {a : Int} (h0 : 0 ≤ a) (h1 : a < (n : Int)) (hd : decode cc pc = .ok (.laload, 1))
    (kk : W p l e R s m args below meth c H locs cells slots Q (F0 m (pc + 1) ls (jv (σ k a) :: st))) : W p l e R s m args below meth c H locs cells slots Q (F0 m pc ls (iv a :: .ref (h k) :: st)) := by
  have he := wo_get (cA := cA) (h := h) (σ := σ) K 0 k _ hk
  rw [Nat.zero_add] at he
  have hn' : n < 2147483648 := Nat.le_of_ble_eq_true hn
  refine va_lald (D := D) (i := Int32.ofInt a) (f := fun i => Int64.ofInt (σ k (i : Int))) C.1 C.2.1 C.2.2.2.2.2.2.2 hw.1 k 1 he rfl (oi_in h0 h1 hn') hd ?_
  rw [oi_cl h0 (by omega), Int.toNat_of_nonneg h0]; exact kk
theorem r_iast (C : cx p s m args meth c ws own cc nL ret D cA) (hw : wd D cA K h σ A H0 H locs) (k : Nat) {n : Nat} (hk : K[k]? = some (.inr (.inl (.int, n)))) (hn : Nat.ble (n + 1) 2147483648 = true) {a x : Int} (h0 : 0 ≤ a) (h1 : a < (n : Int)) (hd : decode cc pc = .ok (.iastore, 1))
    (kk : ∀ (H1 : Heap) (locs1 : List Loc), wd D cA K h (up σ k a x) A H0 H1 locs1 → W p l e R s m args below meth c H1 locs1 cells slots Q (F0 m (pc + 1) ls st)) : W p l e R s m args below meth c H locs cells slots Q (F0 m pc ls (iv x :: iv a :: .ref (h k) :: st)) := by
  have he := wo_get (cA := cA) (h := h) (σ := σ) K 0 k _ hk
  rw [Nat.zero_add] at he
  have hn' : n < 2147483648 := Nat.le_of_ble_eq_true hn
  refine va_iast (D := D) (i := Int32.ofInt a) (f := fun i => Int32.ofInt (σ k (i : Int))) C.1 C.2.1 C.2.2.2.2.2.2.2 hw.1 hw.2.1 hw.2.2 k 0 he rfl (oi_in h0 h1 hn') hd (fun H1 locs1 hP hD hS => kk H1 locs1 ?_)
  rw [oi_cl h0 (by omega), upd_i h0] at hP hD
  have hP : va_P D vwCl ((wo cA h σ 0 K).set k (h k, .inl (cA .int, n, ear .int fun i => if i = a then x else σ k i))) H1 := hP
  have hD : va_D A ((wo cA h σ 0 K).set k (h k, .inl (cA .int, n, ear .int fun i => if i = a then x else σ k i))) := hD
  rw [wd_arr hw hk h0 rfl] at hP hD
  exact ⟨hP, hD, hS⟩
theorem r_bast (C : cx p s m args meth c ws own cc nL ret D cA) (hw : wd D cA K h σ A H0 H locs) (k : Nat) {n : Nat} (hk : K[k]? = some (.inr (.inl (.byte, n)))) (hn : Nat.ble (n + 1) 2147483648 = true) {a x : Int} (h0 : 0 ≤ a) (h1 : a < (n : Int)) (hx : i2b x = x) (hd : decode cc pc = .ok (.bastore, 1))
    (kk : ∀ (H1 : Heap) (locs1 : List Loc), wd D cA K h (up σ k a x) A H0 H1 locs1 → W p l e R s m args below meth c H1 locs1 cells slots Q (F0 m (pc + 1) ls st)) : W p l e R s m args below meth c H locs cells slots Q (F0 m pc ls (iv x :: iv a :: .ref (h k) :: st)) := by
  have he := wo_get (cA := cA) (h := h) (σ := σ) K 0 k _ hk
  rw [Nat.zero_add] at he
  have hn' : n < 2147483648 := Nat.le_of_ble_eq_true hn
  have hx2 : vp_nar .byte (Int32.ofInt x) = Int32.ofInt x := by
    rw [vp_nar_byte, ← Int32.ofInt_int8ToInt]
    exact congrArg Int32.ofInt hx
  refine va_bast (D := D) (i := Int32.ofInt a) (f := fun i => Int32.ofInt (σ k (i : Int))) C.1 C.2.1 C.2.2.2.2.2.2.2 hw.1 hw.2.1 hw.2.2 k 2 he rfl (oi_in h0 h1 hn') hd (fun H1 locs1 hP hD hS => kk H1 locs1 ?_)
  rw [oi_cl h0 (by omega), hx2, upd_i h0] at hP hD
  have hP : va_P D vwCl ((wo cA h σ 0 K).set k (h k, .inl (cA .byte, n, ear .byte fun i => if i = a then x else σ k i))) H1 := hP
  have hD : va_D A ((wo cA h σ 0 K).set k (h k, .inl (cA .byte, n, ear .byte fun i => if i = a then x else σ k i))) := hD
  rw [wd_arr hw hk h0 rfl] at hP hD
  exact ⟨hP, hD, hS⟩
theorem r_zast (C : cx p s m args meth c ws own cc nL ret D cA) (hw : wd D cA K h σ A H0 H locs) (k : Nat) {n : Nat} (hk : K[k]? = some (.inr (.inl (.boolean, n)))) (hn : Nat.ble (n + 1) 2147483648 = true) {a x : Int} (h0 : 0 ≤ a) (h1 : a < (n : Int)) (hx : x = 0 ∨ x = 1) (hd : decode cc pc = .ok (.bastore, 1))
    (kk : ∀ (H1 : Heap) (locs1 : List Loc), wd D cA K h (up σ k a x) A H0 H1 locs1 → W p l e R s m args below meth c H1 locs1 cells slots Q (F0 m (pc + 1) ls st)) : W p l e R s m args below meth c H locs cells slots Q (F0 m pc ls (iv x :: iv a :: .ref (h k) :: st)) := by
  have he := wo_get (cA := cA) (h := h) (σ := σ) K 0 k _ hk
  rw [Nat.zero_add] at he
  have hn' : n < 2147483648 := Nat.le_of_ble_eq_true hn
  have hx2 : vp_nar .boolean (Int32.ofInt x) = Int32.ofInt x := by rcases hx with hx | hx <;> subst hx <;> rfl
  refine va_zast (D := D) (i := Int32.ofInt a) (f := fun i => Int32.ofInt (σ k (i : Int))) C.1 C.2.1 C.2.2.2.2.2.2.2 hw.1 hw.2.1 hw.2.2 k 3 he rfl (oi_in h0 h1 hn') hd (fun H1 locs1 hP hD hS => kk H1 locs1 ?_)
  rw [oi_cl h0 (by omega), hx2, upd_i h0] at hP hD
  have hP : va_P D vwCl ((wo cA h σ 0 K).set k (h k, .inl (cA .boolean, n, ear .boolean fun i => if i = a then x else σ k i))) H1 := hP
  have hD : va_D A ((wo cA h σ 0 K).set k (h k, .inl (cA .boolean, n, ear .boolean fun i => if i = a then x else σ k i))) := hD
  rw [wd_arr hw hk h0 rfl] at hP hD
  exact ⟨hP, hD, hS⟩
theorem r_last (C : cx p s m args meth c ws own cc nL ret D cA) (hw : wd D cA K h σ A H0 H locs) (k : Nat) {n : Nat} (hk : K[k]? = some (.inr (.inl (.long, n)))) (hn : Nat.ble (n + 1) 2147483648 = true) {a x : Int} (h0 : 0 ≤ a) (h1 : a < (n : Int)) (hd : decode cc pc = .ok (.lastore, 1))
    (kk : ∀ (H1 : Heap) (locs1 : List Loc), wd D cA K h (up σ k a x) A H0 H1 locs1 → W p l e R s m args below meth c H1 locs1 cells slots Q (F0 m (pc + 1) ls st)) : W p l e R s m args below meth c H locs cells slots Q (F0 m pc ls (jv x :: iv a :: .ref (h k) :: st)) := by
  have he := wo_get (cA := cA) (h := h) (σ := σ) K 0 k _ hk
  rw [Nat.zero_add] at he
  have hn' : n < 2147483648 := Nat.le_of_ble_eq_true hn
  refine va_last (D := D) (i := Int32.ofInt a) (f := fun i => Int64.ofInt (σ k (i : Int))) C.1 C.2.1 C.2.2.2.2.2.2.2 hw.1 hw.2.1 hw.2.2 k 1 he rfl (oi_in h0 h1 hn') hd (fun H1 locs1 hP hD hS => kk H1 locs1 ?_)
  rw [oi_cl h0 (by omega), upd_l h0] at hP hD
  have hP : va_P D vwCl ((wo cA h σ 0 K).set k (h k, .inl (cA .long, n, ear .long fun i => if i = a then x else σ k i))) H1 := hP
  have hD : va_D A ((wo cA h σ 0 K).set k (h k, .inl (cA .long, n, ear .long fun i => if i = a then x else σ k i))) := hD
  rw [wd_arr hw hk h0 rfl] at hP hD
  exact ⟨hP, hD, hS⟩
theorem r_alen (C : cx p s m args meth c ws own cc nL ret D cA) (hw : wd D cA K h σ A H0 H locs) (k : Nat) {n : Nat} (hk : K[k]? = some (.inr (.inl (.int, n)))) (hd : decode cc pc = .ok (.arraylength, 1))
    (kk : W p l e R s m args below meth c H locs cells slots Q (F0 m (pc + 1) ls (iv (n : Int) :: st))) : W p l e R s m args below meth c H locs cells slots Q (F0 m pc ls (.ref (h k) :: st)) := by
  have he := wo_get (cA := cA) (h := h) (σ := σ) K 0 k _ hk
  rw [Nat.zero_add] at he
  exact va_alen (D := D) (x := (n, .inl fun i => Int32.ofInt (σ k (i : Int)))) C.1 C.2.1 C.2.2.2.2.2.2.2 hw.1 k 0 he rfl (Int32.ofInt_eq_ofNat).symm hd kk
theorem r_aald (C : cx p s m args meth c ws own cc nL ret D cA) (hw : wd D cA K h σ A H0 H locs) (k : Nat) {rs : List (Option Nat)} (hk : K[k]? = some (.inr (.inr ("BellTouches$Tape", rs)))) (hn : Nat.ble (rs.length + 1) 2147483648 = true) {a : Int} (h0 : 0 ≤ a) (h1 : a < (rs.length : Int)) (r : Nat) (hr : rs.getD a.toNat none = some r) (hd : decode cc pc = .ok (.aaload, 1))
    (kk : W p l e R s m args below meth c H locs cells slots Q (F0 m (pc + 1) ls (.ref (h r) :: st))) : W p l e R s m args below meth c H locs cells slots Q (F0 m pc ls (iv a :: .ref (h k) :: st)) := by
  have he := wo_get (cA := cA) (h := h) (σ := σ) K 0 k _ hk
  rw [Nat.zero_add] at he
  have hn' : rs.length < 2147483648 := Nat.le_of_ble_eq_true hn
  refine va_aldq (D := D) (i := Int32.ofInt a) (f := fun i => (rs.getD i none).map h) C.1 C.2.1 C.2.2.2.2.2.2.2 hw.1 k 4 he rfl (oi_in h0 h1 hn') hd ?_
  rw [oi_cl h0 (by omega), hr]; exact kk
end
end
section
/-- the place of a cell among the callee's -/
def ixo : List Nat → Nat → Option Nat
  | [], _ => none
  | a :: r, k => if a = k then some 0 else (ixo r k).map (· + 1)
def renF (js : List Nat) (fd : Option (Option Nat)) : Option (Option Nat) := fd.map fun o => o.map fun k => js.getD k 0
def renK (js : List Nat) : Kd → Kd
  | .inl o => .inl (o.1, o.2.map (renF js))
  | .inr (.inl a) => .inr (.inl a)
  | .inr (.inr a) => .inr (.inr (a.1, a.2.map fun o => o.map fun k => js.getD k 0))
/-- the callee's cells K' are the caller's cells js -/
def sbK (K K' : List Kd) (js : List Nat) : Prop := K'.map (fun kd => some (renK js kd)) = js.map (fun k => K[k]?) ∧ va_nd js = true
def hm (h : Nat → Nat) (js : List Nat) : Nat → Nat := fun i => h (js.getD i 0)
def pk (σ : St) (js : List Nat) : St := fun i => σ (js.getD i 0)
def mrg (σ : St) (js : List Nat) (σ' : St) : St := fun k => match ixo js k with | some i => σ' i | none => σ k
theorem ixo_some : ∀ {js : List Nat} {k i : Nat}, ixo js k = some i → js[i]? = some k
  | [], k, i, e => by simp [ixo] at e
  | a :: r, k, i, e => by
    simp only [ixo] at e
    by_cases h : a = k
    · rw [if_pos h] at e; simp at e; subst e; subst h; rfl
    · rw [if_neg h] at e
      cases e2 : ixo r k with
      | none => rw [e2] at e; simp at e
      | some j => rw [e2] at e; simp at e; subst e; simpa using ixo_some e2
theorem ixo_none : ∀ {js : List Nat} {k : Nat}, ixo js k = none → ∀ i : Nat, js[i]? ≠ some k
  | [], k, e, i => by simp
  | a :: r, k, e, i => by
    simp only [ixo] at e
    by_cases h : a = k
    · rw [if_pos h] at e; simp at e
    · rw [if_neg h] at e
      cases e2 : ixo r k with
      | none =>
        cases i with
        | zero => simpa using h
        | succ i => simpa using ixo_none e2 i
      | some j => rw [e2] at e; simp at e
theorem ixo_at : ∀ {js : List Nat} (k i : Nat), va_nd js = true → js[i]? = some k → ixo js k = some i := by
  intro js k i hn hi
  cases e : ixo js k with
  | none => exact absurd hi (ixo_none e i)
  | some j => rw [va_nd_inj js hn _ _ _ (ixo_some e) hi]
theorem sbk_at {K K' : List Kd} {js : List Nat} (hs : sbK K K' js) {i : Nat} {kd : Kd} (hk : K'[i]? = some kd) : ∃ k, js[i]? = some k ∧ K[k]? = some (renK js kd) := by
  have h1 := congrArg (fun l : List (Option Kd) => l[i]?) hs.1
  simp only [List.getElem?_map, hk] at h1
  cases e : js[i]? with
  | none => rw [e] at h1; simp at h1
  | some k => rw [e] at h1; simp at h1; exact ⟨k, rfl, h1.symm⟩
theorem sbk_inv {K K' : List Kd} {js : List Nat} (hs : sbK K K' js) {i k : Nat} (hk : js[i]? = some k) : ∃ kd, K'[i]? = some kd ∧ K[k]? = some (renK js kd) := by
  have h1 := congrArg (fun l : List (Option Kd) => l[i]?) hs.1
  simp only [List.getElem?_map, hk] at h1
  cases e : K'[i]? with
  | none => rw [e] at h1; simp at h1
  | some kd => rw [e] at h1; simp at h1; exact ⟨kd, rfl, h1.symm⟩
theorem fvs_ren {h : Nat → Nat} {f : Int → Int} {js : List Nat} : ∀ (fd : List (Option (Option Nat))) (j0 : Nat), fvs h f j0 (fd.map (renF js)) = fvs (hm h js) f j0 fd
  | [], _ => rfl
  | a :: r, j0 => by
    have := fvs_ren (h := h) (f := f) (js := js) r (j0 + 1)
    rcases a with _ | _ | k <;> simp [fvs, renF, hm] <;> simpa [renF] using this
theorem ent_ren {cA : FieldType → ClassId} {h : Nat → Nat} {f : Int → Int} {js : List Nat} (kd : Kd) : ent cA h f (renK js kd) = ent cA (hm h js) f kd := by
  rcases kd with o | a | a
  · simp only [renK, ent, fvs_ren]
  · rfl
  · simp only [renK, ent, List.length_map]
    congr 7
    funext i
    simp only [List.getD_eq_getElem?_getD, List.getElem?_map]
    cases a.2[i]? with
    | none => rfl
    | some o => cases o <;> rfl
section
variable {D : va_G} {cA : FieldType → ClassId} {K K' : List Kd} {h : Nat → Nat} {σ σ' : St} {A : Nat → Prop} {H0 H : Heap} {locs : List Loc} {js : List Nat}
theorem wd_pk (hw : wd D cA K h σ A H0 H locs) (hs : sbK K K' js) : va_P D vwCl (wo cA (hm h js) (pk σ js) 0 K') H := by
  intro i q hq
  obtain ⟨kd, h1, h2⟩ := wo_inv K' 0 i q hq
  obtain ⟨k, h3, h4⟩ := sbk_at hs h1
  have := hw.1 k _ (wo_get K 0 k _ h4)
  rw [Nat.zero_add] at this h2
  rw [ent_ren] at this
  subst h2
  have e : hm h js i = h k := by simp [hm, List.getD_eq_getElem?_getD, h3]
  have e2 : pk σ js i = σ k := by simp [pk, List.getD_eq_getElem?_getD, h3]
  rw [e, e2]; exact this
theorem wd_pkD (hw : wd D cA K h σ A H0 H locs) (hs : sbK K K' js) : va_D (fun _ => True) (wo cA (hm h js) (pk σ js) 0 K') := by
  refine ⟨fun i j p q hp hq e => ?_, fun _ _ _ => trivial⟩
  obtain ⟨kp, a1, b1⟩ := wo_inv K' 0 i p hp
  obtain ⟨kq, a2, b2⟩ := wo_inv K' 0 j q hq
  obtain ⟨x, c1, d1⟩ := sbk_at hs a1
  obtain ⟨y, c2, d2⟩ := sbk_at hs a2
  subst b1; subst b2
  simp only [Nat.zero_add, hm, List.getD_eq_getElem?_getD, c1, c2, Option.getD_some] at e
  have := hw.2.1.1 x y _ _ (wo_get K 0 x _ d1) (wo_get K 0 y _ d2) (by simpa using e)
  subst this
  exact va_nd_inj js hs.2 _ _ _ c1 c2
theorem aA_sub (hw : wd D cA K h σ A H0 H locs) (hA : ∀ q, H0.size ≤ q → A q) (hs : sbK K K' js) : ∀ q, aA K'.length (hm h js) H.size q → A q := by
  rintro q (⟨i, hi, rfl⟩ | hq)
  · obtain ⟨k, h3, h4⟩ := sbk_at hs (List.getElem?_eq_getElem hi)
    have := hw.2.1.2 k _ (wo_get K 0 k _ h4)
    simpa [hm, List.getD_eq_getElem?_getD, h3] using this
  · exact hA q (Nat.le_trans hw.2.2.1 hq)
theorem wd_back {H1 : Heap} {locs1 : List Loc} (hw : wd D cA K h σ A H0 H locs) (hs : sbK K K' js) (hP : va_P D vwCl (wo cA (hm h js) σ' 0 K') H1) (hk : ∀ q : Nat, q < H.size → ¬ aA K'.length (hm h js) H.size q → H1[q]? = H[q]?) (hS : va_S A H0 H1 locs1) : wd D cA K h (mrg σ js σ') A H0 H1 locs1 := by
  refine ⟨fun k q hq => ?_, wo_D hw.2.1, hS⟩
  obtain ⟨kd, h1, h2⟩ := wo_inv K 0 k q hq
  subst h2
  rw [Nat.zero_add]
  cases e : ixo js k with
  | some i =>
    have h3 := ixo_some e
    obtain ⟨kd', h4, h5⟩ := sbk_inv hs h3
    rw [h1] at h5
    have h6 := hP i _ (wo_get K' 0 i _ h4)
    rw [Nat.zero_add, ← ent_ren, ← Option.some.inj h5] at h6
    have e1 : hm h js i = h k := by simp [hm, List.getD_eq_getElem?_getD, h3]
    have e2 : mrg σ js σ' k = σ' i := by simp [mrg, e]
    rw [e1] at h6; rw [e2]; exact h6
  | none =>
    have e2 : mrg σ js σ' k = σ k := by simp [mrg, e]
    rw [e2]
    have h3 := hw.1 k _ (wo_get K 0 k _ h1)
    rw [Nat.zero_add] at h3
    refine h3.kept (hk _ h3.lt ?_)
    rintro (⟨i, hi, hq⟩ | hq)
    · obtain ⟨k2, h4, h5⟩ := sbk_at hs (List.getElem?_eq_getElem hi)
      have h6 : h k = h k2 := by simpa [hm, List.getD_eq_getElem?_getD, h4] using hq
      have := hw.2.1.1 k k2 _ _ (wo_get K 0 k _ h1) (wo_get K 0 k2 _ h5) (by simpa using h6)
      subst this
      exact ixo_none e i h4
    · exact absurd h3.lt (Nat.not_lt.mpr hq)
theorem mrg_pk : mrg σ js (pk σ js) = σ := by
  funext k
  unfold mrg
  cases e : ixo js k with
  | none => rfl
  | some i => simp [pk, List.getD_eq_getElem?_getD, ixo_some e]
end
/-- a contract's start: the cells K at h hold σ, the heap has sz cells -/
def preS (D : va_G) (cA : FieldType → ClassId) (K : List Kd) (h : Nat → Nat) (σ : St) (sz : Nat) : State → Prop := fun U => U.heap.size = sz ∧ va_P D vwCl (wo cA h σ 0 K) U.heap ∧ va_K D vwCl (tyL cA) U ∧ va_D (fun _ => True) (wo cA h σ 0 K)
theorem preS_blind {D : va_G} {cA : FieldType → ClassId} {K : List Kd} {h : Nat → Nat} {σ : St} {sz : Nat} {As : List Value} : FrameBlind (va_Pc As (preS D cA K h σ sz)) := fun a U g mk q => by
  obtain ⟨q0, q1, qP, qK, qD⟩ := q
  exact ⟨q0, q1, qP, va_K.moved (u := U) (U := U.calling g mk a) (Vm.Alike.refl U.vm) qK, qD⟩
def QI (D : va_G) (cA : FieldType → ClassId) (K : List Kd) (h : Nat → Nat) (sz : Nat) (post : Int → St → Prop) : Array Value → State → Outcome → State → Prop := va_Qi (fun (r : Int32) (u : Int × St) => r = Int32.ofInt u.1 ∧ post u.1 u.2) (fun u t => va_P D vwCl (wo cA h u.2 0 K) t.heap) (aA K.length h sz)
def QL (D : va_G) (cA : FieldType → ClassId) (K : List Kd) (h : Nat → Nat) (sz : Nat) (post : Int → St → Prop) : Array Value → State → Outcome → State → Prop := va_Ql (fun (r : Int64) (u : Int × St) => r = Int64.ofInt u.1 ∧ post u.1 u.2) (fun u t => va_P D vwCl (wo cA h u.2 0 K) t.heap) (aA K.length h sz)
def QV (D : va_G) (cA : FieldType → ClassId) (K : List Kd) (h : Nat → Nat) (sz : Nat) (post : St → Prop) : Array Value → State → Outcome → State → Prop := va_Qv (fun (u : St) => post u) (fun u t => va_P D vwCl (wo cA h u 0 K) t.heap) (aA K.length h sz)
def QR (D : va_G) (cA : FieldType → ClassId) (K : List Kd) (h : Nat → Nat) (sz : Nat) (rk : Nat) (post : St → Prop) : Array Value → State → Outcome → State → Prop := va_Qr (fun (u : St) => post u) (fun u a t => a = h rk ∧ va_P D vwCl (wo cA h u 0 K) t.heap) (aA K.length h sz)
section
variable {p : Program} {l : Launch} {e : Env} {R : Room} {s : State} {m : MethodId} {args : Array Value} {below : List Frame} {meth : Method} {c : Code} {H : Heap} {locs : List Loc} {cells slots : Nat} {Q : State → Prop} {pc : Nat} {ls : Array Slot} {st st0 : List Value}
variable {ws : List Cond} {own : String} {cc : ByteArray} {nL : Nat} {ret : Option FieldType} {D : va_G} {cA : FieldType → ClassId} {K K' : List Kd} {h : Nat → Nat} {σ : St} {A : Nat → Prop} {js : List Nat} {vl : List (Option Value)}
theorem run_v (C : cx p s m args meth c ws own cc nL ret D cA) (hw : wd D cA K h σ A s.heap H locs) (hs : sbK K K' js) {ci : Nat} {fds : List (Option (Option Nat))} {Cn : String} {T : u_T} {N : Nat} {ty : Nat → FieldType} (hc : clo ci Cn T N ty) (h0 : K'[0]? = some (.inl (ci, fds))) {y : MethodName} {ws' : List Cond} {rm' : Room} {As : List Value} {Qc : Array Value → State → Outcome → State → Prop} {ix n maxL : Nat} {bytes : ByteArray} {ret' : Option FieldType}
    (hM : Met l y ws' rm' (va_Pc (.ref (hm h js 0) :: As) (preS D cA K' (hm h js) (pk σ js) H.size)) Qc 0 0 (aA K'.length (hm h js) H.size)) (cw : CallW R s args own Cn ix y bytes maxL ret' ws' rm' 0 0 n) (hn : As.length = n) (hst : st0 = As.reverse ++ .ref (hm h js 0) :: st) (hcat : Nat.ble (st.map fun v => v.category).sum 8 = true) (hl : lh ls nL vl) (hd : decode cc pc = .ok (.invokevirtual ix, 3)) (hf : cells ≤ R.cells ∧ slots ≤ R.slots) :
    va_Run p l e R s m args below meth c H locs cells slots 0 0 (F0 m pc ls st0) st (Qc (Value.ref (hm h js 0) :: As).toArray) (aA K'.length (hm h js) H.size) :=
  va_runV ⟨C.1, C.2.1, C.2.2.1, C.2.2.2.1, C.2.2.2.2.1⟩ hM cw
    ⟨preS_blind, va_recv C.2.2.2.2.2.2.2 (wd_pk hw hs) hc.1 (wo_get K' 0 0 _ h0), fun U hU hW => ⟨rfl, by rw [hU], by rw [hU]; exact wd_pk hw hs, va_K.moved hW.alike C.2.2.2.2.2.2.2, wd_pkD hw hs⟩⟩
    rfl hn hl.1 hst (lv_room (Nat.le_of_ble_eq_true hcat)) hd hf
theorem run_s (C : cx p s m args meth c ws own cc nL ret D cA) (hw : wd D cA K h σ A s.heap H locs) (hs : sbK K K' js) {y : MethodName} {ws' : List Cond} {rm' : Room} {As : List Value} {Qc : Array Value → State → Outcome → State → Prop} {ix n maxL : Nat} {bytes : ByteArray} {ret' : Option FieldType}
    (hM : Met l y ws' rm' (va_Pc As (preS D cA K' (hm h js) (pk σ js) H.size)) Qc 0 0 (aA K'.length (hm h js) H.size)) (cw : CallB R s args own ix y bytes maxL ret' ws' rm' 0 0 n ∧ (Cond.static y).before args s = true) (hn : As.length = n) (hst : st0 = As.reverse ++ st) (hcat : Nat.ble (st.map fun v => v.category).sum 8 = true) (hl : lh ls nL vl) (hd : decode cc pc = .ok (.invokestatic ix, 3)) (hf : cells ≤ R.cells ∧ slots ≤ R.slots) :
    va_Run p l e R s m args below meth c H locs cells slots 0 0 (F0 m pc ls st0) st (Qc As.toArray) (aA K'.length (hm h js) H.size) :=
  va_runS ⟨C.1, C.2.1, C.2.2.1, C.2.2.2.1, C.2.2.2.2.1⟩ hM cw
    ⟨preS_blind, fun U hU hW => ⟨rfl, by rw [hU], by rw [hU]; exact wd_pk hw hs, va_K.moved hW.alike C.2.2.2.2.2.2.2, wd_pkD hw hs⟩⟩
    rfl hn hl.1 hst (lv_room (Nat.le_of_ble_eq_true hcat)) hd hf
theorem r_cI (hA : ∀ q, s.heap.size ≤ q → A q) (hw : wd D cA K h σ A s.heap H locs) (hs : sbK K K' js) {a : Array Value} {post : Int → St → Prop}
    (hr : va_Run p l e R s m args below meth c H locs cells slots 0 0 (F0 m pc ls st0) st (QI D cA K' (hm h js) H.size post a) (aA K'.length (hm h js) H.size))
    (k : ∀ (r : Int) (σ' : St) (H1 : Heap) (locs1 : List Loc), post r σ' → wd D cA K h (mrg σ js σ') A s.heap H1 locs1 → W p l e R s m args below meth c H1 locs1 cells slots Q (F0 m (pc + 3) ls (iv r :: st))) : W p l e R s m args below meth c H locs cells slots Q (F0 m pc ls st0) :=
  va_calli hr hw.2.2 (fun q _ hq => aA_sub hw hA hs q hq) (aA_sub hw hA hs) (fun r u t H1 locs1 ht hvm hp hB hz hk hS => by
    obtain ⟨rfl, hp⟩ := hp
    subst ht
    exact k u.1 u.2 _ locs1 hp (wd_back hw hs hB hk hS))
theorem r_cL (hA : ∀ q, s.heap.size ≤ q → A q) (hw : wd D cA K h σ A s.heap H locs) (hs : sbK K K' js) {a : Array Value} {post : Int → St → Prop}
    (hr : va_Run p l e R s m args below meth c H locs cells slots 0 0 (F0 m pc ls st0) st (QL D cA K' (hm h js) H.size post a) (aA K'.length (hm h js) H.size))
    (k : ∀ (r : Int) (σ' : St) (H1 : Heap) (locs1 : List Loc), post r σ' → wd D cA K h (mrg σ js σ') A s.heap H1 locs1 → W p l e R s m args below meth c H1 locs1 cells slots Q (F0 m (pc + 3) ls (jv r :: st))) : W p l e R s m args below meth c H locs cells slots Q (F0 m pc ls st0) :=
  va_calll hr hw.2.2 (fun q _ hq => aA_sub hw hA hs q hq) (aA_sub hw hA hs) (fun r u t H1 locs1 ht hvm hp hB hz hk hS => by
    obtain ⟨rfl, hp⟩ := hp
    subst ht
    exact k u.1 u.2 _ locs1 hp (wd_back hw hs hB hk hS))
theorem r_cV (hA : ∀ q, s.heap.size ≤ q → A q) (hw : wd D cA K h σ A s.heap H locs) (hs : sbK K K' js) {a : Array Value} {post : St → Prop}
    (hr : va_Run p l e R s m args below meth c H locs cells slots 0 0 (F0 m pc ls st0) st (QV D cA K' (hm h js) H.size post a) (aA K'.length (hm h js) H.size))
    (k : ∀ (σ' : St) (H1 : Heap) (locs1 : List Loc), post σ' → wd D cA K h (mrg σ js σ') A s.heap H1 locs1 → W p l e R s m args below meth c H1 locs1 cells slots Q (F0 m (pc + 3) ls st)) : W p l e R s m args below meth c H locs cells slots Q (F0 m pc ls st0) :=
  va_callv hr hw.2.2 (fun q _ hq => aA_sub hw hA hs q hq) (aA_sub hw hA hs) (fun u t H1 locs1 ht hvm hp hB hz hk hS => by
    subst ht
    exact k u _ locs1 hp (wd_back hw hs hB hk hS))
theorem r_cR (hA : ∀ q, s.heap.size ≤ q → A q) (hw : wd D cA K h σ A s.heap H locs) (hs : sbK K K' js) {a : Array Value} {rk : Nat} {post : St → Prop}
    (hr : va_Run p l e R s m args below meth c H locs cells slots 0 0 (F0 m pc ls st0) st (QR D cA K' (hm h js) H.size rk post a) (aA K'.length (hm h js) H.size))
    (k : ∀ (σ' : St) (H1 : Heap) (locs1 : List Loc), post σ' → wd D cA K h (mrg σ js σ') A s.heap H1 locs1 → W p l e R s m args below meth c H1 locs1 cells slots Q (F0 m (pc + 3) ls (.ref (hm h js rk) :: st))) : W p l e R s m args below meth c H locs cells slots Q (F0 m pc ls st0) :=
  va_callr hr hw.2.2 (fun q _ hq => aA_sub hw hA hs q hq) (aA_sub hw hA hs) (fun u ra t H1 locs1 ht hvm hp hB hz hk hS => by
    subst ht
    obtain ⟨rfl, hB⟩ := hB
    exact k u _ locs1 hp (wd_back hw hs hB hk hS))
/-- a reader's answer: the cells are as they were -/
theorem r_cIr (hA : ∀ q, s.heap.size ≤ q → A q) (hw : wd D cA K h σ A s.heap H locs) (hs : sbK K K' js) {a : Array Value} {post : Int → Prop}
    (hr : va_Run p l e R s m args below meth c H locs cells slots 0 0 (F0 m pc ls st0) st (QI D cA K' (hm h js) H.size (fun r σ' => σ' = pk σ js ∧ post r) a) (aA K'.length (hm h js) H.size))
    (k : ∀ (r : Int) (H1 : Heap) (locs1 : List Loc), post r → wd D cA K h σ A s.heap H1 locs1 → W p l e R s m args below meth c H1 locs1 cells slots Q (F0 m (pc + 3) ls (iv r :: st))) : W p l e R s m args below meth c H locs cells slots Q (F0 m pc ls st0) :=
  r_cI hA hw hs hr (fun r σ' H1 locs1 hp hw1 => by
    obtain ⟨rfl, hp⟩ := hp
    rw [mrg_pk] at hw1
    exact k r H1 locs1 hp hw1)
theorem r_cLr (hA : ∀ q, s.heap.size ≤ q → A q) (hw : wd D cA K h σ A s.heap H locs) (hs : sbK K K' js) {a : Array Value} {post : Int → Prop}
    (hr : va_Run p l e R s m args below meth c H locs cells slots 0 0 (F0 m pc ls st0) st (QL D cA K' (hm h js) H.size (fun r σ' => σ' = pk σ js ∧ post r) a) (aA K'.length (hm h js) H.size))
    (k : ∀ (r : Int) (H1 : Heap) (locs1 : List Loc), post r → wd D cA K h σ A s.heap H1 locs1 → W p l e R s m args below meth c H1 locs1 cells slots Q (F0 m (pc + 3) ls (jv r :: st))) : W p l e R s m args below meth c H locs cells slots Q (F0 m pc ls st0) :=
  r_cL hA hw hs hr (fun r σ' H1 locs1 hp hw1 => by
    obtain ⟨rfl, hp⟩ := hp
    rw [mrg_pk] at hw1
    exact k r H1 locs1 hp hw1)
/-- the ends -/
def RtI (p : Program) (l : Launch) (e : Env) (R : Room) (s : State) (m : MethodId) (args : Array Value) (below : List Frame) (meth : Method) (c : Code) (Q : State → Prop) (cc : ByteArray) (D : va_G) (cA : FieldType → ClassId) (K : List Kd) (h : Nat → Nat) (A : Nat → Prop) (ok : Int → Prop) (post : Int → St → Prop) : Prop :=
  ∀ (x : Int) (σ' : St) (H : Heap) (locs : List Loc) (pc : Nat) (ls : Array Slot), decode cc pc = .ok (.ireturn, 1) → ok x → post x σ' → wd D cA K h σ' A s.heap H locs → W p l e R s m args below meth c H locs 0 0 Q (F0 m pc ls [iv x])
def RtL (p : Program) (l : Launch) (e : Env) (R : Room) (s : State) (m : MethodId) (args : Array Value) (below : List Frame) (meth : Method) (c : Code) (Q : State → Prop) (cc : ByteArray) (D : va_G) (cA : FieldType → ClassId) (K : List Kd) (h : Nat → Nat) (A : Nat → Prop) (post : Int → St → Prop) : Prop :=
  ∀ (x : Int) (σ' : St) (H : Heap) (locs : List Loc) (pc : Nat) (ls : Array Slot), decode cc pc = .ok (.lreturn, 1) → post x σ' → wd D cA K h σ' A s.heap H locs → W p l e R s m args below meth c H locs 0 0 Q (F0 m pc ls [jv x])
def RtV (p : Program) (l : Launch) (e : Env) (R : Room) (s : State) (m : MethodId) (args : Array Value) (below : List Frame) (meth : Method) (c : Code) (Q : State → Prop) (cc : ByteArray) (D : va_G) (cA : FieldType → ClassId) (K : List Kd) (h : Nat → Nat) (A : Nat → Prop) (post : St → Prop) : Prop :=
  ∀ (σ' : St) (H : Heap) (locs : List Loc) (pc : Nat) (ls : Array Slot), decode cc pc = .ok (.return_, 1) → post σ' → wd D cA K h σ' A s.heap H locs → W p l e R s m args below meth c H locs 0 0 Q (F0 m pc ls [])
def RtR (p : Program) (l : Launch) (e : Env) (R : Room) (s : State) (m : MethodId) (args : Array Value) (below : List Frame) (meth : Method) (c : Code) (Q : State → Prop) (cc : ByteArray) (D : va_G) (cA : FieldType → ClassId) (K : List Kd) (h : Nat → Nat) (A : Nat → Prop) (rk : Nat) (post : St → Prop) : Prop :=
  ∀ (σ' : St) (H : Heap) (locs : List Loc) (pc : Nat) (ls : Array Slot), decode cc pc = .ok (.areturn, 1) → post σ' → wd D cA K h σ' A s.heap H locs → W p l e R s m args below meth c H locs 0 0 Q (F0 m pc ls [.ref (h rk)])
theorem rt_i (C : cx p s m args meth c ws own cc nL (some .int) D cA) (post : Int → St → Prop) : RtI p l e R s m args below meth c (MQ below (QI D cA K h s.heap.size post) args s 0 0 (aA K.length h s.heap.size)) cc D cA K h (aA K.length h s.heap.size) (fun _ => True) post := fun x σ' H locs pc ls hd _ hp hw =>
  W.iret C.1 C.2.1 C.2.2.2.2.2.1 (fun t ht _ => ⟨⟨_, (x, σ'), rfl, ⟨rfl, hp⟩, by dsimp only; rw [ht]; exact hw.1⟩, hw.2.2.F ht⟩) hw.2.2.2.2 hd C.2.2.2.2.2.2.1
theorem rt_z (C : cx p s m args meth c ws own cc nL (some .boolean) D cA) (post : Int → St → Prop) : RtI p l e R s m args below meth c (MQ below (QI D cA K h s.heap.size post) args s 0 0 (aA K.length h s.heap.size)) cc D cA K h (aA K.length h s.heap.size) (fun x => x = 0 ∨ x = 1) post := fun x σ' H locs pc ls hd hx hp hw =>
  W.zret C.1 C.2.1 C.2.2.2.2.2.1 (oi_z hx).1 (fun t ht _ => ⟨⟨_, (x, σ'), rfl, ⟨rfl, hp⟩, by dsimp only; rw [ht]; exact hw.1⟩, hw.2.2.F ht⟩) hw.2.2.2.2 hd C.2.2.2.2.2.2.1
theorem rt_l (C : cx p s m args meth c ws own cc nL (some .long) D cA) (post : Int → St → Prop) : RtL p l e R s m args below meth c (MQ below (QL D cA K h s.heap.size post) args s 0 0 (aA K.length h s.heap.size)) cc D cA K h (aA K.length h s.heap.size) post := fun x σ' H locs pc ls hd hp hw =>
  W.lret C.1 C.2.1 C.2.2.2.2.2.1 (fun t ht _ => ⟨⟨_, (x, σ'), rfl, ⟨rfl, hp⟩, by dsimp only; rw [ht]; exact hw.1⟩, hw.2.2.F ht⟩) hw.2.2.2.2 hd C.2.2.2.2.2.2.1
theorem rt_v (C : cx p s m args meth c ws own cc nL none D cA) (post : St → Prop) : RtV p l e R s m args below meth c (MQ below (QV D cA K h s.heap.size post) args s 0 0 (aA K.length h s.heap.size)) cc D cA K h (aA K.length h s.heap.size) post := fun σ' H locs pc ls hd hp hw =>
  W.vret C.1 C.2.1 C.2.2.2.2.2.1 (fun t ht _ => ⟨⟨σ', rfl, hp, by dsimp only; rw [ht]; exact hw.1⟩, hw.2.2.F ht⟩) hw.2.2.2.2 hd C.2.2.2.2.2.2.1
theorem rt_r {Cr : String} (C : cx p s m args meth c ws own cc nL (some (.object Cr)) D cA) (rk : Nat) (post : St → Prop) : RtR p l e R s m args below meth c (MQ below (QR D cA K h s.heap.size rk post) args s 0 0 (aA K.length h s.heap.size)) cc D cA K h (aA K.length h s.heap.size) rk post := fun σ' H locs pc ls hd hp hw =>
  W.aret C.1 C.2.1 C.2.2.2.2.2.1 (Or.inl ⟨Cr, rfl⟩) (Or.inr ⟨_, rfl⟩) (fun t ht _ => ⟨⟨σ', _, rfl, hp, rfl, by rw [ht]; exact hw.1⟩, hw.2.2.F ht⟩) hw.2.2.2.2 hd C.2.2.2.2.2.2.1
end
/-- a method's arguments in its locals -/
def slv : List Value → List (Option Value)
  | [] => []
  | v :: r => if v.category = 2 then some v :: none :: slv r else some v :: slv r
theorem slv_args : ∀ (vs : List Value) (k i : Nat) (v : Value), (slv vs)[i]? = some (some v) → (k + i, v) ∈ lv_args k vs
  | [], k, i, v, e => by simp [slv] at e
  | a :: r, k, i, v, e => by
    unfold slv at e
    unfold lv_args
    by_cases hc : a.category = 2
    · rw [if_pos hc] at e
      rw [if_pos hc]
      match i, e with
      | 0, e => simp at e; subst e; exact List.mem_cons_self
      | 1, e => simp at e
      | i + 2, e =>
        have := slv_args r (k + 2) i v (by simpa using e)
        rw [show k + 2 + i = k + (i + 2) by omega] at this
        exact List.mem_cons_of_mem _ this
    · rw [if_neg hc] at e
      rw [if_neg hc]
      match i, e with
      | 0, e => simp at e; subst e; exact List.mem_cons_self
      | i + 1, e =>
        have := slv_args r (k + 1) i v (by simpa using e)
        rw [show k + 1 + i = k + (i + 1) by omega] at this
        exact List.mem_cons_of_mem _ this
theorem lh_entry (vs : List Value) {n : Nat} (hn : (lg_sl vs).length ≤ n) (k : Nat) : lh ((lg_sl vs ++ List.replicate (n - (lg_sl vs).length) Slot.unset).toArray) n (slv vs ++ List.replicate k none) := by
  have hl := lv_entry vs hn
  refine ⟨hl.1, hl.2.1, fun i v e => ?_⟩
  have e2 : (slv vs)[i]? = some (some v) := by
    rcases Nat.lt_or_ge i (slv vs).length with q | q
    · rwa [List.getElem?_append_left q] at e
    · rw [List.getElem?_append_right q] at e
      have := List.getElem?_replicate (a := (none : Option Value)) (n := k) (i := i - (slv vs).length)
      rw [this] at e
      split at e <;> simp at e
  have := slv_args vs 0 i v e2
  rw [Nat.zero_add] at this
  exact hl.2.2 (i, v) this
/-- a contract out of a walk of the body -/
theorem mk_met {l : Launch} {y : MethodName} {ws ws' : List Cond} {rm : Room} {cc : ByteArray} {nL : Nat} {ret : Option FieldType} {own : String} {D : va_G} {cA : FieldType → ClassId} {K : List Kd} {h : Nat → Nat} {σ : St} {sz : Nat} {As : List Value} {Qc : Array Value → State → Outcome → State → Prop} (k : Nat)
    (hy : plainName y.cls = true) (hw : ws = Cond.code y cc nL ret :: ws') (hown : y.cls = own) (hrm : (headSpec ws rm).room = rm) (hn : Nat.ble (lg_sl As).length nL = true)
    (body : ∀ (p : Program) (e : Env) (s : State) (m : MethodId) (args : Array Value) (below : List Frame) (meth : Method) (c : Code) (ls : Array Slot), s.heap.size = sz → cx p s m args meth c ws own cc nL ret D cA → wd D cA K h σ (aA K.length h s.heap.size) s.heap s.heap [] → lh ls nL (slv As ++ List.replicate k none) → (∀ q, s.heap.size ≤ q → aA K.length h s.heap.size q) → W p l e rm s m args below meth c s.heap [] 0 0 (MQ below Qc args s 0 0 (aA K.length h s.heap.size)) (F0 m 0 ls [])) : Met l y ws rm (va_Pc As (preS D cA K h σ sz)) Qc 0 0 (aA K.length h sz) := by
  refine Met.ofW (cc := cc) (maxL := nL) (ret := ret) hy hw ?_
  intro p e s m args below meth c s₁ B hml hv
  obtain ⟨rfl, hsz, hP, hK, hD0⟩ := hv
  subst hsz
  rw [lg_entry_eq, hrm]
  refine body p e s m _ below meth c _ rfl ⟨B.exec, B.bytes, hml, ?_, atoms_spec (ws := ws) B.pre, B.returns, B.notSynchronized, hK⟩ ⟨hP, ?_, va_S.rf⟩ (lh_entry As (Nat.le_of_ble_eq_true hn) k) (fun q hq => Or.inr hq)
  · rw [← hown]; exact findClass_of_methodNamed B.named
  · refine ⟨hD0.1, fun i q hq => ?_⟩
    obtain ⟨kd, a1, b1⟩ := wo_inv K 0 i q hq
    subst b1
    exact Or.inl ⟨i, (List.getElem?_eq_some_iff.mp a1).1, by rw [Nat.zero_add]⟩
end
section
section
variable {p : Program} {l : Launch} {e : Env} {R : Room} {s : State} {m : MethodId} {args : Array Value} {below : List Frame} {meth : Method} {c : Code} {H : Heap} {locs : List Loc} {cells slots : Nat} {Q : State → Prop} {pc : Nat} {ls : Array Slot} {st st0 : List Value}
variable {ws : List Cond} {own : String} {cc : ByteArray} {nL : Nat} {ret : Option FieldType} {D : va_G} {cA : FieldType → ClassId} {K : List Kd} {h : Nat → Nat} {σ : St} {A : Nat → Prop} {H0 : Heap} {vl : List (Option Value)}
theorem wd_self (hw : wd D cA K h σ A H0 H locs) (hA : ∀ q, H0.size ≤ q → A q) : ∀ q, aA K.length h H.size q → A q := by
  rintro q (⟨i, hi, rfl⟩ | hq)
  · have := hw.2.1.2 i _ (wo_get K 0 i _ (List.getElem?_eq_getElem hi))
    simpa using this
  · exact hA q (Nat.le_trans hw.2.2.1 hq)
theorem wd_T (hw : wd D cA K h σ A H0 H locs) : va_D (fun _ => True) (wo cA h σ 0 K) := hw.2.1.weaken (fun _ _ _ _ => trivial)
theorem run_v0 (C : cx p s m args meth c ws own cc nL ret D cA) (hw : wd D cA K h σ A s.heap H locs) {ci : Nat} {fds : List (Option (Option Nat))} {Cn : String} {T : u_T} {N : Nat} {ty : Nat → FieldType} (hc : clo ci Cn T N ty) (h0 : K[0]? = some (.inl (ci, fds))) {y : MethodName} {ws' : List Cond} {rm' : Room} {As : List Value} {Qc : Array Value → State → Outcome → State → Prop} {ix n maxL : Nat} {bytes : ByteArray} {ret' : Option FieldType}
    (hM : Met l y ws' rm' (va_Pc (.ref (h 0) :: As) (preS D cA K h σ H.size)) Qc 0 0 (aA K.length h H.size)) (cw : CallW R s args own Cn ix y bytes maxL ret' ws' rm' 0 0 n) (hn : As.length = n) (hst : st0 = As.reverse ++ .ref (h 0) :: st) (hcat : Nat.ble (st.map fun v => v.category).sum 8 = true) (hl : lh ls nL vl) (hd : decode cc pc = .ok (.invokevirtual ix, 3)) (hf : cells ≤ R.cells ∧ slots ≤ R.slots) :
    va_Run p l e R s m args below meth c H locs cells slots 0 0 (F0 m pc ls st0) st (Qc (Value.ref (h 0) :: As).toArray) (aA K.length h H.size) :=
  va_runV ⟨C.1, C.2.1, C.2.2.1, C.2.2.2.1, C.2.2.2.2.1⟩ hM cw
    ⟨preS_blind, va_recv C.2.2.2.2.2.2.2 hw.1 hc.1 (wo_get K 0 0 _ h0), fun U hU hW => ⟨rfl, by rw [hU], by rw [hU]; exact hw.1, va_K.moved hW.alike C.2.2.2.2.2.2.2, wd_T hw⟩⟩
    rfl hn hl.1 hst (lv_room (Nat.le_of_ble_eq_true hcat)) hd hf
theorem run_s0 (C : cx p s m args meth c ws own cc nL ret D cA) (hw : wd D cA K h σ A s.heap H locs) {y : MethodName} {ws' : List Cond} {rm' : Room} {As : List Value} {Qc : Array Value → State → Outcome → State → Prop} {ix n maxL : Nat} {bytes : ByteArray} {ret' : Option FieldType}
    (hM : Met l y ws' rm' (va_Pc As (preS D cA K h σ H.size)) Qc 0 0 (aA K.length h H.size)) (cw : CallB R s args own ix y bytes maxL ret' ws' rm' 0 0 n ∧ (Cond.static y).before args s = true) (hn : As.length = n) (hst : st0 = As.reverse ++ st) (hcat : Nat.ble (st.map fun v => v.category).sum 8 = true) (hl : lh ls nL vl) (hd : decode cc pc = .ok (.invokestatic ix, 3)) (hf : cells ≤ R.cells ∧ slots ≤ R.slots) :
    va_Run p l e R s m args below meth c H locs cells slots 0 0 (F0 m pc ls st0) st (Qc As.toArray) (aA K.length h H.size) :=
  va_runS ⟨C.1, C.2.1, C.2.2.1, C.2.2.2.1, C.2.2.2.2.1⟩ hM cw
    ⟨preS_blind, fun U hU hW => ⟨rfl, by rw [hU], by rw [hU]; exact hw.1, va_K.moved hW.alike C.2.2.2.2.2.2.2, wd_T hw⟩⟩
    rfl hn hl.1 hst (lv_room (Nat.le_of_ble_eq_true hcat)) hd hf
theorem r_cI0 (hA : ∀ q, s.heap.size ≤ q → A q) (hw : wd D cA K h σ A s.heap H locs) {a : Array Value} {post : Int → St → Prop}
    (hr : va_Run p l e R s m args below meth c H locs cells slots 0 0 (F0 m pc ls st0) st (QI D cA K h H.size post a) (aA K.length h H.size))
    (k : ∀ (r : Int) (σ' : St) (H1 : Heap) (locs1 : List Loc), post r σ' → wd D cA K h σ' A s.heap H1 locs1 → W p l e R s m args below meth c H1 locs1 cells slots Q (F0 m (pc + 3) ls (iv r :: st))) : W p l e R s m args below meth c H locs cells slots Q (F0 m pc ls st0) :=
  va_calli hr hw.2.2 (fun q _ hq => wd_self hw hA q hq) (wd_self hw hA) (fun r u t H1 locs1 ht hvm hp hB hz hk hS => by
    obtain ⟨rfl, hp⟩ := hp
    subst ht
    exact k u.1 u.2 _ locs1 hp ⟨hB, wo_D hw.2.1, hS⟩)
theorem r_cL0 (hA : ∀ q, s.heap.size ≤ q → A q) (hw : wd D cA K h σ A s.heap H locs) {a : Array Value} {post : Int → St → Prop}
    (hr : va_Run p l e R s m args below meth c H locs cells slots 0 0 (F0 m pc ls st0) st (QL D cA K h H.size post a) (aA K.length h H.size))
    (k : ∀ (r : Int) (σ' : St) (H1 : Heap) (locs1 : List Loc), post r σ' → wd D cA K h σ' A s.heap H1 locs1 → W p l e R s m args below meth c H1 locs1 cells slots Q (F0 m (pc + 3) ls (jv r :: st))) : W p l e R s m args below meth c H locs cells slots Q (F0 m pc ls st0) :=
  va_calll hr hw.2.2 (fun q _ hq => wd_self hw hA q hq) (wd_self hw hA) (fun r u t H1 locs1 ht hvm hp hB hz hk hS => by
    obtain ⟨rfl, hp⟩ := hp
    subst ht
    exact k u.1 u.2 _ locs1 hp ⟨hB, wo_D hw.2.1, hS⟩)
theorem r_cV0 (hA : ∀ q, s.heap.size ≤ q → A q) (hw : wd D cA K h σ A s.heap H locs) {a : Array Value} {post : St → Prop}
    (hr : va_Run p l e R s m args below meth c H locs cells slots 0 0 (F0 m pc ls st0) st (QV D cA K h H.size post a) (aA K.length h H.size))
    (k : ∀ (σ' : St) (H1 : Heap) (locs1 : List Loc), post σ' → wd D cA K h σ' A s.heap H1 locs1 → W p l e R s m args below meth c H1 locs1 cells slots Q (F0 m (pc + 3) ls st)) : W p l e R s m args below meth c H locs cells slots Q (F0 m pc ls st0) :=
  va_callv hr hw.2.2 (fun q _ hq => wd_self hw hA q hq) (wd_self hw hA) (fun u t H1 locs1 ht hvm hp hB hz hk hS => by
    subst ht
    exact k u _ locs1 hp ⟨hB, wo_D hw.2.1, hS⟩)
theorem r_cR0 (hA : ∀ q, s.heap.size ≤ q → A q) (hw : wd D cA K h σ A s.heap H locs) {a : Array Value} {rk : Nat} {post : St → Prop}
    (hr : va_Run p l e R s m args below meth c H locs cells slots 0 0 (F0 m pc ls st0) st (QR D cA K h H.size rk post a) (aA K.length h H.size))
    (k : ∀ (σ' : St) (H1 : Heap) (locs1 : List Loc), post σ' → wd D cA K h σ' A s.heap H1 locs1 → W p l e R s m args below meth c H1 locs1 cells slots Q (F0 m (pc + 3) ls (.ref (h rk) :: st))) : W p l e R s m args below meth c H locs cells slots Q (F0 m pc ls st0) :=
  va_callr hr hw.2.2 (fun q _ hq => wd_self hw hA q hq) (wd_self hw hA) (fun u ra t H1 locs1 ht hvm hp hB hz hk hS => by
    subst ht
    obtain ⟨rfl, hB⟩ := hB
    exact k u _ locs1 hp ⟨hB, wo_D hw.2.1, hS⟩)
theorem r_cIr0 (hA : ∀ q, s.heap.size ≤ q → A q) (hw : wd D cA K h σ A s.heap H locs) {a : Array Value} {post : Int → Prop}
    (hr : va_Run p l e R s m args below meth c H locs cells slots 0 0 (F0 m pc ls st0) st (QI D cA K h H.size (fun r σ' => σ' = σ ∧ post r) a) (aA K.length h H.size))
    (k : ∀ (r : Int) (H1 : Heap) (locs1 : List Loc), post r → wd D cA K h σ A s.heap H1 locs1 → W p l e R s m args below meth c H1 locs1 cells slots Q (F0 m (pc + 3) ls (iv r :: st))) : W p l e R s m args below meth c H locs cells slots Q (F0 m pc ls st0) :=
  r_cI0 hA hw hr (fun r σ' H1 locs1 hp hw1 => by
    obtain ⟨rfl, hp⟩ := hp
    exact k r H1 locs1 hp hw1)
theorem r_cLr0 (hA : ∀ q, s.heap.size ≤ q → A q) (hw : wd D cA K h σ A s.heap H locs) {a : Array Value} {post : Int → Prop}
    (hr : va_Run p l e R s m args below meth c H locs cells slots 0 0 (F0 m pc ls st0) st (QL D cA K h H.size (fun r σ' => σ' = σ ∧ post r) a) (aA K.length h H.size))
    (k : ∀ (r : Int) (H1 : Heap) (locs1 : List Loc), post r → wd D cA K h σ A s.heap H1 locs1 → W p l e R s m args below meth c H1 locs1 cells slots Q (F0 m (pc + 3) ls (jv r :: st))) : W p l e R s m args below meth c H locs cells slots Q (F0 m pc ls st0) :=
  r_cL0 hA hw hr (fun r σ' H1 locs1 hp hw1 => by
    obtain ⟨rfl, hp⟩ := hp
    exact k r H1 locs1 hp hw1)
theorem r_max (C : cx p s m args meth c ws own cc nL ret D cA) (hl : lh ls nL vl) {ix : Nat} (q1 : Cond.methodLink own ix Lib.Math.max.name ∈ ws) (q2 : Cond.static Lib.Math.max.name ∈ ws) (q3 : Cond.initialized "java/lang/Math" ∈ ws) (q4 : Cond.code Lib.Math.max.name Lib.Math.max.code 2 (some .int) ∈ ws) (hfr : 1 ≤ R.frames) (hlo : (st.map fun v => v.category).sum + 13 ≤ R.locals) (hc : cells ≤ R.cells) (hs : slots ≤ R.slots) {a b : Int} (ra : rg a) (rb : rg b) (hd : decode cc pc = .ok (.invokestatic ix, 3))
    (kk : W p l e R s m args below meth c H locs cells slots Q (F0 m (pc + 3) ls (iv (if a < b then b else a) :: st))) : W p l e R s m args below meth c H locs cells slots Q (F0 m pc ls (iv b :: iv a :: st)) := by
  refine va_mmax C.1 C.2.1 (C.2.2.1.trans hl.1.symm) C.2.2.2.1 (C.2.2.2.2.1 _ q1) (C.2.2.2.2.1 _ q2) (C.2.2.2.2.1 _ q3) (C.2.2.2.2.1 _ q4) hfr hlo hc hs hd ?_
  have e1 : (Value.int (if Int32.ofInt a < Int32.ofInt b then Int32.ofInt b else Int32.ofInt a)) = iv (if a < b then b else a) := by
    rw [iv]
    by_cases q : a < b
    · rw [if_pos q, if_pos ((oi_lt ra rb).mpr q)]
    · rw [if_neg q, if_neg (fun z => q ((oi_lt ra rb).mp z))]
  rw [e1]; exact kk
end
def cpy (σ : St) (k0 : Nat) (sp : Int) (k1 : Nat) (dp n : Int) : St := fun k j => if k = k1 ∧ dp ≤ j ∧ j < dp + n then σ k0 (sp + (j - dp)) else σ k j
section
variable {p : Program} {l : Launch} {e : Env} {R : Room} {s : State} {m : MethodId} {args : Array Value} {below : List Frame} {meth : Method} {c : Code} {H : Heap} {locs : List Loc} {cells slots : Nat} {Q : State → Prop} {pc : Nat} {ls : Array Slot} {st st0 : List Value}
variable {ws : List Cond} {own : String} {cc : ByteArray} {nL : Nat} {ret : Option FieldType} {D : va_G} {cA : FieldType → ClassId} {K : List Kd} {h : Nat → Nat} {σ : St} {A : Nat → Prop} {H0 : Heap} {vl : List (Option Value)}
theorem wd_cpy {k1 n1 : Nat} {ty : FieldType} (hk : K[k1]? = some (.inr (.inl (ty, n1)))) {σ' : St} (h0 : ∀ k, k ≠ k1 → σ' k = σ k) {f' : (Nat → Int32) ⊕ (Nat → Int64) ⊕ (Nat → UInt32) ⊕ (Nat → UInt64) ⊕ (Nat → Option Nat)} (hf : f' = ear ty (σ' k1)) : (wo cA h σ 0 K).set k1 (h k1, .inl (cA ty, n1, f')) = wo cA h σ' 0 K := by
  have h1 := wo_set (cA := cA) (h := h) (σ := σ) (σ' := σ') K 0 k1 _ hk (fun k' hk' => h0 k' (by omega))
  rw [Nat.zero_add] at h1
  rw [← h1, hf]; rfl
theorem cpy_ne {k0 k1 : Nat} {sp dp n : Int} (k : Nat) (hk : k ≠ k1) : cpy σ k0 sp k1 dp n k = σ k := by funext j; simp [cpy, hk]
theorem cpy_i {k0 k1 : Nat} {sp dp n : Int} (h1 : 0 ≤ sp) (h2 : 0 ≤ dp) (h3 : 0 ≤ n) : va_cpy (fun i : Nat => Int32.ofInt (σ k0 (i : Int))) (fun i : Nat => Int32.ofInt (σ k1 (i : Int))) sp.toNat dp.toNat n.toNat = fun i : Nat => Int32.ofInt (cpy σ k0 sp k1 dp n k1 (i : Int)) := by
  funext i
  simp only [va_cpy, cpy]
  by_cases q : dp.toNat ≤ i ∧ i < dp.toNat + n.toNat
  · rw [if_pos q, if_pos ⟨trivial, by omega, by omega⟩]
    congr 2; omega
  · rw [if_neg q, if_neg (by omega)]
theorem cpy_l {k0 k1 : Nat} {sp dp n : Int} (h1 : 0 ≤ sp) (h2 : 0 ≤ dp) (h3 : 0 ≤ n) : va_cpy (fun i : Nat => Int64.ofInt (σ k0 (i : Int))) (fun i : Nat => Int64.ofInt (σ k1 (i : Int))) sp.toNat dp.toNat n.toNat = fun i : Nat => Int64.ofInt (cpy σ k0 sp k1 dp n k1 (i : Int)) := by
  funext i
  simp only [va_cpy, cpy]
  by_cases q : dp.toNat ≤ i ∧ i < dp.toNat + n.toNat
  · rw [if_pos q, if_pos ⟨trivial, by omega, by omega⟩]
    congr 2; omega
  · rw [if_neg q, if_neg (by omega)]
theorem oi_n {a : Int} (h0 : 0 ≤ a) (h : a < 2147483648) : ¬ Int32.ofInt a < 0 := by rw [oi_0, oi_lt ⟨by omega, h⟩ ⟨by omega, by omega⟩]; omega
theorem r_copy_int (C : cx p s m args meth c ws own cc nL ret D cA) (hw : wd D cA K h σ A H0 H locs) (hl : lh ls nL vl) (k0 k1 : Nat) {n0 n1 : Nat} (hk0 : K[k0]? = some (.inr (.inl (.int, n0)))) (hk1 : K[k1]? = some (.inr (.inl (.int, n1)))) (hn0 : Nat.ble (n0 + 1) 2147483648 = true) (hn1 : Nat.ble (n1 + 1) 2147483648 = true) {ix : Nat} (q1 : Cond.methodLink own ix arraycopyName ∈ ws) (q2 : Cond.native arraycopyName ∈ ws) (q3 : Cond.static arraycopyName ∈ ws) (q4 : Cond.initialized "java/lang/System" ∈ ws) {sp dp n : Int} (h1 : 0 ≤ sp) (h2 : 0 ≤ dp) (h3 : 0 ≤ n) (h4 : sp + n ≤ (n0 : Int)) (h5 : dp + n ≤ (n1 : Int)) (hfr : 1 ≤ R.frames) (hlo : (st.map fun v => v.category).sum + (nativeFrameWords "java/lang/System" "arraycopy" 5 + 11) ≤ R.locals) (hd : decode cc pc = .ok (.invokestatic ix, 3))
    (kk : ∀ (H1 : Heap) (locs1 : List Loc), wd D cA K h (cpy σ k0 sp k1 dp n) A H0 H1 locs1 → W p l e R s m args below meth c H1 locs1 cells slots Q (F0 m (pc + 3) ls st)) : W p l e R s m args below meth c H locs cells slots Q (F0 m pc ls (iv n :: iv dp :: .ref (h k1) :: iv sp :: .ref (h k0) :: st)) := by
  have he0 := wo_get (cA := cA) (h := h) (σ := σ) K 0 k0 _ hk0
  have he1 := wo_get (cA := cA) (h := h) (σ := σ) K 0 k1 _ hk1
  rw [Nat.zero_add] at he0 he1
  have a0 : n0 < 2147483648 := Nat.le_of_ble_eq_true hn0
  have a1 : n1 < 2147483648 := Nat.le_of_ble_eq_true hn1
  have e1 := oi_cl h1 (show sp < 2147483648 by omega)
  have e2 := oi_cl h2 (show dp < 2147483648 by omega)
  have e3 := oi_cl h3 (show n < 2147483648 by omega)
  refine va_copyi (D := D) (f := fun i : Nat => Int32.ofInt (σ k0 (i : Int))) (g := fun i : Nat => Int32.ofInt (σ k1 (i : Int))) C.1 C.2.1 (C.2.2.1.trans hl.1.symm) C.2.2.2.1 (C.2.2.2.2.1 _ q1) (C.2.2.2.2.1 _ q2) (C.2.2.2.2.1 _ q3) (C.2.2.2.2.1 _ q4) C.2.2.2.2.2.2.2 hw.1 hw.2.1 hw.2.2 k0 k1 0 0 he0 he1 rfl rfl rfl (oi_n h1 (by omega)) (oi_n h2 (by omega)) (oi_n h3 (by omega)) (by rw [e1, e3]; omega) (by rw [e2, e3]; omega) (fun _ _ => rfl) hfr hlo hd (fun H1 locs1 hP hD hS => kk H1 locs1 ?_)
  rw [e1, e2, e3, cpy_i h1 h2 h3] at hP hD
  have hP : va_P D vwCl ((wo cA h σ 0 K).set k1 (h k1, .inl (cA .int, n1, ear .int (cpy σ k0 sp k1 dp n k1)))) H1 := hP
  have hD : va_D A ((wo cA h σ 0 K).set k1 (h k1, .inl (cA .int, n1, ear .int (cpy σ k0 sp k1 dp n k1)))) := hD
  rw [wd_cpy hk1 (fun k hk => cpy_ne k hk) rfl] at hP hD
  exact ⟨hP, hD, hS⟩
theorem r_copy_long (C : cx p s m args meth c ws own cc nL ret D cA) (hw : wd D cA K h σ A H0 H locs) (hl : lh ls nL vl) (k0 k1 : Nat) {n0 n1 : Nat} (hk0 : K[k0]? = some (.inr (.inl (.long, n0)))) (hk1 : K[k1]? = some (.inr (.inl (.long, n1)))) (hn0 : Nat.ble (n0 + 1) 2147483648 = true) (hn1 : Nat.ble (n1 + 1) 2147483648 = true) {ix : Nat} (q1 : Cond.methodLink own ix arraycopyName ∈ ws) (q2 : Cond.native arraycopyName ∈ ws) (q3 : Cond.static arraycopyName ∈ ws) (q4 : Cond.initialized "java/lang/System" ∈ ws) {sp dp n : Int} (h1 : 0 ≤ sp) (h2 : 0 ≤ dp) (h3 : 0 ≤ n) (h4 : sp + n ≤ (n0 : Int)) (h5 : dp + n ≤ (n1 : Int)) (hfr : 1 ≤ R.frames) (hlo : (st.map fun v => v.category).sum + (nativeFrameWords "java/lang/System" "arraycopy" 5 + 11) ≤ R.locals) (hd : decode cc pc = .ok (.invokestatic ix, 3))
    (kk : ∀ (H1 : Heap) (locs1 : List Loc), wd D cA K h (cpy σ k0 sp k1 dp n) A H0 H1 locs1 → W p l e R s m args below meth c H1 locs1 cells slots Q (F0 m (pc + 3) ls st)) : W p l e R s m args below meth c H locs cells slots Q (F0 m pc ls (iv n :: iv dp :: .ref (h k1) :: iv sp :: .ref (h k0) :: st)) := by
  have he0 := wo_get (cA := cA) (h := h) (σ := σ) K 0 k0 _ hk0
  have he1 := wo_get (cA := cA) (h := h) (σ := σ) K 0 k1 _ hk1
  rw [Nat.zero_add] at he0 he1
  have a0 : n0 < 2147483648 := Nat.le_of_ble_eq_true hn0
  have a1 : n1 < 2147483648 := Nat.le_of_ble_eq_true hn1
  have e1 := oi_cl h1 (show sp < 2147483648 by omega)
  have e2 := oi_cl h2 (show dp < 2147483648 by omega)
  have e3 := oi_cl h3 (show n < 2147483648 by omega)
  refine va_copyl (D := D) (f := fun i : Nat => Int64.ofInt (σ k0 (i : Int))) (g := fun i : Nat => Int64.ofInt (σ k1 (i : Int))) C.1 C.2.1 (C.2.2.1.trans hl.1.symm) C.2.2.2.1 (C.2.2.2.2.1 _ q1) (C.2.2.2.2.1 _ q2) (C.2.2.2.2.1 _ q3) (C.2.2.2.2.1 _ q4) C.2.2.2.2.2.2.2 hw.1 hw.2.1 hw.2.2 k0 k1 1 1 he0 he1 rfl rfl rfl (oi_n h1 (by omega)) (oi_n h2 (by omega)) (oi_n h3 (by omega)) (by rw [e1, e3]; omega) (by rw [e2, e3]; omega) (fun _ _ => rfl) hfr hlo hd (fun H1 locs1 hP hD hS => kk H1 locs1 ?_)
  rw [e1, e2, e3, cpy_l h1 h2 h3] at hP hD
  have hP : va_P D vwCl ((wo cA h σ 0 K).set k1 (h k1, .inl (cA .long, n1, ear .long (cpy σ k0 sp k1 dp n k1)))) H1 := hP
  have hD : va_D A ((wo cA h σ 0 K).set k1 (h k1, .inl (cA .long, n1, ear .long (cpy σ k0 sp k1 dp n k1)))) := hD
  rw [wd_cpy hk1 (fun k hk => cpy_ne k hk) rfl] at hP hD
  exact ⟨hP, hD, hS⟩
end
end
section
/-! making objects: the cells grow -/
def hs (h : Nat → Nat) (n q : Nat) : Nat → Nat := fun i => if i = n then q else h i
def zr (σ : St) (n : Nat) : St := fun k => if k = n then fun _ => 0 else σ k
def hj (h : Nat → Nat) (k : Nat) (h' : Nat → Nat) : Nat → Nat := fun i => if i ≤ k then h i else h' (i - k)
def sj (σ : St) (k : Nat) (σ' : St) : St := fun i => if i < k then σ i else σ' (i - k)
def sk (σ : St) (k : Nat) : St := fun i => σ (k + i)
def hk_ (h : Nat → Nat) (k : Nat) : Nat → Nat := fun i => h (k + i)
def shF (k : Nat) (fd : Option (Option Nat)) : Option (Option Nat) := fd.map fun o => o.map fun i => i + k
def shK (k : Nat) : Kd → Kd
  | .inl o => .inl (o.1, o.2.map (shF k))
  | .inr (.inl a) => .inr (.inl a)
  | .inr (.inr a) => .inr (.inr (a.1, a.2.map fun o => o.map fun i => i + k))
def rfOK (n : Nat) : Kd → Bool
  | .inl o => o.2.all fun f => match f with | some (some k) => decide (k < n) | _ => true
  | .inr (.inl _) => true
  | .inr (.inr a) => a.2.all fun f => match f with | some k => decide (k < n) | none => true
def clK (K : List Kd) (n : Nat) : Bool := K.all (rfOK n)
theorem fvs_hcong {h h' : Nat → Nat} {f : Int → Int} {n : Nat} (e : ∀ i, i < n → h' i = h i) : ∀ (fd : List (Option (Option Nat))) (j0 : Nat), (fd.all fun f => match f with | some (some k) => decide (k < n) | _ => true) = true → fvs h' f j0 fd = fvs h f j0 fd
  | [], _, _ => rfl
  | a :: r, j0, hr => by
    rw [List.all_cons, Bool.and_eq_true] at hr
    have h1 := fvs_hcong (f := f) e r (j0 + 1) hr.2
    rcases a with _ | _ | k
    · simp only [fvs, h1]
    · simp only [fvs, h1]
    · have : k < n := by simpa using hr.1
      simp only [fvs, h1, e k this]
theorem ent_hcong {cA : FieldType → ClassId} {h h' : Nat → Nat} {f : Int → Int} {n : Nat} (e : ∀ i, i < n → h' i = h i) (kd : Kd) (hr : rfOK n kd = true) : ent cA h' f kd = ent cA h f kd := by
  rcases kd with o | a | a
  · simp only [ent, fvs_hcong e o.2 0 hr]
  · rfl
  · simp only [ent]
    have : (fun i => (a.2.getD i none).map h') = fun i => (a.2.getD i none).map h := by
      funext i
      cases q : a.2[i]? with
      | none => simp [List.getD_eq_getElem?_getD, q]
      | some o =>
        cases o with
        | none => simp [List.getD_eq_getElem?_getD, q]
        | some k =>
          have hm := List.all_eq_true.mp hr _ (List.mem_of_getElem? q)
          have : k < n := by simpa using hm
          simp [List.getD_eq_getElem?_getD, q, e k this]
    rw [this]
theorem wo_hcong {cA : FieldType → ClassId} {h h' : Nat → Nat} {σ σ' : St} {n : Nat} (e : ∀ i, i < n → h' i = h i) (es : ∀ i, i < n → σ' i = σ i) : ∀ (K : List Kd) (k0 : Nat), k0 + K.length ≤ n → clK K n = true → wo cA h' σ' k0 K = wo cA h σ k0 K
  | [], _, _, _ => rfl
  | kd :: r, k0, hl, hc => by
    simp only [clK, List.all_cons, Bool.and_eq_true] at hc
    simp only [List.length_cons] at hl
    simp only [wo]
    rw [wo_hcong e es r (k0 + 1) (by omega) hc.2, e k0 (by omega), es k0 (by omega), ent_hcong e kd hc.1]
theorem wo_app {cA : FieldType → ClassId} {h : Nat → Nat} {σ : St} : ∀ (K K2 : List Kd) (k0 : Nat), wo cA h σ k0 (K ++ K2) = wo cA h σ k0 K ++ wo cA h σ (k0 + K.length) K2
  | [], _, _ => rfl
  | kd :: r, K2, k0 => by
    have := wo_app (cA := cA) (h := h) (σ := σ) r K2 (k0 + 1)
    rw [show k0 + 1 + r.length = k0 + (r.length + 1) by omega] at this
    simp only [List.cons_append, wo, this, List.length_cons]
theorem wo_one {cA : FieldType → ClassId} {h : Nat → Nat} {σ : St} {K : List Kd} {kd : Kd} {q : Nat} (hc : clK K K.length = true) (hr : rfOK 0 kd = true) : wo cA (hs h K.length q) (zr σ K.length) 0 (K ++ [kd]) = wo cA h σ 0 K ++ [(q, ent cA (hs h K.length q) (fun _ => 0) kd)] := by
  rw [wo_app, wo_hcong (h := h) (h' := hs h K.length q) (σ := σ) (σ' := zr σ K.length) (n := K.length) (fun i hi => by simp [hs]; omega) (fun i hi => by simp [zr]; omega) K 0 (by omega) hc]
  simp [wo, hs, zr]
def ndf (ty : FieldType) : Prop := ty = .int ∨ ty = .byte ∨ ty = .boolean ∨ ty = .long
theorem ndf_cell {ty : FieldType} (ht : ndf ty) {c : ClassId} {N : Nat} : vp_cell c (N, ear ty (fun _ => 0)) = arrV c N (fun _ => defaultValue ty) := by
  rcases ht with rfl | rfl | rfl | rfl <;> rfl
theorem ndf_ty {ty : FieldType} (ht : ndf ty) {D : va_G} {cA : FieldType → ClassId} {s : State} (hK : va_K D vwCl (tyL cA) s) {c : ClassId} (hc : s.vm.findClass ("[" ++ ty.toString) = some c) : c = cA ty := by
  rcases ht with rfl | rfl | rfl | rfl
  · exact Option.some.inj (hc.symm.trans (hK.2 0 _ rfl).2)
  · exact Option.some.inj (hc.symm.trans (hK.2 2 _ rfl).2)
  · exact Option.some.inj (hc.symm.trans (hK.2 3 _ rfl).2)
  · exact Option.some.inj (hc.symm.trans (hK.2 1 _ rfl).2)
section
variable {p : Program} {l : Launch} {e : Env} {R : Room} {s : State} {m : MethodId} {args : Array Value} {below : List Frame} {meth : Method} {c : Code} {H : Heap} {locs : List Loc} {cells slots : Nat} {Q : State → Prop} {pc : Nat} {ls : Array Slot} {st st0 : List Value}
variable {ws : List Cond} {own : String} {cc : ByteArray} {nL : Nat} {ret : Option FieldType} {D : va_G} {cA : FieldType → ClassId} {K : List Kd} {h : Nat → Nat} {σ : St} {A : Nat → Prop} {H0 : Heap} {vl : List (Option Value)}
theorem r_newarr (C : cx p s m args meth c ws own cc nL ret D cA) (hw : wd D cA K h σ A H0 H locs) (hA : ∀ q, H0.size ≤ q → A q) (hcl : clK K K.length = true) {aty : ArrayType} {ty : FieldType} (hty : newarray.typeOf aty = ty) (ht : ndf ty) (harr : Cond.arrayClass ty ∈ ws) {a : Int} (N : Nat) (ha : a = (N : Int)) (hN : Nat.ble (N + 1) 1000000 = true) (hc : cells + 1 ≤ R.cells) (hs_ : slots + N ≤ R.slots) (hd : decode cc pc = .ok (.newarray aty, 2))
    (kk : ∀ (q : Nat) (H1 : Heap), wd D cA (K ++ [.inr (.inl (ty, N))]) (hs h K.length q) (zr σ K.length) A H0 H1 locs → W p l e R s m args below meth c H1 locs (cells + 1) (slots + N) Q (F0 m (pc + 2) ls (.ref q :: st))) : W p l e R s m args below meth c H locs cells slots Q (F0 m pc ls (iv a :: st)) := by
  subst hty
  have hN' : N < 1000000 := Nat.le_of_ble_eq_true hN
  subst ha
  have hbytes : N * componentBytes (newarray.typeOf aty) ≤ 536870912 := by
    rcases ht with e | e | e | e <;> rw [e] <;> simp [componentBytes] <;> omega
  refine va_newaK (n := Int32.ofInt N) (N := N) C.1 C.2.1 (C.2.2.2.2.1 _ harr) rfl hd rfl (oi_n (by omega) (by omega)) (by rw [oi_cl (by omega) (by omega)]; omega) hbytes hc hs_ rfl fun H1 cA' e1 z1 o1 hAr hNm => ?_
  have e0 := ndf_ty ht C.2.2.2.2.2.2.2 hNm
  subst e0
  have hk : ∀ (k : Nat) (x : Nat × va_E), (wo cA h σ 0 K)[k]? = some x → H1[x.1]? = H[x.1]? := fun k x hx => o1 x.1 ((hw.1 k x hx).lt)
  have hP1 : va_P D vwCl (wo cA h σ 0 K ++ [(H.size, ent cA (hs h K.length H.size) (fun _ => 0) (.inr (.inl (newarray.typeOf aty, N))))]) H1 := by
    refine (hw.1.kept hk).app (fun k x hx => ?_)
    have hz : k < 1 := (List.getElem?_eq_some_iff.mp hx).1
    rw [show k = 0 by omega] at hx
    cases hx
    show H1[H.size]? = some (vp_cell _ (N, ear (newarray.typeOf aty) (fun _ => 0)))
    rw [ndf_cell ht]; exact e1
  refine kk H.size H1 ⟨?_, ?_, ?_⟩
  · rw [wo_one hcl rfl]; exact hP1
  · rw [wo_one hcl rfl]; exact hw.2.1.push hw.1 rfl (hA _ hw.2.2.1)
  · exact ⟨Nat.le_trans hw.2.2.1 (by omega), fun x h1 h2 => (o1 x (Nat.lt_of_lt_of_le h1 hw.2.2.1)).trans (hw.2.2.2.1 x h1 h2), hw.2.2.2.2⟩
theorem r_newq (C : cx p s m args meth c ws own cc nL ret D cA) (hw : wd D cA K h σ A H0 H locs) (hA : ∀ q, H0.size ≤ q → A q) (hcl : clK K K.length = true) (hover : va_AO "BellTouches$Tape" s) {ix : Nat} (hcl2 : Cond.classLink own ix "BellTouches$Tape" ∈ ws) {a : Int} (N : Nat) (ha : a = (N : Int)) (hN : Nat.ble (N + 1) 1000000 = true) (hc : cells + 1 ≤ R.cells) (hs_ : slots + N ≤ R.slots) (hd : decode cc pc = .ok (.anewarray ix, 3))
    (kk : ∀ (q : Nat) (H1 : Heap), wd D cA (K ++ [.inr (.inr ("BellTouches$Tape", List.replicate N none))]) (hs h K.length q) (zr σ K.length) A H0 H1 locs → W p l e R s m args below meth c H1 locs (cells + 1) (slots + N) Q (F0 m (pc + 3) ls (.ref q :: st))) : W p l e R s m args below meth c H locs cells slots Q (F0 m pc ls (iv a :: st)) := by
  have hN' : N < 1000000 := Nat.le_of_ble_eq_true hN
  subst ha
  refine va_newq (D := D) (n := Int32.ofInt N) (N' := N) C.1 C.2.1 C.2.2.2.1 (C.2.2.2.2.1 _ hcl2) hover C.2.2.2.2.2.2.2 hw.1 hw.2.1 hw.2.2 hA (oi_n (by omega) (by omega)) (by rw [oi_cl (by omega) (by omega)]; omega) (by omega) hc hs_ hd fun q cA' H1 hK1 hP1 hD1 hS1 => ?_
  have r1 := (hK1.2 5 _ rfl).2
  have r2 := (C.2.2.2.2.2.2.2.2 4 _ rfl).2
  obtain ⟨k1, c1, a1, a2, a3, a4⟩ := r1
  obtain ⟨k2, c2, b1, b2, b3, b4⟩ := r2
  have e0 : cA' = cA (.object "BellTouches$Tape") := Option.some.inj (a4.symm.trans b4)
  subst e0
  have hrf : rfOK 0 (.inr (.inr ("BellTouches$Tape", List.replicate N none))) = true := by simp [rfOK]
  have he : (ent cA (hs h K.length q) (fun _ => 0) (.inr (.inr ("BellTouches$Tape", List.replicate N none)))) = .inl (cA (.object "BellTouches$Tape"), N, .inr (.inr (.inr (.inr (fun _ => none))))) := by
    simp only [ent, List.length_replicate]
    congr 7
    funext i
    simp [List.getD_eq_getElem?_getD, List.getElem?_replicate]
    split <;> rfl
  refine kk q H1 ⟨?_, ?_, hS1⟩
  · rw [wo_one hcl hrf, he]; exact hP1
  · rw [wo_one hcl hrf, he]; exact hD1
theorem r_new (C : cx p s m args meth c ws own cc nL ret D cA) (hw : wd D cA K h σ A H0 H locs) (hA : ∀ q, H0.size ≤ q → A q) (hcl : clK K K.length = true) {ci : Nat} {Cn : String} {T : u_T} {N : Nat} {ty : Nat → FieldType} (hc0 : clo ci Cn T N ty) (fds : List (Option (Option Nat))) (hrf : rfOK 0 (.inl (ci, fds)) = true) (hdf : ∀ (h : Nat → Nat) (j : Nat), j < N → defaultValue (ty j) = vp_V (fvs h (fun _ => 0) 0 fds) j) {ix : Nat} (hin : ∀ w ∈ u_ws Cn T N, w ∈ ws) (q1 : Cond.classLink own ix Cn ∈ ws) (q2 : Cond.instantiable Cn N ∈ ws) (q3 : Cond.initialized Cn ∈ ws) (hc : cells + 1 ≤ R.cells) (hs_ : slots + N ≤ R.slots) (hd : decode cc pc = .ok (.new ix, 3))
    (kk : ∀ (q : Nat) (H1 : Heap), wd D cA (K ++ [.inl (ci, fds)]) (hs h K.length q) (zr σ K.length) A H0 H1 locs → W p l e R s m args below meth c H1 locs (cells + 1) (slots + N) Q (F0 m (pc + 3) ls (.ref q :: st))) : W p l e R s m args below meth c H locs cells slots Q (F0 m pc ls st) := by
  refine va_new (D := D) (fs := fvs h (fun _ => 0) 0 fds) C.1 C.2.1 C.2.2.2.2.1 hin ty hc0.2.1 C.2.2.2.1 (C.2.2.2.2.1 _ q1) (C.2.2.2.2.1 _ q2) (C.2.2.2.2.1 _ q3) C.2.2.2.2.2.2.2 hw.1 hw.2.1 hw.2.2 hA hc0.1 (hdf h) hc hs_ hd fun q H1 hP1 hD1 hS1 => ?_
  have he : ent cA (hs h K.length q) (fun _ => 0) (.inl (ci, fds)) = .inr (ci, fvs h (fun _ => 0) 0 fds) := by
    rw [ent_hcong (h := h) (h' := hs h K.length q) (n := 0) (fun i hi => by omega) _ hrf]; rfl
  refine kk q H1 ⟨?_, ?_, hS1⟩
  · rw [wo_one hcl hrf, he]; exact hP1
  · rw [wo_one hcl hrf, he]; exact hD1
theorem fvs_setr {h : Nat → Nat} {f : Int → Int} {r : Nat} : ∀ (fd : List (Option (Option Nat))) (j0 j : Nat), j < fd.length → (fvs h f j0 fd).set j (.ref (h r)) = fvs h f j0 (fd.set j (some (some r)))
  | [], _, _, e => by simp at e
  | a :: t, j0, 0, e => by rcases a with _ | _ | k <;> rfl
  | a :: t, j0, j + 1, e => by
    have h1 := fvs_setr (h := h) (f := f) (r := r) t (j0 + 1) j (by simpa using e)
    rcases a with _ | _ | k <;> simp only [fvs, List.set_cons_succ, h1]
theorem wo_setK {cA : FieldType → ClassId} {h : Nat → Nat} {σ : St} : ∀ (K : List Kd) (k0 i : Nat) (kd : Kd), i < K.length → (wo cA h σ k0 K).set i (h (k0 + i), ent cA h (σ (k0 + i)) kd) = wo cA h σ k0 (K.set i kd)
  | [], _, i, _, e => by simp at e
  | c :: r, k0, 0, kd, _ => rfl
  | c :: r, k0, i + 1, kd, e => by
    have := wo_setK (cA := cA) (h := h) (σ := σ) r (k0 + 1) i kd (by simpa using e)
    rw [show k0 + 1 + i = k0 + (i + 1) by omega] at this
    simp only [wo, List.set_cons_succ, this]
theorem r_putr (C : cx p s m args meth c ws own cc nL ret D cA) (hw : wd D cA K h σ A H0 H locs) {ci : Nat} {Cn : String} {T : u_T} {N : Nat} {ty : Nat → FieldType} (hc : clo ci Cn T N ty) (k : Nat) {fds : List (Option (Option Nat))} (hk : K[k]? = some (.inl (ci, fds))) (j r : Nat) (hj : j < fds.length) (hN : j < N) {ix : Nat} (hin : ∀ w ∈ u_ws Cn T N, w ∈ ws) (hlink : Cond.fieldLink own ix (T j).1 (T j).2.1 (T j).2.2.1 ∈ ws) (hfin : (T j).2.2.2 = true) (hin2 : meth.name = "<init>") (hdecl : (T j).1 = own) (hty : narrow (ty j) (.ref (h r)) = .ref (h r) ∧ fits (ty j) (.ref (h r)) = true) (hd : decode cc pc = .ok (.putfield ix, 3))
    (kk : ∀ (H1 : Heap) (locs1 : List Loc), wd D cA (K.set k (.inl (ci, fds.set j (some (some r))))) h σ A H0 H1 locs1 → W p l e R s m args below meth c H1 locs1 cells slots Q (F0 m (pc + 3) ls st)) : W p l e R s m args below meth c H locs cells slots Q (F0 m pc ls (.ref (h r) :: .ref (h k) :: st)) := by
  have he := wo_get (cA := cA) (h := h) (σ := σ) K 0 k _ hk
  rw [Nat.zero_add] at he
  have hkl : k < K.length := (List.getElem?_eq_some_iff.mp hk).1
  refine va_putF (D := D) C.1 C.2.1 C.2.2.2.2.1 hin ty hc.2.1 hc.2.2 C.2.2.2.1 C.2.2.2.2.2.2.2 hw.1 hw.2.1 hw.2.2 k he hc.1 j hN (C.2.2.2.2.1 _ hlink) (fun _ h9 => h9) hfin hin2 hdecl (hc.2.1 j hN) hty.1 hty.2 ?_ hd (fun H1 locs1 hP hD hS => kk H1 locs1 ?_)
  · rw [fvs_len]; exact hj
  · rw [fvs_setr fds 0 j hj] at hP hD
    have e1 := wo_setK (cA := cA) (h := h) (σ := σ) K 0 k (.inl (ci, fds.set j (some (some r)))) hkl
    rw [Nat.zero_add] at e1
    have hP : va_P D vwCl ((wo cA h σ 0 K).set k (h k, ent cA h (σ k) (.inl (ci, fds.set j (some (some r)))))) H1 := hP
    have hD : va_D A ((wo cA h σ 0 K).set k (h k, ent cA h (σ k) (.inl (ci, fds.set j (some (some r)))))) := hD
    rw [e1] at hP hD
    exact ⟨hP, hD, hS⟩
theorem r_aast (C : cx p s m args meth c ws own cc nL ret D cA) (hw : wd D cA K h σ A H0 H locs) (k : Nat) {rs : List (Option Nat)} (hk : K[k]? = some (.inr (.inr ("BellTouches$Tape", rs)))) (r : Nat) {fds : List (Option (Option Nat))} (hr : K[r]? = some (.inl (5, fds))) (i : Nat) {a : Int} (ha : a = (i : Int)) (hi : i < rs.length) (hn : Nat.ble (rs.length + 1) 2147483648 = true) (hd : decode cc pc = .ok (.aastore, 1))
    (kk : ∀ (H1 : Heap) (locs1 : List Loc), wd D cA (K.set k (.inr (.inr ("BellTouches$Tape", rs.set i (some r))))) h σ A H0 H1 locs1 → W p l e R s m args below meth c H1 locs1 cells slots Q (F0 m (pc + 1) ls st)) : W p l e R s m args below meth c H locs cells slots Q (F0 m pc ls (.ref (h r) :: iv a :: .ref (h k) :: st)) := by
  have he := wo_get (cA := cA) (h := h) (σ := σ) K 0 k _ hk
  have hv := wo_get (cA := cA) (h := h) (σ := σ) K 0 r _ hr
  rw [Nat.zero_add] at he hv
  have hkl : k < K.length := (List.getElem?_eq_some_iff.mp hk).1
  have hn' : rs.length < 2147483648 := Nat.le_of_ble_eq_true hn
  subst ha
  refine va_astq (D := D) (i := Int32.ofInt i) (f := fun i => (rs.getD i none).map h) (r := (RX6, TX6, 3)) C.1 C.2.1 C.2.2.2.2.2.2.2 hw.1 hw.2.1 hw.2.2 k 4 r 5 he rfl hv rfl (oi_in (by omega) (show (i : Int) < ((rs.length : Nat) : Int) by omega) hn') hd (fun H1 locs1 hP hD hS => kk H1 locs1 ?_)
  rw [oi_cl (by omega) (by omega), Int.toNat_natCast] at hP hD
  have e1 := wo_setK (cA := cA) (h := h) (σ := σ) K 0 k (.inr (.inr ("BellTouches$Tape", rs.set i (some r)))) hkl
  rw [Nat.zero_add] at e1
  have e2 : (va_up (fun i => (rs.getD i none).map h) i (some (h r))) = fun j => ((rs.set i (some r)).getD j none).map h := by
    funext j
    by_cases q : j = i
    · subst q; simp [va_up, List.getD_eq_getElem?_getD, hi]
    · simp [va_up, q, List.getD_eq_getElem?_getD, List.getElem?_set_ne (fun z => q z.symm)]
  have e3 : ent cA h (σ k) (.inr (.inr ("BellTouches$Tape", rs.set i (some r)))) = .inl (cA (.object "BellTouches$Tape"), rs.length, .inr (.inr (.inr (.inr (va_up (fun i => (rs.getD i none).map h) i (some (h r))))))) := by
    simp only [ent, List.length_set, e2]
  rw [e3] at e1
  rw [e1] at hP hD
  exact ⟨hP, hD, hS⟩
end
/-- what a constructor takes beside the tables' words -/
def nwF (U : State) : Prop := va_AO "BellTouches$Tape" U ∧ va_Nw (.methodLinkNest RX8 13 yX4_init RX8) U ∧ va_Nw (.methodLinkNest RX8 26 yX7_init RX8) U ∧ va_Nw (.methodLinkNest RX8 36 yX0_init RX8) U ∧ va_Nw (.methodLinkNest RX8 43 yX5_init RX8) U ∧ va_Nw (.methodLinkNest RX8 61 yX6_init RX8) U ∧ va_Nw (.methodLinkNest RX7 33 yX3_init RX8) U ∧ va_Nw (.methodLinkNest RX0 20 yX7_init RX8) U ∧ va_Nw (.methodLinkNest RX0 27 yX3_init RX8) U
theorem nwF.warm {s U : State} (hW : s.WarmedH U.vm) (h : nwF s) : nwF U :=
  ⟨va_AO.moved hW.alike h.1, va_Nw.warmM hW h.2.1, va_Nw.warmM hW h.2.2.1, va_Nw.warmM hW h.2.2.2.1, va_Nw.warmM hW h.2.2.2.2.1, va_Nw.warmM hW h.2.2.2.2.2.1, va_Nw.warmM hW h.2.2.2.2.2.2.1, va_Nw.warmM hW h.2.2.2.2.2.2.2.1, va_Nw.warmM hW h.2.2.2.2.2.2.2.2⟩
theorem nwF.same {s U : State} (e : s.vm = U.vm) (h : nwF s) : nwF U :=
  ⟨va_AO.moved (by rw [e]; exact Vm.Alike.refl _) h.1, va_Nw.same rfl e h.2.1, va_Nw.same rfl e h.2.2.1, va_Nw.same rfl e h.2.2.2.1, va_Nw.same rfl e h.2.2.2.2.1, va_Nw.same rfl e h.2.2.2.2.2.1, va_Nw.same rfl e h.2.2.2.2.2.2.1, va_Nw.same rfl e h.2.2.2.2.2.2.2.1, va_Nw.same rfl e h.2.2.2.2.2.2.2.2⟩
def preN (D : va_G) (cA : FieldType → ClassId) (K : List Kd) (h : Nat → Nat) (σ : St) (sz : Nat) : State → Prop := fun U => preS D cA K h σ sz U ∧ nwF U
theorem preN_blind {D : va_G} {cA : FieldType → ClassId} {K : List Kd} {h : Nat → Nat} {σ : St} {sz : Nat} {As : List Value} : FrameBlind (va_Pc As (preN D cA K h σ sz)) := fun a U g mk q => by
  obtain ⟨q0, ⟨q1, qP, qK, qD⟩, qN⟩ := q
  exact ⟨q0, ⟨q1, qP, va_K.moved (u := U) (U := U.calling g mk a) (Vm.Alike.refl U.vm) qK, qD⟩, nwF.same rfl qN⟩
/-- a constructor's end: the new object's cells K1 at h' hold σ' -/
def QC (D : va_G) (cA : FieldType → ClassId) (K1 : List Kd) (h : Nat → Nat) (sz : Nat) (post : St → Prop) : Array Value → State → Outcome → State → Prop := va_Qv (fun (u : (Nat → Nat) × St) => u.1 0 = h 0 ∧ post u.2) (fun u t => va_P D vwCl (wo cA u.1 u.2 0 K1) t.heap ∧ va_D (aA 1 h sz) (wo cA u.1 u.2 0 K1)) (aA 1 h sz)
theorem fvs_sh {h h' : Nat → Nat} {f : Int → Int} {k : Nat} (h0 : h' 0 = h k) : ∀ (fd : List (Option (Option Nat))) (j0 : Nat), fvs (hj h k h') f j0 (fd.map (shF k)) = fvs h' f j0 fd
  | [], _ => rfl
  | a :: r, j0 => by
    have h1 := fvs_sh (f := f) h0 r (j0 + 1)
    have e : ∀ i, hj h k h' (i + k) = h' i := fun i => by
      simp only [hj]
      by_cases q : i = 0
      · subst q; rw [if_pos (by omega), Nat.zero_add]; exact h0.symm
      · rw [if_neg (by omega)]; congr 1; omega
    rcases a with _ | _ | i <;> simp only [List.map_cons, shF, fvs, Option.map_none, Option.map_some, h1, e]
theorem ent_sh {cA : FieldType → ClassId} {h h' : Nat → Nat} {f : Int → Int} {k : Nat} (h0 : h' 0 = h k) (kd : Kd) : ent cA (hj h k h') f (shK k kd) = ent cA h' f kd := by
  rcases kd with o | a | a
  · simp only [shK, ent, fvs_sh h0]
  · rfl
  · simp only [shK, ent, List.length_map]
    congr 7
    funext i
    simp only [List.getD_eq_getElem?_getD, List.getElem?_map]
    cases a.2[i]? with
    | none => rfl
    | some o =>
      cases o with
      | none => rfl
      | some r =>
        simp only [Option.map_some, Option.getD_some, hj]
        by_cases q : r = 0
        · subst q; rw [if_pos (by omega), Nat.zero_add, h0]
        · rw [if_neg (by omega)]; congr 2; omega
theorem wo_sh {cA : FieldType → ClassId} {h h' : Nat → Nat} {σ σ' : St} {k : Nat} (h0 : h' 0 = h k) : ∀ (K : List Kd) (i0 : Nat), wo cA (hj h k h') (sj σ k σ') (k + i0) (K.map (shK k)) = wo cA h' σ' i0 K
  | [], _ => rfl
  | kd :: r, i0 => by
    have h1 := wo_sh (cA := cA) (σ := σ) (σ' := σ') h0 r (i0 + 1)
    have e1 : hj h k h' (k + i0) = h' i0 := by
      simp only [hj]
      by_cases q : i0 = 0
      · subst q; rw [if_pos (by omega), Nat.add_zero]; exact h0.symm
      · rw [if_neg (by omega)]; congr 1; omega
    have e2 : sj σ k σ' (k + i0) = σ' i0 := by
      simp only [sj]
      rw [if_neg (by omega)]; congr 1; omega
    simp only [List.map_cons, wo]
    rw [e1, e2, ent_sh h0, show k + i0 + 1 = k + (i0 + 1) by omega, h1]
section
variable {p : Program} {l : Launch} {e : Env} {R : Room} {s : State} {m : MethodId} {args : Array Value} {below : List Frame} {meth : Method} {c : Code} {H : Heap} {locs : List Loc} {cells slots : Nat} {Q : State → Prop} {pc : Nat} {ls : Array Slot} {st st0 : List Value}
variable {ws : List Cond} {own : String} {cc : ByteArray} {nL : Nat} {ret : Option FieldType} {D : va_G} {cA : FieldType → ClassId} {K0 K1 : List Kd} {kd : Kd} {h : Nat → Nat} {σ : St} {A : Nat → Prop} {H0 : Heap} {vl : List (Option Value)}
theorem wd_last (hw : wd D cA (K0 ++ [kd]) h σ A H0 H locs) (hrf : rfOK 0 kd = true) : va_P D vwCl (wo cA (hk_ h K0.length) (sk σ K0.length) 0 [kd]) H := by
  intro i q hq
  obtain ⟨kd', h1, h2⟩ := wo_inv [kd] 0 i q hq
  have hi : i = 0 := by have := (List.getElem?_eq_some_iff.mp h1).1; simp at this; exact this
  subst hi
  simp at h1; subst h1
  have h3 : (K0 ++ [kd])[K0.length]? = some kd := by simp
  have h4 := hw.1 _ _ (wo_get (K0 ++ [kd]) 0 K0.length _ h3)
  rw [Nat.zero_add] at h4 h2
  subst h2
  rw [show ent cA (hk_ h K0.length) (sk σ K0.length 0) kd = ent cA h (σ K0.length) kd by
    rw [ent_hcong (h := h) (h' := hk_ h K0.length) (n := 0) (fun i hi => by omega) _ hrf]; rfl]
  exact h4
theorem r_ctor (C : cx p s m args meth c ws own cc nL ret D cA) (hw : wd D cA (K0 ++ [kd]) h σ A s.heap H locs) (hA : ∀ q, s.heap.size ≤ q → A q) (hcl : clK K0 K0.length = true) (hrf : rfOK 0 kd = true) {mc ms : Nat} {post : St → Prop} {a : Array Value}
    (hr : va_Run p l e R s m args below meth c H locs cells slots mc ms (F0 m pc ls st0) st (QC D cA K1 (hk_ h K0.length) H.size post a) (aA 1 (hk_ h K0.length) H.size))
    (k : ∀ (h' : Nat → Nat) (σ' : St) (H1 : Heap) (locs1 : List Loc), post σ' → wd D cA (K0 ++ K1.map (shK K0.length)) (hj h K0.length h') (sj σ K0.length σ') A s.heap H1 locs1 → W p l e R s m args below meth c H1 locs1 (cells + mc) (slots + ms) Q (F0 m (pc + 3) ls st)) : W p l e R s m args below meth c H locs cells slots Q (F0 m pc ls st0) := by
  have h3 : (K0 ++ [kd])[K0.length]? = some kd := by simp
  have hlast := wo_get (cA := cA) (h := h) (σ := σ) (K0 ++ [kd]) 0 K0.length _ h3
  have hsub : ∀ q, aA 1 (hk_ h K0.length) H.size q → A q := by
    rintro q (⟨i, hi, rfl⟩ | hq)
    · have : i = 0 := by omega
      subst this
      have := hw.2.1.2 _ _ hlast
      rw [Nat.zero_add] at this
      exact this
    · exact hA q (Nat.le_trans hw.2.2.1 hq)
  refine va_callv hr hw.2.2 (fun q _ hq => hsub q hq) hsub (fun u t H1 locs1 ht hvm hp hB hz hk hS => ?_)
  subst ht
  obtain ⟨h0, hp⟩ := hp
  have h0' : u.1 0 = h K0.length := h0
  refine k u.1 u.2 _ locs1 hp ⟨?_, ?_, hS⟩
  all_goals rw [wo_app, Nat.zero_add]; rw [show wo cA (hj h K0.length u.1) (sj σ K0.length u.2) K0.length (K1.map (shK K0.length)) = wo cA u.1 u.2 0 K1 from by simpa using wo_sh (cA := cA) (σ := σ) (σ' := u.2) h0' K1 0]; rw [wo_hcong (h := h) (h' := hj h K0.length u.1) (σ := σ) (σ' := sj σ K0.length u.2) (n := K0.length) (fun i hi => by simp only [hj]; rw [if_pos (by omega)]) (fun i hi => by simp only [sj]; rw [if_pos hi]) K0 0 (by omega) hcl]
  · refine va_P.app (fun i q hq => ?_) hB.1
    have hq2 : (wo cA h σ 0 (K0 ++ [kd]))[i]? = some q := by
      rw [wo_app, List.getElem?_append_left (List.getElem?_eq_some_iff.mp hq).1]; exact hq
    have h5 := hw.1 i q hq2
    refine h5.kept (hk _ h5.lt ?_)
    rintro (⟨z, hz1, hz2⟩ | hz2)
    · have : z = 0 := by omega
      subst this
      have h6 := hw.2.1.1 i K0.length _ _ hq2 hlast (by rw [Nat.zero_add]; exact hz2)
      have h7 := (List.getElem?_eq_some_iff.mp hq).1
      have h8 : (wo cA h σ 0 K0).length = K0.length := by
        have : ∀ (K : List Kd) (k0 : Nat), (wo cA h σ k0 K).length = K.length := by
          intro K; induction K with
          | nil => intro k0; rfl
          | cons x r ih => intro k0; simp [wo, ih]
        exact this K0 0
      omega
    · exact absurd h5.lt (Nat.not_lt.mpr hz2)
  · refine va_D.app ?_ (hB.2.weaken (fun _ q _ hq => hsub q.1 hq)) (fun i j q1 q2 e1 e2 e3 => ?_)
    · refine ⟨fun i j q1 q2 e1 e2 e3 => ?_, fun i q1 e1 => ?_⟩
      · refine hw.2.1.1 i j q1 q2 ?_ ?_ e3
        · rw [wo_app, List.getElem?_append_left (List.getElem?_eq_some_iff.mp e1).1]; exact e1
        · rw [wo_app, List.getElem?_append_left (List.getElem?_eq_some_iff.mp e2).1]; exact e2
      · refine hw.2.1.2 i q1 ?_
        rw [wo_app, List.getElem?_append_left (List.getElem?_eq_some_iff.mp e1).1]; exact e1
    · have hq2 : (wo cA h σ 0 (K0 ++ [kd]))[i]? = some q1 := by
        rw [wo_app, List.getElem?_append_left (List.getElem?_eq_some_iff.mp e1).1]; exact e1
      have h5 := (hw.1 i q1 hq2).lt
      rcases hB.2.2 j q2 e2 with ⟨z, hz1, hz2⟩ | hz2
      · have : z = 0 := by omega
        subst this
        have h6 := hw.2.1.1 i K0.length _ _ hq2 hlast (by rw [Nat.zero_add]; exact e3.trans hz2)
        have h7 := (List.getElem?_eq_some_iff.mp e1).1
        have h8 : (wo cA h σ 0 K0).length = K0.length := by
          have : ∀ (K : List Kd) (k0 : Nat), (wo cA h σ k0 K).length = K.length := by
            intro K; induction K with
            | nil => intro k0; rfl
            | cons x r ih => intro k0; simp [wo, ih]
          exact this K0 0
        omega
      · rw [e3] at h5; omega
theorem preN_of (C : cx p s m args meth c ws own cc nL ret D cA) (hw : wd D cA (K0 ++ [kd]) h σ A s.heap H locs) (hrf : rfOK 0 kd = true) (hN : nwF s) {U : State} (hU : U.heap = H) (hW : s.WarmedH U.vm) : preN D cA [kd] (hk_ h K0.length) (sk σ K0.length) H.size U := by
  refine ⟨⟨by rw [hU], by rw [hU]; exact wd_last hw hrf, va_K.moved hW.alike C.2.2.2.2.2.2.2, ⟨fun i j q1 q2 e1 e2 e3 => ?_, fun _ _ _ => trivial⟩⟩, nwF.warm hW hN⟩
  have h1 := (List.getElem?_eq_some_iff.mp e1).1
  have h2 := (List.getElem?_eq_some_iff.mp e2).1
  simp [wo] at h1 h2
  omega
theorem run_i (C : cx p s m args meth c ws own cc nL ret D cA) (hw : wd D cA (K0 ++ [kd]) h σ A s.heap H locs) (hrf : rfOK 0 kd = true) (hN : nwF s) {y : MethodName} {ws' : List Cond} {rm' : Room} {As : List Value} {Qc : Array Value → State → Outcome → State → Prop} {ix n maxL mc ms : Nat} {bytes : ByteArray}
    (hM : Met l y ws' rm' (va_Pc (.ref (hk_ h K0.length 0) :: As) (preN D cA [kd] (hk_ h K0.length) (sk σ K0.length) H.size)) Qc mc ms (aA 1 (hk_ h K0.length) H.size)) (cw : CallB R s args own ix y bytes maxL none ws' rm' mc ms n ∧ y.name = "<init>" ∧ (Cond.instanceMethod y).before args s = true) (hn : As.length = n) (hst : st0 = As.reverse ++ .ref (hk_ h K0.length 0) :: st) (hcat : Nat.ble (st.map fun v => v.category).sum 8 = true) (hl : lh ls nL vl) (hd : decode cc pc = .ok (.invokespecial ix, 3)) (hf : cells + mc ≤ R.cells ∧ slots + ms ≤ R.slots) :
    va_Run p l e R s m args below meth c H locs cells slots mc ms (F0 m pc ls st0) st (Qc (Value.ref (hk_ h K0.length 0) :: As).toArray) (aA 1 (hk_ h K0.length) H.size) :=
  va_runI ⟨C.1, C.2.1, C.2.2.1, C.2.2.2.1, C.2.2.2.2.1⟩ hM cw ⟨preN_blind, fun U hU hW => ⟨rfl, preN_of C hw hrf hN hU hW⟩⟩ rfl hn hl.1 hst (lv_room (Nat.le_of_ble_eq_true hcat)) hd hf
theorem run_in (C : cx p s m args meth c ws own cc nL ret D cA) (hw : wd D cA (K0 ++ [kd]) h σ A s.heap H locs) (hrf : rfOK 0 kd = true) (hN : nwF s) {y : MethodName} {ws' : List Cond} {rm' : Room} {As : List Value} {Qc : Array Value → State → Outcome → State → Prop} {ix n maxL mc ms : Nat} {bytes : ByteArray} {host : String}
    (hM : Met l y ws' rm' (va_Pc (.ref (hk_ h K0.length 0) :: As) (preN D cA [kd] (hk_ h K0.length) (sk σ K0.length) H.size)) Qc mc ms (aA 1 (hk_ h K0.length) H.size)) (cw : va_CN R s args own ix y host bytes maxL none ws' rm' mc ms n ∧ y.name = "<init>" ∧ (Cond.instanceMethod y).before args s = true) (hn : As.length = n) (hst : st0 = As.reverse ++ .ref (hk_ h K0.length 0) :: st) (hcat : Nat.ble (st.map fun v => v.category).sum 8 = true) (hl : lh ls nL vl) (hd : decode cc pc = .ok (.invokespecial ix, 3)) (hf : cells + mc ≤ R.cells ∧ slots + ms ≤ R.slots) :
    va_Run p l e R s m args below meth c H locs cells slots mc ms (F0 m pc ls st0) st (Qc (Value.ref (hk_ h K0.length 0) :: As).toArray) (aA 1 (hk_ h K0.length) H.size) :=
  va_runIN ⟨C.1, C.2.1, C.2.2.1, C.2.2.2.1, C.2.2.2.2.1⟩ hM cw ⟨preN_blind, fun U hU hW => ⟨rfl, preN_of C hw hrf hN hU hW⟩⟩ rfl hn hl.1 hst (lv_room (Nat.le_of_ble_eq_true hcat)) hd hf
theorem r_objinit (C : cx p s m args meth c ws own cc nL ret D cA) (hl : lh ls nL vl) {ix : Nat} (q1 : Cond.methodLink own ix Lib.objectInit ∈ ws) (q2 : Cond.instanceMethod Lib.objectInit ∈ ws) (q3 : Cond.code Lib.objectInit ⟨#[0xb1]⟩ 1 none ∈ ws) {a : Addr} (hd : decode cc pc = .ok (.invokespecial ix, 3)) (hfr : 1 ≤ R.frames) (hlo : 2 * (F0 m pc ls (.ref a :: st)).monitorRoom + (st.map fun v => v.category).sum + 12 ≤ R.locals)
    (kk : W p l e R s m args below meth c H locs cells slots Q (F0 m (pc + 3) ls st)) : W p l e R s m args below meth c H locs cells slots Q (F0 m pc ls (.ref a :: st)) :=
  W.objInit C.1 C.2.1 C.2.2.2.1 (C.2.2.2.2.1 _ q1) (C.2.2.2.2.1 _ q2) (C.2.2.2.2.1 _ q3) rfl (hl.1.trans C.2.2.1.symm) rfl hd hfr hlo kk
/-- a constructor's contract out of a walk of its body -/
theorem mk_ctor {y : MethodName} {ws' : List Cond} {rm : Room} {As : List Value} {sz mc ms : Nat} {post : St → Prop} (k : Nat)
    (hy : plainName y.cls = true) (hw : ws = Cond.code y cc nL none :: ws') (hown : y.cls = own) (hyi : y.name = "<init>") (hrm : (headSpec ws rm).room = rm) (hn : Nat.ble (lg_sl As).length nL = true)
    (body : ∀ (p : Program) (e : Env) (s : State) (m : MethodId) (args : Array Value) (below : List Frame) (meth : Method) (c : Code) (ls : Array Slot), s.heap.size = sz → cx p s m args meth c ws own cc nL none D cA → meth.name = "<init>" → nwF s → wd D cA [kd] h σ (aA 1 h s.heap.size) s.heap s.heap [] → lh ls nL (slv As ++ List.replicate k none) → (∀ q, s.heap.size ≤ q → aA 1 h s.heap.size q) →
      (∀ (h' : Nat → Nat) (σ' : St) (H : Heap) (locs : List Loc) (cells slots pc : Nat) (ls : Array Slot), decode cc pc = .ok (.return_, 1) → cells ≤ mc → slots ≤ ms → h' 0 = h 0 → post σ' → wd D cA K1 h' σ' (aA 1 h s.heap.size) s.heap H locs → W p l e rm s m args below meth c H locs cells slots (MQ below (QC D cA K1 h s.heap.size post) args s mc ms (aA 1 h s.heap.size)) (F0 m pc ls [])) →
      W p l e rm s m args below meth c s.heap [] 0 0 (MQ below (QC D cA K1 h s.heap.size post) args s mc ms (aA 1 h s.heap.size)) (F0 m 0 ls [])) : Met l y ws rm (va_Pc As (preN D cA [kd] h σ sz)) (QC D cA K1 h sz post) mc ms (aA 1 h sz) := by
  refine Met.ofW (cc := cc) (maxL := nL) (ret := none) hy hw ?_
  intro p e s m args below meth c s₁ B hml hv
  obtain ⟨rfl, ⟨hsz, hP, hK, hD0⟩, hN⟩ := hv
  subst hsz
  have C : cx p s m As.toArray meth c ws own cc nL none D cA := ⟨B.exec, B.bytes, hml, (by rw [← hown]; exact findClass_of_methodNamed B.named), atoms_spec (ws := ws) B.pre, B.returns, B.notSynchronized, hK⟩
  rw [lg_entry_eq, hrm]
  refine body p e s m _ below meth c _ rfl C ((name_of_methodNamed B.named B.method).1.trans hyi) hN ⟨hP, ?_, va_S.rf⟩ (lh_entry As (Nat.le_of_ble_eq_true hn) k) (fun q hq => Or.inr hq) ?_
  · refine ⟨hD0.1, fun i q hq => ?_⟩
    obtain ⟨kd', a1, b1⟩ := wo_inv [kd] 0 i q hq
    subst b1
    exact Or.inl ⟨i, (List.getElem?_eq_some_iff.mp a1).1, by rw [Nat.zero_add]⟩
  · intro h' σ' H locs cells slots pc ls hd h1 h2 h3 hp hw
    refine W.widen h1 h2 ?_
    exact W.vret C.1 C.2.1 C.2.2.2.2.2.1 (fun t ht _ => ⟨⟨(h', σ'), rfl, ⟨h3, hp⟩, by dsimp only; rw [ht]; exact ⟨hw.1, hw.2.1⟩⟩, hw.2.2.F ht⟩) hw.2.2.2.2 hd C.2.2.2.2.2.2.1
end
end
section
theorem zz_nothing : True := trivial
end
