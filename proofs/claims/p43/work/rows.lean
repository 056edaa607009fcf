section
-- ===== PART A: goes FIRST, ahead of the names: the tables' words, and 'selects' of the private methods out of them =====
/-- a private method of a class that the tables say can be made, by its rows of tables_1 -/
def lw_okq (q : MethodName × Nat) : Prop := (q.1.cls ≠ "java/lang/invoke/MethodHandle" ∧ q.1.cls ≠ "java/lang/invoke/VarHandle") ∧ Cond.instantiable q.1.cls q.2 ∈ tables_1 ∧ Cond.privateMethod q.1 ∈ tables_1 ∧ Cond.instanceMethod q.1 ∈ tables_1
theorem lw_p0 : lw_okq (⟨"GravyRound$Tokens", "packWords", "()V"⟩, 8) := ⟨⟨by decide +kernel, by decide +kernel⟩, List.mem_of_getElem? (i := 154) (by decide +kernel), List.mem_of_getElem? (i := 160) (by decide +kernel), List.mem_of_getElem? (i := 161) (by decide +kernel)⟩
theorem lw_p1 : lw_okq (⟨"GravyRound", "beginAsTold", "()V"⟩, 17) := ⟨⟨by decide +kernel, by decide +kernel⟩, List.mem_of_getElem? (i := 23) (by decide +kernel), List.mem_of_getElem? (i := 492) (by decide +kernel), List.mem_of_getElem? (i := 493) (by decide +kernel)⟩
theorem lw_p2 : lw_okq (⟨"GravyRound$Table", "comeTo", "(I)V"⟩, 11) := ⟨⟨by decide +kernel, by decide +kernel⟩, List.mem_of_getElem? (i := 264) (by decide +kernel), List.mem_of_getElem? (i := 500) (by decide +kernel), List.mem_of_getElem? (i := 501) (by decide +kernel)⟩
theorem lw_p3 : lw_okq (⟨"GravyRound$Acts", "slot", "(I)LGravyRound$Table;"⟩, 4) := ⟨⟨by decide +kernel, by decide +kernel⟩, List.mem_of_getElem? (i := 326) (by decide +kernel), List.mem_of_getElem? (i := 520) (by decide +kernel), List.mem_of_getElem? (i := 521) (by decide +kernel)⟩
theorem lw_p4 : lw_okq (⟨"GravyRound", "putOnTape", "(I)V"⟩, 17) := ⟨⟨by decide +kernel, by decide +kernel⟩, List.mem_of_getElem? (i := 23) (by decide +kernel), List.mem_of_getElem? (i := 599) (by decide +kernel), List.mem_of_getElem? (i := 600) (by decide +kernel)⟩
theorem lw_p5 : lw_okq (⟨"GravyRound$Tokens", "readWord", "()V"⟩, 8) := ⟨⟨by decide +kernel, by decide +kernel⟩, List.mem_of_getElem? (i := 154) (by decide +kernel), List.mem_of_getElem? (i := 633) (by decide +kernel), List.mem_of_getElem? (i := 634) (by decide +kernel)⟩
theorem lw_p6 : lw_okq (⟨"GravyRound$Tokens", "wordKind", "()I"⟩, 8) := ⟨⟨by decide +kernel, by decide +kernel⟩, List.mem_of_getElem? (i := 154) (by decide +kernel), List.mem_of_getElem? (i := 637) (by decide +kernel), List.mem_of_getElem? (i := 638) (by decide +kernel)⟩
theorem lw_p7 : lw_okq (⟨"GravyRound$Tokens", "readNumber", "()V"⟩, 8) := ⟨⟨by decide +kernel, by decide +kernel⟩, List.mem_of_getElem? (i := 154) (by decide +kernel), List.mem_of_getElem? (i := 644) (by decide +kernel), List.mem_of_getElem? (i := 645) (by decide +kernel)⟩
theorem lw_p8 : lw_okq (⟨"GravyRound$Reader", "readLine", "()Z"⟩, 5) := ⟨⟨by decide +kernel, by decide +kernel⟩, List.mem_of_getElem? (i := 148) (by decide +kernel), List.mem_of_getElem? (i := 704) (by decide +kernel), List.mem_of_getElem? (i := 705) (by decide +kernel)⟩
theorem lw_p9 : lw_okq (⟨"GravyRound$Reader", "readGuest", "()Z"⟩, 5) := ⟨⟨by decide +kernel, by decide +kernel⟩, List.mem_of_getElem? (i := 148) (by decide +kernel), List.mem_of_getElem? (i := 708) (by decide +kernel), List.mem_of_getElem? (i := 709) (by decide +kernel)⟩
theorem lw_p10 : lw_okq (⟨"GravyRound$Reader", "refuse", "(I)Z"⟩, 5) := ⟨⟨by decide +kernel, by decide +kernel⟩, List.mem_of_getElem? (i := 148) (by decide +kernel), List.mem_of_getElem? (i := 712) (by decide +kernel), List.mem_of_getElem? (i := 713) (by decide +kernel)⟩
theorem lw_p11 : lw_okq (⟨"GravyRound$Reader", "pass", "(I)Z"⟩, 5) := ⟨⟨by decide +kernel, by decide +kernel⟩, List.mem_of_getElem? (i := 148) (by decide +kernel), List.mem_of_getElem? (i := 721) (by decide +kernel), List.mem_of_getElem? (i := 722) (by decide +kernel)⟩
theorem lw_p12 : lw_okq (⟨"GravyRound$Reader", "isNumber", "(II)Z"⟩, 5) := ⟨⟨by decide +kernel, by decide +kernel⟩, List.mem_of_getElem? (i := 148) (by decide +kernel), List.mem_of_getElem? (i := 725) (by decide +kernel), List.mem_of_getElem? (i := 726) (by decide +kernel)⟩
theorem lw_p13 : lw_okq (⟨"GravyRound$Reader", "readFeud", "()Z"⟩, 5) := ⟨⟨by decide +kernel, by decide +kernel⟩, List.mem_of_getElem? (i := 148) (by decide +kernel), List.mem_of_getElem? (i := 733) (by decide +kernel), List.mem_of_getElem? (i := 734) (by decide +kernel)⟩
theorem lw_p14 : lw_okq (⟨"GravyRound$Reader", "isToldGuest", "()Z"⟩, 5) := ⟨⟨by decide +kernel, by decide +kernel⟩, List.mem_of_getElem? (i := 148) (by decide +kernel), List.mem_of_getElem? (i := 737) (by decide +kernel), List.mem_of_getElem? (i := 738) (by decide +kernel)⟩
theorem lw_p15 : lw_okq (⟨"GravyRound$Reader", "readCools", "()Z"⟩, 5) := ⟨⟨by decide +kernel, by decide +kernel⟩, List.mem_of_getElem? (i := 148) (by decide +kernel), List.mem_of_getElem? (i := 746) (by decide +kernel), List.mem_of_getElem? (i := 747) (by decide +kernel)⟩
def lw_privs_1 : List (MethodName × Nat) := [(⟨"GravyRound$Tokens", "packWords", "()V"⟩, 8), (⟨"GravyRound", "beginAsTold", "()V"⟩, 17), (⟨"GravyRound$Table", "comeTo", "(I)V"⟩, 11), (⟨"GravyRound$Acts", "slot", "(I)LGravyRound$Table;"⟩, 4), (⟨"GravyRound", "putOnTape", "(I)V"⟩, 17), (⟨"GravyRound$Tokens", "readWord", "()V"⟩, 8), (⟨"GravyRound$Tokens", "wordKind", "()I"⟩, 8), (⟨"GravyRound$Tokens", "readNumber", "()V"⟩, 8), (⟨"GravyRound$Reader", "readLine", "()Z"⟩, 5), (⟨"GravyRound$Reader", "readGuest", "()Z"⟩, 5), (⟨"GravyRound$Reader", "refuse", "(I)Z"⟩, 5), (⟨"GravyRound$Reader", "pass", "(I)Z"⟩, 5), (⟨"GravyRound$Reader", "isNumber", "(II)Z"⟩, 5), (⟨"GravyRound$Reader", "readFeud", "()Z"⟩, 5), (⟨"GravyRound$Reader", "isToldGuest", "()Z"⟩, 5), (⟨"GravyRound$Reader", "readCools", "()Z"⟩, 5)]
theorem lw_r1 : ∀ q ∈ lw_privs_1, lw_okq q := List.forall_mem_cons.mpr ⟨lw_p0, List.forall_mem_cons.mpr ⟨lw_p1, List.forall_mem_cons.mpr ⟨lw_p2, List.forall_mem_cons.mpr ⟨lw_p3, List.forall_mem_cons.mpr ⟨lw_p4, List.forall_mem_cons.mpr ⟨lw_p5, List.forall_mem_cons.mpr ⟨lw_p6, List.forall_mem_cons.mpr ⟨lw_p7, List.forall_mem_cons.mpr ⟨lw_p8, List.forall_mem_cons.mpr ⟨lw_p9, List.forall_mem_cons.mpr ⟨lw_p10, List.forall_mem_cons.mpr ⟨lw_p11, List.forall_mem_cons.mpr ⟨lw_p12, List.forall_mem_cons.mpr ⟨lw_p13, List.forall_mem_cons.mpr ⟨lw_p14, List.forall_mem_cons.mpr ⟨lw_p15, fun _ h => absurd h List.not_mem_nil⟩⟩⟩⟩⟩⟩⟩⟩⟩⟩⟩⟩⟩⟩⟩⟩
theorem lw_p16 : lw_okq (⟨"GravyRound$Reader", "isFirstOfSort", "(I)Z"⟩, 5) := ⟨⟨by decide +kernel, by decide +kernel⟩, List.mem_of_getElem? (i := 148) (by decide +kernel), List.mem_of_getElem? (i := 750) (by decide +kernel), List.mem_of_getElem? (i := 751) (by decide +kernel)⟩
theorem lw_p17 : lw_okq (⟨"GravyRound$Reader", "readEither", "(I)Z"⟩, 5) := ⟨⟨by decide +kernel, by decide +kernel⟩, List.mem_of_getElem? (i := 148) (by decide +kernel), List.mem_of_getElem? (i := 754) (by decide +kernel), List.mem_of_getElem? (i := 755) (by decide +kernel)⟩
theorem lw_p18 : lw_okq (⟨"GravyRound$Reader", "readBoth", "(I)Z"⟩, 5) := ⟨⟨by decide +kernel, by decide +kernel⟩, List.mem_of_getElem? (i := 148) (by decide +kernel), List.mem_of_getElem? (i := 758) (by decide +kernel), List.mem_of_getElem? (i := 759) (by decide +kernel)⟩
theorem lw_p19 : lw_okq (⟨"GravyRound$Reader", "readOne", "(I)Z"⟩, 5) := ⟨⟨by decide +kernel, by decide +kernel⟩, List.mem_of_getElem? (i := 148) (by decide +kernel), List.mem_of_getElem? (i := 762) (by decide +kernel), List.mem_of_getElem? (i := 763) (by decide +kernel)⟩
theorem lw_p20 : lw_okq (⟨"GravyRound$Reader", "readSum", "(I)Z"⟩, 5) := ⟨⟨by decide +kernel, by decide +kernel⟩, List.mem_of_getElem? (i := 148) (by decide +kernel), List.mem_of_getElem? (i := 770) (by decide +kernel), List.mem_of_getElem? (i := 771) (by decide +kernel)⟩
theorem lw_p21 : lw_okq (⟨"GravyRound$Reader", "readTerm", "(I)Z"⟩, 5) := ⟨⟨by decide +kernel, by decide +kernel⟩, List.mem_of_getElem? (i := 148) (by decide +kernel), List.mem_of_getElem? (i := 774) (by decide +kernel), List.mem_of_getElem? (i := 775) (by decide +kernel)⟩
theorem lw_p22 : lw_okq (⟨"GravyRound$Reader", "readUnit", "(I)Z"⟩, 5) := ⟨⟨by decide +kernel, by decide +kernel⟩, List.mem_of_getElem? (i := 148) (by decide +kernel), List.mem_of_getElem? (i := 778) (by decide +kernel), List.mem_of_getElem? (i := 779) (by decide +kernel)⟩
theorem lw_p23 : lw_okq (⟨"GravyRound$Reader", "readInBrackets", "(I)Z"⟩, 5) := ⟨⟨by decide +kernel, by decide +kernel⟩, List.mem_of_getElem? (i := 148) (by decide +kernel), List.mem_of_getElem? (i := 782) (by decide +kernel), List.mem_of_getElem? (i := 783) (by decide +kernel)⟩
theorem lw_p24 : lw_okq (⟨"GravyRound$Reader", "readSetting", "(I)Z"⟩, 5) := ⟨⟨by decide +kernel, by decide +kernel⟩, List.mem_of_getElem? (i := 148) (by decide +kernel), List.mem_of_getElem? (i := 795) (by decide +kernel), List.mem_of_getElem? (i := 796) (by decide +kernel)⟩
theorem lw_p25 : lw_okq (⟨"GravyRound$Reader", "set", "(II)V"⟩, 5) := ⟨⟨by decide +kernel, by decide +kernel⟩, List.mem_of_getElem? (i := 148) (by decide +kernel), List.mem_of_getElem? (i := 799) (by decide +kernel), List.mem_of_getElem? (i := 800) (by decide +kernel)⟩
theorem lw_p26 : lw_okq (⟨"GravyRound", "isGuest", "(I)Z"⟩, 17) := ⟨⟨by decide +kernel, by decide +kernel⟩, List.mem_of_getElem? (i := 23) (by decide +kernel), List.mem_of_getElem? (i := 821) (by decide +kernel), List.mem_of_getElem? (i := 822) (by decide +kernel)⟩
theorem lw_p27 : lw_okq (⟨"GravyRound", "isFeud", "(I)Z"⟩, 17) := ⟨⟨by decide +kernel, by decide +kernel⟩, List.mem_of_getElem? (i := 23) (by decide +kernel), List.mem_of_getElem? (i := 843) (by decide +kernel), List.mem_of_getElem? (i := 844) (by decide +kernel)⟩
theorem lw_p28 : lw_okq (⟨"GravyRound$Table", "serve", "(Z)I"⟩, 11) := ⟨⟨by decide +kernel, by decide +kernel⟩, List.mem_of_getElem? (i := 264) (by decide +kernel), List.mem_of_getElem? (i := 879) (by decide +kernel), List.mem_of_getElem? (i := 880) (by decide +kernel)⟩
theorem lw_p29 : lw_okq (⟨"GravyRound", "isBehind", "(I)Z"⟩, 17) := ⟨⟨by decide +kernel, by decide +kernel⟩, List.mem_of_getElem? (i := 23) (by decide +kernel), List.mem_of_getElem? (i := 892) (by decide +kernel), List.mem_of_getElem? (i := 893) (by decide +kernel)⟩
theorem lw_p30 : lw_okq (⟨"GravyRound", "turnFeud", "(I)I"⟩, 17) := ⟨⟨by decide +kernel, by decide +kernel⟩, List.mem_of_getElem? (i := 23) (by decide +kernel), List.mem_of_getElem? (i := 908) (by decide +kernel), List.mem_of_getElem? (i := 909) (by decide +kernel)⟩
theorem lw_p31 : lw_okq (⟨"GravyRound$Orders", "look", "(LGravyRound$Table;)V"⟩, 11) := ⟨⟨by decide +kernel, by decide +kernel⟩, List.mem_of_getElem? (i := 365) (by decide +kernel), List.mem_of_getElem? (i := 966) (by decide +kernel), List.mem_of_getElem? (i := 967) (by decide +kernel)⟩
def lw_privs_2 : List (MethodName × Nat) := [(⟨"GravyRound$Reader", "isFirstOfSort", "(I)Z"⟩, 5), (⟨"GravyRound$Reader", "readEither", "(I)Z"⟩, 5), (⟨"GravyRound$Reader", "readBoth", "(I)Z"⟩, 5), (⟨"GravyRound$Reader", "readOne", "(I)Z"⟩, 5), (⟨"GravyRound$Reader", "readSum", "(I)Z"⟩, 5), (⟨"GravyRound$Reader", "readTerm", "(I)Z"⟩, 5), (⟨"GravyRound$Reader", "readUnit", "(I)Z"⟩, 5), (⟨"GravyRound$Reader", "readInBrackets", "(I)Z"⟩, 5), (⟨"GravyRound$Reader", "readSetting", "(I)Z"⟩, 5), (⟨"GravyRound$Reader", "set", "(II)V"⟩, 5), (⟨"GravyRound", "isGuest", "(I)Z"⟩, 17), (⟨"GravyRound", "isFeud", "(I)Z"⟩, 17), (⟨"GravyRound$Table", "serve", "(Z)I"⟩, 11), (⟨"GravyRound", "isBehind", "(I)Z"⟩, 17), (⟨"GravyRound", "turnFeud", "(I)I"⟩, 17), (⟨"GravyRound$Orders", "look", "(LGravyRound$Table;)V"⟩, 11)]
theorem lw_r2 : ∀ q ∈ lw_privs_2, lw_okq q := List.forall_mem_cons.mpr ⟨lw_p16, List.forall_mem_cons.mpr ⟨lw_p17, List.forall_mem_cons.mpr ⟨lw_p18, List.forall_mem_cons.mpr ⟨lw_p19, List.forall_mem_cons.mpr ⟨lw_p20, List.forall_mem_cons.mpr ⟨lw_p21, List.forall_mem_cons.mpr ⟨lw_p22, List.forall_mem_cons.mpr ⟨lw_p23, List.forall_mem_cons.mpr ⟨lw_p24, List.forall_mem_cons.mpr ⟨lw_p25, List.forall_mem_cons.mpr ⟨lw_p26, List.forall_mem_cons.mpr ⟨lw_p27, List.forall_mem_cons.mpr ⟨lw_p28, List.forall_mem_cons.mpr ⟨lw_p29, List.forall_mem_cons.mpr ⟨lw_p30, List.forall_mem_cons.mpr ⟨lw_p31, fun _ h => absurd h List.not_mem_nil⟩⟩⟩⟩⟩⟩⟩⟩⟩⟩⟩⟩⟩⟩⟩⟩
theorem lw_p32 : lw_okq (⟨"GravyRound$Orders", "keepOrder", "()V"⟩, 11) := ⟨⟨by decide +kernel, by decide +kernel⟩, List.mem_of_getElem? (i := 365) (by decide +kernel), List.mem_of_getElem? (i := 976) (by decide +kernel), List.mem_of_getElem? (i := 977) (by decide +kernel)⟩
theorem lw_p33 : lw_okq (⟨"GravyRound$Orders", "isFoe", "(II)Z"⟩, 11) := ⟨⟨by decide +kernel, by decide +kernel⟩, List.mem_of_getElem? (i := 365) (by decide +kernel), List.mem_of_getElem? (i := 981) (by decide +kernel), List.mem_of_getElem? (i := 982) (by decide +kernel)⟩
theorem lw_p34 : lw_okq (⟨"GravyRound", "layOrder", "()V"⟩, 17) := ⟨⟨by decide +kernel, by decide +kernel⟩, List.mem_of_getElem? (i := 23) (by decide +kernel), List.mem_of_getElem? (i := 985) (by decide +kernel), List.mem_of_getElem? (i := 986) (by decide +kernel)⟩
theorem lw_p35 : lw_okq (⟨"GravyRound$Orders", "cooledFor", "(IIIII)I"⟩, 11) := ⟨⟨by decide +kernel, by decide +kernel⟩, List.mem_of_getElem? (i := 365) (by decide +kernel), List.mem_of_getElem? (i := 1005) (by decide +kernel), List.mem_of_getElem? (i := 1006) (by decide +kernel)⟩
theorem lw_p36 : lw_okq (⟨"GravyRound$Orders", "leftBehind", "(II)I"⟩, 11) := ⟨⟨by decide +kernel, by decide +kernel⟩, List.mem_of_getElem? (i := 365) (by decide +kernel), List.mem_of_getElem? (i := 1010) (by decide +kernel), List.mem_of_getElem? (i := 1011) (by decide +kernel)⟩
theorem lw_p37 : lw_okq (⟨"GravyRound", "liesOnTheWay", "(I)Z"⟩, 17) := ⟨⟨by decide +kernel, by decide +kernel⟩, List.mem_of_getElem? (i := 23) (by decide +kernel), List.mem_of_getElem? (i := 1026) (by decide +kernel), List.mem_of_getElem? (i := 1027) (by decide +kernel)⟩
theorem lw_p38 : lw_okq (⟨"GravyRound$Company", "allSpeakWithout", "(I)Z"⟩, 3) := ⟨⟨by decide +kernel, by decide +kernel⟩, List.mem_of_getElem? (i := 435) (by decide +kernel), List.mem_of_getElem? (i := 1053) (by decide +kernel), List.mem_of_getElem? (i := 1054) (by decide +kernel)⟩
theorem lw_p39 : lw_okq (⟨"GravyRound$Company", "speaksAtHisTable", "(I)Z"⟩, 3) := ⟨⟨by decide +kernel, by decide +kernel⟩, List.mem_of_getElem? (i := 435) (by decide +kernel), List.mem_of_getElem? (i := 1068) (by decide +kernel), List.mem_of_getElem? (i := 1069) (by decide +kernel)⟩
theorem lw_p40 : lw_okq (⟨"GravyRound", "isWaitingGuest", "(I)Z"⟩, 17) := ⟨⟨by decide +kernel, by decide +kernel⟩, List.mem_of_getElem? (i := 23) (by decide +kernel), List.mem_of_getElem? (i := 1104) (by decide +kernel), List.mem_of_getElem? (i := 1105) (by decide +kernel)⟩
theorem lw_p41 : lw_okq (⟨"GravyRound$Shares", "reckonGains", "(LGravyRound$Table;II)V"⟩, 6) := ⟨⟨by decide +kernel, by decide +kernel⟩, List.mem_of_getElem? (i := 407) (by decide +kernel), List.mem_of_getElem? (i := 1112) (by decide +kernel), List.mem_of_getElem? (i := 1113) (by decide +kernel)⟩
theorem lw_p42 : lw_okq (⟨"GravyRound$Shares", "isRest", "(II)Z"⟩, 6) := ⟨⟨by decide +kernel, by decide +kernel⟩, List.mem_of_getElem? (i := 407) (by decide +kernel), List.mem_of_getElem? (i := 1118) (by decide +kernel), List.mem_of_getElem? (i := 1119) (by decide +kernel)⟩
theorem lw_p43 : lw_okq (⟨"GravyRound", "handAsTold", "()V"⟩, 17) := ⟨⟨by decide +kernel, by decide +kernel⟩, List.mem_of_getElem? (i := 23) (by decide +kernel), List.mem_of_getElem? (i := 1155) (by decide +kernel), List.mem_of_getElem? (i := 1156) (by decide +kernel)⟩
theorem lw_p44 : lw_okq (⟨"GravyRound$Sights", "isFitting", "(II)Z"⟩, 10) := ⟨⟨by decide +kernel, by decide +kernel⟩, List.mem_of_getElem? (i := 452) (by decide +kernel), List.mem_of_getElem? (i := 1217) (by decide +kernel), List.mem_of_getElem? (i := 1218) (by decide +kernel)⟩
theorem lw_p45 : lw_okq (⟨"GravyRound$Sights", "seatAt", "(II)I"⟩, 10) := ⟨⟨by decide +kernel, by decide +kernel⟩, List.mem_of_getElem? (i := 452) (by decide +kernel), List.mem_of_getElem? (i := 1221) (by decide +kernel), List.mem_of_getElem? (i := 1222) (by decide +kernel)⟩
theorem lw_p46 : lw_okq (⟨"GravyRoundModel", "clearBank", "()V"⟩, 65) := ⟨⟨by decide +kernel, by decide +kernel⟩, List.mem_of_getElem? (i := 1261) (by decide +kernel), List.mem_of_getElem? (i := 1267) (by decide +kernel), List.mem_of_getElem? (i := 1268) (by decide +kernel)⟩
theorem lw_p47 : lw_okq (⟨"GravyRoundModel", "startAnew", "()V"⟩, 65) := ⟨⟨by decide +kernel, by decide +kernel⟩, List.mem_of_getElem? (i := 1261) (by decide +kernel), List.mem_of_getElem? (i := 1271) (by decide +kernel), List.mem_of_getElem? (i := 1272) (by decide +kernel)⟩
def lw_privs_3 : List (MethodName × Nat) := [(⟨"GravyRound$Orders", "keepOrder", "()V"⟩, 11), (⟨"GravyRound$Orders", "isFoe", "(II)Z"⟩, 11), (⟨"GravyRound", "layOrder", "()V"⟩, 17), (⟨"GravyRound$Orders", "cooledFor", "(IIIII)I"⟩, 11), (⟨"GravyRound$Orders", "leftBehind", "(II)I"⟩, 11), (⟨"GravyRound", "liesOnTheWay", "(I)Z"⟩, 17), (⟨"GravyRound$Company", "allSpeakWithout", "(I)Z"⟩, 3), (⟨"GravyRound$Company", "speaksAtHisTable", "(I)Z"⟩, 3), (⟨"GravyRound", "isWaitingGuest", "(I)Z"⟩, 17), (⟨"GravyRound$Shares", "reckonGains", "(LGravyRound$Table;II)V"⟩, 6), (⟨"GravyRound$Shares", "isRest", "(II)Z"⟩, 6), (⟨"GravyRound", "handAsTold", "()V"⟩, 17), (⟨"GravyRound$Sights", "isFitting", "(II)Z"⟩, 10), (⟨"GravyRound$Sights", "seatAt", "(II)I"⟩, 10), (⟨"GravyRoundModel", "clearBank", "()V"⟩, 65), (⟨"GravyRoundModel", "startAnew", "()V"⟩, 65)]
theorem lw_r3 : ∀ q ∈ lw_privs_3, lw_okq q := List.forall_mem_cons.mpr ⟨lw_p32, List.forall_mem_cons.mpr ⟨lw_p33, List.forall_mem_cons.mpr ⟨lw_p34, List.forall_mem_cons.mpr ⟨lw_p35, List.forall_mem_cons.mpr ⟨lw_p36, List.forall_mem_cons.mpr ⟨lw_p37, List.forall_mem_cons.mpr ⟨lw_p38, List.forall_mem_cons.mpr ⟨lw_p39, List.forall_mem_cons.mpr ⟨lw_p40, List.forall_mem_cons.mpr ⟨lw_p41, List.forall_mem_cons.mpr ⟨lw_p42, List.forall_mem_cons.mpr ⟨lw_p43, List.forall_mem_cons.mpr ⟨lw_p44, List.forall_mem_cons.mpr ⟨lw_p45, List.forall_mem_cons.mpr ⟨lw_p46, List.forall_mem_cons.mpr ⟨lw_p47, fun _ h => absurd h List.not_mem_nil⟩⟩⟩⟩⟩⟩⟩⟩⟩⟩⟩⟩⟩⟩⟩⟩
theorem lw_p48 : lw_okq (⟨"GravyRoundModel", "layTold", "()V"⟩, 65) := ⟨⟨by decide +kernel, by decide +kernel⟩, List.mem_of_getElem? (i := 1261) (by decide +kernel), List.mem_of_getElem? (i := 1275) (by decide +kernel), List.mem_of_getElem? (i := 1276) (by decide +kernel)⟩
theorem lw_p49 : lw_okq (⟨"GravyRoundModel", "folk", "()I"⟩, 65) := ⟨⟨by decide +kernel, by decide +kernel⟩, List.mem_of_getElem? (i := 1261) (by decide +kernel), List.mem_of_getElem? (i := 1279) (by decide +kernel), List.mem_of_getElem? (i := 1280) (by decide +kernel)⟩
theorem lw_p50 : lw_okq (⟨"GravyRoundModel", "waitOf", "(I)I"⟩, 65) := ⟨⟨by decide +kernel, by decide +kernel⟩, List.mem_of_getElem? (i := 1261) (by decide +kernel), List.mem_of_getElem? (i := 1283) (by decide +kernel), List.mem_of_getElem? (i := 1284) (by decide +kernel)⟩
theorem lw_p51 : lw_okq (⟨"GravyRoundModel", "slowOf", "(I)I"⟩, 65) := ⟨⟨by decide +kernel, by decide +kernel⟩, List.mem_of_getElem? (i := 1261) (by decide +kernel), List.mem_of_getElem? (i := 1287) (by decide +kernel), List.mem_of_getElem? (i := 1288) (by decide +kernel)⟩
theorem lw_p52 : lw_okq (⟨"GravyRoundModel", "isBehind", "(I)Z"⟩, 65) := ⟨⟨by decide +kernel, by decide +kernel⟩, List.mem_of_getElem? (i := 1261) (by decide +kernel), List.mem_of_getElem? (i := 1291) (by decide +kernel), List.mem_of_getElem? (i := 1292) (by decide +kernel)⟩
theorem lw_p53 : lw_okq (⟨"GravyRoundModel", "isGuest", "(I)Z"⟩, 65) := ⟨⟨by decide +kernel, by decide +kernel⟩, List.mem_of_getElem? (i := 1261) (by decide +kernel), List.mem_of_getElem? (i := 1295) (by decide +kernel), List.mem_of_getElem? (i := 1296) (by decide +kernel)⟩
theorem lw_p54 : lw_okq (⟨"GravyRoundModel", "isOver", "()Z"⟩, 65) := ⟨⟨by decide +kernel, by decide +kernel⟩, List.mem_of_getElem? (i := 1261) (by decide +kernel), List.mem_of_getElem? (i := 1302) (by decide +kernel), List.mem_of_getElem? (i := 1303) (by decide +kernel)⟩
theorem lw_p55 : lw_okq (⟨"GravyRoundModel", "seatOf", "(I)I"⟩, 65) := ⟨⟨by decide +kernel, by decide +kernel⟩, List.mem_of_getElem? (i := 1261) (by decide +kernel), List.mem_of_getElem? (i := 1306) (by decide +kernel), List.mem_of_getElem? (i := 1307) (by decide +kernel)⟩
theorem lw_p56 : lw_okq (⟨"GravyRoundModel", "isAtOdds", "(II)Z"⟩, 65) := ⟨⟨by decide +kernel, by decide +kernel⟩, List.mem_of_getElem? (i := 1261) (by decide +kernel), List.mem_of_getElem? (i := 1310) (by decide +kernel), List.mem_of_getElem? (i := 1311) (by decide +kernel)⟩
theorem lw_p57 : lw_okq (⟨"GravyRoundModel", "quarrels", "()I"⟩, 65) := ⟨⟨by decide +kernel, by decide +kernel⟩, List.mem_of_getElem? (i := 1261) (by decide +kernel), List.mem_of_getElem? (i := 1314) (by decide +kernel), List.mem_of_getElem? (i := 1315) (by decide +kernel)⟩
theorem lw_p58 : lw_okq (⟨"GravyRoundModel", "goOn", "()V"⟩, 65) := ⟨⟨by decide +kernel, by decide +kernel⟩, List.mem_of_getElem? (i := 1261) (by decide +kernel), List.mem_of_getElem? (i := 1521) (by decide +kernel), List.mem_of_getElem? (i := 1522) (by decide +kernel)⟩
theorem lw_p59 : lw_okq (⟨"GravyRoundModel", "sign", "(I)I"⟩, 65) := ⟨⟨by decide +kernel, by decide +kernel⟩, List.mem_of_getElem? (i := 1261) (by decide +kernel), List.mem_of_getElem? (i := 1525) (by decide +kernel), List.mem_of_getElem? (i := 1526) (by decide +kernel)⟩
theorem lw_p60 : lw_okq (⟨"GravyRoundModel", "isGood", "()Z"⟩, 65) := ⟨⟨by decide +kernel, by decide +kernel⟩, List.mem_of_getElem? (i := 1261) (by decide +kernel), List.mem_of_getElem? (i := 1558) (by decide +kernel), List.mem_of_getElem? (i := 1559) (by decide +kernel)⟩
theorem lw_p61 : lw_okq (⟨"GravyRoundModel", "readLine", "()V"⟩, 65) := ⟨⟨by decide +kernel, by decide +kernel⟩, List.mem_of_getElem? (i := 1261) (by decide +kernel), List.mem_of_getElem? (i := 1562) (by decide +kernel), List.mem_of_getElem? (i := 1563) (by decide +kernel)⟩
theorem lw_p62 : lw_okq (⟨"GravyRoundModel", "isFull", "()Z"⟩, 65) := ⟨⟨by decide +kernel, by decide +kernel⟩, List.mem_of_getElem? (i := 1261) (by decide +kernel), List.mem_of_getElem? (i := 1566) (by decide +kernel), List.mem_of_getElem? (i := 1567) (by decide +kernel)⟩
theorem lw_p63 : lw_okq (⟨"GravyRoundModel", "isWord", "(J)Z"⟩, 65) := ⟨⟨by decide +kernel, by decide +kernel⟩, List.mem_of_getElem? (i := 1261) (by decide +kernel), List.mem_of_getElem? (i := 1570) (by decide +kernel), List.mem_of_getElem? (i := 1571) (by decide +kernel)⟩
def lw_privs_4 : List (MethodName × Nat) := [(⟨"GravyRoundModel", "layTold", "()V"⟩, 65), (⟨"GravyRoundModel", "folk", "()I"⟩, 65), (⟨"GravyRoundModel", "waitOf", "(I)I"⟩, 65), (⟨"GravyRoundModel", "slowOf", "(I)I"⟩, 65), (⟨"GravyRoundModel", "isBehind", "(I)Z"⟩, 65), (⟨"GravyRoundModel", "isGuest", "(I)Z"⟩, 65), (⟨"GravyRoundModel", "isOver", "()Z"⟩, 65), (⟨"GravyRoundModel", "seatOf", "(I)I"⟩, 65), (⟨"GravyRoundModel", "isAtOdds", "(II)Z"⟩, 65), (⟨"GravyRoundModel", "quarrels", "()I"⟩, 65), (⟨"GravyRoundModel", "goOn", "()V"⟩, 65), (⟨"GravyRoundModel", "sign", "(I)I"⟩, 65), (⟨"GravyRoundModel", "isGood", "()Z"⟩, 65), (⟨"GravyRoundModel", "readLine", "()V"⟩, 65), (⟨"GravyRoundModel", "isFull", "()Z"⟩, 65), (⟨"GravyRoundModel", "isWord", "(J)Z"⟩, 65)]
theorem lw_r4 : ∀ q ∈ lw_privs_4, lw_okq q := List.forall_mem_cons.mpr ⟨lw_p48, List.forall_mem_cons.mpr ⟨lw_p49, List.forall_mem_cons.mpr ⟨lw_p50, List.forall_mem_cons.mpr ⟨lw_p51, List.forall_mem_cons.mpr ⟨lw_p52, List.forall_mem_cons.mpr ⟨lw_p53, List.forall_mem_cons.mpr ⟨lw_p54, List.forall_mem_cons.mpr ⟨lw_p55, List.forall_mem_cons.mpr ⟨lw_p56, List.forall_mem_cons.mpr ⟨lw_p57, List.forall_mem_cons.mpr ⟨lw_p58, List.forall_mem_cons.mpr ⟨lw_p59, List.forall_mem_cons.mpr ⟨lw_p60, List.forall_mem_cons.mpr ⟨lw_p61, List.forall_mem_cons.mpr ⟨lw_p62, List.forall_mem_cons.mpr ⟨lw_p63, fun _ h => absurd h List.not_mem_nil⟩⟩⟩⟩⟩⟩⟩⟩⟩⟩⟩⟩⟩⟩⟩⟩
theorem lw_p64 : lw_okq (⟨"GravyRoundModel", "onceHere", "()I"⟩, 65) := ⟨⟨by decide +kernel, by decide +kernel⟩, List.mem_of_getElem? (i := 1261) (by decide +kernel), List.mem_of_getElem? (i := 1574) (by decide +kernel), List.mem_of_getElem? (i := 1575) (by decide +kernel)⟩
theorem lw_p65 : lw_okq (⟨"GravyRoundModel", "misplaced", "()V"⟩, 65) := ⟨⟨by decide +kernel, by decide +kernel⟩, List.mem_of_getElem? (i := 1261) (by decide +kernel), List.mem_of_getElem? (i := 1578) (by decide +kernel), List.mem_of_getElem? (i := 1579) (by decide +kernel)⟩
theorem lw_p66 : lw_okq (⟨"GravyRoundModel", "fails", "(II)V"⟩, 65) := ⟨⟨by decide +kernel, by decide +kernel⟩, List.mem_of_getElem? (i := 1261) (by decide +kernel), List.mem_of_getElem? (i := 1582) (by decide +kernel), List.mem_of_getElem? (i := 1583) (by decide +kernel)⟩
theorem lw_p67 : lw_okq (⟨"GravyRoundModel", "readGuest", "()V"⟩, 65) := ⟨⟨by decide +kernel, by decide +kernel⟩, List.mem_of_getElem? (i := 1261) (by decide +kernel), List.mem_of_getElem? (i := 1586) (by decide +kernel), List.mem_of_getElem? (i := 1587) (by decide +kernel)⟩
theorem lw_p68 : lw_okq (⟨"GravyRoundModel", "here", "()I"⟩, 65) := ⟨⟨by decide +kernel, by decide +kernel⟩, List.mem_of_getElem? (i := 1261) (by decide +kernel), List.mem_of_getElem? (i := 1590) (by decide +kernel), List.mem_of_getElem? (i := 1591) (by decide +kernel)⟩
theorem lw_p69 : lw_okq (⟨"GravyRoundModel", "must", "(Z)V"⟩, 65) := ⟨⟨by decide +kernel, by decide +kernel⟩, List.mem_of_getElem? (i := 1261) (by decide +kernel), List.mem_of_getElem? (i := 1594) (by decide +kernel), List.mem_of_getElem? (i := 1595) (by decide +kernel)⟩
theorem lw_p70 : lw_okq (⟨"GravyRoundModel", "after", "(JII)I"⟩, 65) := ⟨⟨by decide +kernel, by decide +kernel⟩, List.mem_of_getElem? (i := 1261) (by decide +kernel), List.mem_of_getElem? (i := 1598) (by decide +kernel), List.mem_of_getElem? (i := 1599) (by decide +kernel)⟩
theorem lw_p71 : lw_okq (⟨"GravyRoundModel", "numeral", "(II)I"⟩, 65) := ⟨⟨by decide +kernel, by decide +kernel⟩, List.mem_of_getElem? (i := 1261) (by decide +kernel), List.mem_of_getElem? (i := 1602) (by decide +kernel), List.mem_of_getElem? (i := 1603) (by decide +kernel)⟩
theorem lw_p72 : lw_okq (⟨"GravyRoundModel", "readFeud", "()V"⟩, 65) := ⟨⟨by decide +kernel, by decide +kernel⟩, List.mem_of_getElem? (i := 1261) (by decide +kernel), List.mem_of_getElem? (i := 1606) (by decide +kernel), List.mem_of_getElem? (i := 1607) (by decide +kernel)⟩
theorem lw_p73 : lw_okq (⟨"GravyRoundModel", "someone", "()I"⟩, 65) := ⟨⟨by decide +kernel, by decide +kernel⟩, List.mem_of_getElem? (i := 1261) (by decide +kernel), List.mem_of_getElem? (i := 1610) (by decide +kernel), List.mem_of_getElem? (i := 1611) (by decide +kernel)⟩
theorem lw_p74 : lw_okq (⟨"GravyRoundModel", "readRule", "()V"⟩, 65) := ⟨⟨by decide +kernel, by decide +kernel⟩, List.mem_of_getElem? (i := 1261) (by decide +kernel), List.mem_of_getElem? (i := 1614) (by decide +kernel), List.mem_of_getElem? (i := 1615) (by decide +kernel)⟩
theorem lw_p75 : lw_okq (⟨"GravyRoundModel", "e", "()V"⟩, 65) := ⟨⟨by decide +kernel, by decide +kernel⟩, List.mem_of_getElem? (i := 1261) (by decide +kernel), List.mem_of_getElem? (i := 1618) (by decide +kernel), List.mem_of_getElem? (i := 1619) (by decide +kernel)⟩
theorem lw_p76 : lw_okq (⟨"GravyRoundModel", "pushE", "(II)V"⟩, 65) := ⟨⟨by decide +kernel, by decide +kernel⟩, List.mem_of_getElem? (i := 1261) (by decide +kernel), List.mem_of_getElem? (i := 1622) (by decide +kernel), List.mem_of_getElem? (i := 1623) (by decide +kernel)⟩
theorem lw_p77 : lw_okq (⟨"GravyRoundModel", "unit", "()Z"⟩, 65) := ⟨⟨by decide +kernel, by decide +kernel⟩, List.mem_of_getElem? (i := 1261) (by decide +kernel), List.mem_of_getElem? (i := 1626) (by decide +kernel), List.mem_of_getElem? (i := 1627) (by decide +kernel)⟩
theorem lw_p78 : lw_okq (⟨"GravyRoundModel", "isSignHere", "(I)Z"⟩, 65) := ⟨⟨by decide +kernel, by decide +kernel⟩, List.mem_of_getElem? (i := 1261) (by decide +kernel), List.mem_of_getElem? (i := 1630) (by decide +kernel), List.mem_of_getElem? (i := 1631) (by decide +kernel)⟩
theorem lw_p79 : lw_okq (⟨"GravyRoundModel", "wordHere", "()I"⟩, 65) := ⟨⟨by decide +kernel, by decide +kernel⟩, List.mem_of_getElem? (i := 1261) (by decide +kernel), List.mem_of_getElem? (i := 1634) (by decide +kernel), List.mem_of_getElem? (i := 1635) (by decide +kernel)⟩
def lw_privs_5 : List (MethodName × Nat) := [(⟨"GravyRoundModel", "onceHere", "()I"⟩, 65), (⟨"GravyRoundModel", "misplaced", "()V"⟩, 65), (⟨"GravyRoundModel", "fails", "(II)V"⟩, 65), (⟨"GravyRoundModel", "readGuest", "()V"⟩, 65), (⟨"GravyRoundModel", "here", "()I"⟩, 65), (⟨"GravyRoundModel", "must", "(Z)V"⟩, 65), (⟨"GravyRoundModel", "after", "(JII)I"⟩, 65), (⟨"GravyRoundModel", "numeral", "(II)I"⟩, 65), (⟨"GravyRoundModel", "readFeud", "()V"⟩, 65), (⟨"GravyRoundModel", "someone", "()I"⟩, 65), (⟨"GravyRoundModel", "readRule", "()V"⟩, 65), (⟨"GravyRoundModel", "e", "()V"⟩, 65), (⟨"GravyRoundModel", "pushE", "(II)V"⟩, 65), (⟨"GravyRoundModel", "unit", "()Z"⟩, 65), (⟨"GravyRoundModel", "isSignHere", "(I)Z"⟩, 65), (⟨"GravyRoundModel", "wordHere", "()I"⟩, 65)]
theorem lw_r5 : ∀ q ∈ lw_privs_5, lw_okq q := List.forall_mem_cons.mpr ⟨lw_p64, List.forall_mem_cons.mpr ⟨lw_p65, List.forall_mem_cons.mpr ⟨lw_p66, List.forall_mem_cons.mpr ⟨lw_p67, List.forall_mem_cons.mpr ⟨lw_p68, List.forall_mem_cons.mpr ⟨lw_p69, List.forall_mem_cons.mpr ⟨lw_p70, List.forall_mem_cons.mpr ⟨lw_p71, List.forall_mem_cons.mpr ⟨lw_p72, List.forall_mem_cons.mpr ⟨lw_p73, List.forall_mem_cons.mpr ⟨lw_p74, List.forall_mem_cons.mpr ⟨lw_p75, List.forall_mem_cons.mpr ⟨lw_p76, List.forall_mem_cons.mpr ⟨lw_p77, List.forall_mem_cons.mpr ⟨lw_p78, List.forall_mem_cons.mpr ⟨lw_p79, fun _ h => absurd h List.not_mem_nil⟩⟩⟩⟩⟩⟩⟩⟩⟩⟩⟩⟩⟩⟩⟩⟩
theorem lw_p80 : lw_okq (⟨"GravyRoundModel", "emit", "(II)V"⟩, 65) := ⟨⟨by decide +kernel, by decide +kernel⟩, List.mem_of_getElem? (i := 1261) (by decide +kernel), List.mem_of_getElem? (i := 1638) (by decide +kernel), List.mem_of_getElem? (i := 1639) (by decide +kernel)⟩
theorem lw_p81 : lw_okq (⟨"GravyRoundModel", "behindUnit", "()Z"⟩, 65) := ⟨⟨by decide +kernel, by decide +kernel⟩, List.mem_of_getElem? (i := 1261) (by decide +kernel), List.mem_of_getElem? (i := 1642) (by decide +kernel), List.mem_of_getElem? (i := 1643) (by decide +kernel)⟩
theorem lw_p82 : lw_okq (⟨"GravyRoundModel", "rankHere", "()I"⟩, 65) := ⟨⟨by decide +kernel, by decide +kernel⟩, List.mem_of_getElem? (i := 1261) (by decide +kernel), List.mem_of_getElem? (i := 1646) (by decide +kernel), List.mem_of_getElem? (i := 1647) (by decide +kernel)⟩
theorem lw_p83 : lw_okq (⟨"GravyRoundModel", "isCompared", "()Z"⟩, 65) := ⟨⟨by decide +kernel, by decide +kernel⟩, List.mem_of_getElem? (i := 1261) (by decide +kernel), List.mem_of_getElem? (i := 1650) (by decide +kernel), List.mem_of_getElem? (i := 1651) (by decide +kernel)⟩
theorem lw_p84 : lw_okq (⟨"GravyRoundModel", "takesOf", "(I)I"⟩, 65) := ⟨⟨by decide +kernel, by decide +kernel⟩, List.mem_of_getElem? (i := 1261) (by decide +kernel), List.mem_of_getElem? (i := 1662) (by decide +kernel), List.mem_of_getElem? (i := 1663) (by decide +kernel)⟩
theorem lw_p85 : lw_okq (⟨"GravyRoundModel", "foesOf", "(I)I"⟩, 65) := ⟨⟨by decide +kernel, by decide +kernel⟩, List.mem_of_getElem? (i := 1261) (by decide +kernel), List.mem_of_getElem? (i := 1666) (by decide +kernel), List.mem_of_getElem? (i := 1667) (by decide +kernel)⟩
theorem lw_p86 : lw_okq (⟨"GravyRoundModel", "isFeud", "(I)Z"⟩, 65) := ⟨⟨by decide +kernel, by decide +kernel⟩, List.mem_of_getElem? (i := 1261) (by decide +kernel), List.mem_of_getElem? (i := 1678) (by decide +kernel), List.mem_of_getElem? (i := 1679) (by decide +kernel)⟩
theorem lw_p87 : lw_okq (⟨"GravyRoundModel", "roundNow", "()I"⟩, 65) := ⟨⟨by decide +kernel, by decide +kernel⟩, List.mem_of_getElem? (i := 1261) (by decide +kernel), List.mem_of_getElem? (i := 1686) (by decide +kernel), List.mem_of_getElem? (i := 1687) (by decide +kernel)⟩
theorem lw_p88 : lw_okq (⟨"GravyRoundModel", "keepAct", "()V"⟩, 65) := ⟨⟨by decide +kernel, by decide +kernel⟩, List.mem_of_getElem? (i := 1261) (by decide +kernel), List.mem_of_getElem? (i := 1717) (by decide +kernel), List.mem_of_getElem? (i := 1718) (by decide +kernel)⟩
theorem lw_p89 : lw_okq (⟨"GravyRoundModel", "goMinute", "(Z)I"⟩, 65) := ⟨⟨by decide +kernel, by decide +kernel⟩, List.mem_of_getElem? (i := 1261) (by decide +kernel), List.mem_of_getElem? (i := 1721) (by decide +kernel), List.mem_of_getElem? (i := 1722) (by decide +kernel)⟩
theorem lw_p90 : lw_okq (⟨"GravyRoundModel", "goCool", "()V"⟩, 65) := ⟨⟨by decide +kernel, by decide +kernel⟩, List.mem_of_getElem? (i := 1261) (by decide +kernel), List.mem_of_getElem? (i := 1725) (by decide +kernel), List.mem_of_getElem? (i := 1726) (by decide +kernel)⟩
theorem lw_p91 : lw_okq (⟨"GravyRoundModel", "comes", "()I"⟩, 65) := ⟨⟨by decide +kernel, by decide +kernel⟩, List.mem_of_getElem? (i := 1261) (by decide +kernel), List.mem_of_getElem? (i := 1729) (by decide +kernel), List.mem_of_getElem? (i := 1730) (by decide +kernel)⟩
theorem lw_p92 : lw_okq (⟨"GravyRoundModel", "asked", "(II)I"⟩, 65) := ⟨⟨by decide +kernel, by decide +kernel⟩, List.mem_of_getElem? (i := 1261) (by decide +kernel), List.mem_of_getElem? (i := 1733) (by decide +kernel), List.mem_of_getElem? (i := 1734) (by decide +kernel)⟩
theorem lw_p93 : lw_okq (⟨"GravyRoundModel", "seatNow", "()I"⟩, 65) := ⟨⟨by decide +kernel, by decide +kernel⟩, List.mem_of_getElem? (i := 1261) (by decide +kernel), List.mem_of_getElem? (i := 1737) (by decide +kernel), List.mem_of_getElem? (i := 1738) (by decide +kernel)⟩
theorem lw_p94 : lw_okq (⟨"GravyRoundModel", "serve", "(Z)I"⟩, 65) := ⟨⟨by decide +kernel, by decide +kernel⟩, List.mem_of_getElem? (i := 1261) (by decide +kernel), List.mem_of_getElem? (i := 1747) (by decide +kernel), List.mem_of_getElem? (i := 1748) (by decide +kernel)⟩
theorem lw_p95 : lw_okq (⟨"GravyRoundModel", "swapSeats", "(II)V"⟩, 65) := ⟨⟨by decide +kernel, by decide +kernel⟩, List.mem_of_getElem? (i := 1261) (by decide +kernel), List.mem_of_getElem? (i := 1755) (by decide +kernel), List.mem_of_getElem? (i := 1756) (by decide +kernel)⟩
def lw_privs_6 : List (MethodName × Nat) := [(⟨"GravyRoundModel", "emit", "(II)V"⟩, 65), (⟨"GravyRoundModel", "behindUnit", "()Z"⟩, 65), (⟨"GravyRoundModel", "rankHere", "()I"⟩, 65), (⟨"GravyRoundModel", "isCompared", "()Z"⟩, 65), (⟨"GravyRoundModel", "takesOf", "(I)I"⟩, 65), (⟨"GravyRoundModel", "foesOf", "(I)I"⟩, 65), (⟨"GravyRoundModel", "isFeud", "(I)Z"⟩, 65), (⟨"GravyRoundModel", "roundNow", "()I"⟩, 65), (⟨"GravyRoundModel", "keepAct", "()V"⟩, 65), (⟨"GravyRoundModel", "goMinute", "(Z)I"⟩, 65), (⟨"GravyRoundModel", "goCool", "()V"⟩, 65), (⟨"GravyRoundModel", "comes", "()I"⟩, 65), (⟨"GravyRoundModel", "asked", "(II)I"⟩, 65), (⟨"GravyRoundModel", "seatNow", "()I"⟩, 65), (⟨"GravyRoundModel", "serve", "(Z)I"⟩, 65), (⟨"GravyRoundModel", "swapSeats", "(II)V"⟩, 65)]
theorem lw_r6 : ∀ q ∈ lw_privs_6, lw_okq q := List.forall_mem_cons.mpr ⟨lw_p80, List.forall_mem_cons.mpr ⟨lw_p81, List.forall_mem_cons.mpr ⟨lw_p82, List.forall_mem_cons.mpr ⟨lw_p83, List.forall_mem_cons.mpr ⟨lw_p84, List.forall_mem_cons.mpr ⟨lw_p85, List.forall_mem_cons.mpr ⟨lw_p86, List.forall_mem_cons.mpr ⟨lw_p87, List.forall_mem_cons.mpr ⟨lw_p88, List.forall_mem_cons.mpr ⟨lw_p89, List.forall_mem_cons.mpr ⟨lw_p90, List.forall_mem_cons.mpr ⟨lw_p91, List.forall_mem_cons.mpr ⟨lw_p92, List.forall_mem_cons.mpr ⟨lw_p93, List.forall_mem_cons.mpr ⟨lw_p94, List.forall_mem_cons.mpr ⟨lw_p95, fun _ h => absurd h List.not_mem_nil⟩⟩⟩⟩⟩⟩⟩⟩⟩⟩⟩⟩⟩⟩⟩⟩
theorem lw_p96 : lw_okq (⟨"GravyRoundModel", "turnFeud", "(IZ)I"⟩, 65) := ⟨⟨by decide +kernel, by decide +kernel⟩, List.mem_of_getElem? (i := 1261) (by decide +kernel), List.mem_of_getElem? (i := 1763) (by decide +kernel), List.mem_of_getElem? (i := 1764) (by decide +kernel)⟩
theorem lw_p97 : lw_okq (⟨"GravyRoundModel", "swapAll", "()V"⟩, 65) := ⟨⟨by decide +kernel, by decide +kernel⟩, List.mem_of_getElem? (i := 1261) (by decide +kernel), List.mem_of_getElem? (i := 1783) (by decide +kernel), List.mem_of_getElem? (i := 1784) (by decide +kernel)⟩
theorem lw_p98 : lw_okq (⟨"GravyRoundModel", "keepNow", "()V"⟩, 65) := ⟨⟨by decide +kernel, by decide +kernel⟩, List.mem_of_getElem? (i := 1261) (by decide +kernel), List.mem_of_getElem? (i := 1795) (by decide +kernel), List.mem_of_getElem? (i := 1796) (by decide +kernel)⟩
theorem lw_p99 : lw_okq (⟨"GravyRoundModel", "bringBack", "()V"⟩, 65) := ⟨⟨by decide +kernel, by decide +kernel⟩, List.mem_of_getElem? (i := 1261) (by decide +kernel), List.mem_of_getElem? (i := 1799) (by decide +kernel), List.mem_of_getElem? (i := 1800) (by decide +kernel)⟩
theorem lw_p100 : lw_okq (⟨"GravyRoundModel", "goTillOver", "(Z)I"⟩, 65) := ⟨⟨by decide +kernel, by decide +kernel⟩, List.mem_of_getElem? (i := 1261) (by decide +kernel), List.mem_of_getElem? (i := 1807) (by decide +kernel), List.mem_of_getElem? (i := 1808) (by decide +kernel)⟩
theorem lw_p101 : lw_okq (⟨"GravyRoundModel", "bestOf", "(I)I"⟩, 65) := ⟨⟨by decide +kernel, by decide +kernel⟩, List.mem_of_getElem? (i := 1261) (by decide +kernel), List.mem_of_getElem? (i := 1831) (by decide +kernel), List.mem_of_getElem? (i := 1832) (by decide +kernel)⟩
theorem lw_p102 : lw_okq (⟨"GravyRoundModel", "manyBehind", "()I"⟩, 65) := ⟨⟨by decide +kernel, by decide +kernel⟩, List.mem_of_getElem? (i := 1261) (by decide +kernel), List.mem_of_getElem? (i := 1835) (by decide +kernel), List.mem_of_getElem? (i := 1836) (by decide +kernel)⟩
theorem lw_p103 : lw_okq (⟨"GravyRoundModel", "layFirst", "()V"⟩, 65) := ⟨⟨by decide +kernel, by decide +kernel⟩, List.mem_of_getElem? (i := 1261) (by decide +kernel), List.mem_of_getElem? (i := 1840) (by decide +kernel), List.mem_of_getElem? (i := 1841) (by decide +kernel)⟩
theorem lw_p104 : lw_okq (⟨"GravyRoundModel", "sitInOrder", "(I)V"⟩, 65) := ⟨⟨by decide +kernel, by decide +kernel⟩, List.mem_of_getElem? (i := 1261) (by decide +kernel), List.mem_of_getElem? (i := 1844) (by decide +kernel), List.mem_of_getElem? (i := 1845) (by decide +kernel)⟩
theorem lw_p105 : lw_okq (⟨"GravyRoundModel", "worthOf", "(I)I"⟩, 65) := ⟨⟨by decide +kernel, by decide +kernel⟩, List.mem_of_getElem? (i := 1261) (by decide +kernel), List.mem_of_getElem? (i := 1848) (by decide +kernel), List.mem_of_getElem? (i := 1849) (by decide +kernel)⟩
theorem lw_p106 : lw_okq (⟨"GravyRoundModel", "warmthOfLast", "()I"⟩, 65) := ⟨⟨by decide +kernel, by decide +kernel⟩, List.mem_of_getElem? (i := 1261) (by decide +kernel), List.mem_of_getElem? (i := 1852) (by decide +kernel), List.mem_of_getElem? (i := 1853) (by decide +kernel)⟩
theorem lw_p107 : lw_okq (⟨"GravyRoundModel", "uneasy", "()I"⟩, 65) := ⟨⟨by decide +kernel, by decide +kernel⟩, List.mem_of_getElem? (i := 1261) (by decide +kernel), List.mem_of_getElem? (i := 1856) (by decide +kernel), List.mem_of_getElem? (i := 1857) (by decide +kernel)⟩
theorem lw_p108 : lw_okq (⟨"GravyRoundModel", "hasNext", "(I)Z"⟩, 65) := ⟨⟨by decide +kernel, by decide +kernel⟩, List.mem_of_getElem? (i := 1261) (by decide +kernel), List.mem_of_getElem? (i := 1860) (by decide +kernel), List.mem_of_getElem? (i := 1861) (by decide +kernel)⟩
theorem lw_p109 : lw_okq (⟨"GravyRoundModel", "swapOrder", "(II)V"⟩, 65) := ⟨⟨by decide +kernel, by decide +kernel⟩, List.mem_of_getElem? (i := 1261) (by decide +kernel), List.mem_of_getElem? (i := 1864) (by decide +kernel), List.mem_of_getElem? (i := 1865) (by decide +kernel)⟩
theorem lw_p110 : lw_okq (⟨"GravyRoundModel", "layBest", "()V"⟩, 65) := ⟨⟨by decide +kernel, by decide +kernel⟩, List.mem_of_getElem? (i := 1261) (by decide +kernel), List.mem_of_getElem? (i := 1868) (by decide +kernel), List.mem_of_getElem? (i := 1869) (by decide +kernel)⟩
theorem lw_p111 : lw_okq (⟨"GravyRoundModel", "canSeat", "(I)Z"⟩, 65) := ⟨⟨by decide +kernel, by decide +kernel⟩, List.mem_of_getElem? (i := 1261) (by decide +kernel), List.mem_of_getElem? (i := 1903) (by decide +kernel), List.mem_of_getElem? (i := 1904) (by decide +kernel)⟩
def lw_privs_7 : List (MethodName × Nat) := [(⟨"GravyRoundModel", "turnFeud", "(IZ)I"⟩, 65), (⟨"GravyRoundModel", "swapAll", "()V"⟩, 65), (⟨"GravyRoundModel", "keepNow", "()V"⟩, 65), (⟨"GravyRoundModel", "bringBack", "()V"⟩, 65), (⟨"GravyRoundModel", "goTillOver", "(Z)I"⟩, 65), (⟨"GravyRoundModel", "bestOf", "(I)I"⟩, 65), (⟨"GravyRoundModel", "manyBehind", "()I"⟩, 65), (⟨"GravyRoundModel", "layFirst", "()V"⟩, 65), (⟨"GravyRoundModel", "sitInOrder", "(I)V"⟩, 65), (⟨"GravyRoundModel", "worthOf", "(I)I"⟩, 65), (⟨"GravyRoundModel", "warmthOfLast", "()I"⟩, 65), (⟨"GravyRoundModel", "uneasy", "()I"⟩, 65), (⟨"GravyRoundModel", "hasNext", "(I)Z"⟩, 65), (⟨"GravyRoundModel", "swapOrder", "(II)V"⟩, 65), (⟨"GravyRoundModel", "layBest", "()V"⟩, 65), (⟨"GravyRoundModel", "canSeat", "(I)Z"⟩, 65)]
theorem lw_r7 : ∀ q ∈ lw_privs_7, lw_okq q := List.forall_mem_cons.mpr ⟨lw_p96, List.forall_mem_cons.mpr ⟨lw_p97, List.forall_mem_cons.mpr ⟨lw_p98, List.forall_mem_cons.mpr ⟨lw_p99, List.forall_mem_cons.mpr ⟨lw_p100, List.forall_mem_cons.mpr ⟨lw_p101, List.forall_mem_cons.mpr ⟨lw_p102, List.forall_mem_cons.mpr ⟨lw_p103, List.forall_mem_cons.mpr ⟨lw_p104, List.forall_mem_cons.mpr ⟨lw_p105, List.forall_mem_cons.mpr ⟨lw_p106, List.forall_mem_cons.mpr ⟨lw_p107, List.forall_mem_cons.mpr ⟨lw_p108, List.forall_mem_cons.mpr ⟨lw_p109, List.forall_mem_cons.mpr ⟨lw_p110, List.forall_mem_cons.mpr ⟨lw_p111, fun _ h => absurd h List.not_mem_nil⟩⟩⟩⟩⟩⟩⟩⟩⟩⟩⟩⟩⟩⟩⟩⟩
theorem lw_p112 : lw_okq (⟨"GravyRoundModel", "isEasy", "(I)Z"⟩, 65) := ⟨⟨by decide +kernel, by decide +kernel⟩, List.mem_of_getElem? (i := 1261) (by decide +kernel), List.mem_of_getElem? (i := 1907) (by decide +kernel), List.mem_of_getElem? (i := 1908) (by decide +kernel)⟩
theorem lw_p113 : lw_okq (⟨"GravyRoundModel", "clanOf", "(I)I"⟩, 65) := ⟨⟨by decide +kernel, by decide +kernel⟩, List.mem_of_getElem? (i := 1261) (by decide +kernel), List.mem_of_getElem? (i := 1915) (by decide +kernel), List.mem_of_getElem? (i := 1916) (by decide +kernel)⟩
theorem lw_p114 : lw_okq (⟨"GravyRoundModel", "friendsOf", "(I)I"⟩, 65) := ⟨⟨by decide +kernel, by decide +kernel⟩, List.mem_of_getElem? (i := 1261) (by decide +kernel), List.mem_of_getElem? (i := 1919) (by decide +kernel), List.mem_of_getElem? (i := 1920) (by decide +kernel)⟩
theorem lw_p115 : lw_okq (⟨"GravyRoundModel", "thinkTakes", "()V"⟩, 65) := ⟨⟨by decide +kernel, by decide +kernel⟩, List.mem_of_getElem? (i := 1261) (by decide +kernel), List.mem_of_getElem? (i := 1931) (by decide +kernel), List.mem_of_getElem? (i := 1932) (by decide +kernel)⟩
theorem lw_p116 : lw_okq (⟨"GravyRoundModel", "gotByLast", "()I"⟩, 65) := ⟨⟨by decide +kernel, by decide +kernel⟩, List.mem_of_getElem? (i := 1261) (by decide +kernel), List.mem_of_getElem? (i := 1935) (by decide +kernel), List.mem_of_getElem? (i := 1936) (by decide +kernel)⟩
theorem lw_p117 : lw_okq (⟨"GravyRoundModel", "layGreed", "(II)V"⟩, 65) := ⟨⟨by decide +kernel, by decide +kernel⟩, List.mem_of_getElem? (i := 1261) (by decide +kernel), List.mem_of_getElem? (i := 1943) (by decide +kernel), List.mem_of_getElem? (i := 1944) (by decide +kernel)⟩
theorem lw_p118 : lw_okq (⟨"GravyRoundModel", "layStands", "()V"⟩, 65) := ⟨⟨by decide +kernel, by decide +kernel⟩, List.mem_of_getElem? (i := 1261) (by decide +kernel), List.mem_of_getElem? (i := 1973) (by decide +kernel), List.mem_of_getElem? (i := 1974) (by decide +kernel)⟩
theorem lw_p119 : lw_okq (⟨"GravyRoundModel", "doesFit", "(II)Z"⟩, 65) := ⟨⟨by decide +kernel, by decide +kernel⟩, List.mem_of_getElem? (i := 1261) (by decide +kernel), List.mem_of_getElem? (i := 1977) (by decide +kernel), List.mem_of_getElem? (i := 1978) (by decide +kernel)⟩
theorem lw_p120 : lw_okq (⟨"GravyRoundModel", "mostBy", "(II)I"⟩, 65) := ⟨⟨by decide +kernel, by decide +kernel⟩, List.mem_of_getElem? (i := 1261) (by decide +kernel), List.mem_of_getElem? (i := 1990) (by decide +kernel), List.mem_of_getElem? (i := 1991) (by decide +kernel)⟩
def lw_privs_8 : List (MethodName × Nat) := [(⟨"GravyRoundModel", "isEasy", "(I)Z"⟩, 65), (⟨"GravyRoundModel", "clanOf", "(I)I"⟩, 65), (⟨"GravyRoundModel", "friendsOf", "(I)I"⟩, 65), (⟨"GravyRoundModel", "thinkTakes", "()V"⟩, 65), (⟨"GravyRoundModel", "gotByLast", "()I"⟩, 65), (⟨"GravyRoundModel", "layGreed", "(II)V"⟩, 65), (⟨"GravyRoundModel", "layStands", "()V"⟩, 65), (⟨"GravyRoundModel", "doesFit", "(II)Z"⟩, 65), (⟨"GravyRoundModel", "mostBy", "(II)I"⟩, 65)]
theorem lw_r8 : ∀ q ∈ lw_privs_8, lw_okq q := List.forall_mem_cons.mpr ⟨lw_p112, List.forall_mem_cons.mpr ⟨lw_p113, List.forall_mem_cons.mpr ⟨lw_p114, List.forall_mem_cons.mpr ⟨lw_p115, List.forall_mem_cons.mpr ⟨lw_p116, List.forall_mem_cons.mpr ⟨lw_p117, List.forall_mem_cons.mpr ⟨lw_p118, List.forall_mem_cons.mpr ⟨lw_p119, List.forall_mem_cons.mpr ⟨lw_p120, fun _ h => absurd h List.not_mem_nil⟩⟩⟩⟩⟩⟩⟩⟩⟩
def lw_privs : List (MethodName × Nat) := lw_privs_1 ++ (lw_privs_2 ++ (lw_privs_3 ++ (lw_privs_4 ++ (lw_privs_5 ++ (lw_privs_6 ++ (lw_privs_7 ++ (lw_privs_8)))))))
def lw_tbl : List Cond := k2_sels lw_privs ++ tables_1
theorem lw_privs_ok : ∀ q ∈ lw_privs, lw_okq q := by
  show ∀ q ∈ lw_privs_1 ++ (lw_privs_2 ++ (lw_privs_3 ++ (lw_privs_4 ++ (lw_privs_5 ++ (lw_privs_6 ++ (lw_privs_7 ++ (lw_privs_8))))))), lw_okq q
  exact List.forall_mem_append.mpr ⟨lw_r1, List.forall_mem_append.mpr ⟨lw_r2, List.forall_mem_append.mpr ⟨lw_r3, List.forall_mem_append.mpr ⟨lw_r4, List.forall_mem_append.mpr ⟨lw_r5, List.forall_mem_append.mpr ⟨lw_r6, List.forall_mem_append.mpr ⟨lw_r7, lw_r8⟩⟩⟩⟩⟩⟩⟩
/-- the words that every method's contract has: all that stay when the tables get warmer -/
def gw_tbl : List Cond := lw_tbl.filter goodWord
def gw_ok (i : Nat) (w : Cond) : Bool := decide (lw_tbl[i]? = some w) && goodWord w
theorem gw_mem {i : Nat} {w : Cond} (h : gw_ok i w = true) : w ∈ gw_tbl := by
  unfold gw_ok at h
  simp only [Bool.and_eq_true, decide_eq_true_eq] at h
  exact List.mem_filter.mpr ⟨List.mem_of_getElem? h.1, h.2⟩
theorem gw_good : GoodIn gw_tbl gw_tbl := fun w hw => ⟨hw, good_of_word (List.mem_filter.mp hw).2⟩
end
section
/-! MY OWN SYMBOLIC MACHINE, to be run by the kernel. A value is a number 8 * payload + tag: 0 an int (its 32 bits), 1 a symbol (an int, by its number), 2 any int, 3 a cell of the world (by its place), 4 null, 5 a long (its 64 bits), 6 a cell that was there before (a text's, the script's), 7 nothing. -/
abbrev ga_E : Type := Nat × Nat × Instr × Nat × Nat × List (Nat × Nat)
abbrev ga_C : Type := Nat × Nat × List Nat
abbrev ga_H : Type := List (List ga_C)
abbrev ga_I : Type := List (Nat × Nat)
abbrev ga_O : Type := List ga_E × List Nat × List Nat × Nat × Nat × ga_I × Nat × ga_H
abbrev ga_A : Type := Nat × ga_I × Nat × ga_H
abbrev ga_G : Type := List ga_E → List Nat → List Nat → Nat → Nat → ga_I → Nat → ga_H → Option (List ga_O)
/-- a method: its code, its free locals, all locals, arguments, cells, slots, kind of answer, class of the receiver (999: none) -/
abbrev ga_M : Type := List ga_E × Nat × Nat × Nat × Nat × Nat × Nat × Nat
noncomputable def ga_f {β : Type} (n : Nat) (K : Nat → β) : β := Nat.rec (K 0) (fun m _ => K (Nat.succ m)) n
noncomputable def ga_if {α : Type} (b : Bool) (t e : α) : α := Bool.rec e t b
noncomputable def ga_nth {α : Type} (d : α) (l : List α) : Nat → α := List.rec (fun _ => d) (fun x _ ih n => Nat.rec x (fun m _ => ih m) n) l
noncomputable def ga_set {α β : Type} (l : List α) : Nat → α → (List α → β) → β := List.rec (fun _ _ K => K []) (fun x r ih n v K => Nat.rec (K (v :: r)) (fun m _ => ih m v (fun r' => K (x :: r'))) n) l
noncomputable def ga_put {β : Type} (d : Nat) (l : List Nat) : Nat → Nat → (List Nat → β) → β := List.rec (fun n v K => Nat.rec (motive := fun _ => (List Nat → β) → β) (fun K => K [v]) (fun _ ih K => ih (fun r => K (d :: r))) n K) (fun x r ih n v K => Nat.rec (K (v :: r)) (fun m _ => ih m v (fun r' => K (x :: r'))) n) l
noncomputable def ga_hg (h : ga_H) (k : Nat) : ga_C := ga_nth (999, 0, []) (ga_nth [] h (k / 16)) (k % 16)
noncomputable def ga_hs {β : Type} (h : ga_H) (k : Nat) (c : ga_C) (K : ga_H → β) : β := ga_set (ga_nth [] h (k / 16)) (k % 16) c (fun r => ga_set h (k / 16) r K)
/-- the order of ints as that of numbers -/
noncomputable def ga_key (n : Nat) : Nat := (n + 2147483648) % 4294967296
noncomputable def ga_iv (iv : ga_I) (i : Nat) : Nat × Nat := ga_nth (0, 4294967295) iv i
noncomputable def ga_lo (iv : ga_I) (v : Nat) : Nat := ga_if (Nat.beq (v % 8) 0) (ga_key (v / 8)) (ga_if (Nat.beq (v % 8) 1) (ga_iv iv (v / 8)).1 0)
noncomputable def ga_hi (iv : ga_I) (v : Nat) : Nat := ga_if (Nat.beq (v % 8) 0) (ga_key (v / 8)) (ga_if (Nat.beq (v % 8) 1) (ga_iv iv (v / 8)).2 4294967295)
/-- a symbol of which one value is left is that value -/
noncomputable def ga_sm (iv : ga_I) (v : Nat) : Nat := ga_if (Nat.beq (v % 8) 1) (ga_if (Nat.beq (ga_iv iv (v / 8)).1 (ga_iv iv (v / 8)).2) (8 * ga_key (ga_iv iv (v / 8)).1) v) v
/-- an int, whichever -/
noncomputable def ga_int (v : Nat) : Bool := Nat.ble (v % 8) 2
noncomputable def ga_ref (v : Nat) : Bool := Nat.beq (v % 8) 3
noncomputable def ga_lt (iv : ga_I) (x y : Nat) : List (Bool × ga_I) :=
  ga_f (ga_lo iv x) (fun lx => ga_f (ga_hi iv x) (fun hx => ga_f (ga_lo iv y) (fun ly => ga_f (ga_hi iv y) (fun hy =>
    ga_if (Nat.blt hx ly) [(true, iv)] (ga_if (Nat.ble hy lx) [(false, iv)]
      (ga_if (and (Nat.beq (x % 8) 1) (Nat.beq ly hy)) (ga_f (ly - 1) (fun c => ga_set iv (x / 8) (lx, c) (fun i1 => ga_set iv (x / 8) (ly, hx) (fun i2 => [(true, i1), (false, i2)]))))
        (ga_if (and (Nat.beq (y % 8) 1) (Nat.beq lx hx)) (ga_f (lx + 1) (fun c => ga_set iv (y / 8) (c, hy) (fun i1 => ga_set iv (y / 8) (ly, lx) (fun i2 => [(true, i1), (false, i2)]))))
          [(true, iv), (false, iv)])))))))
noncomputable def ga_eq3 (iv : ga_I) (i lo hi c : Nat) : List (Bool × ga_I) :=
  ga_f (c - 1) (fun cm => ga_f (c + 1) (fun cp => ga_set iv i (c, c) (fun ie => ga_set iv i (lo, cm) (fun il => ga_set iv i (cp, hi) (fun ih =>
    ga_if (Nat.blt lo c) (ga_if (Nat.blt c hi) [(false, il), (true, ie), (false, ih)] [(false, il), (true, ie)]) (ga_if (Nat.blt c hi) [(true, ie), (false, ih)] [(true, ie)]))))))
noncomputable def ga_eq (iv : ga_I) (x y : Nat) : List (Bool × ga_I) :=
  ga_f (ga_lo iv x) (fun lx => ga_f (ga_hi iv x) (fun hx => ga_f (ga_lo iv y) (fun ly => ga_f (ga_hi iv y) (fun hy =>
    ga_if (or (Nat.blt hx ly) (Nat.blt hy lx)) [(false, iv)] (ga_if (and (Nat.beq lx hx) (Nat.beq ly hy)) [(true, iv)]
      (ga_if (and (Nat.beq x y) (Nat.beq (x % 8) 1)) [(true, iv)]
        (ga_if (and (Nat.beq (x % 8) 1) (Nat.beq ly hy)) (ga_eq3 iv (x / 8) lx hx ly)
          (ga_if (and (Nat.beq (y % 8) 1) (Nat.beq lx hx)) (ga_eq3 iv (y / 8) ly hy lx) [(true, iv), (false, iv)]))))))))
noncomputable def ga_cat (a b : Option (List ga_O)) : Option (List ga_O) := Option.rec none (fun x => Option.rec none (fun y => some (x ++ y)) b) a
/-- all of the ways on -/
noncomputable def ga_all {α : Type} (l : List α) (K : α → Option (List ga_O)) : Option (List ga_O) := List.rec (some []) (fun x r ih => List.rec (K x) (fun _ _ _ => ga_cat (K x) ih) r) l
noncomputable def ga_br (o : List (Bool × ga_I)) (kt kf : ga_I → Option (List ga_O)) : Option (List ga_O) := ga_all o (fun q => ga_if q.1 (kt q.2) (kf q.2))
noncomputable def ga_jmp (l : List ga_E) (t : Nat) : List ga_E := List.rec [] (fun e r ih => ga_if (Nat.beq e.1 t) (e :: r) ih) l
noncomputable def ga_l2 (x y : Nat) : Bool := and (Nat.beq (x % 8) 0) (Nat.beq (y % 8) 0)
noncomputable def ga_i2 (x y : Nat) : Bool := and (ga_int x) (ga_int y)
noncomputable def ga_add (x y : Nat) : Nat := ga_if (ga_l2 x y) ((x + y) % 34359738368) (ga_if (ga_i2 x y) (ga_if (Nat.beq y 0) x (ga_if (Nat.beq x 0) y 2)) 7)
noncomputable def ga_sub (x y : Nat) : Nat := ga_if (ga_l2 x y) ((x + 34359738368 - y) % 34359738368) (ga_if (ga_i2 x y) (ga_if (Nat.beq y 0) x 2) 7)
noncomputable def ga_mul (x y : Nat) : Nat := ga_if (ga_l2 x y) (8 * (x / 8 * (y / 8) % 4294967296)) (ga_if (ga_i2 x y) (ga_if (or (Nat.beq x 0) (Nat.beq y 0)) 0 2) 7)
noncomputable def ga_and (x y : Nat) : Nat := ga_if (ga_l2 x y) (8 * (Nat.land (x / 8) (y / 8))) (ga_if (ga_i2 x y) (ga_if (or (Nat.beq x 0) (Nat.beq y 0)) 0 (ga_if (and (Nat.beq x 1) (Nat.beq y 504)) 49 2)) 7)
noncomputable def ga_or (x y : Nat) : Nat := ga_if (ga_l2 x y) (8 * (Nat.lor (x / 8) (y / 8))) (ga_if (ga_i2 x y) 2 7)
noncomputable def ga_xor (x y : Nat) : Nat := ga_if (ga_l2 x y) (8 * (Nat.xor (x / 8) (y / 8))) (ga_if (ga_i2 x y) 2 7)
noncomputable def ga_shl (x y : Nat) : Nat := ga_if (ga_l2 x y) (ga_if (and (Nat.blt (y / 8) 31) (Nat.blt (x / 8 * 2 ^ (y / 8)) 4294967296)) (8 * (x / 8 * 2 ^ (y / 8))) 7) (ga_if (ga_i2 x y) 2 7)
noncomputable def ga_shr (x y : Nat) : Nat := ga_if (and (ga_l2 x y) (and (Nat.blt (y / 8) 31) (Nat.blt (x / 8) 2147483648))) (8 * (x / 8 / 2 ^ (y / 8))) (ga_if (ga_i2 x y) (ga_if (Nat.beq x 0) 0 2) 7)
noncomputable def ga_ush (x y : Nat) : Nat := ga_if (and (ga_l2 x y) (Nat.blt (y / 8) 31)) (8 * (x / 8 / 2 ^ (y / 8))) (ga_if (ga_i2 x y) 2 7)
noncomputable def ga_div (x y : Nat) : Nat := ga_if (and (ga_l2 x y) (and (Nat.blt 0 (y / 8)) (and (Nat.blt (x / 8) 2147483648) (Nat.blt (y / 8) 2147483648)))) (8 * (x / 8 / (y / 8))) 7
noncomputable def ga_rem (x y : Nat) : Nat := ga_if (and (ga_l2 x y) (and (Nat.blt 0 (y / 8)) (and (Nat.blt (x / 8) 2147483648) (Nat.blt (y / 8) 2147483648)))) (8 * (x / 8 % (y / 8))) 7
noncomputable def ga_lad (x y : Nat) : Nat := ga_if (and (Nat.beq (x % 8) 5) (Nat.beq (y % 8) 5)) (8 * ((x / 8 + y / 8) % 18446744073709551616) + 5) 7
noncomputable def ga_lmu (x y : Nat) : Nat := ga_if (and (Nat.beq (x % 8) 5) (Nat.beq (y % 8) 5)) (8 * ((x / 8 * (y / 8)) % 18446744073709551616) + 5) 7
noncomputable def ga_i2b (x : Nat) : Nat := ga_if (and (Nat.beq (x % 8) 0) (Nat.blt (x / 8) 128)) x (ga_if (ga_int x) 2 7)
noncomputable def ga_i2l (x : Nat) : Nat := ga_if (and (Nat.beq (x % 8) 0) (Nat.blt (x / 8) 2147483648)) (x + 5) 7
end
section
/-- how many words a stack has -/
noncomputable def ga_wd (t : List Nat) : Nat := List.rec 0 (fun v _ ih => ga_if (Nat.beq (v % 8) 5) (ih + 2) (ih + 1)) t
noncomputable def ga_p (v : Nat) (K : Nat → Option (List ga_O)) : Option (List ga_O) := ga_f v (fun v => ga_if (Nat.beq (v % 8) 7) none (K v))
noncomputable def ga_op2 (f : Nat → Nat → Nat) (go : ga_G) (nx : List ga_E) (al sk : List Nat) (cs ss : Nat) (iv : ga_I) (n : Nat) (h : ga_H) : Option (List ga_O) :=
  match sk with
  | y :: x :: r => ga_p (f (ga_sm iv x) (ga_sm iv y)) (fun v => go nx al (v :: r) cs ss iv n h)
  | _ => none
noncomputable def ga_op1 (f : Nat → Nat) (go : ga_G) (nx : List ga_E) (al sk : List Nat) (cs ss : Nat) (iv : ga_I) (n : Nat) (h : ga_H) : Option (List ga_O) :=
  match sk with
  | x :: r => ga_p (f (ga_sm iv x)) (fun v => go nx al (v :: r) cs ss iv n h)
  | _ => none
noncomputable def ga_load (ok : Nat → Bool) (i : Nat) (go : ga_G) (nx : List ga_E) (al sk : List Nat) (cs ss : Nat) (iv : ga_I) (n : Nat) (h : ga_H) : Option (List ga_O) :=
  ga_f (ga_nth 7 al i) (fun v => ga_if (ok v) (go nx al (v :: sk) cs ss iv n h) none)
/-- what stands ahead of a local isn't a long -/
noncomputable def ga_ahead (al : List Nat) (i : Nat) : Bool := Nat.rec true (fun j _ => ga_if (Nat.beq (ga_nth 7 al j % 8) 5) false true) i
noncomputable def ga_store (ok : Nat → Bool) (i : Nat) (go : ga_G) (nx : List ga_E) (al sk : List Nat) (cs ss : Nat) (iv : ga_I) (n : Nat) (h : ga_H) : Option (List ga_O) :=
  match sk with
  | v :: r => ga_if (and (ok v) (ga_ahead al i)) (ga_set al i v (fun al => go nx al r cs ss iv n h)) none
  | _ => none
noncomputable def ga_lng (v : Nat) : Bool := Nat.beq (v % 8) 5
noncomputable def ga_adr (v : Nat) : Bool := or (Nat.beq (v % 8) 3) (Nat.beq (v % 8) 6)
noncomputable def ga_one (v : Nat) : Bool := or (ga_int v) (ga_adr v)
/-- a branch: the two numbers, the condition -/
noncomputable def ga_cnd (c : Jvm.ClassFile.Cond) (iv : ga_I) (x y : Nat) (kt kf : ga_I → Option (List ga_O)) : Option (List ga_O) :=
  match c with
  | .eq => ga_br (ga_eq iv x y) kt kf
  | .ne => ga_br (ga_eq iv x y) kf kt
  | .lt => ga_br (ga_lt iv x y) kt kf
  | .ge => ga_br (ga_lt iv x y) kf kt
  | .gt => ga_br (ga_lt iv y x) kt kf
  | .le => ga_br (ga_lt iv y x) kf kt
noncomputable def ga_sw (ps : List (Nat × Nat)) (v : Nat) (iv : ga_I) (d : ga_I → Option (List ga_O)) (K : Nat → ga_I → Option (List ga_O)) : Option (List ga_O) :=
  List.rec (motive := fun _ => ga_I → Option (List ga_O)) d (fun q _ ih iv => ga_br (ga_eq iv v q.1) (K q.2) ih) ps iv
/-- a place in an array, or all ways in which it may be one -/
noncomputable def ga_fork (i lo : Nat) (iv : ga_I) (K : ga_I → Option (List ga_O)) (m : Nat) : Option (List ga_O) :=
  Nat.rec (some []) (fun j ih => ga_cat (ga_f (lo + j) (fun c => ga_set iv i (c, c) K)) ih) m
noncomputable def ga_idx (iv : ga_I) (v : Nat) (again : ga_I → Option (List ga_O)) (K : Nat → Option (List ga_O)) : Option (List ga_O) :=
  ga_f (ga_sm iv v) (fun w => ga_if (Nat.beq (w % 8) 0) (ga_f (w / 8) K)
    (ga_if (Nat.beq (w % 8) 1) (ga_if (Nat.blt ((ga_iv iv (w / 8)).2 - (ga_iv iv (w / 8)).1) 64) (ga_fork (w / 8) (ga_iv iv (w / 8)).1 iv again ((ga_iv iv (w / 8)).2 - (ga_iv iv (w / 8)).1 + 1)) none) none))
/-- the first value of an array's place, by its kind: 100 ints, 101 bytes, 102 longs, 103 cells -/
noncomputable def ga_d (kind : Nat) : Nat := ga_if (Nat.beq kind 102) 5 (ga_if (Nat.beq kind 103) 4 0)
noncomputable def ga_ald (kind : Nat) (go : ga_G) (e : ga_E) (nx : List ga_E) (al sk : List Nat) (cs ss : Nat) (iv : ga_I) (n : Nat) (h : ga_H) : Option (List ga_O) :=
  match sk with
  | i :: r :: t => ga_idx iv i (fun iv => go (e :: nx) al sk cs ss iv n h) (fun j => ga_if (ga_ref r)
      (match ga_hg h (r / 8) with | (k, m, vs) => ga_if (and (Nat.beq k kind) (and (Nat.blt j m) (Nat.blt j 1048576))) (ga_p (ga_nth (ga_d kind) vs j) (fun v => go nx al (v :: t) cs ss iv n h)) none) none)
  | _ => none
noncomputable def ga_ast (kind : Nat) (f : Nat → Nat) (go : ga_G) (e : ga_E) (nx : List ga_E) (al sk : List Nat) (cs ss : Nat) (iv : ga_I) (n : Nat) (h : ga_H) : Option (List ga_O) :=
  match sk with
  | v :: i :: r :: t => ga_idx iv i (fun iv => go (e :: nx) al sk cs ss iv n h) (fun j => ga_if (ga_ref r)
      (match ga_hg h (r / 8) with | (k, m, vs) => ga_if (and (Nat.beq k kind) (and (Nat.blt j m) (Nat.blt j 1048576))) (ga_p (f v) (fun v => ga_put (ga_d kind) vs j v (fun vs => ga_hs h (r / 8) (k, m, vs) (fun h => go nx al t cs ss iv n h)))) none) none)
  | _ => none
noncomputable def ga_fi (v : Nat) : Nat := ga_if (ga_int v) v 7
/-- 0 or 1 -/
noncomputable def ga_fz (v : Nat) : Nat := ga_if (or (Nat.beq v 0) (Nat.beq v 8)) v 7
noncomputable def ga_fl (v : Nat) : Nat := ga_if (ga_lng v) v 7
/-- a cell of a class in the world -/
noncomputable def ga_fr (c : Nat) (h : ga_H) (v : Nat) : Nat := ga_if (ga_ref v) (ga_if (Nat.beq (ga_hg h (v / 8)).1 c) v 7) 7
/-- what a field of a kind may hold: 0 an int, 1 a boolean, 2 a long, 3 a cell -/
noncomputable def ga_fit (tc v : Nat) : Bool := ga_if (Nat.beq tc 0) (ga_int v) (ga_if (Nat.beq tc 1) (or (Nat.beq v 0) (Nat.beq v 8)) (ga_if (Nat.beq tc 2) (ga_lng v) (ga_ref v)))
noncomputable def ga_get (ci k : Nat) (go : ga_G) (nx : List ga_E) (al sk : List Nat) (cs ss : Nat) (iv : ga_I) (n : Nat) (h : ga_H) : Option (List ga_O) :=
  match sk with
  | r :: t => ga_if (ga_ref r) (match ga_hg h (r / 8) with | (c, _, vs) => ga_if (Nat.beq c ci) (ga_p (ga_nth 7 vs k) (fun v => go nx al (v :: t) cs ss iv n h)) none) none
  | _ => none
noncomputable def ga_ptf (ci k : Nat) (tc : List (Nat × Nat)) (go : ga_G) (nx : List ga_E) (al sk : List Nat) (cs ss : Nat) (iv : ga_I) (n : Nat) (h : ga_H) : Option (List ga_O) :=
  match sk, tc with
  | v :: r :: t, q :: _ => ga_if (and (ga_ref r) (ga_fit q.1 v)) (match ga_hg h (r / 8) with | (c, m, vs) => ga_if (and (Nat.beq c ci) (Nat.blt k (List.length vs))) (ga_set vs k v (fun vs => ga_hs h (r / 8) (c, m, vs) (fun h => go nx al t cs ss iv n h))) none) none
  | _, _ => none
noncomputable def ga_new (c m : Nat) (vs : List Nat) (sz : Nat) (cm sm : Nat) (go : ga_G) (nx : List ga_E) (al t : List Nat) (cs ss : Nat) (iv : ga_I) (n : Nat) (h : ga_H) : Option (List ga_O) :=
  ga_f (cs + 1) (fun cs => ga_f (ss + sz) (fun ss => ga_if (and (Nat.ble cs cm) (Nat.ble ss sm)) (ga_hs h n (c, m, vs) (fun h => ga_f (8 * n + 3) (fun r => ga_f (n + 1) (fun n => go nx al (r :: t) cs ss iv n h)))) none))
noncomputable def ga_take {β : Type} (m : Nat) : List Nat → List Nat → (List Nat → List Nat → β) → β → β :=
  Nat.rec (fun acc sk K _ => K acc sk) (fun _ ih acc sk K z => match sk with | [] => z | v :: r => ih (v :: acc) r K z) m
noncomputable def ga_pad {β : Type} (m : Nat) : (List Nat → β) → β := Nat.rec (fun K => K []) (fun _ ih K => ih (fun r => K (7 :: r))) m
noncomputable def ga_lay {β : Type} (as : List Nat) : List Nat → (List Nat → β) → β := List.rec (fun r K => K r) (fun v _ ih r K => ih r (fun t => ga_if (Nat.beq (v % 8) 5) (K (v :: 7 :: t)) (K (v :: t)))) as
/-- behind a call -/
noncomputable def ga_ret (rc : Nat) (v : Nat) (t : List Nat) : List Nat := ga_if (Nat.beq rc 0) t (v :: t)
noncomputable def ga_inv (me : Nat → ga_M) (call : Nat → List Nat → ga_I → Nat → ga_H → Option (List ga_A)) (k : Nat) (virt : Bool) (cm sm : Nat) (go : ga_G) (nx : List ga_E) (al sk : List Nat) (cs ss : Nat) (iv : ga_I) (n : Nat) (h : ga_H) : Option (List ga_O) :=
  match me k with
  | (_, _, _, na, mc, ms, rc, ci) => ga_take na [] sk (fun as t =>
      ga_if (and (Nat.ble (ga_wd t) 8) (ga_if virt (match as with | [] => false | r :: _ => and (ga_ref r) (Nat.beq (ga_hg h (r / 8)).1 ci)) true))
        (ga_f (cs + mc) (fun cs => ga_f (ss + ms) (fun ss => ga_if (and (Nat.ble cs cm) (Nat.ble ss sm))
          (match call k as iv n h with
            | none => none
            | some os => ga_all os (fun o => go nx al (ga_ret rc o.1 t) cs ss o.2.1 o.2.2.1 o.2.2.2)) none))) none) none
/-- an array's places over another's -/
noncomputable def ga_cpy {β : Type} (d : Nat) (a : List Nat) (sp dp m : Nat) : List Nat → (List Nat → β) → β :=
  Nat.rec (fun b K => K b) (fun j ih b K => ga_f (ga_nth d a (sp + j)) (fun v => ga_if (Nat.beq v (ga_nth d b (dp + j))) (ih b K) (ga_put d b (dp + j) v (fun b => ih b K)))) m
noncomputable def ga_acp (go : ga_G) (nx : List ga_E) (al sk : List Nat) (cs ss : Nat) (iv : ga_I) (n : Nat) (h : ga_H) : Option (List ga_O) :=
  match sk with
  | m :: dp :: b :: sp :: a :: t => ga_if (and (and (ga_l2 m dp) (Nat.beq (sp % 8) 0)) (and (and (ga_ref a) (ga_ref b)) (Nat.ble (ga_wd t) 8)))
      (match ga_hg h (a / 8), ga_hg h (b / 8) with
        | (ka, la, va), (kb, lb, vb) => ga_if (and (and (Nat.beq ka kb) (or (Nat.beq ka 100) (Nat.beq ka 102))) (and (and (Nat.ble (sp / 8 + m / 8) la) (Nat.ble (dp / 8 + m / 8) lb)) (and (Nat.blt (sp / 8) 1048576) (and (Nat.blt (dp / 8) 1048576) (Nat.blt (m / 8) 1048576)))))
            (ga_cpy (ga_d ka) va (sp / 8) (dp / 8) (m / 8) vb (fun vs => ga_hs h (b / 8) (kb, lb, vs) (fun h => go nx al t cs ss iv n h))) none) none
  | _ => none
end
section
noncomputable def ga_isb (go : ga_G) (nx : List ga_E) (al sk : List Nat) (cs ss : Nat) (iv : ga_I) (n : Nat) (h : ga_H) : Option (List ga_O) :=
  match sk with
  | y :: x :: r => ga_if (and (Nat.beq x 0) (and (Nat.beq (ga_sm iv y) 9) (Nat.ble 2147483648 (ga_iv iv 1).1)))
      (ga_f (4294967296 - (ga_iv iv 1).2) (fun lo => ga_f (4294967296 - (ga_iv iv 1).1) (fun hi => ga_set iv 7 (lo, hi) (fun iv => go nx al (57 :: r) cs ss iv n h))))
      (ga_op2 ga_sub go nx al sk cs ss iv n h)
  | _ => none
/-- the one text's length and characters -/
noncomputable def ga_txt (tx : List Nat) (a : Nat) (go : ga_G) (nx : List ga_E) (al sk : List Nat) (cs ss : Nat) (iv : ga_I) (n : Nat) (h : ga_H) : Option (List ga_O) :=
  ga_if (Nat.beq a 1002)
    (match sk with | r :: t => ga_if (and (Nat.beq r 14) (Nat.ble (ga_wd t) 8)) (ga_f (8 * List.length tx) (fun v => go nx al (v :: t) cs ss iv n h)) none | _ => none)
    (match sk with | i :: r :: t => ga_if (and (and (Nat.beq r 14) (Nat.beq (i % 8) 0)) (and (Nat.ble (ga_wd t) 8) (Nat.blt (i / 8) (List.length tx)))) (ga_f (8 * ga_nth 0 tx (i / 8)) (fun v => go nx al (v :: t) cs ss iv n h)) none | _ => none)
/-- one instruction; the script's length is L, the text's characters are tx -/
noncomputable def ga_step (me : Nat → ga_M) (dfl : Nat → List Nat) (L : Nat) (tx : List Nat) (call : Nat → List Nat → ga_I → Nat → ga_H → Option (List ga_A)) (cm sm : Nat) (code : List ga_E) (go : ga_G) (e : ga_E) (nx : List ga_E) (al sk : List Nat) (cs ss : Nat) (iv : ga_I) (n : Nat) (h : ga_H) : Option (List ga_O) :=
  match e with
  | (_, _, i, a, b, ps) =>
    match i with
    | .aload_n k => ga_load ga_adr k.val go nx al sk cs ss iv n h
    | .iload_n k => ga_load ga_int k.val go nx al sk cs ss iv n h
    | .getfield _ => ga_get a b go nx al sk cs ss iv n h
    | .bipush _ => go nx al (a :: sk) cs ss iv n h
    | .iconst _ => go nx al (a :: sk) cs ss iv n h
    | .sipush _ => go nx al (a :: sk) cs ss iv n h
    | .goto _ => go (ga_jmp code b) al sk cs ss iv n h
    | .iaload => match sk with
      | i :: r :: t => ga_if (Nat.beq r 6) (ga_idx iv i (fun _ => none) (fun j => ga_if (Nat.blt j L) (ga_f (8 * j + 1) (fun v => go nx al (v :: t) cs ss iv n h)) none)) (ga_ald 100 go e nx al (i :: r :: t) cs ss iv n h)
      | _ => none
    | .ireturn => some [(e :: nx, al, sk, cs, ss, iv, n, h)]
    | .return_ => some [(e :: nx, al, sk, cs, ss, iv, n, h)]
    | .areturn => some [(e :: nx, al, sk, cs, ss, iv, n, h)]
    | .lreturn => some [(e :: nx, al, sk, cs, ss, iv, n, h)]
    | .if_icmp c _ => match sk with
      | y :: x :: r => ga_if (ga_i2 x y) (ga_cnd c iv x y (fun iv => go (ga_jmp code b) al r cs ss iv n h) (fun iv => go nx al r cs ss iv n h)) none
      | _ => none
    | .ifCond c _ => match sk with
      | x :: r => ga_if (ga_int x) (ga_cnd c iv x 0 (fun iv => go (ga_jmp code b) al r cs ss iv n h) (fun iv => go nx al r cs ss iv n h)) none
      | _ => none
    | .iadd => ga_op2 ga_add go nx al sk cs ss iv n h
    | .isub => ga_isb go nx al sk cs ss iv n h
    | .imul => ga_op2 ga_mul go nx al sk cs ss iv n h
    | .iand => ga_op2 ga_and go nx al sk cs ss iv n h
    | .iinc i _ => ga_f (ga_nth 7 al i) (fun v => ga_if (and (Nat.beq (v % 8) 0) (ga_ahead al i)) (ga_f ((v + a) % 34359738368) (fun v => ga_set al i v (fun al => go nx al sk cs ss iv n h))) none)
    | .invokestatic _ => ga_if (Nat.beq a 1001) (ga_acp go nx al sk cs ss iv n h) (ga_inv me call a false cm sm go nx al sk cs ss iv n h)
    | .invokevirtual _ => ga_if (Nat.ble a 999) (ga_inv me call a true cm sm go nx al sk cs ss iv n h) (ga_if (Nat.beq a 1004) none (ga_txt tx a go nx al sk cs ss iv n h))
    | .invokespecial _ => ga_if (Nat.beq a 1000) (match sk with | r :: t => ga_if (and (ga_ref r) (Nat.ble (ga_wd t) 8)) (go nx al t cs ss iv n h) none | _ => none) (ga_inv me call a true cm sm go nx al sk cs ss iv n h)
    | .iastore => ga_ast 100 ga_fi go e nx al sk cs ss iv n h
    | .putfield _ => ga_ptf a b ps go nx al sk cs ss iv n h
    | .iload i => ga_load ga_int i go nx al sk cs ss iv n h
    | .istore i => ga_store ga_int i go nx al sk cs ss iv n h
    | .istore_n k => ga_store ga_int k.val go nx al sk cs ss iv n h
    | .dup => match sk with | v :: r => ga_if (ga_one v) (go nx al (v :: v :: r) cs ss iv n h) none | _ => none
    | .dup2 => match sk with | v :: w :: r => ga_if (and (ga_one v) (ga_one w)) (go nx al (v :: w :: v :: w :: r) cs ss iv n h) none | _ => none
    | .pop => match sk with | v :: r => ga_if (ga_one v) (go nx al r cs ss iv n h) none | _ => none
    | .arraylength => match sk with
      | r :: t => ga_if (Nat.beq r 6) (go nx al (8 * L :: t) cs ss iv n h) (ga_if (ga_ref r) (match ga_hg h (r / 8) with | (k, m, _) => ga_if (and (and (Nat.ble 100 k) (Nat.ble k 104)) (Nat.blt m 4294967296)) (ga_f (8 * m) (fun v => go nx al (v :: t) cs ss iv n h)) none) none)
      | _ => none
    | .idiv => ga_op2 ga_div go nx al sk cs ss iv n h
    | .irem => ga_op2 ga_rem go nx al sk cs ss iv n h
    | .ior => ga_op2 ga_or go nx al sk cs ss iv n h
    | .ixor => ga_op2 ga_xor go nx al sk cs ss iv n h
    | .ishl => ga_op2 ga_shl go nx al sk cs ss iv n h
    | .ishr => ga_op2 ga_shr go nx al sk cs ss iv n h
    | .iushr => ga_op2 ga_ush go nx al sk cs ss iv n h
    | .ladd => ga_op2 ga_lad go nx al sk cs ss iv n h
    | .lmul => ga_op2 ga_lmu go nx al sk cs ss iv n h
    | .i2b => ga_op1 ga_i2b go nx al sk cs ss iv n h
    | .i2l => ga_op1 ga_i2l go nx al sk cs ss iv n h
    | .newarray _ => match sk with
      | m :: t => ga_if (and (Nat.beq (m % 8) 0) (Nat.blt (m / 8) 1048576)) (ga_f (m / 8) (fun m => ga_new a m [] m cm sm go nx al t cs ss iv n h)) none
      | _ => none
    | .anewarray _ => match sk with
      | m :: t => ga_if (and (Nat.beq (m % 8) 0) (Nat.blt (m / 8) 1048576)) (ga_f (m / 8) (fun m => ga_new 103 m [] m cm sm go nx al t cs ss iv n h)) none
      | _ => none
    | .new _ => ga_new a 0 (dfl a) b cm sm go nx al sk cs ss iv n h
    | .aaload => ga_ald 103 go e nx al sk cs ss iv n h
    | .baload => ga_if (Nat.beq a 104) (ga_ald 104 go e nx al sk cs ss iv n h) (ga_ald 101 go e nx al sk cs ss iv n h)
    | .aastore => ga_ast 103 (ga_fr a h) go e nx al sk cs ss iv n h
    | .bastore => ga_if (Nat.beq a 104) (ga_ast 104 ga_fz go e nx al sk cs ss iv n h) (ga_ast 101 ga_i2b go e nx al sk cs ss iv n h)
    | .lastore => ga_ast 102 ga_fl go e nx al sk cs ss iv n h
    | .astore_n k => ga_store ga_adr k.val go nx al sk cs ss iv n h
    | .lload_n k => ga_load ga_lng k.val go nx al sk cs ss iv n h
    | .lstore_n k => match sk with
      | v :: r => ga_if (and (ga_lng v) (ga_ahead al k.val)) (ga_set al k.val v (fun al => ga_set al (k.val + 1) 7 (fun al => go nx al r cs ss iv n h))) none
      | _ => none
    | .ldc _ => ga_if (or (Nat.beq (a % 8) 0) (Nat.beq a 14)) (go nx al (a :: sk) cs ss iv n h) none
    | .ldc_w _ => go nx al (a :: sk) cs ss iv n h
    | .ldc2_w _ => go nx al (a :: sk) cs ss iv n h
    | .lconst _ => go nx al (a :: sk) cs ss iv n h
    | _ => none

noncomputable def ga_run (me : Nat → ga_M) (dfl : Nat → List Nat) (L : Nat) (tx : List Nat) (call : Nat → List Nat → ga_I → Nat → ga_H → Option (List ga_A)) (cm sm : Nat) (stop : Nat) (code : List ga_E) (fuel : Nat) : ga_G :=
  Nat.rec (fun _ _ _ _ _ _ _ _ => none) (fun _ go cds al sk cs ss iv n h => match cds with
    | [] => none
    | e :: nx => ga_if (Nat.beq e.1 stop) (some [(e :: nx, al, sk, cs, ss, iv, n, h)]) (ga_step me dfl L tx call cm sm code go e nx al sk cs ss iv n h)) fuel
/-- a method's answer out of the place where it stopped: by its kind (0 none, 1 int, 2 boolean, 4 long, 5 a cell) -/
noncomputable def ga_ans (rc : Nat) (o : ga_O) : Nat :=
  match o with
  | (e :: _, _, sk, _, _, _, _, _) => match e with
    | (_, _, i, _) => match i with
      | .return_ => (match sk with | [] => ga_if (Nat.beq rc 0) 0 7 | _ => 7)
      | .ireturn => (match sk with | [v] => ga_if (Nat.beq rc 1) (ga_if (ga_int v) v 7) (ga_if (Nat.beq rc 2) (ga_if (or (Nat.beq v 0) (Nat.beq v 8)) v 7) 7) | _ => 7)
      | .lreturn => (match sk with | [v] => ga_if (and (Nat.beq rc 4) (ga_lng v)) v 7 | _ => 7)
      | .areturn => (match sk with | [v] => ga_if (and (Nat.beq rc 5) (ga_ref v)) v 7 | _ => 7)
      | _ => 7
  | _ => 7
noncomputable def ga_anss (rc mc ms : Nat) (os : List ga_O) : Option (List ga_A) :=
  List.rec (some []) (fun o _ ih => ga_f (ga_ans rc o) (fun v => ga_if (or (Nat.beq (v % 8) 7) (not (and (Nat.ble o.2.2.2.1 mc) (Nat.ble o.2.2.2.2.1 ms)))) none (match ih with | none => none | some r => some ((v, o.2.2.2.2.2) :: r)))) os
noncomputable def ga_call (me : Nat → ga_M) (dfl : Nat → List Nat) (L : Nat) (tx : List Nat) (fuel : Nat) (d : Nat) : Nat → List Nat → ga_I → Nat → ga_H → Option (List ga_A) :=
  Nat.rec (fun _ _ _ _ _ => none) (fun _ call k as iv n h => match me k with
    | (code, pad, nl, na, mc, ms, rc, _) => ga_pad pad (fun p => ga_lay as p (fun al => ga_if (and (Nat.blt k 313) (and (Nat.beq (List.length al) nl) (Nat.beq (List.length as) na)))
        (match ga_run me dfl L tx call mc ms 100000 code fuel code al [] 0 0 iv n h with
        | none => none
        | some os => ga_anss rc mc ms os) none))) d
end
section
/-- java/lang/Math.max (II)I -/
def gc_0 : List ga_E := [(0, 1, .iload_n 0, 0, 0, []),
  (1, 1, .iload_n 1, 0, 0, []),
  (2, 3, .if_icmp .lt (7), 0, 9, []),
  (5, 1, .iload_n 0, 0, 0, []),
  (6, 3, .goto (4), 0, 10, []),
  (9, 1, .iload_n 1, 0, 0, []),
  (10, 1, .ireturn, 0, 0, [])]
/-- GravyRoundModel.held (III)I -/
def gc_1 : List ga_E := [(0, 1, .iload_n 0, 0, 0, []),
  (1, 1, .iload_n 1, 0, 0, []),
  (2, 3, .if_icmp .ge (7), 0, 9, []),
  (5, 1, .iload_n 1, 0, 0, []),
  (6, 3, .goto (13), 0, 19, []),
  (9, 1, .iload_n 0, 0, 0, []),
  (10, 1, .iload_n 2, 0, 0, []),
  (11, 3, .if_icmp .le (7), 0, 18, []),
  (14, 1, .iload_n 2, 0, 0, []),
  (15, 3, .goto (4), 0, 19, []),
  (18, 1, .iload_n 0, 0, 0, []),
  (19, 1, .ireturn, 0, 0, [])]
/-- GravyRoundModel.isOver ()Z -/
def gc_2 : List ga_E := [(0, 1, .aload_n 0, 0, 0, []),
  (1, 3, .getfield 85, 1, 38, [(0, 1479)]),
  (4, 2, .bipush (24), 192, 0, []),
  (6, 1, .iaload, 0, 0, []),
  (7, 3, .ifCond .ge (7), 0, 14, []),
  (10, 1, .iconst 1, 8, 0, []),
  (11, 3, .goto (4), 0, 15, []),
  (14, 1, .iconst 0, 0, 0, []),
  (15, 1, .ireturn, 0, 0, [])]
/-- GravyRound$Table.isOver ()Z -/
def gc_3 : List ga_E := [(0, 1, .aload_n 0, 0, 0, []),
  (1, 3, .getfield 58, 11, 6, [(0, 411)]),
  (4, 1, .aload_n 0, 0, 0, []),
  (5, 3, .getfield 21, 11, 0, [(0, 390)]),
  (8, 3, .getfield 64, 4, 0, [(0, 198)]),
  (11, 3, .if_icmp .lt (7), 0, 18, []),
  (14, 1, .iconst 1, 8, 0, []),
  (15, 3, .goto (4), 0, 19, []),
  (18, 1, .iconst 0, 0, 0, []),
  (19, 1, .ireturn, 0, 0, [])]
/-- java/lang/Math.min (II)I -/
def gc_4 : List ga_E := [(0, 1, .iload_n 0, 0, 0, []),
  (1, 1, .iload_n 1, 0, 0, []),
  (2, 3, .if_icmp .gt (7), 0, 9, []),
  (5, 1, .iload_n 0, 0, 0, []),
  (6, 3, .goto (4), 0, 10, []),
  (9, 1, .iload_n 1, 0, 0, []),
  (10, 1, .ireturn, 0, 0, [])]
/-- GravyRound$Table.passOrCool ()V -/
def gc_5 : List ga_E := [(0, 1, .aload_n 0, 0, 0, []),
  (1, 3, .invokevirtual 94, 3, 0, [(0, 1217)]),
  (4, 3, .ifCond .eq (52), 0, 56, []),
  (7, 1, .aload_n 0, 0, 0, []),
  (8, 1, .aload_n 0, 0, 0, []),
  (9, 3, .getfield 21, 11, 0, [(0, 390)]),
  (12, 1, .aload_n 0, 0, 0, []),
  (13, 3, .getfield 35, 11, 5, [(0, 406)]),
  (16, 1, .aload_n 0, 0, 0, []),
  (17, 3, .getfield 31, 11, 4, [(0, 402)]),
  (20, 1, .aload_n 0, 0, 0, []),
  (21, 3, .getfield 39, 11, 9, [(0, 418)]),
  (24, 1, .iconst 0, 0, 0, []),
  (25, 1, .aload_n 0, 0, 0, []),
  (26, 3, .getfield 21, 11, 0, [(0, 390)]),
  (29, 3, .getfield 64, 4, 0, [(0, 198)]),
  (32, 1, .iconst 1, 8, 0, []),
  (33, 1, .isub, 0, 0, []),
  (34, 3, .invokestatic 98, 0, 0, [(0, 1218)]),
  (37, 3, .invokevirtual 86, 6, 0, [(0, 983)]),
  (40, 3, .putfield 35, 11, 5, [(0, 406)]),
  (43, 1, .aload_n 0, 0, 0, []),
  (44, 1, .dup, 0, 0, []),
  (45, 3, .getfield 39, 11, 9, [(0, 418)]),
  (48, 1, .iconst 1, 8, 0, []),
  (49, 1, .iadd, 0, 0, []),
  (50, 3, .putfield 39, 11, 9, [(0, 418)]),
  (53, 3, .goto (9), 0, 62, []),
  (56, 1, .aload_n 0, 0, 0, []),
  (57, 1, .iconst 0, 0, 0, []),
  (58, 3, .invokevirtual 103, 305, 0, [(0, 1219)]),
  (61, 1, .pop, 0, 0, []),
  (62, 1, .return_, 0, 0, [])]
/-- GravyRound$Dinner.cooled (IIII)I -/
def gc_6 : List ga_E := [(0, 1, .aload_n 0, 0, 0, []),
  (1, 3, .getfield 31, 4, 12, [(0, 238)]),
  (4, 3, .getfield 71, 5, 1, [(0, 165)]),
  (7, 3, .ifCond .ne (12), 0, 19, []),
  (10, 1, .iconst 1, 8, 0, []),
  (11, 1, .iload_n 1, 0, 0, []),
  (12, 2, .bipush (20), 160, 0, []),
  (14, 1, .idiv, 0, 0, []),
  (15, 1, .iadd, 0, 0, []),
  (16, 3, .goto (19), 0, 35, []),
  (19, 1, .aload_n 0, 0, 0, []),
  (20, 3, .getfield 31, 4, 12, [(0, 238)]),
  (23, 1, .iload_n 1, 0, 0, []),
  (24, 1, .iload_n 2, 0, 0, []),
  (25, 1, .iload_n 3, 0, 0, []),
  (26, 2, .iload 4, 0, 0, []),
  (28, 1, .aload_n 0, 0, 0, []),
  (29, 3, .getfield 38, 4, 0, [(0, 193)]),
  (32, 3, .invokevirtual 74, 257, 0, [(0, 987)]),
  (35, 2, .istore 5, 0, 0, []),
  (37, 1, .iconst 0, 0, 0, []),
  (38, 1, .iload_n 1, 0, 0, []),
  (39, 1, .iconst 0, 0, 0, []),
  (40, 2, .bipush (99), 792, 0, []),
  (42, 2, .iload 5, 0, 0, []),
  (44, 3, .invokestatic 78, 4, 0, [(0, 997)]),
  (47, 3, .invokestatic 84, 0, 0, [(0, 998)]),
  (50, 1, .isub, 0, 0, []),
  (51, 3, .invokestatic 84, 0, 0, [(0, 998)]),
  (54, 1, .ireturn, 0, 0, [])]
/-- GravyRoundModel.goCool ()V -/
def gc_7 : List ga_E := [(0, 1, .aload_n 0, 0, 0, []),
  (1, 3, .getfield 45, 1, 19, [(0, 1460)]),
  (4, 1, .aload_n 0, 0, 0, []),
  (5, 3, .getfield 263, 1, 32, [(0, 1473)]),
  (8, 1, .iaload, 0, 0, []),
  (9, 1, .iconst 3, 24, 0, []),
  (10, 3, .invokestatic 273, 8, 0, [(0, 1438)]),
  (13, 3, .ifCond .eq (10), 0, 23, []),
  (16, 1, .aload_n 0, 0, 0, []),
  (17, 3, .invokevirtual 395, 218, 0, [(0, 1849)]),
  (20, 3, .goto (15), 0, 35, []),
  (23, 1, .iconst 1, 8, 0, []),
  (24, 1, .aload_n 0, 0, 0, []),
  (25, 3, .getfield 85, 1, 38, [(0, 1479)]),
  (28, 2, .bipush (23), 184, 0, []),
  (30, 1, .iaload, 0, 0, []),
  (31, 2, .bipush (20), 160, 0, []),
  (33, 1, .idiv, 0, 0, []),
  (34, 1, .iadd, 0, 0, []),
  (35, 1, .istore_n 1, 0, 0, []),
  (36, 1, .aload_n 0, 0, 0, []),
  (37, 3, .getfield 85, 1, 38, [(0, 1479)]),
  (40, 2, .bipush (23), 184, 0, []),
  (42, 1, .aload_n 0, 0, 0, []),
  (43, 3, .getfield 85, 1, 38, [(0, 1479)]),
  (46, 2, .bipush (23), 184, 0, []),
  (48, 1, .iaload, 0, 0, []),
  (49, 1, .iload_n 1, 0, 0, []),
  (50, 1, .iconst 0, 0, 0, []),
  (51, 2, .bipush (99), 792, 0, []),
  (53, 3, .invokestatic 398, 1, 0, [(0, 1864)]),
  (56, 1, .isub, 0, 0, []),
  (57, 1, .iconst 0, 0, 0, []),
  (58, 2, .bipush (99), 792, 0, []),
  (60, 3, .invokestatic 398, 1, 0, [(0, 1864)]),
  (63, 1, .iastore, 0, 0, []),
  (64, 1, .return_, 0, 0, [])]
/-- GravyRoundModel.bit (II)Z -/
def gc_8 : List ga_E := [(0, 1, .iload_n 0, 0, 0, []),
  (1, 1, .iload_n 1, 0, 0, []),
  (2, 1, .ishr, 0, 0, []),
  (3, 1, .iconst 1, 8, 0, []),
  (4, 1, .iand, 0, 0, []),
  (5, 1, .iconst 1, 8, 0, []),
  (6, 3, .if_icmp .ne (7), 0, 13, []),
  (9, 1, .iconst 1, 8, 0, []),
  (10, 3, .goto (4), 0, 14, []),
  (13, 1, .iconst 0, 0, 0, []),
  (14, 1, .ireturn, 0, 0, [])]
/-- GravyRoundModel.isIn (III)Z -/
def gc_9 : List ga_E := [(0, 1, .iload_n 0, 0, 0, []),
  (1, 1, .iload_n 1, 0, 0, []),
  (2, 3, .if_icmp .lt (12), 0, 14, []),
  (5, 1, .iload_n 0, 0, 0, []),
  (6, 1, .iload_n 2, 0, 0, []),
  (7, 3, .if_icmp .gt (7), 0, 14, []),
  (10, 1, .iconst 1, 8, 0, []),
  (11, 3, .goto (4), 0, 15, []),
  (14, 1, .iconst 0, 0, 0, []),
  (15, 1, .ireturn, 0, 0, [])]
/-- GravyRound$Tokens.packedBy (JI)J -/
def gc_10 : List ga_E := [(0, 1, .lload_n 0, 0, 0, []),
  (1, 3, .ldc2_w 36, 261, 0, [(0, 336)]),
  (4, 1, .lmul, 0, 0, []),
  (5, 1, .iload_n 2, 0, 0, []),
  (6, 2, .bipush (97), 776, 0, []),
  (8, 1, .isub, 0, 0, []),
  (9, 1, .iconst 1, 8, 0, []),
  (10, 1, .iadd, 0, 0, []),
  (11, 1, .i2l, 0, 0, []),
  (12, 1, .ladd, 0, 0, []),
  (13, 1, .lreturn, 0, 0, [])]
/-- GravyRoundModel.folk ()I -/
def gc_11 : List ga_E := [(0, 1, .aload_n 0, 0, 0, []),
  (1, 3, .getfield 20, 1, 11, [(0, 1452)]),
  (4, 1, .aload_n 0, 0, 0, []),
  (5, 3, .getfield 263, 1, 32, [(0, 1473)]),
  (8, 1, .iaload, 0, 0, []),
  (9, 1, .ireturn, 0, 0, [])]
/-- GravyRound$Table.<init> (LGravyRound$Dinner;)V -/
def gc_12 : List ga_E := [(0, 1, .aload_n 0, 0, 0, []),
  (1, 3, .invokespecial 3, 1000, 0, [(0, 389)]),
  (4, 1, .aload_n 0, 0, 0, []),
  (5, 2, .bipush (7), 56, 0, []),
  (7, 2, .newarray .int, 100, 0, [(0, 184)]),
  (9, 3, .putfield 9, 11, 1, [(3, 393)]),
  (12, 1, .aload_n 0, 0, 0, []),
  (13, 2, .bipush (7), 56, 0, []),
  (15, 2, .newarray .int, 100, 0, [(0, 184)]),
  (17, 3, .putfield 15, 11, 2, [(3, 397)]),
  (20, 1, .aload_n 0, 0, 0, []),
  (21, 2, .bipush (7), 56, 0, []),
  (23, 2, .newarray .int, 100, 0, [(0, 184)]),
  (25, 3, .putfield 18, 11, 3, [(3, 400)]),
  (28, 1, .aload_n 0, 0, 0, []),
  (29, 1, .aload_n 1, 0, 0, []),
  (30, 3, .putfield 21, 11, 0, [(3, 390)]),
  (33, 1, .return_, 0, 0, [])]
/-- GravyRoundModel.power (II)I -/
def gc_13 : List ga_E := [(0, 1, .iconst 1, 8, 0, []),
  (1, 1, .istore_n 2, 0, 0, []),
  (2, 1, .iconst 0, 0, 0, []),
  (3, 1, .istore_n 3, 0, 0, []),
  (4, 1, .iload_n 3, 0, 0, []),
  (5, 1, .iload_n 1, 0, 0, []),
  (6, 3, .if_icmp .ge (13), 0, 19, []),
  (9, 1, .iload_n 2, 0, 0, []),
  (10, 1, .iload_n 0, 0, 0, []),
  (11, 1, .imul, 0, 0, []),
  (12, 1, .istore_n 2, 0, 0, []),
  (13, 3, .iinc 3 (1), 8, 0, []),
  (16, 3, .goto (-12), 0, 4, []),
  (19, 1, .iload_n 2, 0, 0, []),
  (20, 1, .ireturn, 0, 0, [])]
/-- GravyRoundModel.about (I)I -/
def gc_14 : List ga_E := [(0, 1, .iload_n 1, 0, 0, []),
  (1, 83, .tableswitch (201) (0) (16) #[83, 88, 93, 101, 109, 117, 125, 133, 141, 146, 151, 156, 161, 166, 176, 181, 191], 0, 202, [(0, 84), (8, 89), (16, 94), (24, 102), (32, 110), (40, 118), (48, 126), (56, 134), (64, 142), (72, 147), (80, 152), (88, 157), (96, 162), (104, 167), (112, 177), (120, 182), (128, 192)]),
  (84, 1, .aload_n 0, 0, 0, []),
  (85, 3, .invokevirtual 338, 11, 0, [(0, 1399)]),
  (88, 1, .ireturn, 0, 0, []),
  (89, 1, .aload_n 0, 0, 0, []),
  (90, 3, .invokevirtual 352, 15, 0, [(0, 1434)]),
  (93, 1, .ireturn, 0, 0, []),
  (94, 1, .aload_n 0, 0, 0, []),
  (95, 3, .getfield 85, 1, 38, [(0, 1479)]),
  (98, 2, .bipush (22), 176, 0, []),
  (100, 1, .iaload, 0, 0, []),
  (101, 1, .ireturn, 0, 0, []),
  (102, 1, .aload_n 0, 0, 0, []),
  (103, 3, .getfield 85, 1, 38, [(0, 1479)]),
  (106, 2, .bipush (23), 184, 0, []),
  (108, 1, .iaload, 0, 0, []),
  (109, 1, .ireturn, 0, 0, []),
  (110, 1, .aload_n 0, 0, 0, []),
  (111, 3, .getfield 85, 1, 38, [(0, 1479)]),
  (114, 2, .bipush (24), 192, 0, []),
  (116, 1, .iaload, 0, 0, []),
  (117, 1, .ireturn, 0, 0, []),
  (118, 1, .aload_n 0, 0, 0, []),
  (119, 3, .getfield 85, 1, 38, [(0, 1479)]),
  (122, 2, .bipush (25), 200, 0, []),
  (124, 1, .iaload, 0, 0, []),
  (125, 1, .ireturn, 0, 0, []),
  (126, 1, .aload_n 0, 0, 0, []),
  (127, 3, .getfield 85, 1, 38, [(0, 1479)]),
  (130, 2, .bipush (27), 216, 0, []),
  (132, 1, .iaload, 0, 0, []),
  (133, 1, .ireturn, 0, 0, []),
  (134, 1, .aload_n 0, 0, 0, []),
  (135, 3, .getfield 85, 1, 38, [(0, 1479)]),
  (138, 2, .bipush (28), 224, 0, []),
  (140, 1, .iaload, 0, 0, []),
  (141, 1, .ireturn, 0, 0, []),
  (142, 1, .aload_n 0, 0, 0, []),
  (143, 3, .getfield 380, 1, 46, [(0, 1487)]),
  (146, 1, .ireturn, 0, 0, []),
  (147, 1, .aload_n 0, 0, 0, []),
  (148, 3, .getfield 383, 1, 47, [(0, 1488)]),
  (151, 1, .ireturn, 0, 0, []),
  (152, 1, .aload_n 0, 0, 0, []),
  (153, 3, .getfield 386, 1, 61, [(0, 1502)]),
  (156, 1, .ireturn, 0, 0, []),
  (157, 1, .aload_n 0, 0, 0, []),
  (158, 3, .getfield 514, 1, 62, [(0, 1503)]),
  (161, 1, .ireturn, 0, 0, []),
  (162, 1, .aload_n 0, 0, 0, []),
  (163, 3, .getfield 260, 1, 2, [(0, 1443)]),
  (166, 1, .ireturn, 0, 0, []),
  (167, 1, .aload_n 0, 0, 0, []),
  (168, 3, .getfield 27, 1, 13, [(0, 1454)]),
  (171, 1, .aload_n 0, 0, 0, []),
  (172, 3, .getfield 263, 1, 32, [(0, 1473)]),
  (175, 1, .iaload, 0, 0, []),
  (176, 1, .ireturn, 0, 0, []),
  (177, 1, .aload_n 0, 0, 0, []),
  (178, 3, .getfield 389, 1, 51, [(0, 1492)]),
  (181, 1, .ireturn, 0, 0, []),
  (182, 1, .aload_n 0, 0, 0, []),
  (183, 3, .getfield 36, 1, 16, [(0, 1457)]),
  (186, 1, .aload_n 0, 0, 0, []),
  (187, 3, .getfield 263, 1, 32, [(0, 1473)]),
  (190, 1, .iaload, 0, 0, []),
  (191, 1, .ireturn, 0, 0, []),
  (192, 1, .aload_n 0, 0, 0, []),
  (193, 3, .getfield 39, 1, 17, [(0, 1458)]),
  (196, 1, .aload_n 0, 0, 0, []),
  (197, 3, .getfield 263, 1, 32, [(0, 1473)]),
  (200, 1, .iaload, 0, 0, []),
  (201, 1, .ireturn, 0, 0, []),
  (202, 2, .bipush (-2), 34359738352, 0, []),
  (204, 1, .ireturn, 0, 0, [])]
/-- GravyRoundModel.quarrels ()I -/
def gc_15 : List ga_E := [(0, 1, .aload_n 0, 0, 0, []),
  (1, 3, .getfield 24, 1, 12, [(0, 1453)]),
  (4, 1, .aload_n 0, 0, 0, []),
  (5, 3, .getfield 263, 1, 32, [(0, 1473)]),
  (8, 1, .iaload, 0, 0, []),
  (9, 1, .ireturn, 0, 0, [])]
/-- GravyRoundModel.odds (II)I -/
def gc_16 : List ga_E := [(0, 1, .iload_n 1, 0, 0, []),
  (1, 1, .iconst 0, 0, 0, []),
  (2, 1, .iconst 4, 32, 0, []),
  (3, 3, .invokestatic 348, 9, 0, [(0, 1419)]),
  (6, 3, .ifCond .eq (12), 0, 18, []),
  (9, 1, .iload_n 2, 0, 0, []),
  (10, 1, .iconst 0, 0, 0, []),
  (11, 1, .iconst 1, 8, 0, []),
  (12, 3, .invokestatic 348, 9, 0, [(0, 1419)]),
  (15, 3, .ifCond .ne (5), 0, 20, []),
  (18, 1, .iconst (-1), 34359738360, 0, []),
  (19, 1, .ireturn, 0, 0, []),
  (20, 2, .bipush (100), 800, 0, []),
  (22, 1, .aload_n 0, 0, 0, []),
  (23, 3, .getfield 39, 1, 17, [(0, 1458)]),
  (26, 1, .aload_n 0, 0, 0, []),
  (27, 3, .getfield 263, 1, 32, [(0, 1473)]),
  (30, 1, .iaload, 0, 0, []),
  (31, 1, .isub, 0, 0, []),
  (32, 1, .iload_n 1, 0, 0, []),
  (33, 3, .invokestatic 508, 13, 0, [(0, 2071)]),
  (36, 1, .istore_n 3, 0, 0, []),
  (37, 2, .bipush (100), 800, 0, []),
  (39, 1, .iload_n 1, 0, 0, []),
  (40, 3, .invokestatic 508, 13, 0, [(0, 2071)]),
  (43, 2, .istore 4, 0, 0, []),
  (45, 1, .iload_n 2, 0, 0, []),
  (46, 3, .ifCond .ne (7), 0, 53, []),
  (49, 1, .iload_n 3, 0, 0, []),
  (50, 3, .goto (5), 0, 55, []),
  (53, 2, .iload 4, 0, 0, []),
  (55, 2, .iload 4, 0, 0, []),
  (57, 1, .iload_n 3, 0, 0, []),
  (58, 3, .invokestatic 511, 19, 0, [(0, 2074)]),
  (61, 1, .idiv, 0, 0, []),
  (62, 1, .ireturn, 0, 0, [])]
/-- GravyRoundModel.isGuest (I)Z -/
def gc_17 : List ga_E := [(0, 1, .iload_n 1, 0, 0, []),
  (1, 1, .iconst 0, 0, 0, []),
  (2, 1, .aload_n 0, 0, 0, []),
  (3, 3, .invokevirtual 338, 11, 0, [(0, 1399)]),
  (6, 1, .iconst 1, 8, 0, []),
  (7, 1, .isub, 0, 0, []),
  (8, 3, .invokestatic 348, 9, 0, [(0, 1419)]),
  (11, 1, .ireturn, 0, 0, [])]
/-- GravyRound.isGuest (I)Z -/
def gc_18 : List ga_E := [(0, 1, .iload_n 1, 0, 0, []),
  (1, 3, .ifCond .lt (18), 0, 19, []),
  (4, 1, .iload_n 1, 0, 0, []),
  (5, 1, .aload_n 0, 0, 0, []),
  (6, 3, .getfield 20, 0, 4, [(0, 667)]),
  (9, 3, .getfield 116, 4, 0, [(0, 200)]),
  (12, 3, .if_icmp .ge (7), 0, 19, []),
  (15, 1, .iconst 1, 8, 0, []),
  (16, 3, .goto (4), 0, 20, []),
  (19, 1, .iconst 0, 0, 0, []),
  (20, 1, .ireturn, 0, 0, [])]
/-- GravyRoundModel.divisor (II)I -/
def gc_19 : List ga_E := [(0, 1, .iload_n 0, 0, 0, []),
  (1, 1, .istore_n 2, 0, 0, []),
  (2, 1, .iload_n 1, 0, 0, []),
  (3, 1, .istore_n 3, 0, 0, []),
  (4, 1, .iload_n 3, 0, 0, []),
  (5, 3, .ifCond .le (16), 0, 21, []),
  (8, 1, .iload_n 2, 0, 0, []),
  (9, 1, .iload_n 3, 0, 0, []),
  (10, 1, .irem, 0, 0, []),
  (11, 2, .istore 4, 0, 0, []),
  (13, 1, .iload_n 3, 0, 0, []),
  (14, 1, .istore_n 2, 0, 0, []),
  (15, 2, .iload 4, 0, 0, []),
  (17, 1, .istore_n 3, 0, 0, []),
  (18, 3, .goto (-14), 0, 4, []),
  (21, 1, .iload_n 2, 0, 0, []),
  (22, 1, .ireturn, 0, 0, [])]
/-- GravyRound$Table.copyFrom (LGravyRound$Table;)V -/
def gc_20 : List ga_E := [(0, 1, .aload_n 1, 0, 0, []),
  (1, 3, .getfield 9, 11, 1, [(0, 393)]),
  (4, 1, .iconst 0, 0, 0, []),
  (5, 1, .aload_n 0, 0, 0, []),
  (6, 3, .getfield 9, 11, 1, [(0, 393)]),
  (9, 1, .iconst 0, 0, 0, []),
  (10, 2, .bipush (7), 56, 0, []),
  (12, 3, .invokestatic 52, 1001, 0, [(0, 651)]),
  (15, 1, .aload_n 1, 0, 0, []),
  (16, 3, .getfield 15, 11, 2, [(0, 397)]),
  (19, 1, .iconst 0, 0, 0, []),
  (20, 1, .aload_n 0, 0, 0, []),
  (21, 3, .getfield 15, 11, 2, [(0, 397)]),
  (24, 1, .iconst 0, 0, 0, []),
  (25, 2, .bipush (7), 56, 0, []),
  (27, 3, .invokestatic 52, 1001, 0, [(0, 651)]),
  (30, 1, .aload_n 1, 0, 0, []),
  (31, 3, .getfield 18, 11, 3, [(0, 400)]),
  (34, 1, .iconst 0, 0, 0, []),
  (35, 1, .aload_n 0, 0, 0, []),
  (36, 3, .getfield 18, 11, 3, [(0, 400)]),
  (39, 1, .iconst 0, 0, 0, []),
  (40, 2, .bipush (7), 56, 0, []),
  (42, 3, .invokestatic 52, 1001, 0, [(0, 651)]),
  (45, 1, .aload_n 0, 0, 0, []),
  (46, 1, .aload_n 1, 0, 0, []),
  (47, 3, .getfield 31, 11, 4, [(0, 402)]),
  (50, 3, .putfield 31, 11, 4, [(0, 402)]),
  (53, 1, .aload_n 0, 0, 0, []),
  (54, 1, .aload_n 1, 0, 0, []),
  (55, 3, .getfield 35, 11, 5, [(0, 406)]),
  (58, 3, .putfield 35, 11, 5, [(0, 406)]),
  (61, 1, .aload_n 0, 0, 0, []),
  (62, 1, .aload_n 1, 0, 0, []),
  (63, 3, .getfield 58, 11, 6, [(0, 411)]),
  (66, 3, .putfield 58, 11, 6, [(0, 411)]),
  (69, 1, .aload_n 0, 0, 0, []),
  (70, 1, .aload_n 1, 0, 0, []),
  (71, 3, .getfield 61, 11, 7, [(0, 414)]),
  (74, 3, .putfield 61, 11, 7, [(0, 414)]),
  (77, 1, .aload_n 0, 0, 0, []),
  (78, 1, .aload_n 1, 0, 0, []),
  (79, 3, .getfield 36, 11, 8, [(0, 416)]),
  (82, 3, .putfield 36, 11, 8, [(0, 416)]),
  (85, 1, .aload_n 0, 0, 0, []),
  (86, 1, .aload_n 1, 0, 0, []),
  (87, 3, .getfield 39, 11, 9, [(0, 418)]),
  (90, 3, .putfield 39, 11, 9, [(0, 418)]),
  (93, 1, .aload_n 0, 0, 0, []),
  (94, 1, .aload_n 1, 0, 0, []),
  (95, 3, .getfield 45, 11, 10, [(0, 421)]),
  (98, 3, .putfield 45, 11, 10, [(0, 421)]),
  (101, 1, .return_, 0, 0, [])]
/-- GravyRoundModel.isFeud (I)Z -/
def gc_21 : List ga_E := [(0, 1, .iload_n 1, 0, 0, []),
  (1, 1, .iconst 0, 0, 0, []),
  (2, 1, .aload_n 0, 0, 0, []),
  (3, 3, .invokevirtual 352, 15, 0, [(0, 1434)]),
  (6, 1, .iconst 1, 8, 0, []),
  (7, 1, .isub, 0, 0, []),
  (8, 3, .invokestatic 348, 9, 0, [(0, 1419)]),
  (11, 1, .ireturn, 0, 0, [])]
/-- GravyRoundModel.treaty (II)I -/
def gc_22 : List ga_E := [(0, 1, .iload_n 1, 0, 0, []),
  (1, 1, .iconst 0, 0, 0, []),
  (2, 3, .sipush (200), 1600, 0, []),
  (5, 3, .invokestatic 348, 9, 0, [(0, 1419)]),
  (8, 3, .ifCond .eq (12), 0, 20, []),
  (11, 1, .iload_n 2, 0, 0, []),
  (12, 1, .iconst 0, 0, 0, []),
  (13, 1, .iconst 1, 8, 0, []),
  (14, 3, .invokestatic 348, 9, 0, [(0, 1419)]),
  (17, 3, .ifCond .ne (5), 0, 22, []),
  (20, 1, .iconst (-1), 34359738360, 0, []),
  (21, 1, .ireturn, 0, 0, []),
  (22, 1, .iconst (-1), 34359738360, 0, []),
  (23, 1, .istore_n 3, 0, 0, []),
  (24, 1, .aload_n 0, 0, 0, []),
  (25, 3, .getfield 85, 1, 38, [(0, 1479)]),
  (28, 2, .bipush (26), 208, 0, []),
  (30, 1, .iaload, 0, 0, []),
  (31, 2, .istore 4, 0, 0, []),
  (33, 1, .iconst 0, 0, 0, []),
  (34, 2, .istore 5, 0, 0, []),
  (36, 2, .iload 5, 0, 0, []),
  (38, 1, .iconst 1, 8, 0, []),
  (39, 1, .aload_n 0, 0, 0, []),
  (40, 3, .invokevirtual 352, 15, 0, [(0, 1434)]),
  (43, 1, .ishl, 0, 0, []),
  (44, 3, .if_icmp .ge (52), 0, 96, []),
  (47, 2, .iload 5, 0, 0, []),
  (49, 2, .iload 4, 0, 0, []),
  (51, 1, .iand, 0, 0, []),
  (52, 3, .ifCond .ne (38), 0, 90, []),
  (55, 2, .iload 5, 0, 0, []),
  (57, 1, .iload_n 3, 0, 0, []),
  (58, 3, .invokestatic 481, 31, 0, [(0, 2009)]),
  (61, 3, .ifCond .ne (6), 0, 67, []),
  (64, 3, .goto (26), 0, 90, []),
  (67, 1, .aload_n 0, 0, 0, []),
  (68, 3, .getfield 85, 1, 38, [(0, 1479)]),
  (71, 2, .bipush (26), 208, 0, []),
  (73, 2, .iload 4, 0, 0, []),
  (75, 2, .iload 5, 0, 0, []),
  (77, 1, .ior, 0, 0, []),
  (78, 1, .iastore, 0, 0, []),
  (79, 1, .aload_n 0, 0, 0, []),
  (80, 3, .invokevirtual 420, 28, 0, [(0, 1806)]),
  (83, 1, .iload_n 1, 0, 0, []),
  (84, 3, .if_icmp .gt (6), 0, 90, []),
  (87, 2, .iload 5, 0, 0, []),
  (89, 1, .istore_n 3, 0, 0, []),
  (90, 3, .iinc 5 (1), 8, 0, []),
  (93, 3, .goto (-57), 0, 36, []),
  (96, 1, .aload_n 0, 0, 0, []),
  (97, 3, .getfield 85, 1, 38, [(0, 1479)]),
  (100, 2, .bipush (26), 208, 0, []),
  (102, 2, .iload 4, 0, 0, []),
  (104, 1, .iastore, 0, 0, []),
  (105, 1, .iload_n 3, 0, 0, []),
  (106, 1, .iload_n 2, 0, 0, []),
  (107, 3, .invokestatic 484, 32, 0, [(0, 2012)]),
  (110, 1, .ireturn, 0, 0, [])]
/-- GravyRound$Row.clear ()V -/
def gc_23 : List ga_E := [(0, 1, .aload_n 0, 0, 0, []),
  (1, 1, .iconst 0, 0, 0, []),
  (2, 3, .putfield 15, 8, 1, [(0, 478)]),
  (5, 1, .return_, 0, 0, [])]
/-- GravyRoundModel.seen (IIZ)I -/
def gc_24 : List ga_E := [(0, 1, .iload_n 1, 0, 0, []),
  (1, 1, .iconst 0, 0, 0, []),
  (2, 2, .bipush (40), 320, 0, []),
  (4, 3, .invokestatic 348, 9, 0, [(0, 1419)]),
  (7, 3, .ifCond .eq (26), 0, 33, []),
  (10, 1, .iload_n 2, 0, 0, []),
  (11, 1, .iconst 0, 0, 0, []),
  (12, 1, .aload_n 0, 0, 0, []),
  (13, 3, .invokevirtual 338, 11, 0, [(0, 1399)]),
  (16, 1, .iconst 1, 8, 0, []),
  (17, 1, .isub, 0, 0, []),
  (18, 3, .invokestatic 348, 9, 0, [(0, 1419)]),
  (21, 3, .ifCond .eq (12), 0, 33, []),
  (24, 1, .aload_n 0, 0, 0, []),
  (25, 3, .getfield 386, 1, 61, [(0, 1502)]),
  (28, 2, .bipush (30), 240, 0, []),
  (30, 3, .if_icmp .ne (5), 0, 35, []),
  (33, 1, .iconst (-1), 34359738360, 0, []),
  (34, 1, .ireturn, 0, 0, []),
  (35, 1, .aload_n 0, 0, 0, []),
  (36, 3, .getfield 124, 1, 55, [(0, 1496)]),
  (39, 1, .aload_n 0, 0, 0, []),
  (40, 3, .getfield 386, 1, 61, [(0, 1502)]),
  (43, 1, .iload_n 1, 0, 0, []),
  (44, 1, .iastore, 0, 0, []),
  (45, 1, .aload_n 0, 0, 0, []),
  (46, 3, .getfield 127, 1, 56, [(0, 1497)]),
  (49, 1, .aload_n 0, 0, 0, []),
  (50, 3, .getfield 386, 1, 61, [(0, 1502)]),
  (53, 1, .iload_n 2, 0, 0, []),
  (54, 1, .iastore, 0, 0, []),
  (55, 1, .aload_n 0, 0, 0, []),
  (56, 3, .getfield 130, 1, 57, [(0, 1498)]),
  (59, 1, .aload_n 0, 0, 0, []),
  (60, 3, .getfield 386, 1, 61, [(0, 1502)]),
  (63, 1, .iload_n 3, 0, 0, []),
  (64, 3, .ifCond .eq (7), 0, 71, []),
  (67, 1, .iconst 1, 8, 0, []),
  (68, 3, .goto (4), 0, 72, []),
  (71, 1, .iconst 0, 0, 0, []),
  (72, 1, .iastore, 0, 0, []),
  (73, 1, .aload_n 0, 0, 0, []),
  (74, 3, .getfield 133, 1, 58, [(0, 1499)]),
  (77, 1, .aload_n 0, 0, 0, []),
  (78, 3, .getfield 386, 1, 61, [(0, 1502)]),
  (81, 1, .aload_n 0, 0, 0, []),
  (82, 3, .getfield 514, 1, 62, [(0, 1503)]),
  (85, 1, .iastore, 0, 0, []),
  (86, 1, .aload_n 0, 0, 0, []),
  (87, 3, .getfield 136, 1, 59, [(0, 1500)]),
  (90, 1, .aload_n 0, 0, 0, []),
  (91, 3, .getfield 386, 1, 61, [(0, 1502)]),
  (94, 1, .iconst (-1), 34359738360, 0, []),
  (95, 1, .iastore, 0, 0, []),
  (96, 1, .aload_n 0, 0, 0, []),
  (97, 1, .dup, 0, 0, []),
  (98, 3, .getfield 386, 1, 61, [(0, 1502)]),
  (101, 1, .iconst 1, 8, 0, []),
  (102, 1, .iadd, 0, 0, []),
  (103, 3, .putfield 386, 1, 61, [(0, 1502)]),
  (106, 1, .aload_n 0, 0, 0, []),
  (107, 3, .getfield 386, 1, 61, [(0, 1502)]),
  (110, 1, .iconst 1, 8, 0, []),
  (111, 1, .isub, 0, 0, []),
  (112, 1, .ireturn, 0, 0, [])]
/-- GravyRoundModel.bringBack ()V -/
def gc_25 : List ga_E := [(0, 1, .iconst 0, 0, 0, []),
  (1, 1, .istore_n 1, 0, 0, []),
  (2, 1, .iload_n 1, 0, 0, []),
  (3, 2, .bipush (29), 232, 0, []),
  (5, 3, .if_icmp .ge (21), 0, 26, []),
  (8, 1, .aload_n 0, 0, 0, []),
  (9, 3, .getfield 85, 1, 38, [(0, 1479)]),
  (12, 1, .iload_n 1, 0, 0, []),
  (13, 1, .aload_n 0, 0, 0, []),
  (14, 3, .getfield 88, 1, 39, [(0, 1480)]),
  (17, 1, .iload_n 1, 0, 0, []),
  (18, 1, .iaload, 0, 0, []),
  (19, 1, .iastore, 0, 0, []),
  (20, 3, .iinc 1 (1), 8, 0, []),
  (23, 3, .goto (-21), 0, 2, []),
  (26, 1, .return_, 0, 0, [])]
/-- GravyRoundModel.image (I)I -/
def gc_26 : List ga_E := [(0, 1, .iload_n 1, 0, 0, []),
  (1, 1, .iconst 0, 0, 0, []),
  (2, 1, .iconst 2, 16, 0, []),
  (3, 3, .invokestatic 348, 9, 0, [(0, 1419)]),
  (6, 3, .ifCond .ne (5), 0, 11, []),
  (9, 1, .iconst (-1), 34359738360, 0, []),
  (10, 1, .ireturn, 0, 0, []),
  (11, 1, .iconst 0, 0, 0, []),
  (12, 1, .istore_n 2, 0, 0, []),
  (13, 1, .iload_n 2, 0, 0, []),
  (14, 2, .bipush (29), 232, 0, []),
  (16, 3, .if_icmp .ge (26), 0, 42, []),
  (19, 1, .aload_n 0, 0, 0, []),
  (20, 3, .getfield 142, 1, 63, [(0, 1504)]),
  (23, 2, .bipush (29), 232, 0, []),
  (25, 1, .iload_n 1, 0, 0, []),
  (26, 1, .imul, 0, 0, []),
  (27, 1, .iload_n 2, 0, 0, []),
  (28, 1, .iadd, 0, 0, []),
  (29, 1, .aload_n 0, 0, 0, []),
  (30, 3, .getfield 85, 1, 38, [(0, 1479)]),
  (33, 1, .iload_n 2, 0, 0, []),
  (34, 1, .iaload, 0, 0, []),
  (35, 1, .iastore, 0, 0, []),
  (36, 3, .iinc 2 (1), 8, 0, []),
  (39, 3, .goto (-26), 0, 13, []),
  (42, 1, .aload_n 0, 0, 0, []),
  (43, 3, .getfield 145, 1, 64, [(0, 1505)]),
  (46, 1, .iload_n 1, 0, 0, []),
  (47, 1, .iconst 1, 8, 0, []),
  (48, 1, .bastore, 104, 0, []),
  (49, 1, .aload_n 0, 0, 0, []),
  (50, 3, .getfield 85, 1, 38, [(0, 1479)]),
  (53, 2, .bipush (27), 216, 0, []),
  (55, 1, .iaload, 0, 0, []),
  (56, 1, .ireturn, 0, 0, [])]
/-- java/lang/Integer.bitCount (I)I -/
def gc_27 : List ga_E := [(0, 1, .iload_n 0, 0, 0, []),
  (1, 1, .iload_n 0, 0, 0, []),
  (2, 1, .iconst 1, 8, 0, []),
  (3, 1, .iushr, 0, 0, []),
  (4, 3, .ldc_w 265, 11453246120, 0, [(0, 1156)]),
  (7, 1, .iand, 0, 0, []),
  (8, 1, .isub, 0, 0, []),
  (9, 1, .istore_n 0, 0, 0, []),
  (10, 1, .iload_n 0, 0, 0, []),
  (11, 3, .ldc_w 266, 6871947672, 0, [(0, 1157)]),
  (14, 1, .iand, 0, 0, []),
  (15, 1, .iload_n 0, 0, 0, []),
  (16, 1, .iconst 2, 16, 0, []),
  (17, 1, .iushr, 0, 0, []),
  (18, 3, .ldc_w 266, 6871947672, 0, [(0, 1157)]),
  (21, 1, .iand, 0, 0, []),
  (22, 1, .iadd, 0, 0, []),
  (23, 1, .istore_n 0, 0, 0, []),
  (24, 1, .iload_n 0, 0, 0, []),
  (25, 1, .iload_n 0, 0, 0, []),
  (26, 1, .iconst 4, 32, 0, []),
  (27, 1, .iushr, 0, 0, []),
  (28, 1, .iadd, 0, 0, []),
  (29, 3, .ldc_w 267, 2021161080, 0, [(0, 1158)]),
  (32, 1, .iand, 0, 0, []),
  (33, 1, .istore_n 0, 0, 0, []),
  (34, 1, .iload_n 0, 0, 0, []),
  (35, 1, .iload_n 0, 0, 0, []),
  (36, 2, .bipush (8), 64, 0, []),
  (38, 1, .iushr, 0, 0, []),
  (39, 1, .iadd, 0, 0, []),
  (40, 1, .istore_n 0, 0, 0, []),
  (41, 1, .iload_n 0, 0, 0, []),
  (42, 1, .iload_n 0, 0, 0, []),
  (43, 2, .bipush (16), 128, 0, []),
  (45, 1, .iushr, 0, 0, []),
  (46, 1, .iadd, 0, 0, []),
  (47, 1, .istore_n 0, 0, 0, []),
  (48, 1, .iload_n 0, 0, 0, []),
  (49, 2, .bipush (63), 504, 0, []),
  (51, 1, .iand, 0, 0, []),
  (52, 1, .ireturn, 0, 0, [])]
/-- GravyRoundModel.roundNow ()I -/
def gc_28 : List ga_E := [(0, 1, .aload_n 0, 0, 0, []),
  (1, 3, .invokevirtual 358, 2, 0, [(0, 1422)]),
  (4, 3, .ifCond .eq (5), 0, 9, []),
  (7, 1, .iconst 0, 0, 0, []),
  (8, 1, .ireturn, 0, 0, []),
  (9, 1, .aload_n 0, 0, 0, []),
  (10, 3, .getfield 85, 1, 38, [(0, 1479)]),
  (13, 2, .bipush (25), 200, 0, []),
  (15, 1, .iaload, 0, 0, []),
  (16, 1, .istore_n 1, 0, 0, []),
  (17, 1, .aload_n 0, 0, 0, []),
  (18, 3, .getfield 85, 1, 38, [(0, 1479)]),
  (21, 2, .bipush (24), 192, 0, []),
  (23, 1, .iaload, 0, 0, []),
  (24, 1, .iconst 1, 8, 0, []),
  (25, 1, .iadd, 0, 0, []),
  (26, 1, .istore_n 2, 0, 0, []),
  (27, 1, .iload_n 2, 0, 0, []),
  (28, 1, .aload_n 0, 0, 0, []),
  (29, 3, .invokevirtual 338, 11, 0, [(0, 1399)]),
  (32, 3, .if_icmp .ge (17), 0, 49, []),
  (35, 1, .iload_n 1, 0, 0, []),
  (36, 1, .aload_n 0, 0, 0, []),
  (37, 1, .iload_n 2, 0, 0, []),
  (38, 3, .invokevirtual 392, 225, 0, [(0, 1403)]),
  (41, 1, .iadd, 0, 0, []),
  (42, 1, .istore_n 1, 0, 0, []),
  (43, 3, .iinc 2 (1), 8, 0, []),
  (46, 3, .goto (-19), 0, 27, []),
  (49, 1, .iload_n 1, 0, 0, []),
  (50, 1, .ireturn, 0, 0, [])]
/-- GravyRoundModel.keepNow ()V -/
def gc_29 : List ga_E := [(0, 1, .iconst 0, 0, 0, []),
  (1, 1, .istore_n 1, 0, 0, []),
  (2, 1, .iload_n 1, 0, 0, []),
  (3, 2, .bipush (29), 232, 0, []),
  (5, 3, .if_icmp .ge (21), 0, 26, []),
  (8, 1, .aload_n 0, 0, 0, []),
  (9, 3, .getfield 88, 1, 39, [(0, 1480)]),
  (12, 1, .iload_n 1, 0, 0, []),
  (13, 1, .aload_n 0, 0, 0, []),
  (14, 3, .getfield 85, 1, 38, [(0, 1479)]),
  (17, 1, .iload_n 1, 0, 0, []),
  (18, 1, .iaload, 0, 0, []),
  (19, 1, .iastore, 0, 0, []),
  (20, 3, .iinc 1 (1), 8, 0, []),
  (23, 3, .goto (-21), 0, 2, []),
  (26, 1, .return_, 0, 0, [])]
/-- GravyRoundModel.isBehind (I)Z -/
def gc_30 : List ga_E := [(0, 1, .aload_n 0, 0, 0, []),
  (1, 1, .iload_n 1, 0, 0, []),
  (2, 3, .invokevirtual 355, 17, 0, [(0, 1415)]),
  (5, 3, .ifCond .eq (29), 0, 34, []),
  (8, 1, .aload_n 0, 0, 0, []),
  (9, 3, .invokevirtual 358, 2, 0, [(0, 1422)]),
  (12, 3, .ifCond .ne (22), 0, 34, []),
  (15, 1, .aload_n 0, 0, 0, []),
  (16, 1, .iload_n 1, 0, 0, []),
  (17, 3, .invokevirtual 361, 220, 0, [(0, 1426)]),
  (20, 1, .aload_n 0, 0, 0, []),
  (21, 3, .getfield 85, 1, 38, [(0, 1479)]),
  (24, 2, .bipush (24), 192, 0, []),
  (26, 1, .iaload, 0, 0, []),
  (27, 3, .if_icmp .le (7), 0, 34, []),
  (30, 1, .iconst 1, 8, 0, []),
  (31, 3, .goto (4), 0, 35, []),
  (34, 1, .iconst 0, 0, 0, []),
  (35, 1, .ireturn, 0, 0, [])]
/-- GravyRoundModel.isLess (II)Z -/
def gc_31 : List ga_E := [(0, 1, .iload_n 1, 0, 0, []),
  (1, 3, .ifCond .lt (14), 0, 15, []),
  (4, 1, .iload_n 0, 0, 0, []),
  (5, 3, .invokestatic 423, 52, 0, [(0, 1814)]),
  (8, 1, .iload_n 1, 0, 0, []),
  (9, 3, .invokestatic 423, 52, 0, [(0, 1814)]),
  (12, 3, .if_icmp .ge (7), 0, 19, []),
  (15, 1, .iconst 1, 8, 0, []),
  (16, 3, .goto (4), 0, 20, []),
  (19, 1, .iconst 0, 0, 0, []),
  (20, 1, .ireturn, 0, 0, [])]
/-- GravyRoundModel.toldOf (II)I -/
def gc_32 : List ga_E := [(0, 1, .iload_n 0, 0, 0, []),
  (1, 3, .ifCond .ge (7), 0, 8, []),
  (4, 1, .iconst (-1), 34359738360, 0, []),
  (5, 3, .goto (15), 0, 20, []),
  (8, 1, .iload_n 1, 0, 0, []),
  (9, 3, .ifCond .ne (10), 0, 19, []),
  (12, 1, .iload_n 0, 0, 0, []),
  (13, 3, .invokestatic 423, 52, 0, [(0, 1814)]),
  (16, 3, .goto (4), 0, 20, []),
  (19, 1, .iload_n 0, 0, 0, []),
  (20, 1, .ireturn, 0, 0, [])]
/-- GravyRound.putOnTape (I)V -/
def gc_33 : List ga_E := [(0, 2, .bipush (24), 192, 0, []),
  (2, 1, .istore_n 2, 0, 0, []),
  (3, 1, .iload_n 2, 0, 0, []),
  (4, 3, .ifCond .lt (42), 0, 46, []),
  (7, 1, .aload_n 0, 0, 0, []),
  (8, 3, .getfield 97, 0, 1, [(0, 664)]),
  (11, 3, .sipush (1600), 12800, 0, []),
  (14, 3, .if_icmp .ge (32), 0, 46, []),
  (17, 1, .aload_n 0, 0, 0, []),
  (18, 3, .getfield 9, 0, 0, [(0, 663)]),
  (21, 1, .aload_n 0, 0, 0, []),
  (22, 3, .getfield 97, 0, 1, [(0, 664)]),
  (25, 1, .iload_n 1, 0, 0, []),
  (26, 1, .iload_n 2, 0, 0, []),
  (27, 1, .ishr, 0, 0, []),
  (28, 1, .i2b, 0, 0, []),
  (29, 1, .bastore, 101, 0, []),
  (30, 1, .aload_n 0, 0, 0, []),
  (31, 1, .dup, 0, 0, []),
  (32, 3, .getfield 97, 0, 1, [(0, 664)]),
  (35, 1, .iconst 1, 8, 0, []),
  (36, 1, .iadd, 0, 0, []),
  (37, 3, .putfield 97, 0, 1, [(0, 664)]),
  (40, 3, .iinc 2 (-8), 34359738304, 0, []),
  (43, 3, .goto (-40), 0, 3, []),
  (46, 1, .return_, 0, 0, [])]
/-- GravyRound$Acts.slot (I)LGravyRound$Table; -/
def gc_34 : List ga_E := [(0, 1, .aload_n 0, 0, 0, []),
  (1, 3, .getfield 13, 2, 0, [(0, 455)]),
  (4, 1, .aload_n 0, 0, 0, []),
  (5, 3, .getfield 20, 2, 1, [(0, 456)]),
  (8, 1, .iload_n 1, 0, 0, []),
  (9, 1, .iadd, 0, 0, []),
  (10, 2, .bipush (41), 328, 0, []),
  (12, 3, .invokestatic 38, 35, 0, [(0, 644)]),
  (15, 1, .aaload, 0, 0, []),
  (16, 1, .areturn, 0, 0, [])]
/-- java/lang/Math.floorMod (II)I -/
def gc_35 : List ga_E := [(0, 1, .iload_n 0, 0, 0, []),
  (1, 1, .iload_n 1, 0, 0, []),
  (2, 1, .irem, 0, 0, []),
  (3, 1, .istore_n 2, 0, 0, []),
  (4, 1, .iload_n 0, 0, 0, []),
  (5, 1, .iload_n 1, 0, 0, []),
  (6, 1, .ixor, 0, 0, []),
  (7, 3, .ifCond .ge (11), 0, 18, []),
  (10, 1, .iload_n 2, 0, 0, []),
  (11, 3, .ifCond .eq (7), 0, 18, []),
  (14, 1, .iload_n 2, 0, 0, []),
  (15, 1, .iload_n 1, 0, 0, []),
  (16, 1, .iadd, 0, 0, []),
  (17, 1, .ireturn, 0, 0, []),
  (18, 1, .iload_n 2, 0, 0, []),
  (19, 1, .ireturn, 0, 0, [])]
/-- GravyRoundModel.slowest (I)I -/
def gc_36 : List ga_E := [(0, 1, .iload_n 1, 0, 0, []),
  (1, 1, .iconst 0, 0, 0, []),
  (2, 1, .iconst 1, 8, 0, []),
  (3, 3, .invokestatic 348, 9, 0, [(0, 1419)]),
  (6, 3, .ifCond .eq (10), 0, 16, []),
  (9, 1, .aload_n 0, 0, 0, []),
  (10, 3, .invokevirtual 358, 2, 0, [(0, 1422)]),
  (13, 3, .ifCond .eq (5), 0, 18, []),
  (16, 1, .iconst (-1), 34359738360, 0, []),
  (17, 1, .ireturn, 0, 0, []),
  (18, 1, .iconst (-1), 34359738360, 0, []),
  (19, 1, .istore_n 2, 0, 0, []),
  (20, 1, .aload_n 0, 0, 0, []),
  (21, 3, .getfield 85, 1, 38, [(0, 1479)]),
  (24, 2, .bipush (24), 192, 0, []),
  (26, 1, .iaload, 0, 0, []),
  (27, 1, .iconst 1, 8, 0, []),
  (28, 1, .iadd, 0, 0, []),
  (29, 1, .istore_n 3, 0, 0, []),
  (30, 1, .iload_n 3, 0, 0, []),
  (31, 1, .aload_n 0, 0, 0, []),
  (32, 3, .invokevirtual 338, 11, 0, [(0, 1399)]),
  (35, 3, .if_icmp .ge (28), 0, 63, []),
  (38, 1, .iload_n 2, 0, 0, []),
  (39, 3, .ifCond .lt (16), 0, 55, []),
  (42, 1, .aload_n 0, 0, 0, []),
  (43, 1, .iload_n 3, 0, 0, []),
  (44, 3, .invokevirtual 392, 225, 0, [(0, 1403)]),
  (47, 1, .aload_n 0, 0, 0, []),
  (48, 1, .iload_n 2, 0, 0, []),
  (49, 3, .invokevirtual 392, 225, 0, [(0, 1403)]),
  (52, 3, .if_icmp .le (5), 0, 57, []),
  (55, 1, .iload_n 3, 0, 0, []),
  (56, 1, .istore_n 2, 0, 0, []),
  (57, 3, .iinc 3 (1), 8, 0, []),
  (60, 3, .goto (-30), 0, 30, []),
  (63, 1, .iload_n 2, 0, 0, []),
  (64, 3, .ifCond .ge (7), 0, 71, []),
  (67, 1, .iconst (-1), 34359738360, 0, []),
  (68, 3, .goto (16), 0, 84, []),
  (71, 1, .iload_n 1, 0, 0, []),
  (72, 3, .ifCond .ne (7), 0, 79, []),
  (75, 1, .iload_n 2, 0, 0, []),
  (76, 3, .goto (8), 0, 84, []),
  (79, 1, .aload_n 0, 0, 0, []),
  (80, 1, .iload_n 2, 0, 0, []),
  (81, 3, .invokevirtual 392, 225, 0, [(0, 1403)]),
  (84, 1, .ireturn, 0, 0, [])]
/-- GravyRound.isFeud (I)Z -/
def gc_37 : List ga_E := [(0, 1, .iload_n 1, 0, 0, []),
  (1, 3, .ifCond .lt (18), 0, 19, []),
  (4, 1, .iload_n 1, 0, 0, []),
  (5, 1, .aload_n 0, 0, 0, []),
  (6, 3, .getfield 20, 0, 4, [(0, 667)]),
  (9, 3, .getfield 233, 4, 4, [(0, 214)]),
  (12, 3, .if_icmp .ge (7), 0, 19, []),
  (15, 1, .iconst 1, 8, 0, []),
  (16, 3, .goto (4), 0, 20, []),
  (19, 1, .iconst 0, 0, 0, []),
  (20, 1, .ireturn, 0, 0, [])]
/-- GravyRoundModel.skin (I)I -/
def gc_38 : List ga_E := [(0, 1, .iload_n 1, 0, 0, []),
  (1, 1, .iconst 0, 0, 0, []),
  (2, 2, .bipush (99), 792, 0, []),
  (4, 3, .invokestatic 348, 9, 0, [(0, 1419)]),
  (7, 3, .ifCond .ne (5), 0, 12, []),
  (10, 1, .iconst (-1), 34359738360, 0, []),
  (11, 1, .ireturn, 0, 0, []),
  (12, 1, .aload_n 0, 0, 0, []),
  (13, 3, .invokevirtual 439, 29, 0, [(0, 1915)]),
  (16, 1, .iconst 0, 0, 0, []),
  (17, 1, .istore_n 2, 0, 0, []),
  (18, 1, .iload_n 2, 0, 0, []),
  (19, 3, .sipush (200), 1600, 0, []),
  (22, 3, .if_icmp .gt (51), 0, 73, []),
  (25, 1, .aload_n 0, 0, 0, []),
  (26, 3, .getfield 85, 1, 38, [(0, 1479)]),
  (29, 2, .bipush (23), 184, 0, []),
  (31, 1, .iaload, 0, 0, []),
  (32, 1, .iload_n 1, 0, 0, []),
  (33, 3, .if_icmp .lt (40), 0, 73, []),
  (36, 1, .aload_n 0, 0, 0, []),
  (37, 3, .invokevirtual 358, 2, 0, [(0, 1422)]),
  (40, 3, .ifCond .eq (21), 0, 61, []),
  (43, 1, .aload_n 0, 0, 0, []),
  (44, 3, .invokevirtual 404, 7, 0, [(0, 1845)]),
  (47, 1, .aload_n 0, 0, 0, []),
  (48, 3, .getfield 85, 1, 38, [(0, 1479)]),
  (51, 2, .bipush (27), 216, 0, []),
  (53, 1, .dup2, 0, 0, []),
  (54, 1, .iaload, 0, 0, []),
  (55, 1, .iconst 1, 8, 0, []),
  (56, 1, .iadd, 0, 0, []),
  (57, 1, .iastore, 0, 0, []),
  (58, 3, .goto (9), 0, 67, []),
  (61, 1, .aload_n 0, 0, 0, []),
  (62, 1, .iconst 0, 0, 0, []),
  (63, 3, .invokevirtual 411, 227, 0, [(0, 1841)]),
  (66, 1, .istore_n 3, 0, 0, []),
  (67, 3, .iinc 2 (1), 8, 0, []),
  (70, 3, .goto (-52), 0, 18, []),
  (73, 1, .aload_n 0, 0, 0, []),
  (74, 3, .invokevirtual 442, 25, 0, [(0, 1919)]),
  (77, 1, .iload_n 2, 0, 0, []),
  (78, 3, .sipush (200), 1600, 0, []),
  (81, 3, .if_icmp .gt (7), 0, 88, []),
  (84, 1, .iload_n 2, 0, 0, []),
  (85, 3, .goto (4), 0, 89, []),
  (88, 1, .iconst (-1), 34359738360, 0, []),
  (89, 1, .ireturn, 0, 0, [])]
/-- GravyRoundModel.leave (I)I -/
def gc_39 : List ga_E := [(0, 1, .iload_n 1, 0, 0, []),
  (1, 1, .iconst 0, 0, 0, []),
  (2, 1, .iconst 1, 8, 0, []),
  (3, 3, .invokestatic 348, 9, 0, [(0, 1419)]),
  (6, 3, .ifCond .ne (5), 0, 11, []),
  (9, 1, .iconst (-1), 34359738360, 0, []),
  (10, 1, .ireturn, 0, 0, []),
  (11, 1, .iconst (-1), 34359738360, 0, []),
  (12, 1, .istore_n 2, 0, 0, []),
  (13, 1, .iconst 0, 0, 0, []),
  (14, 1, .istore_n 3, 0, 0, []),
  (15, 1, .iload_n 3, 0, 0, []),
  (16, 1, .iconst 1, 8, 0, []),
  (17, 1, .aload_n 0, 0, 0, []),
  (18, 3, .invokevirtual 338, 11, 0, [(0, 1399)]),
  (21, 1, .ishl, 0, 0, []),
  (22, 3, .if_icmp .ge (75), 0, 97, []),
  (25, 1, .iload_n 3, 0, 0, []),
  (26, 1, .iload_n 2, 0, 0, []),
  (27, 3, .invokestatic 481, 31, 0, [(0, 2009)]),
  (30, 2, .istore 4, 0, 0, []),
  (32, 1, .iconst 0, 0, 0, []),
  (33, 2, .istore 5, 0, 0, []),
  (35, 2, .iload 5, 0, 0, []),
  (37, 1, .aload_n 0, 0, 0, []),
  (38, 3, .invokevirtual 338, 11, 0, [(0, 1399)]),
  (41, 3, .if_icmp .ge (43), 0, 84, []),
  (44, 2, .iload 4, 0, 0, []),
  (46, 3, .ifCond .eq (38), 0, 84, []),
  (49, 1, .iload_n 3, 0, 0, []),
  (50, 2, .iload 5, 0, 0, []),
  (52, 3, .invokestatic 273, 8, 0, [(0, 1438)]),
  (55, 3, .ifCond .ne (16), 0, 71, []),
  (58, 1, .aload_n 0, 0, 0, []),
  (59, 2, .iload 5, 0, 0, []),
  (61, 3, .invokevirtual 414, 224, 0, [(0, 1786)]),
  (64, 1, .iload_n 3, 0, 0, []),
  (65, 1, .iconst (-1), 34359738360, 0, []),
  (66, 1, .ixor, 0, 0, []),
  (67, 1, .iand, 0, 0, []),
  (68, 3, .ifCond .ne (7), 0, 75, []),
  (71, 1, .iconst 1, 8, 0, []),
  (72, 3, .goto (4), 0, 76, []),
  (75, 1, .iconst 0, 0, 0, []),
  (76, 2, .istore 4, 0, 0, []),
  (78, 3, .iinc 5 (1), 8, 0, []),
  (81, 3, .goto (-46), 0, 35, []),
  (84, 2, .iload 4, 0, 0, []),
  (86, 3, .ifCond .eq (5), 0, 91, []),
  (89, 1, .iload_n 3, 0, 0, []),
  (90, 1, .istore_n 2, 0, 0, []),
  (91, 3, .iinc 3 (1), 8, 0, []),
  (94, 3, .goto (-79), 0, 15, []),
  (97, 1, .iload_n 2, 0, 0, []),
  (98, 1, .iload_n 1, 0, 0, []),
  (99, 3, .invokestatic 484, 32, 0, [(0, 2012)]),
  (102, 1, .ireturn, 0, 0, [])]
/-- GravyRoundModel.turnFeud (IZ)I -/
def gc_40 : List ga_E := [(0, 1, .aload_n 0, 0, 0, []),
  (1, 1, .iload_n 1, 0, 0, []),
  (2, 3, .invokevirtual 417, 21, 0, [(0, 1798)]),
  (5, 3, .ifCond .eq (18), 0, 23, []),
  (8, 1, .aload_n 0, 0, 0, []),
  (9, 3, .getfield 85, 1, 38, [(0, 1479)]),
  (12, 2, .bipush (26), 208, 0, []),
  (14, 1, .iaload, 0, 0, []),
  (15, 1, .iload_n 1, 0, 0, []),
  (16, 3, .invokestatic 273, 8, 0, [(0, 1438)]),
  (19, 1, .iload_n 2, 0, 0, []),
  (20, 3, .if_icmp .ne (5), 0, 25, []),
  (23, 1, .iconst (-1), 34359738360, 0, []),
  (24, 1, .ireturn, 0, 0, []),
  (25, 1, .aload_n 0, 0, 0, []),
  (26, 3, .invokevirtual 426, 82, 0, [(0, 1837)]),
  (29, 1, .aload_n 0, 0, 0, []),
  (30, 3, .getfield 85, 1, 38, [(0, 1479)]),
  (33, 2, .bipush (26), 208, 0, []),
  (35, 1, .dup2, 0, 0, []),
  (36, 1, .iaload, 0, 0, []),
  (37, 1, .iconst 1, 8, 0, []),
  (38, 1, .iload_n 1, 0, 0, []),
  (39, 1, .ishl, 0, 0, []),
  (40, 1, .ixor, 0, 0, []),
  (41, 1, .iastore, 0, 0, []),
  (42, 1, .aload_n 0, 0, 0, []),
  (43, 3, .invokevirtual 420, 28, 0, [(0, 1806)]),
  (46, 1, .ireturn, 0, 0, [])]
/-- GravyRoundModel.fault (I)I -/
def gc_41 : List ga_E := [(0, 1, .iload_n 1, 0, 0, []),
  (1, 3, .ifCond .ne (10), 0, 11, []),
  (4, 1, .aload_n 0, 0, 0, []),
  (5, 3, .getfield 158, 1, 4, [(0, 1445)]),
  (8, 3, .goto (16), 0, 24, []),
  (11, 1, .iload_n 1, 0, 0, []),
  (12, 1, .iconst 1, 8, 0, []),
  (13, 3, .if_icmp .ne (10), 0, 23, []),
  (16, 1, .aload_n 0, 0, 0, []),
  (17, 3, .getfield 16, 1, 5, [(0, 1446)]),
  (20, 3, .goto (4), 0, 24, []),
  (23, 1, .iconst (-1), 34359738360, 0, []),
  (24, 1, .ireturn, 0, 0, [])]
/-- GravyRound$Dinner.clear ()V -/
def gc_42 : List ga_E := [(0, 1, .aload_n 0, 0, 0, []),
  (1, 1, .iconst 0, 0, 0, []),
  (2, 3, .putfield 38, 4, 0, [(0, 193)]),
  (5, 1, .aload_n 0, 0, 0, []),
  (6, 1, .iconst 0, 0, 0, []),
  (7, 3, .putfield 42, 4, 4, [(0, 212)]),
  (10, 1, .aload_n 0, 0, 0, []),
  (11, 1, .iconst 0, 0, 0, []),
  (12, 3, .putfield 45, 4, 7, [(0, 219)]),
  (15, 1, .aload_n 0, 0, 0, []),
  (16, 1, .iconst 0, 0, 0, []),
  (17, 3, .putfield 48, 4, 8, [(0, 222)]),
  (20, 1, .aload_n 0, 0, 0, []),
  (21, 1, .iconst 3, 24, 0, []),
  (22, 3, .putfield 51, 4, 9, [(0, 225)]),
  (25, 1, .aload_n 0, 0, 0, []),
  (26, 1, .iconst 0, 0, 0, []),
  (27, 3, .putfield 54, 4, 10, [(0, 231)]),
  (30, 1, .aload_n 0, 0, 0, []),
  (31, 1, .iconst 0, 0, 0, []),
  (32, 3, .putfield 57, 4, 11, [(0, 235)]),
  (35, 1, .aload_n 0, 0, 0, []),
  (36, 3, .getfield 31, 4, 12, [(0, 238)]),
  (39, 3, .invokevirtual 60, 43, 0, [(0, 189)]),
  (42, 1, .return_, 0, 0, [])]
/-- GravyRound$Formula.clear ()V -/
def gc_43 : List ga_E := [(0, 1, .aload_n 0, 0, 0, []),
  (1, 1, .iconst 0, 0, 0, []),
  (2, 3, .putfield 19, 5, 1, [(0, 164)]),
  (5, 1, .aload_n 0, 0, 0, []),
  (6, 1, .iconst 0, 0, 0, []),
  (7, 3, .putfield 23, 5, 2, [(0, 166)]),
  (10, 1, .return_, 0, 0, [])]
/-- GravyRoundModel.back (I)I -/
def gc_44 : List ga_E := [(0, 1, .iload_n 1, 0, 0, []),
  (1, 1, .iconst 0, 0, 0, []),
  (2, 1, .iconst 2, 16, 0, []),
  (3, 3, .invokestatic 348, 9, 0, [(0, 1419)]),
  (6, 3, .ifCond .eq (12), 0, 18, []),
  (9, 1, .aload_n 0, 0, 0, []),
  (10, 3, .getfield 145, 1, 64, [(0, 1505)]),
  (13, 1, .iload_n 1, 0, 0, []),
  (14, 1, .baload, 104, 0, []),
  (15, 3, .ifCond .ne (5), 0, 20, []),
  (18, 1, .iconst (-1), 34359738360, 0, []),
  (19, 1, .ireturn, 0, 0, []),
  (20, 1, .iconst 0, 0, 0, []),
  (21, 1, .istore_n 2, 0, 0, []),
  (22, 1, .iload_n 2, 0, 0, []),
  (23, 2, .bipush (29), 232, 0, []),
  (25, 3, .if_icmp .ge (26), 0, 51, []),
  (28, 1, .aload_n 0, 0, 0, []),
  (29, 3, .getfield 85, 1, 38, [(0, 1479)]),
  (32, 1, .iload_n 2, 0, 0, []),
  (33, 1, .aload_n 0, 0, 0, []),
  (34, 3, .getfield 142, 1, 63, [(0, 1504)]),
  (37, 2, .bipush (29), 232, 0, []),
  (39, 1, .iload_n 1, 0, 0, []),
  (40, 1, .imul, 0, 0, []),
  (41, 1, .iload_n 2, 0, 0, []),
  (42, 1, .iadd, 0, 0, []),
  (43, 1, .iaload, 0, 0, []),
  (44, 1, .iastore, 0, 0, []),
  (45, 3, .iinc 2 (1), 8, 0, []),
  (48, 3, .goto (-26), 0, 22, []),
  (51, 1, .aload_n 0, 0, 0, []),
  (52, 1, .iconst 0, 0, 0, []),
  (53, 3, .putfield 380, 1, 46, [(0, 1487)]),
  (56, 1, .aload_n 0, 0, 0, []),
  (57, 1, .iconst 0, 0, 0, []),
  (58, 3, .putfield 383, 1, 47, [(0, 1488)]),
  (61, 1, .aload_n 0, 0, 0, []),
  (62, 3, .getfield 85, 1, 38, [(0, 1479)]),
  (65, 2, .bipush (27), 216, 0, []),
  (67, 1, .iaload, 0, 0, []),
  (68, 1, .ireturn, 0, 0, [])]
/-- GravyRound$Sights.fitting (I)I -/
def gc_45 : List ga_E := [(0, 1, .iconst 0, 0, 0, []),
  (1, 1, .istore_n 2, 0, 0, []),
  (2, 1, .iconst 1, 8, 0, []),
  (3, 1, .istore_n 3, 0, 0, []),
  (4, 1, .iload_n 3, 0, 0, []),
  (5, 2, .bipush (20), 160, 0, []),
  (7, 3, .if_icmp .gt (34), 0, 41, []),
  (10, 1, .aload_n 0, 0, 0, []),
  (11, 3, .getfield 34, 10, 0, [(0, 578)]),
  (14, 3, .getfield 42, 4, 0, [(0, 196)]),
  (17, 3, .ifCond .le (24), 0, 41, []),
  (20, 1, .aload_n 0, 0, 0, []),
  (21, 1, .iload_n 3, 0, 0, []),
  (22, 1, .iload_n 1, 0, 0, []),
  (23, 3, .invokevirtual 61, 295, 0, [(0, 1337)]),
  (26, 3, .ifCond .eq (9), 0, 35, []),
  (29, 1, .iload_n 2, 0, 0, []),
  (30, 1, .iconst 1, 8, 0, []),
  (31, 1, .iload_n 3, 0, 0, []),
  (32, 1, .ishl, 0, 0, []),
  (33, 1, .ior, 0, 0, []),
  (34, 1, .istore_n 2, 0, 0, []),
  (35, 3, .iinc 3 (1), 8, 0, []),
  (38, 3, .goto (-34), 0, 4, []),
  (41, 1, .iload_n 2, 0, 0, []),
  (42, 1, .ireturn, 0, 0, [])]
/-- GravyRoundModel.fits (I)I -/
def gc_46 : List ga_E := [(0, 1, .aload_n 0, 0, 0, []),
  (1, 3, .invokevirtual 338, 11, 0, [(0, 1399)]),
  (4, 3, .ifCond .ne (5), 0, 9, []),
  (7, 1, .iconst 0, 0, 0, []),
  (8, 1, .ireturn, 0, 0, []),
  (9, 1, .aload_n 0, 0, 0, []),
  (10, 3, .invokevirtual 517, 246, 0, [(0, 2093)]),
  (13, 1, .iconst 0, 0, 0, []),
  (14, 1, .istore_n 2, 0, 0, []),
  (15, 1, .iconst 1, 8, 0, []),
  (16, 1, .istore_n 3, 0, 0, []),
  (17, 1, .iload_n 3, 0, 0, []),
  (18, 2, .bipush (20), 160, 0, []),
  (20, 3, .if_icmp .gt (26), 0, 46, []),
  (23, 1, .iload_n 2, 0, 0, []),
  (24, 1, .aload_n 0, 0, 0, []),
  (25, 1, .iload_n 3, 0, 0, []),
  (26, 1, .iload_n 1, 0, 0, []),
  (27, 3, .invokevirtual 520, 247, 0, [(0, 2097)]),
  (30, 3, .ifCond .eq (7), 0, 37, []),
  (33, 1, .iconst 1, 8, 0, []),
  (34, 3, .goto (4), 0, 38, []),
  (37, 1, .iconst 0, 0, 0, []),
  (38, 1, .iadd, 0, 0, []),
  (39, 1, .istore_n 2, 0, 0, []),
  (40, 3, .iinc 3 (1), 8, 0, []),
  (43, 3, .goto (-26), 0, 17, []),
  (46, 1, .iload_n 2, 0, 0, []),
  (47, 1, .ireturn, 0, 0, [])]
/-- GravyRoundModel.later (I)I -/
def gc_47 : List ga_E := [(0, 1, .iload_n 1, 0, 0, []),
  (1, 1, .iconst 0, 0, 0, []),
  (2, 3, .sipush (1000), 8000, 0, []),
  (5, 3, .invokestatic 348, 9, 0, [(0, 1419)]),
  (8, 3, .ifCond .eq (15), 0, 23, []),
  (11, 1, .aload_n 0, 0, 0, []),
  (12, 3, .getfield 514, 1, 62, [(0, 1503)]),
  (15, 1, .iload_n 1, 0, 0, []),
  (16, 1, .iadd, 0, 0, []),
  (17, 3, .ldc_w 480, 800000, 0, [(0, 2004)]),
  (20, 3, .if_icmp .le (5), 0, 25, []),
  (23, 1, .iconst (-1), 34359738360, 0, []),
  (24, 1, .ireturn, 0, 0, []),
  (25, 1, .aload_n 0, 0, 0, []),
  (26, 1, .dup, 0, 0, []),
  (27, 3, .getfield 514, 1, 62, [(0, 1503)]),
  (30, 1, .iload_n 1, 0, 0, []),
  (31, 1, .iadd, 0, 0, []),
  (32, 3, .putfield 514, 1, 62, [(0, 1503)]),
  (35, 1, .aload_n 0, 0, 0, []),
  (36, 3, .getfield 514, 1, 62, [(0, 1503)]),
  (39, 1, .ireturn, 0, 0, [])]
/-- GravyRound.seen (IIZ)I -/
def gc_48 : List ga_E := [(0, 1, .aload_n 0, 0, 0, []),
  (1, 1, .iload_n 2, 0, 0, []),
  (2, 3, .invokevirtual 119, 18, 0, [(0, 941)]),
  (5, 3, .ifCond .eq (16), 0, 21, []),
  (8, 1, .aload_n 0, 0, 0, []),
  (9, 3, .getfield 90, 0, 16, [(0, 679)]),
  (12, 1, .iload_n 1, 0, 0, []),
  (13, 1, .iload_n 2, 0, 0, []),
  (14, 1, .iload_n 3, 0, 0, []),
  (15, 3, .invokevirtual 313, 294, 0, [(0, 1308)]),
  (18, 3, .goto (4), 0, 22, []),
  (21, 1, .iconst (-1), 34359738360, 0, []),
  (22, 1, .ireturn, 0, 0, [])]
/-- GravyRoundModel.law (I)I -/
def gc_49 : List ga_E := [(0, 1, .iload_n 1, 0, 0, []),
  (1, 1, .iconst 1, 8, 0, []),
  (2, 2, .bipush (9), 72, 0, []),
  (4, 3, .invokestatic 348, 9, 0, [(0, 1419)]),
  (7, 3, .ifCond .ne (5), 0, 12, []),
  (10, 1, .iconst (-1), 34359738360, 0, []),
  (11, 1, .ireturn, 0, 0, []),
  (12, 1, .aload_n 0, 0, 0, []),
  (13, 1, .iload_n 1, 0, 0, []),
  (14, 3, .putfield 97, 1, 42, [(0, 1483)]),
  (17, 1, .aload_n 0, 0, 0, []),
  (18, 3, .invokevirtual 420, 28, 0, [(0, 1806)]),
  (21, 1, .istore_n 2, 0, 0, []),
  (22, 1, .aload_n 0, 0, 0, []),
  (23, 1, .iconst (-1), 34359738360, 0, []),
  (24, 3, .putfield 97, 1, 42, [(0, 1483)]),
  (27, 1, .iload_n 2, 0, 0, []),
  (28, 1, .ireturn, 0, 0, [])]
/-- GravyRound$Company.look (LGravyRound$Table;)V -/
def gc_50 : List ga_E := [(0, 1, .aload_n 0, 0, 0, []),
  (1, 1, .aload_n 1, 0, 0, []),
  (2, 3, .getfield 18, 11, 0, [(1, 391)]),
  (5, 3, .getfield 24, 4, 0, [(0, 194)]),
  (8, 3, .putfield 30, 3, 1, [(0, 562)]),
  (11, 1, .iconst 0, 0, 0, []),
  (12, 1, .istore_n 2, 0, 0, []),
  (13, 1, .iload_n 2, 0, 0, []),
  (14, 1, .aload_n 0, 0, 0, []),
  (15, 3, .getfield 30, 3, 1, [(0, 562)]),
  (18, 3, .if_icmp .ge (20), 0, 38, []),
  (21, 1, .aload_n 0, 0, 0, []),
  (22, 3, .getfield 9, 3, 0, [(0, 561)]),
  (25, 1, .iload_n 2, 0, 0, []),
  (26, 1, .aload_n 1, 0, 0, []),
  (27, 1, .iload_n 2, 0, 0, []),
  (28, 3, .invokevirtual 31, 302, 0, [(0, 1167)]),
  (31, 1, .iastore, 0, 0, []),
  (32, 3, .iinc 2 (1), 8, 0, []),
  (35, 3, .goto (-22), 0, 13, []),
  (38, 1, .return_, 0, 0, [])]
/-- GravyRoundModel.greed (II)I -/
def gc_51 : List ga_E := [(0, 1, .aload_n 0, 0, 0, []),
  (1, 1, .iconst 0, 0, 0, []),
  (2, 3, .putfield 389, 1, 51, [(0, 1492)]),
  (5, 1, .aload_n 0, 0, 0, []),
  (6, 1, .iload_n 1, 0, 0, []),
  (7, 3, .invokevirtual 355, 17, 0, [(0, 1415)]),
  (10, 3, .ifCond .eq (44), 0, 54, []),
  (13, 1, .aload_n 0, 0, 0, []),
  (14, 1, .iload_n 2, 0, 0, []),
  (15, 3, .invokevirtual 355, 17, 0, [(0, 1415)]),
  (18, 3, .ifCond .eq (36), 0, 54, []),
  (21, 1, .iload_n 1, 0, 0, []),
  (22, 1, .iload_n 2, 0, 0, []),
  (23, 3, .if_icmp .eq (31), 0, 54, []),
  (26, 1, .aload_n 0, 0, 0, []),
  (27, 3, .getfield 85, 1, 38, [(0, 1479)]),
  (30, 2, .bipush (21), 168, 0, []),
  (32, 1, .iaload, 0, 0, []),
  (33, 1, .iload_n 1, 0, 0, []),
  (34, 3, .invokestatic 273, 8, 0, [(0, 1438)]),
  (37, 3, .ifCond .ne (17), 0, 54, []),
  (40, 1, .aload_n 0, 0, 0, []),
  (41, 3, .getfield 85, 1, 38, [(0, 1479)]),
  (44, 2, .bipush (21), 168, 0, []),
  (46, 1, .iaload, 0, 0, []),
  (47, 1, .iload_n 2, 0, 0, []),
  (48, 3, .invokestatic 273, 8, 0, [(0, 1438)]),
  (51, 3, .ifCond .eq (5), 0, 56, []),
  (54, 1, .iconst (-1), 34359738360, 0, []),
  (55, 1, .ireturn, 0, 0, []),
  (56, 1, .aload_n 0, 0, 0, []),
  (57, 1, .iload_n 1, 0, 0, []),
  (58, 1, .iload_n 2, 0, 0, []),
  (59, 3, .invokevirtual 505, 245, 0, [(0, 2063)]),
  (62, 1, .iconst 0, 0, 0, []),
  (63, 1, .istore_n 3, 0, 0, []),
  (64, 1, .iconst 0, 0, 0, []),
  (65, 2, .istore 4, 0, 0, []),
  (67, 2, .iload 4, 0, 0, []),
  (69, 2, .bipush (36), 288, 0, []),
  (71, 3, .if_icmp .ge (136), 0, 207, []),
  (74, 2, .iload 4, 0, 0, []),
  (76, 2, .bipush (6), 48, 0, []),
  (78, 1, .idiv, 0, 0, []),
  (79, 2, .istore 5, 0, 0, []),
  (81, 2, .iload 4, 0, 0, []),
  (83, 2, .bipush (6), 48, 0, []),
  (85, 1, .irem, 0, 0, []),
  (86, 2, .istore 6, 0, 0, []),
  (88, 1, .iconst 1, 8, 0, []),
  (89, 2, .istore 7, 0, 0, []),
  (91, 1, .iconst 0, 0, 0, []),
  (92, 2, .istore 8, 0, 0, []),
  (94, 2, .iload 8, 0, 0, []),
  (96, 2, .bipush (6), 48, 0, []),
  (98, 3, .if_icmp .ge (67), 0, 165, []),
  (101, 2, .iload 7, 0, 0, []),
  (103, 3, .ifCond .eq (53), 0, 156, []),
  (106, 1, .aload_n 0, 0, 0, []),
  (107, 3, .getfield 115, 1, 52, [(0, 1493)]),
  (110, 2, .bipush (6), 48, 0, []),
  (112, 2, .iload 8, 0, 0, []),
  (114, 1, .imul, 0, 0, []),
  (115, 2, .iload 6, 0, 0, []),
  (117, 1, .iadd, 0, 0, []),
  (118, 1, .iaload, 0, 0, []),
  (119, 1, .aload_n 0, 0, 0, []),
  (120, 3, .getfield 115, 1, 52, [(0, 1493)]),
  (123, 2, .iload 4, 0, 0, []),
  (125, 1, .iaload, 0, 0, []),
  (126, 3, .if_icmp .gt (30), 0, 156, []),
  (129, 1, .aload_n 0, 0, 0, []),
  (130, 3, .getfield 118, 1, 53, [(0, 1494)]),
  (133, 2, .bipush (6), 48, 0, []),
  (135, 2, .iload 5, 0, 0, []),
  (137, 1, .imul, 0, 0, []),
  (138, 2, .iload 8, 0, 0, []),
  (140, 1, .iadd, 0, 0, []),
  (141, 1, .iaload, 0, 0, []),
  (142, 1, .aload_n 0, 0, 0, []),
  (143, 3, .getfield 118, 1, 53, [(0, 1494)]),
  (146, 2, .iload 4, 0, 0, []),
  (148, 1, .iaload, 0, 0, []),
  (149, 3, .if_icmp .gt (7), 0, 156, []),
  (152, 1, .iconst 1, 8, 0, []),
  (153, 3, .goto (4), 0, 157, []),
  (156, 1, .iconst 0, 0, 0, []),
  (157, 2, .istore 7, 0, 0, []),
  (159, 3, .iinc 8 (1), 8, 0, []),
  (162, 3, .goto (-68), 0, 94, []),
  (165, 2, .iload 7, 0, 0, []),
  (167, 3, .ifCond .ne (6), 0, 173, []),
  (170, 3, .goto (31), 0, 201, []),
  (173, 1, .iload_n 3, 0, 0, []),
  (174, 3, .ifCond .ne (24), 0, 198, []),
  (177, 1, .aload_n 0, 0, 0, []),
  (178, 3, .getfield 106, 1, 48, [(0, 1489)]),
  (181, 1, .iconst 0, 0, 0, []),
  (182, 2, .iload 5, 0, 0, []),
  (184, 1, .iastore, 0, 0, []),
  (185, 1, .aload_n 0, 0, 0, []),
  (186, 3, .getfield 106, 1, 48, [(0, 1489)]),
  (189, 1, .iconst 1, 8, 0, []),
  (190, 2, .iload 6, 0, 0, []),
  (192, 1, .iastore, 0, 0, []),
  (193, 1, .aload_n 0, 0, 0, []),
  (194, 1, .iconst 2, 16, 0, []),
  (195, 3, .putfield 389, 1, 51, [(0, 1492)]),
  (198, 3, .iinc 3 (1), 8, 0, []),
  (201, 3, .iinc 4 (1), 8, 0, []),
  (204, 3, .goto (-137), 0, 67, []),
  (207, 1, .iload_n 3, 0, 0, []),
  (208, 1, .ireturn, 0, 0, [])]
/-- GravyRoundModel.bitsOf (I)I -/
def gc_52 : List ga_E := [(0, 1, .iconst 0, 0, 0, []),
  (1, 1, .istore_n 1, 0, 0, []),
  (2, 1, .iload_n 0, 0, 0, []),
  (3, 1, .istore_n 2, 0, 0, []),
  (4, 1, .iload_n 2, 0, 0, []),
  (5, 3, .ifCond .eq (15), 0, 20, []),
  (8, 3, .iinc 1 (1), 8, 0, []),
  (11, 1, .iload_n 2, 0, 0, []),
  (12, 1, .iload_n 2, 0, 0, []),
  (13, 1, .iconst 1, 8, 0, []),
  (14, 1, .isub, 0, 0, []),
  (15, 1, .iand, 0, 0, []),
  (16, 1, .istore_n 2, 0, 0, []),
  (17, 3, .goto (-13), 0, 4, []),
  (20, 1, .iload_n 1, 0, 0, []),
  (21, 1, .ireturn, 0, 0, [])]
/-- GravyRoundModel.stands (I)I -/
def gc_53 : List ga_E := [(0, 1, .iload_n 1, 0, 0, []),
  (1, 1, .iconst 0, 0, 0, []),
  (2, 3, .sipush (200), 1600, 0, []),
  (5, 3, .invokestatic 348, 9, 0, [(0, 1419)]),
  (8, 3, .ifCond .ne (5), 0, 13, []),
  (11, 1, .iconst (-1), 34359738360, 0, []),
  (12, 1, .ireturn, 0, 0, []),
  (13, 1, .aload_n 0, 0, 0, []),
  (14, 3, .invokevirtual 439, 29, 0, [(0, 1915)]),
  (17, 1, .iconst 0, 0, 0, []),
  (18, 1, .istore_n 2, 0, 0, []),
  (19, 1, .iload_n 2, 0, 0, []),
  (20, 1, .iload_n 1, 0, 0, []),
  (21, 3, .if_icmp .ge (22), 0, 43, []),
  (24, 1, .aload_n 0, 0, 0, []),
  (25, 3, .invokevirtual 358, 2, 0, [(0, 1422)]),
  (28, 3, .ifCond .ne (15), 0, 43, []),
  (31, 1, .aload_n 0, 0, 0, []),
  (32, 1, .iconst 0, 0, 0, []),
  (33, 3, .invokevirtual 411, 227, 0, [(0, 1841)]),
  (36, 1, .istore_n 3, 0, 0, []),
  (37, 3, .iinc 2 (1), 8, 0, []),
  (40, 3, .goto (-21), 0, 19, []),
  (43, 1, .aload_n 0, 0, 0, []),
  (44, 3, .getfield 85, 1, 38, [(0, 1479)]),
  (47, 2, .bipush (24), 192, 0, []),
  (49, 1, .iaload, 0, 0, []),
  (50, 1, .istore_n 2, 0, 0, []),
  (51, 1, .aload_n 0, 0, 0, []),
  (52, 3, .invokevirtual 442, 25, 0, [(0, 1919)]),
  (55, 1, .iload_n 2, 0, 0, []),
  (56, 1, .ireturn, 0, 0, [])]
/-- GravyRoundModel.warm (I)I -/
def gc_54 : List ga_E := [(0, 1, .iload_n 1, 0, 0, []),
  (1, 1, .iconst 1, 8, 0, []),
  (2, 2, .bipush (50), 400, 0, []),
  (4, 3, .invokestatic 348, 9, 0, [(0, 1419)]),
  (7, 3, .ifCond .eq (15), 0, 22, []),
  (10, 1, .aload_n 0, 0, 0, []),
  (11, 3, .getfield 85, 1, 38, [(0, 1479)]),
  (14, 2, .bipush (23), 184, 0, []),
  (16, 1, .iaload, 0, 0, []),
  (17, 2, .bipush (99), 792, 0, []),
  (19, 3, .if_icmp .ne (5), 0, 24, []),
  (22, 1, .iconst (-1), 34359738360, 0, []),
  (23, 1, .ireturn, 0, 0, []),
  (24, 1, .aload_n 0, 0, 0, []),
  (25, 3, .invokevirtual 426, 82, 0, [(0, 1837)]),
  (28, 1, .aload_n 0, 0, 0, []),
  (29, 3, .getfield 85, 1, 38, [(0, 1479)]),
  (32, 2, .bipush (23), 184, 0, []),
  (34, 1, .aload_n 0, 0, 0, []),
  (35, 3, .getfield 85, 1, 38, [(0, 1479)]),
  (38, 2, .bipush (23), 184, 0, []),
  (40, 1, .iaload, 0, 0, []),
  (41, 1, .iload_n 1, 0, 0, []),
  (42, 1, .iadd, 0, 0, []),
  (43, 1, .iconst 0, 0, 0, []),
  (44, 2, .bipush (99), 792, 0, []),
  (46, 3, .invokestatic 398, 1, 0, [(0, 1864)]),
  (49, 1, .iastore, 0, 0, []),
  (50, 1, .aload_n 0, 0, 0, []),
  (51, 3, .getfield 85, 1, 38, [(0, 1479)]),
  (54, 2, .bipush (23), 184, 0, []),
  (56, 1, .iaload, 0, 0, []),
  (57, 1, .ireturn, 0, 0, [])]
/-- GravyRoundModel.pour (I)I -/
def gc_55 : List ga_E := [(0, 1, .iload_n 1, 0, 0, []),
  (1, 1, .iconst 1, 8, 0, []),
  (2, 2, .bipush (20), 160, 0, []),
  (4, 3, .invokestatic 348, 9, 0, [(0, 1419)]),
  (7, 3, .ifCond .eq (15), 0, 22, []),
  (10, 1, .aload_n 0, 0, 0, []),
  (11, 3, .getfield 85, 1, 38, [(0, 1479)]),
  (14, 2, .bipush (22), 176, 0, []),
  (16, 1, .iaload, 0, 0, []),
  (17, 2, .bipush (99), 792, 0, []),
  (19, 3, .if_icmp .ne (5), 0, 24, []),
  (22, 1, .iconst (-1), 34359738360, 0, []),
  (23, 1, .ireturn, 0, 0, []),
  (24, 1, .aload_n 0, 0, 0, []),
  (25, 3, .invokevirtual 426, 82, 0, [(0, 1837)]),
  (28, 1, .aload_n 0, 0, 0, []),
  (29, 3, .getfield 85, 1, 38, [(0, 1479)]),
  (32, 2, .bipush (22), 176, 0, []),
  (34, 1, .aload_n 0, 0, 0, []),
  (35, 3, .getfield 85, 1, 38, [(0, 1479)]),
  (38, 2, .bipush (22), 176, 0, []),
  (40, 1, .iaload, 0, 0, []),
  (41, 1, .iload_n 1, 0, 0, []),
  (42, 1, .iadd, 0, 0, []),
  (43, 1, .iconst 0, 0, 0, []),
  (44, 2, .bipush (99), 792, 0, []),
  (46, 3, .invokestatic 398, 1, 0, [(0, 1864)]),
  (49, 1, .iastore, 0, 0, []),
  (50, 1, .aload_n 0, 0, 0, []),
  (51, 3, .getfield 85, 1, 38, [(0, 1479)]),
  (54, 2, .bipush (22), 176, 0, []),
  (56, 1, .iaload, 0, 0, []),
  (57, 1, .ireturn, 0, 0, [])]
/-- GravyRoundModel.change (II)I -/
def gc_56 : List ga_E := [(0, 1, .aload_n 0, 0, 0, []),
  (1, 1, .iload_n 1, 0, 0, []),
  (2, 3, .invokevirtual 364, 30, 0, [(0, 1411)]),
  (5, 3, .ifCond .eq (16), 0, 21, []),
  (8, 1, .aload_n 0, 0, 0, []),
  (9, 1, .iload_n 2, 0, 0, []),
  (10, 3, .invokevirtual 364, 30, 0, [(0, 1411)]),
  (13, 3, .ifCond .eq (8), 0, 21, []),
  (16, 1, .iload_n 1, 0, 0, []),
  (17, 1, .iload_n 2, 0, 0, []),
  (18, 3, .if_icmp .ne (5), 0, 23, []),
  (21, 1, .iconst (-1), 34359738360, 0, []),
  (22, 1, .ireturn, 0, 0, []),
  (23, 1, .aload_n 0, 0, 0, []),
  (24, 3, .invokevirtual 426, 82, 0, [(0, 1837)]),
  (27, 1, .aload_n 0, 0, 0, []),
  (28, 1, .aload_n 0, 0, 0, []),
  (29, 1, .iload_n 1, 0, 0, []),
  (30, 3, .invokevirtual 361, 220, 0, [(0, 1426)]),
  (33, 1, .aload_n 0, 0, 0, []),
  (34, 1, .iload_n 2, 0, 0, []),
  (35, 3, .invokevirtual 361, 220, 0, [(0, 1426)]),
  (38, 3, .invokevirtual 429, 229, 0, [(0, 1875)]),
  (41, 1, .aload_n 0, 0, 0, []),
  (42, 3, .invokevirtual 420, 28, 0, [(0, 1806)]),
  (45, 1, .ireturn, 0, 0, [])]
/-- GravyRoundModel.end (I)I -/
def gc_57 : List ga_E := [(0, 1, .iload_n 1, 0, 0, []),
  (1, 3, .ifCond .lt (11), 0, 12, []),
  (4, 1, .iload_n 1, 0, 0, []),
  (5, 1, .aload_n 0, 0, 0, []),
  (6, 3, .getfield 260, 1, 2, [(0, 1443)]),
  (9, 3, .if_icmp .le (5), 0, 14, []),
  (12, 1, .iconst (-1), 34359738360, 0, []),
  (13, 1, .ireturn, 0, 0, []),
  (14, 1, .aload_n 0, 0, 0, []),
  (15, 1, .iload_n 1, 0, 0, []),
  (16, 3, .putfield 260, 1, 2, [(0, 1443)]),
  (19, 1, .iload_n 1, 0, 0, []),
  (20, 1, .ireturn, 0, 0, [])]
/-- GravyRound$Dinner.<init> ()V -/
def gc_58 : List ga_E := [(0, 1, .aload_n 0, 0, 0, []),
  (1, 3, .invokespecial 3, 1000, 0, [(0, 156)]),
  (4, 1, .aload_n 0, 0, 0, []),
  (5, 2, .bipush (7), 56, 0, []),
  (7, 2, .newarray .long, 102, 0, [(0, 183)]),
  (9, 3, .putfield 9, 4, 1, [(3, 201)]),
  (12, 1, .aload_n 0, 0, 0, []),
  (13, 2, .bipush (7), 56, 0, []),
  (15, 2, .newarray .int, 100, 0, [(0, 184)]),
  (17, 3, .putfield 15, 4, 2, [(3, 202)]),
  (20, 1, .aload_n 0, 0, 0, []),
  (21, 2, .bipush (7), 56, 0, []),
  (23, 2, .newarray .int, 100, 0, [(0, 184)]),
  (25, 3, .putfield 19, 4, 3, [(3, 207)]),
  (28, 1, .aload_n 0, 0, 0, []),
  (29, 2, .bipush (10), 80, 0, []),
  (31, 2, .newarray .int, 100, 0, [(0, 184)]),
  (33, 3, .putfield 22, 4, 5, [(3, 215)]),
  (36, 1, .aload_n 0, 0, 0, []),
  (37, 2, .bipush (10), 80, 0, []),
  (39, 2, .newarray .int, 100, 0, [(0, 184)]),
  (41, 3, .putfield 25, 4, 6, [(3, 217)]),
  (44, 1, .aload_n 0, 0, 0, []),
  (45, 3, .new 28, 5, 5, [(0, 157)]),
  (48, 1, .dup, 0, 0, []),
  (49, 3, .invokespecial 30, 59, 0, [(1, 159)]),
  (52, 3, .putfield 31, 4, 12, [(3, 238)]),
  (55, 1, .aload_n 0, 0, 0, []),
  (56, 3, .invokevirtual 35, 42, 0, [(0, 185)]),
  (59, 1, .return_, 0, 0, [])]
/-- GravyRound$Formula.<init> ()V -/
def gc_59 : List ga_E := [(0, 1, .aload_n 0, 0, 0, []),
  (1, 3, .invokespecial 1, 1000, 0, [(0, 162)]),
  (4, 1, .aload_n 0, 0, 0, []),
  (5, 3, .sipush (300), 2400, 0, []),
  (8, 2, .newarray .int, 100, 0, [(0, 184)]),
  (10, 3, .putfield 9, 5, 0, [(3, 163)]),
  (13, 1, .aload_n 0, 0, 0, []),
  (14, 1, .iconst 5, 40, 0, []),
  (15, 2, .newarray .int, 100, 0, [(0, 184)]),
  (17, 3, .putfield 13, 5, 3, [(3, 169)]),
  (20, 1, .aload_n 0, 0, 0, []),
  (21, 2, .bipush (32), 256, 0, []),
  (23, 2, .newarray .int, 100, 0, [(0, 184)]),
  (25, 3, .putfield 16, 5, 4, [(3, 170)]),
  (28, 1, .return_, 0, 0, [])]
/-- GravyRound.beginAsTold ()V -/
def gc_60 : List ga_E := [(0, 1, .aload_n 0, 0, 0, []),
  (1, 3, .getfield 41, 0, 7, [(0, 670)]),
  (4, 3, .invokevirtual 368, 61, 0, [(0, 616)]),
  (7, 1, .aload_n 0, 0, 0, []),
  (8, 3, .getfield 51, 0, 9, [(0, 672)]),
  (11, 1, .aload_n 0, 0, 0, []),
  (12, 3, .getfield 41, 0, 7, [(0, 670)]),
  (15, 3, .invokevirtual 343, 64, 0, [(0, 636)]),
  (18, 1, .aload_n 0, 0, 0, []),
  (19, 3, .getfield 90, 0, 16, [(0, 679)]),
  (22, 3, .invokevirtual 370, 65, 0, [(0, 654)]),
  (25, 1, .aload_n 0, 0, 0, []),
  (26, 3, .getfield 62, 0, 12, [(0, 675)]),
  (29, 3, .invokevirtual 210, 23, 0, [(0, 659)]),
  (32, 1, .aload_n 0, 0, 0, []),
  (33, 1, .iconst 0, 0, 0, []),
  (34, 3, .putfield 337, 0, 11, [(0, 674)]),
  (37, 1, .return_, 0, 0, [])]
/-- GravyRound$Table.begin ()V -/
def gc_61 : List ga_E := [(0, 1, .iconst 0, 0, 0, []),
  (1, 1, .istore_n 1, 0, 0, []),
  (2, 1, .iload_n 1, 0, 0, []),
  (3, 2, .bipush (7), 56, 0, []),
  (5, 3, .if_icmp .ge (30), 0, 35, []),
  (8, 1, .aload_n 0, 0, 0, []),
  (9, 3, .getfield 9, 11, 1, [(0, 393)]),
  (12, 1, .iload_n 1, 0, 0, []),
  (13, 1, .iload_n 1, 0, 0, []),
  (14, 1, .iastore, 0, 0, []),
  (15, 1, .aload_n 0, 0, 0, []),
  (16, 3, .getfield 15, 11, 2, [(0, 397)]),
  (19, 1, .iload_n 1, 0, 0, []),
  (20, 1, .iconst 0, 0, 0, []),
  (21, 1, .iastore, 0, 0, []),
  (22, 1, .aload_n 0, 0, 0, []),
  (23, 3, .getfield 18, 11, 3, [(0, 400)]),
  (26, 1, .iload_n 1, 0, 0, []),
  (27, 1, .iconst 0, 0, 0, []),
  (28, 1, .iastore, 0, 0, []),
  (29, 3, .iinc 1 (1), 8, 0, []),
  (32, 3, .goto (-30), 0, 2, []),
  (35, 1, .aload_n 0, 0, 0, []),
  (36, 1, .aload_n 0, 0, 0, []),
  (37, 3, .getfield 21, 11, 0, [(0, 390)]),
  (40, 3, .getfield 25, 4, 7, [(0, 220)]),
  (43, 3, .putfield 31, 11, 4, [(0, 402)]),
  (46, 1, .aload_n 0, 0, 0, []),
  (47, 1, .aload_n 0, 0, 0, []),
  (48, 3, .getfield 21, 11, 0, [(0, 390)]),
  (51, 3, .getfield 32, 4, 8, [(0, 223)]),
  (54, 3, .putfield 35, 11, 5, [(0, 406)]),
  (57, 1, .aload_n 0, 0, 0, []),
  (58, 1, .iconst 0, 0, 0, []),
  (59, 3, .putfield 36, 11, 8, [(0, 416)]),
  (62, 1, .aload_n 0, 0, 0, []),
  (63, 1, .iconst 0, 0, 0, []),
  (64, 3, .putfield 39, 11, 9, [(0, 418)]),
  (67, 1, .aload_n 0, 0, 0, []),
  (68, 1, .aload_n 0, 0, 0, []),
  (69, 3, .getfield 21, 11, 0, [(0, 390)]),
  (72, 3, .getfield 42, 4, 11, [(0, 236)]),
  (75, 3, .putfield 45, 11, 10, [(0, 421)]),
  (78, 1, .aload_n 0, 0, 0, []),
  (79, 1, .iconst 0, 0, 0, []),
  (80, 3, .invokevirtual 48, 62, 0, [(0, 620)]),
  (83, 1, .return_, 0, 0, [])]
/-- GravyRound$Table.comeTo (I)V -/
def gc_62 : List ga_E := [(0, 1, .aload_n 0, 0, 0, []),
  (1, 1, .iload_n 1, 0, 0, []),
  (2, 3, .putfield 58, 11, 6, [(0, 411)]),
  (5, 1, .aload_n 0, 0, 0, []),
  (6, 1, .aload_n 0, 0, 0, []),
  (7, 1, .iload_n 1, 0, 0, []),
  (8, 3, .invokevirtual 83, 63, 0, [(0, 624)]),
  (11, 3, .putfield 61, 11, 7, [(0, 414)]),
  (14, 1, .return_, 0, 0, [])]
/-- GravyRound$Table.waitAt (I)I -/
def gc_63 : List ga_E := [(0, 1, .iload_n 1, 0, 0, []),
  (1, 3, .ifCond .lt (14), 0, 15, []),
  (4, 1, .iload_n 1, 0, 0, []),
  (5, 1, .aload_n 0, 0, 0, []),
  (6, 3, .getfield 21, 11, 0, [(0, 390)]),
  (9, 3, .getfield 64, 4, 0, [(0, 198)]),
  (12, 3, .if_icmp .lt (5), 0, 17, []),
  (15, 1, .iconst 0, 0, 0, []),
  (16, 1, .ireturn, 0, 0, []),
  (17, 1, .aload_n 0, 0, 0, []),
  (18, 3, .getfield 9, 11, 1, [(0, 393)]),
  (21, 1, .iload_n 1, 0, 0, []),
  (22, 1, .iaload, 0, 0, []),
  (23, 1, .istore_n 2, 0, 0, []),
  (24, 1, .iload_n 1, 0, 0, []),
  (25, 3, .ifCond .le (27), 0, 52, []),
  (28, 1, .aload_n 0, 0, 0, []),
  (29, 1, .iload_n 2, 0, 0, []),
  (30, 3, .invokevirtual 75, 302, 0, [(0, 628)]),
  (33, 1, .aload_n 0, 0, 0, []),
  (34, 3, .getfield 9, 11, 1, [(0, 393)]),
  (37, 1, .iload_n 1, 0, 0, []),
  (38, 1, .iconst 1, 8, 0, []),
  (39, 1, .isub, 0, 0, []),
  (40, 1, .iaload, 0, 0, []),
  (41, 1, .ishr, 0, 0, []),
  (42, 1, .iconst 1, 8, 0, []),
  (43, 1, .iand, 0, 0, []),
  (44, 1, .iconst 1, 8, 0, []),
  (45, 3, .if_icmp .ne (7), 0, 52, []),
  (48, 1, .iconst 1, 8, 0, []),
  (49, 3, .goto (4), 0, 53, []),
  (52, 1, .iconst 0, 0, 0, []),
  (53, 1, .istore_n 3, 0, 0, []),
  (54, 1, .aload_n 0, 0, 0, []),
  (55, 3, .getfield 21, 11, 0, [(0, 390)]),
  (58, 3, .getfield 77, 4, 3, [(0, 211)]),
  (61, 1, .iload_n 2, 0, 0, []),
  (62, 1, .iaload, 0, 0, []),
  (63, 1, .iload_n 3, 0, 0, []),
  (64, 3, .ifCond .eq (13), 0, 77, []),
  (67, 1, .aload_n 0, 0, 0, []),
  (68, 3, .getfield 21, 11, 0, [(0, 390)]),
  (71, 3, .getfield 80, 4, 9, [(0, 229)]),
  (74, 3, .goto (4), 0, 78, []),
  (77, 1, .iconst 0, 0, 0, []),
  (78, 1, .iadd, 0, 0, []),
  (79, 1, .ireturn, 0, 0, [])]
/-- GravyRound$Acts.begin (LGravyRound$Table;)V -/
def gc_64 : List ga_E := [(0, 1, .aload_n 0, 0, 0, []),
  (1, 1, .iconst 0, 0, 0, []),
  (2, 3, .putfield 20, 2, 1, [(0, 456)]),
  (5, 1, .aload_n 0, 0, 0, []),
  (6, 1, .iconst 0, 0, 0, []),
  (7, 3, .putfield 24, 2, 2, [(0, 457)]),
  (10, 1, .aload_n 0, 0, 0, []),
  (11, 1, .iconst 0, 0, 0, []),
  (12, 3, .putfield 27, 2, 3, [(0, 459)]),
  (15, 1, .aload_n 0, 0, 0, []),
  (16, 1, .iconst 0, 0, 0, []),
  (17, 3, .invokevirtual 30, 34, 0, [(0, 640)]),
  (20, 1, .aload_n 1, 0, 0, []),
  (21, 3, .invokevirtual 34, 20, 0, [(0, 647)]),
  (24, 1, .return_, 0, 0, [])]
/-- GravyRound$Sights.begin ()V -/
def gc_65 : List ga_E := [(0, 1, .aload_n 0, 0, 0, []),
  (1, 1, .iconst 0, 0, 0, []),
  (2, 3, .putfield 38, 10, 8, [(0, 586)]),
  (5, 1, .iconst 1, 8, 0, []),
  (6, 1, .istore_n 1, 0, 0, []),
  (7, 1, .iload_n 1, 0, 0, []),
  (8, 1, .aload_n 0, 0, 0, []),
  (9, 3, .getfield 34, 10, 0, [(0, 578)]),
  (12, 3, .getfield 42, 4, 0, [(0, 196)]),
  (15, 3, .if_icmp .ge (65), 0, 80, []),
  (18, 1, .aload_n 0, 0, 0, []),
  (19, 3, .getfield 34, 10, 0, [(0, 578)]),
  (22, 1, .iload_n 1, 0, 0, []),
  (23, 1, .iconst 0, 0, 0, []),
  (24, 3, .invokevirtual 47, 255, 0, [(0, 658)]),
  (27, 1, .iload_n 1, 0, 0, []),
  (28, 1, .iconst 1, 8, 0, []),
  (29, 1, .isub, 0, 0, []),
  (30, 1, .ishr, 0, 0, []),
  (31, 1, .iconst 1, 8, 0, []),
  (32, 1, .iand, 0, 0, []),
  (33, 1, .iconst 1, 8, 0, []),
  (34, 3, .if_icmp .ne (7), 0, 41, []),
  (37, 1, .iconst 1, 8, 0, []),
  (38, 3, .goto (4), 0, 42, []),
  (41, 1, .iconst 0, 0, 0, []),
  (42, 1, .istore_n 2, 0, 0, []),
  (43, 1, .aload_n 0, 0, 0, []),
  (44, 3, .getfield 28, 10, 6, [(0, 584)]),
  (47, 1, .iload_n 1, 0, 0, []),
  (48, 1, .aload_n 0, 0, 0, []),
  (49, 3, .getfield 34, 10, 0, [(0, 578)]),
  (52, 3, .getfield 51, 4, 3, [(0, 208)]),
  (55, 1, .iload_n 1, 0, 0, []),
  (56, 1, .iaload, 0, 0, []),
  (57, 1, .iload_n 2, 0, 0, []),
  (58, 3, .ifCond .eq (13), 0, 71, []),
  (61, 1, .aload_n 0, 0, 0, []),
  (62, 3, .getfield 34, 10, 0, [(0, 578)]),
  (65, 3, .getfield 54, 4, 9, [(0, 226)]),
  (68, 3, .goto (4), 0, 72, []),
  (71, 1, .iconst 0, 0, 0, []),
  (72, 1, .iadd, 0, 0, []),
  (73, 1, .iastore, 0, 0, []),
  (74, 3, .iinc 1 (1), 8, 0, []),
  (77, 3, .goto (-70), 0, 7, []),
  (80, 1, .return_, 0, 0, [])]
/-- GravyRoundModel.clearBank ()V -/
def gc_66 : List ga_E := [(0, 1, .aload_n 0, 0, 0, []),
  (1, 3, .getfield 20, 1, 11, [(0, 1452)]),
  (4, 1, .aload_n 0, 0, 0, []),
  (5, 3, .getfield 254, 1, 33, [(0, 1474)]),
  (8, 1, .iconst 0, 0, 0, []),
  (9, 1, .iastore, 0, 0, []),
  (10, 1, .aload_n 0, 0, 0, []),
  (11, 3, .getfield 24, 1, 12, [(0, 1453)]),
  (14, 1, .aload_n 0, 0, 0, []),
  (15, 3, .getfield 254, 1, 33, [(0, 1474)]),
  (18, 1, .iconst 0, 0, 0, []),
  (19, 1, .iastore, 0, 0, []),
  (20, 1, .aload_n 0, 0, 0, []),
  (21, 3, .getfield 27, 1, 13, [(0, 1454)]),
  (24, 1, .aload_n 0, 0, 0, []),
  (25, 3, .getfield 254, 1, 33, [(0, 1474)]),
  (28, 1, .iconst 0, 0, 0, []),
  (29, 1, .iastore, 0, 0, []),
  (30, 1, .aload_n 0, 0, 0, []),
  (31, 3, .getfield 30, 1, 14, [(0, 1455)]),
  (34, 1, .aload_n 0, 0, 0, []),
  (35, 3, .getfield 254, 1, 33, [(0, 1474)]),
  (38, 1, .iconst 0, 0, 0, []),
  (39, 1, .iastore, 0, 0, []),
  (40, 1, .aload_n 0, 0, 0, []),
  (41, 3, .getfield 33, 1, 15, [(0, 1456)]),
  (44, 1, .aload_n 0, 0, 0, []),
  (45, 3, .getfield 254, 1, 33, [(0, 1474)]),
  (48, 1, .iconst 0, 0, 0, []),
  (49, 1, .iastore, 0, 0, []),
  (50, 1, .aload_n 0, 0, 0, []),
  (51, 3, .getfield 36, 1, 16, [(0, 1457)]),
  (54, 1, .aload_n 0, 0, 0, []),
  (55, 3, .getfield 254, 1, 33, [(0, 1474)]),
  (58, 1, .iconst 3, 24, 0, []),
  (59, 1, .iastore, 0, 0, []),
  (60, 1, .aload_n 0, 0, 0, []),
  (61, 3, .getfield 39, 1, 17, [(0, 1458)]),
  (64, 1, .aload_n 0, 0, 0, []),
  (65, 3, .getfield 254, 1, 33, [(0, 1474)]),
  (68, 1, .iconst 0, 0, 0, []),
  (69, 1, .iastore, 0, 0, []),
  (70, 1, .aload_n 0, 0, 0, []),
  (71, 3, .getfield 42, 1, 18, [(0, 1459)]),
  (74, 1, .aload_n 0, 0, 0, []),
  (75, 3, .getfield 254, 1, 33, [(0, 1474)]),
  (78, 1, .iconst 0, 0, 0, []),
  (79, 1, .iastore, 0, 0, []),
  (80, 1, .aload_n 0, 0, 0, []),
  (81, 3, .getfield 45, 1, 19, [(0, 1460)]),
  (84, 1, .aload_n 0, 0, 0, []),
  (85, 3, .getfield 254, 1, 33, [(0, 1474)]),
  (88, 1, .iconst 0, 0, 0, []),
  (89, 1, .iastore, 0, 0, []),
  (90, 1, .aload_n 0, 0, 0, []),
  (91, 3, .sipush (560), 4480, 0, []),
  (94, 1, .aload_n 0, 0, 0, []),
  (95, 3, .getfield 254, 1, 33, [(0, 1474)]),
  (98, 1, .imul, 0, 0, []),
  (99, 3, .putfield 257, 1, 34, [(0, 1475)]),
  (102, 1, .return_, 0, 0, [])]
/-- GravyRoundModel.startAnew ()V -/
def gc_67 : List ga_E := [(0, 1, .aload_n 0, 0, 0, []),
  (1, 3, .invokevirtual 377, 68, 0, [(0, 1395)]),
  (4, 1, .aload_n 0, 0, 0, []),
  (5, 1, .iconst 0, 0, 0, []),
  (6, 3, .putfield 380, 1, 46, [(0, 1487)]),
  (9, 1, .aload_n 0, 0, 0, []),
  (10, 1, .iconst 0, 0, 0, []),
  (11, 3, .putfield 383, 1, 47, [(0, 1488)]),
  (14, 1, .aload_n 0, 0, 0, []),
  (15, 1, .iconst 0, 0, 0, []),
  (16, 3, .putfield 386, 1, 61, [(0, 1502)]),
  (19, 1, .aload_n 0, 0, 0, []),
  (20, 1, .iconst 0, 0, 0, []),
  (21, 3, .putfield 389, 1, 51, [(0, 1492)]),
  (24, 1, .iconst 0, 0, 0, []),
  (25, 1, .istore_n 1, 0, 0, []),
  (26, 1, .iload_n 1, 0, 0, []),
  (27, 1, .iconst 3, 24, 0, []),
  (28, 3, .if_icmp .ge (16), 0, 44, []),
  (31, 1, .aload_n 0, 0, 0, []),
  (32, 3, .getfield 145, 1, 64, [(0, 1505)]),
  (35, 1, .iload_n 1, 0, 0, []),
  (36, 1, .iconst 0, 0, 0, []),
  (37, 1, .bastore, 104, 0, []),
  (38, 3, .iinc 1 (1), 8, 0, []),
  (41, 3, .goto (-15), 0, 26, []),
  (44, 1, .return_, 0, 0, [])]
/-- GravyRoundModel.layTold ()V -/
def gc_68 : List ga_E := [(0, 1, .iconst 0, 0, 0, []),
  (1, 1, .istore_n 1, 0, 0, []),
  (2, 1, .iload_n 1, 0, 0, []),
  (3, 2, .bipush (29), 232, 0, []),
  (5, 3, .if_icmp .ge (16), 0, 21, []),
  (8, 1, .aload_n 0, 0, 0, []),
  (9, 3, .getfield 85, 1, 38, [(0, 1479)]),
  (12, 1, .iload_n 1, 0, 0, []),
  (13, 1, .iconst 0, 0, 0, []),
  (14, 1, .iastore, 0, 0, []),
  (15, 3, .iinc 1 (1), 8, 0, []),
  (18, 3, .goto (-16), 0, 2, []),
  (21, 1, .iconst 0, 0, 0, []),
  (22, 1, .istore_n 1, 0, 0, []),
  (23, 1, .iload_n 1, 0, 0, []),
  (24, 1, .aload_n 0, 0, 0, []),
  (25, 3, .invokevirtual 338, 11, 0, [(0, 1399)]),
  (28, 3, .if_icmp .ge (18), 0, 46, []),
  (31, 1, .aload_n 0, 0, 0, []),
  (32, 3, .getfield 85, 1, 38, [(0, 1479)]),
  (35, 1, .iconst 0, 0, 0, []),
  (36, 1, .iload_n 1, 0, 0, []),
  (37, 1, .iadd, 0, 0, []),
  (38, 1, .iload_n 1, 0, 0, []),
  (39, 1, .iastore, 0, 0, []),
  (40, 3, .iinc 1 (1), 8, 0, []),
  (43, 3, .goto (-20), 0, 23, []),
  (46, 1, .aload_n 0, 0, 0, []),
  (47, 3, .getfield 85, 1, 38, [(0, 1479)]),
  (50, 2, .bipush (22), 176, 0, []),
  (52, 1, .aload_n 0, 0, 0, []),
  (53, 3, .getfield 30, 1, 14, [(0, 1455)]),
  (56, 1, .aload_n 0, 0, 0, []),
  (57, 3, .getfield 263, 1, 32, [(0, 1473)]),
  (60, 1, .iaload, 0, 0, []),
  (61, 1, .iastore, 0, 0, []),
  (62, 1, .aload_n 0, 0, 0, []),
  (63, 3, .getfield 85, 1, 38, [(0, 1479)]),
  (66, 2, .bipush (23), 184, 0, []),
  (68, 1, .aload_n 0, 0, 0, []),
  (69, 3, .getfield 33, 1, 15, [(0, 1456)]),
  (72, 1, .aload_n 0, 0, 0, []),
  (73, 3, .getfield 263, 1, 32, [(0, 1473)]),
  (76, 1, .iaload, 0, 0, []),
  (77, 1, .iastore, 0, 0, []),
  (78, 1, .aload_n 0, 0, 0, []),
  (79, 3, .getfield 85, 1, 38, [(0, 1479)]),
  (82, 2, .bipush (24), 192, 0, []),
  (84, 1, .aload_n 0, 0, 0, []),
  (85, 3, .invokevirtual 338, 11, 0, [(0, 1399)]),
  (88, 3, .ifCond .ne (7), 0, 95, []),
  (91, 1, .iconst (-1), 34359738360, 0, []),
  (92, 3, .goto (4), 0, 96, []),
  (95, 1, .iconst 0, 0, 0, []),
  (96, 1, .iastore, 0, 0, []),
  (97, 1, .aload_n 0, 0, 0, []),
  (98, 3, .getfield 85, 1, 38, [(0, 1479)]),
  (101, 2, .bipush (25), 200, 0, []),
  (103, 1, .aload_n 0, 0, 0, []),
  (104, 3, .invokevirtual 338, 11, 0, [(0, 1399)]),
  (107, 3, .ifCond .ne (7), 0, 114, []),
  (110, 1, .iconst 0, 0, 0, []),
  (111, 3, .goto (8), 0, 119, []),
  (114, 1, .aload_n 0, 0, 0, []),
  (115, 1, .iconst 0, 0, 0, []),
  (116, 3, .invokevirtual 392, 225, 0, [(0, 1403)]),
  (119, 1, .iastore, 0, 0, []),
  (120, 1, .aload_n 0, 0, 0, []),
  (121, 3, .getfield 85, 1, 38, [(0, 1479)]),
  (124, 2, .bipush (28), 224, 0, []),
  (126, 1, .aload_n 0, 0, 0, []),
  (127, 3, .getfield 42, 1, 18, [(0, 1459)]),
  (130, 1, .aload_n 0, 0, 0, []),
  (131, 3, .getfield 263, 1, 32, [(0, 1473)]),
  (134, 1, .iaload, 0, 0, []),
  (135, 1, .iastore, 0, 0, []),
  (136, 1, .return_, 0, 0, [])]
/-- GravyRoundModel.untell (I)Z -/
def gc_69 : List ga_E := [(0, 1, .iload_n 1, 0, 0, []),
  (1, 1, .iconst 0, 0, 0, []),
  (2, 1, .aload_n 0, 0, 0, []),
  (3, 3, .getfield 386, 1, 61, [(0, 1502)]),
  (6, 1, .iconst 1, 8, 0, []),
  (7, 1, .isub, 0, 0, []),
  (8, 3, .invokestatic 348, 9, 0, [(0, 1419)]),
  (11, 3, .ifCond .eq (12), 0, 23, []),
  (14, 1, .aload_n 0, 0, 0, []),
  (15, 3, .getfield 136, 1, 59, [(0, 1500)]),
  (18, 1, .iload_n 1, 0, 0, []),
  (19, 1, .iaload, 0, 0, []),
  (20, 3, .ifCond .lt (5), 0, 25, []),
  (23, 1, .iconst 0, 0, 0, []),
  (24, 1, .ireturn, 0, 0, []),
  (25, 1, .aload_n 0, 0, 0, []),
  (26, 3, .getfield 136, 1, 59, [(0, 1500)]),
  (29, 1, .iload_n 1, 0, 0, []),
  (30, 1, .aload_n 0, 0, 0, []),
  (31, 3, .getfield 514, 1, 62, [(0, 1503)]),
  (34, 1, .iastore, 0, 0, []),
  (35, 1, .iconst 1, 8, 0, []),
  (36, 1, .ireturn, 0, 0, [])]
/-- GravyRoundModel.lies (I)I -/
def gc_70 : List ga_E := [(0, 1, .iload_n 1, 0, 0, []),
  (1, 1, .iconst 0, 0, 0, []),
  (2, 1, .aload_n 0, 0, 0, []),
  (3, 3, .getfield 389, 1, 51, [(0, 1492)]),
  (6, 1, .iconst 1, 8, 0, []),
  (7, 1, .isub, 0, 0, []),
  (8, 3, .invokestatic 348, 9, 0, [(0, 1419)]),
  (11, 3, .ifCond .eq (12), 0, 23, []),
  (14, 1, .aload_n 0, 0, 0, []),
  (15, 3, .getfield 106, 1, 48, [(0, 1489)]),
  (18, 1, .iload_n 1, 0, 0, []),
  (19, 1, .iaload, 0, 0, []),
  (20, 3, .goto (5), 0, 25, []),
  (23, 2, .bipush (-2), 34359738352, 0, []),
  (25, 1, .ireturn, 0, 0, [])]
/-- GravyRound.handAsTold ()V -/
def gc_71 : List ga_E := [(0, 1, .aload_n 0, 0, 0, []),
  (1, 3, .getfield 76, 0, 14, [(0, 677)]),
  (4, 1, .aload_n 0, 0, 0, []),
  (5, 3, .getfield 41, 0, 7, [(0, 670)]),
  (8, 2, .bipush (20), 160, 0, []),
  (10, 3, .invokevirtual 259, 72, 0, [(0, 1196)]),
  (13, 1, .aload_n 0, 0, 0, []),
  (14, 3, .getfield 76, 0, 14, [(0, 677)]),
  (17, 1, .aload_n 0, 0, 0, []),
  (18, 3, .getfield 41, 0, 7, [(0, 670)]),
  (21, 3, .invokevirtual 263, 73, 0, [(0, 1201)]),
  (24, 1, .pop, 0, 0, []),
  (25, 1, .return_, 0, 0, [])]
/-- GravyRound$Shares.takeAtMost (LGravyRound$Table;I)V -/
def gc_72 : List ga_E := [(0, 1, .iconst 0, 0, 0, []),
  (1, 1, .istore_n 3, 0, 0, []),
  (2, 1, .iload_n 3, 0, 0, []),
  (3, 1, .aload_n 1, 0, 0, []),
  (4, 3, .getfield 24, 11, 0, [(1, 392)]),
  (7, 3, .getfield 30, 4, 0, [(0, 195)]),
  (10, 3, .if_icmp .ge (28), 0, 38, []),
  (13, 1, .aload_n 0, 0, 0, []),
  (14, 3, .getfield 9, 9, 0, [(0, 533)]),
  (17, 1, .iload_n 3, 0, 0, []),
  (18, 1, .aload_n 1, 0, 0, []),
  (19, 3, .getfield 24, 11, 0, [(1, 392)]),
  (22, 3, .getfield 36, 4, 2, [(0, 203)]),
  (25, 1, .iload_n 3, 0, 0, []),
  (26, 1, .iaload, 0, 0, []),
  (27, 1, .iload_n 2, 0, 0, []),
  (28, 3, .invokestatic 37, 4, 0, [(0, 1200)]),
  (31, 1, .iastore, 0, 0, []),
  (32, 3, .iinc 3 (1), 8, 0, []),
  (35, 3, .goto (-33), 0, 2, []),
  (38, 1, .return_, 0, 0, [])]
/-- GravyRound$Shares.hand (LGravyRound$Table;)I -/
def gc_73 : List ga_E := [(0, 1, .aload_n 1, 0, 0, []),
  (1, 3, .getfield 43, 11, 4, [(0, 403)]),
  (4, 1, .istore_n 2, 0, 0, []),
  (5, 1, .iconst 0, 0, 0, []),
  (6, 1, .istore_n 3, 0, 0, []),
  (7, 1, .iconst 0, 0, 0, []),
  (8, 2, .istore 4, 0, 0, []),
  (10, 2, .iload 4, 0, 0, []),
  (12, 1, .aload_n 1, 0, 0, []),
  (13, 3, .getfield 24, 11, 0, [(1, 392)]),
  (16, 3, .getfield 30, 4, 0, [(0, 195)]),
  (19, 3, .if_icmp .ge (80), 0, 99, []),
  (22, 1, .aload_n 1, 0, 0, []),
  (23, 3, .getfield 46, 11, 1, [(0, 395)]),
  (26, 2, .iload 4, 0, 0, []),
  (28, 1, .iaload, 0, 0, []),
  (29, 2, .istore 5, 0, 0, []),
  (31, 2, .iload 4, 0, 0, []),
  (33, 1, .aload_n 1, 0, 0, []),
  (34, 3, .getfield 49, 11, 6, [(0, 410)]),
  (37, 3, .if_icmp .ge (20), 0, 57, []),
  (40, 1, .aload_n 0, 0, 0, []),
  (41, 3, .getfield 21, 9, 3, [(0, 536)]),
  (44, 2, .iload 5, 0, 0, []),
  (46, 1, .aload_n 1, 0, 0, []),
  (47, 3, .getfield 52, 11, 2, [(0, 398)]),
  (50, 2, .iload 5, 0, 0, []),
  (52, 1, .iaload, 0, 0, []),
  (53, 1, .iastore, 0, 0, []),
  (54, 3, .goto (31), 0, 85, []),
  (57, 1, .aload_n 0, 0, 0, []),
  (58, 3, .getfield 21, 9, 3, [(0, 536)]),
  (61, 2, .iload 5, 0, 0, []),
  (63, 1, .aload_n 0, 0, 0, []),
  (64, 3, .getfield 9, 9, 0, [(0, 533)]),
  (67, 2, .iload 5, 0, 0, []),
  (69, 1, .iaload, 0, 0, []),
  (70, 1, .iload_n 2, 0, 0, []),
  (71, 3, .invokestatic 37, 4, 0, [(0, 1200)]),
  (74, 1, .iastore, 0, 0, []),
  (75, 1, .iload_n 2, 0, 0, []),
  (76, 1, .aload_n 0, 0, 0, []),
  (77, 3, .getfield 21, 9, 3, [(0, 536)]),
  (80, 2, .iload 5, 0, 0, []),
  (82, 1, .iaload, 0, 0, []),
  (83, 1, .isub, 0, 0, []),
  (84, 1, .istore_n 2, 0, 0, []),
  (85, 1, .aload_n 0, 0, 0, []),
  (86, 3, .getfield 21, 9, 3, [(0, 536)]),
  (89, 2, .iload 5, 0, 0, []),
  (91, 1, .iaload, 0, 0, []),
  (92, 1, .istore_n 3, 0, 0, []),
  (93, 3, .iinc 4 (1), 8, 0, []),
  (96, 3, .goto (-86), 0, 10, []),
  (99, 1, .iload_n 3, 0, 0, []),
  (100, 1, .ireturn, 0, 0, [])]
/-- GravyRoundModel.goTillOver (Z)I -/
def gc_74 : List ga_E := [(0, 1, .iconst 0, 0, 0, []),
  (1, 1, .istore_n 2, 0, 0, []),
  (2, 1, .iload_n 2, 0, 0, []),
  (3, 2, .bipush (7), 56, 0, []),
  (5, 3, .if_icmp .ge (16), 0, 21, []),
  (8, 1, .aload_n 0, 0, 0, []),
  (9, 3, .getfield 91, 1, 40, [(0, 1481)]),
  (12, 1, .iload_n 2, 0, 0, []),
  (13, 1, .iconst 0, 0, 0, []),
  (14, 1, .iastore, 0, 0, []),
  (15, 3, .iinc 2 (1), 8, 0, []),
  (18, 3, .goto (-16), 0, 2, []),
  (21, 1, .iconst 0, 0, 0, []),
  (22, 1, .istore_n 2, 0, 0, []),
  (23, 1, .aload_n 0, 0, 0, []),
  (24, 3, .invokevirtual 358, 2, 0, [(0, 1422)]),
  (27, 3, .ifCond .ne (26), 0, 53, []),
  (30, 1, .aload_n 0, 0, 0, []),
  (31, 1, .iload_n 1, 0, 0, []),
  (32, 3, .invokevirtual 411, 227, 0, [(0, 1841)]),
  (35, 1, .istore_n 3, 0, 0, []),
  (36, 3, .iinc 2 (1), 8, 0, []),
  (39, 1, .iload_n 3, 0, 0, []),
  (40, 3, .ifCond .lt (10), 0, 50, []),
  (43, 1, .aload_n 0, 0, 0, []),
  (44, 3, .getfield 91, 1, 40, [(0, 1481)]),
  (47, 1, .iload_n 3, 0, 0, []),
  (48, 1, .iload_n 2, 0, 0, []),
  (49, 1, .iastore, 0, 0, []),
  (50, 3, .goto (-27), 0, 23, []),
  (53, 1, .iload_n 2, 0, 0, []),
  (54, 1, .ireturn, 0, 0, [])]
/-- GravyRoundModel.blame (I)I -/
def gc_75 : List ga_E := [(0, 1, .aload_n 0, 0, 0, []),
  (1, 1, .iload_n 1, 0, 0, []),
  (2, 3, .invokevirtual 417, 21, 0, [(0, 1798)]),
  (5, 3, .ifCond .eq (17), 0, 22, []),
  (8, 1, .aload_n 0, 0, 0, []),
  (9, 3, .getfield 85, 1, 38, [(0, 1479)]),
  (12, 2, .bipush (26), 208, 0, []),
  (14, 1, .iaload, 0, 0, []),
  (15, 1, .iload_n 1, 0, 0, []),
  (16, 3, .invokestatic 273, 8, 0, [(0, 1438)]),
  (19, 3, .ifCond .eq (5), 0, 24, []),
  (22, 1, .iconst (-1), 34359738360, 0, []),
  (23, 1, .ireturn, 0, 0, []),
  (24, 1, .aload_n 0, 0, 0, []),
  (25, 3, .invokevirtual 420, 28, 0, [(0, 1806)]),
  (28, 1, .istore_n 2, 0, 0, []),
  (29, 1, .aload_n 0, 0, 0, []),
  (30, 3, .getfield 85, 1, 38, [(0, 1479)]),
  (33, 2, .bipush (26), 208, 0, []),
  (35, 1, .dup2, 0, 0, []),
  (36, 1, .iaload, 0, 0, []),
  (37, 1, .iconst 1, 8, 0, []),
  (38, 1, .iload_n 1, 0, 0, []),
  (39, 1, .ishl, 0, 0, []),
  (40, 1, .ixor, 0, 0, []),
  (41, 1, .iastore, 0, 0, []),
  (42, 1, .iload_n 2, 0, 0, []),
  (43, 1, .aload_n 0, 0, 0, []),
  (44, 3, .invokevirtual 420, 28, 0, [(0, 1806)]),
  (47, 1, .isub, 0, 0, []),
  (48, 1, .istore_n 3, 0, 0, []),
  (49, 1, .aload_n 0, 0, 0, []),
  (50, 3, .getfield 85, 1, 38, [(0, 1479)]),
  (53, 2, .bipush (26), 208, 0, []),
  (55, 1, .dup2, 0, 0, []),
  (56, 1, .iaload, 0, 0, []),
  (57, 1, .iconst 1, 8, 0, []),
  (58, 1, .iload_n 1, 0, 0, []),
  (59, 1, .ishl, 0, 0, []),
  (60, 1, .ixor, 0, 0, []),
  (61, 1, .iastore, 0, 0, []),
  (62, 1, .iload_n 3, 0, 0, []),
  (63, 1, .ireturn, 0, 0, [])]
/-- GravyRoundModel.clan (I)I -/
def gc_76 : List ga_E := [(0, 1, .aload_n 0, 0, 0, []),
  (1, 1, .iload_n 1, 0, 0, []),
  (2, 3, .invokevirtual 355, 17, 0, [(0, 1415)]),
  (5, 3, .ifCond .eq (11), 0, 16, []),
  (8, 1, .aload_n 0, 0, 0, []),
  (9, 1, .iload_n 1, 0, 0, []),
  (10, 3, .invokevirtual 496, 242, 0, [(0, 2035)]),
  (13, 3, .goto (4), 0, 17, []),
  (16, 1, .iconst (-1), 34359738360, 0, []),
  (17, 1, .ireturn, 0, 0, [])]
/-- GravyRound.isBehind (I)Z -/
def gc_77 : List ga_E := [(0, 1, .aload_n 0, 0, 0, []),
  (1, 1, .iload_n 1, 0, 0, []),
  (2, 3, .invokevirtual 119, 18, 0, [(0, 941)]),
  (5, 3, .ifCond .eq (25), 0, 30, []),
  (8, 1, .aload_n 0, 0, 0, []),
  (9, 3, .getfield 41, 0, 7, [(0, 670)]),
  (12, 1, .iload_n 1, 0, 0, []),
  (13, 3, .invokevirtual 122, 299, 0, [(0, 945)]),
  (16, 1, .aload_n 0, 0, 0, []),
  (17, 3, .getfield 41, 0, 7, [(0, 670)]),
  (20, 3, .getfield 266, 11, 6, [(0, 412)]),
  (23, 3, .if_icmp .le (7), 0, 30, []),
  (26, 1, .iconst 1, 8, 0, []),
  (27, 3, .goto (4), 0, 31, []),
  (30, 1, .iconst 0, 0, 0, []),
  (31, 1, .ireturn, 0, 0, [])]
/-- GravyRoundModel.best (II)I -/
def gc_78 : List ga_E := [(0, 1, .aload_n 0, 0, 0, []),
  (1, 1, .iload_n 1, 0, 0, []),
  (2, 3, .invokevirtual 364, 30, 0, [(0, 1411)]),
  (5, 3, .ifCond .eq (12), 0, 17, []),
  (8, 1, .iload_n 2, 0, 0, []),
  (9, 1, .iconst 0, 0, 0, []),
  (10, 1, .iconst 1, 8, 0, []),
  (11, 3, .invokestatic 348, 9, 0, [(0, 1419)]),
  (14, 3, .ifCond .ne (5), 0, 19, []),
  (17, 1, .iconst (-1), 34359738360, 0, []),
  (18, 1, .ireturn, 0, 0, []),
  (19, 1, .iconst (-1), 34359738360, 0, []),
  (20, 1, .istore_n 3, 0, 0, []),
  (21, 3, .ldc_w 480, 800000, 0, [(0, 2004)]),
  (24, 2, .istore 4, 0, 0, []),
  (26, 1, .aload_n 0, 0, 0, []),
  (27, 1, .iload_n 1, 0, 0, []),
  (28, 3, .invokevirtual 361, 220, 0, [(0, 1426)]),
  (31, 2, .istore 5, 0, 0, []),
  (33, 1, .aload_n 0, 0, 0, []),
  (34, 3, .getfield 85, 1, 38, [(0, 1479)]),
  (37, 2, .bipush (24), 192, 0, []),
  (39, 1, .iaload, 0, 0, []),
  (40, 1, .iconst 1, 8, 0, []),
  (41, 1, .iadd, 0, 0, []),
  (42, 2, .istore 6, 0, 0, []),
  (44, 2, .iload 6, 0, 0, []),
  (46, 1, .aload_n 0, 0, 0, []),
  (47, 3, .invokevirtual 338, 11, 0, [(0, 1399)]),
  (50, 3, .if_icmp .ge (48), 0, 98, []),
  (53, 1, .aload_n 0, 0, 0, []),
  (54, 2, .iload 5, 0, 0, []),
  (56, 2, .iload 6, 0, 0, []),
  (58, 3, .invokevirtual 429, 229, 0, [(0, 1875)]),
  (61, 1, .aload_n 0, 0, 0, []),
  (62, 3, .invokevirtual 420, 28, 0, [(0, 1806)]),
  (65, 2, .istore 7, 0, 0, []),
  (67, 1, .aload_n 0, 0, 0, []),
  (68, 2, .iload 5, 0, 0, []),
  (70, 2, .iload 6, 0, 0, []),
  (72, 3, .invokevirtual 429, 229, 0, [(0, 1875)]),
  (75, 2, .iload 7, 0, 0, []),
  (77, 2, .iload 4, 0, 0, []),
  (79, 3, .if_icmp .lt (6), 0, 85, []),
  (82, 3, .goto (10), 0, 92, []),
  (85, 2, .iload 6, 0, 0, []),
  (87, 1, .istore_n 3, 0, 0, []),
  (88, 2, .iload 7, 0, 0, []),
  (90, 2, .istore 4, 0, 0, []),
  (92, 3, .iinc 6 (1), 8, 0, []),
  (95, 3, .goto (-51), 0, 44, []),
  (98, 1, .iload_n 2, 0, 0, []),
  (99, 3, .ifCond .ne (7), 0, 106, []),
  (102, 1, .iload_n 3, 0, 0, []),
  (103, 3, .goto (5), 0, 108, []),
  (106, 2, .iload 4, 0, 0, []),
  (108, 1, .ireturn, 0, 0, [])]
/-- GravyRound$Table.minutesToGo ()I -/
def gc_79 : List ga_E := [(0, 1, .aload_n 0, 0, 0, []),
  (1, 3, .getfield 61, 11, 7, [(0, 414)]),
  (4, 1, .istore_n 1, 0, 0, []),
  (5, 1, .aload_n 0, 0, 0, []),
  (6, 3, .getfield 58, 11, 6, [(0, 411)]),
  (9, 1, .iconst 1, 8, 0, []),
  (10, 1, .iadd, 0, 0, []),
  (11, 1, .istore_n 2, 0, 0, []),
  (12, 1, .iload_n 2, 0, 0, []),
  (13, 1, .aload_n 0, 0, 0, []),
  (14, 3, .getfield 21, 11, 0, [(0, 390)]),
  (17, 3, .getfield 64, 4, 0, [(0, 198)]),
  (20, 3, .if_icmp .ge (17), 0, 37, []),
  (23, 1, .iload_n 1, 0, 0, []),
  (24, 1, .aload_n 0, 0, 0, []),
  (25, 1, .iload_n 2, 0, 0, []),
  (26, 3, .invokevirtual 83, 63, 0, [(0, 624)]),
  (29, 1, .iadd, 0, 0, []),
  (30, 1, .istore_n 1, 0, 0, []),
  (31, 3, .iinc 2 (1), 8, 0, []),
  (34, 3, .goto (-22), 0, 12, []),
  (37, 1, .iload_n 1, 0, 0, []),
  (38, 1, .ireturn, 0, 0, [])]
/-- GravyRoundModel.will (III)I -/
def gc_80 : List ga_E := [(0, 1, .aload_n 0, 0, 0, []),
  (1, 1, .iload_n 1, 0, 0, []),
  (2, 3, .invokevirtual 355, 17, 0, [(0, 1415)]),
  (5, 3, .ifCond .eq (21), 0, 26, []),
  (8, 1, .iload_n 2, 0, 0, []),
  (9, 1, .iconst 0, 0, 0, []),
  (10, 1, .iconst 2, 16, 0, []),
  (11, 3, .invokestatic 348, 9, 0, [(0, 1419)]),
  (14, 3, .ifCond .eq (12), 0, 26, []),
  (17, 1, .iload_n 3, 0, 0, []),
  (18, 1, .iconst 0, 0, 0, []),
  (19, 1, .iconst 1, 8, 0, []),
  (20, 3, .invokestatic 348, 9, 0, [(0, 1419)]),
  (23, 3, .ifCond .ne (5), 0, 28, []),
  (26, 1, .iconst (-1), 34359738360, 0, []),
  (27, 1, .ireturn, 0, 0, []),
  (28, 1, .aload_n 0, 0, 0, []),
  (29, 3, .invokevirtual 439, 29, 0, [(0, 1915)]),
  (32, 1, .aload_n 0, 0, 0, []),
  (33, 1, .iload_n 3, 0, 0, []),
  (34, 1, .iconst 1, 8, 0, []),
  (35, 3, .if_icmp .ne (7), 0, 42, []),
  (38, 1, .iconst 1, 8, 0, []),
  (39, 3, .goto (4), 0, 43, []),
  (42, 1, .iconst 0, 0, 0, []),
  (43, 3, .invokevirtual 445, 74, 0, [(0, 1927)]),
  (46, 2, .istore 4, 0, 0, []),
  (48, 1, .iload_n 2, 0, 0, []),
  (49, 3, .ifCond .ne (15), 0, 64, []),
  (52, 1, .aload_n 0, 0, 0, []),
  (53, 3, .getfield 85, 1, 38, [(0, 1479)]),
  (56, 2, .bipush (7), 56, 0, []),
  (58, 1, .iload_n 1, 0, 0, []),
  (59, 1, .iadd, 0, 0, []),
  (60, 1, .iaload, 0, 0, []),
  (61, 3, .goto (26), 0, 87, []),
  (64, 1, .iload_n 2, 0, 0, []),
  (65, 1, .iconst 1, 8, 0, []),
  (66, 3, .if_icmp .ne (15), 0, 81, []),
  (69, 1, .aload_n 0, 0, 0, []),
  (70, 3, .getfield 85, 1, 38, [(0, 1479)]),
  (73, 2, .bipush (14), 112, 0, []),
  (75, 1, .iload_n 1, 0, 0, []),
  (76, 1, .iadd, 0, 0, []),
  (77, 1, .iaload, 0, 0, []),
  (78, 3, .goto (9), 0, 87, []),
  (81, 1, .aload_n 0, 0, 0, []),
  (82, 3, .getfield 91, 1, 40, [(0, 1481)]),
  (85, 1, .iload_n 1, 0, 0, []),
  (86, 1, .iaload, 0, 0, []),
  (87, 2, .istore 5, 0, 0, []),
  (89, 1, .aload_n 0, 0, 0, []),
  (90, 3, .invokevirtual 442, 25, 0, [(0, 1919)]),
  (93, 2, .iload 5, 0, 0, []),
  (95, 1, .ireturn, 0, 0, [])]
/-- GravyRound$Acts.add (LGravyRound$Table;)V -/
def gc_81 : List ga_E := [(0, 1, .aload_n 0, 0, 0, []),
  (1, 3, .getfield 24, 2, 2, [(0, 457)]),
  (4, 2, .bipush (40), 320, 0, []),
  (6, 3, .if_icmp .ge (16), 0, 22, []),
  (9, 1, .aload_n 0, 0, 0, []),
  (10, 1, .dup, 0, 0, []),
  (11, 3, .getfield 24, 2, 2, [(0, 457)]),
  (14, 1, .iconst 1, 8, 0, []),
  (15, 1, .iadd, 0, 0, []),
  (16, 3, .putfield 24, 2, 2, [(0, 457)]),
  (19, 3, .goto (16), 0, 35, []),
  (22, 1, .aload_n 0, 0, 0, []),
  (23, 1, .aload_n 0, 0, 0, []),
  (24, 3, .getfield 20, 2, 1, [(0, 456)]),
  (27, 1, .iconst 1, 8, 0, []),
  (28, 1, .iadd, 0, 0, []),
  (29, 2, .bipush (41), 328, 0, []),
  (31, 1, .irem, 0, 0, []),
  (32, 3, .putfield 20, 2, 1, [(0, 456)]),
  (35, 1, .aload_n 0, 0, 0, []),
  (36, 1, .aload_n 0, 0, 0, []),
  (37, 3, .getfield 24, 2, 2, [(0, 457)]),
  (40, 3, .putfield 27, 2, 3, [(0, 459)]),
  (43, 1, .aload_n 0, 0, 0, []),
  (44, 1, .aload_n 0, 0, 0, []),
  (45, 3, .getfield 24, 2, 2, [(0, 457)]),
  (48, 3, .invokevirtual 30, 34, 0, [(0, 640)]),
  (51, 1, .aload_n 1, 0, 0, []),
  (52, 3, .invokevirtual 34, 20, 0, [(0, 647)]),
  (55, 1, .return_, 0, 0, [])]
/-- GravyRoundModel.keepAct ()V -/
def gc_82 : List ga_E := [(0, 1, .aload_n 0, 0, 0, []),
  (1, 3, .getfield 380, 1, 46, [(0, 1487)]),
  (4, 2, .bipush (40), 320, 0, []),
  (6, 3, .if_icmp .ne (43), 0, 49, []),
  (9, 1, .iconst 0, 0, 0, []),
  (10, 1, .istore_n 1, 0, 0, []),
  (11, 1, .iload_n 1, 0, 0, []),
  (12, 3, .sipush (1160), 9280, 0, []),
  (15, 3, .if_icmp .ge (24), 0, 39, []),
  (18, 1, .aload_n 0, 0, 0, []),
  (19, 3, .getfield 103, 1, 45, [(0, 1486)]),
  (22, 1, .iload_n 1, 0, 0, []),
  (23, 1, .aload_n 0, 0, 0, []),
  (24, 3, .getfield 103, 1, 45, [(0, 1486)]),
  (27, 1, .iload_n 1, 0, 0, []),
  (28, 2, .bipush (29), 232, 0, []),
  (30, 1, .iadd, 0, 0, []),
  (31, 1, .iaload, 0, 0, []),
  (32, 1, .iastore, 0, 0, []),
  (33, 3, .iinc 1 (1), 8, 0, []),
  (36, 3, .goto (-25), 0, 11, []),
  (39, 1, .aload_n 0, 0, 0, []),
  (40, 1, .dup, 0, 0, []),
  (41, 3, .getfield 380, 1, 46, [(0, 1487)]),
  (44, 1, .iconst 1, 8, 0, []),
  (45, 1, .isub, 0, 0, []),
  (46, 3, .putfield 380, 1, 46, [(0, 1487)]),
  (49, 1, .iconst 0, 0, 0, []),
  (50, 1, .istore_n 1, 0, 0, []),
  (51, 1, .iload_n 1, 0, 0, []),
  (52, 2, .bipush (29), 232, 0, []),
  (54, 3, .if_icmp .ge (29), 0, 83, []),
  (57, 1, .aload_n 0, 0, 0, []),
  (58, 3, .getfield 103, 1, 45, [(0, 1486)]),
  (61, 2, .bipush (29), 232, 0, []),
  (63, 1, .aload_n 0, 0, 0, []),
  (64, 3, .getfield 380, 1, 46, [(0, 1487)]),
  (67, 1, .imul, 0, 0, []),
  (68, 1, .iload_n 1, 0, 0, []),
  (69, 1, .iadd, 0, 0, []),
  (70, 1, .aload_n 0, 0, 0, []),
  (71, 3, .getfield 85, 1, 38, [(0, 1479)]),
  (74, 1, .iload_n 1, 0, 0, []),
  (75, 1, .iaload, 0, 0, []),
  (76, 1, .iastore, 0, 0, []),
  (77, 3, .iinc 1 (1), 8, 0, []),
  (80, 3, .goto (-29), 0, 51, []),
  (83, 1, .aload_n 0, 0, 0, []),
  (84, 1, .dup, 0, 0, []),
  (85, 3, .getfield 380, 1, 46, [(0, 1487)]),
  (88, 1, .iconst 1, 8, 0, []),
  (89, 1, .iadd, 0, 0, []),
  (90, 3, .putfield 380, 1, 46, [(0, 1487)]),
  (93, 1, .aload_n 0, 0, 0, []),
  (94, 1, .iconst 0, 0, 0, []),
  (95, 3, .putfield 383, 1, 47, [(0, 1488)]),
  (98, 1, .return_, 0, 0, [])]
/-- GravyRoundModel.fallOut (I)I -/
def gc_83 : List ga_E := [(0, 1, .aload_n 0, 0, 0, []),
  (1, 1, .iload_n 1, 0, 0, []),
  (2, 1, .iconst 0, 0, 0, []),
  (3, 3, .invokevirtual 432, 40, 0, [(0, 1883)]),
  (6, 1, .ireturn, 0, 0, [])]
/-- GravyRoundModel.makeUp (I)I -/
def gc_84 : List ga_E := [(0, 1, .aload_n 0, 0, 0, []),
  (1, 1, .iload_n 1, 0, 0, []),
  (2, 1, .iconst 1, 8, 0, []),
  (3, 3, .invokevirtual 432, 40, 0, [(0, 1883)]),
  (6, 1, .ireturn, 0, 0, [])]
/-- GravyRoundModel.feud (II)I -/
def gc_85 : List ga_E := [(0, 1, .aload_n 0, 0, 0, []),
  (1, 1, .iload_n 1, 0, 0, []),
  (2, 3, .invokevirtual 417, 21, 0, [(0, 1798)]),
  (5, 3, .ifCond .ne (5), 0, 10, []),
  (8, 1, .iconst (-1), 34359738360, 0, []),
  (9, 1, .ireturn, 0, 0, []),
  (10, 1, .iload_n 2, 0, 0, []),
  (11, 25, .tableswitch (67) (0) (2) #[25, 40, 55], 0, 78, [(0, 36), (8, 51), (16, 66)]),
  (36, 1, .aload_n 0, 0, 0, []),
  (37, 3, .getfield 54, 1, 22, [(0, 1463)]),
  (40, 2, .bipush (10), 80, 0, []),
  (42, 1, .aload_n 0, 0, 0, []),
  (43, 3, .getfield 263, 1, 32, [(0, 1473)]),
  (46, 1, .imul, 0, 0, []),
  (47, 1, .iload_n 1, 0, 0, []),
  (48, 1, .iadd, 0, 0, []),
  (49, 1, .iaload, 0, 0, []),
  (50, 1, .ireturn, 0, 0, []),
  (51, 1, .aload_n 0, 0, 0, []),
  (52, 3, .getfield 57, 1, 23, [(0, 1464)]),
  (55, 2, .bipush (10), 80, 0, []),
  (57, 1, .aload_n 0, 0, 0, []),
  (58, 3, .getfield 263, 1, 32, [(0, 1473)]),
  (61, 1, .imul, 0, 0, []),
  (62, 1, .iload_n 1, 0, 0, []),
  (63, 1, .iadd, 0, 0, []),
  (64, 1, .iaload, 0, 0, []),
  (65, 1, .ireturn, 0, 0, []),
  (66, 1, .aload_n 0, 0, 0, []),
  (67, 3, .getfield 85, 1, 38, [(0, 1479)]),
  (70, 2, .bipush (26), 208, 0, []),
  (72, 1, .iaload, 0, 0, []),
  (73, 1, .iload_n 1, 0, 0, []),
  (74, 1, .ishr, 0, 0, []),
  (75, 1, .iconst 1, 8, 0, []),
  (76, 1, .iand, 0, 0, []),
  (77, 1, .ireturn, 0, 0, []),
  (78, 1, .iconst (-1), 34359738360, 0, []),
  (79, 1, .ireturn, 0, 0, [])]
/-- GravyRoundModel.seat (I)I -/
def gc_86 : List ga_E := [(0, 1, .iload_n 1, 0, 0, []),
  (1, 1, .iconst 0, 0, 0, []),
  (2, 1, .aload_n 0, 0, 0, []),
  (3, 3, .invokevirtual 338, 11, 0, [(0, 1399)]),
  (6, 1, .iconst 1, 8, 0, []),
  (7, 1, .isub, 0, 0, []),
  (8, 3, .invokestatic 348, 9, 0, [(0, 1419)]),
  (11, 3, .ifCond .eq (14), 0, 25, []),
  (14, 1, .aload_n 0, 0, 0, []),
  (15, 3, .getfield 85, 1, 38, [(0, 1479)]),
  (18, 1, .iconst 0, 0, 0, []),
  (19, 1, .iload_n 1, 0, 0, []),
  (20, 1, .iadd, 0, 0, []),
  (21, 1, .iaload, 0, 0, []),
  (22, 3, .goto (4), 0, 26, []),
  (25, 1, .iconst (-1), 34359738360, 0, []),
  (26, 1, .ireturn, 0, 0, [])]
/-- GravyRoundModel.guest (II)I -/
def gc_87 : List ga_E := [(0, 1, .aload_n 0, 0, 0, []),
  (1, 1, .iload_n 1, 0, 0, []),
  (2, 3, .invokevirtual 355, 17, 0, [(0, 1415)]),
  (5, 3, .ifCond .ne (5), 0, 10, []),
  (8, 1, .iconst (-1), 34359738360, 0, []),
  (9, 1, .ireturn, 0, 0, []),
  (10, 1, .iload_n 2, 0, 0, []),
  (11, 41, .tableswitch (97) (0) (6) #[41, 47, 53, 59, 69, 79, 91], 0, 108, [(0, 52), (8, 58), (16, 64), (24, 70), (32, 80), (40, 90), (48, 102)]),
  (52, 1, .aload_n 0, 0, 0, []),
  (53, 1, .iload_n 1, 0, 0, []),
  (54, 3, .invokevirtual 361, 220, 0, [(0, 1426)]),
  (57, 1, .ireturn, 0, 0, []),
  (58, 1, .aload_n 0, 0, 0, []),
  (59, 1, .iload_n 1, 0, 0, []),
  (60, 3, .invokevirtual 401, 222, 0, [(0, 1782)]),
  (63, 1, .ireturn, 0, 0, []),
  (64, 1, .aload_n 0, 0, 0, []),
  (65, 1, .iload_n 1, 0, 0, []),
  (66, 3, .invokevirtual 374, 221, 0, [(0, 1407)]),
  (69, 1, .ireturn, 0, 0, []),
  (70, 1, .aload_n 0, 0, 0, []),
  (71, 3, .getfield 85, 1, 38, [(0, 1479)]),
  (74, 2, .bipush (7), 56, 0, []),
  (76, 1, .iload_n 1, 0, 0, []),
  (77, 1, .iadd, 0, 0, []),
  (78, 1, .iaload, 0, 0, []),
  (79, 1, .ireturn, 0, 0, []),
  (80, 1, .aload_n 0, 0, 0, []),
  (81, 3, .getfield 85, 1, 38, [(0, 1479)]),
  (84, 2, .bipush (14), 112, 0, []),
  (86, 1, .iload_n 1, 0, 0, []),
  (87, 1, .iadd, 0, 0, []),
  (88, 1, .iaload, 0, 0, []),
  (89, 1, .ireturn, 0, 0, []),
  (90, 1, .aload_n 0, 0, 0, []),
  (91, 3, .getfield 85, 1, 38, [(0, 1479)]),
  (94, 2, .bipush (21), 168, 0, []),
  (96, 1, .iaload, 0, 0, []),
  (97, 1, .iload_n 1, 0, 0, []),
  (98, 1, .ishr, 0, 0, []),
  (99, 1, .iconst 1, 8, 0, []),
  (100, 1, .iand, 0, 0, []),
  (101, 1, .ireturn, 0, 0, []),
  (102, 1, .aload_n 0, 0, 0, []),
  (103, 1, .iload_n 1, 0, 0, []),
  (104, 3, .invokevirtual 414, 224, 0, [(0, 1786)]),
  (107, 1, .ireturn, 0, 0, []),
  (108, 1, .iconst (-1), 34359738360, 0, []),
  (109, 1, .ireturn, 0, 0, [])]
/-- GravyRoundModel.isGood ()Z -/
def gc_88 : List ga_E := [(0, 1, .aload_n 0, 0, 0, []),
  (1, 3, .getfield 158, 1, 4, [(0, 1445)]),
  (4, 3, .ifCond .ne (7), 0, 11, []),
  (7, 1, .iconst 1, 8, 0, []),
  (8, 3, .goto (4), 0, 12, []),
  (11, 1, .iconst 0, 0, 0, []),
  (12, 1, .ireturn, 0, 0, [])]
/-- GravyRound.<init> ()V -/
def gc_89 : List ga_E := [(0, 1, .aload_n 0, 0, 0, []),
  (1, 3, .invokespecial 1, 1000, 0, [(0, 148)]),
  (4, 1, .aload_n 0, 0, 0, []),
  (5, 3, .sipush (1600), 12800, 0, []),
  (8, 2, .newarray .byte, 101, 0, [(0, 182)]),
  (10, 3, .putfield 9, 0, 0, [(3, 663)]),
  (13, 1, .aload_n 0, 0, 0, []),
  (14, 1, .iconst (-1), 34359738360, 0, []),
  (15, 3, .putfield 13, 0, 3, [(0, 666)]),
  (18, 1, .aload_n 0, 0, 0, []),
  (19, 3, .new 17, 4, 13, [(0, 151)]),
  (22, 1, .dup, 0, 0, []),
  (23, 3, .invokespecial 19, 58, 0, [(0, 153)]),
  (26, 3, .putfield 20, 0, 4, [(3, 667)]),
  (29, 1, .aload_n 0, 0, 0, []),
  (30, 3, .new 17, 4, 13, [(0, 151)]),
  (33, 1, .dup, 0, 0, []),
  (34, 3, .invokespecial 19, 58, 0, [(0, 153)]),
  (37, 3, .putfield 24, 0, 5, [(3, 668)]),
  (40, 1, .aload_n 0, 0, 0, []),
  (41, 3, .new 27, 7, 5, [(0, 268)]),
  (44, 1, .dup, 0, 0, []),
  (45, 1, .aload_n 0, 0, 0, []),
  (46, 3, .getfield 9, 0, 0, [(0, 663)]),
  (49, 1, .aload_n 0, 0, 0, []),
  (50, 3, .getfield 24, 0, 5, [(0, 668)]),
  (53, 3, .invokespecial 29, 90, 0, [(0, 270)]),
  (56, 3, .putfield 32, 0, 6, [(3, 669)]),
  (59, 1, .aload_n 0, 0, 0, []),
  (60, 3, .new 36, 11, 11, [(0, 384)]),
  (63, 1, .dup, 0, 0, []),
  (64, 1, .aload_n 0, 0, 0, []),
  (65, 3, .getfield 20, 0, 4, [(0, 667)]),
  (68, 3, .invokespecial 38, 12, 0, [(0, 386)]),
  (71, 3, .putfield 41, 0, 7, [(3, 670)]),
  (74, 1, .aload_n 0, 0, 0, []),
  (75, 3, .new 36, 11, 11, [(0, 384)]),
  (78, 1, .dup, 0, 0, []),
  (79, 1, .aload_n 0, 0, 0, []),
  (80, 3, .getfield 20, 0, 4, [(0, 667)]),
  (83, 3, .invokespecial 38, 12, 0, [(0, 386)]),
  (86, 3, .putfield 45, 0, 8, [(3, 671)]),
  (89, 1, .aload_n 0, 0, 0, []),
  (90, 3, .new 48, 2, 4, [(0, 446)]),
  (93, 1, .dup, 0, 0, []),
  (94, 1, .aload_n 0, 0, 0, []),
  (95, 3, .getfield 20, 0, 4, [(0, 667)]),
  (98, 3, .invokespecial 50, 93, 0, [(0, 448)]),
  (101, 3, .putfield 51, 0, 9, [(3, 672)]),
  (104, 1, .aload_n 0, 0, 0, []),
  (105, 1, .iconst 3, 24, 0, []),
  (106, 3, .anewarray 36, 103, 0, [(0, 384)]),
  (109, 3, .putfield 55, 0, 10, [(3, 673)]),
  (112, 1, .aload_n 0, 0, 0, []),
  (113, 3, .new 59, 8, 2, [(0, 470)]),
  (116, 1, .dup, 0, 0, []),
  (117, 3, .invokespecial 61, 94, 0, [(1, 472)]),
  (120, 3, .putfield 62, 0, 12, [(3, 675)]),
  (123, 1, .aload_n 0, 0, 0, []),
  (124, 3, .new 66, 6, 11, [(0, 485)]),
  (127, 1, .dup, 0, 0, []),
  (128, 1, .aload_n 0, 0, 0, []),
  (129, 3, .getfield 20, 0, 4, [(0, 667)]),
  (132, 3, .invokespecial 68, 95, 0, [(0, 487)]),
  (135, 3, .putfield 69, 0, 13, [(3, 676)]),
  (138, 1, .aload_n 0, 0, 0, []),
  (139, 3, .new 73, 9, 6, [(0, 527)]),
  (142, 1, .dup, 0, 0, []),
  (143, 3, .invokespecial 75, 96, 0, [(1, 529)]),
  (146, 3, .putfield 76, 0, 14, [(3, 677)]),
  (149, 1, .aload_n 0, 0, 0, []),
  (150, 3, .new 80, 3, 3, [(0, 555)]),
  (153, 1, .dup, 0, 0, []),
  (154, 3, .invokespecial 82, 97, 0, [(1, 557)]),
  (157, 3, .putfield 83, 0, 15, [(3, 678)]),
  (160, 1, .aload_n 0, 0, 0, []),
  (161, 3, .new 87, 10, 10, [(0, 572)]),
  (164, 1, .dup, 0, 0, []),
  (165, 1, .aload_n 0, 0, 0, []),
  (166, 3, .getfield 20, 0, 4, [(0, 667)]),
  (169, 3, .invokespecial 89, 98, 0, [(0, 574)]),
  (172, 3, .putfield 90, 0, 16, [(3, 679)]),
  (175, 1, .iconst 0, 0, 0, []),
  (176, 1, .istore_n 1, 0, 0, []),
  (177, 1, .iload_n 1, 0, 0, []),
  (178, 1, .iconst 3, 24, 0, []),
  (179, 3, .if_icmp .ge (26), 0, 205, []),
  (182, 1, .aload_n 0, 0, 0, []),
  (183, 3, .getfield 55, 0, 10, [(0, 673)]),
  (186, 1, .iload_n 1, 0, 0, []),
  (187, 3, .new 36, 11, 11, [(0, 384)]),
  (190, 1, .dup, 0, 0, []),
  (191, 1, .aload_n 0, 0, 0, []),
  (192, 3, .getfield 20, 0, 4, [(0, 667)]),
  (195, 3, .invokespecial 38, 12, 0, [(0, 386)]),
  (198, 1, .aastore, 11, 0, []),
  (199, 3, .iinc 1 (1), 8, 0, []),
  (202, 3, .goto (-25), 0, 177, []),
  (205, 1, .aload_n 0, 0, 0, []),
  (206, 3, .invokevirtual 94, 60, 0, [(0, 612)]),
  (209, 1, .return_, 0, 0, [])]
/-- GravyRound$Reader.<init> ([BLGravyRound$Dinner;)V -/
def gc_90 : List ga_E := [(0, 1, .aload_n 0, 0, 0, []),
  (1, 3, .invokespecial 3, 1000, 0, [(0, 273)]),
  (4, 1, .aload_n 0, 0, 0, []),
  (5, 3, .new 9, 12, 8, [(0, 274)]),
  (8, 1, .dup, 0, 0, []),
  (9, 1, .aload_n 1, 0, 0, []),
  (10, 3, .invokespecial 11, 91, 0, [(0, 276)]),
  (13, 3, .putfield 14, 7, 0, [(3, 366)]),
  (16, 1, .aload_n 0, 0, 0, []),
  (17, 1, .aload_n 2, 0, 0, []),
  (18, 3, .putfield 20, 7, 1, [(3, 367)]),
  (21, 1, .return_, 0, 0, [])]
/-- GravyRound$Tokens.<init> ([B)V -/
def gc_91 : List ga_E := [(0, 1, .aload_n 0, 0, 0, []),
  (1, 3, .invokespecial 1, 1000, 0, [(0, 279)]),
  (4, 1, .aload_n 0, 0, 0, []),
  (5, 2, .bipush (17), 136, 0, []),
  (7, 2, .newarray .long, 102, 0, [(0, 183)]),
  (9, 3, .putfield 9, 12, 1, [(3, 338)]),
  (12, 1, .aload_n 0, 0, 0, []),
  (13, 1, .aload_n 1, 0, 0, []),
  (14, 3, .putfield 13, 12, 0, [(3, 337)]),
  (17, 1, .aload_n 0, 0, 0, []),
  (18, 3, .invokevirtual 17, 92, 0, [(0, 280)]),
  (21, 1, .return_, 0, 0, [])]
/-- GravyRound$Tokens.packWords ()V -/
def gc_92 : List ga_E := [(0, 1, .iconst 0, 0, 0, []),
  (1, 1, .istore_n 1, 0, 0, []),
  (2, 1, .lconst 0, 5, 0, []),
  (3, 1, .lstore_n 2, 0, 0, []),
  (4, 1, .iconst 0, 0, 0, []),
  (5, 2, .istore 4, 0, 0, []),
  (7, 2, .iload 4, 0, 0, []),
  (9, 2, .ldc 20, 14, 0, []),
  (11, 3, .invokevirtual 22, 1002, 0, [(0, 285)]),
  (14, 3, .if_icmp .ge (56), 0, 70, []),
  (17, 1, .iload_n 1, 0, 0, []),
  (18, 1, .aload_n 0, 0, 0, []),
  (19, 3, .getfield 9, 12, 1, [(0, 338)]),
  (22, 1, .arraylength, 0, 0, []),
  (23, 3, .if_icmp .ge (47), 0, 70, []),
  (26, 2, .ldc 20, 14, 0, []),
  (28, 2, .iload 4, 0, 0, []),
  (30, 3, .invokevirtual 28, 1003, 0, [(0, 295)]),
  (33, 2, .istore 5, 0, 0, []),
  (35, 2, .iload 5, 0, 0, []),
  (37, 2, .bipush (32), 256, 0, []),
  (39, 3, .if_icmp .ne (18), 0, 57, []),
  (42, 1, .aload_n 0, 0, 0, []),
  (43, 3, .getfield 9, 12, 1, [(0, 338)]),
  (46, 1, .iload_n 1, 0, 0, []),
  (47, 1, .lload_n 2, 0, 0, []),
  (48, 1, .lastore, 0, 0, []),
  (49, 3, .iinc 1 (1), 8, 0, []),
  (52, 1, .lconst 0, 5, 0, []),
  (53, 1, .lstore_n 2, 0, 0, []),
  (54, 3, .goto (10), 0, 64, []),
  (57, 1, .lload_n 2, 0, 0, []),
  (58, 2, .iload 5, 0, 0, []),
  (60, 3, .invokestatic 32, 10, 0, [(0, 333)]),
  (63, 1, .lstore_n 2, 0, 0, []),
  (64, 3, .iinc 4 (1), 8, 0, []),
  (67, 3, .goto (-60), 0, 7, []),
  (70, 1, .return_, 0, 0, [])]
/-- GravyRound$Acts.<init> (LGravyRound$Dinner;)V -/
def gc_93 : List ga_E := [(0, 1, .aload_n 0, 0, 0, []),
  (1, 3, .invokespecial 3, 1000, 0, [(0, 451)]),
  (4, 1, .aload_n 0, 0, 0, []),
  (5, 2, .bipush (41), 328, 0, []),
  (7, 3, .anewarray 11, 103, 0, [(0, 452)]),
  (10, 3, .putfield 13, 2, 0, [(3, 455)]),
  (13, 1, .iconst 0, 0, 0, []),
  (14, 1, .istore_n 2, 0, 0, []),
  (15, 1, .iload_n 2, 0, 0, []),
  (16, 2, .bipush (41), 328, 0, []),
  (18, 3, .if_icmp .ge (23), 0, 41, []),
  (21, 1, .aload_n 0, 0, 0, []),
  (22, 3, .getfield 13, 2, 0, [(0, 455)]),
  (25, 1, .iload_n 2, 0, 0, []),
  (26, 3, .new 11, 11, 11, [(0, 452)]),
  (29, 1, .dup, 0, 0, []),
  (30, 1, .aload_n 1, 0, 0, []),
  (31, 3, .invokespecial 17, 12, 0, [(0, 454)]),
  (34, 1, .aastore, 11, 0, []),
  (35, 3, .iinc 2 (1), 8, 0, []),
  (38, 3, .goto (-23), 0, 15, []),
  (41, 1, .return_, 0, 0, [])]
/-- GravyRound$Row.<init> ()V -/
def gc_94 : List ga_E := [(0, 1, .aload_n 0, 0, 0, []),
  (1, 3, .invokespecial 3, 1000, 0, [(0, 475)]),
  (4, 1, .aload_n 0, 0, 0, []),
  (5, 2, .bipush (7), 56, 0, []),
  (7, 2, .newarray .int, 100, 0, [(0, 184)]),
  (9, 3, .putfield 9, 8, 0, [(3, 476)]),
  (12, 1, .return_, 0, 0, [])]
/-- GravyRound$Orders.<init> (LGravyRound$Dinner;)V -/
def gc_95 : List ga_E := [(0, 1, .aload_n 0, 0, 0, []),
  (1, 3, .invokespecial 3, 1000, 0, [(0, 490)]),
  (4, 1, .aload_n 0, 0, 0, []),
  (5, 2, .bipush (7), 56, 0, []),
  (7, 2, .newarray .int, 100, 0, [(0, 184)]),
  (9, 3, .putfield 9, 6, 1, [(3, 492)]),
  (12, 1, .aload_n 0, 0, 0, []),
  (13, 2, .bipush (7), 56, 0, []),
  (15, 2, .newarray .int, 100, 0, [(0, 184)]),
  (17, 3, .putfield 15, 6, 2, [(3, 493)]),
  (20, 1, .aload_n 0, 0, 0, []),
  (21, 2, .bipush (8), 64, 0, []),
  (23, 2, .newarray .int, 100, 0, [(0, 184)]),
  (25, 3, .putfield 18, 6, 3, [(3, 494)]),
  (28, 1, .aload_n 0, 0, 0, []),
  (29, 2, .bipush (8), 64, 0, []),
  (31, 2, .newarray .int, 100, 0, [(0, 184)]),
  (33, 3, .putfield 21, 6, 4, [(3, 495)]),
  (36, 1, .aload_n 0, 0, 0, []),
  (37, 2, .bipush (7), 56, 0, []),
  (39, 2, .newarray .int, 100, 0, [(0, 184)]),
  (41, 3, .putfield 24, 6, 9, [(3, 500)]),
  (44, 1, .aload_n 0, 0, 0, []),
  (45, 1, .aload_n 1, 0, 0, []),
  (46, 3, .putfield 27, 6, 0, [(3, 491)]),
  (49, 1, .return_, 0, 0, [])]
/-- GravyRound$Shares.<init> ()V -/
def gc_96 : List ga_E := [(0, 1, .aload_n 0, 0, 0, []),
  (1, 3, .invokespecial 3, 1000, 0, [(0, 532)]),
  (4, 1, .aload_n 0, 0, 0, []),
  (5, 2, .bipush (7), 56, 0, []),
  (7, 2, .newarray .int, 100, 0, [(0, 184)]),
  (9, 3, .putfield 9, 9, 0, [(3, 533)]),
  (12, 1, .aload_n 0, 0, 0, []),
  (13, 2, .bipush (36), 288, 0, []),
  (15, 2, .newarray .int, 100, 0, [(0, 184)]),
  (17, 3, .putfield 15, 9, 1, [(3, 534)]),
  (20, 1, .aload_n 0, 0, 0, []),
  (21, 2, .bipush (36), 288, 0, []),
  (23, 2, .newarray .int, 100, 0, [(0, 184)]),
  (25, 3, .putfield 18, 9, 2, [(3, 535)]),
  (28, 1, .aload_n 0, 0, 0, []),
  (29, 2, .bipush (7), 56, 0, []),
  (31, 2, .newarray .int, 100, 0, [(0, 184)]),
  (33, 3, .putfield 21, 9, 3, [(3, 536)]),
  (36, 1, .return_, 0, 0, [])]
/-- GravyRound$Company.<init> ()V -/
def gc_97 : List ga_E := [(0, 1, .aload_n 0, 0, 0, []),
  (1, 3, .invokespecial 3, 1000, 0, [(0, 560)]),
  (4, 1, .aload_n 0, 0, 0, []),
  (5, 2, .bipush (7), 56, 0, []),
  (7, 2, .newarray .int, 100, 0, [(0, 184)]),
  (9, 3, .putfield 9, 3, 0, [(3, 561)]),
  (12, 1, .aload_n 0, 0, 0, []),
  (13, 2, .bipush (7), 56, 0, []),
  (15, 2, .newarray .int, 100, 0, [(0, 184)]),
  (17, 3, .putfield 15, 3, 2, [(3, 563)]),
  (20, 1, .return_, 0, 0, [])]
/-- GravyRound$Sights.<init> (LGravyRound$Dinner;)V -/
def gc_98 : List ga_E := [(0, 1, .aload_n 0, 0, 0, []),
  (1, 3, .invokespecial 3, 1000, 0, [(0, 577)]),
  (4, 1, .aload_n 0, 0, 0, []),
  (5, 2, .bipush (30), 240, 0, []),
  (7, 2, .newarray .int, 100, 0, [(0, 184)]),
  (9, 3, .putfield 11, 10, 1, [(3, 579)]),
  (12, 1, .aload_n 0, 0, 0, []),
  (13, 2, .bipush (30), 240, 0, []),
  (15, 2, .newarray .int, 100, 0, [(0, 184)]),
  (17, 3, .putfield 15, 10, 2, [(3, 580)]),
  (20, 1, .aload_n 0, 0, 0, []),
  (21, 2, .bipush (30), 240, 0, []),
  (23, 2, .newarray .boolean, 104, 0, [(0, 611)]),
  (25, 3, .putfield 18, 10, 3, [(3, 581)]),
  (28, 1, .aload_n 0, 0, 0, []),
  (29, 2, .bipush (30), 240, 0, []),
  (31, 2, .newarray .int, 100, 0, [(0, 184)]),
  (33, 3, .putfield 22, 10, 4, [(3, 582)]),
  (36, 1, .aload_n 0, 0, 0, []),
  (37, 2, .bipush (30), 240, 0, []),
  (39, 2, .newarray .int, 100, 0, [(0, 184)]),
  (41, 3, .putfield 25, 10, 5, [(3, 583)]),
  (44, 1, .aload_n 0, 0, 0, []),
  (45, 2, .bipush (7), 56, 0, []),
  (47, 2, .newarray .int, 100, 0, [(0, 184)]),
  (49, 3, .putfield 28, 10, 6, [(3, 584)]),
  (52, 1, .aload_n 0, 0, 0, []),
  (53, 2, .bipush (8), 64, 0, []),
  (55, 2, .newarray .int, 100, 0, [(0, 184)]),
  (57, 3, .putfield 31, 10, 7, [(3, 585)]),
  (60, 1, .aload_n 0, 0, 0, []),
  (61, 1, .aload_n 1, 0, 0, []),
  (62, 3, .putfield 34, 10, 0, [(3, 578)]),
  (65, 1, .return_, 0, 0, [])]
/-- GravyRoundModel.<init> ()V -/
def gc_99 : List ga_E := [(0, 1, .aload_n 0, 0, 0, []),
  (1, 3, .invokespecial 1, 1000, 0, [(0, 1386)]),
  (4, 1, .aload_n 0, 0, 0, []),
  (5, 3, .sipush (1620), 12960, 0, []),
  (8, 2, .newarray .byte, 101, 0, [(0, 182)]),
  (10, 3, .putfield 7, 1, 0, [(3, 1441)]),
  (13, 1, .aload_n 0, 0, 0, []),
  (14, 3, .sipush (1600), 12800, 0, []),
  (17, 2, .newarray .byte, 101, 0, [(0, 182)]),
  (19, 3, .putfield 13, 1, 1, [(3, 1442)]),
  (22, 1, .aload_n 0, 0, 0, []),
  (23, 1, .iconst (-1), 34359738360, 0, []),
  (24, 3, .putfield 16, 1, 5, [(0, 1446)]),
  (27, 1, .aload_n 0, 0, 0, []),
  (28, 1, .iconst 2, 16, 0, []),
  (29, 2, .newarray .int, 100, 0, [(0, 184)]),
  (31, 3, .putfield 20, 1, 11, [(3, 1452)]),
  (34, 1, .aload_n 0, 0, 0, []),
  (35, 1, .iconst 2, 16, 0, []),
  (36, 2, .newarray .int, 100, 0, [(0, 184)]),
  (38, 3, .putfield 24, 1, 12, [(3, 1453)]),
  (41, 1, .aload_n 0, 0, 0, []),
  (42, 1, .iconst 2, 16, 0, []),
  (43, 2, .newarray .int, 100, 0, [(0, 184)]),
  (45, 3, .putfield 27, 1, 13, [(3, 1454)]),
  (48, 1, .aload_n 0, 0, 0, []),
  (49, 1, .iconst 2, 16, 0, []),
  (50, 2, .newarray .int, 100, 0, [(0, 184)]),
  (52, 3, .putfield 30, 1, 14, [(3, 1455)]),
  (55, 1, .aload_n 0, 0, 0, []),
  (56, 1, .iconst 2, 16, 0, []),
  (57, 2, .newarray .int, 100, 0, [(0, 184)]),
  (59, 3, .putfield 33, 1, 15, [(3, 1456)]),
  (62, 1, .aload_n 0, 0, 0, []),
  (63, 1, .iconst 2, 16, 0, []),
  (64, 2, .newarray .int, 100, 0, [(0, 184)]),
  (66, 3, .putfield 36, 1, 16, [(3, 1457)]),
  (69, 1, .aload_n 0, 0, 0, []),
  (70, 1, .iconst 2, 16, 0, []),
  (71, 2, .newarray .int, 100, 0, [(0, 184)]),
  (73, 3, .putfield 39, 1, 17, [(3, 1458)]),
  (76, 1, .aload_n 0, 0, 0, []),
  (77, 1, .iconst 2, 16, 0, []),
  (78, 2, .newarray .int, 100, 0, [(0, 184)]),
  (80, 3, .putfield 42, 1, 18, [(3, 1459)]),
  (83, 1, .aload_n 0, 0, 0, []),
  (84, 1, .iconst 2, 16, 0, []),
  (85, 2, .newarray .int, 100, 0, [(0, 184)]),
  (87, 3, .putfield 45, 1, 19, [(3, 1460)]),
  (90, 1, .aload_n 0, 0, 0, []),
  (91, 2, .bipush (14), 112, 0, []),
  (93, 2, .newarray .int, 100, 0, [(0, 184)]),
  (95, 3, .putfield 48, 1, 20, [(3, 1461)]),
  (98, 1, .aload_n 0, 0, 0, []),
  (99, 2, .bipush (14), 112, 0, []),
  (101, 2, .newarray .int, 100, 0, [(0, 184)]),
  (103, 3, .putfield 51, 1, 21, [(3, 1462)]),
  (106, 1, .aload_n 0, 0, 0, []),
  (107, 2, .bipush (20), 160, 0, []),
  (109, 2, .newarray .int, 100, 0, [(0, 184)]),
  (111, 3, .putfield 54, 1, 22, [(3, 1463)]),
  (114, 1, .aload_n 0, 0, 0, []),
  (115, 2, .bipush (20), 160, 0, []),
  (117, 2, .newarray .int, 100, 0, [(0, 184)]),
  (119, 3, .putfield 57, 1, 23, [(3, 1464)]),
  (122, 1, .aload_n 0, 0, 0, []),
  (123, 1, .iconst 2, 16, 0, []),
  (124, 2, .newarray .int, 100, 0, [(0, 184)]),
  (126, 3, .putfield 60, 1, 24, [(3, 1465)]),
  (129, 1, .aload_n 0, 0, 0, []),
  (130, 1, .iconst 2, 16, 0, []),
  (131, 2, .newarray .int, 100, 0, [(0, 184)]),
  (133, 3, .putfield 63, 1, 25, [(3, 1466)]),
  (136, 1, .aload_n 0, 0, 0, []),
  (137, 2, .bipush (14), 112, 0, []),
  (139, 2, .newarray .long, 102, 0, [(0, 183)]),
  (141, 3, .putfield 66, 1, 26, [(3, 1467)]),
  (144, 1, .aload_n 0, 0, 0, []),
  (145, 3, .sipush (1120), 8960, 0, []),
  (148, 2, .newarray .int, 100, 0, [(0, 184)]),
  (150, 3, .putfield 70, 1, 27, [(3, 1468)]),
  (153, 1, .aload_n 0, 0, 0, []),
  (154, 3, .sipush (1120), 8960, 0, []),
  (157, 2, .newarray .int, 100, 0, [(0, 184)]),
  (159, 3, .putfield 73, 1, 28, [(3, 1469)]),
  (162, 1, .aload_n 0, 0, 0, []),
  (163, 2, .bipush (90), 720, 0, []),
  (165, 2, .newarray .int, 100, 0, [(0, 184)]),
  (167, 3, .putfield 76, 1, 29, [(3, 1470)]),
  (170, 1, .aload_n 0, 0, 0, []),
  (171, 2, .bipush (90), 720, 0, []),
  (173, 2, .newarray .int, 100, 0, [(0, 184)]),
  (175, 3, .putfield 79, 1, 30, [(3, 1471)]),
  (178, 1, .aload_n 0, 0, 0, []),
  (179, 2, .bipush (60), 480, 0, []),
  (181, 2, .newarray .int, 100, 0, [(0, 184)]),
  (183, 3, .putfield 82, 1, 31, [(3, 1472)]),
  (186, 1, .aload_n 0, 0, 0, []),
  (187, 2, .bipush (29), 232, 0, []),
  (189, 2, .newarray .int, 100, 0, [(0, 184)]),
  (191, 3, .putfield 85, 1, 38, [(3, 1479)]),
  (194, 1, .aload_n 0, 0, 0, []),
  (195, 2, .bipush (29), 232, 0, []),
  (197, 2, .newarray .int, 100, 0, [(0, 184)]),
  (199, 3, .putfield 88, 1, 39, [(3, 1480)]),
  (202, 1, .aload_n 0, 0, 0, []),
  (203, 2, .bipush (7), 56, 0, []),
  (205, 2, .newarray .int, 100, 0, [(0, 184)]),
  (207, 3, .putfield 91, 1, 40, [(3, 1481)]),
  (210, 1, .aload_n 0, 0, 0, []),
  (211, 2, .bipush (7), 56, 0, []),
  (213, 2, .newarray .int, 100, 0, [(0, 184)]),
  (215, 3, .putfield 94, 1, 41, [(3, 1482)]),
  (218, 1, .aload_n 0, 0, 0, []),
  (219, 1, .iconst (-1), 34359738360, 0, []),
  (220, 3, .putfield 97, 1, 42, [(0, 1483)]),
  (223, 1, .aload_n 0, 0, 0, []),
  (224, 1, .iconst (-1), 34359738360, 0, []),
  (225, 3, .putfield 100, 1, 43, [(0, 1484)]),
  (228, 1, .aload_n 0, 0, 0, []),
  (229, 3, .sipush (1189), 9512, 0, []),
  (232, 2, .newarray .int, 100, 0, [(0, 184)]),
  (234, 3, .putfield 103, 1, 45, [(3, 1486)]),
  (237, 1, .aload_n 0, 0, 0, []),
  (238, 2, .bipush (7), 56, 0, []),
  (240, 2, .newarray .int, 100, 0, [(0, 184)]),
  (242, 3, .putfield 106, 1, 48, [(3, 1489)]),
  (245, 1, .aload_n 0, 0, 0, []),
  (246, 2, .bipush (7), 56, 0, []),
  (248, 2, .newarray .int, 100, 0, [(0, 184)]),
  (250, 3, .putfield 109, 1, 49, [(3, 1490)]),
  (253, 1, .aload_n 0, 0, 0, []),
  (254, 2, .bipush (7), 56, 0, []),
  (256, 2, .newarray .int, 100, 0, [(0, 184)]),
  (258, 3, .putfield 112, 1, 50, [(3, 1491)]),
  (261, 1, .aload_n 0, 0, 0, []),
  (262, 2, .bipush (36), 288, 0, []),
  (264, 2, .newarray .int, 100, 0, [(0, 184)]),
  (266, 3, .putfield 115, 1, 52, [(3, 1493)]),
  (269, 1, .aload_n 0, 0, 0, []),
  (270, 2, .bipush (36), 288, 0, []),
  (272, 2, .newarray .int, 100, 0, [(0, 184)]),
  (274, 3, .putfield 118, 1, 53, [(3, 1494)]),
  (277, 1, .aload_n 0, 0, 0, []),
  (278, 3, .sipush (861), 6888, 0, []),
  (281, 2, .newarray .int, 100, 0, [(0, 184)]),
  (283, 3, .putfield 121, 1, 54, [(3, 1495)]),
  (286, 1, .aload_n 0, 0, 0, []),
  (287, 2, .bipush (30), 240, 0, []),
  (289, 2, .newarray .int, 100, 0, [(0, 184)]),
  (291, 3, .putfield 124, 1, 55, [(3, 1496)]),
  (294, 1, .aload_n 0, 0, 0, []),
  (295, 2, .bipush (30), 240, 0, []),
  (297, 2, .newarray .int, 100, 0, [(0, 184)]),
  (299, 3, .putfield 127, 1, 56, [(3, 1497)]),
  (302, 1, .aload_n 0, 0, 0, []),
  (303, 2, .bipush (30), 240, 0, []),
  (305, 2, .newarray .int, 100, 0, [(0, 184)]),
  (307, 3, .putfield 130, 1, 57, [(3, 1498)]),
  (310, 1, .aload_n 0, 0, 0, []),
  (311, 2, .bipush (30), 240, 0, []),
  (313, 2, .newarray .int, 100, 0, [(0, 184)]),
  (315, 3, .putfield 133, 1, 58, [(3, 1499)]),
  (318, 1, .aload_n 0, 0, 0, []),
  (319, 2, .bipush (30), 240, 0, []),
  (321, 2, .newarray .int, 100, 0, [(0, 184)]),
  (323, 3, .putfield 136, 1, 59, [(3, 1500)]),
  (326, 1, .aload_n 0, 0, 0, []),
  (327, 2, .bipush (8), 64, 0, []),
  (329, 2, .newarray .int, 100, 0, [(0, 184)]),
  (331, 3, .putfield 139, 1, 60, [(3, 1501)]),
  (334, 1, .aload_n 0, 0, 0, []),
  (335, 2, .bipush (87), 696, 0, []),
  (337, 2, .newarray .int, 100, 0, [(0, 184)]),
  (339, 3, .putfield 142, 1, 63, [(3, 1504)]),
  (342, 1, .aload_n 0, 0, 0, []),
  (343, 1, .iconst 3, 24, 0, []),
  (344, 2, .newarray .boolean, 104, 0, [(0, 611)]),
  (346, 3, .putfield 145, 1, 64, [(3, 1505)]),
  (349, 1, .aload_n 0, 0, 0, []),
  (350, 3, .invokevirtual 149, 66, 0, [(0, 1387)]),
  (353, 1, .aload_n 0, 0, 0, []),
  (354, 3, .invokevirtual 152, 67, 0, [(0, 1391)]),
  (357, 1, .return_, 0, 0, [])]
/-- GravyRound.about (I)I -/
def gc_100 : List ga_E := [(0, 1, .iload_n 1, 0, 0, []),
  (1, 83, .tableswitch (241) (0) (16) #[83, 91, 99, 107, 115, 137, 145, 153, 161, 169, 185, 193, 201, 206, 217, 225, 233], 0, 242, [(0, 84), (8, 92), (16, 100), (24, 108), (32, 116), (40, 138), (48, 146), (56, 154), (64, 162), (72, 170), (80, 186), (88, 194), (96, 202), (104, 207), (112, 218), (120, 226), (128, 234)]),
  (84, 1, .aload_n 0, 0, 0, []),
  (85, 3, .getfield 20, 0, 4, [(0, 667)]),
  (88, 3, .getfield 116, 4, 0, [(0, 200)]),
  (91, 1, .ireturn, 0, 0, []),
  (92, 1, .aload_n 0, 0, 0, []),
  (93, 3, .getfield 20, 0, 4, [(0, 667)]),
  (96, 3, .getfield 233, 4, 4, [(0, 214)]),
  (99, 1, .ireturn, 0, 0, []),
  (100, 1, .aload_n 0, 0, 0, []),
  (101, 3, .getfield 41, 0, 7, [(0, 670)]),
  (104, 3, .getfield 186, 11, 4, [(0, 405)]),
  (107, 1, .ireturn, 0, 0, []),
  (108, 1, .aload_n 0, 0, 0, []),
  (109, 3, .getfield 41, 0, 7, [(0, 670)]),
  (112, 3, .getfield 195, 11, 5, [(0, 408)]),
  (115, 1, .ireturn, 0, 0, []),
  (116, 1, .aload_n 0, 0, 0, []),
  (117, 3, .getfield 41, 0, 7, [(0, 670)]),
  (120, 3, .invokevirtual 160, 3, 0, [(0, 975)]),
  (123, 3, .ifCond .eq (7), 0, 130, []),
  (126, 1, .iconst (-1), 34359738360, 0, []),
  (127, 3, .goto (10), 0, 137, []),
  (130, 1, .aload_n 0, 0, 0, []),
  (131, 3, .getfield 41, 0, 7, [(0, 670)]),
  (134, 3, .getfield 266, 11, 6, [(0, 412)]),
  (137, 1, .ireturn, 0, 0, []),
  (138, 1, .aload_n 0, 0, 0, []),
  (139, 3, .getfield 41, 0, 7, [(0, 670)]),
  (142, 3, .getfield 223, 11, 7, [(0, 415)]),
  (145, 1, .ireturn, 0, 0, []),
  (146, 1, .aload_n 0, 0, 0, []),
  (147, 3, .getfield 41, 0, 7, [(0, 670)]),
  (150, 3, .getfield 340, 11, 9, [(0, 420)]),
  (153, 1, .ireturn, 0, 0, []),
  (154, 1, .aload_n 0, 0, 0, []),
  (155, 3, .getfield 41, 0, 7, [(0, 670)]),
  (158, 3, .getfield 346, 11, 10, [(0, 422)]),
  (161, 1, .ireturn, 0, 0, []),
  (162, 1, .aload_n 0, 0, 0, []),
  (163, 3, .getfield 51, 0, 9, [(0, 672)]),
  (166, 3, .getfield 349, 2, 2, [(0, 458)]),
  (169, 1, .ireturn, 0, 0, []),
  (170, 1, .aload_n 0, 0, 0, []),
  (171, 3, .getfield 51, 0, 9, [(0, 672)]),
  (174, 3, .getfield 352, 2, 3, [(0, 460)]),
  (177, 1, .aload_n 0, 0, 0, []),
  (178, 3, .getfield 51, 0, 9, [(0, 672)]),
  (181, 3, .getfield 349, 2, 2, [(0, 458)]),
  (184, 1, .isub, 0, 0, []),
  (185, 1, .ireturn, 0, 0, []),
  (186, 1, .aload_n 0, 0, 0, []),
  (187, 3, .getfield 90, 0, 16, [(0, 679)]),
  (190, 3, .getfield 355, 10, 8, [(0, 587)]),
  (193, 1, .ireturn, 0, 0, []),
  (194, 1, .aload_n 0, 0, 0, []),
  (195, 3, .getfield 90, 0, 16, [(0, 679)]),
  (198, 3, .getfield 356, 10, 9, [(0, 589)]),
  (201, 1, .ireturn, 0, 0, []),
  (202, 1, .aload_n 0, 0, 0, []),
  (203, 3, .getfield 97, 0, 1, [(0, 664)]),
  (206, 1, .ireturn, 0, 0, []),
  (207, 1, .aload_n 0, 0, 0, []),
  (208, 3, .getfield 20, 0, 4, [(0, 667)]),
  (211, 3, .getfield 359, 4, 12, [(0, 240)]),
  (214, 3, .getfield 363, 5, 2, [(0, 168)]),
  (217, 1, .ireturn, 0, 0, []),
  (218, 1, .aload_n 0, 0, 0, []),
  (219, 3, .getfield 62, 0, 12, [(0, 675)]),
  (222, 3, .getfield 307, 8, 1, [(0, 479)]),
  (225, 1, .ireturn, 0, 0, []),
  (226, 1, .aload_n 0, 0, 0, []),
  (227, 3, .getfield 20, 0, 4, [(0, 667)]),
  (230, 3, .getfield 213, 4, 9, [(0, 230)]),
  (233, 1, .ireturn, 0, 0, []),
  (234, 1, .aload_n 0, 0, 0, []),
  (235, 3, .getfield 20, 0, 4, [(0, 667)]),
  (238, 3, .getfield 298, 4, 10, [(0, 234)]),
  (241, 1, .ireturn, 0, 0, []),
  (242, 2, .bipush (-2), 34359738352, 0, []),
  (244, 1, .ireturn, 0, 0, [])]
/-- GravyRound.back (I)I -/
def gc_101 : List ga_E := [(0, 1, .iload_n 1, 0, 0, []),
  (1, 3, .ifCond .lt (19), 0, 20, []),
  (4, 1, .iload_n 1, 0, 0, []),
  (5, 1, .iconst 3, 24, 0, []),
  (6, 3, .if_icmp .ge (14), 0, 20, []),
  (9, 1, .aload_n 0, 0, 0, []),
  (10, 3, .getfield 337, 0, 11, [(0, 674)]),
  (13, 1, .iload_n 1, 0, 0, []),
  (14, 1, .ishr, 0, 0, []),
  (15, 1, .iconst 1, 8, 0, []),
  (16, 1, .iand, 0, 0, []),
  (17, 3, .ifCond .ne (5), 0, 22, []),
  (20, 1, .iconst (-1), 34359738360, 0, []),
  (21, 1, .ireturn, 0, 0, []),
  (22, 1, .aload_n 0, 0, 0, []),
  (23, 3, .getfield 41, 0, 7, [(0, 670)]),
  (26, 1, .aload_n 0, 0, 0, []),
  (27, 3, .getfield 55, 0, 10, [(0, 673)]),
  (30, 1, .iload_n 1, 0, 0, []),
  (31, 1, .aaload, 0, 0, []),
  (32, 3, .invokevirtual 208, 20, 0, [(0, 1077)]),
  (35, 1, .aload_n 0, 0, 0, []),
  (36, 3, .getfield 51, 0, 9, [(0, 672)]),
  (39, 1, .aload_n 0, 0, 0, []),
  (40, 3, .getfield 41, 0, 7, [(0, 670)]),
  (43, 3, .invokevirtual 343, 64, 0, [(0, 636)]),
  (46, 1, .aload_n 0, 0, 0, []),
  (47, 3, .getfield 41, 0, 7, [(0, 670)]),
  (50, 3, .getfield 340, 11, 9, [(0, 420)]),
  (53, 1, .ireturn, 0, 0, [])]
/-- GravyRound.image (I)I -/
def gc_102 : List ga_E := [(0, 1, .iload_n 1, 0, 0, []),
  (1, 3, .ifCond .lt (8), 0, 9, []),
  (4, 1, .iload_n 1, 0, 0, []),
  (5, 1, .iconst 3, 24, 0, []),
  (6, 3, .if_icmp .lt (5), 0, 11, []),
  (9, 1, .iconst (-1), 34359738360, 0, []),
  (10, 1, .ireturn, 0, 0, []),
  (11, 1, .aload_n 0, 0, 0, []),
  (12, 3, .getfield 55, 0, 10, [(0, 673)]),
  (15, 1, .iload_n 1, 0, 0, []),
  (16, 1, .aaload, 0, 0, []),
  (17, 1, .aload_n 0, 0, 0, []),
  (18, 3, .getfield 41, 0, 7, [(0, 670)]),
  (21, 3, .invokevirtual 208, 20, 0, [(0, 1077)]),
  (24, 1, .aload_n 0, 0, 0, []),
  (25, 1, .dup, 0, 0, []),
  (26, 3, .getfield 337, 0, 11, [(0, 674)]),
  (29, 1, .iconst 1, 8, 0, []),
  (30, 1, .iload_n 1, 0, 0, []),
  (31, 1, .ishl, 0, 0, []),
  (32, 1, .ior, 0, 0, []),
  (33, 3, .putfield 337, 0, 11, [(0, 674)]),
  (36, 1, .aload_n 0, 0, 0, []),
  (37, 3, .getfield 41, 0, 7, [(0, 670)]),
  (40, 3, .getfield 340, 11, 9, [(0, 420)]),
  (43, 1, .ireturn, 0, 0, [])]
/-- GravyRound.ask (II)I -/
def gc_103 : List ga_E := [(0, 1, .aload_n 0, 0, 0, []),
  (1, 3, .getfield 90, 0, 16, [(0, 679)]),
  (4, 1, .iload_n 2, 0, 0, []),
  (5, 3, .invokevirtual 322, 45, 0, [(0, 1333)]),
  (8, 1, .istore_n 3, 0, 0, []),
  (9, 1, .iload_n 3, 0, 0, []),
  (10, 3, .ifCond .eq (12), 0, 22, []),
  (13, 1, .iload_n 1, 0, 0, []),
  (14, 3, .ifCond .lt (8), 0, 22, []),
  (17, 1, .iload_n 1, 0, 0, []),
  (18, 1, .iconst 1, 8, 0, []),
  (19, 3, .if_icmp .le (5), 0, 24, []),
  (22, 1, .iconst (-1), 34359738360, 0, []),
  (23, 1, .ireturn, 0, 0, []),
  (24, 1, .aload_n 0, 0, 0, []),
  (25, 3, .getfield 90, 0, 16, [(0, 679)]),
  (28, 1, .iload_n 3, 0, 0, []),
  (29, 3, .invokevirtual 331, 297, 0, [(0, 1359)]),
  (32, 2, .istore 4, 0, 0, []),
  (34, 1, .iload_n 1, 0, 0, []),
  (35, 3, .ifCond .ne (8), 0, 43, []),
  (38, 2, .iload 4, 0, 0, []),
  (40, 3, .goto (13), 0, 53, []),
  (43, 1, .aload_n 0, 0, 0, []),
  (44, 3, .getfield 90, 0, 16, [(0, 679)]),
  (47, 1, .iload_n 3, 0, 0, []),
  (48, 2, .iload 4, 0, 0, []),
  (50, 3, .invokevirtual 334, 298, 0, [(0, 1368)]),
  (53, 1, .ireturn, 0, 0, [])]
/-- GravyRoundModel.ask (II)I -/
def gc_104 : List ga_E := [(0, 1, .iload_n 1, 0, 0, []),
  (1, 1, .iconst 0, 0, 0, []),
  (2, 1, .iconst 1, 8, 0, []),
  (3, 3, .invokestatic 348, 9, 0, [(0, 1419)]),
  (6, 3, .ifCond .eq (11), 0, 17, []),
  (9, 1, .aload_n 0, 0, 0, []),
  (10, 1, .iload_n 2, 0, 0, []),
  (11, 3, .invokevirtual 523, 46, 0, [(0, 2105)]),
  (14, 3, .ifCond .ne (5), 0, 19, []),
  (17, 1, .iconst (-1), 34359738360, 0, []),
  (18, 1, .ireturn, 0, 0, []),
  (19, 1, .iconst 0, 0, 0, []),
  (20, 1, .istore_n 3, 0, 0, []),
  (21, 1, .iconst 1, 8, 0, []),
  (22, 2, .istore 4, 0, 0, []),
  (24, 2, .iload 4, 0, 0, []),
  (26, 2, .bipush (40), 320, 0, []),
  (28, 3, .if_icmp .gt (28), 0, 56, []),
  (31, 1, .aload_n 0, 0, 0, []),
  (32, 2, .iload 4, 0, 0, []),
  (34, 1, .iload_n 2, 0, 0, []),
  (35, 3, .invokevirtual 526, 248, 0, [(0, 2110)]),
  (38, 1, .aload_n 0, 0, 0, []),
  (39, 1, .iload_n 3, 0, 0, []),
  (40, 1, .iload_n 2, 0, 0, []),
  (41, 3, .invokevirtual 526, 248, 0, [(0, 2110)]),
  (44, 3, .if_icmp .ge (6), 0, 50, []),
  (47, 2, .iload 4, 0, 0, []),
  (49, 1, .istore_n 3, 0, 0, []),
  (50, 3, .iinc 4 (1), 8, 0, []),
  (53, 3, .goto (-29), 0, 24, []),
  (56, 1, .iload_n 1, 0, 0, []),
  (57, 3, .ifCond .ne (7), 0, 64, []),
  (60, 1, .iload_n 3, 0, 0, []),
  (61, 3, .goto (9), 0, 70, []),
  (64, 1, .aload_n 0, 0, 0, []),
  (65, 1, .iload_n 3, 0, 0, []),
  (66, 1, .iload_n 2, 0, 0, []),
  (67, 3, .invokevirtual 526, 248, 0, [(0, 2110)]),
  (70, 1, .ireturn, 0, 0, [])]
/-- GravyRound.sure (II)I -/
def gc_105 : List ga_E := [(0, 1, .aload_n 0, 0, 0, []),
  (1, 3, .getfield 90, 0, 16, [(0, 679)]),
  (4, 1, .iload_n 2, 0, 0, []),
  (5, 3, .invokevirtual 322, 45, 0, [(0, 1333)]),
  (8, 1, .istore_n 3, 0, 0, []),
  (9, 1, .iload_n 3, 0, 0, []),
  (10, 3, .ifCond .eq (12), 0, 22, []),
  (13, 1, .iload_n 1, 0, 0, []),
  (14, 3, .ifCond .lt (8), 0, 22, []),
  (17, 1, .iload_n 1, 0, 0, []),
  (18, 1, .iconst 1, 8, 0, []),
  (19, 3, .if_icmp .le (5), 0, 24, []),
  (22, 1, .iconst (-1), 34359738360, 0, []),
  (23, 1, .ireturn, 0, 0, []),
  (24, 1, .iload_n 1, 0, 0, []),
  (25, 3, .ifCond .ne (10), 0, 35, []),
  (28, 1, .iload_n 3, 0, 0, []),
  (29, 3, .invokestatic 325, 187, 0, [(0, 1349)]),
  (32, 3, .goto (7), 0, 39, []),
  (35, 1, .iload_n 3, 0, 0, []),
  (36, 3, .invokestatic 328, 188, 0, [(0, 1352)]),
  (39, 1, .ireturn, 0, 0, [])]
/-- GravyRoundModel.sure (II)I -/
def gc_106 : List ga_E := [(0, 1, .iload_n 1, 0, 0, []),
  (1, 1, .iconst 0, 0, 0, []),
  (2, 1, .iconst 1, 8, 0, []),
  (3, 3, .invokestatic 348, 9, 0, [(0, 1419)]),
  (6, 3, .ifCond .eq (11), 0, 17, []),
  (9, 1, .aload_n 0, 0, 0, []),
  (10, 1, .iload_n 2, 0, 0, []),
  (11, 3, .invokevirtual 523, 46, 0, [(0, 2105)]),
  (14, 3, .ifCond .ne (5), 0, 19, []),
  (17, 1, .iconst (-1), 34359738360, 0, []),
  (18, 1, .ireturn, 0, 0, []),
  (19, 1, .iload_n 1, 0, 0, []),
  (20, 3, .ifCond .ne (7), 0, 27, []),
  (23, 1, .iconst 1, 8, 0, []),
  (24, 3, .goto (5), 0, 29, []),
  (27, 2, .bipush (20), 160, 0, []),
  (29, 1, .istore_n 3, 0, 0, []),
  (30, 1, .aload_n 0, 0, 0, []),
  (31, 1, .iload_n 3, 0, 0, []),
  (32, 1, .iload_n 2, 0, 0, []),
  (33, 3, .invokevirtual 520, 247, 0, [(0, 2097)]),
  (36, 3, .ifCond .ne (18), 0, 54, []),
  (39, 1, .iload_n 3, 0, 0, []),
  (40, 1, .iload_n 1, 0, 0, []),
  (41, 3, .ifCond .ne (7), 0, 48, []),
  (44, 1, .iconst 1, 8, 0, []),
  (45, 3, .goto (4), 0, 49, []),
  (48, 1, .iconst (-1), 34359738360, 0, []),
  (49, 1, .iadd, 0, 0, []),
  (50, 1, .istore_n 3, 0, 0, []),
  (51, 3, .goto (-21), 0, 30, []),
  (54, 1, .iload_n 3, 0, 0, []),
  (55, 1, .ireturn, 0, 0, [])]
/-- GravyRound.fits (I)I -/
def gc_107 : List ga_E := [(0, 1, .aload_n 0, 0, 0, []),
  (1, 3, .getfield 90, 0, 16, [(0, 679)]),
  (4, 1, .iload_n 1, 0, 0, []),
  (5, 3, .invokevirtual 322, 45, 0, [(0, 1333)]),
  (8, 3, .invokestatic 239, 27, 0, [(0, 1153)]),
  (11, 1, .ireturn, 0, 0, [])]
/-- GravyRound.later (I)I -/
def gc_108 : List ga_E := [(0, 1, .aload_n 0, 0, 0, []),
  (1, 3, .getfield 90, 0, 16, [(0, 679)]),
  (4, 1, .iload_n 1, 0, 0, []),
  (5, 3, .invokevirtual 320, 109, 0, [(0, 1324)]),
  (8, 1, .ireturn, 0, 0, [])]
/-- GravyRound$Sights.goOn (I)I -/
def gc_109 : List ga_E := [(0, 1, .iload_n 1, 0, 0, []),
  (1, 3, .ifCond .lt (21), 0, 22, []),
  (4, 1, .iload_n 1, 0, 0, []),
  (5, 3, .sipush (1000), 8000, 0, []),
  (8, 3, .if_icmp .gt (14), 0, 22, []),
  (11, 1, .aload_n 0, 0, 0, []),
  (12, 3, .getfield 57, 10, 9, [(0, 588)]),
  (15, 1, .iload_n 1, 0, 0, []),
  (16, 1, .iadd, 0, 0, []),
  (17, 2, .ldc 60, 800000, 0, [(0, 1328)]),
  (19, 3, .if_icmp .le (5), 0, 24, []),
  (22, 1, .iconst (-1), 34359738360, 0, []),
  (23, 1, .ireturn, 0, 0, []),
  (24, 1, .aload_n 0, 0, 0, []),
  (25, 1, .dup, 0, 0, []),
  (26, 3, .getfield 57, 10, 9, [(0, 588)]),
  (29, 1, .iload_n 1, 0, 0, []),
  (30, 1, .iadd, 0, 0, []),
  (31, 3, .putfield 57, 10, 9, [(0, 588)]),
  (34, 1, .aload_n 0, 0, 0, []),
  (35, 3, .getfield 57, 10, 9, [(0, 588)]),
  (38, 1, .ireturn, 0, 0, [])]
/-- GravyRound.untell (I)Z -/
def gc_110 : List ga_E := [(0, 1, .aload_n 0, 0, 0, []),
  (1, 3, .getfield 90, 0, 16, [(0, 679)]),
  (4, 1, .iload_n 1, 0, 0, []),
  (5, 3, .invokevirtual 317, 111, 0, [(0, 1316)]),
  (8, 1, .ireturn, 0, 0, [])]
/-- GravyRound$Sights.takeBack (I)Z -/
def gc_111 : List ga_E := [(0, 1, .iload_n 1, 0, 0, []),
  (1, 3, .ifCond .lt (21), 0, 22, []),
  (4, 1, .iload_n 1, 0, 0, []),
  (5, 1, .aload_n 0, 0, 0, []),
  (6, 3, .getfield 38, 10, 8, [(0, 586)]),
  (9, 3, .if_icmp .ge (13), 0, 22, []),
  (12, 1, .aload_n 0, 0, 0, []),
  (13, 3, .getfield 25, 10, 5, [(0, 583)]),
  (16, 1, .iload_n 1, 0, 0, []),
  (17, 1, .iaload, 0, 0, []),
  (18, 1, .iconst (-1), 34359738360, 0, []),
  (19, 3, .if_icmp .eq (5), 0, 24, []),
  (22, 1, .iconst 0, 0, 0, []),
  (23, 1, .ireturn, 0, 0, []),
  (24, 1, .aload_n 0, 0, 0, []),
  (25, 3, .getfield 25, 10, 5, [(0, 583)]),
  (28, 1, .iload_n 1, 0, 0, []),
  (29, 1, .aload_n 0, 0, 0, []),
  (30, 3, .getfield 57, 10, 9, [(0, 588)]),
  (33, 1, .iastore, 0, 0, []),
  (34, 1, .iconst 1, 8, 0, []),
  (35, 1, .ireturn, 0, 0, [])]
/-- GravyRound.lies (I)I -/
def gc_112 : List ga_E := [(0, 1, .iload_n 1, 0, 0, []),
  (1, 3, .ifCond .lt (14), 0, 15, []),
  (4, 1, .iload_n 1, 0, 0, []),
  (5, 1, .aload_n 0, 0, 0, []),
  (6, 3, .getfield 62, 0, 12, [(0, 675)]),
  (9, 3, .getfield 307, 8, 1, [(0, 479)]),
  (12, 3, .if_icmp .lt (8), 0, 20, []),
  (15, 2, .bipush (-2), 34359738352, 0, []),
  (17, 3, .goto (12), 0, 29, []),
  (20, 1, .aload_n 0, 0, 0, []),
  (21, 3, .getfield 62, 0, 12, [(0, 675)]),
  (24, 3, .getfield 310, 8, 0, [(0, 477)]),
  (27, 1, .iload_n 1, 0, 0, []),
  (28, 1, .iaload, 0, 0, []),
  (29, 1, .ireturn, 0, 0, [])]
/-- GravyRound.odds (II)I -/
def gc_113 : List ga_E := [(0, 1, .iload_n 1, 0, 0, []),
  (1, 3, .ifCond .lt (17), 0, 18, []),
  (4, 1, .iload_n 1, 0, 0, []),
  (5, 1, .iconst 4, 32, 0, []),
  (6, 3, .if_icmp .gt (12), 0, 18, []),
  (9, 1, .iload_n 2, 0, 0, []),
  (10, 3, .ifCond .lt (8), 0, 18, []),
  (13, 1, .iload_n 2, 0, 0, []),
  (14, 1, .iconst 1, 8, 0, []),
  (15, 3, .if_icmp .le (5), 0, 20, []),
  (18, 1, .iconst (-1), 34359738360, 0, []),
  (19, 1, .ireturn, 0, 0, []),
  (20, 2, .bipush (100), 800, 0, []),
  (22, 1, .aload_n 0, 0, 0, []),
  (23, 3, .getfield 20, 0, 4, [(0, 667)]),
  (26, 3, .getfield 298, 4, 10, [(0, 234)]),
  (29, 1, .isub, 0, 0, []),
  (30, 1, .istore_n 3, 0, 0, []),
  (31, 1, .iload_n 3, 0, 0, []),
  (32, 2, .bipush (100), 800, 0, []),
  (34, 3, .invokestatic 301, 114, 0, [(0, 1296)]),
  (37, 2, .istore 4, 0, 0, []),
  (39, 1, .iload_n 2, 0, 0, []),
  (40, 3, .ifCond .ne (7), 0, 47, []),
  (43, 1, .iload_n 3, 0, 0, []),
  (44, 3, .goto (5), 0, 49, []),
  (47, 2, .bipush (100), 800, 0, []),
  (49, 1, .iconst 1, 8, 0, []),
  (50, 2, .iload 4, 0, 0, []),
  (52, 3, .invokestatic 304, 0, 0, [(0, 1299)]),
  (55, 1, .idiv, 0, 0, []),
  (56, 2, .istore 5, 0, 0, []),
  (58, 1, .iconst 1, 8, 0, []),
  (59, 2, .istore 6, 0, 0, []),
  (61, 1, .iconst 0, 0, 0, []),
  (62, 2, .istore 7, 0, 0, []),
  (64, 2, .iload 7, 0, 0, []),
  (66, 1, .iload_n 1, 0, 0, []),
  (67, 3, .if_icmp .ge (16), 0, 83, []),
  (70, 2, .iload 6, 0, 0, []),
  (72, 2, .iload 5, 0, 0, []),
  (74, 1, .imul, 0, 0, []),
  (75, 2, .istore 6, 0, 0, []),
  (77, 3, .iinc 7 (1), 8, 0, []),
  (80, 3, .goto (-16), 0, 64, []),
  (83, 2, .iload 6, 0, 0, []),
  (85, 1, .ireturn, 0, 0, [])]
/-- GravyRound.commonDivisor (II)I -/
def gc_114 : List ga_E := [(0, 1, .iload_n 0, 0, 0, []),
  (1, 1, .istore_n 2, 0, 0, []),
  (2, 1, .iload_n 1, 0, 0, []),
  (3, 1, .istore_n 3, 0, 0, []),
  (4, 1, .iconst 0, 0, 0, []),
  (5, 2, .istore 4, 0, 0, []),
  (7, 2, .iload 4, 0, 0, []),
  (9, 2, .bipush (64), 512, 0, []),
  (11, 3, .if_icmp .ge (23), 0, 34, []),
  (14, 1, .iload_n 3, 0, 0, []),
  (15, 3, .ifCond .eq (19), 0, 34, []),
  (18, 1, .iload_n 2, 0, 0, []),
  (19, 1, .iload_n 3, 0, 0, []),
  (20, 1, .irem, 0, 0, []),
  (21, 2, .istore 5, 0, 0, []),
  (23, 1, .iload_n 3, 0, 0, []),
  (24, 1, .istore_n 2, 0, 0, []),
  (25, 2, .iload 5, 0, 0, []),
  (27, 1, .istore_n 3, 0, 0, []),
  (28, 3, .iinc 4 (1), 8, 0, []),
  (31, 3, .goto (-24), 0, 7, []),
  (34, 1, .iload_n 2, 0, 0, []),
  (35, 1, .ireturn, 0, 0, [])]
/-- GravyRound.law (I)I -/
def gc_115 : List ga_E := [(0, 1, .iload_n 1, 0, 0, []),
  (1, 1, .iconst 1, 8, 0, []),
  (2, 3, .if_icmp .lt (9), 0, 11, []),
  (5, 1, .iload_n 1, 0, 0, []),
  (6, 2, .bipush (9), 72, 0, []),
  (8, 3, .if_icmp .le (5), 0, 13, []),
  (11, 1, .iconst (-1), 34359738360, 0, []),
  (12, 1, .ireturn, 0, 0, []),
  (13, 1, .aload_n 0, 0, 0, []),
  (14, 3, .getfield 41, 0, 7, [(0, 670)]),
  (17, 3, .invokevirtual 160, 3, 0, [(0, 975)]),
  (20, 3, .ifCond .eq (5), 0, 25, []),
  (23, 1, .iconst 0, 0, 0, []),
  (24, 1, .ireturn, 0, 0, []),
  (25, 1, .aload_n 0, 0, 0, []),
  (26, 3, .getfield 20, 0, 4, [(0, 667)]),
  (29, 3, .getfield 116, 4, 0, [(0, 200)]),
  (32, 1, .aload_n 0, 0, 0, []),
  (33, 3, .getfield 41, 0, 7, [(0, 670)]),
  (36, 3, .getfield 266, 11, 6, [(0, 412)]),
  (39, 1, .isub, 0, 0, []),
  (40, 1, .iconst 1, 8, 0, []),
  (41, 1, .isub, 0, 0, []),
  (42, 1, .istore_n 2, 0, 0, []),
  (43, 1, .aload_n 0, 0, 0, []),
  (44, 3, .getfield 41, 0, 7, [(0, 670)]),
  (47, 3, .invokevirtual 179, 79, 0, [(0, 1020)]),
  (50, 1, .aload_n 0, 0, 0, []),
  (51, 3, .getfield 41, 0, 7, [(0, 670)]),
  (54, 3, .invokevirtual 226, 303, 0, [(0, 1113)]),
  (57, 1, .isub, 0, 0, []),
  (58, 1, .iload_n 2, 0, 0, []),
  (59, 1, .iload_n 1, 0, 0, []),
  (60, 1, .imul, 0, 0, []),
  (61, 1, .iadd, 0, 0, []),
  (62, 1, .ireturn, 0, 0, [])]
/-- GravyRound.slowest (I)I -/
def gc_116 : List ga_E := [(0, 1, .iload_n 1, 0, 0, []),
  (1, 3, .ifCond .lt (8), 0, 9, []),
  (4, 1, .iload_n 1, 0, 0, []),
  (5, 1, .iconst 1, 8, 0, []),
  (6, 3, .if_icmp .le (5), 0, 11, []),
  (9, 1, .iconst (-1), 34359738360, 0, []),
  (10, 1, .ireturn, 0, 0, []),
  (11, 1, .iconst (-1), 34359738360, 0, []),
  (12, 1, .istore_n 2, 0, 0, []),
  (13, 1, .iconst (-1), 34359738360, 0, []),
  (14, 1, .istore_n 3, 0, 0, []),
  (15, 1, .aload_n 0, 0, 0, []),
  (16, 3, .getfield 41, 0, 7, [(0, 670)]),
  (19, 3, .getfield 266, 11, 6, [(0, 412)]),
  (22, 1, .iconst 1, 8, 0, []),
  (23, 1, .iadd, 0, 0, []),
  (24, 2, .istore 4, 0, 0, []),
  (26, 2, .iload 4, 0, 0, []),
  (28, 1, .aload_n 0, 0, 0, []),
  (29, 3, .getfield 20, 0, 4, [(0, 667)]),
  (32, 3, .getfield 116, 4, 0, [(0, 200)]),
  (35, 3, .if_icmp .ge (32), 0, 67, []),
  (38, 1, .aload_n 0, 0, 0, []),
  (39, 3, .getfield 41, 0, 7, [(0, 670)]),
  (42, 2, .iload 4, 0, 0, []),
  (44, 3, .invokevirtual 295, 63, 0, [(0, 1287)]),
  (47, 2, .istore 5, 0, 0, []),
  (49, 2, .iload 5, 0, 0, []),
  (51, 1, .iload_n 3, 0, 0, []),
  (52, 3, .if_icmp .le (9), 0, 61, []),
  (55, 2, .iload 5, 0, 0, []),
  (57, 1, .istore_n 3, 0, 0, []),
  (58, 2, .iload 4, 0, 0, []),
  (60, 1, .istore_n 2, 0, 0, []),
  (61, 3, .iinc 4 (1), 8, 0, []),
  (64, 3, .goto (-38), 0, 26, []),
  (67, 1, .iload_n 1, 0, 0, []),
  (68, 3, .ifCond .ne (7), 0, 75, []),
  (71, 1, .iload_n 2, 0, 0, []),
  (72, 3, .goto (4), 0, 76, []),
  (75, 1, .iload_n 3, 0, 0, []),
  (76, 1, .ireturn, 0, 0, [])]
/-- GravyRound.hungry ()I -/
def gc_117 : List ga_E := [(0, 1, .aload_n 0, 0, 0, []),
  (1, 3, .invokevirtual 291, 71, 0, [(0, 1275)]),
  (4, 1, .iconst 0, 0, 0, []),
  (5, 1, .istore_n 1, 0, 0, []),
  (6, 1, .iconst 0, 0, 0, []),
  (7, 1, .istore_n 2, 0, 0, []),
  (8, 1, .iload_n 2, 0, 0, []),
  (9, 1, .aload_n 0, 0, 0, []),
  (10, 3, .getfield 20, 0, 4, [(0, 667)]),
  (13, 3, .getfield 116, 4, 0, [(0, 200)]),
  (16, 3, .if_icmp .ge (36), 0, 52, []),
  (19, 1, .aload_n 0, 0, 0, []),
  (20, 3, .getfield 76, 0, 14, [(0, 677)]),
  (23, 3, .getfield 294, 9, 3, [(0, 537)]),
  (26, 1, .iload_n 2, 0, 0, []),
  (27, 1, .iaload, 0, 0, []),
  (28, 1, .aload_n 0, 0, 0, []),
  (29, 3, .getfield 20, 0, 4, [(0, 667)]),
  (32, 3, .getfield 126, 4, 2, [(0, 204)]),
  (35, 1, .iload_n 2, 0, 0, []),
  (36, 1, .iaload, 0, 0, []),
  (37, 3, .if_icmp .ge (9), 0, 46, []),
  (40, 1, .iload_n 1, 0, 0, []),
  (41, 1, .iconst 1, 8, 0, []),
  (42, 1, .iload_n 2, 0, 0, []),
  (43, 1, .ishl, 0, 0, []),
  (44, 1, .ior, 0, 0, []),
  (45, 1, .istore_n 1, 0, 0, []),
  (46, 3, .iinc 2 (1), 8, 0, []),
  (49, 3, .goto (-41), 0, 8, []),
  (52, 1, .iload_n 1, 0, 0, []),
  (53, 1, .ireturn, 0, 0, [])]
/-- GravyRoundModel.hungry ()I -/
def gc_118 : List ga_E := [(0, 1, .aload_n 0, 0, 0, []),
  (1, 3, .invokevirtual 439, 29, 0, [(0, 1915)]),
  (4, 1, .aload_n 0, 0, 0, []),
  (5, 1, .iconst 0, 0, 0, []),
  (6, 3, .invokevirtual 445, 74, 0, [(0, 1927)]),
  (9, 1, .istore_n 1, 0, 0, []),
  (10, 1, .iconst 0, 0, 0, []),
  (11, 1, .istore_n 2, 0, 0, []),
  (12, 1, .iconst 0, 0, 0, []),
  (13, 1, .istore_n 3, 0, 0, []),
  (14, 1, .iload_n 3, 0, 0, []),
  (15, 1, .aload_n 0, 0, 0, []),
  (16, 3, .invokevirtual 338, 11, 0, [(0, 1399)]),
  (19, 3, .if_icmp .ge (32), 0, 51, []),
  (22, 1, .aload_n 0, 0, 0, []),
  (23, 3, .getfield 85, 1, 38, [(0, 1479)]),
  (26, 2, .bipush (7), 56, 0, []),
  (28, 1, .iload_n 3, 0, 0, []),
  (29, 1, .iadd, 0, 0, []),
  (30, 1, .iaload, 0, 0, []),
  (31, 1, .aload_n 0, 0, 0, []),
  (32, 1, .iload_n 3, 0, 0, []),
  (33, 3, .invokevirtual 401, 222, 0, [(0, 1782)]),
  (36, 3, .if_icmp .ge (9), 0, 45, []),
  (39, 1, .iload_n 2, 0, 0, []),
  (40, 1, .iconst 1, 8, 0, []),
  (41, 1, .iload_n 3, 0, 0, []),
  (42, 1, .ishl, 0, 0, []),
  (43, 1, .ior, 0, 0, []),
  (44, 1, .istore_n 2, 0, 0, []),
  (45, 3, .iinc 3 (1), 8, 0, []),
  (48, 3, .goto (-34), 0, 14, []),
  (51, 1, .aload_n 0, 0, 0, []),
  (52, 3, .invokevirtual 442, 25, 0, [(0, 1919)]),
  (55, 1, .iload_n 2, 0, 0, []),
  (56, 1, .ireturn, 0, 0, [])]
/-- GravyRound.lacking ()I -/
def gc_119 : List ga_E := [(0, 1, .aload_n 0, 0, 0, []),
  (1, 3, .invokevirtual 291, 71, 0, [(0, 1275)]),
  (4, 1, .iconst 0, 0, 0, []),
  (5, 1, .istore_n 1, 0, 0, []),
  (6, 1, .iconst 0, 0, 0, []),
  (7, 1, .istore_n 2, 0, 0, []),
  (8, 1, .iload_n 2, 0, 0, []),
  (9, 1, .aload_n 0, 0, 0, []),
  (10, 3, .getfield 20, 0, 4, [(0, 667)]),
  (13, 3, .getfield 116, 4, 0, [(0, 200)]),
  (16, 3, .if_icmp .ge (31), 0, 47, []),
  (19, 1, .iload_n 1, 0, 0, []),
  (20, 1, .aload_n 0, 0, 0, []),
  (21, 3, .getfield 20, 0, 4, [(0, 667)]),
  (24, 3, .getfield 126, 4, 2, [(0, 204)]),
  (27, 1, .iload_n 2, 0, 0, []),
  (28, 1, .iaload, 0, 0, []),
  (29, 1, .aload_n 0, 0, 0, []),
  (30, 3, .getfield 76, 0, 14, [(0, 677)]),
  (33, 3, .getfield 294, 9, 3, [(0, 537)]),
  (36, 1, .iload_n 2, 0, 0, []),
  (37, 1, .iaload, 0, 0, []),
  (38, 1, .isub, 0, 0, []),
  (39, 1, .iadd, 0, 0, []),
  (40, 1, .istore_n 1, 0, 0, []),
  (41, 3, .iinc 2 (1), 8, 0, []),
  (44, 3, .goto (-36), 0, 8, []),
  (47, 1, .iload_n 1, 0, 0, []),
  (48, 1, .ireturn, 0, 0, [])]
/-- GravyRoundModel.lacking ()I -/
def gc_120 : List ga_E := [(0, 1, .aload_n 0, 0, 0, []),
  (1, 3, .invokevirtual 439, 29, 0, [(0, 1915)]),
  (4, 1, .aload_n 0, 0, 0, []),
  (5, 1, .iconst 0, 0, 0, []),
  (6, 3, .invokevirtual 445, 74, 0, [(0, 1927)]),
  (9, 1, .istore_n 1, 0, 0, []),
  (10, 1, .iconst 0, 0, 0, []),
  (11, 1, .istore_n 2, 0, 0, []),
  (12, 1, .iconst 0, 0, 0, []),
  (13, 1, .istore_n 3, 0, 0, []),
  (14, 1, .iload_n 3, 0, 0, []),
  (15, 1, .aload_n 0, 0, 0, []),
  (16, 3, .invokevirtual 338, 11, 0, [(0, 1399)]),
  (19, 3, .if_icmp .ge (27), 0, 46, []),
  (22, 1, .iload_n 2, 0, 0, []),
  (23, 1, .aload_n 0, 0, 0, []),
  (24, 1, .iload_n 3, 0, 0, []),
  (25, 3, .invokevirtual 401, 222, 0, [(0, 1782)]),
  (28, 1, .aload_n 0, 0, 0, []),
  (29, 3, .getfield 85, 1, 38, [(0, 1479)]),
  (32, 2, .bipush (7), 56, 0, []),
  (34, 1, .iload_n 3, 0, 0, []),
  (35, 1, .iadd, 0, 0, []),
  (36, 1, .iaload, 0, 0, []),
  (37, 1, .isub, 0, 0, []),
  (38, 1, .iadd, 0, 0, []),
  (39, 1, .istore_n 2, 0, 0, []),
  (40, 3, .iinc 3 (1), 8, 0, []),
  (43, 3, .goto (-29), 0, 14, []),
  (46, 1, .aload_n 0, 0, 0, []),
  (47, 3, .invokevirtual 442, 25, 0, [(0, 1919)]),
  (50, 1, .iload_n 2, 0, 0, []),
  (51, 1, .ireturn, 0, 0, [])]
/-- GravyRound.luckiest ()I -/
def gc_121 : List ga_E := [(0, 1, .iconst (-1), 34359738360, 0, []),
  (1, 1, .istore_n 1, 0, 0, []),
  (2, 1, .iconst (-1), 34359738360, 0, []),
  (3, 1, .istore_n 2, 0, 0, []),
  (4, 1, .iconst 0, 0, 0, []),
  (5, 1, .istore_n 3, 0, 0, []),
  (6, 1, .iload_n 3, 0, 0, []),
  (7, 1, .aload_n 0, 0, 0, []),
  (8, 3, .getfield 20, 0, 4, [(0, 667)]),
  (11, 3, .getfield 116, 4, 0, [(0, 200)]),
  (14, 3, .if_icmp .ge (45), 0, 59, []),
  (17, 1, .aload_n 0, 0, 0, []),
  (18, 3, .getfield 41, 0, 7, [(0, 670)]),
  (21, 1, .iload_n 3, 0, 0, []),
  (22, 3, .invokevirtual 139, 300, 0, [(0, 949)]),
  (25, 3, .ifCond .eq (28), 0, 53, []),
  (28, 1, .aload_n 0, 0, 0, []),
  (29, 3, .getfield 41, 0, 7, [(0, 670)]),
  (32, 3, .getfield 136, 11, 3, [(0, 401)]),
  (35, 1, .iload_n 3, 0, 0, []),
  (36, 1, .iaload, 0, 0, []),
  (37, 1, .iload_n 2, 0, 0, []),
  (38, 3, .if_icmp .le (15), 0, 53, []),
  (41, 1, .aload_n 0, 0, 0, []),
  (42, 3, .getfield 41, 0, 7, [(0, 670)]),
  (45, 3, .getfield 136, 11, 3, [(0, 401)]),
  (48, 1, .iload_n 3, 0, 0, []),
  (49, 1, .iaload, 0, 0, []),
  (50, 1, .istore_n 2, 0, 0, []),
  (51, 1, .iload_n 3, 0, 0, []),
  (52, 1, .istore_n 1, 0, 0, []),
  (53, 3, .iinc 3 (1), 8, 0, []),
  (56, 3, .goto (-50), 0, 6, []),
  (59, 1, .iload_n 1, 0, 0, []),
  (60, 1, .ireturn, 0, 0, [])]
/-- GravyRoundModel.luckiest ()I -/
def gc_122 : List ga_E := [(0, 1, .iconst (-1), 34359738360, 0, []),
  (1, 1, .istore_n 1, 0, 0, []),
  (2, 1, .iconst 0, 0, 0, []),
  (3, 1, .istore_n 2, 0, 0, []),
  (4, 1, .iload_n 2, 0, 0, []),
  (5, 1, .aload_n 0, 0, 0, []),
  (6, 3, .invokevirtual 338, 11, 0, [(0, 1399)]),
  (9, 3, .if_icmp .ge (50), 0, 59, []),
  (12, 1, .aload_n 0, 0, 0, []),
  (13, 3, .getfield 85, 1, 38, [(0, 1479)]),
  (16, 2, .bipush (21), 168, 0, []),
  (18, 1, .iaload, 0, 0, []),
  (19, 1, .iload_n 2, 0, 0, []),
  (20, 3, .invokestatic 273, 8, 0, [(0, 1438)]),
  (23, 3, .ifCond .eq (30), 0, 53, []),
  (26, 1, .iload_n 1, 0, 0, []),
  (27, 3, .ifCond .lt (24), 0, 51, []),
  (30, 1, .aload_n 0, 0, 0, []),
  (31, 3, .getfield 85, 1, 38, [(0, 1479)]),
  (34, 2, .bipush (14), 112, 0, []),
  (36, 1, .iload_n 2, 0, 0, []),
  (37, 1, .iadd, 0, 0, []),
  (38, 1, .iaload, 0, 0, []),
  (39, 1, .aload_n 0, 0, 0, []),
  (40, 3, .getfield 85, 1, 38, [(0, 1479)]),
  (43, 2, .bipush (14), 112, 0, []),
  (45, 1, .iload_n 1, 0, 0, []),
  (46, 1, .iadd, 0, 0, []),
  (47, 1, .iaload, 0, 0, []),
  (48, 3, .if_icmp .le (5), 0, 53, []),
  (51, 1, .iload_n 2, 0, 0, []),
  (52, 1, .istore_n 1, 0, 0, []),
  (53, 3, .iinc 2 (1), 8, 0, []),
  (56, 3, .goto (-52), 0, 4, []),
  (59, 1, .iload_n 1, 0, 0, []),
  (60, 1, .ireturn, 0, 0, [])]
/-- GravyRound.sourest ()I -/
def gc_123 : List ga_E := [(0, 1, .iconst (-1), 34359738360, 0, []),
  (1, 1, .istore_n 1, 0, 0, []),
  (2, 1, .iconst (-1), 34359738360, 0, []),
  (3, 1, .istore_n 2, 0, 0, []),
  (4, 1, .iconst 0, 0, 0, []),
  (5, 1, .istore_n 3, 0, 0, []),
  (6, 1, .iload_n 3, 0, 0, []),
  (7, 1, .aload_n 0, 0, 0, []),
  (8, 3, .getfield 20, 0, 4, [(0, 667)]),
  (11, 3, .getfield 116, 4, 0, [(0, 200)]),
  (14, 3, .if_icmp .ge (33), 0, 47, []),
  (17, 1, .aload_n 0, 0, 0, []),
  (18, 3, .getfield 41, 0, 7, [(0, 670)]),
  (21, 1, .iload_n 3, 0, 0, []),
  (22, 3, .invokevirtual 142, 302, 0, [(0, 954)]),
  (25, 3, .invokestatic 239, 27, 0, [(0, 1153)]),
  (28, 2, .istore 4, 0, 0, []),
  (30, 2, .iload 4, 0, 0, []),
  (32, 1, .iload_n 2, 0, 0, []),
  (33, 3, .if_icmp .le (8), 0, 41, []),
  (36, 2, .iload 4, 0, 0, []),
  (38, 1, .istore_n 2, 0, 0, []),
  (39, 1, .iload_n 3, 0, 0, []),
  (40, 1, .istore_n 1, 0, 0, []),
  (41, 3, .iinc 3 (1), 8, 0, []),
  (44, 3, .goto (-38), 0, 6, []),
  (47, 1, .iload_n 1, 0, 0, []),
  (48, 1, .ireturn, 0, 0, [])]
/-- GravyRoundModel.sourest ()I -/
def gc_124 : List ga_E := [(0, 1, .iconst (-1), 34359738360, 0, []),
  (1, 1, .istore_n 1, 0, 0, []),
  (2, 1, .iconst 0, 0, 0, []),
  (3, 1, .istore_n 2, 0, 0, []),
  (4, 1, .iload_n 2, 0, 0, []),
  (5, 1, .aload_n 0, 0, 0, []),
  (6, 3, .invokevirtual 338, 11, 0, [(0, 1399)]),
  (9, 3, .if_icmp .ge (34), 0, 43, []),
  (12, 1, .iload_n 1, 0, 0, []),
  (13, 3, .ifCond .lt (22), 0, 35, []),
  (16, 1, .aload_n 0, 0, 0, []),
  (17, 1, .iload_n 2, 0, 0, []),
  (18, 3, .invokevirtual 414, 224, 0, [(0, 1786)]),
  (21, 3, .invokestatic 423, 52, 0, [(0, 1814)]),
  (24, 1, .aload_n 0, 0, 0, []),
  (25, 1, .iload_n 1, 0, 0, []),
  (26, 3, .invokevirtual 414, 224, 0, [(0, 1786)]),
  (29, 3, .invokestatic 423, 52, 0, [(0, 1814)]),
  (32, 3, .if_icmp .le (5), 0, 37, []),
  (35, 1, .iload_n 2, 0, 0, []),
  (36, 1, .istore_n 1, 0, 0, []),
  (37, 3, .iinc 2 (1), 8, 0, []),
  (40, 3, .goto (-36), 0, 4, []),
  (43, 1, .iload_n 1, 0, 0, []),
  (44, 1, .ireturn, 0, 0, [])]
/-- GravyRound.blame (I)I -/
def gc_125 : List ga_E := [(0, 1, .aload_n 0, 0, 0, []),
  (1, 1, .iload_n 1, 0, 0, []),
  (2, 3, .invokevirtual 148, 37, 0, [(0, 963)]),
  (5, 3, .ifCond .eq (14), 0, 19, []),
  (8, 1, .aload_n 0, 0, 0, []),
  (9, 3, .getfield 41, 0, 7, [(0, 670)]),
  (12, 1, .iload_n 1, 0, 0, []),
  (13, 3, .invokevirtual 157, 301, 0, [(0, 967)]),
  (16, 3, .ifCond .eq (5), 0, 21, []),
  (19, 1, .iconst (-1), 34359738360, 0, []),
  (20, 1, .ireturn, 0, 0, []),
  (21, 1, .aload_n 0, 0, 0, []),
  (22, 1, .iload_n 1, 0, 0, []),
  (23, 3, .invokevirtual 236, 185, 0, [(0, 1146)]),
  (26, 3, .ifCond .eq (13), 0, 39, []),
  (29, 1, .aload_n 0, 0, 0, []),
  (30, 3, .getfield 20, 0, 4, [(0, 667)]),
  (33, 3, .getfield 213, 4, 9, [(0, 230)]),
  (36, 3, .goto (4), 0, 40, []),
  (39, 1, .iconst 0, 0, 0, []),
  (40, 1, .ireturn, 0, 0, [])]
/-- GravyRound.clans ()I -/
def gc_126 : List ga_E := [(0, 1, .aload_n 0, 0, 0, []),
  (1, 3, .getfield 83, 0, 15, [(0, 678)]),
  (4, 1, .aload_n 0, 0, 0, []),
  (5, 3, .getfield 41, 0, 7, [(0, 670)]),
  (8, 3, .invokevirtual 244, 50, 0, [(0, 1163)]),
  (11, 1, .aload_n 0, 0, 0, []),
  (12, 3, .getfield 83, 0, 15, [(0, 678)]),
  (15, 3, .invokevirtual 288, 127, 0, [(0, 1254)]),
  (18, 1, .ireturn, 0, 0, [])]
/-- GravyRound$Company.countClans ()I -/
def gc_127 : List ga_E := [(0, 1, .iconst 0, 0, 0, []),
  (1, 1, .istore_n 1, 0, 0, []),
  (2, 1, .iconst 0, 0, 0, []),
  (3, 1, .istore_n 2, 0, 0, []),
  (4, 1, .iload_n 2, 0, 0, []),
  (5, 1, .aload_n 0, 0, 0, []),
  (6, 3, .getfield 30, 3, 1, [(0, 562)]),
  (9, 3, .if_icmp .ge (41), 0, 50, []),
  (12, 1, .aload_n 0, 0, 0, []),
  (13, 1, .iload_n 2, 0, 0, []),
  (14, 3, .invokevirtual 51, 251, 0, [(0, 1258)]),
  (17, 1, .iconst 1, 8, 0, []),
  (18, 1, .iload_n 2, 0, 0, []),
  (19, 1, .ishl, 0, 0, []),
  (20, 1, .iconst 1, 8, 0, []),
  (21, 1, .isub, 0, 0, []),
  (22, 1, .iand, 0, 0, []),
  (23, 3, .ifCond .ne (7), 0, 30, []),
  (26, 1, .iconst 1, 8, 0, []),
  (27, 3, .goto (4), 0, 31, []),
  (30, 1, .iconst 0, 0, 0, []),
  (31, 1, .istore_n 3, 0, 0, []),
  (32, 1, .iload_n 1, 0, 0, []),
  (33, 1, .iload_n 3, 0, 0, []),
  (34, 3, .ifCond .eq (7), 0, 41, []),
  (37, 1, .iconst 1, 8, 0, []),
  (38, 3, .goto (4), 0, 42, []),
  (41, 1, .iconst 0, 0, 0, []),
  (42, 1, .iadd, 0, 0, []),
  (43, 1, .istore_n 1, 0, 0, []),
  (44, 3, .iinc 2 (1), 8, 0, []),
  (47, 3, .goto (-43), 0, 4, []),
  (50, 1, .iload_n 1, 0, 0, []),
  (51, 1, .ireturn, 0, 0, [])]
/-- GravyRoundModel.clans ()I -/
def gc_128 : List ga_E := [(0, 1, .iconst 0, 0, 0, []),
  (1, 1, .istore_n 1, 0, 0, []),
  (2, 1, .iconst 1, 8, 0, []),
  (3, 1, .aload_n 0, 0, 0, []),
  (4, 3, .invokevirtual 338, 11, 0, [(0, 1399)]),
  (7, 1, .ishl, 0, 0, []),
  (8, 1, .iconst 1, 8, 0, []),
  (9, 1, .isub, 0, 0, []),
  (10, 1, .istore_n 2, 0, 0, []),
  (11, 1, .iconst 0, 0, 0, []),
  (12, 1, .istore_n 3, 0, 0, []),
  (13, 1, .iload_n 3, 0, 0, []),
  (14, 1, .aload_n 0, 0, 0, []),
  (15, 3, .invokevirtual 338, 11, 0, [(0, 1399)]),
  (18, 3, .if_icmp .ge (33), 0, 51, []),
  (21, 1, .iload_n 2, 0, 0, []),
  (22, 1, .iload_n 3, 0, 0, []),
  (23, 3, .invokestatic 273, 8, 0, [(0, 1438)]),
  (26, 3, .ifCond .ne (6), 0, 32, []),
  (29, 3, .goto (16), 0, 45, []),
  (32, 1, .iload_n 2, 0, 0, []),
  (33, 1, .aload_n 0, 0, 0, []),
  (34, 1, .iload_n 3, 0, 0, []),
  (35, 3, .invokevirtual 496, 242, 0, [(0, 2035)]),
  (38, 1, .iconst (-1), 34359738360, 0, []),
  (39, 1, .ixor, 0, 0, []),
  (40, 1, .iand, 0, 0, []),
  (41, 1, .istore_n 2, 0, 0, []),
  (42, 3, .iinc 1 (1), 8, 0, []),
  (45, 3, .iinc 3 (1), 8, 0, []),
  (48, 3, .goto (-35), 0, 13, []),
  (51, 1, .iload_n 1, 0, 0, []),
  (52, 1, .ireturn, 0, 0, [])]
/-- GravyRound.clan (I)I -/
def gc_129 : List ga_E := [(0, 1, .aload_n 0, 0, 0, []),
  (1, 1, .iload_n 1, 0, 0, []),
  (2, 3, .invokevirtual 119, 18, 0, [(0, 941)]),
  (5, 3, .ifCond .ne (5), 0, 10, []),
  (8, 1, .iconst (-1), 34359738360, 0, []),
  (9, 1, .ireturn, 0, 0, []),
  (10, 1, .aload_n 0, 0, 0, []),
  (11, 3, .getfield 83, 0, 15, [(0, 678)]),
  (14, 1, .aload_n 0, 0, 0, []),
  (15, 3, .getfield 41, 0, 7, [(0, 670)]),
  (18, 3, .invokevirtual 244, 50, 0, [(0, 1163)]),
  (21, 1, .aload_n 0, 0, 0, []),
  (22, 3, .getfield 83, 0, 15, [(0, 678)]),
  (25, 1, .iload_n 1, 0, 0, []),
  (26, 3, .invokevirtual 285, 251, 0, [(0, 1246)]),
  (29, 1, .ireturn, 0, 0, [])]
/-- GravyRound.greed (II)I -/
def gc_130 : List ga_E := [(0, 1, .aload_n 0, 0, 0, []),
  (1, 3, .getfield 62, 0, 12, [(0, 675)]),
  (4, 3, .invokevirtual 210, 23, 0, [(0, 659)]),
  (7, 1, .iload_n 1, 0, 0, []),
  (8, 1, .iload_n 2, 0, 0, []),
  (9, 3, .if_icmp .eq (19), 0, 28, []),
  (12, 1, .aload_n 0, 0, 0, []),
  (13, 1, .iload_n 1, 0, 0, []),
  (14, 3, .invokevirtual 272, 131, 0, [(0, 1224)]),
  (17, 3, .ifCond .eq (11), 0, 28, []),
  (20, 1, .aload_n 0, 0, 0, []),
  (21, 1, .iload_n 2, 0, 0, []),
  (22, 3, .invokevirtual 272, 131, 0, [(0, 1224)]),
  (25, 3, .ifCond .ne (5), 0, 30, []),
  (28, 1, .iconst (-1), 34359738360, 0, []),
  (29, 1, .ireturn, 0, 0, []),
  (30, 1, .aload_n 0, 0, 0, []),
  (31, 3, .getfield 76, 0, 14, [(0, 677)]),
  (34, 1, .aload_n 0, 0, 0, []),
  (35, 3, .getfield 41, 0, 7, [(0, 670)]),
  (38, 1, .iload_n 1, 0, 0, []),
  (39, 1, .iload_n 2, 0, 0, []),
  (40, 3, .invokevirtual 275, 291, 0, [(0, 1228)]),
  (43, 1, .istore_n 3, 0, 0, []),
  (44, 1, .iload_n 3, 0, 0, []),
  (45, 3, .ifCond .le (31), 0, 76, []),
  (48, 1, .aload_n 0, 0, 0, []),
  (49, 3, .getfield 62, 0, 12, [(0, 675)]),
  (52, 1, .aload_n 0, 0, 0, []),
  (53, 3, .getfield 76, 0, 14, [(0, 677)]),
  (56, 3, .getfield 279, 9, 4, [(0, 539)]),
  (59, 3, .invokevirtual 256, 290, 0, [(0, 1109)]),
  (62, 1, .aload_n 0, 0, 0, []),
  (63, 3, .getfield 62, 0, 12, [(0, 675)]),
  (66, 1, .aload_n 0, 0, 0, []),
  (67, 3, .getfield 76, 0, 14, [(0, 677)]),
  (70, 3, .getfield 282, 9, 5, [(0, 541)]),
  (73, 3, .invokevirtual 256, 290, 0, [(0, 1109)]),
  (76, 1, .iload_n 3, 0, 0, []),
  (77, 1, .ireturn, 0, 0, [])]
/-- GravyRound.isWaitingGuest (I)Z -/
def gc_131 : List ga_E := [(0, 1, .aload_n 0, 0, 0, []),
  (1, 1, .iload_n 1, 0, 0, []),
  (2, 3, .invokevirtual 119, 18, 0, [(0, 941)]),
  (5, 3, .ifCond .eq (18), 0, 23, []),
  (8, 1, .aload_n 0, 0, 0, []),
  (9, 3, .getfield 41, 0, 7, [(0, 670)]),
  (12, 1, .iload_n 1, 0, 0, []),
  (13, 3, .invokevirtual 139, 300, 0, [(0, 949)]),
  (16, 3, .ifCond .ne (7), 0, 23, []),
  (19, 1, .iconst 1, 8, 0, []),
  (20, 3, .goto (4), 0, 24, []),
  (23, 1, .iconst 0, 0, 0, []),
  (24, 1, .ireturn, 0, 0, [])]
/-- GravyRound.skin (I)I -/
def gc_132 : List ga_E := [(0, 1, .iload_n 1, 0, 0, []),
  (1, 3, .ifCond .lt (9), 0, 10, []),
  (4, 1, .iload_n 1, 0, 0, []),
  (5, 2, .bipush (99), 792, 0, []),
  (7, 3, .if_icmp .le (5), 0, 12, []),
  (10, 1, .iconst (-1), 34359738360, 0, []),
  (11, 1, .ireturn, 0, 0, []),
  (12, 1, .aload_n 0, 0, 0, []),
  (13, 3, .getfield 45, 0, 8, [(0, 671)]),
  (16, 1, .aload_n 0, 0, 0, []),
  (17, 3, .getfield 41, 0, 7, [(0, 670)]),
  (20, 3, .invokevirtual 208, 20, 0, [(0, 1077)]),
  (23, 1, .iconst 0, 0, 0, []),
  (24, 1, .istore_n 2, 0, 0, []),
  (25, 1, .iload_n 2, 0, 0, []),
  (26, 3, .sipush (200), 1600, 0, []),
  (29, 3, .if_icmp .gt (29), 0, 58, []),
  (32, 1, .aload_n 0, 0, 0, []),
  (33, 3, .getfield 45, 0, 8, [(0, 671)]),
  (36, 3, .getfield 195, 11, 5, [(0, 408)]),
  (39, 1, .iload_n 1, 0, 0, []),
  (40, 3, .if_icmp .ge (5), 0, 45, []),
  (43, 1, .iload_n 2, 0, 0, []),
  (44, 1, .ireturn, 0, 0, []),
  (45, 1, .aload_n 0, 0, 0, []),
  (46, 3, .getfield 45, 0, 8, [(0, 671)]),
  (49, 3, .invokevirtual 269, 5, 0, [(0, 1213)]),
  (52, 3, .iinc 2 (1), 8, 0, []),
  (55, 3, .goto (-30), 0, 25, []),
  (58, 1, .iconst (-1), 34359738360, 0, []),
  (59, 1, .ireturn, 0, 0, [])]
/-- GravyRound.best (II)I -/
def gc_133 : List ga_E := [(0, 1, .aload_n 0, 0, 0, []),
  (1, 1, .iload_n 1, 0, 0, []),
  (2, 3, .invokevirtual 172, 77, 0, [(0, 1012)]),
  (5, 3, .ifCond .eq (12), 0, 17, []),
  (8, 1, .iload_n 2, 0, 0, []),
  (9, 3, .ifCond .lt (8), 0, 17, []),
  (12, 1, .iload_n 2, 0, 0, []),
  (13, 1, .iconst 1, 8, 0, []),
  (14, 3, .if_icmp .le (5), 0, 19, []),
  (17, 1, .iconst (-1), 34359738360, 0, []),
  (18, 1, .ireturn, 0, 0, []),
  (19, 1, .aload_n 0, 0, 0, []),
  (20, 3, .getfield 41, 0, 7, [(0, 670)]),
  (23, 1, .iload_n 1, 0, 0, []),
  (24, 3, .invokevirtual 122, 299, 0, [(0, 945)]),
  (27, 1, .istore_n 3, 0, 0, []),
  (28, 1, .iconst (-1), 34359738360, 0, []),
  (29, 2, .istore 4, 0, 0, []),
  (31, 1, .iconst 0, 0, 0, []),
  (32, 2, .istore 5, 0, 0, []),
  (34, 1, .aload_n 0, 0, 0, []),
  (35, 3, .getfield 45, 0, 8, [(0, 671)]),
  (38, 1, .aload_n 0, 0, 0, []),
  (39, 3, .getfield 41, 0, 7, [(0, 670)]),
  (42, 3, .invokevirtual 208, 20, 0, [(0, 1077)]),
  (45, 1, .aload_n 0, 0, 0, []),
  (46, 3, .getfield 41, 0, 7, [(0, 670)]),
  (49, 3, .getfield 266, 11, 6, [(0, 412)]),
  (52, 1, .iconst 1, 8, 0, []),
  (53, 1, .iadd, 0, 0, []),
  (54, 2, .istore 6, 0, 0, []),
  (56, 2, .iload 6, 0, 0, []),
  (58, 1, .aload_n 0, 0, 0, []),
  (59, 3, .getfield 20, 0, 4, [(0, 667)]),
  (62, 3, .getfield 116, 4, 0, [(0, 200)]),
  (65, 3, .if_icmp .ge (59), 0, 124, []),
  (68, 1, .aload_n 0, 0, 0, []),
  (69, 3, .getfield 45, 0, 8, [(0, 671)]),
  (72, 1, .iload_n 3, 0, 0, []),
  (73, 2, .iload 6, 0, 0, []),
  (75, 3, .invokevirtual 175, 304, 0, [(0, 1016)]),
  (78, 1, .aload_n 0, 0, 0, []),
  (79, 3, .getfield 45, 0, 8, [(0, 671)]),
  (82, 3, .invokevirtual 179, 79, 0, [(0, 1020)]),
  (85, 2, .istore 7, 0, 0, []),
  (87, 1, .aload_n 0, 0, 0, []),
  (88, 3, .getfield 45, 0, 8, [(0, 671)]),
  (91, 1, .iload_n 3, 0, 0, []),
  (92, 2, .iload 6, 0, 0, []),
  (94, 3, .invokevirtual 175, 304, 0, [(0, 1016)]),
  (97, 2, .iload 4, 0, 0, []),
  (99, 1, .iconst (-1), 34359738360, 0, []),
  (100, 3, .if_icmp .eq (10), 0, 110, []),
  (103, 2, .iload 7, 0, 0, []),
  (105, 2, .iload 5, 0, 0, []),
  (107, 3, .if_icmp .ge (11), 0, 118, []),
  (110, 2, .iload 6, 0, 0, []),
  (112, 2, .istore 4, 0, 0, []),
  (114, 2, .iload 7, 0, 0, []),
  (116, 2, .istore 5, 0, 0, []),
  (118, 3, .iinc 6 (1), 8, 0, []),
  (121, 3, .goto (-65), 0, 56, []),
  (124, 1, .iload_n 2, 0, 0, []),
  (125, 3, .ifCond .ne (8), 0, 133, []),
  (128, 2, .iload 4, 0, 0, []),
  (130, 3, .goto (5), 0, 135, []),
  (133, 2, .iload 5, 0, 0, []),
  (135, 1, .ireturn, 0, 0, [])]
/-- GravyRound.limit ()I -/
def gc_134 : List ga_E := [(0, 1, .aload_n 0, 0, 0, []),
  (1, 3, .getfield 41, 0, 7, [(0, 670)]),
  (4, 3, .invokevirtual 160, 3, 0, [(0, 975)]),
  (7, 3, .ifCond .eq (5), 0, 12, []),
  (10, 1, .iconst (-1), 34359738360, 0, []),
  (11, 1, .ireturn, 0, 0, []),
  (12, 2, .bipush (20), 160, 0, []),
  (14, 1, .istore_n 1, 0, 0, []),
  (15, 1, .iload_n 1, 0, 0, []),
  (16, 3, .ifCond .lt (37), 0, 53, []),
  (19, 1, .aload_n 0, 0, 0, []),
  (20, 3, .getfield 76, 0, 14, [(0, 677)]),
  (23, 1, .aload_n 0, 0, 0, []),
  (24, 3, .getfield 41, 0, 7, [(0, 670)]),
  (27, 1, .iload_n 1, 0, 0, []),
  (28, 3, .invokevirtual 259, 72, 0, [(0, 1196)]),
  (31, 1, .aload_n 0, 0, 0, []),
  (32, 3, .getfield 76, 0, 14, [(0, 677)]),
  (35, 1, .aload_n 0, 0, 0, []),
  (36, 3, .getfield 41, 0, 7, [(0, 670)]),
  (39, 3, .invokevirtual 263, 73, 0, [(0, 1201)]),
  (42, 3, .ifCond .le (5), 0, 47, []),
  (45, 1, .iload_n 1, 0, 0, []),
  (46, 1, .ireturn, 0, 0, []),
  (47, 3, .iinc 1 (-1), 34359738360, 0, []),
  (50, 3, .goto (-35), 0, 15, []),
  (53, 1, .iconst (-1), 34359738360, 0, []),
  (54, 1, .ireturn, 0, 0, [])]
/-- GravyRoundModel.limit ()I -/
def gc_135 : List ga_E := [(0, 1, .aload_n 0, 0, 0, []),
  (1, 3, .invokevirtual 358, 2, 0, [(0, 1422)]),
  (4, 3, .ifCond .eq (5), 0, 9, []),
  (7, 1, .iconst (-1), 34359738360, 0, []),
  (8, 1, .ireturn, 0, 0, []),
  (9, 1, .iconst (-1), 34359738360, 0, []),
  (10, 1, .istore_n 1, 0, 0, []),
  (11, 2, .bipush (20), 160, 0, []),
  (13, 1, .istore_n 2, 0, 0, []),
  (14, 1, .iload_n 2, 0, 0, []),
  (15, 3, .ifCond .lt (67), 0, 82, []),
  (18, 1, .iload_n 1, 0, 0, []),
  (19, 3, .ifCond .ge (63), 0, 82, []),
  (22, 1, .aload_n 0, 0, 0, []),
  (23, 3, .invokevirtual 499, 243, 0, [(0, 2051)]),
  (26, 1, .iconst 0, 0, 0, []),
  (27, 1, .istore_n 3, 0, 0, []),
  (28, 1, .iload_n 3, 0, 0, []),
  (29, 1, .aload_n 0, 0, 0, []),
  (30, 3, .invokevirtual 338, 11, 0, [(0, 1399)]),
  (33, 3, .if_icmp .ge (26), 0, 59, []),
  (36, 1, .aload_n 0, 0, 0, []),
  (37, 3, .getfield 94, 1, 41, [(0, 1482)]),
  (40, 1, .iload_n 3, 0, 0, []),
  (41, 1, .iaload, 0, 0, []),
  (42, 1, .iload_n 2, 0, 0, []),
  (43, 3, .if_icmp .le (10), 0, 53, []),
  (46, 1, .aload_n 0, 0, 0, []),
  (47, 3, .getfield 94, 1, 41, [(0, 1482)]),
  (50, 1, .iload_n 3, 0, 0, []),
  (51, 1, .iload_n 2, 0, 0, []),
  (52, 1, .iastore, 0, 0, []),
  (53, 3, .iinc 3 (1), 8, 0, []),
  (56, 3, .goto (-28), 0, 28, []),
  (59, 1, .aload_n 0, 0, 0, []),
  (60, 3, .invokevirtual 439, 29, 0, [(0, 1915)]),
  (63, 1, .aload_n 0, 0, 0, []),
  (64, 3, .invokevirtual 502, 244, 0, [(0, 2055)]),
  (67, 3, .ifCond .le (5), 0, 72, []),
  (70, 1, .iload_n 2, 0, 0, []),
  (71, 1, .istore_n 1, 0, 0, []),
  (72, 1, .aload_n 0, 0, 0, []),
  (73, 3, .invokevirtual 442, 25, 0, [(0, 1919)]),
  (76, 3, .iinc 2 (-1), 34359738360, 0, []),
  (79, 3, .goto (-65), 0, 14, []),
  (82, 1, .aload_n 0, 0, 0, []),
  (83, 1, .iconst 0, 0, 0, []),
  (84, 3, .putfield 367, 1, 44, [(1, 1485)]),
  (87, 1, .iload_n 1, 0, 0, []),
  (88, 1, .ireturn, 0, 0, [])]
/-- GravyRound.tables ()I -/
def gc_136 : List ga_E := [(0, 1, .aload_n 0, 0, 0, []),
  (1, 3, .getfield 83, 0, 15, [(0, 678)]),
  (4, 1, .aload_n 0, 0, 0, []),
  (5, 3, .getfield 41, 0, 7, [(0, 670)]),
  (8, 3, .invokevirtual 244, 50, 0, [(0, 1163)]),
  (11, 1, .aload_n 0, 0, 0, []),
  (12, 3, .getfield 83, 0, 15, [(0, 678)]),
  (15, 3, .invokevirtual 250, 137, 0, [(0, 1181)]),
  (18, 1, .istore_n 1, 0, 0, []),
  (19, 1, .aload_n 0, 0, 0, []),
  (20, 3, .getfield 62, 0, 12, [(0, 675)]),
  (23, 3, .invokevirtual 210, 23, 0, [(0, 659)]),
  (26, 1, .iconst 0, 0, 0, []),
  (27, 1, .istore_n 2, 0, 0, []),
  (28, 1, .iload_n 2, 0, 0, []),
  (29, 1, .aload_n 0, 0, 0, []),
  (30, 3, .getfield 20, 0, 4, [(0, 667)]),
  (33, 3, .getfield 116, 4, 0, [(0, 200)]),
  (36, 3, .if_icmp .ge (25), 0, 61, []),
  (39, 1, .aload_n 0, 0, 0, []),
  (40, 3, .getfield 62, 0, 12, [(0, 675)]),
  (43, 1, .aload_n 0, 0, 0, []),
  (44, 3, .getfield 83, 0, 15, [(0, 678)]),
  (47, 3, .getfield 253, 3, 2, [(0, 564)]),
  (50, 1, .iload_n 2, 0, 0, []),
  (51, 1, .iaload, 0, 0, []),
  (52, 3, .invokevirtual 256, 290, 0, [(0, 1109)]),
  (55, 3, .iinc 2 (1), 8, 0, []),
  (58, 3, .goto (-30), 0, 28, []),
  (61, 1, .iload_n 1, 0, 0, []),
  (62, 1, .ireturn, 0, 0, [])]
/-- GravyRound$Company.fewestTables ()I -/
def gc_137 : List ga_E := [(0, 1, .iconst 0, 0, 0, []),
  (1, 1, .istore_n 1, 0, 0, []),
  (2, 1, .iload_n 1, 0, 0, []),
  (3, 1, .aload_n 0, 0, 0, []),
  (4, 3, .getfield 30, 3, 1, [(0, 562)]),
  (7, 3, .if_icmp .ge (20), 0, 27, []),
  (10, 1, .aload_n 0, 0, 0, []),
  (11, 1, .iconst 0, 0, 0, []),
  (12, 1, .iload_n 1, 0, 0, []),
  (13, 3, .invokestatic 44, 138, 0, [(0, 1185)]),
  (16, 3, .ifCond .eq (5), 0, 21, []),
  (19, 1, .iload_n 1, 0, 0, []),
  (20, 1, .ireturn, 0, 0, []),
  (21, 3, .iinc 1 (1), 8, 0, []),
  (24, 3, .goto (-22), 0, 2, []),
  (27, 1, .aload_n 0, 0, 0, []),
  (28, 1, .iconst 0, 0, 0, []),
  (29, 1, .aload_n 0, 0, 0, []),
  (30, 3, .getfield 30, 3, 1, [(0, 562)]),
  (33, 3, .invokestatic 44, 138, 0, [(0, 1185)]),
  (36, 1, .pop, 0, 0, []),
  (37, 1, .aload_n 0, 0, 0, []),
  (38, 3, .getfield 30, 3, 1, [(0, 562)]),
  (41, 1, .ireturn, 0, 0, [])]
/-- GravyRound$Company.canSit (LGravyRound$Company;II)Z -/
def gc_138 : List ga_E := [(0, 1, .iload_n 1, 0, 0, []),
  (1, 1, .aload_n 0, 0, 0, []),
  (2, 3, .getfield 30, 3, 1, [(0, 562)]),
  (5, 3, .if_icmp .lt (5), 0, 10, []),
  (8, 1, .iconst 1, 8, 0, []),
  (9, 1, .ireturn, 0, 0, []),
  (10, 1, .iconst 0, 0, 0, []),
  (11, 1, .istore_n 3, 0, 0, []),
  (12, 1, .iload_n 3, 0, 0, []),
  (13, 1, .iload_n 2, 0, 0, []),
  (14, 3, .if_icmp .ge (37), 0, 51, []),
  (17, 1, .aload_n 0, 0, 0, []),
  (18, 3, .getfield 15, 3, 2, [(0, 563)]),
  (21, 1, .iload_n 1, 0, 0, []),
  (22, 1, .iload_n 3, 0, 0, []),
  (23, 1, .iastore, 0, 0, []),
  (24, 1, .aload_n 0, 0, 0, []),
  (25, 1, .iload_n 1, 0, 0, []),
  (26, 3, .invokevirtual 48, 250, 0, [(0, 1188)]),
  (29, 3, .ifCond .eq (16), 0, 45, []),
  (32, 1, .aload_n 0, 0, 0, []),
  (33, 1, .iload_n 1, 0, 0, []),
  (34, 1, .iconst 1, 8, 0, []),
  (35, 1, .iadd, 0, 0, []),
  (36, 1, .iload_n 2, 0, 0, []),
  (37, 3, .invokestatic 44, 138, 0, [(0, 1185)]),
  (40, 3, .ifCond .eq (5), 0, 45, []),
  (43, 1, .iconst 1, 8, 0, []),
  (44, 1, .ireturn, 0, 0, []),
  (45, 3, .iinc 3 (1), 8, 0, []),
  (48, 3, .goto (-36), 0, 12, []),
  (51, 1, .iconst 0, 0, 0, []),
  (52, 1, .ireturn, 0, 0, [])]
/-- GravyRoundModel.tables ()I -/
def gc_139 : List ga_E := [(0, 1, .aload_n 0, 0, 0, []),
  (1, 1, .aload_n 0, 0, 0, []),
  (2, 3, .invokevirtual 338, 11, 0, [(0, 1399)]),
  (5, 3, .putfield 389, 1, 51, [(0, 1492)]),
  (8, 1, .iconst 0, 0, 0, []),
  (9, 1, .istore_n 1, 0, 0, []),
  (10, 1, .aload_n 0, 0, 0, []),
  (11, 1, .iload_n 1, 0, 0, []),
  (12, 3, .invokevirtual 487, 140, 0, [(0, 2023)]),
  (15, 3, .ifCond .ne (9), 0, 24, []),
  (18, 3, .iinc 1 (1), 8, 0, []),
  (21, 3, .goto (-11), 0, 10, []),
  (24, 1, .iload_n 1, 0, 0, []),
  (25, 1, .ireturn, 0, 0, [])]
/-- GravyRoundModel.canSeat (I)Z -/
def gc_140 : List ga_E := [(0, 1, .iconst 0, 0, 0, []),
  (1, 1, .istore_n 2, 0, 0, []),
  (2, 1, .iconst 0, 0, 0, []),
  (3, 1, .istore_n 3, 0, 0, []),
  (4, 1, .iload_n 3, 0, 0, []),
  (5, 1, .aload_n 0, 0, 0, []),
  (6, 3, .invokevirtual 338, 11, 0, [(0, 1399)]),
  (9, 3, .if_icmp .ge (16), 0, 25, []),
  (12, 1, .aload_n 0, 0, 0, []),
  (13, 3, .getfield 106, 1, 48, [(0, 1489)]),
  (16, 1, .iload_n 3, 0, 0, []),
  (17, 1, .iconst (-1), 34359738360, 0, []),
  (18, 1, .iastore, 0, 0, []),
  (19, 3, .iinc 3 (1), 8, 0, []),
  (22, 3, .goto (-18), 0, 4, []),
  (25, 1, .iload_n 2, 0, 0, []),
  (26, 3, .ifCond .lt (58), 0, 84, []),
  (29, 1, .iload_n 2, 0, 0, []),
  (30, 1, .aload_n 0, 0, 0, []),
  (31, 3, .invokevirtual 338, 11, 0, [(0, 1399)]),
  (34, 3, .if_icmp .ge (50), 0, 84, []),
  (37, 1, .aload_n 0, 0, 0, []),
  (38, 3, .getfield 106, 1, 48, [(0, 1489)]),
  (41, 1, .iload_n 2, 0, 0, []),
  (42, 1, .dup2, 0, 0, []),
  (43, 1, .iaload, 0, 0, []),
  (44, 1, .iconst 1, 8, 0, []),
  (45, 1, .iadd, 0, 0, []),
  (46, 1, .iastore, 0, 0, []),
  (47, 1, .aload_n 0, 0, 0, []),
  (48, 3, .getfield 106, 1, 48, [(0, 1489)]),
  (51, 1, .iload_n 2, 0, 0, []),
  (52, 1, .iaload, 0, 0, []),
  (53, 1, .iload_n 1, 0, 0, []),
  (54, 3, .if_icmp .lt (16), 0, 70, []),
  (57, 1, .aload_n 0, 0, 0, []),
  (58, 3, .getfield 106, 1, 48, [(0, 1489)]),
  (61, 1, .iload_n 2, 0, 0, []),
  (62, 1, .iconst (-1), 34359738360, 0, []),
  (63, 1, .iastore, 0, 0, []),
  (64, 3, .iinc 2 (-1), 34359738360, 0, []),
  (67, 3, .goto (-42), 0, 25, []),
  (70, 1, .aload_n 0, 0, 0, []),
  (71, 1, .iload_n 2, 0, 0, []),
  (72, 3, .invokevirtual 490, 240, 0, [(0, 2027)]),
  (75, 3, .ifCond .eq (-50), 0, 25, []),
  (78, 3, .iinc 2 (1), 8, 0, []),
  (81, 3, .goto (-56), 0, 25, []),
  (84, 1, .iload_n 2, 0, 0, []),
  (85, 3, .ifCond .lt (7), 0, 92, []),
  (88, 1, .iconst 1, 8, 0, []),
  (89, 3, .goto (4), 0, 93, []),
  (92, 1, .iconst 0, 0, 0, []),
  (93, 1, .ireturn, 0, 0, [])]
/-- GravyRound.leave (I)I -/
def gc_141 : List ga_E := [(0, 1, .iload_n 1, 0, 0, []),
  (1, 3, .ifCond .lt (8), 0, 9, []),
  (4, 1, .iload_n 1, 0, 0, []),
  (5, 1, .iconst 1, 8, 0, []),
  (6, 3, .if_icmp .le (5), 0, 11, []),
  (9, 1, .iconst (-1), 34359738360, 0, []),
  (10, 1, .ireturn, 0, 0, []),
  (11, 1, .aload_n 0, 0, 0, []),
  (12, 3, .getfield 83, 0, 15, [(0, 678)]),
  (15, 1, .aload_n 0, 0, 0, []),
  (16, 3, .getfield 41, 0, 7, [(0, 670)]),
  (19, 3, .invokevirtual 244, 50, 0, [(0, 1163)]),
  (22, 1, .aload_n 0, 0, 0, []),
  (23, 3, .getfield 83, 0, 15, [(0, 678)]),
  (26, 3, .invokevirtual 247, 142, 0, [(0, 1168)]),
  (29, 1, .istore_n 2, 0, 0, []),
  (30, 1, .iload_n 1, 0, 0, []),
  (31, 3, .ifCond .ne (10), 0, 41, []),
  (34, 1, .iload_n 2, 0, 0, []),
  (35, 3, .invokestatic 239, 27, 0, [(0, 1153)]),
  (38, 3, .goto (4), 0, 42, []),
  (41, 1, .iload_n 2, 0, 0, []),
  (42, 1, .ireturn, 0, 0, [])]
/-- GravyRound$Company.fewestToLeave ()I -/
def gc_142 : List ga_E := [(0, 1, .iconst 1, 8, 0, []),
  (1, 1, .aload_n 0, 0, 0, []),
  (2, 3, .getfield 30, 3, 1, [(0, 562)]),
  (5, 1, .ishl, 0, 0, []),
  (6, 1, .iconst 1, 8, 0, []),
  (7, 1, .isub, 0, 0, []),
  (8, 1, .istore_n 1, 0, 0, []),
  (9, 1, .iload_n 1, 0, 0, []),
  (10, 1, .istore_n 2, 0, 0, []),
  (11, 1, .iconst 0, 0, 0, []),
  (12, 1, .istore_n 3, 0, 0, []),
  (13, 1, .iload_n 3, 0, 0, []),
  (14, 1, .iload_n 1, 0, 0, []),
  (15, 3, .if_icmp .gt (30), 0, 45, []),
  (18, 1, .iload_n 3, 0, 0, []),
  (19, 3, .invokestatic 35, 27, 0, [(0, 1172)]),
  (22, 1, .iload_n 2, 0, 0, []),
  (23, 3, .invokestatic 35, 27, 0, [(0, 1172)]),
  (26, 3, .if_icmp .ge (13), 0, 39, []),
  (29, 1, .aload_n 0, 0, 0, []),
  (30, 1, .iload_n 3, 0, 0, []),
  (31, 3, .invokevirtual 40, 249, 0, [(0, 1173)]),
  (34, 3, .ifCond .eq (5), 0, 39, []),
  (37, 1, .iload_n 3, 0, 0, []),
  (38, 1, .istore_n 2, 0, 0, []),
  (39, 3, .iinc 3 (1), 8, 0, []),
  (42, 3, .goto (-29), 0, 13, []),
  (45, 1, .iload_n 2, 0, 0, []),
  (46, 1, .ireturn, 0, 0, [])]
/-- GravyRound.treaty (II)I -/
def gc_143 : List ga_E := [(0, 1, .iload_n 1, 0, 0, []),
  (1, 3, .ifCond .lt (19), 0, 20, []),
  (4, 1, .iload_n 1, 0, 0, []),
  (5, 3, .sipush (200), 1600, 0, []),
  (8, 3, .if_icmp .gt (12), 0, 20, []),
  (11, 1, .iload_n 2, 0, 0, []),
  (12, 3, .ifCond .lt (8), 0, 20, []),
  (15, 1, .iload_n 2, 0, 0, []),
  (16, 1, .iconst 1, 8, 0, []),
  (17, 3, .if_icmp .le (5), 0, 22, []),
  (20, 1, .iconst (-1), 34359738360, 0, []),
  (21, 1, .ireturn, 0, 0, []),
  (22, 1, .aload_n 0, 0, 0, []),
  (23, 3, .getfield 41, 0, 7, [(0, 670)]),
  (26, 3, .invokevirtual 179, 79, 0, [(0, 1020)]),
  (29, 1, .iload_n 1, 0, 0, []),
  (30, 1, .isub, 0, 0, []),
  (31, 1, .istore_n 3, 0, 0, []),
  (32, 1, .iconst 0, 0, 0, []),
  (33, 2, .istore 4, 0, 0, []),
  (35, 1, .iconst 0, 0, 0, []),
  (36, 2, .istore 5, 0, 0, []),
  (38, 2, .iload 5, 0, 0, []),
  (40, 1, .aload_n 0, 0, 0, []),
  (41, 3, .getfield 20, 0, 4, [(0, 667)]),
  (44, 3, .getfield 233, 4, 4, [(0, 214)]),
  (47, 3, .if_icmp .ge (41), 0, 88, []),
  (50, 1, .iload_n 3, 0, 0, []),
  (51, 3, .ifCond .le (37), 0, 88, []),
  (54, 1, .aload_n 0, 0, 0, []),
  (55, 2, .iload 5, 0, 0, []),
  (57, 3, .invokevirtual 236, 185, 0, [(0, 1146)]),
  (60, 3, .ifCond .eq (22), 0, 82, []),
  (63, 2, .iload 4, 0, 0, []),
  (65, 1, .iconst 1, 8, 0, []),
  (66, 2, .iload 5, 0, 0, []),
  (68, 1, .ishl, 0, 0, []),
  (69, 1, .ior, 0, 0, []),
  (70, 2, .istore 4, 0, 0, []),
  (72, 1, .iload_n 3, 0, 0, []),
  (73, 1, .aload_n 0, 0, 0, []),
  (74, 3, .getfield 20, 0, 4, [(0, 667)]),
  (77, 3, .getfield 213, 4, 9, [(0, 230)]),
  (80, 1, .isub, 0, 0, []),
  (81, 1, .istore_n 3, 0, 0, []),
  (82, 3, .iinc 5 (1), 8, 0, []),
  (85, 3, .goto (-47), 0, 38, []),
  (88, 1, .iload_n 3, 0, 0, []),
  (89, 3, .ifCond .le (5), 0, 94, []),
  (92, 1, .iconst (-1), 34359738360, 0, []),
  (93, 1, .ireturn, 0, 0, []),
  (94, 1, .iload_n 2, 0, 0, []),
  (95, 3, .ifCond .ne (11), 0, 106, []),
  (98, 2, .iload 4, 0, 0, []),
  (100, 3, .invokestatic 239, 27, 0, [(0, 1153)]),
  (103, 3, .goto (5), 0, 108, []),
  (106, 2, .iload 4, 0, 0, []),
  (108, 1, .ireturn, 0, 0, [])]
/-- GravyRound.peace ()I -/
def gc_144 : List ga_E := [(0, 1, .aload_n 0, 0, 0, []),
  (1, 3, .getfield 41, 0, 7, [(0, 670)]),
  (4, 3, .invokevirtual 160, 3, 0, [(0, 975)]),
  (7, 3, .ifCond .eq (7), 0, 14, []),
  (10, 1, .iconst 0, 0, 0, []),
  (11, 3, .goto (15), 0, 26, []),
  (14, 1, .aload_n 0, 0, 0, []),
  (15, 3, .getfield 69, 0, 13, [(0, 676)]),
  (18, 1, .aload_n 0, 0, 0, []),
  (19, 3, .getfield 41, 0, 7, [(0, 670)]),
  (22, 1, .iconst 1, 8, 0, []),
  (23, 3, .invokevirtual 216, 260, 0, [(0, 1082)]),
  (26, 1, .ireturn, 0, 0, [])]
/-- GravyRoundModel.peace ()I -/
def gc_145 : List ga_E := [(0, 1, .aload_n 0, 0, 0, []),
  (1, 3, .invokevirtual 358, 2, 0, [(0, 1422)]),
  (4, 3, .ifCond .eq (7), 0, 11, []),
  (7, 1, .iconst 0, 0, 0, []),
  (8, 3, .goto (9), 0, 17, []),
  (11, 1, .aload_n 0, 0, 0, []),
  (12, 1, .iconst 2, 16, 0, []),
  (13, 3, .invokevirtual 474, 238, 0, [(0, 1951)]),
  (16, 1, .ineg, 0, 0, []),
  (17, 1, .ireturn, 0, 0, [])]
/-- GravyRound.warmest ()I -/
def gc_146 : List ga_E := [(0, 1, .aload_n 0, 0, 0, []),
  (1, 3, .getfield 62, 0, 12, [(0, 675)]),
  (4, 3, .invokevirtual 210, 23, 0, [(0, 659)]),
  (7, 1, .aload_n 0, 0, 0, []),
  (8, 3, .getfield 41, 0, 7, [(0, 670)]),
  (11, 3, .invokevirtual 160, 3, 0, [(0, 975)]),
  (14, 3, .ifCond .eq (11), 0, 25, []),
  (17, 1, .aload_n 0, 0, 0, []),
  (18, 3, .getfield 41, 0, 7, [(0, 670)]),
  (21, 3, .getfield 195, 11, 5, [(0, 408)]),
  (24, 1, .ireturn, 0, 0, []),
  (25, 1, .aload_n 0, 0, 0, []),
  (26, 3, .getfield 69, 0, 13, [(0, 676)]),
  (29, 1, .aload_n 0, 0, 0, []),
  (30, 3, .getfield 41, 0, 7, [(0, 670)]),
  (33, 3, .invokevirtual 229, 261, 0, [(0, 1121)]),
  (36, 1, .istore_n 1, 0, 0, []),
  (37, 1, .aload_n 0, 0, 0, []),
  (38, 3, .invokevirtual 220, 186, 0, [(0, 1105)]),
  (41, 1, .iload_n 1, 0, 0, []),
  (42, 1, .ireturn, 0, 0, [])]
/-- GravyRoundModel.warmest ()I -/
def gc_147 : List ga_E := [(0, 1, .aload_n 0, 0, 0, []),
  (1, 1, .iconst 0, 0, 0, []),
  (2, 3, .putfield 389, 1, 51, [(0, 1492)]),
  (5, 1, .aload_n 0, 0, 0, []),
  (6, 3, .invokevirtual 358, 2, 0, [(0, 1422)]),
  (9, 3, .ifCond .eq (11), 0, 20, []),
  (12, 1, .aload_n 0, 0, 0, []),
  (13, 3, .getfield 85, 1, 38, [(0, 1479)]),
  (16, 2, .bipush (23), 184, 0, []),
  (18, 1, .iaload, 0, 0, []),
  (19, 1, .ireturn, 0, 0, []),
  (20, 1, .aload_n 0, 0, 0, []),
  (21, 1, .iconst 1, 8, 0, []),
  (22, 3, .invokevirtual 474, 238, 0, [(0, 1951)]),
  (25, 1, .istore_n 1, 0, 0, []),
  (26, 1, .aload_n 0, 0, 0, []),
  (27, 3, .invokevirtual 477, 239, 0, [(0, 1988)]),
  (30, 1, .iload_n 1, 0, 0, []),
  (31, 1, .ireturn, 0, 0, [])]
/-- GravyRound.soonest ()I -/
def gc_148 : List ga_E := [(0, 1, .aload_n 0, 0, 0, []),
  (1, 3, .getfield 62, 0, 12, [(0, 675)]),
  (4, 3, .invokevirtual 210, 23, 0, [(0, 659)]),
  (7, 1, .aload_n 0, 0, 0, []),
  (8, 3, .getfield 41, 0, 7, [(0, 670)]),
  (11, 3, .invokevirtual 160, 3, 0, [(0, 975)]),
  (14, 3, .ifCond .eq (5), 0, 19, []),
  (17, 1, .iconst 0, 0, 0, []),
  (18, 1, .ireturn, 0, 0, []),
  (19, 1, .aload_n 0, 0, 0, []),
  (20, 3, .getfield 69, 0, 13, [(0, 676)]),
  (23, 1, .aload_n 0, 0, 0, []),
  (24, 3, .getfield 41, 0, 7, [(0, 670)]),
  (27, 1, .aload_n 0, 0, 0, []),
  (28, 3, .getfield 20, 0, 4, [(0, 667)]),
  (31, 3, .getfield 213, 4, 9, [(0, 230)]),
  (34, 3, .invokevirtual 216, 260, 0, [(0, 1082)]),
  (37, 1, .istore_n 1, 0, 0, []),
  (38, 1, .aload_n 0, 0, 0, []),
  (39, 3, .invokevirtual 220, 186, 0, [(0, 1105)]),
  (42, 1, .aload_n 0, 0, 0, []),
  (43, 3, .getfield 41, 0, 7, [(0, 670)]),
  (46, 3, .getfield 223, 11, 7, [(0, 415)]),
  (49, 1, .aload_n 0, 0, 0, []),
  (50, 3, .getfield 41, 0, 7, [(0, 670)]),
  (53, 3, .invokevirtual 226, 303, 0, [(0, 1113)]),
  (56, 1, .iadd, 0, 0, []),
  (57, 1, .iload_n 1, 0, 0, []),
  (58, 1, .iadd, 0, 0, []),
  (59, 1, .ireturn, 0, 0, [])]
/-- GravyRoundModel.soonest ()I -/
def gc_149 : List ga_E := [(0, 1, .aload_n 0, 0, 0, []),
  (1, 1, .iconst 0, 0, 0, []),
  (2, 3, .putfield 389, 1, 51, [(0, 1492)]),
  (5, 1, .aload_n 0, 0, 0, []),
  (6, 3, .invokevirtual 358, 2, 0, [(0, 1422)]),
  (9, 3, .ifCond .eq (5), 0, 14, []),
  (12, 1, .iconst 0, 0, 0, []),
  (13, 1, .ireturn, 0, 0, []),
  (14, 1, .aload_n 0, 0, 0, []),
  (15, 1, .iconst 0, 0, 0, []),
  (16, 3, .invokevirtual 474, 238, 0, [(0, 1951)]),
  (19, 1, .ineg, 0, 0, []),
  (20, 1, .istore_n 1, 0, 0, []),
  (21, 1, .aload_n 0, 0, 0, []),
  (22, 3, .invokevirtual 477, 239, 0, [(0, 1988)]),
  (25, 1, .iload_n 1, 0, 0, []),
  (26, 1, .ireturn, 0, 0, [])]
/-- GravyRound.will (III)I -/
def gc_150 : List ga_E := [(0, 1, .aload_n 0, 0, 0, []),
  (1, 1, .iload_n 1, 0, 0, []),
  (2, 3, .invokevirtual 119, 18, 0, [(0, 941)]),
  (5, 3, .ifCond .eq (21), 0, 26, []),
  (8, 1, .iload_n 2, 0, 0, []),
  (9, 3, .ifCond .lt (17), 0, 26, []),
  (12, 1, .iload_n 2, 0, 0, []),
  (13, 1, .iconst 2, 16, 0, []),
  (14, 3, .if_icmp .gt (12), 0, 26, []),
  (17, 1, .iload_n 3, 0, 0, []),
  (18, 3, .ifCond .lt (8), 0, 26, []),
  (21, 1, .iload_n 3, 0, 0, []),
  (22, 1, .iconst 1, 8, 0, []),
  (23, 3, .if_icmp .le (5), 0, 28, []),
  (26, 1, .iconst (-1), 34359738360, 0, []),
  (27, 1, .ireturn, 0, 0, []),
  (28, 1, .aload_n 0, 0, 0, []),
  (29, 3, .getfield 45, 0, 8, [(0, 671)]),
  (32, 1, .aload_n 0, 0, 0, []),
  (33, 3, .getfield 41, 0, 7, [(0, 670)]),
  (36, 3, .invokevirtual 208, 20, 0, [(0, 1077)]),
  (39, 1, .iconst 0, 0, 0, []),
  (40, 2, .istore 4, 0, 0, []),
  (42, 1, .iconst 1, 8, 0, []),
  (43, 2, .istore 5, 0, 0, []),
  (45, 2, .iload 5, 0, 0, []),
  (47, 3, .sipush (200), 1600, 0, []),
  (50, 3, .if_icmp .gt (44), 0, 94, []),
  (53, 1, .aload_n 0, 0, 0, []),
  (54, 3, .getfield 45, 0, 8, [(0, 671)]),
  (57, 3, .invokevirtual 160, 3, 0, [(0, 975)]),
  (60, 3, .ifCond .ne (34), 0, 94, []),
  (63, 1, .aload_n 0, 0, 0, []),
  (64, 3, .getfield 45, 0, 8, [(0, 671)]),
  (67, 1, .iload_n 3, 0, 0, []),
  (68, 1, .iconst 1, 8, 0, []),
  (69, 3, .if_icmp .ne (7), 0, 76, []),
  (72, 1, .iconst 1, 8, 0, []),
  (73, 3, .goto (4), 0, 77, []),
  (76, 1, .iconst 0, 0, 0, []),
  (77, 3, .invokevirtual 164, 305, 0, [(0, 979)]),
  (80, 1, .iload_n 1, 0, 0, []),
  (81, 3, .if_icmp .ne (7), 0, 88, []),
  (84, 2, .iload 5, 0, 0, []),
  (86, 2, .istore 4, 0, 0, []),
  (88, 3, .iinc 5 (1), 8, 0, []),
  (91, 3, .goto (-46), 0, 45, []),
  (94, 1, .iload_n 2, 0, 0, []),
  (95, 25, .lookupswitch (45) #[(0, 25), (1, 35)], 0, 140, [(0, 120), (8, 130)]),
  (120, 1, .aload_n 0, 0, 0, []),
  (121, 3, .getfield 45, 0, 8, [(0, 671)]),
  (124, 3, .getfield 133, 11, 2, [(0, 399)]),
  (127, 1, .iload_n 1, 0, 0, []),
  (128, 1, .iaload, 0, 0, []),
  (129, 1, .ireturn, 0, 0, []),
  (130, 1, .aload_n 0, 0, 0, []),
  (131, 3, .getfield 45, 0, 8, [(0, 671)]),
  (134, 3, .getfield 136, 11, 3, [(0, 401)]),
  (137, 1, .iload_n 1, 0, 0, []),
  (138, 1, .iaload, 0, 0, []),
  (139, 1, .ireturn, 0, 0, []),
  (140, 2, .iload 4, 0, 0, []),
  (142, 1, .ireturn, 0, 0, [])]
/-- GravyRound.stands (I)I -/
def gc_151 : List ga_E := [(0, 1, .iload_n 1, 0, 0, []),
  (1, 3, .ifCond .lt (10), 0, 11, []),
  (4, 1, .iload_n 1, 0, 0, []),
  (5, 3, .sipush (200), 1600, 0, []),
  (8, 3, .if_icmp .le (7), 0, 15, []),
  (11, 1, .iconst (-1), 34359738360, 0, []),
  (12, 3, .goto (11), 0, 23, []),
  (15, 1, .aload_n 0, 0, 0, []),
  (16, 3, .getfield 41, 0, 7, [(0, 670)]),
  (19, 1, .iload_n 1, 0, 0, []),
  (20, 3, .invokevirtual 205, 152, 0, [(0, 1069)]),
  (23, 1, .ireturn, 0, 0, [])]
/-- GravyRound$Table.seatBehind (I)I -/
def gc_152 : List ga_E := [(0, 1, .iload_n 1, 0, 0, []),
  (1, 1, .aload_n 0, 0, 0, []),
  (2, 3, .getfield 61, 11, 7, [(0, 414)]),
  (5, 1, .isub, 0, 0, []),
  (6, 1, .istore_n 2, 0, 0, []),
  (7, 1, .aload_n 0, 0, 0, []),
  (8, 3, .getfield 58, 11, 6, [(0, 411)]),
  (11, 1, .istore_n 3, 0, 0, []),
  (12, 1, .iload_n 3, 0, 0, []),
  (13, 1, .aload_n 0, 0, 0, []),
  (14, 3, .getfield 21, 11, 0, [(0, 390)]),
  (17, 3, .getfield 64, 4, 0, [(0, 198)]),
  (20, 3, .if_icmp .ge (25), 0, 45, []),
  (23, 1, .iload_n 2, 0, 0, []),
  (24, 3, .ifCond .ge (5), 0, 29, []),
  (27, 1, .iload_n 3, 0, 0, []),
  (28, 1, .ireturn, 0, 0, []),
  (29, 1, .iload_n 2, 0, 0, []),
  (30, 1, .aload_n 0, 0, 0, []),
  (31, 1, .iload_n 3, 0, 0, []),
  (32, 1, .iconst 1, 8, 0, []),
  (33, 1, .iadd, 0, 0, []),
  (34, 3, .invokevirtual 83, 63, 0, [(0, 624)]),
  (37, 1, .isub, 0, 0, []),
  (38, 1, .istore_n 2, 0, 0, []),
  (39, 3, .iinc 3 (1), 8, 0, []),
  (42, 3, .goto (-30), 0, 12, []),
  (45, 1, .iconst (-1), 34359738360, 0, []),
  (46, 1, .ireturn, 0, 0, [])]
/-- GravyRound.round ()I -/
def gc_153 : List ga_E := [(0, 1, .aload_n 0, 0, 0, []),
  (1, 3, .getfield 41, 0, 7, [(0, 670)]),
  (4, 3, .invokevirtual 179, 79, 0, [(0, 1020)]),
  (7, 1, .ireturn, 0, 0, [])]
/-- GravyRoundModel.round ()I -/
def gc_154 : List ga_E := [(0, 1, .aload_n 0, 0, 0, []),
  (1, 3, .invokevirtual 420, 28, 0, [(0, 1806)]),
  (4, 1, .ireturn, 0, 0, [])]
/-- GravyRound.redo ()Z -/
def gc_155 : List ga_E := [(0, 1, .aload_n 0, 0, 0, []),
  (1, 3, .getfield 51, 0, 9, [(0, 672)]),
  (4, 1, .aload_n 0, 0, 0, []),
  (5, 3, .getfield 41, 0, 7, [(0, 670)]),
  (8, 3, .invokevirtual 202, 156, 0, [(0, 1057)]),
  (11, 1, .ireturn, 0, 0, [])]
/-- GravyRound$Acts.goOn (LGravyRound$Table;)Z -/
def gc_156 : List ga_E := [(0, 1, .aload_n 0, 0, 0, []),
  (1, 3, .getfield 24, 2, 2, [(0, 457)]),
  (4, 1, .aload_n 0, 0, 0, []),
  (5, 3, .getfield 27, 2, 3, [(0, 459)]),
  (8, 3, .if_icmp .lt (5), 0, 13, []),
  (11, 1, .iconst 0, 0, 0, []),
  (12, 1, .ireturn, 0, 0, []),
  (13, 1, .aload_n 0, 0, 0, []),
  (14, 1, .dup, 0, 0, []),
  (15, 3, .getfield 24, 2, 2, [(0, 457)]),
  (18, 1, .iconst 1, 8, 0, []),
  (19, 1, .iadd, 0, 0, []),
  (20, 3, .putfield 24, 2, 2, [(0, 457)]),
  (23, 1, .aload_n 1, 0, 0, []),
  (24, 1, .aload_n 0, 0, 0, []),
  (25, 1, .aload_n 0, 0, 0, []),
  (26, 3, .getfield 24, 2, 2, [(0, 457)]),
  (29, 3, .invokevirtual 30, 34, 0, [(0, 640)]),
  (32, 3, .invokevirtual 34, 20, 0, [(0, 647)]),
  (35, 1, .iconst 1, 8, 0, []),
  (36, 1, .ireturn, 0, 0, [])]
/-- GravyRoundModel.redo ()Z -/
def gc_157 : List ga_E := [(0, 1, .aload_n 0, 0, 0, []),
  (1, 3, .getfield 383, 1, 47, [(0, 1488)]),
  (4, 3, .ifCond .ne (5), 0, 9, []),
  (7, 1, .iconst 0, 0, 0, []),
  (8, 1, .ireturn, 0, 0, []),
  (9, 1, .aload_n 0, 0, 0, []),
  (10, 3, .invokevirtual 436, 228, 0, [(0, 1903)]),
  (13, 1, .aload_n 0, 0, 0, []),
  (14, 1, .dup, 0, 0, []),
  (15, 3, .getfield 380, 1, 46, [(0, 1487)]),
  (18, 1, .iconst 1, 8, 0, []),
  (19, 1, .iadd, 0, 0, []),
  (20, 3, .putfield 380, 1, 46, [(0, 1487)]),
  (23, 1, .aload_n 0, 0, 0, []),
  (24, 1, .dup, 0, 0, []),
  (25, 3, .getfield 383, 1, 47, [(0, 1488)]),
  (28, 1, .iconst 1, 8, 0, []),
  (29, 1, .isub, 0, 0, []),
  (30, 3, .putfield 383, 1, 47, [(0, 1488)]),
  (33, 1, .iconst 1, 8, 0, []),
  (34, 1, .ireturn, 0, 0, [])]
/-- GravyRound.undo ()Z -/
def gc_158 : List ga_E := [(0, 1, .aload_n 0, 0, 0, []),
  (1, 3, .getfield 51, 0, 9, [(0, 672)]),
  (4, 1, .aload_n 0, 0, 0, []),
  (5, 3, .getfield 41, 0, 7, [(0, 670)]),
  (8, 3, .invokevirtual 198, 159, 0, [(0, 1049)]),
  (11, 1, .ireturn, 0, 0, [])]
/-- GravyRound$Acts.goBack (LGravyRound$Table;)Z -/
def gc_159 : List ga_E := [(0, 1, .aload_n 0, 0, 0, []),
  (1, 3, .getfield 24, 2, 2, [(0, 457)]),
  (4, 3, .ifCond .gt (5), 0, 9, []),
  (7, 1, .iconst 0, 0, 0, []),
  (8, 1, .ireturn, 0, 0, []),
  (9, 1, .aload_n 0, 0, 0, []),
  (10, 1, .dup, 0, 0, []),
  (11, 3, .getfield 24, 2, 2, [(0, 457)]),
  (14, 1, .iconst 1, 8, 0, []),
  (15, 1, .isub, 0, 0, []),
  (16, 3, .putfield 24, 2, 2, [(0, 457)]),
  (19, 1, .aload_n 1, 0, 0, []),
  (20, 1, .aload_n 0, 0, 0, []),
  (21, 1, .aload_n 0, 0, 0, []),
  (22, 3, .getfield 24, 2, 2, [(0, 457)]),
  (25, 3, .invokevirtual 30, 34, 0, [(0, 640)]),
  (28, 3, .invokevirtual 34, 20, 0, [(0, 647)]),
  (31, 1, .iconst 1, 8, 0, []),
  (32, 1, .ireturn, 0, 0, [])]
/-- GravyRoundModel.undo ()Z -/
def gc_160 : List ga_E := [(0, 1, .aload_n 0, 0, 0, []),
  (1, 3, .getfield 380, 1, 46, [(0, 1487)]),
  (4, 3, .ifCond .ne (5), 0, 9, []),
  (7, 1, .iconst 0, 0, 0, []),
  (8, 1, .ireturn, 0, 0, []),
  (9, 1, .aload_n 0, 0, 0, []),
  (10, 1, .dup, 0, 0, []),
  (11, 3, .getfield 380, 1, 46, [(0, 1487)]),
  (14, 1, .iconst 1, 8, 0, []),
  (15, 1, .isub, 0, 0, []),
  (16, 3, .putfield 380, 1, 46, [(0, 1487)]),
  (19, 1, .aload_n 0, 0, 0, []),
  (20, 1, .dup, 0, 0, []),
  (21, 3, .getfield 383, 1, 47, [(0, 1488)]),
  (24, 1, .iconst 1, 8, 0, []),
  (25, 1, .iadd, 0, 0, []),
  (26, 3, .putfield 383, 1, 47, [(0, 1488)]),
  (29, 1, .aload_n 0, 0, 0, []),
  (30, 3, .invokevirtual 436, 228, 0, [(0, 1903)]),
  (33, 1, .iconst 1, 8, 0, []),
  (34, 1, .ireturn, 0, 0, [])]
/-- GravyRound.warm (I)I -/
def gc_161 : List ga_E := [(0, 1, .iload_n 1, 0, 0, []),
  (1, 1, .iconst 1, 8, 0, []),
  (2, 3, .if_icmp .lt (21), 0, 23, []),
  (5, 1, .iload_n 1, 0, 0, []),
  (6, 2, .bipush (50), 400, 0, []),
  (8, 3, .if_icmp .gt (15), 0, 23, []),
  (11, 1, .aload_n 0, 0, 0, []),
  (12, 3, .getfield 41, 0, 7, [(0, 670)]),
  (15, 3, .getfield 195, 11, 5, [(0, 408)]),
  (18, 2, .bipush (99), 792, 0, []),
  (20, 3, .if_icmp .lt (5), 0, 25, []),
  (23, 1, .iconst (-1), 34359738360, 0, []),
  (24, 1, .ireturn, 0, 0, []),
  (25, 1, .aload_n 0, 0, 0, []),
  (26, 3, .getfield 41, 0, 7, [(0, 670)]),
  (29, 2, .bipush (99), 792, 0, []),
  (31, 1, .aload_n 0, 0, 0, []),
  (32, 3, .getfield 41, 0, 7, [(0, 670)]),
  (35, 3, .getfield 195, 11, 5, [(0, 408)]),
  (38, 1, .iload_n 1, 0, 0, []),
  (39, 1, .iadd, 0, 0, []),
  (40, 3, .invokestatic 189, 4, 0, [(0, 1040)]),
  (43, 3, .putfield 195, 11, 5, [(0, 408)]),
  (46, 1, .aload_n 0, 0, 0, []),
  (47, 3, .getfield 51, 0, 9, [(0, 672)]),
  (50, 1, .aload_n 0, 0, 0, []),
  (51, 3, .getfield 41, 0, 7, [(0, 670)]),
  (54, 3, .invokevirtual 168, 81, 0, [(0, 1004)]),
  (57, 1, .aload_n 0, 0, 0, []),
  (58, 3, .getfield 41, 0, 7, [(0, 670)]),
  (61, 3, .getfield 195, 11, 5, [(0, 408)]),
  (64, 1, .ireturn, 0, 0, [])]
/-- GravyRound.pour (I)I -/
def gc_162 : List ga_E := [(0, 1, .iload_n 1, 0, 0, []),
  (1, 1, .iconst 1, 8, 0, []),
  (2, 3, .if_icmp .lt (21), 0, 23, []),
  (5, 1, .iload_n 1, 0, 0, []),
  (6, 2, .bipush (20), 160, 0, []),
  (8, 3, .if_icmp .gt (15), 0, 23, []),
  (11, 1, .aload_n 0, 0, 0, []),
  (12, 3, .getfield 41, 0, 7, [(0, 670)]),
  (15, 3, .getfield 186, 11, 4, [(0, 405)]),
  (18, 2, .bipush (99), 792, 0, []),
  (20, 3, .if_icmp .lt (5), 0, 25, []),
  (23, 1, .iconst (-1), 34359738360, 0, []),
  (24, 1, .ireturn, 0, 0, []),
  (25, 1, .aload_n 0, 0, 0, []),
  (26, 3, .getfield 41, 0, 7, [(0, 670)]),
  (29, 2, .bipush (99), 792, 0, []),
  (31, 1, .aload_n 0, 0, 0, []),
  (32, 3, .getfield 41, 0, 7, [(0, 670)]),
  (35, 3, .getfield 186, 11, 4, [(0, 405)]),
  (38, 1, .iload_n 1, 0, 0, []),
  (39, 1, .iadd, 0, 0, []),
  (40, 3, .invokestatic 189, 4, 0, [(0, 1040)]),
  (43, 3, .putfield 186, 11, 4, [(0, 405)]),
  (46, 1, .aload_n 0, 0, 0, []),
  (47, 3, .getfield 51, 0, 9, [(0, 672)]),
  (50, 1, .aload_n 0, 0, 0, []),
  (51, 3, .getfield 41, 0, 7, [(0, 670)]),
  (54, 3, .invokevirtual 168, 81, 0, [(0, 1004)]),
  (57, 1, .aload_n 0, 0, 0, []),
  (58, 3, .getfield 41, 0, 7, [(0, 670)]),
  (61, 3, .getfield 186, 11, 4, [(0, 405)]),
  (64, 1, .ireturn, 0, 0, [])]
/-- GravyRound.fallOut (I)I -/
def gc_163 : List ga_E := [(0, 1, .aload_n 0, 0, 0, []),
  (1, 1, .iload_n 1, 0, 0, []),
  (2, 3, .invokevirtual 148, 37, 0, [(0, 963)]),
  (5, 3, .ifCond .eq (22), 0, 27, []),
  (8, 1, .aload_n 0, 0, 0, []),
  (9, 3, .getfield 41, 0, 7, [(0, 670)]),
  (12, 1, .iload_n 1, 0, 0, []),
  (13, 3, .invokevirtual 157, 301, 0, [(0, 967)]),
  (16, 3, .ifCond .eq (11), 0, 27, []),
  (19, 1, .aload_n 0, 0, 0, []),
  (20, 1, .iload_n 1, 0, 0, []),
  (21, 3, .invokevirtual 183, 184, 0, [(0, 1028)]),
  (24, 3, .goto (4), 0, 28, []),
  (27, 1, .iconst (-1), 34359738360, 0, []),
  (28, 1, .ireturn, 0, 0, [])]
/-- GravyRound.makeUp (I)I -/
def gc_164 : List ga_E := [(0, 1, .aload_n 0, 0, 0, []),
  (1, 1, .iload_n 1, 0, 0, []),
  (2, 3, .invokevirtual 148, 37, 0, [(0, 963)]),
  (5, 3, .ifCond .eq (22), 0, 27, []),
  (8, 1, .aload_n 0, 0, 0, []),
  (9, 3, .getfield 41, 0, 7, [(0, 670)]),
  (12, 1, .iload_n 1, 0, 0, []),
  (13, 3, .invokevirtual 157, 301, 0, [(0, 967)]),
  (16, 3, .ifCond .ne (11), 0, 27, []),
  (19, 1, .aload_n 0, 0, 0, []),
  (20, 1, .iload_n 1, 0, 0, []),
  (21, 3, .invokevirtual 183, 184, 0, [(0, 1028)]),
  (24, 3, .goto (4), 0, 28, []),
  (27, 1, .iconst (-1), 34359738360, 0, []),
  (28, 1, .ireturn, 0, 0, [])]
/-- GravyRound.change (II)I -/
def gc_165 : List ga_E := [(0, 1, .iload_n 1, 0, 0, []),
  (1, 1, .iload_n 2, 0, 0, []),
  (2, 3, .if_icmp .eq (19), 0, 21, []),
  (5, 1, .aload_n 0, 0, 0, []),
  (6, 1, .iload_n 1, 0, 0, []),
  (7, 3, .invokevirtual 172, 77, 0, [(0, 1012)]),
  (10, 3, .ifCond .eq (11), 0, 21, []),
  (13, 1, .aload_n 0, 0, 0, []),
  (14, 1, .iload_n 2, 0, 0, []),
  (15, 3, .invokevirtual 172, 77, 0, [(0, 1012)]),
  (18, 3, .ifCond .ne (5), 0, 23, []),
  (21, 1, .iconst (-1), 34359738360, 0, []),
  (22, 1, .ireturn, 0, 0, []),
  (23, 1, .aload_n 0, 0, 0, []),
  (24, 3, .getfield 41, 0, 7, [(0, 670)]),
  (27, 1, .aload_n 0, 0, 0, []),
  (28, 3, .getfield 41, 0, 7, [(0, 670)]),
  (31, 1, .iload_n 1, 0, 0, []),
  (32, 3, .invokevirtual 122, 299, 0, [(0, 945)]),
  (35, 1, .aload_n 0, 0, 0, []),
  (36, 3, .getfield 41, 0, 7, [(0, 670)]),
  (39, 1, .iload_n 2, 0, 0, []),
  (40, 3, .invokevirtual 122, 299, 0, [(0, 945)]),
  (43, 3, .invokevirtual 175, 304, 0, [(0, 1016)]),
  (46, 1, .aload_n 0, 0, 0, []),
  (47, 3, .getfield 51, 0, 9, [(0, 672)]),
  (50, 1, .aload_n 0, 0, 0, []),
  (51, 3, .getfield 41, 0, 7, [(0, 670)]),
  (54, 3, .invokevirtual 168, 81, 0, [(0, 1004)]),
  (57, 1, .aload_n 0, 0, 0, []),
  (58, 3, .getfield 41, 0, 7, [(0, 670)]),
  (61, 3, .invokevirtual 179, 79, 0, [(0, 1020)]),
  (64, 1, .ireturn, 0, 0, [])]
/-- GravyRound.minute ()I -/
def gc_166 : List ga_E := [(0, 1, .aload_n 0, 0, 0, []),
  (1, 3, .getfield 41, 0, 7, [(0, 670)]),
  (4, 3, .invokevirtual 160, 3, 0, [(0, 975)]),
  (7, 3, .ifCond .eq (6), 0, 13, []),
  (10, 2, .bipush (-2), 34359738352, 0, []),
  (12, 1, .ireturn, 0, 0, []),
  (13, 1, .aload_n 0, 0, 0, []),
  (14, 3, .getfield 41, 0, 7, [(0, 670)]),
  (17, 1, .iconst 1, 8, 0, []),
  (18, 3, .invokevirtual 164, 305, 0, [(0, 979)]),
  (21, 1, .istore_n 1, 0, 0, []),
  (22, 1, .aload_n 0, 0, 0, []),
  (23, 3, .getfield 51, 0, 9, [(0, 672)]),
  (26, 1, .aload_n 0, 0, 0, []),
  (27, 3, .getfield 41, 0, 7, [(0, 670)]),
  (30, 3, .invokevirtual 168, 81, 0, [(0, 1004)]),
  (33, 1, .iload_n 1, 0, 0, []),
  (34, 1, .ireturn, 0, 0, [])]
/-- GravyRoundModel.minute ()I -/
def gc_167 : List ga_E := [(0, 1, .aload_n 0, 0, 0, []),
  (1, 3, .invokevirtual 358, 2, 0, [(0, 1422)]),
  (4, 3, .ifCond .eq (6), 0, 10, []),
  (7, 2, .bipush (-2), 34359738352, 0, []),
  (9, 1, .ireturn, 0, 0, []),
  (10, 1, .aload_n 0, 0, 0, []),
  (11, 3, .invokevirtual 426, 82, 0, [(0, 1837)]),
  (14, 1, .aload_n 0, 0, 0, []),
  (15, 1, .iconst 1, 8, 0, []),
  (16, 3, .invokevirtual 411, 227, 0, [(0, 1841)]),
  (19, 1, .ireturn, 0, 0, [])]
/-- GravyRound.feud (II)I -/
def gc_168 : List ga_E := [(0, 1, .aload_n 0, 0, 0, []),
  (1, 1, .iload_n 1, 0, 0, []),
  (2, 3, .invokevirtual 148, 37, 0, [(0, 963)]),
  (5, 3, .ifCond .ne (5), 0, 10, []),
  (8, 1, .iconst (-1), 34359738360, 0, []),
  (9, 1, .ireturn, 0, 0, []),
  (10, 1, .iload_n 2, 0, 0, []),
  (11, 25, .tableswitch (62) (0) (2) #[25, 35, 45], 0, 73, [(0, 36), (8, 46), (16, 56)]),
  (36, 1, .aload_n 0, 0, 0, []),
  (37, 3, .getfield 20, 0, 4, [(0, 667)]),
  (40, 3, .getfield 151, 4, 5, [(0, 216)]),
  (43, 1, .iload_n 1, 0, 0, []),
  (44, 1, .iaload, 0, 0, []),
  (45, 1, .ireturn, 0, 0, []),
  (46, 1, .aload_n 0, 0, 0, []),
  (47, 3, .getfield 20, 0, 4, [(0, 667)]),
  (50, 3, .getfield 154, 4, 6, [(0, 218)]),
  (53, 1, .iload_n 1, 0, 0, []),
  (54, 1, .iaload, 0, 0, []),
  (55, 1, .ireturn, 0, 0, []),
  (56, 1, .aload_n 0, 0, 0, []),
  (57, 3, .getfield 41, 0, 7, [(0, 670)]),
  (60, 1, .iload_n 1, 0, 0, []),
  (61, 3, .invokevirtual 157, 301, 0, [(0, 967)]),
  (64, 3, .ifCond .eq (7), 0, 71, []),
  (67, 1, .iconst 1, 8, 0, []),
  (68, 3, .goto (4), 0, 72, []),
  (71, 1, .iconst 0, 0, 0, []),
  (72, 1, .ireturn, 0, 0, []),
  (73, 1, .iconst (-1), 34359738360, 0, []),
  (74, 1, .ireturn, 0, 0, [])]
/-- GravyRound.seat (I)I -/
def gc_169 : List ga_E := [(0, 1, .aload_n 0, 0, 0, []),
  (1, 1, .iload_n 1, 0, 0, []),
  (2, 3, .invokevirtual 119, 18, 0, [(0, 941)]),
  (5, 3, .ifCond .eq (15), 0, 20, []),
  (8, 1, .aload_n 0, 0, 0, []),
  (9, 3, .getfield 41, 0, 7, [(0, 670)]),
  (12, 3, .getfield 145, 11, 1, [(0, 396)]),
  (15, 1, .iload_n 1, 0, 0, []),
  (16, 1, .iaload, 0, 0, []),
  (17, 3, .goto (4), 0, 21, []),
  (20, 1, .iconst (-1), 34359738360, 0, []),
  (21, 1, .ireturn, 0, 0, [])]
/-- GravyRound.guest (II)I -/
def gc_170 : List ga_E := [(0, 1, .aload_n 0, 0, 0, []),
  (1, 1, .iload_n 1, 0, 0, []),
  (2, 3, .invokevirtual 119, 18, 0, [(0, 941)]),
  (5, 3, .ifCond .ne (5), 0, 10, []),
  (8, 1, .iconst (-1), 34359738360, 0, []),
  (9, 1, .ireturn, 0, 0, []),
  (10, 1, .iload_n 2, 0, 0, []),
  (11, 41, .tableswitch (116) (0) (6) #[41, 50, 60, 70, 80, 90, 107], 0, 127, [(0, 52), (8, 61), (16, 71), (24, 81), (32, 91), (40, 101), (48, 118)]),
  (52, 1, .aload_n 0, 0, 0, []),
  (53, 3, .getfield 41, 0, 7, [(0, 670)]),
  (56, 1, .iload_n 1, 0, 0, []),
  (57, 3, .invokevirtual 122, 299, 0, [(0, 945)]),
  (60, 1, .ireturn, 0, 0, []),
  (61, 1, .aload_n 0, 0, 0, []),
  (62, 3, .getfield 20, 0, 4, [(0, 667)]),
  (65, 3, .getfield 126, 4, 2, [(0, 204)]),
  (68, 1, .iload_n 1, 0, 0, []),
  (69, 1, .iaload, 0, 0, []),
  (70, 1, .ireturn, 0, 0, []),
  (71, 1, .aload_n 0, 0, 0, []),
  (72, 3, .getfield 20, 0, 4, [(0, 667)]),
  (75, 3, .getfield 130, 4, 3, [(0, 210)]),
  (78, 1, .iload_n 1, 0, 0, []),
  (79, 1, .iaload, 0, 0, []),
  (80, 1, .ireturn, 0, 0, []),
  (81, 1, .aload_n 0, 0, 0, []),
  (82, 3, .getfield 41, 0, 7, [(0, 670)]),
  (85, 3, .getfield 133, 11, 2, [(0, 399)]),
  (88, 1, .iload_n 1, 0, 0, []),
  (89, 1, .iaload, 0, 0, []),
  (90, 1, .ireturn, 0, 0, []),
  (91, 1, .aload_n 0, 0, 0, []),
  (92, 3, .getfield 41, 0, 7, [(0, 670)]),
  (95, 3, .getfield 136, 11, 3, [(0, 401)]),
  (98, 1, .iload_n 1, 0, 0, []),
  (99, 1, .iaload, 0, 0, []),
  (100, 1, .ireturn, 0, 0, []),
  (101, 1, .aload_n 0, 0, 0, []),
  (102, 3, .getfield 41, 0, 7, [(0, 670)]),
  (105, 1, .iload_n 1, 0, 0, []),
  (106, 3, .invokevirtual 139, 300, 0, [(0, 949)]),
  (109, 3, .ifCond .eq (7), 0, 116, []),
  (112, 1, .iconst 1, 8, 0, []),
  (113, 3, .goto (4), 0, 117, []),
  (116, 1, .iconst 0, 0, 0, []),
  (117, 1, .ireturn, 0, 0, []),
  (118, 1, .aload_n 0, 0, 0, []),
  (119, 3, .getfield 41, 0, 7, [(0, 670)]),
  (122, 1, .iload_n 1, 0, 0, []),
  (123, 3, .invokevirtual 142, 302, 0, [(0, 954)]),
  (126, 1, .ireturn, 0, 0, []),
  (127, 1, .iconst (-1), 34359738360, 0, []),
  (128, 1, .ireturn, 0, 0, [])]
/-- GravyRound.fault (I)I -/
def gc_171 : List ga_E := [(0, 1, .iload_n 1, 0, 0, []),
  (1, 27, .lookupswitch (37) #[(0, 27), (1, 32)], 0, 38, [(0, 28), (8, 33)]),
  (28, 1, .aload_n 0, 0, 0, []),
  (29, 3, .getfield 111, 0, 2, [(0, 665)]),
  (32, 1, .ireturn, 0, 0, []),
  (33, 1, .aload_n 0, 0, 0, []),
  (34, 3, .getfield 13, 0, 3, [(0, 666)]),
  (37, 1, .ireturn, 0, 0, []),
  (38, 1, .iconst (-1), 34359738360, 0, []),
  (39, 1, .ireturn, 0, 0, [])]
/-- GravyRound.dinner ()I -/
def gc_172 : List ga_E := [(0, 1, .aload_n 0, 0, 0, []),
  (1, 3, .getfield 32, 0, 6, [(0, 669)]),
  (4, 1, .aload_n 0, 0, 0, []),
  (5, 3, .getfield 97, 0, 1, [(0, 664)]),
  (8, 3, .invokevirtual 104, 173, 0, [(0, 731)]),
  (11, 1, .istore_n 1, 0, 0, []),
  (12, 1, .aload_n 0, 0, 0, []),
  (13, 1, .aload_n 0, 0, 0, []),
  (14, 3, .getfield 32, 0, 6, [(0, 669)]),
  (17, 3, .getfield 108, 7, 3, [(0, 370)]),
  (20, 3, .putfield 111, 0, 2, [(0, 665)]),
  (23, 1, .aload_n 0, 0, 0, []),
  (24, 1, .aload_n 0, 0, 0, []),
  (25, 3, .getfield 32, 0, 6, [(0, 669)]),
  (28, 3, .getfield 112, 7, 4, [(0, 372)]),
  (31, 3, .putfield 13, 0, 3, [(0, 666)]),
  (34, 1, .iload_n 1, 0, 0, []),
  (35, 3, .ifCond .ne (5), 0, 40, []),
  (38, 1, .iconst (-1), 34359738360, 0, []),
  (39, 1, .ireturn, 0, 0, []),
  (40, 1, .aload_n 0, 0, 0, []),
  (41, 1, .iconst 0, 0, 0, []),
  (42, 3, .putfield 97, 0, 1, [(0, 664)]),
  (45, 1, .aload_n 0, 0, 0, []),
  (46, 3, .getfield 20, 0, 4, [(0, 667)]),
  (49, 1, .aload_n 0, 0, 0, []),
  (50, 3, .getfield 24, 0, 5, [(0, 668)]),
  (53, 3, .invokevirtual 113, 176, 0, [(0, 923)]),
  (56, 1, .aload_n 0, 0, 0, []),
  (57, 3, .invokevirtual 94, 60, 0, [(0, 612)]),
  (60, 1, .aload_n 0, 0, 0, []),
  (61, 3, .getfield 20, 0, 4, [(0, 667)]),
  (64, 3, .getfield 116, 4, 0, [(0, 200)]),
  (67, 1, .ireturn, 0, 0, [])]
/-- GravyRound$Reader.read (I)Z -/
def gc_173 : List ga_E := [(0, 1, .aload_n 0, 0, 0, []),
  (1, 3, .getfield 20, 7, 1, [(0, 367)]),
  (4, 3, .invokevirtual 24, 42, 0, [(0, 735)]),
  (7, 1, .aload_n 0, 0, 0, []),
  (8, 1, .iconst 0, 0, 0, []),
  (9, 3, .putfield 29, 7, 2, [(0, 368)]),
  (12, 1, .aload_n 0, 0, 0, []),
  (13, 1, .iconst 0, 0, 0, []),
  (14, 3, .putfield 33, 7, 3, [(0, 369)]),
  (17, 1, .aload_n 0, 0, 0, []),
  (18, 1, .iconst (-1), 34359738360, 0, []),
  (19, 3, .putfield 36, 7, 4, [(0, 371)]),
  (22, 1, .aload_n 0, 0, 0, []),
  (23, 3, .getfield 14, 7, 0, [(0, 366)]),
  (26, 1, .iload_n 1, 0, 0, []),
  (27, 3, .invokevirtual 39, 174, 0, [(0, 736)]),
  (30, 1, .iconst 0, 0, 0, []),
  (31, 1, .istore_n 2, 0, 0, []),
  (32, 1, .iload_n 2, 0, 0, []),
  (33, 3, .sipush (1600), 12800, 0, []),
  (36, 3, .if_icmp .ge (28), 0, 64, []),
  (39, 1, .aload_n 0, 0, 0, []),
  (40, 3, .getfield 14, 7, 0, [(0, 366)]),
  (43, 3, .getfield 43, 12, 4, [(0, 341)]),
  (46, 3, .ifCond .eq (18), 0, 64, []),
  (49, 1, .aload_n 0, 0, 0, []),
  (50, 3, .invokevirtual 46, 269, 0, [(0, 824)]),
  (53, 3, .ifCond .ne (5), 0, 58, []),
  (56, 1, .iconst 0, 0, 0, []),
  (57, 1, .ireturn, 0, 0, []),
  (58, 3, .iinc 2 (1), 8, 0, []),
  (61, 3, .goto (-29), 0, 32, []),
  (64, 1, .iconst 1, 8, 0, []),
  (65, 1, .ireturn, 0, 0, [])]
/-- GravyRound$Tokens.begin (I)V -/
def gc_174 : List ga_E := [(0, 1, .aload_n 0, 0, 0, []),
  (1, 1, .iconst 0, 0, 0, []),
  (2, 1, .iload_n 1, 0, 0, []),
  (3, 1, .aload_n 0, 0, 0, []),
  (4, 3, .getfield 13, 12, 0, [(0, 337)]),
  (7, 1, .arraylength, 0, 0, []),
  (8, 3, .invokestatic 38, 4, 0, [(0, 740)]),
  (11, 3, .invokestatic 44, 0, 0, [(0, 743)]),
  (14, 3, .putfield 47, 12, 2, [(0, 339)]),
  (17, 1, .aload_n 0, 0, 0, []),
  (18, 1, .iconst 0, 0, 0, []),
  (19, 3, .putfield 50, 12, 3, [(0, 340)]),
  (22, 1, .aload_n 0, 0, 0, []),
  (23, 3, .invokevirtual 53, 175, 0, [(0, 746)]),
  (26, 1, .return_, 0, 0, [])]
/-- GravyRound$Tokens.step ()V -/
def gc_175 : List ga_E := [(0, 1, .aload_n 0, 0, 0, []),
  (1, 3, .getfield 50, 12, 3, [(0, 340)]),
  (4, 1, .aload_n 0, 0, 0, []),
  (5, 3, .getfield 47, 12, 2, [(0, 339)]),
  (8, 3, .if_icmp .ge (44), 0, 52, []),
  (11, 1, .aload_n 0, 0, 0, []),
  (12, 3, .getfield 13, 12, 0, [(0, 337)]),
  (15, 1, .aload_n 0, 0, 0, []),
  (16, 3, .getfield 50, 12, 3, [(0, 340)]),
  (19, 1, .baload, 101, 0, []),
  (20, 2, .bipush (32), 256, 0, []),
  (22, 3, .if_icmp .eq (17), 0, 39, []),
  (25, 1, .aload_n 0, 0, 0, []),
  (26, 3, .getfield 13, 12, 0, [(0, 337)]),
  (29, 1, .aload_n 0, 0, 0, []),
  (30, 3, .getfield 50, 12, 3, [(0, 340)]),
  (33, 1, .baload, 101, 0, []),
  (34, 2, .bipush (10), 80, 0, []),
  (36, 3, .if_icmp .ne (16), 0, 52, []),
  (39, 1, .aload_n 0, 0, 0, []),
  (40, 1, .dup, 0, 0, []),
  (41, 3, .getfield 50, 12, 3, [(0, 340)]),
  (44, 1, .iconst 1, 8, 0, []),
  (45, 1, .iadd, 0, 0, []),
  (46, 3, .putfield 50, 12, 3, [(0, 340)]),
  (49, 3, .goto (-49), 0, 0, []),
  (52, 1, .aload_n 0, 0, 0, []),
  (53, 1, .aload_n 0, 0, 0, []),
  (54, 3, .getfield 50, 12, 3, [(0, 340)]),
  (57, 3, .putfield 56, 12, 5, [(0, 343)]),
  (60, 1, .aload_n 0, 0, 0, []),
  (61, 3, .getfield 50, 12, 3, [(0, 340)]),
  (64, 1, .aload_n 0, 0, 0, []),
  (65, 3, .getfield 47, 12, 2, [(0, 339)]),
  (68, 3, .if_icmp .lt (9), 0, 77, []),
  (71, 1, .aload_n 0, 0, 0, []),
  (72, 1, .iconst 0, 0, 0, []),
  (73, 3, .putfield 59, 12, 4, [(0, 342)]),
  (76, 1, .return_, 0, 0, []),
  (77, 1, .aload_n 0, 0, 0, []),
  (78, 3, .getfield 13, 12, 0, [(0, 337)]),
  (81, 1, .aload_n 0, 0, 0, []),
  (82, 3, .getfield 50, 12, 3, [(0, 340)]),
  (85, 1, .baload, 101, 0, []),
  (86, 1, .istore_n 1, 0, 0, []),
  (87, 1, .iload_n 1, 0, 0, []),
  (88, 3, .invokestatic 62, 310, 0, [(0, 750)]),
  (91, 3, .ifCond .eq (10), 0, 101, []),
  (94, 1, .aload_n 0, 0, 0, []),
  (95, 3, .invokevirtual 66, 307, 0, [(0, 753)]),
  (98, 3, .goto (50), 0, 148, []),
  (101, 1, .iload_n 1, 0, 0, []),
  (102, 3, .invokestatic 69, 311, 0, [(0, 761)]),
  (105, 3, .ifCond .eq (10), 0, 115, []),
  (108, 1, .aload_n 0, 0, 0, []),
  (109, 3, .invokevirtual 72, 309, 0, [(0, 764)]),
  (112, 3, .goto (36), 0, 148, []),
  (115, 1, .aload_n 0, 0, 0, []),
  (116, 1, .iload_n 1, 0, 0, []),
  (117, 3, .ifCond .le (17), 0, 134, []),
  (120, 2, .ldc 75, 30, 0, []),
  (122, 1, .iload_n 1, 0, 0, []),
  (123, 1, .i2c, 0, 0, []),
  (124, 3, .invokevirtual 77, 1004, 0, [(0, 769)]),
  (127, 3, .ifCond .lt (7), 0, 134, []),
  (130, 1, .iload_n 1, 0, 0, []),
  (131, 3, .goto (4), 0, 135, []),
  (134, 1, .iconst 1, 8, 0, []),
  (135, 3, .putfield 59, 12, 4, [(0, 342)]),
  (138, 1, .aload_n 0, 0, 0, []),
  (139, 1, .dup, 0, 0, []),
  (140, 3, .getfield 50, 12, 3, [(0, 340)]),
  (143, 1, .iconst 1, 8, 0, []),
  (144, 1, .iadd, 0, 0, []),
  (145, 3, .putfield 50, 12, 3, [(0, 340)]),
  (148, 1, .return_, 0, 0, [])]
/-- GravyRound$Dinner.copyFrom (LGravyRound$Dinner;)V -/
def gc_176 : List ga_E := [(0, 1, .aload_n 0, 0, 0, []),
  (1, 1, .aload_n 1, 0, 0, []),
  (2, 3, .getfield 38, 4, 0, [(0, 193)]),
  (5, 3, .putfield 38, 4, 0, [(0, 193)]),
  (8, 1, .aload_n 1, 0, 0, []),
  (9, 3, .getfield 9, 4, 1, [(0, 201)]),
  (12, 1, .iconst 0, 0, 0, []),
  (13, 1, .aload_n 0, 0, 0, []),
  (14, 3, .getfield 9, 4, 1, [(0, 201)]),
  (17, 1, .iconst 0, 0, 0, []),
  (18, 2, .bipush (7), 56, 0, []),
  (20, 3, .invokestatic 61, 1001, 0, [(0, 927)]),
  (23, 1, .aload_n 1, 0, 0, []),
  (24, 3, .getfield 15, 4, 2, [(0, 202)]),
  (27, 1, .iconst 0, 0, 0, []),
  (28, 1, .aload_n 0, 0, 0, []),
  (29, 3, .getfield 15, 4, 2, [(0, 202)]),
  (32, 1, .iconst 0, 0, 0, []),
  (33, 2, .bipush (7), 56, 0, []),
  (35, 3, .invokestatic 61, 1001, 0, [(0, 927)]),
  (38, 1, .aload_n 1, 0, 0, []),
  (39, 3, .getfield 19, 4, 3, [(0, 207)]),
  (42, 1, .iconst 0, 0, 0, []),
  (43, 1, .aload_n 0, 0, 0, []),
  (44, 3, .getfield 19, 4, 3, [(0, 207)]),
  (47, 1, .iconst 0, 0, 0, []),
  (48, 2, .bipush (7), 56, 0, []),
  (50, 3, .invokestatic 61, 1001, 0, [(0, 927)]),
  (53, 1, .aload_n 0, 0, 0, []),
  (54, 1, .aload_n 1, 0, 0, []),
  (55, 3, .getfield 42, 4, 4, [(0, 212)]),
  (58, 3, .putfield 42, 4, 4, [(0, 212)]),
  (61, 1, .aload_n 1, 0, 0, []),
  (62, 3, .getfield 22, 4, 5, [(0, 215)]),
  (65, 1, .iconst 0, 0, 0, []),
  (66, 1, .aload_n 0, 0, 0, []),
  (67, 3, .getfield 22, 4, 5, [(0, 215)]),
  (70, 1, .iconst 0, 0, 0, []),
  (71, 2, .bipush (10), 80, 0, []),
  (73, 3, .invokestatic 61, 1001, 0, [(0, 927)]),
  (76, 1, .aload_n 1, 0, 0, []),
  (77, 3, .getfield 25, 4, 6, [(0, 217)]),
  (80, 1, .iconst 0, 0, 0, []),
  (81, 1, .aload_n 0, 0, 0, []),
  (82, 3, .getfield 25, 4, 6, [(0, 217)]),
  (85, 1, .iconst 0, 0, 0, []),
  (86, 2, .bipush (10), 80, 0, []),
  (88, 3, .invokestatic 61, 1001, 0, [(0, 927)]),
  (91, 1, .aload_n 0, 0, 0, []),
  (92, 1, .aload_n 1, 0, 0, []),
  (93, 3, .getfield 45, 4, 7, [(0, 219)]),
  (96, 3, .putfield 45, 4, 7, [(0, 219)]),
  (99, 1, .aload_n 0, 0, 0, []),
  (100, 1, .aload_n 1, 0, 0, []),
  (101, 3, .getfield 48, 4, 8, [(0, 222)]),
  (104, 3, .putfield 48, 4, 8, [(0, 222)]),
  (107, 1, .aload_n 0, 0, 0, []),
  (108, 1, .aload_n 1, 0, 0, []),
  (109, 3, .getfield 51, 4, 9, [(0, 225)]),
  (112, 3, .putfield 51, 4, 9, [(0, 225)]),
  (115, 1, .aload_n 0, 0, 0, []),
  (116, 1, .aload_n 1, 0, 0, []),
  (117, 3, .getfield 54, 4, 10, [(0, 231)]),
  (120, 3, .putfield 54, 4, 10, [(0, 231)]),
  (123, 1, .aload_n 0, 0, 0, []),
  (124, 1, .aload_n 1, 0, 0, []),
  (125, 3, .getfield 57, 4, 11, [(0, 235)]),
  (128, 3, .putfield 57, 4, 11, [(0, 235)]),
  (131, 1, .aload_n 0, 0, 0, []),
  (132, 3, .getfield 31, 4, 12, [(0, 238)]),
  (135, 1, .aload_n 1, 0, 0, []),
  (136, 3, .getfield 31, 4, 12, [(0, 238)]),
  (139, 3, .invokevirtual 67, 177, 0, [(0, 928)]),
  (142, 1, .return_, 0, 0, [])]
/-- GravyRound$Formula.copyFrom (LGravyRound$Formula;)V -/
def gc_177 : List ga_E := [(0, 1, .aload_n 1, 0, 0, []),
  (1, 3, .getfield 9, 5, 0, [(0, 163)]),
  (4, 1, .iconst 0, 0, 0, []),
  (5, 1, .aload_n 0, 0, 0, []),
  (6, 3, .getfield 9, 5, 0, [(0, 163)]),
  (9, 1, .iconst 0, 0, 0, []),
  (10, 3, .sipush (300), 2400, 0, []),
  (13, 3, .invokestatic 26, 1001, 0, [(0, 932)]),
  (16, 1, .aload_n 0, 0, 0, []),
  (17, 1, .aload_n 1, 0, 0, []),
  (18, 3, .getfield 19, 5, 1, [(0, 164)]),
  (21, 3, .putfield 19, 5, 1, [(0, 164)]),
  (24, 1, .aload_n 0, 0, 0, []),
  (25, 1, .aload_n 1, 0, 0, []),
  (26, 3, .getfield 23, 5, 2, [(0, 166)]),
  (29, 3, .putfield 23, 5, 2, [(0, 166)]),
  (32, 1, .return_, 0, 0, [])]
/-- GravyRoundModel.dinner ()I -/
def gc_178 : List ga_E := [(0, 1, .aload_n 0, 0, 0, []),
  (1, 1, .iconst 0, 0, 0, []),
  (2, 3, .putfield 158, 1, 4, [(0, 1445)]),
  (5, 1, .aload_n 0, 0, 0, []),
  (6, 1, .iconst (-1), 34359738360, 0, []),
  (7, 3, .putfield 16, 1, 5, [(0, 1446)]),
  (10, 1, .aload_n 0, 0, 0, []),
  (11, 1, .aload_n 0, 0, 0, []),
  (12, 3, .getfield 260, 1, 2, [(0, 1443)]),
  (15, 3, .putfield 155, 1, 3, [(0, 1444)]),
  (18, 1, .iconst 0, 0, 0, []),
  (19, 1, .istore_n 1, 0, 0, []),
  (20, 1, .iload_n 1, 0, 0, []),
  (21, 1, .aload_n 0, 0, 0, []),
  (22, 3, .getfield 155, 1, 3, [(0, 1444)]),
  (25, 3, .if_icmp .ge (21), 0, 46, []),
  (28, 1, .aload_n 0, 0, 0, []),
  (29, 3, .getfield 13, 1, 1, [(0, 1442)]),
  (32, 1, .iload_n 1, 0, 0, []),
  (33, 1, .aload_n 0, 0, 0, []),
  (34, 3, .getfield 7, 1, 0, [(0, 1441)]),
  (37, 1, .iload_n 1, 0, 0, []),
  (38, 1, .baload, 101, 0, []),
  (39, 1, .bastore, 101, 0, []),
  (40, 3, .iinc 1 (1), 8, 0, []),
  (43, 3, .goto (-23), 0, 20, []),
  (46, 1, .aload_n 0, 0, 0, []),
  (47, 1, .iconst 0, 0, 0, []),
  (48, 3, .putfield 260, 1, 2, [(0, 1443)]),
  (51, 1, .aload_n 0, 0, 0, []),
  (52, 1, .iconst 0, 0, 0, []),
  (53, 3, .putfield 195, 1, 7, [(0, 1448)]),
  (56, 1, .aload_n 0, 0, 0, []),
  (57, 1, .iconst 1, 8, 0, []),
  (58, 1, .aload_n 0, 0, 0, []),
  (59, 3, .getfield 263, 1, 32, [(0, 1473)]),
  (62, 1, .isub, 0, 0, []),
  (63, 3, .putfield 254, 1, 33, [(0, 1474)]),
  (66, 1, .aload_n 0, 0, 0, []),
  (67, 3, .invokevirtual 149, 66, 0, [(0, 1387)]),
  (70, 1, .aload_n 0, 0, 0, []),
  (71, 3, .invokevirtual 237, 179, 0, [(0, 1641)]),
  (74, 1, .aload_n 0, 0, 0, []),
  (75, 3, .invokevirtual 233, 88, 0, [(0, 1678)]),
  (78, 3, .ifCond .eq (17), 0, 95, []),
  (81, 1, .aload_n 0, 0, 0, []),
  (82, 3, .getfield 205, 1, 8, [(0, 1449)]),
  (85, 3, .ifCond .eq (10), 0, 95, []),
  (88, 1, .aload_n 0, 0, 0, []),
  (89, 3, .invokevirtual 266, 202, 0, [(0, 1682)]),
  (92, 3, .goto (-18), 0, 74, []),
  (95, 1, .aload_n 0, 0, 0, []),
  (96, 3, .invokevirtual 233, 88, 0, [(0, 1678)]),
  (99, 3, .ifCond .ne (5), 0, 104, []),
  (102, 1, .iconst (-1), 34359738360, 0, []),
  (103, 1, .ireturn, 0, 0, []),
  (104, 1, .aload_n 0, 0, 0, []),
  (105, 1, .aload_n 0, 0, 0, []),
  (106, 3, .getfield 254, 1, 33, [(0, 1474)]),
  (109, 3, .putfield 263, 1, 32, [(0, 1473)]),
  (112, 1, .aload_n 0, 0, 0, []),
  (113, 3, .invokevirtual 152, 67, 0, [(0, 1391)]),
  (116, 1, .aload_n 0, 0, 0, []),
  (117, 3, .getfield 20, 1, 11, [(0, 1452)]),
  (120, 1, .aload_n 0, 0, 0, []),
  (121, 3, .getfield 263, 1, 32, [(0, 1473)]),
  (124, 1, .iaload, 0, 0, []),
  (125, 1, .ireturn, 0, 0, [])]
/-- GravyRoundModel.goOn ()V -/
def gc_179 : List ga_E := [(0, 1, .aload_n 0, 0, 0, []),
  (1, 1, .aload_n 0, 0, 0, []),
  (2, 3, .getfield 195, 1, 7, [(0, 1448)]),
  (5, 3, .putfield 198, 1, 6, [(0, 1447)]),
  (8, 1, .aload_n 0, 0, 0, []),
  (9, 3, .getfield 198, 1, 6, [(0, 1447)]),
  (12, 1, .aload_n 0, 0, 0, []),
  (13, 3, .getfield 155, 1, 3, [(0, 1444)]),
  (16, 3, .if_icmp .ge (42), 0, 58, []),
  (19, 1, .aload_n 0, 0, 0, []),
  (20, 1, .aload_n 0, 0, 0, []),
  (21, 3, .getfield 198, 1, 6, [(0, 1447)]),
  (24, 3, .invokevirtual 201, 180, 0, [(0, 1645)]),
  (27, 2, .bipush (32), 256, 0, []),
  (29, 3, .if_icmp .eq (16), 0, 45, []),
  (32, 1, .aload_n 0, 0, 0, []),
  (33, 1, .aload_n 0, 0, 0, []),
  (34, 3, .getfield 198, 1, 6, [(0, 1447)]),
  (37, 3, .invokevirtual 201, 180, 0, [(0, 1645)]),
  (40, 2, .bipush (10), 80, 0, []),
  (42, 3, .if_icmp .ne (16), 0, 58, []),
  (45, 1, .aload_n 0, 0, 0, []),
  (46, 1, .dup, 0, 0, []),
  (47, 3, .getfield 198, 1, 6, [(0, 1447)]),
  (50, 1, .iconst 1, 8, 0, []),
  (51, 1, .iadd, 0, 0, []),
  (52, 3, .putfield 198, 1, 6, [(0, 1447)]),
  (55, 3, .goto (-47), 0, 8, []),
  (58, 1, .aload_n 0, 0, 0, []),
  (59, 1, .aload_n 0, 0, 0, []),
  (60, 3, .getfield 198, 1, 6, [(0, 1447)]),
  (63, 3, .invokevirtual 201, 180, 0, [(0, 1645)]),
  (66, 1, .istore_n 1, 0, 0, []),
  (67, 1, .aload_n 0, 0, 0, []),
  (68, 1, .aload_n 0, 0, 0, []),
  (69, 3, .getfield 198, 1, 6, [(0, 1447)]),
  (72, 1, .iconst 1, 8, 0, []),
  (73, 1, .iadd, 0, 0, []),
  (74, 3, .putfield 195, 1, 7, [(0, 1448)]),
  (77, 1, .aload_n 0, 0, 0, []),
  (78, 3, .getfield 198, 1, 6, [(0, 1447)]),
  (81, 1, .aload_n 0, 0, 0, []),
  (82, 3, .getfield 155, 1, 3, [(0, 1444)]),
  (85, 3, .if_icmp .lt (27), 0, 112, []),
  (88, 1, .aload_n 0, 0, 0, []),
  (89, 1, .iconst 0, 0, 0, []),
  (90, 3, .putfield 205, 1, 8, [(0, 1449)]),
  (93, 1, .aload_n 0, 0, 0, []),
  (94, 1, .aload_n 0, 0, 0, []),
  (95, 3, .getfield 155, 1, 3, [(0, 1444)]),
  (98, 3, .putfield 198, 1, 6, [(0, 1447)]),
  (101, 1, .aload_n 0, 0, 0, []),
  (102, 1, .aload_n 0, 0, 0, []),
  (103, 3, .getfield 155, 1, 3, [(0, 1444)]),
  (106, 3, .putfield 195, 1, 7, [(0, 1448)]),
  (109, 3, .goto (268), 0, 377, []),
  (112, 1, .iload_n 1, 0, 0, []),
  (113, 3, .invokestatic 208, 189, 0, [(0, 1649)]),
  (116, 3, .ifCond .eq (123), 0, 239, []),
  (119, 1, .aload_n 0, 0, 0, []),
  (120, 1, .aload_n 0, 0, 0, []),
  (121, 3, .getfield 195, 1, 7, [(0, 1448)]),
  (124, 3, .invokevirtual 201, 180, 0, [(0, 1645)]),
  (127, 3, .invokestatic 208, 189, 0, [(0, 1649)]),
  (130, 3, .ifCond .eq (16), 0, 146, []),
  (133, 1, .aload_n 0, 0, 0, []),
  (134, 1, .dup, 0, 0, []),
  (135, 3, .getfield 195, 1, 7, [(0, 1448)]),
  (138, 1, .iconst 1, 8, 0, []),
  (139, 1, .iadd, 0, 0, []),
  (140, 3, .putfield 195, 1, 7, [(0, 1448)]),
  (143, 3, .goto (-24), 0, 119, []),
  (146, 1, .aload_n 0, 0, 0, []),
  (147, 1, .lconst 0, 5, 0, []),
  (148, 3, .putfield 212, 1, 10, [(2, 1451)]),
  (151, 1, .aload_n 0, 0, 0, []),
  (152, 3, .getfield 198, 1, 6, [(0, 1447)]),
  (155, 1, .istore_n 2, 0, 0, []),
  (156, 1, .iload_n 2, 0, 0, []),
  (157, 1, .aload_n 0, 0, 0, []),
  (158, 3, .getfield 195, 1, 7, [(0, 1448)]),
  (161, 3, .if_icmp .ge (38), 0, 199, []),
  (164, 1, .iload_n 2, 0, 0, []),
  (165, 1, .aload_n 0, 0, 0, []),
  (166, 3, .getfield 198, 1, 6, [(0, 1447)]),
  (169, 2, .bipush (8), 64, 0, []),
  (171, 1, .iadd, 0, 0, []),
  (172, 3, .if_icmp .ge (27), 0, 199, []),
  (175, 1, .aload_n 0, 0, 0, []),
  (176, 1, .aload_n 0, 0, 0, []),
  (177, 3, .getfield 212, 1, 10, [(0, 1451)]),
  (180, 2, .bipush (8), 64, 0, []),
  (182, 1, .lshl, 0, 0, []),
  (183, 1, .aload_n 0, 0, 0, []),
  (184, 1, .iload_n 2, 0, 0, []),
  (185, 3, .invokevirtual 201, 180, 0, [(0, 1645)]),
  (188, 1, .i2l, 0, 0, []),
  (189, 1, .lor, 0, 0, []),
  (190, 3, .putfield 212, 1, 10, [(2, 1451)]),
  (193, 3, .iinc 2 (1), 8, 0, []),
  (196, 3, .goto (-40), 0, 156, []),
  (199, 1, .aload_n 0, 0, 0, []),
  (200, 1, .aload_n 0, 0, 0, []),
  (201, 3, .getfield 195, 1, 7, [(0, 1448)]),
  (204, 1, .aload_n 0, 0, 0, []),
  (205, 3, .getfield 198, 1, 6, [(0, 1447)]),
  (208, 1, .isub, 0, 0, []),
  (209, 2, .bipush (8), 64, 0, []),
  (211, 3, .if_icmp .le (7), 0, 218, []),
  (214, 1, .iconst 1, 8, 0, []),
  (215, 3, .goto (18), 0, 233, []),
  (218, 1, .aload_n 0, 0, 0, []),
  (219, 3, .getfield 212, 1, 10, [(0, 1451)]),
  (222, 3, .invokestatic 216, 192, 0, [(0, 1652)]),
  (225, 3, .ifCond .eq (7), 0, 232, []),
  (228, 1, .iconst 3, 24, 0, []),
  (229, 3, .goto (4), 0, 233, []),
  (232, 1, .iconst 2, 16, 0, []),
  (233, 3, .putfield 205, 1, 8, [(0, 1449)]),
  (236, 3, .goto (141), 0, 377, []),
  (239, 1, .iload_n 1, 0, 0, []),
  (240, 3, .invokestatic 220, 190, 0, [(0, 1672)]),
  (243, 3, .ifCond .eq (118), 0, 361, []),
  (246, 1, .aload_n 0, 0, 0, []),
  (247, 1, .iconst 0, 0, 0, []),
  (248, 3, .putfield 223, 1, 9, [(0, 1450)]),
  (251, 1, .aload_n 0, 0, 0, []),
  (252, 1, .aload_n 0, 0, 0, []),
  (253, 3, .getfield 198, 1, 6, [(0, 1447)]),
  (256, 3, .putfield 195, 1, 7, [(0, 1448)]),
  (259, 1, .aload_n 0, 0, 0, []),
  (260, 1, .aload_n 0, 0, 0, []),
  (261, 3, .getfield 195, 1, 7, [(0, 1448)]),
  (264, 3, .invokevirtual 201, 180, 0, [(0, 1645)]),
  (267, 3, .invokestatic 220, 190, 0, [(0, 1672)]),
  (270, 3, .ifCond .eq (52), 0, 322, []),
  (273, 1, .aload_n 0, 0, 0, []),
  (274, 3, .getfield 195, 1, 7, [(0, 1448)]),
  (277, 1, .aload_n 0, 0, 0, []),
  (278, 3, .getfield 198, 1, 6, [(0, 1447)]),
  (281, 1, .isub, 0, 0, []),
  (282, 1, .iconst 4, 32, 0, []),
  (283, 3, .if_icmp .ge (26), 0, 309, []),
  (286, 1, .aload_n 0, 0, 0, []),
  (287, 2, .bipush (10), 80, 0, []),
  (289, 1, .aload_n 0, 0, 0, []),
  (290, 3, .getfield 223, 1, 9, [(0, 1450)]),
  (293, 1, .imul, 0, 0, []),
  (294, 1, .aload_n 0, 0, 0, []),
  (295, 1, .aload_n 0, 0, 0, []),
  (296, 3, .getfield 195, 1, 7, [(0, 1448)]),
  (299, 3, .invokevirtual 201, 180, 0, [(0, 1645)]),
  (302, 1, .iadd, 0, 0, []),
  (303, 2, .bipush (48), 384, 0, []),
  (305, 1, .isub, 0, 0, []),
  (306, 3, .putfield 223, 1, 9, [(0, 1450)]),
  (309, 1, .aload_n 0, 0, 0, []),
  (310, 1, .dup, 0, 0, []),
  (311, 3, .getfield 195, 1, 7, [(0, 1448)]),
  (314, 1, .iconst 1, 8, 0, []),
  (315, 1, .iadd, 0, 0, []),
  (316, 3, .putfield 195, 1, 7, [(0, 1448)]),
  (319, 3, .goto (-60), 0, 259, []),
  (322, 1, .aload_n 0, 0, 0, []),
  (323, 1, .aload_n 0, 0, 0, []),
  (324, 3, .getfield 195, 1, 7, [(0, 1448)]),
  (327, 1, .aload_n 0, 0, 0, []),
  (328, 3, .getfield 198, 1, 6, [(0, 1447)]),
  (331, 1, .isub, 0, 0, []),
  (332, 1, .iconst 4, 32, 0, []),
  (333, 3, .if_icmp .gt (17), 0, 350, []),
  (336, 1, .aload_n 0, 0, 0, []),
  (337, 1, .aload_n 0, 0, 0, []),
  (338, 3, .getfield 195, 1, 7, [(0, 1448)]),
  (341, 3, .invokevirtual 201, 180, 0, [(0, 1645)]),
  (344, 3, .invokestatic 208, 189, 0, [(0, 1649)]),
  (347, 3, .ifCond .eq (7), 0, 354, []),
  (350, 1, .iconst 1, 8, 0, []),
  (351, 3, .goto (4), 0, 355, []),
  (354, 1, .iconst 4, 32, 0, []),
  (355, 3, .putfield 205, 1, 8, [(0, 1449)]),
  (358, 3, .goto (19), 0, 377, []),
  (361, 1, .aload_n 0, 0, 0, []),
  (362, 1, .iload_n 1, 0, 0, []),
  (363, 3, .invokestatic 226, 193, 0, [(0, 1675)]),
  (366, 3, .ifCond .eq (7), 0, 373, []),
  (369, 1, .iconst 5, 40, 0, []),
  (370, 3, .goto (4), 0, 374, []),
  (373, 1, .iconst 1, 8, 0, []),
  (374, 3, .putfield 205, 1, 8, [(0, 1449)]),
  (377, 1, .return_, 0, 0, [])]
/-- GravyRoundModel.sign (I)I -/
def gc_180 : List ga_E := [(0, 1, .iload_n 1, 0, 0, []),
  (1, 1, .aload_n 0, 0, 0, []),
  (2, 3, .getfield 155, 1, 3, [(0, 1444)]),
  (5, 3, .if_icmp .ge (16), 0, 21, []),
  (8, 1, .aload_n 0, 0, 0, []),
  (9, 3, .getfield 13, 1, 1, [(0, 1442)]),
  (12, 1, .iload_n 1, 0, 0, []),
  (13, 1, .baload, 101, 0, []),
  (14, 3, .sipush (255), 2040, 0, []),
  (17, 1, .iand, 0, 0, []),
  (18, 3, .goto (4), 0, 22, []),
  (21, 1, .iconst 0, 0, 0, []),
  (22, 1, .ireturn, 0, 0, [])]
/-- GravyRound.end (I)I -/
def gc_181 : List ga_E := [(0, 1, .iload_n 1, 0, 0, []),
  (1, 3, .ifCond .lt (11), 0, 12, []),
  (4, 1, .iload_n 1, 0, 0, []),
  (5, 1, .aload_n 0, 0, 0, []),
  (6, 3, .getfield 97, 0, 1, [(0, 664)]),
  (9, 3, .if_icmp .le (5), 0, 14, []),
  (12, 1, .iconst (-1), 34359738360, 0, []),
  (13, 1, .ireturn, 0, 0, []),
  (14, 1, .aload_n 0, 0, 0, []),
  (15, 1, .iload_n 1, 0, 0, []),
  (16, 3, .putfield 97, 0, 1, [(0, 664)]),
  (19, 1, .iload_n 1, 0, 0, []),
  (20, 1, .ireturn, 0, 0, [])]
/-- GravyRound.feed (IIIII)I -/
def gc_182 : List ga_E := [(0, 1, .aload_n 0, 0, 0, []),
  (1, 3, .getfield 97, 0, 1, [(0, 664)]),
  (4, 2, .bipush (20), 160, 0, []),
  (6, 1, .iadd, 0, 0, []),
  (7, 3, .sipush (1600), 12800, 0, []),
  (10, 3, .if_icmp .le (5), 0, 15, []),
  (13, 1, .iconst (-1), 34359738360, 0, []),
  (14, 1, .ireturn, 0, 0, []),
  (15, 1, .aload_n 0, 0, 0, []),
  (16, 1, .iload_n 1, 0, 0, []),
  (17, 3, .invokevirtual 100, 33, 0, [(0, 719)]),
  (20, 1, .aload_n 0, 0, 0, []),
  (21, 1, .iload_n 2, 0, 0, []),
  (22, 3, .invokevirtual 100, 33, 0, [(0, 719)]),
  (25, 1, .aload_n 0, 0, 0, []),
  (26, 1, .iload_n 3, 0, 0, []),
  (27, 3, .invokevirtual 100, 33, 0, [(0, 719)]),
  (30, 1, .aload_n 0, 0, 0, []),
  (31, 2, .iload 4, 0, 0, []),
  (33, 3, .invokevirtual 100, 33, 0, [(0, 719)]),
  (36, 1, .aload_n 0, 0, 0, []),
  (37, 2, .iload 5, 0, 0, []),
  (39, 3, .invokevirtual 100, 33, 0, [(0, 719)]),
  (42, 1, .aload_n 0, 0, 0, []),
  (43, 3, .getfield 97, 0, 1, [(0, 664)]),
  (46, 1, .ireturn, 0, 0, [])]
/-- GravyRoundModel.feed (IIIII)I -/
def gc_183 : List ga_E := [(0, 1, .aload_n 0, 0, 0, []),
  (1, 3, .getfield 260, 1, 2, [(0, 1443)]),
  (4, 2, .bipush (20), 160, 0, []),
  (6, 1, .iadd, 0, 0, []),
  (7, 3, .sipush (1600), 12800, 0, []),
  (10, 3, .if_icmp .le (5), 0, 15, []),
  (13, 1, .iconst (-1), 34359738360, 0, []),
  (14, 1, .ireturn, 0, 0, []),
  (15, 1, .iconst 0, 0, 0, []),
  (16, 2, .istore 6, 0, 0, []),
  (18, 2, .iload 6, 0, 0, []),
  (20, 2, .bipush (20), 160, 0, []),
  (22, 3, .if_icmp .ge (83), 0, 105, []),
  (25, 2, .iload 6, 0, 0, []),
  (27, 1, .iconst 4, 32, 0, []),
  (28, 3, .if_icmp .ge (7), 0, 35, []),
  (31, 1, .iload_n 1, 0, 0, []),
  (32, 3, .goto (39), 0, 71, []),
  (35, 2, .iload 6, 0, 0, []),
  (37, 2, .bipush (8), 64, 0, []),
  (39, 3, .if_icmp .ge (7), 0, 46, []),
  (42, 1, .iload_n 2, 0, 0, []),
  (43, 3, .goto (28), 0, 71, []),
  (46, 2, .iload 6, 0, 0, []),
  (48, 2, .bipush (12), 96, 0, []),
  (50, 3, .if_icmp .ge (7), 0, 57, []),
  (53, 1, .iload_n 3, 0, 0, []),
  (54, 3, .goto (17), 0, 71, []),
  (57, 2, .iload 6, 0, 0, []),
  (59, 2, .bipush (16), 128, 0, []),
  (61, 3, .if_icmp .ge (8), 0, 69, []),
  (64, 2, .iload 4, 0, 0, []),
  (66, 3, .goto (5), 0, 71, []),
  (69, 2, .iload 5, 0, 0, []),
  (71, 2, .istore 7, 0, 0, []),
  (73, 1, .aload_n 0, 0, 0, []),
  (74, 3, .getfield 7, 1, 0, [(0, 1441)]),
  (77, 1, .aload_n 0, 0, 0, []),
  (78, 3, .getfield 260, 1, 2, [(0, 1443)]),
  (81, 2, .iload 6, 0, 0, []),
  (83, 1, .iadd, 0, 0, []),
  (84, 2, .iload 7, 0, 0, []),
  (86, 2, .bipush (24), 192, 0, []),
  (88, 2, .bipush (8), 64, 0, []),
  (90, 2, .iload 6, 0, 0, []),
  (92, 1, .iconst 3, 24, 0, []),
  (93, 1, .iand, 0, 0, []),
  (94, 1, .imul, 0, 0, []),
  (95, 1, .isub, 0, 0, []),
  (96, 1, .ishr, 0, 0, []),
  (97, 1, .i2b, 0, 0, []),
  (98, 1, .bastore, 101, 0, []),
  (99, 3, .iinc 6 (1), 8, 0, []),
  (102, 3, .goto (-84), 0, 18, []),
  (105, 1, .aload_n 0, 0, 0, []),
  (106, 1, .dup, 0, 0, []),
  (107, 3, .getfield 260, 1, 2, [(0, 1443)]),
  (110, 2, .bipush (20), 160, 0, []),
  (112, 1, .iadd, 0, 0, []),
  (113, 3, .putfield 260, 1, 2, [(0, 1443)]),
  (116, 1, .aload_n 0, 0, 0, []),
  (117, 3, .getfield 260, 1, 2, [(0, 1443)]),
  (120, 1, .ireturn, 0, 0, [])]
/-- GravyRound.turnFeud (I)I -/
def gc_184 : List ga_E := [(0, 1, .aload_n 0, 0, 0, []),
  (1, 3, .getfield 41, 0, 7, [(0, 670)]),
  (4, 1, .dup, 0, 0, []),
  (5, 3, .getfield 371, 11, 8, [(0, 417)]),
  (8, 1, .iconst 1, 8, 0, []),
  (9, 1, .iload_n 1, 0, 0, []),
  (10, 1, .ishl, 0, 0, []),
  (11, 1, .ixor, 0, 0, []),
  (12, 3, .putfield 371, 11, 8, [(0, 417)]),
  (15, 1, .aload_n 0, 0, 0, []),
  (16, 3, .getfield 51, 0, 9, [(0, 672)]),
  (19, 1, .aload_n 0, 0, 0, []),
  (20, 3, .getfield 41, 0, 7, [(0, 670)]),
  (23, 3, .invokevirtual 168, 81, 0, [(0, 1004)]),
  (26, 1, .aload_n 0, 0, 0, []),
  (27, 3, .getfield 41, 0, 7, [(0, 670)]),
  (30, 3, .invokevirtual 179, 79, 0, [(0, 1020)]),
  (33, 1, .ireturn, 0, 0, [])]
/-- GravyRound.liesOnTheWay (I)Z -/
def gc_185 : List ga_E := [(0, 1, .aload_n 0, 0, 0, []),
  (1, 3, .getfield 41, 0, 7, [(0, 670)]),
  (4, 1, .iload_n 1, 0, 0, []),
  (5, 3, .invokevirtual 157, 301, 0, [(0, 967)]),
  (8, 3, .ifCond .eq (5), 0, 13, []),
  (11, 1, .iconst 0, 0, 0, []),
  (12, 1, .ireturn, 0, 0, []),
  (13, 1, .aload_n 0, 0, 0, []),
  (14, 3, .getfield 41, 0, 7, [(0, 670)]),
  (17, 1, .aload_n 0, 0, 0, []),
  (18, 3, .getfield 20, 0, 4, [(0, 667)]),
  (21, 3, .getfield 151, 4, 5, [(0, 216)]),
  (24, 1, .iload_n 1, 0, 0, []),
  (25, 1, .iaload, 0, 0, []),
  (26, 3, .invokevirtual 122, 299, 0, [(0, 945)]),
  (29, 1, .istore_n 2, 0, 0, []),
  (30, 1, .aload_n 0, 0, 0, []),
  (31, 3, .getfield 41, 0, 7, [(0, 670)]),
  (34, 1, .aload_n 0, 0, 0, []),
  (35, 3, .getfield 20, 0, 4, [(0, 667)]),
  (38, 3, .getfield 154, 4, 6, [(0, 218)]),
  (41, 1, .iload_n 1, 0, 0, []),
  (42, 1, .iaload, 0, 0, []),
  (43, 3, .invokevirtual 122, 299, 0, [(0, 945)]),
  (46, 1, .istore_n 3, 0, 0, []),
  (47, 1, .iload_n 2, 0, 0, []),
  (48, 1, .iload_n 3, 0, 0, []),
  (49, 1, .isub, 0, 0, []),
  (50, 3, .invokestatic 374, 312, 0, [(0, 1150)]),
  (53, 1, .iconst 1, 8, 0, []),
  (54, 3, .if_icmp .ne (22), 0, 76, []),
  (57, 1, .iload_n 2, 0, 0, []),
  (58, 1, .iload_n 3, 0, 0, []),
  (59, 3, .invokestatic 189, 4, 0, [(0, 1040)]),
  (62, 1, .aload_n 0, 0, 0, []),
  (63, 3, .getfield 41, 0, 7, [(0, 670)]),
  (66, 3, .getfield 266, 11, 6, [(0, 412)]),
  (69, 3, .if_icmp .lt (7), 0, 76, []),
  (72, 1, .iconst 1, 8, 0, []),
  (73, 3, .goto (4), 0, 77, []),
  (76, 1, .iconst 0, 0, 0, []),
  (77, 1, .ireturn, 0, 0, [])]
/-- GravyRound.layOrder ()V -/
def gc_186 : List ga_E := [(0, 1, .iconst 0, 0, 0, []),
  (1, 1, .istore_n 1, 0, 0, []),
  (2, 1, .iload_n 1, 0, 0, []),
  (3, 1, .aload_n 0, 0, 0, []),
  (4, 3, .getfield 69, 0, 13, [(0, 676)]),
  (7, 3, .getfield 377, 6, 10, [(0, 503)]),
  (10, 3, .if_icmp .ge (25), 0, 35, []),
  (13, 1, .aload_n 0, 0, 0, []),
  (14, 3, .getfield 62, 0, 12, [(0, 675)]),
  (17, 1, .aload_n 0, 0, 0, []),
  (18, 3, .getfield 69, 0, 13, [(0, 676)]),
  (21, 3, .getfield 380, 6, 9, [(0, 501)]),
  (24, 1, .iload_n 1, 0, 0, []),
  (25, 1, .iaload, 0, 0, []),
  (26, 3, .invokevirtual 256, 290, 0, [(0, 1109)]),
  (29, 3, .iinc 1 (1), 8, 0, []),
  (32, 3, .goto (-30), 0, 2, []),
  (35, 1, .return_, 0, 0, [])]
/-- GravyRound.lowestBit (I)I -/
def gc_187 : List ga_E := [(0, 1, .iconst 0, 0, 0, []),
  (1, 1, .istore_n 1, 0, 0, []),
  (2, 1, .iload_n 1, 0, 0, []),
  (3, 2, .bipush (32), 256, 0, []),
  (5, 3, .if_icmp .ge (20), 0, 25, []),
  (8, 1, .iload_n 0, 0, 0, []),
  (9, 1, .iload_n 1, 0, 0, []),
  (10, 1, .ishr, 0, 0, []),
  (11, 1, .iconst 1, 8, 0, []),
  (12, 1, .iand, 0, 0, []),
  (13, 1, .iconst 1, 8, 0, []),
  (14, 3, .if_icmp .ne (5), 0, 19, []),
  (17, 1, .iload_n 1, 0, 0, []),
  (18, 1, .ireturn, 0, 0, []),
  (19, 3, .iinc 1 (1), 8, 0, []),
  (22, 3, .goto (-20), 0, 2, []),
  (25, 1, .iconst (-1), 34359738360, 0, []),
  (26, 1, .ireturn, 0, 0, [])]
/-- GravyRound.highestBit (I)I -/
def gc_188 : List ga_E := [(0, 2, .bipush (31), 248, 0, []),
  (2, 1, .istore_n 1, 0, 0, []),
  (3, 1, .iload_n 1, 0, 0, []),
  (4, 3, .ifCond .lt (20), 0, 24, []),
  (7, 1, .iload_n 0, 0, 0, []),
  (8, 1, .iload_n 1, 0, 0, []),
  (9, 1, .ishr, 0, 0, []),
  (10, 1, .iconst 1, 8, 0, []),
  (11, 1, .iand, 0, 0, []),
  (12, 1, .iconst 1, 8, 0, []),
  (13, 3, .if_icmp .ne (5), 0, 18, []),
  (16, 1, .iload_n 1, 0, 0, []),
  (17, 1, .ireturn, 0, 0, []),
  (18, 3, .iinc 1 (-1), 34359738360, 0, []),
  (21, 3, .goto (-18), 0, 3, []),
  (24, 1, .iconst (-1), 34359738360, 0, []),
  (25, 1, .ireturn, 0, 0, [])]
/-- GravyRoundModel.isLetter (I)Z -/
def gc_189 : List ga_E := [(0, 1, .iload_n 0, 0, 0, []),
  (1, 2, .bipush (97), 776, 0, []),
  (3, 3, .if_icmp .lt (13), 0, 16, []),
  (6, 1, .iload_n 0, 0, 0, []),
  (7, 2, .bipush (122), 976, 0, []),
  (9, 3, .if_icmp .gt (7), 0, 16, []),
  (12, 1, .iconst 1, 8, 0, []),
  (13, 3, .goto (4), 0, 17, []),
  (16, 1, .iconst 0, 0, 0, []),
  (17, 1, .ireturn, 0, 0, [])]
/-- GravyRoundModel.isDigit (I)Z -/
def gc_190 : List ga_E := [(0, 1, .iload_n 0, 0, 0, []),
  (1, 2, .bipush (48), 384, 0, []),
  (3, 3, .if_icmp .lt (13), 0, 16, []),
  (6, 1, .iload_n 0, 0, 0, []),
  (7, 2, .bipush (57), 456, 0, []),
  (9, 3, .if_icmp .gt (7), 0, 16, []),
  (12, 1, .iconst 1, 8, 0, []),
  (13, 3, .goto (4), 0, 17, []),
  (16, 1, .iconst 0, 0, 0, []),
  (17, 1, .ireturn, 0, 0, [])]
/-- GravyRoundModel.fails (II)V -/
def gc_191 : List ga_E := [(0, 1, .aload_n 0, 0, 0, []),
  (1, 3, .getfield 158, 1, 4, [(0, 1445)]),
  (4, 3, .ifCond .le (4), 0, 8, []),
  (7, 1, .return_, 0, 0, []),
  (8, 1, .aload_n 0, 0, 0, []),
  (9, 1, .iload_n 1, 0, 0, []),
  (10, 3, .putfield 158, 1, 4, [(0, 1445)]),
  (13, 1, .aload_n 0, 0, 0, []),
  (14, 1, .iload_n 2, 0, 0, []),
  (15, 3, .putfield 16, 1, 5, [(0, 1446)]),
  (18, 1, .return_, 0, 0, [])]
/-- GravyRoundModel.isKept (J)Z -/
def gc_192 : List ga_E := [(0, 1, .lload_n 0, 0, 0, []),
  (1, 3, .ldc2_w 161, 3554809715621, 0, [(0, 1655)]),
  (4, 1, .lcmp, 0, 0, []),
  (5, 3, .ifCond .eq (67), 0, 72, []),
  (8, 1, .lload_n 0, 0, 0, []),
  (9, 3, .ldc2_w 163, 3998805076893, 0, [(0, 1656)]),
  (12, 1, .lcmp, 0, 0, []),
  (13, 3, .ifCond .eq (59), 0, 72, []),
  (16, 1, .lload_n 0, 0, 0, []),
  (17, 3, .ldc2_w 165, 15491890109, 0, [(0, 1657)]),
  (20, 1, .lcmp, 0, 0, []),
  (21, 3, .ifCond .eq (51), 0, 72, []),
  (24, 1, .lload_n 0, 0, 0, []),
  (25, 3, .ldc2_w 167, 13743401765, 0, [(0, 1658)]),
  (28, 1, .lcmp, 0, 0, []),
  (29, 3, .ifCond .eq (43), 0, 72, []),
  (32, 1, .lload_n 0, 0, 0, []),
  (33, 3, .ldc2_w 169, 13211732901, 0, [(0, 1659)]),
  (36, 1, .lcmp, 0, 0, []),
  (37, 3, .ifCond .eq (35), 0, 72, []),
  (40, 1, .lload_n 0, 0, 0, []),
  (41, 3, .ldc2_w 171, 14011796389, 0, [(0, 1660)]),
  (44, 1, .lcmp, 0, 0, []),
  (45, 3, .ifCond .eq (27), 0, 72, []),
  (48, 1, .lload_n 0, 0, 0, []),
  (49, 3, .ldc2_w 173, 856637996506013, 0, [(0, 1661)]),
  (52, 1, .lcmp, 0, 0, []),
  (53, 3, .ifCond .eq (19), 0, 72, []),
  (56, 1, .lload_n 0, 0, 0, []),
  (57, 3, .ldc2_w 175, 3416570684317, 0, [(0, 1662)]),
  (60, 1, .lcmp, 0, 0, []),
  (61, 3, .ifCond .eq (11), 0, 72, []),
  (64, 1, .lload_n 0, 0, 0, []),
  (65, 3, .ldc2_w 177, 3724458816413, 0, [(0, 1663)]),
  (68, 1, .lcmp, 0, 0, []),
  (69, 3, .ifCond .ne (7), 0, 76, []),
  (72, 1, .iconst 1, 8, 0, []),
  (73, 3, .goto (4), 0, 77, []),
  (76, 1, .iconst 0, 0, 0, []),
  (77, 1, .istore_n 2, 0, 0, []),
  (78, 1, .iload_n 2, 0, 0, []),
  (79, 3, .ifCond .ne (67), 0, 146, []),
  (82, 1, .lload_n 0, 0, 0, []),
  (83, 3, .ldc2_w 179, 13481741245, 0, [(0, 1664)]),
  (86, 1, .lcmp, 0, 0, []),
  (87, 3, .ifCond .eq (59), 0, 146, []),
  (90, 1, .lload_n 0, 0, 0, []),
  (91, 3, .ldc2_w 181, 14548677541, 0, [(0, 1665)]),
  (94, 1, .lcmp, 0, 0, []),
  (95, 3, .ifCond .eq (51), 0, 146, []),
  (98, 1, .lload_n 0, 0, 0, []),
  (99, 3, .ldc2_w 183, 962396737479469, 0, [(0, 1666)]),
  (102, 1, .lcmp, 0, 0, []),
  (103, 3, .ifCond .eq (43), 0, 146, []),
  (106, 1, .lload_n 0, 0, 0, []),
  (107, 3, .ldc2_w 185, 15488191397, 0, [(0, 1667)]),
  (110, 1, .lcmp, 0, 0, []),
  (111, 3, .ifCond .eq (35), 0, 146, []),
  (114, 1, .lload_n 0, 0, 0, []),
  (115, 3, .ldc2_w 187, 910031287198621, 0, [(0, 1668)]),
  (118, 1, .lcmp, 0, 0, []),
  (119, 3, .ifCond .eq (27), 0, 146, []),
  (122, 1, .lload_n 0, 0, 0, []),
  (123, 3, .ldc2_w 189, 228245, 0, [(0, 1669)]),
  (126, 1, .lcmp, 0, 0, []),
  (127, 3, .ifCond .eq (19), 0, 146, []),
  (130, 1, .lload_n 0, 0, 0, []),
  (131, 3, .ldc2_w 191, 51082021, 0, [(0, 1670)]),
  (134, 1, .lcmp, 0, 0, []),
  (135, 3, .ifCond .eq (11), 0, 146, []),
  (138, 1, .lload_n 0, 0, 0, []),
  (139, 3, .ldc2_w 193, 57899941, 0, [(0, 1671)]),
  (142, 1, .lcmp, 0, 0, []),
  (143, 3, .ifCond .ne (7), 0, 150, []),
  (146, 1, .iconst 1, 8, 0, []),
  (147, 3, .goto (4), 0, 151, []),
  (150, 1, .iconst 0, 0, 0, []),
  (151, 1, .ireturn, 0, 0, [])]
/-- GravyRoundModel.isSign (I)Z -/
def gc_193 : List ga_E := [(0, 1, .iload_n 0, 0, 0, []),
  (1, 2, .bipush (59), 472, 0, []),
  (3, 3, .if_icmp .eq (63), 0, 66, []),
  (6, 1, .iload_n 0, 0, 0, []),
  (7, 2, .bipush (40), 320, 0, []),
  (9, 3, .if_icmp .eq (57), 0, 66, []),
  (12, 1, .iload_n 0, 0, 0, []),
  (13, 2, .bipush (41), 328, 0, []),
  (15, 3, .if_icmp .eq (51), 0, 66, []),
  (18, 1, .iload_n 0, 0, 0, []),
  (19, 2, .bipush (60), 480, 0, []),
  (21, 3, .if_icmp .eq (45), 0, 66, []),
  (24, 1, .iload_n 0, 0, 0, []),
  (25, 2, .bipush (62), 496, 0, []),
  (27, 3, .if_icmp .eq (39), 0, 66, []),
  (30, 1, .iload_n 0, 0, 0, []),
  (31, 2, .bipush (61), 488, 0, []),
  (33, 3, .if_icmp .eq (33), 0, 66, []),
  (36, 1, .iload_n 0, 0, 0, []),
  (37, 2, .bipush (43), 344, 0, []),
  (39, 3, .if_icmp .eq (27), 0, 66, []),
  (42, 1, .iload_n 0, 0, 0, []),
  (43, 2, .bipush (45), 360, 0, []),
  (45, 3, .if_icmp .eq (21), 0, 66, []),
  (48, 1, .iload_n 0, 0, 0, []),
  (49, 2, .bipush (42), 336, 0, []),
  (51, 3, .if_icmp .eq (15), 0, 66, []),
  (54, 1, .iload_n 0, 0, 0, []),
  (55, 2, .bipush (47), 376, 0, []),
  (57, 3, .if_icmp .eq (9), 0, 66, []),
  (60, 1, .iload_n 0, 0, 0, []),
  (61, 2, .bipush (37), 296, 0, []),
  (63, 3, .if_icmp .ne (7), 0, 70, []),
  (66, 1, .iconst 1, 8, 0, []),
  (67, 3, .goto (4), 0, 71, []),
  (70, 1, .iconst 0, 0, 0, []),
  (71, 1, .ireturn, 0, 0, [])]
/-- GravyRoundModel.isSignHere (I)Z -/
def gc_194 : List ga_E := [(0, 1, .aload_n 0, 0, 0, []),
  (1, 3, .getfield 205, 1, 8, [(0, 1449)]),
  (4, 1, .iconst 5, 40, 0, []),
  (5, 3, .if_icmp .ne (19), 0, 24, []),
  (8, 1, .aload_n 0, 0, 0, []),
  (9, 1, .aload_n 0, 0, 0, []),
  (10, 3, .getfield 198, 1, 6, [(0, 1447)]),
  (13, 3, .invokevirtual 201, 180, 0, [(0, 1645)]),
  (16, 1, .iload_n 1, 0, 0, []),
  (17, 3, .if_icmp .ne (7), 0, 24, []),
  (20, 1, .iconst 1, 8, 0, []),
  (21, 3, .goto (4), 0, 25, []),
  (24, 1, .iconst 0, 0, 0, []),
  (25, 1, .ireturn, 0, 0, [])]
/-- GravyRoundModel.isWord (J)Z -/
def gc_195 : List ga_E := [(0, 1, .aload_n 0, 0, 0, []),
  (1, 3, .getfield 205, 1, 8, [(0, 1449)]),
  (4, 1, .iconst 3, 24, 0, []),
  (5, 3, .if_icmp .ne (16), 0, 21, []),
  (8, 1, .aload_n 0, 0, 0, []),
  (9, 3, .getfield 212, 1, 10, [(0, 1451)]),
  (12, 1, .lload_n 1, 0, 0, []),
  (13, 1, .lcmp, 0, 0, []),
  (14, 3, .ifCond .ne (7), 0, 21, []),
  (17, 1, .iconst 1, 8, 0, []),
  (18, 3, .goto (4), 0, 22, []),
  (21, 1, .iconst 0, 0, 0, []),
  (22, 1, .ireturn, 0, 0, [])]
/-- GravyRoundModel.misplaced ()V -/
def gc_196 : List ga_E := [(0, 1, .aload_n 0, 0, 0, []),
  (1, 1, .aload_n 0, 0, 0, []),
  (2, 3, .getfield 205, 1, 8, [(0, 1449)]),
  (5, 1, .iconst 1, 8, 0, []),
  (6, 3, .if_icmp .ne (7), 0, 13, []),
  (9, 1, .iconst 1, 8, 0, []),
  (10, 3, .goto (4), 0, 14, []),
  (13, 1, .iconst 2, 16, 0, []),
  (14, 1, .aload_n 0, 0, 0, []),
  (15, 3, .getfield 198, 1, 6, [(0, 1447)]),
  (18, 3, .invokevirtual 229, 191, 0, [(0, 1702)]),
  (21, 1, .return_, 0, 0, [])]
/-- GravyRoundModel.must (Z)V -/
def gc_197 : List ga_E := [(0, 1, .aload_n 0, 0, 0, []),
  (1, 3, .invokevirtual 233, 88, 0, [(0, 1678)]),
  (4, 3, .ifCond .ne (4), 0, 8, []),
  (7, 1, .return_, 0, 0, []),
  (8, 1, .iload_n 1, 0, 0, []),
  (9, 3, .ifCond .eq (10), 0, 19, []),
  (12, 1, .aload_n 0, 0, 0, []),
  (13, 3, .invokevirtual 237, 179, 0, [(0, 1641)]),
  (16, 3, .goto (7), 0, 23, []),
  (19, 1, .aload_n 0, 0, 0, []),
  (20, 3, .invokevirtual 240, 196, 0, [(0, 1698)]),
  (23, 1, .return_, 0, 0, [])]
/-- GravyRoundModel.numeral (II)I -/
def gc_198 : List ga_E := [(0, 1, .aload_n 0, 0, 0, []),
  (1, 3, .invokevirtual 233, 88, 0, [(0, 1678)]),
  (4, 3, .ifCond .ne (5), 0, 9, []),
  (7, 1, .iload_n 1, 0, 0, []),
  (8, 1, .ireturn, 0, 0, []),
  (9, 1, .aload_n 0, 0, 0, []),
  (10, 3, .getfield 205, 1, 8, [(0, 1449)]),
  (13, 1, .iconst 4, 32, 0, []),
  (14, 3, .if_icmp .eq (7), 0, 21, []),
  (17, 1, .aload_n 0, 0, 0, []),
  (18, 3, .invokevirtual 240, 196, 0, [(0, 1698)]),
  (21, 1, .aload_n 0, 0, 0, []),
  (22, 3, .invokevirtual 233, 88, 0, [(0, 1678)]),
  (25, 3, .ifCond .eq (28), 0, 53, []),
  (28, 1, .aload_n 0, 0, 0, []),
  (29, 3, .getfield 223, 1, 9, [(0, 1450)]),
  (32, 1, .iload_n 1, 0, 0, []),
  (33, 3, .if_icmp .lt (11), 0, 44, []),
  (36, 1, .aload_n 0, 0, 0, []),
  (37, 3, .getfield 223, 1, 9, [(0, 1450)]),
  (40, 1, .iload_n 2, 0, 0, []),
  (41, 3, .if_icmp .le (12), 0, 53, []),
  (44, 1, .aload_n 0, 0, 0, []),
  (45, 1, .iconst 4, 32, 0, []),
  (46, 1, .aload_n 0, 0, 0, []),
  (47, 3, .getfield 198, 1, 6, [(0, 1447)]),
  (50, 3, .invokevirtual 229, 191, 0, [(0, 1702)]),
  (53, 1, .aload_n 0, 0, 0, []),
  (54, 3, .getfield 223, 1, 9, [(0, 1450)]),
  (57, 1, .istore_n 3, 0, 0, []),
  (58, 1, .aload_n 0, 0, 0, []),
  (59, 3, .invokevirtual 233, 88, 0, [(0, 1678)]),
  (62, 3, .ifCond .eq (7), 0, 69, []),
  (65, 1, .aload_n 0, 0, 0, []),
  (66, 3, .invokevirtual 237, 179, 0, [(0, 1641)]),
  (69, 1, .aload_n 0, 0, 0, []),
  (70, 3, .invokevirtual 233, 88, 0, [(0, 1678)]),
  (73, 3, .ifCond .eq (7), 0, 80, []),
  (76, 1, .iload_n 3, 0, 0, []),
  (77, 3, .goto (4), 0, 81, []),
  (80, 1, .iload_n 1, 0, 0, []),
  (81, 1, .ireturn, 0, 0, [])]
/-- GravyRoundModel.after (JII)I -/
def gc_199 : List ga_E := [(0, 1, .aload_n 0, 0, 0, []),
  (1, 1, .aload_n 0, 0, 0, []),
  (2, 1, .lload_n 1, 0, 0, []),
  (3, 3, .invokevirtual 243, 195, 0, [(0, 1690)]),
  (6, 3, .invokevirtual 246, 197, 0, [(0, 1714)]),
  (9, 1, .aload_n 0, 0, 0, []),
  (10, 1, .iload_n 3, 0, 0, []),
  (11, 2, .iload 4, 0, 0, []),
  (13, 3, .invokevirtual 250, 198, 0, [(0, 1722)]),
  (16, 1, .ireturn, 0, 0, [])]
/-- GravyRoundModel.onceHere ()I -/
def gc_200 : List ga_E := [(0, 1, .aload_n 0, 0, 0, []),
  (1, 3, .ldc2_w 169, 13211732901, 0, [(0, 1659)]),
  (4, 3, .invokevirtual 243, 195, 0, [(0, 1690)]),
  (7, 3, .ifCond .eq (5), 0, 12, []),
  (10, 1, .iconst 0, 0, 0, []),
  (11, 1, .ireturn, 0, 0, []),
  (12, 1, .aload_n 0, 0, 0, []),
  (13, 3, .ldc2_w 171, 14011796389, 0, [(0, 1660)]),
  (16, 3, .invokevirtual 243, 195, 0, [(0, 1690)]),
  (19, 3, .ifCond .eq (5), 0, 24, []),
  (22, 1, .iconst 1, 8, 0, []),
  (23, 1, .ireturn, 0, 0, []),
  (24, 1, .aload_n 0, 0, 0, []),
  (25, 3, .ldc2_w 173, 856637996506013, 0, [(0, 1661)]),
  (28, 3, .invokevirtual 243, 195, 0, [(0, 1690)]),
  (31, 3, .ifCond .eq (5), 0, 36, []),
  (34, 1, .iconst 2, 16, 0, []),
  (35, 1, .ireturn, 0, 0, []),
  (36, 1, .aload_n 0, 0, 0, []),
  (37, 3, .ldc2_w 175, 3416570684317, 0, [(0, 1662)]),
  (40, 3, .invokevirtual 243, 195, 0, [(0, 1690)]),
  (43, 3, .ifCond .eq (5), 0, 48, []),
  (46, 1, .iconst 3, 24, 0, []),
  (47, 1, .ireturn, 0, 0, []),
  (48, 1, .aload_n 0, 0, 0, []),
  (49, 3, .ldc2_w 177, 3724458816413, 0, [(0, 1663)]),
  (52, 3, .invokevirtual 243, 195, 0, [(0, 1690)]),
  (55, 3, .ifCond .eq (5), 0, 60, []),
  (58, 1, .iconst 4, 32, 0, []),
  (59, 1, .ireturn, 0, 0, []),
  (60, 1, .aload_n 0, 0, 0, []),
  (61, 3, .ldc2_w 179, 13481741245, 0, [(0, 1664)]),
  (64, 3, .invokevirtual 243, 195, 0, [(0, 1690)]),
  (67, 3, .ifCond .eq (7), 0, 74, []),
  (70, 1, .iconst 5, 40, 0, []),
  (71, 3, .goto (4), 0, 75, []),
  (74, 1, .iconst (-1), 34359738360, 0, []),
  (75, 1, .ireturn, 0, 0, [])]
/-- GravyRoundModel.isFull ()Z -/
def gc_201 : List ga_E := [(0, 1, .aload_n 0, 0, 0, []),
  (1, 3, .ldc2_w 161, 3554809715621, 0, [(0, 1655)]),
  (4, 3, .invokevirtual 243, 195, 0, [(0, 1690)]),
  (7, 3, .ifCond .eq (23), 0, 30, []),
  (10, 1, .aload_n 0, 0, 0, []),
  (11, 3, .getfield 20, 1, 11, [(0, 1452)]),
  (14, 1, .aload_n 0, 0, 0, []),
  (15, 3, .getfield 254, 1, 33, [(0, 1474)]),
  (18, 1, .iaload, 0, 0, []),
  (19, 2, .bipush (7), 56, 0, []),
  (21, 3, .if_icmp .ne (7), 0, 28, []),
  (24, 1, .iconst 1, 8, 0, []),
  (25, 3, .goto (4), 0, 29, []),
  (28, 1, .iconst 0, 0, 0, []),
  (29, 1, .ireturn, 0, 0, []),
  (30, 1, .aload_n 0, 0, 0, []),
  (31, 3, .ldc2_w 167, 13743401765, 0, [(0, 1658)]),
  (34, 3, .invokevirtual 243, 195, 0, [(0, 1690)]),
  (37, 3, .ifCond .eq (23), 0, 60, []),
  (40, 1, .aload_n 0, 0, 0, []),
  (41, 3, .getfield 24, 1, 12, [(0, 1453)]),
  (44, 1, .aload_n 0, 0, 0, []),
  (45, 3, .getfield 254, 1, 33, [(0, 1474)]),
  (48, 1, .iaload, 0, 0, []),
  (49, 2, .bipush (10), 80, 0, []),
  (51, 3, .if_icmp .ne (7), 0, 58, []),
  (54, 1, .iconst 1, 8, 0, []),
  (55, 3, .goto (4), 0, 59, []),
  (58, 1, .iconst 0, 0, 0, []),
  (59, 1, .ireturn, 0, 0, []),
  (60, 1, .aload_n 0, 0, 0, []),
  (61, 3, .invokevirtual 269, 200, 0, [(0, 1694)]),
  (64, 3, .ifCond .lt (22), 0, 86, []),
  (67, 1, .aload_n 0, 0, 0, []),
  (68, 3, .getfield 45, 1, 19, [(0, 1460)]),
  (71, 1, .aload_n 0, 0, 0, []),
  (72, 3, .getfield 254, 1, 33, [(0, 1474)]),
  (75, 1, .iaload, 0, 0, []),
  (76, 1, .aload_n 0, 0, 0, []),
  (77, 3, .invokevirtual 269, 200, 0, [(0, 1694)]),
  (80, 3, .invokestatic 273, 8, 0, [(0, 1438)]),
  (83, 3, .ifCond .eq (7), 0, 90, []),
  (86, 1, .iconst 1, 8, 0, []),
  (87, 3, .goto (4), 0, 91, []),
  (90, 1, .iconst 0, 0, 0, []),
  (91, 1, .ireturn, 0, 0, [])]
/-- GravyRoundModel.readLine ()V -/
def gc_202 : List ga_E := [(0, 1, .aload_n 0, 0, 0, []),
  (1, 3, .getfield 212, 1, 10, [(0, 1451)]),
  (4, 1, .lstore_n 1, 0, 0, []),
  (5, 1, .aload_n 0, 0, 0, []),
  (6, 3, .getfield 205, 1, 8, [(0, 1449)]),
  (9, 1, .iconst 3, 24, 0, []),
  (10, 3, .if_icmp .ne (10), 0, 20, []),
  (13, 1, .aload_n 0, 0, 0, []),
  (14, 3, .invokevirtual 277, 201, 0, [(0, 1686)]),
  (17, 3, .ifCond .eq (7), 0, 24, []),
  (20, 1, .aload_n 0, 0, 0, []),
  (21, 3, .invokevirtual 240, 196, 0, [(0, 1698)]),
  (24, 1, .aload_n 0, 0, 0, []),
  (25, 3, .invokevirtual 233, 88, 0, [(0, 1678)]),
  (28, 3, .ifCond .ne (4), 0, 32, []),
  (31, 1, .return_, 0, 0, []),
  (32, 1, .aload_n 0, 0, 0, []),
  (33, 3, .invokevirtual 269, 200, 0, [(0, 1694)]),
  (36, 3, .ifCond .lt (21), 0, 57, []),
  (39, 1, .aload_n 0, 0, 0, []),
  (40, 3, .getfield 45, 1, 19, [(0, 1460)]),
  (43, 1, .aload_n 0, 0, 0, []),
  (44, 3, .getfield 254, 1, 33, [(0, 1474)]),
  (47, 1, .dup2, 0, 0, []),
  (48, 1, .iaload, 0, 0, []),
  (49, 1, .iconst 1, 8, 0, []),
  (50, 1, .aload_n 0, 0, 0, []),
  (51, 3, .invokevirtual 269, 200, 0, [(0, 1694)]),
  (54, 1, .ishl, 0, 0, []),
  (55, 1, .ior, 0, 0, []),
  (56, 1, .iastore, 0, 0, []),
  (57, 1, .aload_n 0, 0, 0, []),
  (58, 3, .invokevirtual 237, 179, 0, [(0, 1641)]),
  (61, 1, .lload_n 1, 0, 0, []),
  (62, 3, .ldc2_w 161, 3554809715621, 0, [(0, 1655)]),
  (65, 1, .lcmp, 0, 0, []),
  (66, 3, .ifCond .ne (7), 0, 73, []),
  (69, 1, .aload_n 0, 0, 0, []),
  (70, 3, .invokevirtual 280, 204, 0, [(0, 1706)]),
  (73, 1, .lload_n 1, 0, 0, []),
  (74, 3, .ldc2_w 167, 13743401765, 0, [(0, 1658)]),
  (77, 1, .lcmp, 0, 0, []),
  (78, 3, .ifCond .ne (7), 0, 85, []),
  (81, 1, .aload_n 0, 0, 0, []),
  (82, 3, .invokevirtual 283, 206, 0, [(0, 1726)]),
  (85, 1, .lload_n 1, 0, 0, []),
  (86, 3, .ldc2_w 169, 13211732901, 0, [(0, 1659)]),
  (89, 1, .lcmp, 0, 0, []),
  (90, 3, .ifCond .ne (19), 0, 109, []),
  (93, 1, .aload_n 0, 0, 0, []),
  (94, 3, .getfield 30, 1, 14, [(0, 1455)]),
  (97, 1, .aload_n 0, 0, 0, []),
  (98, 3, .getfield 254, 1, 33, [(0, 1474)]),
  (101, 1, .aload_n 0, 0, 0, []),
  (102, 1, .iconst 0, 0, 0, []),
  (103, 2, .bipush (99), 792, 0, []),
  (105, 3, .invokevirtual 250, 198, 0, [(0, 1722)]),
  (108, 1, .iastore, 0, 0, []),
  (109, 1, .lload_n 1, 0, 0, []),
  (110, 3, .ldc2_w 171, 14011796389, 0, [(0, 1660)]),
  (113, 1, .lcmp, 0, 0, []),
  (114, 3, .ifCond .ne (19), 0, 133, []),
  (117, 1, .aload_n 0, 0, 0, []),
  (118, 3, .getfield 33, 1, 15, [(0, 1456)]),
  (121, 1, .aload_n 0, 0, 0, []),
  (122, 3, .getfield 254, 1, 33, [(0, 1474)]),
  (125, 1, .aload_n 0, 0, 0, []),
  (126, 1, .iconst 0, 0, 0, []),
  (127, 2, .bipush (99), 792, 0, []),
  (129, 3, .invokevirtual 250, 198, 0, [(0, 1722)]),
  (132, 1, .iastore, 0, 0, []),
  (133, 1, .lload_n 1, 0, 0, []),
  (134, 3, .ldc2_w 173, 856637996506013, 0, [(0, 1661)]),
  (137, 1, .lcmp, 0, 0, []),
  (138, 3, .ifCond .ne (19), 0, 157, []),
  (141, 1, .aload_n 0, 0, 0, []),
  (142, 3, .getfield 36, 1, 16, [(0, 1457)]),
  (145, 1, .aload_n 0, 0, 0, []),
  (146, 3, .getfield 254, 1, 33, [(0, 1474)]),
  (149, 1, .aload_n 0, 0, 0, []),
  (150, 1, .iconst 0, 0, 0, []),
  (151, 2, .bipush (9), 72, 0, []),
  (153, 3, .invokevirtual 250, 198, 0, [(0, 1722)]),
  (156, 1, .iastore, 0, 0, []),
  (157, 1, .lload_n 1, 0, 0, []),
  (158, 3, .ldc2_w 175, 3416570684317, 0, [(0, 1662)]),
  (161, 1, .lcmp, 0, 0, []),
  (162, 3, .ifCond .ne (7), 0, 169, []),
  (165, 1, .aload_n 0, 0, 0, []),
  (166, 3, .invokevirtual 286, 207, 0, [(0, 1734)]),
  (169, 1, .lload_n 1, 0, 0, []),
  (170, 3, .ldc2_w 177, 3724458816413, 0, [(0, 1663)]),
  (173, 1, .lcmp, 0, 0, []),
  (174, 3, .ifCond .ne (19), 0, 193, []),
  (177, 1, .aload_n 0, 0, 0, []),
  (178, 3, .getfield 39, 1, 17, [(0, 1458)]),
  (181, 1, .aload_n 0, 0, 0, []),
  (182, 3, .getfield 254, 1, 33, [(0, 1474)]),
  (185, 1, .aload_n 0, 0, 0, []),
  (186, 1, .iconst 0, 0, 0, []),
  (187, 2, .bipush (100), 800, 0, []),
  (189, 3, .invokevirtual 250, 198, 0, [(0, 1722)]),
  (192, 1, .iastore, 0, 0, []),
  (193, 1, .lload_n 1, 0, 0, []),
  (194, 3, .ldc2_w 179, 13481741245, 0, [(0, 1664)]),
  (197, 1, .lcmp, 0, 0, []),
  (198, 3, .ifCond .ne (20), 0, 218, []),
  (201, 1, .aload_n 0, 0, 0, []),
  (202, 3, .getfield 42, 1, 18, [(0, 1459)]),
  (205, 1, .aload_n 0, 0, 0, []),
  (206, 3, .getfield 254, 1, 33, [(0, 1474)]),
  (209, 1, .aload_n 0, 0, 0, []),
  (210, 1, .iconst 0, 0, 0, []),
  (211, 3, .sipush (999), 7992, 0, []),
  (214, 3, .invokevirtual 250, 198, 0, [(0, 1722)]),
  (217, 1, .iastore, 0, 0, []),
  (218, 1, .aload_n 0, 0, 0, []),
  (219, 1, .aload_n 0, 0, 0, []),
  (220, 2, .bipush (59), 472, 0, []),
  (222, 3, .invokevirtual 289, 194, 0, [(0, 1750)]),
  (225, 3, .invokevirtual 246, 197, 0, [(0, 1714)]),
  (228, 1, .return_, 0, 0, [])]
/-- GravyRoundModel.here ()I -/
def gc_203 : List ga_E := [(0, 1, .iconst 0, 0, 0, []),
  (1, 1, .istore_n 1, 0, 0, []),
  (2, 1, .iload_n 1, 0, 0, []),
  (3, 1, .aload_n 0, 0, 0, []),
  (4, 3, .getfield 20, 1, 11, [(0, 1452)]),
  (7, 1, .aload_n 0, 0, 0, []),
  (8, 3, .getfield 254, 1, 33, [(0, 1474)]),
  (11, 1, .iaload, 0, 0, []),
  (12, 3, .if_icmp .ge (41), 0, 53, []),
  (15, 1, .aload_n 0, 0, 0, []),
  (16, 3, .getfield 205, 1, 8, [(0, 1449)]),
  (19, 1, .iconst 2, 16, 0, []),
  (20, 3, .if_icmp .ne (27), 0, 47, []),
  (23, 1, .aload_n 0, 0, 0, []),
  (24, 3, .getfield 66, 1, 26, [(0, 1467)]),
  (27, 2, .bipush (7), 56, 0, []),
  (29, 1, .aload_n 0, 0, 0, []),
  (30, 3, .getfield 254, 1, 33, [(0, 1474)]),
  (33, 1, .imul, 0, 0, []),
  (34, 1, .iload_n 1, 0, 0, []),
  (35, 1, .iadd, 0, 0, []),
  (36, 1, .laload, 0, 0, []),
  (37, 1, .aload_n 0, 0, 0, []),
  (38, 3, .getfield 212, 1, 10, [(0, 1451)]),
  (41, 1, .lcmp, 0, 0, []),
  (42, 3, .ifCond .ne (5), 0, 47, []),
  (45, 1, .iload_n 1, 0, 0, []),
  (46, 1, .ireturn, 0, 0, []),
  (47, 3, .iinc 1 (1), 8, 0, []),
  (50, 3, .goto (-48), 0, 2, []),
  (53, 1, .iconst (-1), 34359738360, 0, []),
  (54, 1, .ireturn, 0, 0, [])]
/-- GravyRoundModel.readGuest ()V -/
def gc_204 : List ga_E := [(0, 2, .bipush (7), 56, 0, []),
  (2, 1, .aload_n 0, 0, 0, []),
  (3, 3, .getfield 254, 1, 33, [(0, 1474)]),
  (6, 1, .imul, 0, 0, []),
  (7, 1, .aload_n 0, 0, 0, []),
  (8, 3, .getfield 20, 1, 11, [(0, 1452)]),
  (11, 1, .aload_n 0, 0, 0, []),
  (12, 3, .getfield 254, 1, 33, [(0, 1474)]),
  (15, 1, .iaload, 0, 0, []),
  (16, 1, .iadd, 0, 0, []),
  (17, 1, .istore_n 1, 0, 0, []),
  (18, 1, .aload_n 0, 0, 0, []),
  (19, 3, .invokevirtual 292, 203, 0, [(0, 1710)]),
  (22, 3, .ifCond .lt (12), 0, 34, []),
  (25, 1, .aload_n 0, 0, 0, []),
  (26, 1, .iconst 3, 24, 0, []),
  (27, 1, .aload_n 0, 0, 0, []),
  (28, 3, .getfield 198, 1, 6, [(0, 1447)]),
  (31, 3, .invokevirtual 229, 191, 0, [(0, 1702)]),
  (34, 1, .aload_n 0, 0, 0, []),
  (35, 3, .getfield 66, 1, 26, [(0, 1467)]),
  (38, 1, .iload_n 1, 0, 0, []),
  (39, 1, .aload_n 0, 0, 0, []),
  (40, 3, .getfield 212, 1, 10, [(0, 1451)]),
  (43, 1, .lastore, 0, 0, []),
  (44, 1, .aload_n 0, 0, 0, []),
  (45, 1, .aload_n 0, 0, 0, []),
  (46, 3, .getfield 205, 1, 8, [(0, 1449)]),
  (49, 1, .iconst 2, 16, 0, []),
  (50, 3, .if_icmp .ne (7), 0, 57, []),
  (53, 1, .iconst 1, 8, 0, []),
  (54, 3, .goto (4), 0, 58, []),
  (57, 1, .iconst 0, 0, 0, []),
  (58, 3, .invokevirtual 246, 197, 0, [(0, 1714)]),
  (61, 1, .aload_n 0, 0, 0, []),
  (62, 3, .getfield 48, 1, 20, [(0, 1461)]),
  (65, 1, .iload_n 1, 0, 0, []),
  (66, 1, .aload_n 0, 0, 0, []),
  (67, 3, .ldc2_w 163, 3998805076893, 0, [(0, 1656)]),
  (70, 1, .iconst 0, 0, 0, []),
  (71, 2, .bipush (20), 160, 0, []),
  (73, 3, .invokevirtual 295, 199, 0, [(0, 1718)]),
  (76, 1, .iastore, 0, 0, []),
  (77, 1, .aload_n 0, 0, 0, []),
  (78, 3, .getfield 51, 1, 21, [(0, 1462)]),
  (81, 1, .iload_n 1, 0, 0, []),
  (82, 1, .aload_n 0, 0, 0, []),
  (83, 3, .ldc2_w 165, 15491890109, 0, [(0, 1657)]),
  (86, 1, .iconst 1, 8, 0, []),
  (87, 2, .bipush (9), 72, 0, []),
  (89, 3, .invokevirtual 295, 199, 0, [(0, 1718)]),
  (92, 1, .iastore, 0, 0, []),
  (93, 1, .aload_n 0, 0, 0, []),
  (94, 3, .getfield 20, 1, 11, [(0, 1452)]),
  (97, 1, .aload_n 0, 0, 0, []),
  (98, 3, .getfield 254, 1, 33, [(0, 1474)]),
  (101, 1, .dup2, 0, 0, []),
  (102, 1, .iaload, 0, 0, []),
  (103, 1, .iconst 1, 8, 0, []),
  (104, 1, .iadd, 0, 0, []),
  (105, 1, .iastore, 0, 0, []),
  (106, 1, .return_, 0, 0, [])]
/-- GravyRoundModel.someone ()I -/
def gc_205 : List ga_E := [(0, 1, .aload_n 0, 0, 0, []),
  (1, 3, .invokevirtual 233, 88, 0, [(0, 1678)]),
  (4, 3, .ifCond .ne (5), 0, 9, []),
  (7, 1, .iconst 0, 0, 0, []),
  (8, 1, .ireturn, 0, 0, []),
  (9, 1, .aload_n 0, 0, 0, []),
  (10, 3, .invokevirtual 292, 203, 0, [(0, 1710)]),
  (13, 1, .istore_n 1, 0, 0, []),
  (14, 1, .aload_n 0, 0, 0, []),
  (15, 3, .getfield 205, 1, 8, [(0, 1449)]),
  (18, 1, .iconst 2, 16, 0, []),
  (19, 3, .if_icmp .eq (10), 0, 29, []),
  (22, 1, .aload_n 0, 0, 0, []),
  (23, 3, .invokevirtual 240, 196, 0, [(0, 1698)]),
  (26, 3, .goto (23), 0, 49, []),
  (29, 1, .iload_n 1, 0, 0, []),
  (30, 3, .ifCond .ge (15), 0, 45, []),
  (33, 1, .aload_n 0, 0, 0, []),
  (34, 1, .iconst 5, 40, 0, []),
  (35, 1, .aload_n 0, 0, 0, []),
  (36, 3, .getfield 198, 1, 6, [(0, 1447)]),
  (39, 3, .invokevirtual 229, 191, 0, [(0, 1702)]),
  (42, 3, .goto (7), 0, 49, []),
  (45, 1, .aload_n 0, 0, 0, []),
  (46, 3, .invokevirtual 237, 179, 0, [(0, 1641)]),
  (49, 1, .iload_n 1, 0, 0, []),
  (50, 3, .ifCond .ge (7), 0, 57, []),
  (53, 1, .iconst 0, 0, 0, []),
  (54, 3, .goto (4), 0, 58, []),
  (57, 1, .iload_n 1, 0, 0, []),
  (58, 1, .ireturn, 0, 0, [])]
/-- GravyRoundModel.readFeud ()V -/
def gc_206 : List ga_E := [(0, 2, .bipush (10), 80, 0, []),
  (2, 1, .aload_n 0, 0, 0, []),
  (3, 3, .getfield 254, 1, 33, [(0, 1474)]),
  (6, 1, .imul, 0, 0, []),
  (7, 1, .aload_n 0, 0, 0, []),
  (8, 3, .getfield 24, 1, 12, [(0, 1453)]),
  (11, 1, .aload_n 0, 0, 0, []),
  (12, 3, .getfield 254, 1, 33, [(0, 1474)]),
  (15, 1, .iaload, 0, 0, []),
  (16, 1, .iadd, 0, 0, []),
  (17, 1, .istore_n 1, 0, 0, []),
  (18, 1, .aload_n 0, 0, 0, []),
  (19, 3, .invokevirtual 299, 205, 0, [(0, 1730)]),
  (22, 1, .istore_n 2, 0, 0, []),
  (23, 1, .aload_n 0, 0, 0, []),
  (24, 3, .invokevirtual 233, 88, 0, [(0, 1678)]),
  (27, 3, .ifCond .ne (4), 0, 31, []),
  (30, 1, .return_, 0, 0, []),
  (31, 1, .aload_n 0, 0, 0, []),
  (32, 3, .invokevirtual 292, 203, 0, [(0, 1710)]),
  (35, 1, .istore_n 3, 0, 0, []),
  (36, 1, .iload_n 3, 0, 0, []),
  (37, 1, .iload_n 2, 0, 0, []),
  (38, 3, .if_icmp .ne (7), 0, 45, []),
  (41, 1, .iconst 1, 8, 0, []),
  (42, 3, .goto (4), 0, 46, []),
  (45, 1, .iconst 0, 0, 0, []),
  (46, 2, .istore 4, 0, 0, []),
  (48, 2, .bipush (10), 80, 0, []),
  (50, 1, .aload_n 0, 0, 0, []),
  (51, 3, .getfield 254, 1, 33, [(0, 1474)]),
  (54, 1, .imul, 0, 0, []),
  (55, 2, .istore 5, 0, 0, []),
  (57, 2, .iload 5, 0, 0, []),
  (59, 1, .iload_n 1, 0, 0, []),
  (60, 3, .if_icmp .ge (65), 0, 125, []),
  (63, 2, .iload 4, 0, 0, []),
  (65, 3, .ifCond .ne (47), 0, 112, []),
  (68, 1, .aload_n 0, 0, 0, []),
  (69, 3, .getfield 54, 1, 22, [(0, 1463)]),
  (72, 2, .iload 5, 0, 0, []),
  (74, 1, .iaload, 0, 0, []),
  (75, 1, .iload_n 2, 0, 0, []),
  (76, 3, .if_icmp .ne (14), 0, 90, []),
  (79, 1, .aload_n 0, 0, 0, []),
  (80, 3, .getfield 57, 1, 23, [(0, 1464)]),
  (83, 2, .iload 5, 0, 0, []),
  (85, 1, .iaload, 0, 0, []),
  (86, 1, .iload_n 3, 0, 0, []),
  (87, 3, .if_icmp .eq (25), 0, 112, []),
  (90, 1, .aload_n 0, 0, 0, []),
  (91, 3, .getfield 54, 1, 22, [(0, 1463)]),
  (94, 2, .iload 5, 0, 0, []),
  (96, 1, .iaload, 0, 0, []),
  (97, 1, .iload_n 3, 0, 0, []),
  (98, 3, .if_icmp .ne (18), 0, 116, []),
  (101, 1, .aload_n 0, 0, 0, []),
  (102, 3, .getfield 57, 1, 23, [(0, 1464)]),
  (105, 2, .iload 5, 0, 0, []),
  (107, 1, .iaload, 0, 0, []),
  (108, 1, .iload_n 2, 0, 0, []),
  (109, 3, .if_icmp .ne (7), 0, 116, []),
  (112, 1, .iconst 1, 8, 0, []),
  (113, 3, .goto (4), 0, 117, []),
  (116, 1, .iconst 0, 0, 0, []),
  (117, 2, .istore 4, 0, 0, []),
  (119, 3, .iinc 5 (1), 8, 0, []),
  (122, 3, .goto (-65), 0, 57, []),
  (125, 1, .iload_n 3, 0, 0, []),
  (126, 3, .ifCond .lt (17), 0, 143, []),
  (129, 2, .iload 4, 0, 0, []),
  (131, 3, .ifCond .eq (12), 0, 143, []),
  (134, 1, .aload_n 0, 0, 0, []),
  (135, 1, .iconst 3, 24, 0, []),
  (136, 1, .aload_n 0, 0, 0, []),
  (137, 3, .getfield 198, 1, 6, [(0, 1447)]),
  (140, 3, .invokevirtual 229, 191, 0, [(0, 1702)]),
  (143, 1, .aload_n 0, 0, 0, []),
  (144, 3, .getfield 54, 1, 22, [(0, 1463)]),
  (147, 1, .iload_n 1, 0, 0, []),
  (148, 1, .iload_n 2, 0, 0, []),
  (149, 1, .iastore, 0, 0, []),
  (150, 1, .aload_n 0, 0, 0, []),
  (151, 3, .getfield 57, 1, 23, [(0, 1464)]),
  (154, 1, .iload_n 1, 0, 0, []),
  (155, 1, .aload_n 0, 0, 0, []),
  (156, 3, .invokevirtual 299, 205, 0, [(0, 1730)]),
  (159, 1, .iastore, 0, 0, []),
  (160, 1, .aload_n 0, 0, 0, []),
  (161, 3, .getfield 24, 1, 12, [(0, 1453)]),
  (164, 1, .aload_n 0, 0, 0, []),
  (165, 3, .getfield 254, 1, 33, [(0, 1474)]),
  (168, 1, .dup2, 0, 0, []),
  (169, 1, .iaload, 0, 0, []),
  (170, 1, .iconst 1, 8, 0, []),
  (171, 1, .iadd, 0, 0, []),
  (172, 1, .iastore, 0, 0, []),
  (173, 1, .return_, 0, 0, [])]
/-- GravyRoundModel.readRule ()V -/
def gc_207 : List ga_E := [(0, 1, .aload_n 0, 0, 0, []),
  (1, 1, .iconst 0, 0, 0, []),
  (2, 3, .putfield 302, 1, 37, [(0, 1478)]),
  (5, 1, .aload_n 0, 0, 0, []),
  (6, 3, .getfield 60, 1, 24, [(0, 1465)]),
  (9, 1, .aload_n 0, 0, 0, []),
  (10, 3, .getfield 254, 1, 33, [(0, 1474)]),
  (13, 1, .aload_n 0, 0, 0, []),
  (14, 3, .getfield 257, 1, 34, [(0, 1475)]),
  (17, 1, .iastore, 0, 0, []),
  (18, 1, .aload_n 0, 0, 0, []),
  (19, 3, .invokevirtual 305, 210, 0, [(0, 1738)]),
  (22, 1, .aload_n 0, 0, 0, []),
  (23, 3, .getfield 63, 1, 25, [(0, 1466)]),
  (26, 1, .aload_n 0, 0, 0, []),
  (27, 3, .getfield 254, 1, 33, [(0, 1474)]),
  (30, 1, .aload_n 0, 0, 0, []),
  (31, 3, .getfield 257, 1, 34, [(0, 1475)]),
  (34, 1, .iastore, 0, 0, []),
  (35, 1, .return_, 0, 0, [])]
/-- GravyRoundModel.emit (II)V -/
def gc_208 : List ga_E := [(0, 1, .aload_n 0, 0, 0, []),
  (1, 3, .getfield 70, 1, 27, [(0, 1468)]),
  (4, 1, .aload_n 0, 0, 0, []),
  (5, 3, .getfield 257, 1, 34, [(0, 1475)]),
  (8, 1, .iload_n 1, 0, 0, []),
  (9, 1, .iastore, 0, 0, []),
  (10, 1, .aload_n 0, 0, 0, []),
  (11, 3, .getfield 73, 1, 28, [(0, 1469)]),
  (14, 1, .aload_n 0, 0, 0, []),
  (15, 3, .getfield 257, 1, 34, [(0, 1475)]),
  (18, 1, .iload_n 2, 0, 0, []),
  (19, 1, .iastore, 0, 0, []),
  (20, 1, .aload_n 0, 0, 0, []),
  (21, 1, .dup, 0, 0, []),
  (22, 3, .getfield 257, 1, 34, [(0, 1475)]),
  (25, 1, .iconst 1, 8, 0, []),
  (26, 1, .iadd, 0, 0, []),
  (27, 3, .putfield 257, 1, 34, [(0, 1475)]),
  (30, 1, .return_, 0, 0, [])]
/-- GravyRoundModel.pushE (II)V -/
def gc_209 : List ga_E := [(0, 1, .aload_n 0, 0, 0, []),
  (1, 3, .getfield 76, 1, 29, [(0, 1470)]),
  (4, 1, .aload_n 0, 0, 0, []),
  (5, 3, .getfield 308, 1, 36, [(0, 1477)]),
  (8, 1, .iload_n 1, 0, 0, []),
  (9, 1, .iastore, 0, 0, []),
  (10, 1, .aload_n 0, 0, 0, []),
  (11, 3, .getfield 79, 1, 30, [(0, 1471)]),
  (14, 1, .aload_n 0, 0, 0, []),
  (15, 3, .getfield 308, 1, 36, [(0, 1477)]),
  (18, 1, .iload_n 2, 0, 0, []),
  (19, 1, .iastore, 0, 0, []),
  (20, 1, .aload_n 0, 0, 0, []),
  (21, 1, .dup, 0, 0, []),
  (22, 3, .getfield 308, 1, 36, [(0, 1477)]),
  (25, 1, .iconst 1, 8, 0, []),
  (26, 1, .iadd, 0, 0, []),
  (27, 3, .putfield 308, 1, 36, [(0, 1477)]),
  (30, 1, .return_, 0, 0, [])]
/-- GravyRoundModel.e ()V -/
def gc_210 : List ga_E := [(0, 1, .aload_n 0, 0, 0, []),
  (1, 1, .iconst 0, 0, 0, []),
  (2, 3, .putfield 308, 1, 36, [(0, 1477)]),
  (5, 1, .aload_n 0, 0, 0, []),
  (6, 1, .iconst 0, 0, 0, []),
  (7, 3, .putfield 311, 1, 35, [(0, 1476)]),
  (10, 1, .aload_n 0, 0, 0, []),
  (11, 2, .bipush (8), 64, 0, []),
  (13, 1, .iconst 0, 0, 0, []),
  (14, 3, .invokevirtual 314, 209, 0, [(0, 1742)]),
  (17, 1, .iconst 1, 8, 0, []),
  (18, 1, .istore_n 1, 0, 0, []),
  (19, 1, .aload_n 0, 0, 0, []),
  (20, 3, .invokevirtual 233, 88, 0, [(0, 1678)]),
  (23, 3, .ifCond .eq (29), 0, 52, []),
  (26, 1, .aload_n 0, 0, 0, []),
  (27, 3, .getfield 308, 1, 36, [(0, 1477)]),
  (30, 3, .ifCond .le (22), 0, 52, []),
  (33, 1, .iload_n 1, 0, 0, []),
  (34, 3, .ifCond .eq (10), 0, 44, []),
  (37, 1, .aload_n 0, 0, 0, []),
  (38, 3, .invokevirtual 317, 212, 0, [(0, 1746)]),
  (41, 3, .goto (7), 0, 48, []),
  (44, 1, .aload_n 0, 0, 0, []),
  (45, 3, .invokevirtual 320, 215, 0, [(0, 1762)]),
  (48, 1, .istore_n 1, 0, 0, []),
  (49, 3, .goto (-30), 0, 19, []),
  (52, 1, .return_, 0, 0, [])]
/-- GravyRoundModel.wordHere ()I -/
def gc_211 : List ga_E := [(0, 1, .aload_n 0, 0, 0, []),
  (1, 3, .ldc2_w 171, 14011796389, 0, [(0, 1660)]),
  (4, 3, .invokevirtual 243, 195, 0, [(0, 1690)]),
  (7, 3, .ifCond .eq (6), 0, 13, []),
  (10, 2, .bipush (104), 832, 0, []),
  (12, 1, .ireturn, 0, 0, []),
  (13, 1, .aload_n 0, 0, 0, []),
  (14, 3, .ldc2_w 181, 14548677541, 0, [(0, 1665)]),
  (17, 3, .invokevirtual 243, 195, 0, [(0, 1690)]),
  (20, 3, .ifCond .eq (6), 0, 26, []),
  (23, 2, .bipush (108), 864, 0, []),
  (25, 1, .ireturn, 0, 0, []),
  (26, 1, .aload_n 0, 0, 0, []),
  (27, 3, .ldc2_w 183, 962396737479469, 0, [(0, 1666)]),
  (30, 3, .invokevirtual 243, 195, 0, [(0, 1690)]),
  (33, 3, .ifCond .eq (6), 0, 39, []),
  (36, 2, .bipush (109), 872, 0, []),
  (38, 1, .ireturn, 0, 0, []),
  (39, 1, .aload_n 0, 0, 0, []),
  (40, 3, .ldc2_w 185, 15488191397, 0, [(0, 1667)]),
  (43, 3, .invokevirtual 243, 195, 0, [(0, 1690)]),
  (46, 3, .ifCond .eq (6), 0, 52, []),
  (49, 2, .bipush (115), 920, 0, []),
  (51, 1, .ireturn, 0, 0, []),
  (52, 1, .aload_n 0, 0, 0, []),
  (53, 3, .ldc2_w 187, 910031287198621, 0, [(0, 1668)]),
  (56, 3, .invokevirtual 243, 195, 0, [(0, 1690)]),
  (59, 3, .ifCond .eq (8), 0, 67, []),
  (62, 2, .bipush (103), 824, 0, []),
  (64, 3, .goto (4), 0, 68, []),
  (67, 1, .iconst 0, 0, 0, []),
  (68, 1, .ireturn, 0, 0, [])]
/-- GravyRoundModel.unit ()Z -/
def gc_212 : List ga_E := [(0, 1, .aload_n 0, 0, 0, []),
  (1, 3, .getfield 76, 1, 29, [(0, 1470)]),
  (4, 1, .aload_n 0, 0, 0, []),
  (5, 3, .getfield 308, 1, 36, [(0, 1477)]),
  (8, 1, .iconst 1, 8, 0, []),
  (9, 1, .isub, 0, 0, []),
  (10, 1, .iaload, 0, 0, []),
  (11, 1, .iconst 3, 24, 0, []),
  (12, 3, .if_icmp .le (19), 0, 31, []),
  (15, 1, .aload_n 0, 0, 0, []),
  (16, 3, .getfield 76, 1, 29, [(0, 1470)]),
  (19, 1, .aload_n 0, 0, 0, []),
  (20, 3, .getfield 308, 1, 36, [(0, 1477)]),
  (23, 1, .iconst 1, 8, 0, []),
  (24, 1, .isub, 0, 0, []),
  (25, 1, .iaload, 0, 0, []),
  (26, 2, .bipush (7), 56, 0, []),
  (28, 3, .if_icmp .lt (7), 0, 35, []),
  (31, 1, .iconst 1, 8, 0, []),
  (32, 3, .goto (4), 0, 36, []),
  (35, 1, .iconst 0, 0, 0, []),
  (36, 1, .istore_n 1, 0, 0, []),
  (37, 1, .iload_n 1, 0, 0, []),
  (38, 3, .ifCond .eq (17), 0, 55, []),
  (41, 1, .aload_n 0, 0, 0, []),
  (42, 3, .ldc2_w 193, 57899941, 0, [(0, 1671)]),
  (45, 3, .invokevirtual 243, 195, 0, [(0, 1690)]),
  (48, 3, .ifCond .eq (7), 0, 55, []),
  (51, 1, .iconst 1, 8, 0, []),
  (52, 3, .goto (4), 0, 56, []),
  (55, 1, .iconst 0, 0, 0, []),
  (56, 1, .istore_n 2, 0, 0, []),
  (57, 1, .aload_n 0, 0, 0, []),
  (58, 2, .bipush (40), 320, 0, []),
  (60, 3, .invokevirtual 289, 194, 0, [(0, 1750)]),
  (63, 1, .istore_n 3, 0, 0, []),
  (64, 1, .aload_n 0, 0, 0, []),
  (65, 3, .invokevirtual 323, 211, 0, [(0, 1754)]),
  (68, 2, .istore 4, 0, 0, []),
  (70, 1, .aload_n 0, 0, 0, []),
  (71, 3, .getfield 27, 1, 13, [(0, 1454)]),
  (74, 1, .aload_n 0, 0, 0, []),
  (75, 3, .getfield 254, 1, 33, [(0, 1474)]),
  (78, 1, .iaload, 0, 0, []),
  (79, 2, .bipush (60), 480, 0, []),
  (81, 3, .if_icmp .eq (12), 0, 93, []),
  (84, 1, .aload_n 0, 0, 0, []),
  (85, 3, .getfield 302, 1, 37, [(0, 1478)]),
  (88, 2, .bipush (30), 240, 0, []),
  (90, 3, .if_icmp .ne (7), 0, 97, []),
  (93, 1, .iconst 1, 8, 0, []),
  (94, 3, .goto (4), 0, 98, []),
  (97, 1, .iconst 0, 0, 0, []),
  (98, 2, .istore 5, 0, 0, []),
  (100, 1, .iload_n 2, 0, 0, []),
  (101, 3, .ifCond .ne (25), 0, 126, []),
  (104, 2, .iload 4, 0, 0, []),
  (106, 3, .ifCond .ne (15), 0, 121, []),
  (109, 1, .aload_n 0, 0, 0, []),
  (110, 3, .getfield 205, 1, 8, [(0, 1449)]),
  (113, 1, .iconst 4, 32, 0, []),
  (114, 3, .if_icmp .eq (7), 0, 121, []),
  (117, 1, .iload_n 3, 0, 0, []),
  (118, 3, .ifCond .eq (25), 0, 143, []),
  (121, 2, .iload 5, 0, 0, []),
  (123, 3, .ifCond .ne (20), 0, 143, []),
  (126, 1, .iload_n 2, 0, 0, []),
  (127, 3, .ifCond .ne (7), 0, 134, []),
  (130, 1, .iload_n 3, 0, 0, []),
  (131, 3, .ifCond .eq (16), 0, 147, []),
  (134, 1, .aload_n 0, 0, 0, []),
  (135, 3, .getfield 311, 1, 35, [(0, 1476)]),
  (138, 2, .bipush (7), 56, 0, []),
  (140, 3, .if_icmp .ne (7), 0, 147, []),
  (143, 1, .aload_n 0, 0, 0, []),
  (144, 3, .invokevirtual 240, 196, 0, [(0, 1698)]),
  (147, 1, .aload_n 0, 0, 0, []),
  (148, 3, .invokevirtual 233, 88, 0, [(0, 1678)]),
  (151, 3, .ifCond .ne (5), 0, 156, []),
  (154, 1, .iconst 1, 8, 0, []),
  (155, 1, .ireturn, 0, 0, []),
  (156, 1, .aload_n 0, 0, 0, []),
  (157, 3, .getfield 27, 1, 13, [(0, 1454)]),
  (160, 1, .aload_n 0, 0, 0, []),
  (161, 3, .getfield 254, 1, 33, [(0, 1474)]),
  (164, 1, .dup2, 0, 0, []),
  (165, 1, .iaload, 0, 0, []),
  (166, 1, .iload_n 2, 0, 0, []),
  (167, 3, .ifCond .eq (7), 0, 174, []),
  (170, 1, .iconst 0, 0, 0, []),
  (171, 3, .goto (4), 0, 175, []),
  (174, 1, .iconst 1, 8, 0, []),
  (175, 1, .iadd, 0, 0, []),
  (176, 1, .iastore, 0, 0, []),
  (177, 1, .aload_n 0, 0, 0, []),
  (178, 1, .dup, 0, 0, []),
  (179, 3, .getfield 302, 1, 37, [(0, 1478)]),
  (182, 1, .iload_n 2, 0, 0, []),
  (183, 3, .ifCond .eq (7), 0, 190, []),
  (186, 1, .iconst 0, 0, 0, []),
  (187, 3, .goto (4), 0, 191, []),
  (190, 1, .iconst 1, 8, 0, []),
  (191, 1, .iadd, 0, 0, []),
  (192, 3, .putfield 302, 1, 37, [(0, 1478)]),
  (195, 2, .iload 4, 0, 0, []),
  (197, 3, .ifCond .ne (10), 0, 207, []),
  (200, 1, .aload_n 0, 0, 0, []),
  (201, 3, .getfield 223, 1, 9, [(0, 1450)]),
  (204, 3, .goto (4), 0, 208, []),
  (207, 1, .iconst 0, 0, 0, []),
  (208, 2, .istore 6, 0, 0, []),
  (210, 1, .aload_n 0, 0, 0, []),
  (211, 3, .invokevirtual 237, 179, 0, [(0, 1641)]),
  (214, 1, .iload_n 2, 0, 0, []),
  (215, 3, .ifCond .ne (7), 0, 222, []),
  (218, 1, .iload_n 3, 0, 0, []),
  (219, 3, .ifCond .eq (31), 0, 250, []),
  (222, 1, .aload_n 0, 0, 0, []),
  (223, 1, .iload_n 2, 0, 0, []),
  (224, 3, .ifCond .eq (7), 0, 231, []),
  (227, 1, .iconst 3, 24, 0, []),
  (228, 3, .goto (5), 0, 233, []),
  (231, 2, .bipush (7), 56, 0, []),
  (233, 2, .bipush (126), 1008, 0, []),
  (235, 3, .invokevirtual 314, 209, 0, [(0, 1742)]),
  (238, 1, .aload_n 0, 0, 0, []),
  (239, 1, .dup, 0, 0, []),
  (240, 3, .getfield 311, 1, 35, [(0, 1476)]),
  (243, 1, .iconst 1, 8, 0, []),
  (244, 1, .iadd, 0, 0, []),
  (245, 3, .putfield 311, 1, 35, [(0, 1476)]),
  (248, 1, .iconst 1, 8, 0, []),
  (249, 1, .ireturn, 0, 0, []),
  (250, 1, .aload_n 0, 0, 0, []),
  (251, 2, .iload 4, 0, 0, []),
  (253, 3, .ifCond .ne (8), 0, 261, []),
  (256, 2, .bipush (110), 880, 0, []),
  (258, 3, .goto (5), 0, 263, []),
  (261, 2, .iload 4, 0, 0, []),
  (263, 2, .iload 6, 0, 0, []),
  (265, 3, .invokevirtual 326, 208, 0, [(0, 1758)]),
  (268, 1, .iconst 0, 0, 0, []),
  (269, 1, .ireturn, 0, 0, [])]
/-- GravyRoundModel.rankHere ()I -/
def gc_213 : List ga_E := [(0, 1, .aload_n 0, 0, 0, []),
  (1, 3, .ldc2_w 191, 51082021, 0, [(0, 1670)]),
  (4, 3, .invokevirtual 243, 195, 0, [(0, 1690)]),
  (7, 3, .ifCond .eq (5), 0, 12, []),
  (10, 1, .iconst 2, 16, 0, []),
  (11, 1, .ireturn, 0, 0, []),
  (12, 1, .aload_n 0, 0, 0, []),
  (13, 3, .ldc2_w 189, 228245, 0, [(0, 1669)]),
  (16, 3, .invokevirtual 243, 195, 0, [(0, 1690)]),
  (19, 3, .ifCond .eq (5), 0, 24, []),
  (22, 1, .iconst 1, 8, 0, []),
  (23, 1, .ireturn, 0, 0, []),
  (24, 1, .aload_n 0, 0, 0, []),
  (25, 2, .bipush (60), 480, 0, []),
  (27, 3, .invokevirtual 289, 194, 0, [(0, 1750)]),
  (30, 3, .ifCond .ne (21), 0, 51, []),
  (33, 1, .aload_n 0, 0, 0, []),
  (34, 2, .bipush (62), 496, 0, []),
  (36, 3, .invokevirtual 289, 194, 0, [(0, 1750)]),
  (39, 3, .ifCond .ne (12), 0, 51, []),
  (42, 1, .aload_n 0, 0, 0, []),
  (43, 2, .bipush (61), 488, 0, []),
  (45, 3, .invokevirtual 289, 194, 0, [(0, 1750)]),
  (48, 3, .ifCond .eq (5), 0, 53, []),
  (51, 1, .iconst 4, 32, 0, []),
  (52, 1, .ireturn, 0, 0, []),
  (53, 1, .aload_n 0, 0, 0, []),
  (54, 2, .bipush (43), 344, 0, []),
  (56, 3, .invokevirtual 289, 194, 0, [(0, 1750)]),
  (59, 3, .ifCond .ne (12), 0, 71, []),
  (62, 1, .aload_n 0, 0, 0, []),
  (63, 2, .bipush (45), 360, 0, []),
  (65, 3, .invokevirtual 289, 194, 0, [(0, 1750)]),
  (68, 3, .ifCond .eq (5), 0, 73, []),
  (71, 1, .iconst 5, 40, 0, []),
  (72, 1, .ireturn, 0, 0, []),
  (73, 1, .aload_n 0, 0, 0, []),
  (74, 2, .bipush (42), 336, 0, []),
  (76, 3, .invokevirtual 289, 194, 0, [(0, 1750)]),
  (79, 3, .ifCond .ne (21), 0, 100, []),
  (82, 1, .aload_n 0, 0, 0, []),
  (83, 2, .bipush (47), 376, 0, []),
  (85, 3, .invokevirtual 289, 194, 0, [(0, 1750)]),
  (88, 3, .ifCond .ne (12), 0, 100, []),
  (91, 1, .aload_n 0, 0, 0, []),
  (92, 2, .bipush (37), 296, 0, []),
  (94, 3, .invokevirtual 289, 194, 0, [(0, 1750)]),
  (97, 3, .ifCond .eq (8), 0, 105, []),
  (100, 2, .bipush (6), 48, 0, []),
  (102, 3, .goto (4), 0, 106, []),
  (105, 1, .iconst 0, 0, 0, []),
  (106, 1, .ireturn, 0, 0, [])]
/-- GravyRoundModel.isCompared ()Z -/
def gc_214 : List ga_E := [(0, 1, .aload_n 0, 0, 0, []),
  (1, 3, .getfield 308, 1, 36, [(0, 1477)]),
  (4, 1, .iconst 1, 8, 0, []),
  (5, 1, .isub, 0, 0, []),
  (6, 1, .istore_n 1, 0, 0, []),
  (7, 1, .aload_n 0, 0, 0, []),
  (8, 3, .getfield 76, 1, 29, [(0, 1470)]),
  (11, 1, .iload_n 1, 0, 0, []),
  (12, 1, .iaload, 0, 0, []),
  (13, 1, .iconst 5, 40, 0, []),
  (14, 3, .if_icmp .eq (14), 0, 28, []),
  (17, 1, .aload_n 0, 0, 0, []),
  (18, 3, .getfield 76, 1, 29, [(0, 1470)]),
  (21, 1, .iload_n 1, 0, 0, []),
  (22, 1, .iaload, 0, 0, []),
  (23, 2, .bipush (6), 48, 0, []),
  (25, 3, .if_icmp .ne (9), 0, 34, []),
  (28, 3, .iinc 1 (-1), 34359738360, 0, []),
  (31, 3, .goto (-24), 0, 7, []),
  (34, 1, .aload_n 0, 0, 0, []),
  (35, 3, .getfield 76, 1, 29, [(0, 1470)]),
  (38, 1, .iload_n 1, 0, 0, []),
  (39, 1, .iaload, 0, 0, []),
  (40, 1, .iconst 4, 32, 0, []),
  (41, 3, .if_icmp .ne (7), 0, 48, []),
  (44, 1, .iconst 1, 8, 0, []),
  (45, 3, .goto (4), 0, 49, []),
  (48, 1, .iconst 0, 0, 0, []),
  (49, 1, .ireturn, 0, 0, [])]
/-- GravyRoundModel.behindUnit ()Z -/
def gc_215 : List ga_E := [(0, 1, .aload_n 0, 0, 0, []),
  (1, 3, .invokevirtual 329, 213, 0, [(0, 1766)]),
  (4, 1, .istore_n 1, 0, 0, []),
  (5, 1, .iload_n 1, 0, 0, []),
  (6, 1, .iconst 4, 32, 0, []),
  (7, 3, .if_icmp .ne (16), 0, 23, []),
  (10, 1, .aload_n 0, 0, 0, []),
  (11, 3, .invokevirtual 332, 214, 0, [(0, 1770)]),
  (14, 3, .ifCond .eq (9), 0, 23, []),
  (17, 1, .aload_n 0, 0, 0, []),
  (18, 3, .invokevirtual 240, 196, 0, [(0, 1698)]),
  (21, 1, .iconst 1, 8, 0, []),
  (22, 1, .ireturn, 0, 0, []),
  (23, 1, .aload_n 0, 0, 0, []),
  (24, 3, .getfield 76, 1, 29, [(0, 1470)]),
  (27, 1, .aload_n 0, 0, 0, []),
  (28, 3, .getfield 308, 1, 36, [(0, 1477)]),
  (31, 1, .iconst 1, 8, 0, []),
  (32, 1, .isub, 0, 0, []),
  (33, 1, .iaload, 0, 0, []),
  (34, 2, .bipush (6), 48, 0, []),
  (36, 3, .if_icmp .gt (68), 0, 104, []),
  (39, 1, .aload_n 0, 0, 0, []),
  (40, 3, .getfield 76, 1, 29, [(0, 1470)]),
  (43, 1, .aload_n 0, 0, 0, []),
  (44, 3, .getfield 308, 1, 36, [(0, 1477)]),
  (47, 1, .iconst 1, 8, 0, []),
  (48, 1, .isub, 0, 0, []),
  (49, 1, .iaload, 0, 0, []),
  (50, 1, .iload_n 1, 0, 0, []),
  (51, 3, .if_icmp .lt (53), 0, 104, []),
  (54, 1, .aload_n 0, 0, 0, []),
  (55, 1, .dup, 0, 0, []),
  (56, 3, .getfield 308, 1, 36, [(0, 1477)]),
  (59, 1, .iconst 1, 8, 0, []),
  (60, 1, .isub, 0, 0, []),
  (61, 3, .putfield 308, 1, 36, [(0, 1477)]),
  (64, 1, .aload_n 0, 0, 0, []),
  (65, 3, .getfield 76, 1, 29, [(0, 1470)]),
  (68, 1, .aload_n 0, 0, 0, []),
  (69, 3, .getfield 308, 1, 36, [(0, 1477)]),
  (72, 1, .iaload, 0, 0, []),
  (73, 1, .iconst 3, 24, 0, []),
  (74, 3, .if_icmp .ne (13), 0, 87, []),
  (77, 1, .aload_n 0, 0, 0, []),
  (78, 1, .dup, 0, 0, []),
  (79, 3, .getfield 311, 1, 35, [(0, 1476)]),
  (82, 1, .iconst 1, 8, 0, []),
  (83, 1, .isub, 0, 0, []),
  (84, 3, .putfield 311, 1, 35, [(0, 1476)]),
  (87, 1, .aload_n 0, 0, 0, []),
  (88, 1, .aload_n 0, 0, 0, []),
  (89, 3, .getfield 79, 1, 30, [(0, 1471)]),
  (92, 1, .aload_n 0, 0, 0, []),
  (93, 3, .getfield 308, 1, 36, [(0, 1477)]),
  (96, 1, .iaload, 0, 0, []),
  (97, 1, .iconst 0, 0, 0, []),
  (98, 3, .invokevirtual 326, 208, 0, [(0, 1758)]),
  (101, 3, .goto (-78), 0, 23, []),
  (104, 1, .iload_n 1, 0, 0, []),
  (105, 3, .ifCond .le (42), 0, 147, []),
  (108, 1, .aload_n 0, 0, 0, []),
  (109, 1, .iload_n 1, 0, 0, []),
  (110, 1, .iload_n 1, 0, 0, []),
  (111, 1, .iconst 2, 16, 0, []),
  (112, 3, .if_icmp .ne (8), 0, 120, []),
  (115, 2, .bipush (38), 304, 0, []),
  (117, 3, .goto (21), 0, 138, []),
  (120, 1, .iload_n 1, 0, 0, []),
  (121, 1, .iconst 1, 8, 0, []),
  (122, 3, .if_icmp .ne (8), 0, 130, []),
  (125, 2, .bipush (124), 992, 0, []),
  (127, 3, .goto (11), 0, 138, []),
  (130, 1, .aload_n 0, 0, 0, []),
  (131, 1, .aload_n 0, 0, 0, []),
  (132, 3, .getfield 198, 1, 6, [(0, 1447)]),
  (135, 3, .invokevirtual 201, 180, 0, [(0, 1645)]),
  (138, 3, .invokevirtual 314, 209, 0, [(0, 1742)]),
  (141, 1, .aload_n 0, 0, 0, []),
  (142, 3, .invokevirtual 237, 179, 0, [(0, 1641)]),
  (145, 1, .iconst 1, 8, 0, []),
  (146, 1, .ireturn, 0, 0, []),
  (147, 1, .aload_n 0, 0, 0, []),
  (148, 1, .dup, 0, 0, []),
  (149, 3, .getfield 308, 1, 36, [(0, 1477)]),
  (152, 1, .iconst 1, 8, 0, []),
  (153, 1, .isub, 0, 0, []),
  (154, 3, .putfield 308, 1, 36, [(0, 1477)]),
  (157, 1, .aload_n 0, 0, 0, []),
  (158, 3, .getfield 76, 1, 29, [(0, 1470)]),
  (161, 1, .aload_n 0, 0, 0, []),
  (162, 3, .getfield 308, 1, 36, [(0, 1477)]),
  (165, 1, .iaload, 0, 0, []),
  (166, 2, .bipush (7), 56, 0, []),
  (168, 3, .if_icmp .ne (23), 0, 191, []),
  (171, 1, .aload_n 0, 0, 0, []),
  (172, 1, .dup, 0, 0, []),
  (173, 3, .getfield 311, 1, 35, [(0, 1476)]),
  (176, 1, .iconst 1, 8, 0, []),
  (177, 1, .isub, 0, 0, []),
  (178, 3, .putfield 311, 1, 35, [(0, 1476)]),
  (181, 1, .aload_n 0, 0, 0, []),
  (182, 1, .aload_n 0, 0, 0, []),
  (183, 2, .bipush (41), 328, 0, []),
  (185, 3, .invokevirtual 289, 194, 0, [(0, 1750)]),
  (188, 3, .invokevirtual 246, 197, 0, [(0, 1714)]),
  (191, 1, .iconst 0, 0, 0, []),
  (192, 1, .ireturn, 0, 0, [])]
/-- GravyRoundModel.two (III)I -/
def gc_216 : List ga_E := [(0, 1, .iload_n 0, 0, 0, []),
  (1, 119, .tableswitch (202) (37) (62) #[143, 188, 202, 202, 202, 127, 119, 202, 123, 202, 131, 202, 202, 202, 202, 202, 202, 202, 202, 202, 202, 202, 202, 155, 177, 166], 0, 203, [(296, 144), (304, 189), (312, 203), (320, 203), (328, 203), (336, 128), (344, 120), (352, 203), (360, 124), (368, 203), (376, 132), (384, 203), (392, 203), (400, 203), (408, 203), (416, 203), (424, 203), (432, 203), (440, 203), (448, 203), (456, 203), (464, 203), (472, 203), (480, 156), (488, 178), (496, 167)]),
  (120, 1, .iload_n 1, 0, 0, []),
  (121, 1, .iload_n 2, 0, 0, []),
  (122, 1, .iadd, 0, 0, []),
  (123, 1, .ireturn, 0, 0, []),
  (124, 1, .iload_n 1, 0, 0, []),
  (125, 1, .iload_n 2, 0, 0, []),
  (126, 1, .isub, 0, 0, []),
  (127, 1, .ireturn, 0, 0, []),
  (128, 1, .iload_n 1, 0, 0, []),
  (129, 1, .iload_n 2, 0, 0, []),
  (130, 1, .imul, 0, 0, []),
  (131, 1, .ireturn, 0, 0, []),
  (132, 1, .iload_n 2, 0, 0, []),
  (133, 3, .ifCond .ne (7), 0, 140, []),
  (136, 1, .iconst 0, 0, 0, []),
  (137, 3, .goto (6), 0, 143, []),
  (140, 1, .iload_n 1, 0, 0, []),
  (141, 1, .iload_n 2, 0, 0, []),
  (142, 1, .idiv, 0, 0, []),
  (143, 1, .ireturn, 0, 0, []),
  (144, 1, .iload_n 2, 0, 0, []),
  (145, 3, .ifCond .ne (7), 0, 152, []),
  (148, 1, .iconst 0, 0, 0, []),
  (149, 3, .goto (6), 0, 155, []),
  (152, 1, .iload_n 1, 0, 0, []),
  (153, 1, .iload_n 2, 0, 0, []),
  (154, 1, .irem, 0, 0, []),
  (155, 1, .ireturn, 0, 0, []),
  (156, 1, .iload_n 1, 0, 0, []),
  (157, 1, .iload_n 2, 0, 0, []),
  (158, 3, .if_icmp .ge (7), 0, 165, []),
  (161, 1, .iconst 1, 8, 0, []),
  (162, 3, .goto (4), 0, 166, []),
  (165, 1, .iconst 0, 0, 0, []),
  (166, 1, .ireturn, 0, 0, []),
  (167, 1, .iload_n 1, 0, 0, []),
  (168, 1, .iload_n 2, 0, 0, []),
  (169, 3, .if_icmp .le (7), 0, 176, []),
  (172, 1, .iconst 1, 8, 0, []),
  (173, 3, .goto (4), 0, 177, []),
  (176, 1, .iconst 0, 0, 0, []),
  (177, 1, .ireturn, 0, 0, []),
  (178, 1, .iload_n 1, 0, 0, []),
  (179, 1, .iload_n 2, 0, 0, []),
  (180, 3, .if_icmp .ne (7), 0, 187, []),
  (183, 1, .iconst 1, 8, 0, []),
  (184, 3, .goto (4), 0, 188, []),
  (187, 1, .iconst 0, 0, 0, []),
  (188, 1, .ireturn, 0, 0, []),
  (189, 1, .iload_n 1, 0, 0, []),
  (190, 3, .ifCond .eq (11), 0, 201, []),
  (193, 1, .iload_n 2, 0, 0, []),
  (194, 3, .ifCond .eq (7), 0, 201, []),
  (197, 1, .iconst 1, 8, 0, []),
  (198, 3, .goto (4), 0, 202, []),
  (201, 1, .iconst 0, 0, 0, []),
  (202, 1, .ireturn, 0, 0, []),
  (203, 1, .iload_n 1, 0, 0, []),
  (204, 3, .ifCond .ne (7), 0, 211, []),
  (207, 1, .iload_n 2, 0, 0, []),
  (208, 3, .ifCond .eq (7), 0, 215, []),
  (211, 1, .iconst 1, 8, 0, []),
  (212, 3, .goto (4), 0, 216, []),
  (215, 1, .iconst 0, 0, 0, []),
  (216, 1, .ireturn, 0, 0, [])]
/-- GravyRoundModel.asked (II)I -/
def gc_217 : List ga_E := [(0, 1, .iload_n 1, 0, 0, []),
  (1, 67, .tableswitch (101) (103) (115) #[96, 67, 101, 101, 101, 75, 83, 101, 101, 101, 101, 101, 91], 0, 102, [(824, 97), (832, 68), (840, 102), (848, 102), (856, 102), (864, 76), (872, 84), (880, 102), (888, 102), (896, 102), (904, 102), (912, 102), (920, 92)]),
  (68, 1, .aload_n 0, 0, 0, []),
  (69, 3, .getfield 85, 1, 38, [(0, 1479)]),
  (72, 2, .bipush (23), 184, 0, []),
  (74, 1, .iaload, 0, 0, []),
  (75, 1, .ireturn, 0, 0, []),
  (76, 1, .aload_n 0, 0, 0, []),
  (77, 3, .getfield 85, 1, 38, [(0, 1479)]),
  (80, 2, .bipush (22), 176, 0, []),
  (82, 1, .iaload, 0, 0, []),
  (83, 1, .ireturn, 0, 0, []),
  (84, 1, .aload_n 0, 0, 0, []),
  (85, 3, .getfield 85, 1, 38, [(0, 1479)]),
  (88, 2, .bipush (27), 216, 0, []),
  (90, 1, .iaload, 0, 0, []),
  (91, 1, .ireturn, 0, 0, []),
  (92, 1, .aload_n 0, 0, 0, []),
  (93, 3, .invokevirtual 335, 219, 0, [(0, 1857)]),
  (96, 1, .ireturn, 0, 0, []),
  (97, 1, .aload_n 0, 0, 0, []),
  (98, 3, .invokevirtual 338, 11, 0, [(0, 1399)]),
  (101, 1, .ireturn, 0, 0, []),
  (102, 1, .iload_n 2, 0, 0, []),
  (103, 1, .ireturn, 0, 0, [])]
/-- GravyRoundModel.comes ()I -/
def gc_218 : List ga_E := [(0, 1, .iconst 0, 0, 0, []),
  (1, 1, .istore_n 1, 0, 0, []),
  (2, 1, .aload_n 0, 0, 0, []),
  (3, 3, .getfield 60, 1, 24, [(0, 1465)]),
  (6, 1, .aload_n 0, 0, 0, []),
  (7, 3, .getfield 263, 1, 32, [(0, 1473)]),
  (10, 1, .iaload, 0, 0, []),
  (11, 1, .istore_n 2, 0, 0, []),
  (12, 1, .iload_n 2, 0, 0, []),
  (13, 1, .aload_n 0, 0, 0, []),
  (14, 3, .getfield 63, 1, 25, [(0, 1466)]),
  (17, 1, .aload_n 0, 0, 0, []),
  (18, 3, .getfield 263, 1, 32, [(0, 1473)]),
  (21, 1, .iaload, 0, 0, []),
  (22, 3, .if_icmp .ge (108), 0, 130, []),
  (25, 1, .aload_n 0, 0, 0, []),
  (26, 3, .getfield 70, 1, 27, [(0, 1468)]),
  (29, 1, .iload_n 2, 0, 0, []),
  (30, 1, .iaload, 0, 0, []),
  (31, 1, .istore_n 3, 0, 0, []),
  (32, 1, .iload_n 3, 0, 0, []),
  (33, 2, .bipush (126), 1008, 0, []),
  (35, 3, .if_icmp .ne (30), 0, 65, []),
  (38, 1, .aload_n 0, 0, 0, []),
  (39, 3, .getfield 82, 1, 31, [(0, 1472)]),
  (42, 1, .iload_n 1, 0, 0, []),
  (43, 1, .iconst 1, 8, 0, []),
  (44, 1, .isub, 0, 0, []),
  (45, 1, .aload_n 0, 0, 0, []),
  (46, 3, .getfield 82, 1, 31, [(0, 1472)]),
  (49, 1, .iload_n 1, 0, 0, []),
  (50, 1, .iconst 1, 8, 0, []),
  (51, 1, .isub, 0, 0, []),
  (52, 1, .iaload, 0, 0, []),
  (53, 3, .ifCond .ne (7), 0, 60, []),
  (56, 1, .iconst 1, 8, 0, []),
  (57, 3, .goto (4), 0, 61, []),
  (60, 1, .iconst 0, 0, 0, []),
  (61, 1, .iastore, 0, 0, []),
  (62, 3, .goto (62), 0, 124, []),
  (65, 1, .iload_n 3, 0, 0, []),
  (66, 3, .invokestatic 208, 189, 0, [(0, 1649)]),
  (69, 3, .ifCond .eq (26), 0, 95, []),
  (72, 1, .aload_n 0, 0, 0, []),
  (73, 3, .getfield 82, 1, 31, [(0, 1472)]),
  (76, 1, .iload_n 1, 0, 0, []),
  (77, 1, .aload_n 0, 0, 0, []),
  (78, 1, .iload_n 3, 0, 0, []),
  (79, 1, .aload_n 0, 0, 0, []),
  (80, 3, .getfield 73, 1, 28, [(0, 1469)]),
  (83, 1, .iload_n 2, 0, 0, []),
  (84, 1, .iaload, 0, 0, []),
  (85, 3, .invokevirtual 341, 217, 0, [(0, 1853)]),
  (88, 1, .iastore, 0, 0, []),
  (89, 3, .iinc 1 (1), 8, 0, []),
  (92, 3, .goto (32), 0, 124, []),
  (95, 3, .iinc 1 (-1), 34359738360, 0, []),
  (98, 1, .aload_n 0, 0, 0, []),
  (99, 3, .getfield 82, 1, 31, [(0, 1472)]),
  (102, 1, .iload_n 1, 0, 0, []),
  (103, 1, .iconst 1, 8, 0, []),
  (104, 1, .isub, 0, 0, []),
  (105, 1, .iload_n 3, 0, 0, []),
  (106, 1, .aload_n 0, 0, 0, []),
  (107, 3, .getfield 82, 1, 31, [(0, 1472)]),
  (110, 1, .iload_n 1, 0, 0, []),
  (111, 1, .iconst 1, 8, 0, []),
  (112, 1, .isub, 0, 0, []),
  (113, 1, .iaload, 0, 0, []),
  (114, 1, .aload_n 0, 0, 0, []),
  (115, 3, .getfield 82, 1, 31, [(0, 1472)]),
  (118, 1, .iload_n 1, 0, 0, []),
  (119, 1, .iaload, 0, 0, []),
  (120, 3, .invokestatic 344, 216, 0, [(0, 1861)]),
  (123, 1, .iastore, 0, 0, []),
  (124, 3, .iinc 2 (1), 8, 0, []),
  (127, 3, .goto (-115), 0, 12, []),
  (130, 1, .aload_n 0, 0, 0, []),
  (131, 3, .getfield 82, 1, 31, [(0, 1472)]),
  (134, 1, .iconst 0, 0, 0, []),
  (135, 1, .iaload, 0, 0, []),
  (136, 1, .ireturn, 0, 0, [])]
/-- GravyRoundModel.seatNow ()I -/
def gc_219 : List ga_E := [(0, 1, .aload_n 0, 0, 0, []),
  (1, 3, .getfield 85, 1, 38, [(0, 1479)]),
  (4, 2, .bipush (24), 192, 0, []),
  (6, 1, .iaload, 0, 0, []),
  (7, 3, .ifCond .lt (13), 0, 20, []),
  (10, 1, .aload_n 0, 0, 0, []),
  (11, 3, .getfield 85, 1, 38, [(0, 1479)]),
  (14, 2, .bipush (24), 192, 0, []),
  (16, 1, .iaload, 0, 0, []),
  (17, 3, .goto (20), 0, 37, []),
  (20, 1, .aload_n 0, 0, 0, []),
  (21, 3, .invokevirtual 338, 11, 0, [(0, 1399)]),
  (24, 3, .ifCond .ne (7), 0, 31, []),
  (27, 1, .iconst 0, 0, 0, []),
  (28, 3, .goto (9), 0, 37, []),
  (31, 1, .aload_n 0, 0, 0, []),
  (32, 3, .invokevirtual 338, 11, 0, [(0, 1399)]),
  (35, 1, .iconst 1, 8, 0, []),
  (36, 1, .isub, 0, 0, []),
  (37, 1, .ireturn, 0, 0, [])]
/-- GravyRoundModel.seatOf (I)I -/
def gc_220 : List ga_E := [(0, 1, .iconst 0, 0, 0, []),
  (1, 1, .istore_n 2, 0, 0, []),
  (2, 1, .iload_n 2, 0, 0, []),
  (3, 1, .aload_n 0, 0, 0, []),
  (4, 3, .invokevirtual 338, 11, 0, [(0, 1399)]),
  (7, 3, .if_icmp .ge (23), 0, 30, []),
  (10, 1, .aload_n 0, 0, 0, []),
  (11, 3, .getfield 85, 1, 38, [(0, 1479)]),
  (14, 1, .iconst 0, 0, 0, []),
  (15, 1, .iload_n 2, 0, 0, []),
  (16, 1, .iadd, 0, 0, []),
  (17, 1, .iaload, 0, 0, []),
  (18, 1, .iload_n 1, 0, 0, []),
  (19, 3, .if_icmp .ne (5), 0, 24, []),
  (22, 1, .iload_n 2, 0, 0, []),
  (23, 1, .ireturn, 0, 0, []),
  (24, 3, .iinc 2 (1), 8, 0, []),
  (27, 3, .goto (-25), 0, 2, []),
  (30, 1, .iconst (-1), 34359738360, 0, []),
  (31, 1, .ireturn, 0, 0, [])]
/-- GravyRoundModel.slowOf (I)I -/
def gc_221 : List ga_E := [(0, 1, .aload_n 0, 0, 0, []),
  (1, 3, .getfield 100, 1, 43, [(0, 1484)]),
  (4, 3, .ifCond .lt (12), 0, 16, []),
  (7, 1, .iload_n 1, 0, 0, []),
  (8, 3, .ifCond .ne (8), 0, 16, []),
  (11, 1, .aload_n 0, 0, 0, []),
  (12, 3, .getfield 100, 1, 43, [(0, 1484)]),
  (15, 1, .ireturn, 0, 0, []),
  (16, 1, .aload_n 0, 0, 0, []),
  (17, 3, .getfield 97, 1, 42, [(0, 1483)]),
  (20, 3, .ifCond .lt (18), 0, 38, []),
  (23, 1, .aload_n 0, 0, 0, []),
  (24, 1, .iload_n 1, 0, 0, []),
  (25, 3, .invokevirtual 364, 30, 0, [(0, 1411)]),
  (28, 3, .ifCond .eq (10), 0, 38, []),
  (31, 1, .aload_n 0, 0, 0, []),
  (32, 3, .getfield 97, 1, 42, [(0, 1483)]),
  (35, 3, .goto (17), 0, 52, []),
  (38, 1, .aload_n 0, 0, 0, []),
  (39, 3, .getfield 51, 1, 21, [(0, 1462)]),
  (42, 2, .bipush (7), 56, 0, []),
  (44, 1, .aload_n 0, 0, 0, []),
  (45, 3, .getfield 263, 1, 32, [(0, 1473)]),
  (48, 1, .imul, 0, 0, []),
  (49, 1, .iload_n 1, 0, 0, []),
  (50, 1, .iadd, 0, 0, []),
  (51, 1, .iaload, 0, 0, []),
  (52, 1, .ireturn, 0, 0, [])]
/-- GravyRoundModel.takesOf (I)I -/
def gc_222 : List ga_E := [(0, 1, .aload_n 0, 0, 0, []),
  (1, 3, .getfield 367, 1, 44, [(0, 1485)]),
  (4, 3, .ifCond .eq (12), 0, 16, []),
  (7, 1, .aload_n 0, 0, 0, []),
  (8, 3, .getfield 94, 1, 41, [(0, 1482)]),
  (11, 1, .iload_n 1, 0, 0, []),
  (12, 1, .iaload, 0, 0, []),
  (13, 3, .goto (17), 0, 30, []),
  (16, 1, .aload_n 0, 0, 0, []),
  (17, 3, .getfield 48, 1, 20, [(0, 1461)]),
  (20, 2, .bipush (7), 56, 0, []),
  (22, 1, .aload_n 0, 0, 0, []),
  (23, 3, .getfield 263, 1, 32, [(0, 1473)]),
  (26, 1, .imul, 0, 0, []),
  (27, 1, .iload_n 1, 0, 0, []),
  (28, 1, .iadd, 0, 0, []),
  (29, 1, .iaload, 0, 0, []),
  (30, 1, .ireturn, 0, 0, [])]
/-- GravyRoundModel.isAtOdds (II)Z -/
def gc_223 : List ga_E := [(0, 1, .iconst 0, 0, 0, []),
  (1, 1, .istore_n 3, 0, 0, []),
  (2, 1, .iload_n 3, 0, 0, []),
  (3, 1, .aload_n 0, 0, 0, []),
  (4, 3, .invokevirtual 352, 15, 0, [(0, 1434)]),
  (7, 3, .if_icmp .ge (92), 0, 99, []),
  (10, 2, .bipush (10), 80, 0, []),
  (12, 1, .aload_n 0, 0, 0, []),
  (13, 3, .getfield 263, 1, 32, [(0, 1473)]),
  (16, 1, .imul, 0, 0, []),
  (17, 1, .iload_n 3, 0, 0, []),
  (18, 1, .iadd, 0, 0, []),
  (19, 2, .istore 4, 0, 0, []),
  (21, 1, .aload_n 0, 0, 0, []),
  (22, 3, .getfield 54, 1, 22, [(0, 1463)]),
  (25, 2, .iload 4, 0, 0, []),
  (27, 1, .iaload, 0, 0, []),
  (28, 1, .iload_n 1, 0, 0, []),
  (29, 3, .if_icmp .ne (14), 0, 43, []),
  (32, 1, .aload_n 0, 0, 0, []),
  (33, 3, .getfield 57, 1, 23, [(0, 1464)]),
  (36, 2, .iload 4, 0, 0, []),
  (38, 1, .iaload, 0, 0, []),
  (39, 1, .iload_n 2, 0, 0, []),
  (40, 3, .if_icmp .eq (25), 0, 65, []),
  (43, 1, .aload_n 0, 0, 0, []),
  (44, 3, .getfield 54, 1, 22, [(0, 1463)]),
  (47, 2, .iload 4, 0, 0, []),
  (49, 1, .iaload, 0, 0, []),
  (50, 1, .iload_n 2, 0, 0, []),
  (51, 3, .if_icmp .ne (18), 0, 69, []),
  (54, 1, .aload_n 0, 0, 0, []),
  (55, 3, .getfield 57, 1, 23, [(0, 1464)]),
  (58, 2, .iload 4, 0, 0, []),
  (60, 1, .iaload, 0, 0, []),
  (61, 1, .iload_n 1, 0, 0, []),
  (62, 3, .if_icmp .ne (7), 0, 69, []),
  (65, 1, .iconst 1, 8, 0, []),
  (66, 3, .goto (4), 0, 70, []),
  (69, 1, .iconst 0, 0, 0, []),
  (70, 2, .istore 5, 0, 0, []),
  (72, 2, .iload 5, 0, 0, []),
  (74, 3, .ifCond .eq (19), 0, 93, []),
  (77, 1, .aload_n 0, 0, 0, []),
  (78, 3, .getfield 85, 1, 38, [(0, 1479)]),
  (81, 2, .bipush (26), 208, 0, []),
  (83, 1, .iaload, 0, 0, []),
  (84, 1, .iload_n 3, 0, 0, []),
  (85, 3, .invokestatic 273, 8, 0, [(0, 1438)]),
  (88, 3, .ifCond .ne (5), 0, 93, []),
  (91, 1, .iconst 1, 8, 0, []),
  (92, 1, .ireturn, 0, 0, []),
  (93, 3, .iinc 3 (1), 8, 0, []),
  (96, 3, .goto (-94), 0, 2, []),
  (99, 1, .iconst 0, 0, 0, []),
  (100, 1, .ireturn, 0, 0, [])]
/-- GravyRoundModel.foesOf (I)I -/
def gc_224 : List ga_E := [(0, 1, .iconst 0, 0, 0, []),
  (1, 1, .istore_n 2, 0, 0, []),
  (2, 1, .iconst 0, 0, 0, []),
  (3, 1, .istore_n 3, 0, 0, []),
  (4, 1, .iload_n 3, 0, 0, []),
  (5, 1, .aload_n 0, 0, 0, []),
  (6, 3, .invokevirtual 338, 11, 0, [(0, 1399)]),
  (9, 3, .if_icmp .ge (24), 0, 33, []),
  (12, 1, .aload_n 0, 0, 0, []),
  (13, 1, .iload_n 1, 0, 0, []),
  (14, 1, .iload_n 3, 0, 0, []),
  (15, 3, .invokevirtual 371, 223, 0, [(0, 1430)]),
  (18, 3, .ifCond .eq (9), 0, 27, []),
  (21, 1, .iload_n 2, 0, 0, []),
  (22, 1, .iconst 1, 8, 0, []),
  (23, 1, .iload_n 3, 0, 0, []),
  (24, 1, .ishl, 0, 0, []),
  (25, 1, .ior, 0, 0, []),
  (26, 1, .istore_n 2, 0, 0, []),
  (27, 3, .iinc 3 (1), 8, 0, []),
  (30, 3, .goto (-26), 0, 4, []),
  (33, 1, .iload_n 2, 0, 0, []),
  (34, 1, .ireturn, 0, 0, [])]
/-- GravyRoundModel.waitOf (I)I -/
def gc_225 : List ga_E := [(0, 1, .aload_n 0, 0, 0, []),
  (1, 3, .getfield 85, 1, 38, [(0, 1479)]),
  (4, 1, .iconst 0, 0, 0, []),
  (5, 1, .iload_n 1, 0, 0, []),
  (6, 1, .iadd, 0, 0, []),
  (7, 1, .iaload, 0, 0, []),
  (8, 1, .istore_n 2, 0, 0, []),
  (9, 1, .aload_n 0, 0, 0, []),
  (10, 1, .iload_n 2, 0, 0, []),
  (11, 3, .invokevirtual 374, 221, 0, [(0, 1407)]),
  (14, 1, .iload_n 1, 0, 0, []),
  (15, 3, .ifCond .le (33), 0, 48, []),
  (18, 1, .aload_n 0, 0, 0, []),
  (19, 1, .iload_n 2, 0, 0, []),
  (20, 1, .aload_n 0, 0, 0, []),
  (21, 3, .getfield 85, 1, 38, [(0, 1479)]),
  (24, 1, .iconst 0, 0, 0, []),
  (25, 1, .iload_n 1, 0, 0, []),
  (26, 1, .iadd, 0, 0, []),
  (27, 1, .iconst 1, 8, 0, []),
  (28, 1, .isub, 0, 0, []),
  (29, 1, .iaload, 0, 0, []),
  (30, 3, .invokevirtual 371, 223, 0, [(0, 1430)]),
  (33, 3, .ifCond .eq (15), 0, 48, []),
  (36, 1, .aload_n 0, 0, 0, []),
  (37, 3, .getfield 36, 1, 16, [(0, 1457)]),
  (40, 1, .aload_n 0, 0, 0, []),
  (41, 3, .getfield 263, 1, 32, [(0, 1473)]),
  (44, 1, .iaload, 0, 0, []),
  (45, 3, .goto (4), 0, 49, []),
  (48, 1, .iconst 0, 0, 0, []),
  (49, 1, .iadd, 0, 0, []),
  (50, 1, .ireturn, 0, 0, [])]
/-- GravyRoundModel.serve (Z)I -/
def gc_226 : List ga_E := [(0, 1, .aload_n 0, 0, 0, []),
  (1, 3, .getfield 85, 1, 38, [(0, 1479)]),
  (4, 1, .iconst 0, 0, 0, []),
  (5, 1, .aload_n 0, 0, 0, []),
  (6, 3, .getfield 85, 1, 38, [(0, 1479)]),
  (9, 2, .bipush (24), 192, 0, []),
  (11, 1, .iaload, 0, 0, []),
  (12, 1, .iadd, 0, 0, []),
  (13, 1, .iaload, 0, 0, []),
  (14, 1, .istore_n 2, 0, 0, []),
  (15, 1, .aload_n 0, 0, 0, []),
  (16, 1, .iload_n 2, 0, 0, []),
  (17, 3, .invokevirtual 401, 222, 0, [(0, 1782)]),
  (20, 1, .aload_n 0, 0, 0, []),
  (21, 3, .getfield 85, 1, 38, [(0, 1479)]),
  (24, 2, .bipush (22), 176, 0, []),
  (26, 1, .iaload, 0, 0, []),
  (27, 3, .if_icmp .ge (11), 0, 38, []),
  (30, 1, .aload_n 0, 0, 0, []),
  (31, 1, .iload_n 2, 0, 0, []),
  (32, 3, .invokevirtual 401, 222, 0, [(0, 1782)]),
  (35, 3, .goto (10), 0, 45, []),
  (38, 1, .aload_n 0, 0, 0, []),
  (39, 3, .getfield 85, 1, 38, [(0, 1479)]),
  (42, 2, .bipush (22), 176, 0, []),
  (44, 1, .iaload, 0, 0, []),
  (45, 1, .istore_n 3, 0, 0, []),
  (46, 1, .aload_n 0, 0, 0, []),
  (47, 3, .getfield 85, 1, 38, [(0, 1479)]),
  (50, 2, .bipush (22), 176, 0, []),
  (52, 1, .dup2, 0, 0, []),
  (53, 1, .iaload, 0, 0, []),
  (54, 1, .iload_n 3, 0, 0, []),
  (55, 1, .isub, 0, 0, []),
  (56, 1, .iastore, 0, 0, []),
  (57, 1, .aload_n 0, 0, 0, []),
  (58, 3, .getfield 85, 1, 38, [(0, 1479)]),
  (61, 2, .bipush (7), 56, 0, []),
  (63, 1, .iload_n 2, 0, 0, []),
  (64, 1, .iadd, 0, 0, []),
  (65, 1, .iload_n 3, 0, 0, []),
  (66, 1, .iastore, 0, 0, []),
  (67, 1, .aload_n 0, 0, 0, []),
  (68, 3, .getfield 85, 1, 38, [(0, 1479)]),
  (71, 2, .bipush (14), 112, 0, []),
  (73, 1, .iload_n 2, 0, 0, []),
  (74, 1, .iadd, 0, 0, []),
  (75, 1, .aload_n 0, 0, 0, []),
  (76, 3, .getfield 85, 1, 38, [(0, 1479)]),
  (79, 2, .bipush (23), 184, 0, []),
  (81, 1, .iaload, 0, 0, []),
  (82, 1, .iastore, 0, 0, []),
  (83, 1, .aload_n 0, 0, 0, []),
  (84, 3, .getfield 85, 1, 38, [(0, 1479)]),
  (87, 2, .bipush (21), 168, 0, []),
  (89, 1, .dup2, 0, 0, []),
  (90, 1, .iaload, 0, 0, []),
  (91, 1, .iconst 1, 8, 0, []),
  (92, 1, .iload_n 2, 0, 0, []),
  (93, 1, .ishl, 0, 0, []),
  (94, 1, .ior, 0, 0, []),
  (95, 1, .iastore, 0, 0, []),
  (96, 1, .aload_n 0, 0, 0, []),
  (97, 3, .getfield 85, 1, 38, [(0, 1479)]),
  (100, 2, .bipush (24), 192, 0, []),
  (102, 1, .aload_n 0, 0, 0, []),
  (103, 3, .getfield 85, 1, 38, [(0, 1479)]),
  (106, 2, .bipush (24), 192, 0, []),
  (108, 1, .iaload, 0, 0, []),
  (109, 1, .aload_n 0, 0, 0, []),
  (110, 3, .invokevirtual 338, 11, 0, [(0, 1399)]),
  (113, 1, .iconst 1, 8, 0, []),
  (114, 1, .isub, 0, 0, []),
  (115, 3, .if_icmp .ne (7), 0, 122, []),
  (118, 1, .iconst (-1), 34359738360, 0, []),
  (119, 3, .goto (12), 0, 131, []),
  (122, 1, .aload_n 0, 0, 0, []),
  (123, 3, .getfield 85, 1, 38, [(0, 1479)]),
  (126, 2, .bipush (24), 192, 0, []),
  (128, 1, .iaload, 0, 0, []),
  (129, 1, .iconst 1, 8, 0, []),
  (130, 1, .iadd, 0, 0, []),
  (131, 1, .iastore, 0, 0, []),
  (132, 1, .aload_n 0, 0, 0, []),
  (133, 3, .getfield 85, 1, 38, [(0, 1479)]),
  (136, 2, .bipush (25), 200, 0, []),
  (138, 1, .aload_n 0, 0, 0, []),
  (139, 3, .invokevirtual 358, 2, 0, [(0, 1422)]),
  (142, 3, .ifCond .eq (7), 0, 149, []),
  (145, 1, .iconst 0, 0, 0, []),
  (146, 3, .goto (14), 0, 160, []),
  (149, 1, .aload_n 0, 0, 0, []),
  (150, 1, .aload_n 0, 0, 0, []),
  (151, 3, .getfield 85, 1, 38, [(0, 1479)]),
  (154, 2, .bipush (24), 192, 0, []),
  (156, 1, .iaload, 0, 0, []),
  (157, 3, .invokevirtual 392, 225, 0, [(0, 1403)]),
  (160, 1, .iastore, 0, 0, []),
  (161, 1, .iload_n 1, 0, 0, []),
  (162, 3, .ifCond .ne (5), 0, 167, []),
  (165, 1, .iload_n 2, 0, 0, []),
  (166, 1, .ireturn, 0, 0, []),
  (167, 1, .aload_n 0, 0, 0, []),
  (168, 3, .getfield 85, 1, 38, [(0, 1479)]),
  (171, 2, .bipush (28), 224, 0, []),
  (173, 3, .sipush (137), 1096, 0, []),
  (176, 1, .aload_n 0, 0, 0, []),
  (177, 3, .getfield 85, 1, 38, [(0, 1479)]),
  (180, 2, .bipush (28), 224, 0, []),
  (182, 1, .iaload, 0, 0, []),
  (183, 1, .imul, 0, 0, []),
  (184, 2, .bipush (71), 568, 0, []),
  (186, 1, .iadd, 0, 0, []),
  (187, 3, .sipush (1000), 8000, 0, []),
  (190, 1, .irem, 0, 0, []),
  (191, 1, .iastore, 0, 0, []),
  (192, 1, .aload_n 0, 0, 0, []),
  (193, 3, .getfield 85, 1, 38, [(0, 1479)]),
  (196, 2, .bipush (28), 224, 0, []),
  (198, 1, .iaload, 0, 0, []),
  (199, 2, .bipush (100), 800, 0, []),
  (201, 1, .irem, 0, 0, []),
  (202, 1, .aload_n 0, 0, 0, []),
  (203, 3, .getfield 39, 1, 17, [(0, 1458)]),
  (206, 1, .aload_n 0, 0, 0, []),
  (207, 3, .getfield 263, 1, 32, [(0, 1473)]),
  (210, 1, .iaload, 0, 0, []),
  (211, 3, .if_icmp .ge (24), 0, 235, []),
  (214, 1, .aload_n 0, 0, 0, []),
  (215, 3, .getfield 85, 1, 38, [(0, 1479)]),
  (218, 2, .bipush (22), 176, 0, []),
  (220, 1, .iaload, 0, 0, []),
  (221, 3, .ifCond .le (14), 0, 235, []),
  (224, 1, .aload_n 0, 0, 0, []),
  (225, 3, .getfield 85, 1, 38, [(0, 1479)]),
  (228, 2, .bipush (22), 176, 0, []),
  (230, 1, .dup2, 0, 0, []),
  (231, 1, .iaload, 0, 0, []),
  (232, 1, .iconst 1, 8, 0, []),
  (233, 1, .isub, 0, 0, []),
  (234, 1, .iastore, 0, 0, []),
  (235, 1, .iload_n 2, 0, 0, []),
  (236, 1, .ireturn, 0, 0, [])]
/-- GravyRoundModel.goMinute (Z)I -/
def gc_227 : List ga_E := [(0, 1, .aload_n 0, 0, 0, []),
  (1, 3, .invokevirtual 404, 7, 0, [(0, 1845)]),
  (4, 1, .aload_n 0, 0, 0, []),
  (5, 3, .getfield 85, 1, 38, [(0, 1479)]),
  (8, 2, .bipush (25), 200, 0, []),
  (10, 1, .dup2, 0, 0, []),
  (11, 1, .iaload, 0, 0, []),
  (12, 1, .iconst 1, 8, 0, []),
  (13, 1, .isub, 0, 0, []),
  (14, 1, .iastore, 0, 0, []),
  (15, 1, .aload_n 0, 0, 0, []),
  (16, 3, .getfield 85, 1, 38, [(0, 1479)]),
  (19, 2, .bipush (25), 200, 0, []),
  (21, 1, .iaload, 0, 0, []),
  (22, 3, .ifCond .ne (11), 0, 33, []),
  (25, 1, .aload_n 0, 0, 0, []),
  (26, 1, .iload_n 1, 0, 0, []),
  (27, 3, .invokevirtual 407, 226, 0, [(0, 1867)]),
  (30, 3, .goto (4), 0, 34, []),
  (33, 1, .iconst (-1), 34359738360, 0, []),
  (34, 1, .istore_n 2, 0, 0, []),
  (35, 1, .aload_n 0, 0, 0, []),
  (36, 3, .getfield 85, 1, 38, [(0, 1479)]),
  (39, 2, .bipush (27), 216, 0, []),
  (41, 1, .dup2, 0, 0, []),
  (42, 1, .iaload, 0, 0, []),
  (43, 1, .iconst 1, 8, 0, []),
  (44, 1, .iadd, 0, 0, []),
  (45, 1, .iastore, 0, 0, []),
  (46, 1, .iload_n 2, 0, 0, []),
  (47, 1, .ireturn, 0, 0, [])]
/-- GravyRoundModel.swapAll ()V -/
def gc_228 : List ga_E := [(0, 1, .iconst 0, 0, 0, []),
  (1, 1, .istore_n 1, 0, 0, []),
  (2, 1, .iload_n 1, 0, 0, []),
  (3, 2, .bipush (29), 232, 0, []),
  (5, 3, .if_icmp .ge (51), 0, 56, []),
  (8, 1, .aload_n 0, 0, 0, []),
  (9, 3, .getfield 103, 1, 45, [(0, 1486)]),
  (12, 2, .bipush (29), 232, 0, []),
  (14, 1, .aload_n 0, 0, 0, []),
  (15, 3, .getfield 380, 1, 46, [(0, 1487)]),
  (18, 1, .imul, 0, 0, []),
  (19, 1, .iload_n 1, 0, 0, []),
  (20, 1, .iadd, 0, 0, []),
  (21, 1, .iaload, 0, 0, []),
  (22, 1, .istore_n 2, 0, 0, []),
  (23, 1, .aload_n 0, 0, 0, []),
  (24, 3, .getfield 103, 1, 45, [(0, 1486)]),
  (27, 2, .bipush (29), 232, 0, []),
  (29, 1, .aload_n 0, 0, 0, []),
  (30, 3, .getfield 380, 1, 46, [(0, 1487)]),
  (33, 1, .imul, 0, 0, []),
  (34, 1, .iload_n 1, 0, 0, []),
  (35, 1, .iadd, 0, 0, []),
  (36, 1, .aload_n 0, 0, 0, []),
  (37, 3, .getfield 85, 1, 38, [(0, 1479)]),
  (40, 1, .iload_n 1, 0, 0, []),
  (41, 1, .iaload, 0, 0, []),
  (42, 1, .iastore, 0, 0, []),
  (43, 1, .aload_n 0, 0, 0, []),
  (44, 3, .getfield 85, 1, 38, [(0, 1479)]),
  (47, 1, .iload_n 1, 0, 0, []),
  (48, 1, .iload_n 2, 0, 0, []),
  (49, 1, .iastore, 0, 0, []),
  (50, 3, .iinc 1 (1), 8, 0, []),
  (53, 3, .goto (-51), 0, 2, []),
  (56, 1, .return_, 0, 0, [])]
/-- GravyRoundModel.swapSeats (II)V -/
def gc_229 : List ga_E := [(0, 1, .aload_n 0, 0, 0, []),
  (1, 3, .getfield 85, 1, 38, [(0, 1479)]),
  (4, 1, .iconst 0, 0, 0, []),
  (5, 1, .iload_n 1, 0, 0, []),
  (6, 1, .iadd, 0, 0, []),
  (7, 1, .iaload, 0, 0, []),
  (8, 1, .istore_n 3, 0, 0, []),
  (9, 1, .aload_n 0, 0, 0, []),
  (10, 3, .getfield 85, 1, 38, [(0, 1479)]),
  (13, 1, .iconst 0, 0, 0, []),
  (14, 1, .iload_n 1, 0, 0, []),
  (15, 1, .iadd, 0, 0, []),
  (16, 1, .aload_n 0, 0, 0, []),
  (17, 3, .getfield 85, 1, 38, [(0, 1479)]),
  (20, 1, .iconst 0, 0, 0, []),
  (21, 1, .iload_n 2, 0, 0, []),
  (22, 1, .iadd, 0, 0, []),
  (23, 1, .iaload, 0, 0, []),
  (24, 1, .iastore, 0, 0, []),
  (25, 1, .aload_n 0, 0, 0, []),
  (26, 3, .getfield 85, 1, 38, [(0, 1479)]),
  (29, 1, .iconst 0, 0, 0, []),
  (30, 1, .iload_n 2, 0, 0, []),
  (31, 1, .iadd, 0, 0, []),
  (32, 1, .iload_n 3, 0, 0, []),
  (33, 1, .iastore, 0, 0, []),
  (34, 1, .return_, 0, 0, [])]
/-- GravyRoundModel.manyBehind ()I -/
def gc_230 : List ga_E := [(0, 1, .aload_n 0, 0, 0, []),
  (1, 3, .invokevirtual 358, 2, 0, [(0, 1422)]),
  (4, 3, .ifCond .eq (7), 0, 11, []),
  (7, 1, .iconst 0, 0, 0, []),
  (8, 3, .goto (17), 0, 25, []),
  (11, 1, .aload_n 0, 0, 0, []),
  (12, 3, .invokevirtual 338, 11, 0, [(0, 1399)]),
  (15, 1, .iconst 1, 8, 0, []),
  (16, 1, .isub, 0, 0, []),
  (17, 1, .aload_n 0, 0, 0, []),
  (18, 3, .getfield 85, 1, 38, [(0, 1479)]),
  (21, 2, .bipush (24), 192, 0, []),
  (23, 1, .iaload, 0, 0, []),
  (24, 1, .isub, 0, 0, []),
  (25, 1, .ireturn, 0, 0, [])]
/-- GravyRoundModel.layFirst ()V -/
def gc_231 : List ga_E := [(0, 1, .iconst 0, 0, 0, []),
  (1, 1, .istore_n 1, 0, 0, []),
  (2, 1, .iconst 0, 0, 0, []),
  (3, 1, .istore_n 2, 0, 0, []),
  (4, 1, .iload_n 2, 0, 0, []),
  (5, 1, .aload_n 0, 0, 0, []),
  (6, 3, .invokevirtual 338, 11, 0, [(0, 1399)]),
  (9, 3, .if_icmp .ge (30), 0, 39, []),
  (12, 1, .aload_n 0, 0, 0, []),
  (13, 1, .iload_n 2, 0, 0, []),
  (14, 3, .invokevirtual 364, 30, 0, [(0, 1411)]),
  (17, 3, .ifCond .ne (6), 0, 23, []),
  (20, 3, .goto (13), 0, 33, []),
  (23, 1, .aload_n 0, 0, 0, []),
  (24, 3, .getfield 109, 1, 49, [(0, 1490)]),
  (27, 1, .iload_n 1, 0, 0, []),
  (28, 1, .iload_n 2, 0, 0, []),
  (29, 1, .iastore, 0, 0, []),
  (30, 3, .iinc 1 (1), 8, 0, []),
  (33, 3, .iinc 2 (1), 8, 0, []),
  (36, 3, .goto (-32), 0, 4, []),
  (39, 1, .return_, 0, 0, [])]
/-- GravyRoundModel.hasNext (I)Z -/
def gc_232 : List ga_E := [(0, 1, .iload_n 1, 0, 0, []),
  (1, 1, .iconst 2, 16, 0, []),
  (2, 1, .isub, 0, 0, []),
  (3, 1, .istore_n 2, 0, 0, []),
  (4, 1, .iload_n 2, 0, 0, []),
  (5, 3, .ifCond .lt (26), 0, 31, []),
  (8, 1, .aload_n 0, 0, 0, []),
  (9, 3, .getfield 109, 1, 49, [(0, 1490)]),
  (12, 1, .iload_n 2, 0, 0, []),
  (13, 1, .iaload, 0, 0, []),
  (14, 1, .aload_n 0, 0, 0, []),
  (15, 3, .getfield 109, 1, 49, [(0, 1490)]),
  (18, 1, .iload_n 2, 0, 0, []),
  (19, 1, .iconst 1, 8, 0, []),
  (20, 1, .iadd, 0, 0, []),
  (21, 1, .iaload, 0, 0, []),
  (22, 3, .if_icmp .le (9), 0, 31, []),
  (25, 3, .iinc 2 (-1), 34359738360, 0, []),
  (28, 3, .goto (-24), 0, 4, []),
  (31, 1, .iload_n 2, 0, 0, []),
  (32, 3, .ifCond .ge (5), 0, 37, []),
  (35, 1, .iconst 0, 0, 0, []),
  (36, 1, .ireturn, 0, 0, []),
  (37, 1, .iload_n 1, 0, 0, []),
  (38, 1, .iconst 1, 8, 0, []),
  (39, 1, .isub, 0, 0, []),
  (40, 1, .istore_n 3, 0, 0, []),
  (41, 1, .aload_n 0, 0, 0, []),
  (42, 3, .getfield 109, 1, 49, [(0, 1490)]),
  (45, 1, .iload_n 3, 0, 0, []),
  (46, 1, .iaload, 0, 0, []),
  (47, 1, .aload_n 0, 0, 0, []),
  (48, 3, .getfield 109, 1, 49, [(0, 1490)]),
  (51, 1, .iload_n 2, 0, 0, []),
  (52, 1, .iaload, 0, 0, []),
  (53, 3, .if_icmp .ge (9), 0, 62, []),
  (56, 3, .iinc 3 (-1), 34359738360, 0, []),
  (59, 3, .goto (-18), 0, 41, []),
  (62, 1, .aload_n 0, 0, 0, []),
  (63, 1, .iload_n 2, 0, 0, []),
  (64, 1, .iload_n 3, 0, 0, []),
  (65, 3, .invokevirtual 448, 233, 0, [(0, 1984)]),
  (68, 1, .iconst 1, 8, 0, []),
  (69, 2, .istore 4, 0, 0, []),
  (71, 1, .iload_n 2, 0, 0, []),
  (72, 2, .iload 4, 0, 0, []),
  (74, 1, .iadd, 0, 0, []),
  (75, 1, .iload_n 1, 0, 0, []),
  (76, 2, .iload 4, 0, 0, []),
  (78, 1, .isub, 0, 0, []),
  (79, 3, .if_icmp .ge (21), 0, 100, []),
  (82, 1, .aload_n 0, 0, 0, []),
  (83, 1, .iload_n 2, 0, 0, []),
  (84, 2, .iload 4, 0, 0, []),
  (86, 1, .iadd, 0, 0, []),
  (87, 1, .iload_n 1, 0, 0, []),
  (88, 2, .iload 4, 0, 0, []),
  (90, 1, .isub, 0, 0, []),
  (91, 3, .invokevirtual 448, 233, 0, [(0, 1984)]),
  (94, 3, .iinc 4 (1), 8, 0, []),
  (97, 3, .goto (-26), 0, 71, []),
  (100, 1, .iconst 1, 8, 0, []),
  (101, 1, .ireturn, 0, 0, [])]
/-- GravyRoundModel.swapOrder (II)V -/
def gc_233 : List ga_E := [(0, 1, .aload_n 0, 0, 0, []),
  (1, 3, .getfield 109, 1, 49, [(0, 1490)]),
  (4, 1, .iload_n 1, 0, 0, []),
  (5, 1, .iaload, 0, 0, []),
  (6, 1, .istore_n 3, 0, 0, []),
  (7, 1, .aload_n 0, 0, 0, []),
  (8, 3, .getfield 109, 1, 49, [(0, 1490)]),
  (11, 1, .iload_n 1, 0, 0, []),
  (12, 1, .aload_n 0, 0, 0, []),
  (13, 3, .getfield 109, 1, 49, [(0, 1490)]),
  (16, 1, .iload_n 2, 0, 0, []),
  (17, 1, .iaload, 0, 0, []),
  (18, 1, .iastore, 0, 0, []),
  (19, 1, .aload_n 0, 0, 0, []),
  (20, 3, .getfield 109, 1, 49, [(0, 1490)]),
  (23, 1, .iload_n 2, 0, 0, []),
  (24, 1, .iload_n 3, 0, 0, []),
  (25, 1, .iastore, 0, 0, []),
  (26, 1, .return_, 0, 0, [])]
/-- GravyRoundModel.sitInOrder (I)V -/
def gc_234 : List ga_E := [(0, 1, .iconst 0, 0, 0, []),
  (1, 1, .istore_n 2, 0, 0, []),
  (2, 1, .iload_n 2, 0, 0, []),
  (3, 1, .iload_n 1, 0, 0, []),
  (4, 3, .if_icmp .ge (33), 0, 37, []),
  (7, 1, .aload_n 0, 0, 0, []),
  (8, 3, .getfield 85, 1, 38, [(0, 1479)]),
  (11, 1, .iconst 0, 0, 0, []),
  (12, 1, .aload_n 0, 0, 0, []),
  (13, 3, .getfield 85, 1, 38, [(0, 1479)]),
  (16, 2, .bipush (24), 192, 0, []),
  (18, 1, .iaload, 0, 0, []),
  (19, 1, .iadd, 0, 0, []),
  (20, 1, .iconst 1, 8, 0, []),
  (21, 1, .iadd, 0, 0, []),
  (22, 1, .iload_n 2, 0, 0, []),
  (23, 1, .iadd, 0, 0, []),
  (24, 1, .aload_n 0, 0, 0, []),
  (25, 3, .getfield 109, 1, 49, [(0, 1490)]),
  (28, 1, .iload_n 2, 0, 0, []),
  (29, 1, .iaload, 0, 0, []),
  (30, 1, .iastore, 0, 0, []),
  (31, 3, .iinc 2 (1), 8, 0, []),
  (34, 3, .goto (-32), 0, 2, []),
  (37, 1, .return_, 0, 0, [])]
/-- GravyRoundModel.uneasy ()I -/
def gc_235 : List ga_E := [(0, 1, .iconst 0, 0, 0, []),
  (1, 1, .istore_n 1, 0, 0, []),
  (2, 1, .aload_n 0, 0, 0, []),
  (3, 3, .getfield 85, 1, 38, [(0, 1479)]),
  (6, 2, .bipush (24), 192, 0, []),
  (8, 1, .iaload, 0, 0, []),
  (9, 1, .iconst 1, 8, 0, []),
  (10, 1, .iadd, 0, 0, []),
  (11, 1, .istore_n 2, 0, 0, []),
  (12, 1, .iload_n 2, 0, 0, []),
  (13, 1, .aload_n 0, 0, 0, []),
  (14, 3, .invokevirtual 338, 11, 0, [(0, 1399)]),
  (17, 3, .if_icmp .ge (42), 0, 59, []),
  (20, 1, .iload_n 1, 0, 0, []),
  (21, 1, .aload_n 0, 0, 0, []),
  (22, 1, .aload_n 0, 0, 0, []),
  (23, 3, .getfield 85, 1, 38, [(0, 1479)]),
  (26, 1, .iconst 0, 0, 0, []),
  (27, 1, .iload_n 2, 0, 0, []),
  (28, 1, .iadd, 0, 0, []),
  (29, 1, .iaload, 0, 0, []),
  (30, 1, .aload_n 0, 0, 0, []),
  (31, 3, .getfield 85, 1, 38, [(0, 1479)]),
  (34, 1, .iconst 0, 0, 0, []),
  (35, 1, .iload_n 2, 0, 0, []),
  (36, 1, .iadd, 0, 0, []),
  (37, 1, .iconst 1, 8, 0, []),
  (38, 1, .isub, 0, 0, []),
  (39, 1, .iaload, 0, 0, []),
  (40, 3, .invokevirtual 371, 223, 0, [(0, 1430)]),
  (43, 3, .ifCond .eq (7), 0, 50, []),
  (46, 1, .iconst 1, 8, 0, []),
  (47, 3, .goto (4), 0, 51, []),
  (50, 1, .iconst 0, 0, 0, []),
  (51, 1, .iadd, 0, 0, []),
  (52, 1, .istore_n 1, 0, 0, []),
  (53, 3, .iinc 2 (1), 8, 0, []),
  (56, 3, .goto (-44), 0, 12, []),
  (59, 1, .iload_n 1, 0, 0, []),
  (60, 1, .ireturn, 0, 0, [])]
/-- GravyRoundModel.warmthOfLast ()I -/
def gc_236 : List ga_E := [(0, 1, .aload_n 0, 0, 0, []),
  (1, 3, .getfield 85, 1, 38, [(0, 1479)]),
  (4, 1, .iconst 0, 0, 0, []),
  (5, 1, .aload_n 0, 0, 0, []),
  (6, 3, .invokevirtual 338, 11, 0, [(0, 1399)]),
  (9, 1, .iadd, 0, 0, []),
  (10, 1, .iconst 1, 8, 0, []),
  (11, 1, .isub, 0, 0, []),
  (12, 1, .iaload, 0, 0, []),
  (13, 1, .istore_n 1, 0, 0, []),
  (14, 1, .aload_n 0, 0, 0, []),
  (15, 1, .iconst 0, 0, 0, []),
  (16, 3, .invokevirtual 445, 74, 0, [(0, 1927)]),
  (19, 1, .istore_n 2, 0, 0, []),
  (20, 1, .aload_n 0, 0, 0, []),
  (21, 3, .getfield 85, 1, 38, [(0, 1479)]),
  (24, 2, .bipush (14), 112, 0, []),
  (26, 1, .iload_n 1, 0, 0, []),
  (27, 1, .iadd, 0, 0, []),
  (28, 1, .iaload, 0, 0, []),
  (29, 1, .ireturn, 0, 0, [])]
/-- GravyRoundModel.worthOf (I)I -/
def gc_237 : List ga_E := [(0, 1, .iload_n 1, 0, 0, []),
  (1, 3, .ifCond .ne (11), 0, 12, []),
  (4, 1, .aload_n 0, 0, 0, []),
  (5, 3, .invokevirtual 420, 28, 0, [(0, 1806)]),
  (8, 1, .ineg, 0, 0, []),
  (9, 3, .goto (20), 0, 29, []),
  (12, 1, .iload_n 1, 0, 0, []),
  (13, 1, .iconst 1, 8, 0, []),
  (14, 3, .if_icmp .ne (10), 0, 24, []),
  (17, 1, .aload_n 0, 0, 0, []),
  (18, 3, .invokevirtual 451, 236, 0, [(0, 1972)]),
  (21, 3, .goto (8), 0, 29, []),
  (24, 1, .aload_n 0, 0, 0, []),
  (25, 3, .invokevirtual 454, 235, 0, [(0, 1976)]),
  (28, 1, .ineg, 0, 0, []),
  (29, 1, .ireturn, 0, 0, [])]
/-- GravyRoundModel.bestOf (I)I -/
def gc_238 : List ga_E := [(0, 1, .aload_n 0, 0, 0, []),
  (1, 3, .invokevirtual 457, 230, 0, [(0, 1955)]),
  (4, 1, .istore_n 2, 0, 0, []),
  (5, 3, .ldc_w 460, 34358938368, 0, [(0, 1959)]),
  (8, 1, .istore_n 3, 0, 0, []),
  (9, 1, .aload_n 0, 0, 0, []),
  (10, 3, .invokevirtual 461, 231, 0, [(0, 1960)]),
  (13, 1, .iconst 1, 8, 0, []),
  (14, 2, .istore 4, 0, 0, []),
  (16, 2, .iload 4, 0, 0, []),
  (18, 3, .ifCond .eq (71), 0, 89, []),
  (21, 1, .aload_n 0, 0, 0, []),
  (22, 3, .invokevirtual 439, 29, 0, [(0, 1915)]),
  (25, 1, .aload_n 0, 0, 0, []),
  (26, 1, .iload_n 2, 0, 0, []),
  (27, 3, .invokevirtual 464, 234, 0, [(0, 1964)]),
  (30, 1, .aload_n 0, 0, 0, []),
  (31, 1, .iload_n 1, 0, 0, []),
  (32, 3, .invokevirtual 468, 237, 0, [(0, 1968)]),
  (35, 2, .istore 5, 0, 0, []),
  (37, 1, .aload_n 0, 0, 0, []),
  (38, 3, .invokevirtual 442, 25, 0, [(0, 1919)]),
  (41, 2, .iload 5, 0, 0, []),
  (43, 1, .iload_n 3, 0, 0, []),
  (44, 3, .if_icmp .le (35), 0, 79, []),
  (47, 2, .iload 5, 0, 0, []),
  (49, 1, .istore_n 3, 0, 0, []),
  (50, 1, .iconst 0, 0, 0, []),
  (51, 2, .istore 6, 0, 0, []),
  (53, 2, .iload 6, 0, 0, []),
  (55, 1, .iload_n 2, 0, 0, []),
  (56, 3, .if_icmp .ge (23), 0, 79, []),
  (59, 1, .aload_n 0, 0, 0, []),
  (60, 3, .getfield 112, 1, 50, [(0, 1491)]),
  (63, 2, .iload 6, 0, 0, []),
  (65, 1, .aload_n 0, 0, 0, []),
  (66, 3, .getfield 109, 1, 49, [(0, 1490)]),
  (69, 2, .iload 6, 0, 0, []),
  (71, 1, .iaload, 0, 0, []),
  (72, 1, .iastore, 0, 0, []),
  (73, 3, .iinc 6 (1), 8, 0, []),
  (76, 3, .goto (-23), 0, 53, []),
  (79, 1, .aload_n 0, 0, 0, []),
  (80, 1, .iload_n 2, 0, 0, []),
  (81, 3, .invokevirtual 471, 232, 0, [(0, 1980)]),
  (84, 2, .istore 4, 0, 0, []),
  (86, 3, .goto (-70), 0, 16, []),
  (89, 1, .iload_n 3, 0, 0, []),
  (90, 1, .ireturn, 0, 0, [])]
/-- GravyRoundModel.layBest ()V -/
def gc_239 : List ga_E := [(0, 1, .aload_n 0, 0, 0, []),
  (1, 1, .aload_n 0, 0, 0, []),
  (2, 3, .invokevirtual 457, 230, 0, [(0, 1955)]),
  (5, 3, .putfield 389, 1, 51, [(0, 1492)]),
  (8, 1, .iconst 0, 0, 0, []),
  (9, 1, .istore_n 1, 0, 0, []),
  (10, 1, .iload_n 1, 0, 0, []),
  (11, 1, .aload_n 0, 0, 0, []),
  (12, 3, .getfield 389, 1, 51, [(0, 1492)]),
  (15, 3, .if_icmp .ge (21), 0, 36, []),
  (18, 1, .aload_n 0, 0, 0, []),
  (19, 3, .getfield 106, 1, 48, [(0, 1489)]),
  (22, 1, .iload_n 1, 0, 0, []),
  (23, 1, .aload_n 0, 0, 0, []),
  (24, 3, .getfield 112, 1, 50, [(0, 1491)]),
  (27, 1, .iload_n 1, 0, 0, []),
  (28, 1, .iaload, 0, 0, []),
  (29, 1, .iastore, 0, 0, []),
  (30, 3, .iinc 1 (1), 8, 0, []),
  (33, 3, .goto (-23), 0, 10, []),
  (36, 1, .return_, 0, 0, [])]
/-- GravyRoundModel.isEasy (I)Z -/
def gc_240 : List ga_E := [(0, 1, .iconst 0, 0, 0, []),
  (1, 1, .istore_n 2, 0, 0, []),
  (2, 1, .iload_n 2, 0, 0, []),
  (3, 1, .iload_n 1, 0, 0, []),
  (4, 3, .if_icmp .ge (35), 0, 39, []),
  (7, 1, .aload_n 0, 0, 0, []),
  (8, 3, .getfield 106, 1, 48, [(0, 1489)]),
  (11, 1, .iload_n 2, 0, 0, []),
  (12, 1, .iaload, 0, 0, []),
  (13, 1, .aload_n 0, 0, 0, []),
  (14, 3, .getfield 106, 1, 48, [(0, 1489)]),
  (17, 1, .iload_n 1, 0, 0, []),
  (18, 1, .iaload, 0, 0, []),
  (19, 3, .if_icmp .ne (14), 0, 33, []),
  (22, 1, .aload_n 0, 0, 0, []),
  (23, 1, .iload_n 1, 0, 0, []),
  (24, 1, .iload_n 2, 0, 0, []),
  (25, 3, .invokevirtual 371, 223, 0, [(0, 1430)]),
  (28, 3, .ifCond .eq (5), 0, 33, []),
  (31, 1, .iconst 0, 0, 0, []),
  (32, 1, .ireturn, 0, 0, []),
  (33, 3, .iinc 2 (1), 8, 0, []),
  (36, 3, .goto (-34), 0, 2, []),
  (39, 1, .iconst 1, 8, 0, []),
  (40, 1, .ireturn, 0, 0, [])]
/-- GravyRoundModel.friendsOf (I)I -/
def gc_241 : List ga_E := [(0, 1, .iconst 0, 0, 0, []),
  (1, 1, .istore_n 2, 0, 0, []),
  (2, 1, .iconst 0, 0, 0, []),
  (3, 1, .istore_n 3, 0, 0, []),
  (4, 1, .iload_n 3, 0, 0, []),
  (5, 1, .aload_n 0, 0, 0, []),
  (6, 3, .invokevirtual 338, 11, 0, [(0, 1399)]),
  (9, 3, .if_icmp .ge (36), 0, 45, []),
  (12, 1, .iload_n 1, 0, 0, []),
  (13, 1, .iload_n 3, 0, 0, []),
  (14, 3, .invokestatic 273, 8, 0, [(0, 1438)]),
  (17, 3, .ifCond .eq (22), 0, 39, []),
  (20, 1, .iload_n 2, 0, 0, []),
  (21, 1, .iconst 1, 8, 0, []),
  (22, 1, .aload_n 0, 0, 0, []),
  (23, 3, .invokevirtual 338, 11, 0, [(0, 1399)]),
  (26, 1, .ishl, 0, 0, []),
  (27, 1, .iconst 1, 8, 0, []),
  (28, 1, .isub, 0, 0, []),
  (29, 1, .aload_n 0, 0, 0, []),
  (30, 1, .iload_n 3, 0, 0, []),
  (31, 3, .invokevirtual 414, 224, 0, [(0, 1786)]),
  (34, 1, .iconst (-1), 34359738360, 0, []),
  (35, 1, .ixor, 0, 0, []),
  (36, 1, .iand, 0, 0, []),
  (37, 1, .ior, 0, 0, []),
  (38, 1, .istore_n 2, 0, 0, []),
  (39, 3, .iinc 3 (1), 8, 0, []),
  (42, 3, .goto (-38), 0, 4, []),
  (45, 1, .iload_n 2, 0, 0, []),
  (46, 1, .ireturn, 0, 0, [])]
/-- GravyRoundModel.clanOf (I)I -/
def gc_242 : List ga_E := [(0, 1, .iconst 1, 8, 0, []),
  (1, 1, .iload_n 1, 0, 0, []),
  (2, 1, .ishl, 0, 0, []),
  (3, 1, .istore_n 2, 0, 0, []),
  (4, 1, .iconst 0, 0, 0, []),
  (5, 1, .istore_n 3, 0, 0, []),
  (6, 1, .iload_n 3, 0, 0, []),
  (7, 2, .bipush (7), 56, 0, []),
  (9, 3, .if_icmp .ge (17), 0, 26, []),
  (12, 1, .iload_n 2, 0, 0, []),
  (13, 1, .aload_n 0, 0, 0, []),
  (14, 1, .iload_n 2, 0, 0, []),
  (15, 3, .invokevirtual 493, 241, 0, [(0, 2039)]),
  (18, 1, .ior, 0, 0, []),
  (19, 1, .istore_n 2, 0, 0, []),
  (20, 3, .iinc 3 (1), 8, 0, []),
  (23, 3, .goto (-17), 0, 6, []),
  (26, 1, .iload_n 2, 0, 0, []),
  (27, 1, .ireturn, 0, 0, [])]
/-- GravyRoundModel.thinkTakes ()V -/
def gc_243 : List ga_E := [(0, 1, .iconst 0, 0, 0, []),
  (1, 1, .istore_n 1, 0, 0, []),
  (2, 1, .iload_n 1, 0, 0, []),
  (3, 1, .aload_n 0, 0, 0, []),
  (4, 3, .invokevirtual 338, 11, 0, [(0, 1399)]),
  (7, 3, .if_icmp .ge (29), 0, 36, []),
  (10, 1, .aload_n 0, 0, 0, []),
  (11, 3, .getfield 94, 1, 41, [(0, 1482)]),
  (14, 1, .iload_n 1, 0, 0, []),
  (15, 1, .aload_n 0, 0, 0, []),
  (16, 3, .getfield 48, 1, 20, [(0, 1461)]),
  (19, 2, .bipush (7), 56, 0, []),
  (21, 1, .aload_n 0, 0, 0, []),
  (22, 3, .getfield 263, 1, 32, [(0, 1473)]),
  (25, 1, .imul, 0, 0, []),
  (26, 1, .iload_n 1, 0, 0, []),
  (27, 1, .iadd, 0, 0, []),
  (28, 1, .iaload, 0, 0, []),
  (29, 1, .iastore, 0, 0, []),
  (30, 3, .iinc 1 (1), 8, 0, []),
  (33, 3, .goto (-31), 0, 2, []),
  (36, 1, .aload_n 0, 0, 0, []),
  (37, 1, .iconst 1, 8, 0, []),
  (38, 3, .putfield 367, 1, 44, [(1, 1485)]),
  (41, 1, .return_, 0, 0, [])]
/-- GravyRoundModel.gotByLast ()I -/
def gc_244 : List ga_E := [(0, 1, .aload_n 0, 0, 0, []),
  (1, 3, .getfield 85, 1, 38, [(0, 1479)]),
  (4, 1, .iconst 0, 0, 0, []),
  (5, 1, .aload_n 0, 0, 0, []),
  (6, 3, .invokevirtual 338, 11, 0, [(0, 1399)]),
  (9, 1, .iadd, 0, 0, []),
  (10, 1, .iconst 1, 8, 0, []),
  (11, 1, .isub, 0, 0, []),
  (12, 1, .iaload, 0, 0, []),
  (13, 1, .istore_n 1, 0, 0, []),
  (14, 1, .aload_n 0, 0, 0, []),
  (15, 1, .iconst 0, 0, 0, []),
  (16, 3, .invokevirtual 445, 74, 0, [(0, 1927)]),
  (19, 1, .istore_n 2, 0, 0, []),
  (20, 1, .aload_n 0, 0, 0, []),
  (21, 3, .getfield 85, 1, 38, [(0, 1479)]),
  (24, 2, .bipush (7), 56, 0, []),
  (26, 1, .iload_n 1, 0, 0, []),
  (27, 1, .iadd, 0, 0, []),
  (28, 1, .iaload, 0, 0, []),
  (29, 1, .ireturn, 0, 0, [])]
/-- GravyRoundModel.layGreed (II)V -/
def gc_245 : List ga_E := [(0, 1, .iconst 0, 0, 0, []),
  (1, 1, .istore_n 3, 0, 0, []),
  (2, 1, .iload_n 3, 0, 0, []),
  (3, 2, .bipush (36), 288, 0, []),
  (5, 3, .if_icmp .ge (92), 0, 97, []),
  (8, 1, .aload_n 0, 0, 0, []),
  (9, 3, .invokevirtual 499, 243, 0, [(0, 2051)]),
  (12, 1, .aload_n 0, 0, 0, []),
  (13, 3, .getfield 94, 1, 41, [(0, 1482)]),
  (16, 1, .iload_n 1, 0, 0, []),
  (17, 1, .iload_n 3, 0, 0, []),
  (18, 2, .bipush (6), 48, 0, []),
  (20, 1, .idiv, 0, 0, []),
  (21, 1, .iastore, 0, 0, []),
  (22, 1, .aload_n 0, 0, 0, []),
  (23, 3, .getfield 94, 1, 41, [(0, 1482)]),
  (26, 1, .iload_n 2, 0, 0, []),
  (27, 1, .iload_n 3, 0, 0, []),
  (28, 2, .bipush (6), 48, 0, []),
  (30, 1, .irem, 0, 0, []),
  (31, 1, .iastore, 0, 0, []),
  (32, 1, .aload_n 0, 0, 0, []),
  (33, 3, .invokevirtual 439, 29, 0, [(0, 1915)]),
  (36, 1, .aload_n 0, 0, 0, []),
  (37, 3, .invokevirtual 502, 244, 0, [(0, 2055)]),
  (40, 3, .ifCond .ne (8), 0, 48, []),
  (43, 2, .bipush (9), 72, 0, []),
  (45, 3, .goto (4), 0, 49, []),
  (48, 1, .iconst 0, 0, 0, []),
  (49, 2, .istore 4, 0, 0, []),
  (51, 1, .aload_n 0, 0, 0, []),
  (52, 3, .getfield 115, 1, 52, [(0, 1493)]),
  (55, 1, .iload_n 3, 0, 0, []),
  (56, 1, .aload_n 0, 0, 0, []),
  (57, 3, .getfield 85, 1, 38, [(0, 1479)]),
  (60, 2, .bipush (7), 56, 0, []),
  (62, 1, .iload_n 1, 0, 0, []),
  (63, 1, .iadd, 0, 0, []),
  (64, 1, .iaload, 0, 0, []),
  (65, 2, .iload 4, 0, 0, []),
  (67, 1, .isub, 0, 0, []),
  (68, 1, .iastore, 0, 0, []),
  (69, 1, .aload_n 0, 0, 0, []),
  (70, 3, .getfield 118, 1, 53, [(0, 1494)]),
  (73, 1, .iload_n 3, 0, 0, []),
  (74, 1, .aload_n 0, 0, 0, []),
  (75, 3, .getfield 85, 1, 38, [(0, 1479)]),
  (78, 2, .bipush (7), 56, 0, []),
  (80, 1, .iload_n 2, 0, 0, []),
  (81, 1, .iadd, 0, 0, []),
  (82, 1, .iaload, 0, 0, []),
  (83, 2, .iload 4, 0, 0, []),
  (85, 1, .isub, 0, 0, []),
  (86, 1, .iastore, 0, 0, []),
  (87, 1, .aload_n 0, 0, 0, []),
  (88, 3, .invokevirtual 442, 25, 0, [(0, 1919)]),
  (91, 3, .iinc 3 (1), 8, 0, []),
  (94, 3, .goto (-92), 0, 2, []),
  (97, 1, .aload_n 0, 0, 0, []),
  (98, 1, .iconst 0, 0, 0, []),
  (99, 3, .putfield 367, 1, 44, [(1, 1485)]),
  (102, 1, .return_, 0, 0, [])]
/-- GravyRoundModel.layStands ()V -/
def gc_246 : List ga_E := [(0, 1, .aload_n 0, 0, 0, []),
  (1, 3, .invokevirtual 439, 29, 0, [(0, 1915)]),
  (4, 1, .iconst 1, 8, 0, []),
  (5, 1, .istore_n 1, 0, 0, []),
  (6, 1, .iload_n 1, 0, 0, []),
  (7, 2, .bipush (20), 160, 0, []),
  (9, 3, .if_icmp .gt (67), 0, 76, []),
  (12, 1, .aload_n 0, 0, 0, []),
  (13, 1, .iload_n 1, 0, 0, []),
  (14, 3, .putfield 100, 1, 43, [(0, 1484)]),
  (17, 1, .aload_n 0, 0, 0, []),
  (18, 3, .invokevirtual 377, 68, 0, [(0, 1395)]),
  (21, 1, .iconst 0, 0, 0, []),
  (22, 1, .istore_n 2, 0, 0, []),
  (23, 1, .iload_n 2, 0, 0, []),
  (24, 2, .bipush (40), 320, 0, []),
  (26, 3, .if_icmp .gt (44), 0, 70, []),
  (29, 1, .aload_n 0, 0, 0, []),
  (30, 3, .getfield 121, 1, 54, [(0, 1495)]),
  (33, 2, .bipush (41), 328, 0, []),
  (35, 1, .iload_n 1, 0, 0, []),
  (36, 1, .imul, 0, 0, []),
  (37, 1, .iload_n 2, 0, 0, []),
  (38, 1, .iadd, 0, 0, []),
  (39, 1, .aload_n 0, 0, 0, []),
  (40, 3, .getfield 85, 1, 38, [(0, 1479)]),
  (43, 2, .bipush (24), 192, 0, []),
  (45, 1, .iaload, 0, 0, []),
  (46, 1, .iastore, 0, 0, []),
  (47, 1, .aload_n 0, 0, 0, []),
  (48, 3, .invokevirtual 358, 2, 0, [(0, 1422)]),
  (51, 3, .ifCond .eq (7), 0, 58, []),
  (54, 1, .iconst (-1), 34359738360, 0, []),
  (55, 3, .goto (8), 0, 63, []),
  (58, 1, .aload_n 0, 0, 0, []),
  (59, 1, .iconst 0, 0, 0, []),
  (60, 3, .invokevirtual 411, 227, 0, [(0, 1841)]),
  (63, 1, .istore_n 3, 0, 0, []),
  (64, 3, .iinc 2 (1), 8, 0, []),
  (67, 3, .goto (-44), 0, 23, []),
  (70, 3, .iinc 1 (1), 8, 0, []),
  (73, 3, .goto (-67), 0, 6, []),
  (76, 1, .aload_n 0, 0, 0, []),
  (77, 1, .iconst (-1), 34359738360, 0, []),
  (78, 3, .putfield 100, 1, 43, [(0, 1484)]),
  (81, 1, .aload_n 0, 0, 0, []),
  (82, 3, .invokevirtual 442, 25, 0, [(0, 1919)]),
  (85, 1, .return_, 0, 0, [])]
/-- GravyRoundModel.doesFit (II)Z -/
def gc_247 : List ga_E := [(0, 1, .iconst 0, 0, 0, []),
  (1, 1, .istore_n 3, 0, 0, []),
  (2, 1, .iload_n 3, 0, 0, []),
  (3, 1, .aload_n 0, 0, 0, []),
  (4, 3, .getfield 386, 1, 61, [(0, 1502)]),
  (7, 3, .if_icmp .ge (86), 0, 93, []),
  (10, 1, .aload_n 0, 0, 0, []),
  (11, 3, .getfield 133, 1, 58, [(0, 1499)]),
  (14, 1, .iload_n 3, 0, 0, []),
  (15, 1, .iaload, 0, 0, []),
  (16, 1, .iload_n 2, 0, 0, []),
  (17, 3, .if_icmp .gt (70), 0, 87, []),
  (20, 1, .aload_n 0, 0, 0, []),
  (21, 3, .getfield 136, 1, 59, [(0, 1500)]),
  (24, 1, .iload_n 3, 0, 0, []),
  (25, 1, .iaload, 0, 0, []),
  (26, 3, .ifCond .lt (16), 0, 42, []),
  (29, 1, .aload_n 0, 0, 0, []),
  (30, 3, .getfield 136, 1, 59, [(0, 1500)]),
  (33, 1, .iload_n 3, 0, 0, []),
  (34, 1, .iaload, 0, 0, []),
  (35, 1, .iload_n 2, 0, 0, []),
  (36, 3, .if_icmp .gt (6), 0, 42, []),
  (39, 3, .goto (48), 0, 87, []),
  (42, 1, .aload_n 0, 0, 0, []),
  (43, 3, .getfield 121, 1, 54, [(0, 1495)]),
  (46, 2, .bipush (41), 328, 0, []),
  (48, 1, .iload_n 1, 0, 0, []),
  (49, 1, .imul, 0, 0, []),
  (50, 1, .aload_n 0, 0, 0, []),
  (51, 3, .getfield 124, 1, 55, [(0, 1496)]),
  (54, 1, .iload_n 3, 0, 0, []),
  (55, 1, .iaload, 0, 0, []),
  (56, 1, .iadd, 0, 0, []),
  (57, 1, .iaload, 0, 0, []),
  (58, 1, .aload_n 0, 0, 0, []),
  (59, 3, .getfield 127, 1, 56, [(0, 1497)]),
  (62, 1, .iload_n 3, 0, 0, []),
  (63, 1, .iaload, 0, 0, []),
  (64, 3, .if_icmp .ne (7), 0, 71, []),
  (67, 1, .iconst 1, 8, 0, []),
  (68, 3, .goto (4), 0, 72, []),
  (71, 1, .iconst 0, 0, 0, []),
  (72, 2, .istore 4, 0, 0, []),
  (74, 2, .iload 4, 0, 0, []),
  (76, 1, .aload_n 0, 0, 0, []),
  (77, 3, .getfield 130, 1, 57, [(0, 1498)]),
  (80, 1, .iload_n 3, 0, 0, []),
  (81, 1, .iaload, 0, 0, []),
  (82, 3, .if_icmp .eq (5), 0, 87, []),
  (85, 1, .iconst 0, 0, 0, []),
  (86, 1, .ireturn, 0, 0, []),
  (87, 3, .iinc 3 (1), 8, 0, []),
  (90, 3, .goto (-88), 0, 2, []),
  (93, 1, .iconst 1, 8, 0, []),
  (94, 1, .ireturn, 0, 0, [])]
/-- GravyRoundModel.mostBy (II)I -/
def gc_248 : List ga_E := [(0, 1, .iconst 0, 0, 0, []),
  (1, 1, .istore_n 3, 0, 0, []),
  (2, 1, .iload_n 3, 0, 0, []),
  (3, 2, .bipush (7), 56, 0, []),
  (5, 3, .if_icmp .gt (16), 0, 21, []),
  (8, 1, .aload_n 0, 0, 0, []),
  (9, 3, .getfield 139, 1, 60, [(0, 1501)]),
  (12, 1, .iload_n 3, 0, 0, []),
  (13, 1, .iconst 0, 0, 0, []),
  (14, 1, .iastore, 0, 0, []),
  (15, 3, .iinc 3 (1), 8, 0, []),
  (18, 3, .goto (-16), 0, 2, []),
  (21, 1, .iconst 0, 0, 0, []),
  (22, 1, .istore_n 3, 0, 0, []),
  (23, 1, .iconst 1, 8, 0, []),
  (24, 2, .istore 4, 0, 0, []),
  (26, 2, .iload 4, 0, 0, []),
  (28, 2, .bipush (20), 160, 0, []),
  (30, 3, .if_icmp .gt (68), 0, 98, []),
  (33, 1, .aload_n 0, 0, 0, []),
  (34, 2, .iload 4, 0, 0, []),
  (36, 1, .iload_n 2, 0, 0, []),
  (37, 3, .invokevirtual 520, 247, 0, [(0, 2097)]),
  (40, 3, .ifCond .ne (6), 0, 46, []),
  (43, 3, .goto (49), 0, 92, []),
  (46, 1, .aload_n 0, 0, 0, []),
  (47, 3, .getfield 121, 1, 54, [(0, 1495)]),
  (50, 2, .bipush (41), 328, 0, []),
  (52, 2, .iload 4, 0, 0, []),
  (54, 1, .imul, 0, 0, []),
  (55, 1, .iload_n 1, 0, 0, []),
  (56, 1, .iadd, 0, 0, []),
  (57, 1, .iaload, 0, 0, []),
  (58, 1, .iconst 1, 8, 0, []),
  (59, 1, .iadd, 0, 0, []),
  (60, 2, .istore 5, 0, 0, []),
  (62, 1, .aload_n 0, 0, 0, []),
  (63, 3, .getfield 139, 1, 60, [(0, 1501)]),
  (66, 2, .iload 5, 0, 0, []),
  (68, 1, .dup2, 0, 0, []),
  (69, 1, .iaload, 0, 0, []),
  (70, 1, .iconst 1, 8, 0, []),
  (71, 1, .iadd, 0, 0, []),
  (72, 1, .iastore, 0, 0, []),
  (73, 1, .aload_n 0, 0, 0, []),
  (74, 3, .getfield 139, 1, 60, [(0, 1501)]),
  (77, 2, .iload 5, 0, 0, []),
  (79, 1, .iaload, 0, 0, []),
  (80, 1, .iload_n 3, 0, 0, []),
  (81, 3, .if_icmp .le (11), 0, 92, []),
  (84, 1, .aload_n 0, 0, 0, []),
  (85, 3, .getfield 139, 1, 60, [(0, 1501)]),
  (88, 2, .iload 5, 0, 0, []),
  (90, 1, .iaload, 0, 0, []),
  (91, 1, .istore_n 3, 0, 0, []),
  (92, 3, .iinc 4 (1), 8, 0, []),
  (95, 3, .goto (-69), 0, 26, []),
  (98, 1, .iload_n 3, 0, 0, []),
  (99, 1, .ireturn, 0, 0, [])]
/-- GravyRound$Company.allSpeakWithout (I)Z -/
def gc_249 : List ga_E := [(0, 1, .iconst 0, 0, 0, []),
  (1, 1, .istore_n 2, 0, 0, []),
  (2, 1, .iload_n 2, 0, 0, []),
  (3, 1, .aload_n 0, 0, 0, []),
  (4, 3, .getfield 30, 3, 1, [(0, 562)]),
  (7, 3, .if_icmp .ge (32), 0, 39, []),
  (10, 1, .iload_n 1, 0, 0, []),
  (11, 1, .iload_n 2, 0, 0, []),
  (12, 1, .ishr, 0, 0, []),
  (13, 1, .iconst 1, 8, 0, []),
  (14, 1, .iand, 0, 0, []),
  (15, 3, .ifCond .ne (18), 0, 33, []),
  (18, 1, .aload_n 0, 0, 0, []),
  (19, 3, .getfield 9, 3, 0, [(0, 561)]),
  (22, 1, .iload_n 2, 0, 0, []),
  (23, 1, .iaload, 0, 0, []),
  (24, 1, .iload_n 1, 0, 0, []),
  (25, 1, .iconst (-1), 34359738360, 0, []),
  (26, 1, .ixor, 0, 0, []),
  (27, 1, .iand, 0, 0, []),
  (28, 3, .ifCond .eq (5), 0, 33, []),
  (31, 1, .iconst 0, 0, 0, []),
  (32, 1, .ireturn, 0, 0, []),
  (33, 3, .iinc 2 (1), 8, 0, []),
  (36, 3, .goto (-34), 0, 2, []),
  (39, 1, .iconst 1, 8, 0, []),
  (40, 1, .ireturn, 0, 0, [])]
/-- GravyRound$Company.speaksAtHisTable (I)Z -/
def gc_250 : List ga_E := [(0, 1, .iconst 0, 0, 0, []),
  (1, 1, .istore_n 2, 0, 0, []),
  (2, 1, .iload_n 2, 0, 0, []),
  (3, 1, .iload_n 1, 0, 0, []),
  (4, 3, .if_icmp .ge (40), 0, 44, []),
  (7, 1, .aload_n 0, 0, 0, []),
  (8, 3, .getfield 15, 3, 2, [(0, 563)]),
  (11, 1, .iload_n 2, 0, 0, []),
  (12, 1, .iaload, 0, 0, []),
  (13, 1, .aload_n 0, 0, 0, []),
  (14, 3, .getfield 15, 3, 2, [(0, 563)]),
  (17, 1, .iload_n 1, 0, 0, []),
  (18, 1, .iaload, 0, 0, []),
  (19, 3, .if_icmp .ne (19), 0, 38, []),
  (22, 1, .aload_n 0, 0, 0, []),
  (23, 3, .getfield 9, 3, 0, [(0, 561)]),
  (26, 1, .iload_n 1, 0, 0, []),
  (27, 1, .iaload, 0, 0, []),
  (28, 1, .iload_n 2, 0, 0, []),
  (29, 1, .ishr, 0, 0, []),
  (30, 1, .iconst 1, 8, 0, []),
  (31, 1, .iand, 0, 0, []),
  (32, 1, .iconst 1, 8, 0, []),
  (33, 3, .if_icmp .ne (5), 0, 38, []),
  (36, 1, .iconst 0, 0, 0, []),
  (37, 1, .ireturn, 0, 0, []),
  (38, 3, .iinc 2 (1), 8, 0, []),
  (41, 3, .goto (-39), 0, 2, []),
  (44, 1, .iconst 1, 8, 0, []),
  (45, 1, .ireturn, 0, 0, [])]
/-- GravyRound$Company.clanOf (I)I -/
def gc_251 : List ga_E := [(0, 1, .iconst 1, 8, 0, []),
  (1, 1, .aload_n 0, 0, 0, []),
  (2, 3, .getfield 30, 3, 1, [(0, 562)]),
  (5, 1, .ishl, 0, 0, []),
  (6, 1, .iconst 1, 8, 0, []),
  (7, 1, .isub, 0, 0, []),
  (8, 1, .istore_n 2, 0, 0, []),
  (9, 1, .iconst 1, 8, 0, []),
  (10, 1, .iload_n 1, 0, 0, []),
  (11, 1, .ishl, 0, 0, []),
  (12, 1, .istore_n 3, 0, 0, []),
  (13, 1, .iconst 0, 0, 0, []),
  (14, 2, .istore 4, 0, 0, []),
  (16, 2, .iload 4, 0, 0, []),
  (18, 1, .aload_n 0, 0, 0, []),
  (19, 3, .getfield 30, 3, 1, [(0, 562)]),
  (22, 3, .if_icmp .ge (51), 0, 73, []),
  (25, 1, .iconst 0, 0, 0, []),
  (26, 2, .istore 5, 0, 0, []),
  (28, 2, .iload 5, 0, 0, []),
  (30, 1, .aload_n 0, 0, 0, []),
  (31, 3, .getfield 30, 3, 1, [(0, 562)]),
  (34, 3, .if_icmp .ge (33), 0, 67, []),
  (37, 1, .iload_n 3, 0, 0, []),
  (38, 2, .iload 5, 0, 0, []),
  (40, 1, .ishr, 0, 0, []),
  (41, 1, .iconst 1, 8, 0, []),
  (42, 1, .iand, 0, 0, []),
  (43, 1, .iconst 1, 8, 0, []),
  (44, 3, .if_icmp .ne (17), 0, 61, []),
  (47, 1, .iload_n 3, 0, 0, []),
  (48, 1, .iload_n 2, 0, 0, []),
  (49, 1, .aload_n 0, 0, 0, []),
  (50, 3, .getfield 9, 3, 0, [(0, 561)]),
  (53, 2, .iload 5, 0, 0, []),
  (55, 1, .iaload, 0, 0, []),
  (56, 1, .iconst (-1), 34359738360, 0, []),
  (57, 1, .ixor, 0, 0, []),
  (58, 1, .iand, 0, 0, []),
  (59, 1, .ior, 0, 0, []),
  (60, 1, .istore_n 3, 0, 0, []),
  (61, 3, .iinc 5 (1), 8, 0, []),
  (64, 3, .goto (-36), 0, 28, []),
  (67, 3, .iinc 4 (1), 8, 0, []),
  (70, 3, .goto (-54), 0, 16, []),
  (73, 1, .iload_n 3, 0, 0, []),
  (74, 1, .ireturn, 0, 0, [])]
/-- GravyRound$Dinner.addGuest (JII)V -/
def gc_252 : List ga_E := [(0, 1, .aload_n 0, 0, 0, []),
  (1, 3, .getfield 38, 4, 0, [(0, 193)]),
  (4, 2, .bipush (7), 56, 0, []),
  (6, 3, .if_icmp .ge (44), 0, 50, []),
  (9, 1, .aload_n 0, 0, 0, []),
  (10, 3, .getfield 9, 4, 1, [(0, 201)]),
  (13, 1, .aload_n 0, 0, 0, []),
  (14, 3, .getfield 38, 4, 0, [(0, 193)]),
  (17, 1, .lload_n 1, 0, 0, []),
  (18, 1, .lastore, 0, 0, []),
  (19, 1, .aload_n 0, 0, 0, []),
  (20, 3, .getfield 15, 4, 2, [(0, 202)]),
  (23, 1, .aload_n 0, 0, 0, []),
  (24, 3, .getfield 38, 4, 0, [(0, 193)]),
  (27, 1, .iload_n 3, 0, 0, []),
  (28, 1, .iastore, 0, 0, []),
  (29, 1, .aload_n 0, 0, 0, []),
  (30, 3, .getfield 19, 4, 3, [(0, 207)]),
  (33, 1, .aload_n 0, 0, 0, []),
  (34, 3, .getfield 38, 4, 0, [(0, 193)]),
  (37, 2, .iload 4, 0, 0, []),
  (39, 1, .iastore, 0, 0, []),
  (40, 1, .aload_n 0, 0, 0, []),
  (41, 1, .dup, 0, 0, []),
  (42, 3, .getfield 38, 4, 0, [(0, 193)]),
  (45, 1, .iconst 1, 8, 0, []),
  (46, 1, .iadd, 0, 0, []),
  (47, 3, .putfield 38, 4, 0, [(0, 193)]),
  (50, 1, .return_, 0, 0, [])]
/-- GravyRound$Dinner.addFeud (II)V -/
def gc_253 : List ga_E := [(0, 1, .aload_n 0, 0, 0, []),
  (1, 3, .getfield 42, 4, 4, [(0, 212)]),
  (4, 2, .bipush (10), 80, 0, []),
  (6, 3, .if_icmp .ge (33), 0, 39, []),
  (9, 1, .aload_n 0, 0, 0, []),
  (10, 3, .getfield 22, 4, 5, [(0, 215)]),
  (13, 1, .aload_n 0, 0, 0, []),
  (14, 3, .getfield 42, 4, 4, [(0, 212)]),
  (17, 1, .iload_n 1, 0, 0, []),
  (18, 1, .iastore, 0, 0, []),
  (19, 1, .aload_n 0, 0, 0, []),
  (20, 3, .getfield 25, 4, 6, [(0, 217)]),
  (23, 1, .aload_n 0, 0, 0, []),
  (24, 3, .getfield 42, 4, 4, [(0, 212)]),
  (27, 1, .iload_n 2, 0, 0, []),
  (28, 1, .iastore, 0, 0, []),
  (29, 1, .aload_n 0, 0, 0, []),
  (30, 1, .dup, 0, 0, []),
  (31, 3, .getfield 42, 4, 4, [(0, 212)]),
  (34, 1, .iconst 1, 8, 0, []),
  (35, 1, .iadd, 0, 0, []),
  (36, 3, .putfield 42, 4, 4, [(0, 212)]),
  (39, 1, .return_, 0, 0, [])]
/-- GravyRound$Dinner.guestNamed (J)I -/
def gc_254 : List ga_E := [(0, 1, .iconst 0, 0, 0, []),
  (1, 1, .istore_n 3, 0, 0, []),
  (2, 1, .iload_n 3, 0, 0, []),
  (3, 1, .aload_n 0, 0, 0, []),
  (4, 3, .getfield 38, 4, 0, [(0, 193)]),
  (7, 3, .if_icmp .ge (22), 0, 29, []),
  (10, 1, .aload_n 0, 0, 0, []),
  (11, 3, .getfield 9, 4, 1, [(0, 201)]),
  (14, 1, .iload_n 3, 0, 0, []),
  (15, 1, .laload, 0, 0, []),
  (16, 1, .lload_n 1, 0, 0, []),
  (17, 1, .lcmp, 0, 0, []),
  (18, 3, .ifCond .ne (5), 0, 23, []),
  (21, 1, .iload_n 3, 0, 0, []),
  (22, 1, .ireturn, 0, 0, []),
  (23, 3, .iinc 3 (1), 8, 0, []),
  (26, 3, .goto (-24), 0, 2, []),
  (29, 1, .iconst (-1), 34359738360, 0, []),
  (30, 1, .ireturn, 0, 0, [])]
/-- GravyRound$Dinner.foesOf (II)I -/
def gc_255 : List ga_E := [(0, 1, .iconst 0, 0, 0, []),
  (1, 1, .istore_n 3, 0, 0, []),
  (2, 1, .iconst 0, 0, 0, []),
  (3, 2, .istore 4, 0, 0, []),
  (5, 2, .iload 4, 0, 0, []),
  (7, 1, .aload_n 0, 0, 0, []),
  (8, 3, .getfield 42, 4, 4, [(0, 212)]),
  (11, 3, .if_icmp .ge (67), 0, 78, []),
  (14, 1, .iload_n 2, 0, 0, []),
  (15, 2, .iload 4, 0, 0, []),
  (17, 1, .ishr, 0, 0, []),
  (18, 1, .iconst 1, 8, 0, []),
  (19, 1, .iand, 0, 0, []),
  (20, 3, .ifCond .ne (52), 0, 72, []),
  (23, 1, .aload_n 0, 0, 0, []),
  (24, 3, .getfield 22, 4, 5, [(0, 215)]),
  (27, 2, .iload 4, 0, 0, []),
  (29, 1, .iaload, 0, 0, []),
  (30, 1, .iload_n 1, 0, 0, []),
  (31, 3, .if_icmp .ne (18), 0, 49, []),
  (34, 1, .iload_n 3, 0, 0, []),
  (35, 1, .iconst 1, 8, 0, []),
  (36, 1, .aload_n 0, 0, 0, []),
  (37, 3, .getfield 25, 4, 6, [(0, 217)]),
  (40, 2, .iload 4, 0, 0, []),
  (42, 1, .iaload, 0, 0, []),
  (43, 1, .ishl, 0, 0, []),
  (44, 1, .ior, 0, 0, []),
  (45, 1, .istore_n 3, 0, 0, []),
  (46, 3, .goto (26), 0, 72, []),
  (49, 1, .aload_n 0, 0, 0, []),
  (50, 3, .getfield 25, 4, 6, [(0, 217)]),
  (53, 2, .iload 4, 0, 0, []),
  (55, 1, .iaload, 0, 0, []),
  (56, 1, .iload_n 1, 0, 0, []),
  (57, 3, .if_icmp .ne (15), 0, 72, []),
  (60, 1, .iload_n 3, 0, 0, []),
  (61, 1, .iconst 1, 8, 0, []),
  (62, 1, .aload_n 0, 0, 0, []),
  (63, 3, .getfield 22, 4, 5, [(0, 215)]),
  (66, 2, .iload 4, 0, 0, []),
  (68, 1, .iaload, 0, 0, []),
  (69, 1, .ishl, 0, 0, []),
  (70, 1, .ior, 0, 0, []),
  (71, 1, .istore_n 3, 0, 0, []),
  (72, 3, .iinc 4 (1), 8, 0, []),
  (75, 3, .goto (-70), 0, 5, []),
  (78, 1, .iload_n 3, 0, 0, []),
  (79, 1, .ireturn, 0, 0, [])]
/-- GravyRound$Formula.add (I)V -/
def gc_256 : List ga_E := [(0, 1, .aload_n 0, 0, 0, []),
  (1, 3, .getfield 19, 5, 1, [(0, 164)]),
  (4, 3, .sipush (300), 2400, 0, []),
  (7, 3, .if_icmp .ge (23), 0, 30, []),
  (10, 1, .aload_n 0, 0, 0, []),
  (11, 3, .getfield 9, 5, 0, [(0, 163)]),
  (14, 1, .aload_n 0, 0, 0, []),
  (15, 3, .getfield 19, 5, 1, [(0, 164)]),
  (18, 1, .iload_n 1, 0, 0, []),
  (19, 1, .iastore, 0, 0, []),
  (20, 1, .aload_n 0, 0, 0, []),
  (21, 1, .dup, 0, 0, []),
  (22, 3, .getfield 19, 5, 1, [(0, 164)]),
  (25, 1, .iconst 1, 8, 0, []),
  (26, 1, .iadd, 0, 0, []),
  (27, 3, .putfield 19, 5, 1, [(0, 164)]),
  (30, 1, .return_, 0, 0, [])]
/-- GravyRound$Formula.worth (IIIII)I -/
def gc_257 : List ga_E := [(0, 1, .aload_n 0, 0, 0, []),
  (1, 3, .getfield 13, 5, 3, [(0, 169)]),
  (4, 1, .iconst 0, 0, 0, []),
  (5, 1, .iload_n 1, 0, 0, []),
  (6, 1, .iastore, 0, 0, []),
  (7, 1, .aload_n 0, 0, 0, []),
  (8, 3, .getfield 13, 5, 3, [(0, 169)]),
  (11, 1, .iconst 1, 8, 0, []),
  (12, 1, .iload_n 2, 0, 0, []),
  (13, 1, .iastore, 0, 0, []),
  (14, 1, .aload_n 0, 0, 0, []),
  (15, 3, .getfield 13, 5, 3, [(0, 169)]),
  (18, 1, .iconst 2, 16, 0, []),
  (19, 1, .iload_n 3, 0, 0, []),
  (20, 1, .iastore, 0, 0, []),
  (21, 1, .aload_n 0, 0, 0, []),
  (22, 3, .getfield 13, 5, 3, [(0, 169)]),
  (25, 1, .iconst 3, 24, 0, []),
  (26, 2, .iload 4, 0, 0, []),
  (28, 1, .iastore, 0, 0, []),
  (29, 1, .aload_n 0, 0, 0, []),
  (30, 3, .getfield 13, 5, 3, [(0, 169)]),
  (33, 1, .iconst 4, 32, 0, []),
  (34, 2, .iload 5, 0, 0, []),
  (36, 1, .iastore, 0, 0, []),
  (37, 1, .iconst 0, 0, 0, []),
  (38, 2, .istore 6, 0, 0, []),
  (40, 1, .iconst 0, 0, 0, []),
  (41, 2, .istore 7, 0, 0, []),
  (43, 2, .iload 7, 0, 0, []),
  (45, 1, .aload_n 0, 0, 0, []),
  (46, 3, .getfield 19, 5, 1, [(0, 164)]),
  (49, 3, .if_icmp .ge (150), 0, 199, []),
  (52, 1, .aload_n 0, 0, 0, []),
  (53, 3, .getfield 9, 5, 0, [(0, 163)]),
  (56, 2, .iload 7, 0, 0, []),
  (58, 1, .iaload, 0, 0, []),
  (59, 2, .istore 8, 0, 0, []),
  (61, 2, .iload 8, 0, 0, []),
  (63, 2, .bipush (-5), 34359738328, 0, []),
  (65, 3, .if_icmp .lt (45), 0, 110, []),
  (68, 2, .iload 6, 0, 0, []),
  (70, 1, .aload_n 0, 0, 0, []),
  (71, 3, .getfield 16, 5, 4, [(0, 170)]),
  (74, 1, .arraylength, 0, 0, []),
  (75, 3, .if_icmp .ge (118), 0, 193, []),
  (78, 1, .aload_n 0, 0, 0, []),
  (79, 3, .getfield 16, 5, 4, [(0, 170)]),
  (82, 2, .iload 6, 0, 0, []),
  (84, 2, .iload 8, 0, 0, []),
  (86, 3, .ifCond .lt (8), 0, 94, []),
  (89, 2, .iload 8, 0, 0, []),
  (91, 3, .goto (12), 0, 103, []),
  (94, 1, .aload_n 0, 0, 0, []),
  (95, 3, .getfield 13, 5, 3, [(0, 169)]),
  (98, 1, .iconst (-1), 34359738360, 0, []),
  (99, 2, .iload 8, 0, 0, []),
  (101, 1, .isub, 0, 0, []),
  (102, 1, .iaload, 0, 0, []),
  (103, 1, .iastore, 0, 0, []),
  (104, 3, .iinc 6 (1), 8, 0, []),
  (107, 3, .goto (86), 0, 193, []),
  (110, 2, .iload 8, 0, 0, []),
  (112, 2, .bipush (-16), 34359738240, 0, []),
  (114, 3, .if_icmp .ne (40), 0, 154, []),
  (117, 2, .iload 6, 0, 0, []),
  (119, 3, .ifCond .le (74), 0, 193, []),
  (122, 1, .aload_n 0, 0, 0, []),
  (123, 3, .getfield 16, 5, 4, [(0, 170)]),
  (126, 2, .iload 6, 0, 0, []),
  (128, 1, .iconst 1, 8, 0, []),
  (129, 1, .isub, 0, 0, []),
  (130, 1, .aload_n 0, 0, 0, []),
  (131, 3, .getfield 16, 5, 4, [(0, 170)]),
  (134, 2, .iload 6, 0, 0, []),
  (136, 1, .iconst 1, 8, 0, []),
  (137, 1, .isub, 0, 0, []),
  (138, 1, .iaload, 0, 0, []),
  (139, 3, .ifCond .ne (7), 0, 146, []),
  (142, 1, .iconst 1, 8, 0, []),
  (143, 3, .goto (4), 0, 147, []),
  (146, 1, .iconst 0, 0, 0, []),
  (147, 3, .invokestatic 32, 259, 0, [(0, 991)]),
  (150, 1, .iastore, 0, 0, []),
  (151, 3, .goto (42), 0, 193, []),
  (154, 2, .iload 6, 0, 0, []),
  (156, 1, .iconst 1, 8, 0, []),
  (157, 3, .if_icmp .le (36), 0, 193, []),
  (160, 3, .iinc 6 (-1), 34359738360, 0, []),
  (163, 1, .aload_n 0, 0, 0, []),
  (164, 3, .getfield 16, 5, 4, [(0, 170)]),
  (167, 2, .iload 6, 0, 0, []),
  (169, 1, .iconst 1, 8, 0, []),
  (170, 1, .isub, 0, 0, []),
  (171, 2, .iload 8, 0, 0, []),
  (173, 1, .aload_n 0, 0, 0, []),
  (174, 3, .getfield 16, 5, 4, [(0, 170)]),
  (177, 2, .iload 6, 0, 0, []),
  (179, 1, .iconst 1, 8, 0, []),
  (180, 1, .isub, 0, 0, []),
  (181, 1, .iaload, 0, 0, []),
  (182, 1, .aload_n 0, 0, 0, []),
  (183, 3, .getfield 16, 5, 4, [(0, 170)]),
  (186, 2, .iload 6, 0, 0, []),
  (188, 1, .iaload, 0, 0, []),
  (189, 3, .invokestatic 36, 258, 0, [(0, 994)]),
  (192, 1, .iastore, 0, 0, []),
  (193, 3, .iinc 7 (1), 8, 0, []),
  (196, 3, .goto (-153), 0, 43, []),
  (199, 2, .iload 6, 0, 0, []),
  (201, 3, .ifCond .le (12), 0, 213, []),
  (204, 1, .aload_n 0, 0, 0, []),
  (205, 3, .getfield 16, 5, 4, [(0, 170)]),
  (208, 1, .iconst 0, 0, 0, []),
  (209, 1, .iaload, 0, 0, []),
  (210, 3, .goto (4), 0, 214, []),
  (213, 1, .iconst 0, 0, 0, []),
  (214, 1, .ireturn, 0, 0, [])]
/-- GravyRound$Formula.joined (III)I -/
def gc_258 : List ga_E := [(0, 1, .iload_n 0, 0, 0, []),
  (1, 55, .tableswitch (167) (-15) (-6) #[150, 133, 119, 105, 91, 79, 67, 63, 59, 55], 0, 168, [(34359738248, 151), (34359738256, 134), (34359738264, 120), (34359738272, 106), (34359738280, 92), (34359738288, 80), (34359738296, 68), (34359738304, 64), (34359738312, 60), (34359738320, 56)]),
  (56, 1, .iload_n 1, 0, 0, []),
  (57, 1, .iload_n 2, 0, 0, []),
  (58, 1, .iadd, 0, 0, []),
  (59, 1, .ireturn, 0, 0, []),
  (60, 1, .iload_n 1, 0, 0, []),
  (61, 1, .iload_n 2, 0, 0, []),
  (62, 1, .isub, 0, 0, []),
  (63, 1, .ireturn, 0, 0, []),
  (64, 1, .iload_n 1, 0, 0, []),
  (65, 1, .iload_n 2, 0, 0, []),
  (66, 1, .imul, 0, 0, []),
  (67, 1, .ireturn, 0, 0, []),
  (68, 1, .iload_n 2, 0, 0, []),
  (69, 3, .ifCond .ne (7), 0, 76, []),
  (72, 1, .iconst 0, 0, 0, []),
  (73, 3, .goto (6), 0, 79, []),
  (76, 1, .iload_n 1, 0, 0, []),
  (77, 1, .iload_n 2, 0, 0, []),
  (78, 1, .idiv, 0, 0, []),
  (79, 1, .ireturn, 0, 0, []),
  (80, 1, .iload_n 2, 0, 0, []),
  (81, 3, .ifCond .ne (7), 0, 88, []),
  (84, 1, .iconst 0, 0, 0, []),
  (85, 3, .goto (6), 0, 91, []),
  (88, 1, .iload_n 1, 0, 0, []),
  (89, 1, .iload_n 2, 0, 0, []),
  (90, 1, .irem, 0, 0, []),
  (91, 1, .ireturn, 0, 0, []),
  (92, 1, .iload_n 1, 0, 0, []),
  (93, 1, .iload_n 2, 0, 0, []),
  (94, 3, .if_icmp .ge (7), 0, 101, []),
  (97, 1, .iconst 1, 8, 0, []),
  (98, 3, .goto (4), 0, 102, []),
  (101, 1, .iconst 0, 0, 0, []),
  (102, 3, .invokestatic 32, 259, 0, [(0, 991)]),
  (105, 1, .ireturn, 0, 0, []),
  (106, 1, .iload_n 1, 0, 0, []),
  (107, 1, .iload_n 2, 0, 0, []),
  (108, 3, .if_icmp .le (7), 0, 115, []),
  (111, 1, .iconst 1, 8, 0, []),
  (112, 3, .goto (4), 0, 116, []),
  (115, 1, .iconst 0, 0, 0, []),
  (116, 3, .invokestatic 32, 259, 0, [(0, 991)]),
  (119, 1, .ireturn, 0, 0, []),
  (120, 1, .iload_n 1, 0, 0, []),
  (121, 1, .iload_n 2, 0, 0, []),
  (122, 3, .if_icmp .ne (7), 0, 129, []),
  (125, 1, .iconst 1, 8, 0, []),
  (126, 3, .goto (4), 0, 130, []),
  (129, 1, .iconst 0, 0, 0, []),
  (130, 3, .invokestatic 32, 259, 0, [(0, 991)]),
  (133, 1, .ireturn, 0, 0, []),
  (134, 1, .iload_n 1, 0, 0, []),
  (135, 3, .ifCond .eq (11), 0, 146, []),
  (138, 1, .iload_n 2, 0, 0, []),
  (139, 3, .ifCond .eq (7), 0, 146, []),
  (142, 1, .iconst 1, 8, 0, []),
  (143, 3, .goto (4), 0, 147, []),
  (146, 1, .iconst 0, 0, 0, []),
  (147, 3, .invokestatic 32, 259, 0, [(0, 991)]),
  (150, 1, .ireturn, 0, 0, []),
  (151, 1, .iload_n 1, 0, 0, []),
  (152, 3, .ifCond .ne (7), 0, 159, []),
  (155, 1, .iload_n 2, 0, 0, []),
  (156, 3, .ifCond .eq (7), 0, 163, []),
  (159, 1, .iconst 1, 8, 0, []),
  (160, 3, .goto (4), 0, 164, []),
  (163, 1, .iconst 0, 0, 0, []),
  (164, 3, .invokestatic 32, 259, 0, [(0, 991)]),
  (167, 1, .ireturn, 0, 0, []),
  (168, 1, .iconst 0, 0, 0, []),
  (169, 1, .ireturn, 0, 0, [])]
/-- GravyRound$Formula.truth (Z)I -/
def gc_259 : List ga_E := [(0, 1, .iload_n 0, 0, 0, []),
  (1, 3, .ifCond .eq (7), 0, 8, []),
  (4, 1, .iconst 1, 8, 0, []),
  (5, 3, .goto (4), 0, 9, []),
  (8, 1, .iconst 0, 0, 0, []),
  (9, 1, .ireturn, 0, 0, [])]
/-- GravyRound$Orders.findCheapest (LGravyRound$Table;I)I -/
def gc_260 : List ga_E := [(0, 1, .aload_n 0, 0, 0, []),
  (1, 1, .aload_n 1, 0, 0, []),
  (2, 3, .invokevirtual 31, 262, 0, [(0, 1086)]),
  (5, 1, .aload_n 0, 0, 0, []),
  (6, 1, .iload_n 2, 0, 0, []),
  (7, 3, .putfield 35, 6, 7, [(0, 498)]),
  (10, 1, .aload_n 0, 0, 0, []),
  (11, 2, .ldc 39, 8000000, 0, [(0, 1092)]),
  (13, 3, .putfield 40, 6, 8, [(0, 499)]),
  (16, 1, .aload_n 0, 0, 0, []),
  (17, 1, .iconst 0, 0, 0, []),
  (18, 1, .aload_n 1, 0, 0, []),
  (19, 3, .getfield 43, 11, 1, [(0, 394)]),
  (22, 1, .aload_n 1, 0, 0, []),
  (23, 3, .getfield 48, 11, 6, [(0, 409)]),
  (26, 1, .iaload, 0, 0, []),
  (27, 1, .aload_n 0, 0, 0, []),
  (28, 3, .getfield 51, 6, 6, [(0, 497)]),
  (31, 1, .iconst 0, 0, 0, []),
  (32, 3, .invokestatic 54, 263, 0, [(0, 1093)]),
  (35, 1, .aload_n 0, 0, 0, []),
  (36, 3, .getfield 40, 6, 8, [(0, 499)]),
  (39, 1, .ireturn, 0, 0, [])]
/-- GravyRound$Orders.findWarmest (LGravyRound$Table;)I -/
def gc_261 : List ga_E := [(0, 1, .aload_n 0, 0, 0, []),
  (1, 1, .aload_n 1, 0, 0, []),
  (2, 3, .invokevirtual 31, 262, 0, [(0, 1086)]),
  (5, 1, .aload_n 1, 0, 0, []),
  (6, 3, .getfield 43, 11, 1, [(0, 394)]),
  (9, 1, .aload_n 1, 0, 0, []),
  (10, 3, .getfield 48, 11, 6, [(0, 409)]),
  (13, 1, .iaload, 0, 0, []),
  (14, 1, .istore_n 2, 0, 0, []),
  (15, 1, .aload_n 0, 0, 0, []),
  (16, 3, .getfield 18, 6, 3, [(0, 494)]),
  (19, 1, .iconst 0, 0, 0, []),
  (20, 1, .aload_n 0, 0, 0, []),
  (21, 1, .aload_n 1, 0, 0, []),
  (22, 3, .getfield 58, 11, 5, [(0, 407)]),
  (25, 1, .aload_n 1, 0, 0, []),
  (26, 3, .getfield 61, 11, 4, [(0, 404)]),
  (29, 1, .aload_n 1, 0, 0, []),
  (30, 3, .getfield 64, 11, 9, [(0, 419)]),
  (33, 1, .aload_n 1, 0, 0, []),
  (34, 3, .getfield 67, 11, 7, [(0, 413)]),
  (37, 1, .aload_n 1, 0, 0, []),
  (38, 3, .getfield 48, 11, 6, [(0, 409)]),
  (41, 3, .invokevirtual 70, 267, 0, [(0, 1125)]),
  (44, 1, .iastore, 0, 0, []),
  (45, 1, .aload_n 0, 0, 0, []),
  (46, 3, .getfield 21, 6, 4, [(0, 495)]),
  (49, 1, .iconst 0, 0, 0, []),
  (50, 1, .aload_n 0, 0, 0, []),
  (51, 1, .iload_n 2, 0, 0, []),
  (52, 1, .aload_n 1, 0, 0, []),
  (53, 3, .getfield 61, 11, 4, [(0, 404)]),
  (56, 3, .invokevirtual 74, 268, 0, [(0, 1130)]),
  (59, 1, .iastore, 0, 0, []),
  (60, 1, .aload_n 0, 0, 0, []),
  (61, 1, .iconst (-1), 34359738360, 0, []),
  (62, 3, .putfield 40, 6, 8, [(0, 499)]),
  (65, 1, .aload_n 0, 0, 0, []),
  (66, 1, .iconst 0, 0, 0, []),
  (67, 1, .iload_n 2, 0, 0, []),
  (68, 1, .aload_n 0, 0, 0, []),
  (69, 3, .getfield 51, 6, 6, [(0, 497)]),
  (72, 1, .aload_n 1, 0, 0, []),
  (73, 3, .getfield 64, 11, 9, [(0, 419)]),
  (76, 1, .aload_n 1, 0, 0, []),
  (77, 3, .getfield 67, 11, 7, [(0, 413)]),
  (80, 1, .iadd, 0, 0, []),
  (81, 3, .invokestatic 78, 264, 0, [(0, 1135)]),
  (84, 1, .aload_n 0, 0, 0, []),
  (85, 3, .getfield 40, 6, 8, [(0, 499)]),
  (88, 1, .ireturn, 0, 0, [])]
/-- GravyRound$Orders.look (LGravyRound$Table;)V -/
def gc_262 : List ga_E := [(0, 1, .aload_n 0, 0, 0, []),
  (1, 1, .aload_n 1, 0, 0, []),
  (2, 3, .getfield 48, 11, 6, [(0, 409)]),
  (5, 1, .iconst 1, 8, 0, []),
  (6, 1, .iadd, 0, 0, []),
  (7, 3, .putfield 81, 6, 5, [(0, 496)]),
  (10, 1, .aload_n 0, 0, 0, []),
  (11, 1, .iconst 0, 0, 0, []),
  (12, 1, .aload_n 0, 0, 0, []),
  (13, 3, .getfield 27, 6, 0, [(0, 491)]),
  (16, 3, .getfield 84, 4, 0, [(0, 199)]),
  (19, 1, .aload_n 0, 0, 0, []),
  (20, 3, .getfield 81, 6, 5, [(0, 496)]),
  (23, 1, .isub, 0, 0, []),
  (24, 3, .invokestatic 89, 0, 0, [(0, 1090)]),
  (27, 3, .putfield 94, 6, 10, [(0, 502)]),
  (30, 1, .aload_n 0, 0, 0, []),
  (31, 1, .iconst 0, 0, 0, []),
  (32, 3, .putfield 51, 6, 6, [(0, 497)]),
  (35, 1, .aload_n 0, 0, 0, []),
  (36, 3, .getfield 81, 6, 5, [(0, 496)]),
  (39, 1, .istore_n 2, 0, 0, []),
  (40, 1, .iload_n 2, 0, 0, []),
  (41, 1, .aload_n 0, 0, 0, []),
  (42, 3, .getfield 27, 6, 0, [(0, 491)]),
  (45, 3, .getfield 84, 4, 0, [(0, 199)]),
  (48, 3, .if_icmp .ge (26), 0, 74, []),
  (51, 1, .aload_n 0, 0, 0, []),
  (52, 1, .dup, 0, 0, []),
  (53, 3, .getfield 51, 6, 6, [(0, 497)]),
  (56, 1, .iconst 1, 8, 0, []),
  (57, 1, .aload_n 1, 0, 0, []),
  (58, 3, .getfield 43, 11, 1, [(0, 394)]),
  (61, 1, .iload_n 2, 0, 0, []),
  (62, 1, .iaload, 0, 0, []),
  (63, 1, .ishl, 0, 0, []),
  (64, 1, .ior, 0, 0, []),
  (65, 3, .putfield 51, 6, 6, [(0, 497)]),
  (68, 3, .iinc 2 (1), 8, 0, []),
  (71, 3, .goto (-31), 0, 40, []),
  (74, 1, .iconst 0, 0, 0, []),
  (75, 1, .istore_n 2, 0, 0, []),
  (76, 1, .iload_n 2, 0, 0, []),
  (77, 1, .aload_n 0, 0, 0, []),
  (78, 3, .getfield 27, 6, 0, [(0, 491)]),
  (81, 3, .getfield 84, 4, 0, [(0, 199)]),
  (84, 3, .if_icmp .ge (20), 0, 104, []),
  (87, 1, .aload_n 0, 0, 0, []),
  (88, 3, .getfield 9, 6, 1, [(0, 492)]),
  (91, 1, .iload_n 2, 0, 0, []),
  (92, 1, .aload_n 1, 0, 0, []),
  (93, 1, .iload_n 2, 0, 0, []),
  (94, 3, .invokevirtual 97, 302, 0, [(0, 1091)]),
  (97, 1, .iastore, 0, 0, []),
  (98, 3, .iinc 2 (1), 8, 0, []),
  (101, 3, .goto (-25), 0, 76, []),
  (104, 1, .return_, 0, 0, [])]
/-- GravyRound$Orders.layCheap (LGravyRound$Orders;IIII)V -/
def gc_263 : List ga_E := [(0, 2, .iload 4, 0, 0, []),
  (2, 1, .aload_n 0, 0, 0, []),
  (3, 3, .getfield 40, 6, 8, [(0, 499)]),
  (6, 3, .if_icmp .lt (4), 0, 10, []),
  (9, 1, .return_, 0, 0, []),
  (10, 1, .iload_n 1, 0, 0, []),
  (11, 1, .aload_n 0, 0, 0, []),
  (12, 3, .getfield 94, 6, 10, [(0, 502)]),
  (15, 3, .if_icmp .lt (14), 0, 29, []),
  (18, 1, .aload_n 0, 0, 0, []),
  (19, 2, .iload 4, 0, 0, []),
  (21, 3, .putfield 40, 6, 8, [(0, 499)]),
  (24, 1, .aload_n 0, 0, 0, []),
  (25, 3, .invokevirtual 101, 266, 0, [(0, 1096)]),
  (28, 1, .return_, 0, 0, []),
  (29, 1, .iconst 0, 0, 0, []),
  (30, 2, .istore 5, 0, 0, []),
  (32, 2, .iload 5, 0, 0, []),
  (34, 1, .aload_n 0, 0, 0, []),
  (35, 3, .getfield 27, 6, 0, [(0, 491)]),
  (38, 3, .getfield 84, 4, 0, [(0, 199)]),
  (41, 3, .if_icmp .ge (69), 0, 110, []),
  (44, 1, .iload_n 3, 0, 0, []),
  (45, 2, .iload 5, 0, 0, []),
  (47, 1, .ishr, 0, 0, []),
  (48, 1, .iconst 1, 8, 0, []),
  (49, 1, .iand, 0, 0, []),
  (50, 1, .iconst 1, 8, 0, []),
  (51, 3, .if_icmp .ne (53), 0, 104, []),
  (54, 1, .aload_n 0, 0, 0, []),
  (55, 3, .getfield 15, 6, 2, [(0, 493)]),
  (58, 1, .iload_n 1, 0, 0, []),
  (59, 2, .iload 5, 0, 0, []),
  (61, 1, .iastore, 0, 0, []),
  (62, 1, .aload_n 0, 0, 0, []),
  (63, 1, .iload_n 2, 0, 0, []),
  (64, 2, .iload 5, 0, 0, []),
  (66, 3, .invokevirtual 104, 265, 0, [(0, 1101)]),
  (69, 3, .ifCond .eq (10), 0, 79, []),
  (72, 1, .aload_n 0, 0, 0, []),
  (73, 3, .getfield 35, 6, 7, [(0, 498)]),
  (76, 3, .goto (4), 0, 80, []),
  (79, 1, .iconst 0, 0, 0, []),
  (80, 2, .istore 6, 0, 0, []),
  (82, 1, .aload_n 0, 0, 0, []),
  (83, 1, .iload_n 1, 0, 0, []),
  (84, 1, .iconst 1, 8, 0, []),
  (85, 1, .iadd, 0, 0, []),
  (86, 2, .iload 5, 0, 0, []),
  (88, 1, .iload_n 3, 0, 0, []),
  (89, 1, .iconst 1, 8, 0, []),
  (90, 2, .iload 5, 0, 0, []),
  (92, 1, .ishl, 0, 0, []),
  (93, 1, .iconst (-1), 34359738360, 0, []),
  (94, 1, .ixor, 0, 0, []),
  (95, 1, .iand, 0, 0, []),
  (96, 2, .iload 4, 0, 0, []),
  (98, 2, .iload 6, 0, 0, []),
  (100, 1, .iadd, 0, 0, []),
  (101, 3, .invokestatic 54, 263, 0, [(0, 1093)]),
  (104, 3, .iinc 5 (1), 8, 0, []),
  (107, 3, .goto (-75), 0, 32, []),
  (110, 1, .return_, 0, 0, [])]
/-- GravyRound$Orders.layWarm (LGravyRound$Orders;IIII)V -/
def gc_264 : List ga_E := [(0, 1, .aload_n 0, 0, 0, []),
  (1, 3, .getfield 18, 6, 3, [(0, 494)]),
  (4, 1, .iload_n 1, 0, 0, []),
  (5, 1, .iaload, 0, 0, []),
  (6, 1, .aload_n 0, 0, 0, []),
  (7, 3, .getfield 40, 6, 8, [(0, 499)]),
  (10, 3, .if_icmp .gt (4), 0, 14, []),
  (13, 1, .return_, 0, 0, []),
  (14, 1, .iload_n 1, 0, 0, []),
  (15, 1, .aload_n 0, 0, 0, []),
  (16, 3, .getfield 94, 6, 10, [(0, 502)]),
  (19, 3, .if_icmp .lt (18), 0, 37, []),
  (22, 1, .aload_n 0, 0, 0, []),
  (23, 1, .aload_n 0, 0, 0, []),
  (24, 3, .getfield 18, 6, 3, [(0, 494)]),
  (27, 1, .iload_n 1, 0, 0, []),
  (28, 1, .iaload, 0, 0, []),
  (29, 3, .putfield 40, 6, 8, [(0, 499)]),
  (32, 1, .aload_n 0, 0, 0, []),
  (33, 3, .invokevirtual 101, 266, 0, [(0, 1096)]),
  (36, 1, .return_, 0, 0, []),
  (37, 1, .iconst 0, 0, 0, []),
  (38, 2, .istore 5, 0, 0, []),
  (40, 2, .iload 5, 0, 0, []),
  (42, 1, .aload_n 0, 0, 0, []),
  (43, 3, .getfield 27, 6, 0, [(0, 491)]),
  (46, 3, .getfield 84, 4, 0, [(0, 199)]),
  (49, 3, .if_icmp .ge (137), 0, 186, []),
  (52, 1, .iload_n 3, 0, 0, []),
  (53, 2, .iload 5, 0, 0, []),
  (55, 1, .ishr, 0, 0, []),
  (56, 1, .iconst 1, 8, 0, []),
  (57, 1, .iand, 0, 0, []),
  (58, 1, .iconst 1, 8, 0, []),
  (59, 3, .if_icmp .ne (121), 0, 180, []),
  (62, 1, .aload_n 0, 0, 0, []),
  (63, 3, .getfield 15, 6, 2, [(0, 493)]),
  (66, 1, .iload_n 1, 0, 0, []),
  (67, 2, .iload 5, 0, 0, []),
  (69, 1, .iastore, 0, 0, []),
  (70, 1, .aload_n 0, 0, 0, []),
  (71, 3, .getfield 27, 6, 0, [(0, 491)]),
  (74, 3, .getfield 108, 4, 3, [(0, 209)]),
  (77, 2, .iload 5, 0, 0, []),
  (79, 1, .iaload, 0, 0, []),
  (80, 1, .aload_n 0, 0, 0, []),
  (81, 1, .iload_n 2, 0, 0, []),
  (82, 2, .iload 5, 0, 0, []),
  (84, 3, .invokevirtual 104, 265, 0, [(0, 1101)]),
  (87, 3, .ifCond .eq (13), 0, 100, []),
  (90, 1, .aload_n 0, 0, 0, []),
  (91, 3, .getfield 27, 6, 0, [(0, 491)]),
  (94, 3, .getfield 111, 4, 9, [(0, 227)]),
  (97, 3, .goto (4), 0, 101, []),
  (100, 1, .iconst 0, 0, 0, []),
  (101, 1, .iadd, 0, 0, []),
  (102, 2, .istore 6, 0, 0, []),
  (104, 1, .aload_n 0, 0, 0, []),
  (105, 3, .getfield 18, 6, 3, [(0, 494)]),
  (108, 1, .iload_n 1, 0, 0, []),
  (109, 1, .iconst 1, 8, 0, []),
  (110, 1, .iadd, 0, 0, []),
  (111, 1, .aload_n 0, 0, 0, []),
  (112, 1, .aload_n 0, 0, 0, []),
  (113, 3, .getfield 18, 6, 3, [(0, 494)]),
  (116, 1, .iload_n 1, 0, 0, []),
  (117, 1, .iaload, 0, 0, []),
  (118, 1, .aload_n 0, 0, 0, []),
  (119, 3, .getfield 21, 6, 4, [(0, 495)]),
  (122, 1, .iload_n 1, 0, 0, []),
  (123, 1, .iaload, 0, 0, []),
  (124, 2, .iload 4, 0, 0, []),
  (126, 2, .iload 6, 0, 0, []),
  (128, 1, .aload_n 0, 0, 0, []),
  (129, 3, .getfield 81, 6, 5, [(0, 496)]),
  (132, 1, .iload_n 1, 0, 0, []),
  (133, 1, .iadd, 0, 0, []),
  (134, 3, .invokevirtual 70, 267, 0, [(0, 1125)]),
  (137, 1, .iastore, 0, 0, []),
  (138, 1, .aload_n 0, 0, 0, []),
  (139, 3, .getfield 21, 6, 4, [(0, 495)]),
  (142, 1, .iload_n 1, 0, 0, []),
  (143, 1, .iconst 1, 8, 0, []),
  (144, 1, .iadd, 0, 0, []),
  (145, 1, .aload_n 0, 0, 0, []),
  (146, 2, .iload 5, 0, 0, []),
  (148, 1, .aload_n 0, 0, 0, []),
  (149, 3, .getfield 21, 6, 4, [(0, 495)]),
  (152, 1, .iload_n 1, 0, 0, []),
  (153, 1, .iaload, 0, 0, []),
  (154, 3, .invokevirtual 74, 268, 0, [(0, 1130)]),
  (157, 1, .iastore, 0, 0, []),
  (158, 1, .aload_n 0, 0, 0, []),
  (159, 1, .iload_n 1, 0, 0, []),
  (160, 1, .iconst 1, 8, 0, []),
  (161, 1, .iadd, 0, 0, []),
  (162, 2, .iload 5, 0, 0, []),
  (164, 1, .iload_n 3, 0, 0, []),
  (165, 1, .iconst 1, 8, 0, []),
  (166, 2, .iload 5, 0, 0, []),
  (168, 1, .ishl, 0, 0, []),
  (169, 1, .iconst (-1), 34359738360, 0, []),
  (170, 1, .ixor, 0, 0, []),
  (171, 1, .iand, 0, 0, []),
  (172, 2, .iload 4, 0, 0, []),
  (174, 2, .iload 6, 0, 0, []),
  (176, 1, .iadd, 0, 0, []),
  (177, 3, .invokestatic 78, 264, 0, [(0, 1135)]),
  (180, 3, .iinc 5 (1), 8, 0, []),
  (183, 3, .goto (-143), 0, 40, []),
  (186, 1, .return_, 0, 0, [])]
/-- GravyRound$Orders.isFoe (II)Z -/
def gc_265 : List ga_E := [(0, 1, .aload_n 0, 0, 0, []),
  (1, 3, .getfield 9, 6, 1, [(0, 492)]),
  (4, 1, .iload_n 1, 0, 0, []),
  (5, 1, .iaload, 0, 0, []),
  (6, 1, .iload_n 2, 0, 0, []),
  (7, 1, .ishr, 0, 0, []),
  (8, 1, .iconst 1, 8, 0, []),
  (9, 1, .iand, 0, 0, []),
  (10, 1, .iconst 1, 8, 0, []),
  (11, 3, .if_icmp .ne (7), 0, 18, []),
  (14, 1, .iconst 1, 8, 0, []),
  (15, 3, .goto (4), 0, 19, []),
  (18, 1, .iconst 0, 0, 0, []),
  (19, 1, .ireturn, 0, 0, [])]
/-- GravyRound$Orders.keepOrder ()V -/
def gc_266 : List ga_E := [(0, 1, .aload_n 0, 0, 0, []),
  (1, 3, .getfield 15, 6, 2, [(0, 493)]),
  (4, 1, .iconst 0, 0, 0, []),
  (5, 1, .aload_n 0, 0, 0, []),
  (6, 3, .getfield 24, 6, 9, [(0, 500)]),
  (9, 1, .iconst 0, 0, 0, []),
  (10, 2, .bipush (7), 56, 0, []),
  (12, 3, .invokestatic 114, 1001, 0, [(0, 1100)]),
  (15, 1, .return_, 0, 0, [])]
/-- GravyRound$Orders.cooledFor (IIIII)I -/
def gc_267 : List ga_E := [(0, 1, .iload_n 1, 0, 0, []),
  (1, 2, .istore 6, 0, 0, []),
  (3, 1, .iconst 0, 0, 0, []),
  (4, 2, .istore 7, 0, 0, []),
  (6, 2, .iload 7, 0, 0, []),
  (8, 2, .iload 4, 0, 0, []),
  (10, 3, .if_icmp .ge (27), 0, 37, []),
  (13, 1, .aload_n 0, 0, 0, []),
  (14, 3, .getfield 27, 6, 0, [(0, 491)]),
  (17, 2, .iload 6, 0, 0, []),
  (19, 1, .iload_n 2, 0, 0, []),
  (20, 1, .iload_n 3, 0, 0, []),
  (21, 2, .iload 7, 0, 0, []),
  (23, 1, .iadd, 0, 0, []),
  (24, 2, .iload 5, 0, 0, []),
  (26, 3, .invokevirtual 120, 6, 0, [(0, 1129)]),
  (29, 2, .istore 6, 0, 0, []),
  (31, 3, .iinc 7 (1), 8, 0, []),
  (34, 3, .goto (-28), 0, 6, []),
  (37, 2, .iload 6, 0, 0, []),
  (39, 1, .ireturn, 0, 0, [])]
/-- GravyRound$Orders.leftBehind (II)I -/
def gc_268 : List ga_E := [(0, 1, .iload_n 2, 0, 0, []),
  (1, 1, .aload_n 0, 0, 0, []),
  (2, 3, .getfield 27, 6, 0, [(0, 491)]),
  (5, 3, .getfield 124, 4, 2, [(0, 205)]),
  (8, 1, .iload_n 1, 0, 0, []),
  (9, 1, .iaload, 0, 0, []),
  (10, 1, .iload_n 2, 0, 0, []),
  (11, 3, .invokestatic 127, 4, 0, [(0, 1134)]),
  (14, 1, .isub, 0, 0, []),
  (15, 1, .ireturn, 0, 0, [])]
/-- GravyRound$Reader.readLine ()Z -/
def gc_269 : List ga_E := [(0, 1, .aload_n 0, 0, 0, []),
  (1, 3, .getfield 14, 7, 0, [(0, 366)]),
  (4, 3, .getfield 43, 12, 4, [(0, 341)]),
  (7, 53, .tableswitch (104) (200) (209) #[53, 104, 104, 58, 68, 75, 82, 63, 89, 96], 0, 111, [(1600, 60), (1608, 111), (1616, 111), (1624, 65), (1632, 75), (1640, 82), (1648, 89), (1656, 70), (1664, 96), (1672, 103)]),
  (60, 1, .aload_n 0, 0, 0, []),
  (61, 3, .invokevirtual 50, 270, 0, [(0, 828)]),
  (64, 1, .ireturn, 0, 0, []),
  (65, 1, .aload_n 0, 0, 0, []),
  (66, 3, .invokevirtual 53, 271, 0, [(0, 853)]),
  (69, 1, .ireturn, 0, 0, []),
  (70, 1, .aload_n 0, 0, 0, []),
  (71, 3, .invokevirtual 56, 274, 0, [(0, 866)]),
  (74, 1, .ireturn, 0, 0, []),
  (75, 1, .aload_n 0, 0, 0, []),
  (76, 2, .bipush (99), 792, 0, []),
  (78, 3, .invokevirtual 59, 272, 0, [(0, 915)]),
  (81, 1, .ireturn, 0, 0, []),
  (82, 1, .aload_n 0, 0, 0, []),
  (83, 2, .bipush (99), 792, 0, []),
  (85, 3, .invokevirtual 59, 272, 0, [(0, 915)]),
  (88, 1, .ireturn, 0, 0, []),
  (89, 1, .aload_n 0, 0, 0, []),
  (90, 2, .bipush (9), 72, 0, []),
  (92, 3, .invokevirtual 59, 272, 0, [(0, 915)]),
  (95, 1, .ireturn, 0, 0, []),
  (96, 1, .aload_n 0, 0, 0, []),
  (97, 2, .bipush (100), 800, 0, []),
  (99, 3, .invokevirtual 59, 272, 0, [(0, 915)]),
  (102, 1, .ireturn, 0, 0, []),
  (103, 1, .aload_n 0, 0, 0, []),
  (104, 3, .sipush (999), 7992, 0, []),
  (107, 3, .invokevirtual 59, 272, 0, [(0, 915)]),
  (110, 1, .ireturn, 0, 0, []),
  (111, 1, .aload_n 0, 0, 0, []),
  (112, 1, .iconst 2, 16, 0, []),
  (113, 3, .invokevirtual 63, 289, 0, [(0, 832)]),
  (116, 1, .ireturn, 0, 0, [])]
/-- GravyRound$Reader.readGuest ()Z -/
def gc_270 : List ga_E := [(0, 1, .aload_n 0, 0, 0, []),
  (1, 3, .getfield 20, 7, 1, [(0, 367)]),
  (4, 3, .getfield 66, 4, 0, [(0, 197)]),
  (7, 2, .bipush (7), 56, 0, []),
  (9, 3, .if_icmp .lt (9), 0, 18, []),
  (12, 1, .aload_n 0, 0, 0, []),
  (13, 1, .iconst 2, 16, 0, []),
  (14, 3, .invokevirtual 63, 289, 0, [(0, 832)]),
  (17, 1, .ireturn, 0, 0, []),
  (18, 1, .aload_n 0, 0, 0, []),
  (19, 3, .getfield 14, 7, 0, [(0, 366)]),
  (22, 3, .invokevirtual 69, 175, 0, [(0, 836)]),
  (25, 1, .aload_n 0, 0, 0, []),
  (26, 3, .getfield 14, 7, 0, [(0, 366)]),
  (29, 3, .getfield 43, 12, 4, [(0, 341)]),
  (32, 1, .iconst 2, 16, 0, []),
  (33, 3, .if_icmp .eq (9), 0, 42, []),
  (36, 1, .aload_n 0, 0, 0, []),
  (37, 1, .iconst 2, 16, 0, []),
  (38, 3, .invokevirtual 63, 289, 0, [(0, 832)]),
  (41, 1, .ireturn, 0, 0, []),
  (42, 1, .aload_n 0, 0, 0, []),
  (43, 3, .getfield 20, 7, 1, [(0, 367)]),
  (46, 1, .aload_n 0, 0, 0, []),
  (47, 3, .getfield 14, 7, 0, [(0, 366)]),
  (50, 3, .getfield 72, 12, 7, [(0, 347)]),
  (53, 3, .invokevirtual 76, 254, 0, [(0, 837)]),
  (56, 1, .iconst (-1), 34359738360, 0, []),
  (57, 3, .if_icmp .eq (9), 0, 66, []),
  (60, 1, .aload_n 0, 0, 0, []),
  (61, 1, .iconst 3, 24, 0, []),
  (62, 3, .invokevirtual 63, 289, 0, [(0, 832)]),
  (65, 1, .ireturn, 0, 0, []),
  (66, 1, .aload_n 0, 0, 0, []),
  (67, 3, .getfield 14, 7, 0, [(0, 366)]),
  (70, 3, .getfield 72, 12, 7, [(0, 347)]),
  (73, 1, .lstore_n 1, 0, 0, []),
  (74, 1, .aload_n 0, 0, 0, []),
  (75, 3, .getfield 14, 7, 0, [(0, 366)]),
  (78, 3, .invokevirtual 69, 175, 0, [(0, 836)]),
  (81, 1, .aload_n 0, 0, 0, []),
  (82, 3, .sipush (201), 1608, 0, []),
  (85, 3, .invokevirtual 80, 288, 0, [(0, 841)]),
  (88, 3, .ifCond .eq (13), 0, 101, []),
  (91, 1, .aload_n 0, 0, 0, []),
  (92, 1, .iconst 0, 0, 0, []),
  (93, 2, .bipush (20), 160, 0, []),
  (95, 3, .invokevirtual 83, 287, 0, [(0, 845)]),
  (98, 3, .ifCond .ne (5), 0, 103, []),
  (101, 1, .iconst 0, 0, 0, []),
  (102, 1, .ireturn, 0, 0, []),
  (103, 1, .aload_n 0, 0, 0, []),
  (104, 3, .getfield 14, 7, 0, [(0, 366)]),
  (107, 3, .getfield 87, 12, 6, [(0, 345)]),
  (110, 1, .istore_n 3, 0, 0, []),
  (111, 1, .aload_n 0, 0, 0, []),
  (112, 3, .getfield 14, 7, 0, [(0, 366)]),
  (115, 3, .invokevirtual 69, 175, 0, [(0, 836)]),
  (118, 1, .aload_n 0, 0, 0, []),
  (119, 3, .sipush (202), 1616, 0, []),
  (122, 3, .invokevirtual 80, 288, 0, [(0, 841)]),
  (125, 3, .ifCond .eq (13), 0, 138, []),
  (128, 1, .aload_n 0, 0, 0, []),
  (129, 1, .iconst 1, 8, 0, []),
  (130, 2, .bipush (9), 72, 0, []),
  (132, 3, .invokevirtual 83, 287, 0, [(0, 845)]),
  (135, 3, .ifCond .ne (5), 0, 140, []),
  (138, 1, .iconst 0, 0, 0, []),
  (139, 1, .ireturn, 0, 0, []),
  (140, 1, .aload_n 0, 0, 0, []),
  (141, 3, .getfield 20, 7, 1, [(0, 367)]),
  (144, 1, .lload_n 1, 0, 0, []),
  (145, 1, .iload_n 3, 0, 0, []),
  (146, 1, .aload_n 0, 0, 0, []),
  (147, 3, .getfield 14, 7, 0, [(0, 366)]),
  (150, 3, .getfield 87, 12, 6, [(0, 345)]),
  (153, 3, .invokevirtual 90, 252, 0, [(0, 849)]),
  (156, 1, .aload_n 0, 0, 0, []),
  (157, 3, .getfield 14, 7, 0, [(0, 366)]),
  (160, 3, .invokevirtual 69, 175, 0, [(0, 836)]),
  (163, 1, .aload_n 0, 0, 0, []),
  (164, 2, .bipush (59), 472, 0, []),
  (166, 3, .invokevirtual 80, 288, 0, [(0, 841)]),
  (169, 1, .ireturn, 0, 0, [])]
/-- GravyRound$Reader.readFeud ()Z -/
def gc_271 : List ga_E := [(0, 1, .aload_n 0, 0, 0, []),
  (1, 3, .getfield 20, 7, 1, [(0, 367)]),
  (4, 3, .getfield 94, 4, 4, [(0, 213)]),
  (7, 2, .bipush (10), 80, 0, []),
  (9, 3, .if_icmp .lt (9), 0, 18, []),
  (12, 1, .aload_n 0, 0, 0, []),
  (13, 1, .iconst 2, 16, 0, []),
  (14, 3, .invokevirtual 63, 289, 0, [(0, 832)]),
  (17, 1, .ireturn, 0, 0, []),
  (18, 1, .aload_n 0, 0, 0, []),
  (19, 3, .getfield 14, 7, 0, [(0, 366)]),
  (22, 3, .invokevirtual 69, 175, 0, [(0, 836)]),
  (25, 1, .aload_n 0, 0, 0, []),
  (26, 3, .invokevirtual 97, 286, 0, [(0, 857)]),
  (29, 3, .ifCond .ne (5), 0, 34, []),
  (32, 1, .iconst 0, 0, 0, []),
  (33, 1, .ireturn, 0, 0, []),
  (34, 1, .aload_n 0, 0, 0, []),
  (35, 3, .getfield 20, 7, 1, [(0, 367)]),
  (38, 1, .aload_n 0, 0, 0, []),
  (39, 3, .getfield 14, 7, 0, [(0, 366)]),
  (42, 3, .getfield 72, 12, 7, [(0, 347)]),
  (45, 3, .invokevirtual 76, 254, 0, [(0, 837)]),
  (48, 1, .istore_n 1, 0, 0, []),
  (49, 1, .aload_n 0, 0, 0, []),
  (50, 3, .getfield 14, 7, 0, [(0, 366)]),
  (53, 3, .invokevirtual 69, 175, 0, [(0, 836)]),
  (56, 1, .aload_n 0, 0, 0, []),
  (57, 3, .invokevirtual 97, 286, 0, [(0, 857)]),
  (60, 3, .ifCond .ne (5), 0, 65, []),
  (63, 1, .iconst 0, 0, 0, []),
  (64, 1, .ireturn, 0, 0, []),
  (65, 1, .aload_n 0, 0, 0, []),
  (66, 3, .getfield 20, 7, 1, [(0, 367)]),
  (69, 1, .aload_n 0, 0, 0, []),
  (70, 3, .getfield 14, 7, 0, [(0, 366)]),
  (73, 3, .getfield 72, 12, 7, [(0, 347)]),
  (76, 3, .invokevirtual 76, 254, 0, [(0, 837)]),
  (79, 1, .istore_n 2, 0, 0, []),
  (80, 1, .iload_n 1, 0, 0, []),
  (81, 1, .iload_n 2, 0, 0, []),
  (82, 3, .if_icmp .eq (20), 0, 102, []),
  (85, 1, .aload_n 0, 0, 0, []),
  (86, 3, .getfield 20, 7, 1, [(0, 367)]),
  (89, 1, .iload_n 1, 0, 0, []),
  (90, 1, .iconst 0, 0, 0, []),
  (91, 3, .invokevirtual 100, 255, 0, [(0, 861)]),
  (94, 1, .iload_n 2, 0, 0, []),
  (95, 1, .ishr, 0, 0, []),
  (96, 1, .iconst 1, 8, 0, []),
  (97, 1, .iand, 0, 0, []),
  (98, 1, .iconst 1, 8, 0, []),
  (99, 3, .if_icmp .ne (9), 0, 108, []),
  (102, 1, .aload_n 0, 0, 0, []),
  (103, 1, .iconst 3, 24, 0, []),
  (104, 3, .invokevirtual 63, 289, 0, [(0, 832)]),
  (107, 1, .ireturn, 0, 0, []),
  (108, 1, .aload_n 0, 0, 0, []),
  (109, 3, .getfield 20, 7, 1, [(0, 367)]),
  (112, 1, .iload_n 1, 0, 0, []),
  (113, 1, .iload_n 2, 0, 0, []),
  (114, 3, .invokevirtual 104, 253, 0, [(0, 862)]),
  (117, 1, .aload_n 0, 0, 0, []),
  (118, 3, .getfield 14, 7, 0, [(0, 366)]),
  (121, 3, .invokevirtual 69, 175, 0, [(0, 836)]),
  (124, 1, .aload_n 0, 0, 0, []),
  (125, 2, .bipush (59), 472, 0, []),
  (127, 3, .invokevirtual 80, 288, 0, [(0, 841)]),
  (130, 1, .ireturn, 0, 0, [])]
/-- GravyRound$Reader.readSetting (I)Z -/
def gc_272 : List ga_E := [(0, 1, .aload_n 0, 0, 0, []),
  (1, 3, .getfield 14, 7, 0, [(0, 366)]),
  (4, 3, .getfield 43, 12, 4, [(0, 341)]),
  (7, 1, .istore_n 2, 0, 0, []),
  (8, 1, .aload_n 0, 0, 0, []),
  (9, 1, .iload_n 2, 0, 0, []),
  (10, 3, .invokevirtual 108, 285, 0, [(0, 870)]),
  (13, 3, .ifCond .ne (5), 0, 18, []),
  (16, 1, .iconst 0, 0, 0, []),
  (17, 1, .ireturn, 0, 0, []),
  (18, 1, .aload_n 0, 0, 0, []),
  (19, 3, .getfield 14, 7, 0, [(0, 366)]),
  (22, 3, .invokevirtual 69, 175, 0, [(0, 836)]),
  (25, 1, .aload_n 0, 0, 0, []),
  (26, 1, .iconst 0, 0, 0, []),
  (27, 1, .iload_n 1, 0, 0, []),
  (28, 3, .invokevirtual 83, 287, 0, [(0, 845)]),
  (31, 3, .ifCond .ne (5), 0, 36, []),
  (34, 1, .iconst 0, 0, 0, []),
  (35, 1, .ireturn, 0, 0, []),
  (36, 1, .aload_n 0, 0, 0, []),
  (37, 1, .iload_n 2, 0, 0, []),
  (38, 1, .aload_n 0, 0, 0, []),
  (39, 3, .getfield 14, 7, 0, [(0, 366)]),
  (42, 3, .getfield 87, 12, 6, [(0, 345)]),
  (45, 3, .invokevirtual 111, 273, 0, [(0, 919)]),
  (48, 1, .aload_n 0, 0, 0, []),
  (49, 3, .getfield 14, 7, 0, [(0, 366)]),
  (52, 3, .invokevirtual 69, 175, 0, [(0, 836)]),
  (55, 1, .aload_n 0, 0, 0, []),
  (56, 2, .bipush (59), 472, 0, []),
  (58, 3, .invokevirtual 80, 288, 0, [(0, 841)]),
  (61, 1, .ireturn, 0, 0, [])]
/-- GravyRound$Reader.set (II)V -/
def gc_273 : List ga_E := [(0, 1, .iload_n 1, 0, 0, []),
  (1, 39, .tableswitch (94) (204) (209) #[39, 50, 61, 94, 72, 83], 0, 95, [(1632, 40), (1640, 51), (1648, 62), (1656, 95), (1664, 73), (1672, 84)]),
  (40, 1, .aload_n 0, 0, 0, []),
  (41, 3, .getfield 20, 7, 1, [(0, 367)]),
  (44, 1, .iload_n 2, 0, 0, []),
  (45, 3, .putfield 114, 4, 7, [(0, 221)]),
  (48, 3, .goto (47), 0, 95, []),
  (51, 1, .aload_n 0, 0, 0, []),
  (52, 3, .getfield 20, 7, 1, [(0, 367)]),
  (55, 1, .iload_n 2, 0, 0, []),
  (56, 3, .putfield 117, 4, 8, [(0, 224)]),
  (59, 3, .goto (36), 0, 95, []),
  (62, 1, .aload_n 0, 0, 0, []),
  (63, 3, .getfield 20, 7, 1, [(0, 367)]),
  (66, 1, .iload_n 2, 0, 0, []),
  (67, 3, .putfield 120, 4, 9, [(0, 228)]),
  (70, 3, .goto (25), 0, 95, []),
  (73, 1, .aload_n 0, 0, 0, []),
  (74, 3, .getfield 20, 7, 1, [(0, 367)]),
  (77, 1, .iload_n 2, 0, 0, []),
  (78, 3, .putfield 123, 4, 10, [(0, 232)]),
  (81, 3, .goto (14), 0, 95, []),
  (84, 1, .aload_n 0, 0, 0, []),
  (85, 3, .getfield 20, 7, 1, [(0, 367)]),
  (88, 1, .iload_n 2, 0, 0, []),
  (89, 3, .putfield 126, 4, 11, [(0, 237)]),
  (92, 3, .goto (3), 0, 95, []),
  (95, 1, .return_, 0, 0, [])]
/-- GravyRound$Reader.readCools ()Z -/
def gc_274 : List ga_E := [(0, 1, .aload_n 0, 0, 0, []),
  (1, 3, .sipush (207), 1656, 0, []),
  (4, 3, .invokevirtual 108, 285, 0, [(0, 870)]),
  (7, 3, .ifCond .ne (5), 0, 12, []),
  (10, 1, .iconst 0, 0, 0, []),
  (11, 1, .ireturn, 0, 0, []),
  (12, 1, .aload_n 0, 0, 0, []),
  (13, 3, .getfield 14, 7, 0, [(0, 366)]),
  (16, 3, .invokevirtual 69, 175, 0, [(0, 836)]),
  (19, 1, .aload_n 0, 0, 0, []),
  (20, 1, .iconst 0, 0, 0, []),
  (21, 3, .invokevirtual 129, 275, 0, [(0, 874)]),
  (24, 3, .ifCond .eq (16), 0, 40, []),
  (27, 1, .aload_n 0, 0, 0, []),
  (28, 2, .bipush (59), 472, 0, []),
  (30, 3, .invokevirtual 80, 288, 0, [(0, 841)]),
  (33, 3, .ifCond .eq (7), 0, 40, []),
  (36, 1, .iconst 1, 8, 0, []),
  (37, 3, .goto (4), 0, 41, []),
  (40, 1, .iconst 0, 0, 0, []),
  (41, 1, .ireturn, 0, 0, [])]
/-- GravyRound$Reader.readEither (I)Z -/
def gc_275 : List ga_E := [(0, 1, .aload_n 0, 0, 0, []),
  (1, 1, .iload_n 1, 0, 0, []),
  (2, 3, .invokevirtual 132, 276, 0, [(0, 878)]),
  (5, 3, .ifCond .ne (5), 0, 10, []),
  (8, 1, .iconst 0, 0, 0, []),
  (9, 1, .ireturn, 0, 0, []),
  (10, 1, .iconst 0, 0, 0, []),
  (11, 1, .istore_n 2, 0, 0, []),
  (12, 1, .iload_n 2, 0, 0, []),
  (13, 3, .sipush (1600), 12800, 0, []),
  (16, 3, .if_icmp .ge (51), 0, 67, []),
  (19, 1, .aload_n 0, 0, 0, []),
  (20, 3, .getfield 14, 7, 0, [(0, 366)]),
  (23, 3, .getfield 43, 12, 4, [(0, 341)]),
  (26, 3, .sipush (210), 1680, 0, []),
  (29, 3, .if_icmp .ne (38), 0, 67, []),
  (32, 1, .aload_n 0, 0, 0, []),
  (33, 3, .getfield 14, 7, 0, [(0, 366)]),
  (36, 3, .invokevirtual 69, 175, 0, [(0, 836)]),
  (39, 1, .aload_n 0, 0, 0, []),
  (40, 1, .iload_n 1, 0, 0, []),
  (41, 3, .invokevirtual 132, 276, 0, [(0, 878)]),
  (44, 3, .ifCond .ne (5), 0, 49, []),
  (47, 1, .iconst 0, 0, 0, []),
  (48, 1, .ireturn, 0, 0, []),
  (49, 1, .aload_n 0, 0, 0, []),
  (50, 3, .getfield 20, 7, 1, [(0, 367)]),
  (53, 3, .getfield 135, 4, 12, [(0, 239)]),
  (56, 2, .bipush (-15), 34359738248, 0, []),
  (58, 3, .invokevirtual 141, 256, 0, [(0, 886)]),
  (61, 3, .iinc 2 (1), 8, 0, []),
  (64, 3, .goto (-52), 0, 12, []),
  (67, 1, .iconst 1, 8, 0, []),
  (68, 1, .ireturn, 0, 0, [])]
/-- GravyRound$Reader.readBoth (I)Z -/
def gc_276 : List ga_E := [(0, 1, .aload_n 0, 0, 0, []),
  (1, 1, .iload_n 1, 0, 0, []),
  (2, 3, .invokevirtual 144, 277, 0, [(0, 882)]),
  (5, 3, .ifCond .ne (5), 0, 10, []),
  (8, 1, .iconst 0, 0, 0, []),
  (9, 1, .ireturn, 0, 0, []),
  (10, 1, .iconst 0, 0, 0, []),
  (11, 1, .istore_n 2, 0, 0, []),
  (12, 1, .iload_n 2, 0, 0, []),
  (13, 3, .sipush (1600), 12800, 0, []),
  (16, 3, .if_icmp .ge (51), 0, 67, []),
  (19, 1, .aload_n 0, 0, 0, []),
  (20, 3, .getfield 14, 7, 0, [(0, 366)]),
  (23, 3, .getfield 43, 12, 4, [(0, 341)]),
  (26, 3, .sipush (211), 1688, 0, []),
  (29, 3, .if_icmp .ne (38), 0, 67, []),
  (32, 1, .aload_n 0, 0, 0, []),
  (33, 3, .getfield 14, 7, 0, [(0, 366)]),
  (36, 3, .invokevirtual 69, 175, 0, [(0, 836)]),
  (39, 1, .aload_n 0, 0, 0, []),
  (40, 1, .iload_n 1, 0, 0, []),
  (41, 3, .invokevirtual 144, 277, 0, [(0, 882)]),
  (44, 3, .ifCond .ne (5), 0, 49, []),
  (47, 1, .iconst 0, 0, 0, []),
  (48, 1, .ireturn, 0, 0, []),
  (49, 1, .aload_n 0, 0, 0, []),
  (50, 3, .getfield 20, 7, 1, [(0, 367)]),
  (53, 3, .getfield 135, 4, 12, [(0, 239)]),
  (56, 2, .bipush (-14), 34359738256, 0, []),
  (58, 3, .invokevirtual 141, 256, 0, [(0, 886)]),
  (61, 3, .iinc 2 (1), 8, 0, []),
  (64, 3, .goto (-52), 0, 12, []),
  (67, 1, .iconst 1, 8, 0, []),
  (68, 1, .ireturn, 0, 0, [])]
/-- GravyRound$Reader.readOne (I)Z -/
def gc_277 : List ga_E := [(0, 1, .aload_n 0, 0, 0, []),
  (1, 3, .getfield 14, 7, 0, [(0, 366)]),
  (4, 3, .getfield 43, 12, 4, [(0, 341)]),
  (7, 3, .sipush (212), 1696, 0, []),
  (10, 3, .if_icmp .ne (48), 0, 58, []),
  (13, 1, .iload_n 1, 0, 0, []),
  (14, 2, .bipush (6), 48, 0, []),
  (16, 3, .if_icmp .le (9), 0, 25, []),
  (19, 1, .aload_n 0, 0, 0, []),
  (20, 1, .iconst 2, 16, 0, []),
  (21, 3, .invokevirtual 63, 289, 0, [(0, 832)]),
  (24, 1, .ireturn, 0, 0, []),
  (25, 1, .aload_n 0, 0, 0, []),
  (26, 3, .getfield 14, 7, 0, [(0, 366)]),
  (29, 3, .invokevirtual 69, 175, 0, [(0, 836)]),
  (32, 1, .aload_n 0, 0, 0, []),
  (33, 1, .iload_n 1, 0, 0, []),
  (34, 1, .iconst 1, 8, 0, []),
  (35, 1, .iadd, 0, 0, []),
  (36, 3, .invokevirtual 144, 277, 0, [(0, 882)]),
  (39, 3, .ifCond .ne (5), 0, 44, []),
  (42, 1, .iconst 0, 0, 0, []),
  (43, 1, .ireturn, 0, 0, []),
  (44, 1, .aload_n 0, 0, 0, []),
  (45, 3, .getfield 20, 7, 1, [(0, 367)]),
  (48, 3, .getfield 135, 4, 12, [(0, 239)]),
  (51, 2, .bipush (-16), 34359738240, 0, []),
  (53, 3, .invokevirtual 141, 256, 0, [(0, 886)]),
  (56, 1, .iconst 1, 8, 0, []),
  (57, 1, .ireturn, 0, 0, []),
  (58, 1, .aload_n 0, 0, 0, []),
  (59, 1, .iload_n 1, 0, 0, []),
  (60, 3, .invokevirtual 147, 278, 0, [(0, 890)]),
  (63, 3, .ifCond .ne (5), 0, 68, []),
  (66, 1, .iconst 0, 0, 0, []),
  (67, 1, .ireturn, 0, 0, []),
  (68, 1, .aload_n 0, 0, 0, []),
  (69, 3, .getfield 14, 7, 0, [(0, 366)]),
  (72, 3, .getfield 43, 12, 4, [(0, 341)]),
  (75, 3, .invokestatic 150, 282, 0, [(0, 912)]),
  (78, 1, .istore_n 2, 0, 0, []),
  (79, 1, .iload_n 2, 0, 0, []),
  (80, 3, .ifCond .ne (5), 0, 85, []),
  (83, 1, .iconst 1, 8, 0, []),
  (84, 1, .ireturn, 0, 0, []),
  (85, 1, .aload_n 0, 0, 0, []),
  (86, 3, .getfield 14, 7, 0, [(0, 366)]),
  (89, 3, .invokevirtual 69, 175, 0, [(0, 836)]),
  (92, 1, .aload_n 0, 0, 0, []),
  (93, 1, .iload_n 1, 0, 0, []),
  (94, 3, .invokevirtual 147, 278, 0, [(0, 890)]),
  (97, 3, .ifCond .ne (5), 0, 102, []),
  (100, 1, .iconst 0, 0, 0, []),
  (101, 1, .ireturn, 0, 0, []),
  (102, 1, .aload_n 0, 0, 0, []),
  (103, 3, .getfield 20, 7, 1, [(0, 367)]),
  (106, 3, .getfield 135, 4, 12, [(0, 239)]),
  (109, 1, .iload_n 2, 0, 0, []),
  (110, 3, .invokevirtual 141, 256, 0, [(0, 886)]),
  (113, 1, .iconst 1, 8, 0, []),
  (114, 1, .ireturn, 0, 0, [])]
/-- GravyRound$Reader.readSum (I)Z -/
def gc_278 : List ga_E := [(0, 1, .aload_n 0, 0, 0, []),
  (1, 1, .iload_n 1, 0, 0, []),
  (2, 3, .invokevirtual 154, 279, 0, [(0, 894)]),
  (5, 3, .ifCond .ne (5), 0, 10, []),
  (8, 1, .iconst 0, 0, 0, []),
  (9, 1, .ireturn, 0, 0, []),
  (10, 1, .iconst 0, 0, 0, []),
  (11, 1, .istore_n 2, 0, 0, []),
  (12, 1, .iload_n 2, 0, 0, []),
  (13, 3, .sipush (1600), 12800, 0, []),
  (16, 3, .if_icmp .ge (81), 0, 97, []),
  (19, 1, .aload_n 0, 0, 0, []),
  (20, 3, .getfield 14, 7, 0, [(0, 366)]),
  (23, 3, .getfield 43, 12, 4, [(0, 341)]),
  (26, 2, .bipush (43), 344, 0, []),
  (28, 3, .if_icmp .eq (15), 0, 43, []),
  (31, 1, .aload_n 0, 0, 0, []),
  (32, 3, .getfield 14, 7, 0, [(0, 366)]),
  (35, 3, .getfield 43, 12, 4, [(0, 341)]),
  (38, 2, .bipush (45), 360, 0, []),
  (40, 3, .if_icmp .ne (57), 0, 97, []),
  (43, 1, .aload_n 0, 0, 0, []),
  (44, 3, .getfield 14, 7, 0, [(0, 366)]),
  (47, 3, .getfield 43, 12, 4, [(0, 341)]),
  (50, 2, .bipush (43), 344, 0, []),
  (52, 3, .if_icmp .ne (8), 0, 60, []),
  (55, 2, .bipush (-6), 34359738320, 0, []),
  (57, 3, .goto (5), 0, 62, []),
  (60, 2, .bipush (-7), 34359738312, 0, []),
  (62, 1, .istore_n 3, 0, 0, []),
  (63, 1, .aload_n 0, 0, 0, []),
  (64, 3, .getfield 14, 7, 0, [(0, 366)]),
  (67, 3, .invokevirtual 69, 175, 0, [(0, 836)]),
  (70, 1, .aload_n 0, 0, 0, []),
  (71, 1, .iload_n 1, 0, 0, []),
  (72, 3, .invokevirtual 154, 279, 0, [(0, 894)]),
  (75, 3, .ifCond .ne (5), 0, 80, []),
  (78, 1, .iconst 0, 0, 0, []),
  (79, 1, .ireturn, 0, 0, []),
  (80, 1, .aload_n 0, 0, 0, []),
  (81, 3, .getfield 20, 7, 1, [(0, 367)]),
  (84, 3, .getfield 135, 4, 12, [(0, 239)]),
  (87, 1, .iload_n 3, 0, 0, []),
  (88, 3, .invokevirtual 141, 256, 0, [(0, 886)]),
  (91, 3, .iinc 2 (1), 8, 0, []),
  (94, 3, .goto (-82), 0, 12, []),
  (97, 1, .iconst 1, 8, 0, []),
  (98, 1, .ireturn, 0, 0, [])]
/-- GravyRound$Reader.readTerm (I)Z -/
def gc_279 : List ga_E := [(0, 1, .aload_n 0, 0, 0, []),
  (1, 1, .iload_n 1, 0, 0, []),
  (2, 3, .invokevirtual 157, 280, 0, [(0, 898)]),
  (5, 3, .ifCond .ne (5), 0, 10, []),
  (8, 1, .iconst 0, 0, 0, []),
  (9, 1, .ireturn, 0, 0, []),
  (10, 1, .iconst 0, 0, 0, []),
  (11, 1, .istore_n 2, 0, 0, []),
  (12, 1, .iload_n 2, 0, 0, []),
  (13, 3, .sipush (1600), 12800, 0, []),
  (16, 3, .if_icmp .ge (61), 0, 77, []),
  (19, 1, .aload_n 0, 0, 0, []),
  (20, 3, .getfield 14, 7, 0, [(0, 366)]),
  (23, 3, .getfield 43, 12, 4, [(0, 341)]),
  (26, 3, .invokestatic 160, 283, 0, [(0, 909)]),
  (29, 3, .ifCond .eq (48), 0, 77, []),
  (32, 1, .aload_n 0, 0, 0, []),
  (33, 3, .getfield 14, 7, 0, [(0, 366)]),
  (36, 3, .getfield 43, 12, 4, [(0, 341)]),
  (39, 3, .invokestatic 160, 283, 0, [(0, 909)]),
  (42, 1, .istore_n 3, 0, 0, []),
  (43, 1, .aload_n 0, 0, 0, []),
  (44, 3, .getfield 14, 7, 0, [(0, 366)]),
  (47, 3, .invokevirtual 69, 175, 0, [(0, 836)]),
  (50, 1, .aload_n 0, 0, 0, []),
  (51, 1, .iload_n 1, 0, 0, []),
  (52, 3, .invokevirtual 157, 280, 0, [(0, 898)]),
  (55, 3, .ifCond .ne (5), 0, 60, []),
  (58, 1, .iconst 0, 0, 0, []),
  (59, 1, .ireturn, 0, 0, []),
  (60, 1, .aload_n 0, 0, 0, []),
  (61, 3, .getfield 20, 7, 1, [(0, 367)]),
  (64, 3, .getfield 135, 4, 12, [(0, 239)]),
  (67, 1, .iload_n 3, 0, 0, []),
  (68, 3, .invokevirtual 141, 256, 0, [(0, 886)]),
  (71, 3, .iinc 2 (1), 8, 0, []),
  (74, 3, .goto (-62), 0, 12, []),
  (77, 1, .iconst 1, 8, 0, []),
  (78, 1, .ireturn, 0, 0, [])]
/-- GravyRound$Reader.readUnit (I)Z -/
def gc_280 : List ga_E := [(0, 1, .aload_n 0, 0, 0, []),
  (1, 3, .getfield 20, 7, 1, [(0, 367)]),
  (4, 3, .getfield 135, 4, 12, [(0, 239)]),
  (7, 3, .getfield 163, 5, 2, [(0, 167)]),
  (10, 2, .bipush (30), 240, 0, []),
  (12, 3, .if_icmp .lt (9), 0, 21, []),
  (15, 1, .aload_n 0, 0, 0, []),
  (16, 1, .iconst 2, 16, 0, []),
  (17, 3, .invokevirtual 63, 289, 0, [(0, 832)]),
  (20, 1, .ireturn, 0, 0, []),
  (21, 1, .aload_n 0, 0, 0, []),
  (22, 3, .getfield 14, 7, 0, [(0, 366)]),
  (25, 3, .getfield 43, 12, 4, [(0, 341)]),
  (28, 2, .bipush (40), 320, 0, []),
  (30, 3, .if_icmp .ne (9), 0, 39, []),
  (33, 1, .aload_n 0, 0, 0, []),
  (34, 1, .iload_n 1, 0, 0, []),
  (35, 3, .invokevirtual 166, 281, 0, [(0, 902)]),
  (38, 1, .ireturn, 0, 0, []),
  (39, 1, .aload_n 0, 0, 0, []),
  (40, 3, .getfield 14, 7, 0, [(0, 366)]),
  (43, 3, .getfield 43, 12, 4, [(0, 341)]),
  (46, 1, .iconst 3, 24, 0, []),
  (47, 3, .if_icmp .ne (23), 0, 70, []),
  (50, 1, .aload_n 0, 0, 0, []),
  (51, 3, .getfield 20, 7, 1, [(0, 367)]),
  (54, 3, .getfield 135, 4, 12, [(0, 239)]),
  (57, 1, .aload_n 0, 0, 0, []),
  (58, 3, .getfield 14, 7, 0, [(0, 366)]),
  (61, 3, .getfield 87, 12, 6, [(0, 345)]),
  (64, 3, .invokevirtual 141, 256, 0, [(0, 886)]),
  (67, 3, .goto (35), 0, 102, []),
  (70, 1, .aload_n 0, 0, 0, []),
  (71, 3, .getfield 14, 7, 0, [(0, 366)]),
  (74, 3, .getfield 43, 12, 4, [(0, 341)]),
  (77, 3, .invokestatic 169, 284, 0, [(0, 906)]),
  (80, 1, .istore_n 2, 0, 0, []),
  (81, 1, .iload_n 2, 0, 0, []),
  (82, 3, .ifCond .ne (9), 0, 91, []),
  (85, 1, .aload_n 0, 0, 0, []),
  (86, 1, .iconst 2, 16, 0, []),
  (87, 3, .invokevirtual 63, 289, 0, [(0, 832)]),
  (90, 1, .ireturn, 0, 0, []),
  (91, 1, .aload_n 0, 0, 0, []),
  (92, 3, .getfield 20, 7, 1, [(0, 367)]),
  (95, 3, .getfield 135, 4, 12, [(0, 239)]),
  (98, 1, .iload_n 2, 0, 0, []),
  (99, 3, .invokevirtual 141, 256, 0, [(0, 886)]),
  (102, 1, .aload_n 0, 0, 0, []),
  (103, 3, .getfield 20, 7, 1, [(0, 367)]),
  (106, 3, .getfield 135, 4, 12, [(0, 239)]),
  (109, 1, .dup, 0, 0, []),
  (110, 3, .getfield 163, 5, 2, [(0, 167)]),
  (113, 1, .iconst 1, 8, 0, []),
  (114, 1, .iadd, 0, 0, []),
  (115, 3, .putfield 163, 5, 2, [(0, 167)]),
  (118, 1, .aload_n 0, 0, 0, []),
  (119, 3, .getfield 14, 7, 0, [(0, 366)]),
  (122, 3, .invokevirtual 69, 175, 0, [(0, 836)]),
  (125, 1, .iconst 1, 8, 0, []),
  (126, 1, .ireturn, 0, 0, [])]
/-- GravyRound$Reader.readInBrackets (I)Z -/
def gc_281 : List ga_E := [(0, 1, .iload_n 1, 0, 0, []),
  (1, 2, .bipush (6), 48, 0, []),
  (3, 3, .if_icmp .le (9), 0, 12, []),
  (6, 1, .aload_n 0, 0, 0, []),
  (7, 1, .iconst 2, 16, 0, []),
  (8, 3, .invokevirtual 63, 289, 0, [(0, 832)]),
  (11, 1, .ireturn, 0, 0, []),
  (12, 1, .aload_n 0, 0, 0, []),
  (13, 3, .getfield 20, 7, 1, [(0, 367)]),
  (16, 3, .getfield 135, 4, 12, [(0, 239)]),
  (19, 1, .dup, 0, 0, []),
  (20, 3, .getfield 163, 5, 2, [(0, 167)]),
  (23, 1, .iconst 1, 8, 0, []),
  (24, 1, .iadd, 0, 0, []),
  (25, 3, .putfield 163, 5, 2, [(0, 167)]),
  (28, 1, .aload_n 0, 0, 0, []),
  (29, 3, .getfield 14, 7, 0, [(0, 366)]),
  (32, 3, .invokevirtual 69, 175, 0, [(0, 836)]),
  (35, 1, .aload_n 0, 0, 0, []),
  (36, 1, .iload_n 1, 0, 0, []),
  (37, 1, .iconst 1, 8, 0, []),
  (38, 1, .iadd, 0, 0, []),
  (39, 3, .invokevirtual 129, 275, 0, [(0, 874)]),
  (42, 3, .ifCond .eq (16), 0, 58, []),
  (45, 1, .aload_n 0, 0, 0, []),
  (46, 2, .bipush (41), 328, 0, []),
  (48, 3, .invokevirtual 80, 288, 0, [(0, 841)]),
  (51, 3, .ifCond .eq (7), 0, 58, []),
  (54, 1, .iconst 1, 8, 0, []),
  (55, 3, .goto (4), 0, 59, []),
  (58, 1, .iconst 0, 0, 0, []),
  (59, 1, .ireturn, 0, 0, [])]
/-- GravyRound$Reader.relationOf (I)I -/
def gc_282 : List ga_E := [(0, 1, .iload_n 0, 0, 0, []),
  (1, 27, .tableswitch (36) (60) (62) #[27, 33, 30], 0, 37, [(480, 28), (488, 34), (496, 31)]),
  (28, 2, .bipush (-11), 34359738280, 0, []),
  (30, 1, .ireturn, 0, 0, []),
  (31, 2, .bipush (-12), 34359738272, 0, []),
  (33, 1, .ireturn, 0, 0, []),
  (34, 2, .bipush (-13), 34359738264, 0, []),
  (36, 1, .ireturn, 0, 0, []),
  (37, 1, .iconst 0, 0, 0, []),
  (38, 1, .ireturn, 0, 0, [])]
/-- GravyRound$Reader.productOf (I)I -/
def gc_283 : List ga_E := [(0, 1, .iload_n 0, 0, 0, []),
  (1, 35, .lookupswitch (44) #[(37, 41), (42, 35), (47, 38)], 0, 45, [(296, 42), (336, 36), (376, 39)]),
  (36, 2, .bipush (-8), 34359738304, 0, []),
  (38, 1, .ireturn, 0, 0, []),
  (39, 2, .bipush (-9), 34359738296, 0, []),
  (41, 1, .ireturn, 0, 0, []),
  (42, 2, .bipush (-10), 34359738288, 0, []),
  (44, 1, .ireturn, 0, 0, []),
  (45, 1, .iconst 0, 0, 0, []),
  (46, 1, .ireturn, 0, 0, [])]
/-- GravyRound$Reader.knownOf (I)I -/
def gc_284 : List ga_E := [(0, 1, .iload_n 0, 0, 0, []),
  (1, 63, .tableswitch (77) (205) (216) #[63, 77, 77, 77, 77, 77, 77, 77, 65, 68, 71, 74], 0, 78, [(1640, 64), (1648, 78), (1656, 78), (1664, 78), (1672, 78), (1680, 78), (1688, 78), (1696, 78), (1704, 66), (1712, 69), (1720, 72), (1728, 75)]),
  (64, 1, .iconst (-1), 34359738360, 0, []),
  (65, 1, .ireturn, 0, 0, []),
  (66, 2, .bipush (-2), 34359738352, 0, []),
  (68, 1, .ireturn, 0, 0, []),
  (69, 2, .bipush (-3), 34359738344, 0, []),
  (71, 1, .ireturn, 0, 0, []),
  (72, 2, .bipush (-4), 34359738336, 0, []),
  (74, 1, .ireturn, 0, 0, []),
  (75, 2, .bipush (-5), 34359738328, 0, []),
  (77, 1, .ireturn, 0, 0, []),
  (78, 1, .iconst 0, 0, 0, []),
  (79, 1, .ireturn, 0, 0, [])]
/-- GravyRound$Reader.isFirstOfSort (I)Z -/
def gc_285 : List ga_E := [(0, 1, .iconst 1, 8, 0, []),
  (1, 1, .iload_n 1, 0, 0, []),
  (2, 3, .sipush (200), 1600, 0, []),
  (5, 1, .isub, 0, 0, []),
  (6, 1, .ishl, 0, 0, []),
  (7, 1, .istore_n 2, 0, 0, []),
  (8, 1, .aload_n 0, 0, 0, []),
  (9, 3, .getfield 29, 7, 2, [(0, 368)]),
  (12, 1, .iload_n 2, 0, 0, []),
  (13, 1, .iand, 0, 0, []),
  (14, 3, .ifCond .eq (9), 0, 23, []),
  (17, 1, .aload_n 0, 0, 0, []),
  (18, 1, .iconst 2, 16, 0, []),
  (19, 3, .invokevirtual 63, 289, 0, [(0, 832)]),
  (22, 1, .ireturn, 0, 0, []),
  (23, 1, .aload_n 0, 0, 0, []),
  (24, 1, .dup, 0, 0, []),
  (25, 3, .getfield 29, 7, 2, [(0, 368)]),
  (28, 1, .iload_n 2, 0, 0, []),
  (29, 1, .ior, 0, 0, []),
  (30, 3, .putfield 29, 7, 2, [(0, 368)]),
  (33, 1, .iconst 1, 8, 0, []),
  (34, 1, .ireturn, 0, 0, [])]
/-- GravyRound$Reader.isToldGuest ()Z -/
def gc_286 : List ga_E := [(0, 1, .aload_n 0, 0, 0, []),
  (1, 3, .getfield 14, 7, 0, [(0, 366)]),
  (4, 3, .getfield 43, 12, 4, [(0, 341)]),
  (7, 1, .iconst 2, 16, 0, []),
  (8, 3, .if_icmp .eq (9), 0, 17, []),
  (11, 1, .aload_n 0, 0, 0, []),
  (12, 1, .iconst 2, 16, 0, []),
  (13, 3, .invokevirtual 63, 289, 0, [(0, 832)]),
  (16, 1, .ireturn, 0, 0, []),
  (17, 1, .aload_n 0, 0, 0, []),
  (18, 3, .getfield 20, 7, 1, [(0, 367)]),
  (21, 1, .aload_n 0, 0, 0, []),
  (22, 3, .getfield 14, 7, 0, [(0, 366)]),
  (25, 3, .getfield 72, 12, 7, [(0, 347)]),
  (28, 3, .invokevirtual 76, 254, 0, [(0, 837)]),
  (31, 1, .iconst (-1), 34359738360, 0, []),
  (32, 3, .if_icmp .ne (11), 0, 43, []),
  (35, 1, .aload_n 0, 0, 0, []),
  (36, 1, .iconst 5, 40, 0, []),
  (37, 3, .invokevirtual 63, 289, 0, [(0, 832)]),
  (40, 3, .ifCond .eq (7), 0, 47, []),
  (43, 1, .iconst 1, 8, 0, []),
  (44, 3, .goto (4), 0, 48, []),
  (47, 1, .iconst 0, 0, 0, []),
  (48, 1, .ireturn, 0, 0, [])]
/-- GravyRound$Reader.isNumber (II)Z -/
def gc_287 : List ga_E := [(0, 1, .aload_n 0, 0, 0, []),
  (1, 3, .getfield 14, 7, 0, [(0, 366)]),
  (4, 3, .getfield 43, 12, 4, [(0, 341)]),
  (7, 1, .iconst 3, 24, 0, []),
  (8, 3, .if_icmp .eq (9), 0, 17, []),
  (11, 1, .aload_n 0, 0, 0, []),
  (12, 1, .iconst 2, 16, 0, []),
  (13, 3, .invokevirtual 63, 289, 0, [(0, 832)]),
  (16, 1, .ireturn, 0, 0, []),
  (17, 1, .aload_n 0, 0, 0, []),
  (18, 3, .getfield 14, 7, 0, [(0, 366)]),
  (21, 3, .getfield 87, 12, 6, [(0, 345)]),
  (24, 1, .iload_n 1, 0, 0, []),
  (25, 3, .if_icmp .lt (14), 0, 39, []),
  (28, 1, .aload_n 0, 0, 0, []),
  (29, 3, .getfield 14, 7, 0, [(0, 366)]),
  (32, 3, .getfield 87, 12, 6, [(0, 345)]),
  (35, 1, .iload_n 2, 0, 0, []),
  (36, 3, .if_icmp .le (11), 0, 47, []),
  (39, 1, .aload_n 0, 0, 0, []),
  (40, 1, .iconst 4, 32, 0, []),
  (41, 3, .invokevirtual 63, 289, 0, [(0, 832)]),
  (44, 3, .ifCond .eq (7), 0, 51, []),
  (47, 1, .iconst 1, 8, 0, []),
  (48, 3, .goto (4), 0, 52, []),
  (51, 1, .iconst 0, 0, 0, []),
  (52, 1, .ireturn, 0, 0, [])]
/-- GravyRound$Reader.pass (I)Z -/
def gc_288 : List ga_E := [(0, 1, .aload_n 0, 0, 0, []),
  (1, 3, .getfield 14, 7, 0, [(0, 366)]),
  (4, 3, .getfield 43, 12, 4, [(0, 341)]),
  (7, 1, .iload_n 1, 0, 0, []),
  (8, 3, .if_icmp .eq (9), 0, 17, []),
  (11, 1, .aload_n 0, 0, 0, []),
  (12, 1, .iconst 2, 16, 0, []),
  (13, 3, .invokevirtual 63, 289, 0, [(0, 832)]),
  (16, 1, .ireturn, 0, 0, []),
  (17, 1, .aload_n 0, 0, 0, []),
  (18, 3, .getfield 14, 7, 0, [(0, 366)]),
  (21, 3, .invokevirtual 69, 175, 0, [(0, 836)]),
  (24, 1, .iconst 1, 8, 0, []),
  (25, 1, .ireturn, 0, 0, [])]
/-- GravyRound$Reader.refuse (I)Z -/
def gc_289 : List ga_E := [(0, 1, .aload_n 0, 0, 0, []),
  (1, 1, .aload_n 0, 0, 0, []),
  (2, 3, .getfield 14, 7, 0, [(0, 366)]),
  (5, 3, .getfield 43, 12, 4, [(0, 341)]),
  (8, 1, .iconst 1, 8, 0, []),
  (9, 3, .if_icmp .ne (7), 0, 16, []),
  (12, 1, .iconst 1, 8, 0, []),
  (13, 3, .goto (4), 0, 17, []),
  (16, 1, .iload_n 1, 0, 0, []),
  (17, 3, .putfield 33, 7, 3, [(0, 369)]),
  (20, 1, .aload_n 0, 0, 0, []),
  (21, 1, .aload_n 0, 0, 0, []),
  (22, 3, .getfield 14, 7, 0, [(0, 366)]),
  (25, 3, .getfield 172, 12, 5, [(0, 344)]),
  (28, 3, .putfield 36, 7, 4, [(0, 371)]),
  (31, 1, .iconst 0, 0, 0, []),
  (32, 1, .ireturn, 0, 0, [])]
/-- GravyRound$Row.put (I)V -/
def gc_290 : List ga_E := [(0, 1, .aload_n 0, 0, 0, []),
  (1, 3, .getfield 15, 8, 1, [(0, 478)]),
  (4, 1, .aload_n 0, 0, 0, []),
  (5, 3, .getfield 9, 8, 0, [(0, 476)]),
  (8, 1, .arraylength, 0, 0, []),
  (9, 3, .if_icmp .ge (23), 0, 32, []),
  (12, 1, .aload_n 0, 0, 0, []),
  (13, 3, .getfield 9, 8, 0, [(0, 476)]),
  (16, 1, .aload_n 0, 0, 0, []),
  (17, 3, .getfield 15, 8, 1, [(0, 478)]),
  (20, 1, .iload_n 1, 0, 0, []),
  (21, 1, .iastore, 0, 0, []),
  (22, 1, .aload_n 0, 0, 0, []),
  (23, 1, .dup, 0, 0, []),
  (24, 3, .getfield 15, 8, 1, [(0, 478)]),
  (27, 1, .iconst 1, 8, 0, []),
  (28, 1, .iadd, 0, 0, []),
  (29, 3, .putfield 15, 8, 1, [(0, 478)]),
  (32, 1, .return_, 0, 0, [])]
/-- GravyRound$Shares.countRests (LGravyRound$Table;II)I -/
def gc_291 : List ga_E := [(0, 1, .aload_n 0, 0, 0, []),
  (1, 1, .aload_n 1, 0, 0, []),
  (2, 1, .iload_n 2, 0, 0, []),
  (3, 1, .iload_n 3, 0, 0, []),
  (4, 3, .invokevirtual 53, 292, 0, [(0, 1232)]),
  (7, 1, .iconst 0, 0, 0, []),
  (8, 2, .istore 4, 0, 0, []),
  (10, 1, .iconst 0, 0, 0, []),
  (11, 2, .istore 5, 0, 0, []),
  (13, 2, .iload 5, 0, 0, []),
  (15, 2, .bipush (6), 48, 0, []),
  (17, 3, .if_icmp .ge (56), 0, 73, []),
  (20, 1, .iconst 0, 0, 0, []),
  (21, 2, .istore 6, 0, 0, []),
  (23, 2, .iload 6, 0, 0, []),
  (25, 2, .bipush (6), 48, 0, []),
  (27, 3, .if_icmp .ge (40), 0, 67, []),
  (30, 1, .aload_n 0, 0, 0, []),
  (31, 2, .iload 5, 0, 0, []),
  (33, 2, .iload 6, 0, 0, []),
  (35, 3, .invokevirtual 57, 293, 0, [(0, 1238)]),
  (38, 3, .ifCond .eq (23), 0, 61, []),
  (41, 2, .iload 4, 0, 0, []),
  (43, 3, .ifCond .ne (15), 0, 58, []),
  (46, 1, .aload_n 0, 0, 0, []),
  (47, 2, .iload 5, 0, 0, []),
  (49, 3, .putfield 61, 9, 4, [(0, 538)]),
  (52, 1, .aload_n 0, 0, 0, []),
  (53, 2, .iload 6, 0, 0, []),
  (55, 3, .putfield 64, 9, 5, [(0, 540)]),
  (58, 3, .iinc 4 (1), 8, 0, []),
  (61, 3, .iinc 6 (1), 8, 0, []),
  (64, 3, .goto (-41), 0, 23, []),
  (67, 3, .iinc 5 (1), 8, 0, []),
  (70, 3, .goto (-57), 0, 13, []),
  (73, 2, .iload 4, 0, 0, []),
  (75, 1, .ireturn, 0, 0, [])]
/-- GravyRound$Shares.reckonGains (LGravyRound$Table;II)V -/
def gc_292 : List ga_E := [(0, 1, .aload_n 0, 0, 0, []),
  (1, 1, .aload_n 1, 0, 0, []),
  (2, 2, .bipush (20), 160, 0, []),
  (4, 3, .invokevirtual 67, 72, 0, [(0, 1236)]),
  (7, 1, .iconst 0, 0, 0, []),
  (8, 2, .istore 4, 0, 0, []),
  (10, 2, .iload 4, 0, 0, []),
  (12, 2, .bipush (6), 48, 0, []),
  (14, 3, .if_icmp .ge (101), 0, 115, []),
  (17, 1, .iconst 0, 0, 0, []),
  (18, 2, .istore 5, 0, 0, []),
  (20, 2, .iload 5, 0, 0, []),
  (22, 2, .bipush (6), 48, 0, []),
  (24, 3, .if_icmp .ge (85), 0, 109, []),
  (27, 1, .aload_n 0, 0, 0, []),
  (28, 3, .getfield 9, 9, 0, [(0, 533)]),
  (31, 1, .iload_n 2, 0, 0, []),
  (32, 2, .iload 4, 0, 0, []),
  (34, 1, .iastore, 0, 0, []),
  (35, 1, .aload_n 0, 0, 0, []),
  (36, 3, .getfield 9, 9, 0, [(0, 533)]),
  (39, 1, .iload_n 3, 0, 0, []),
  (40, 2, .iload 5, 0, 0, []),
  (42, 1, .iastore, 0, 0, []),
  (43, 1, .aload_n 0, 0, 0, []),
  (44, 1, .aload_n 1, 0, 0, []),
  (45, 3, .invokevirtual 71, 73, 0, [(0, 1237)]),
  (48, 3, .ifCond .le (7), 0, 55, []),
  (51, 1, .iconst 0, 0, 0, []),
  (52, 3, .goto (5), 0, 57, []),
  (55, 2, .bipush (9), 72, 0, []),
  (57, 2, .istore 6, 0, 0, []),
  (59, 1, .aload_n 0, 0, 0, []),
  (60, 3, .getfield 15, 9, 1, [(0, 534)]),
  (63, 2, .iload 4, 0, 0, []),
  (65, 2, .bipush (6), 48, 0, []),
  (67, 1, .imul, 0, 0, []),
  (68, 2, .iload 5, 0, 0, []),
  (70, 1, .iadd, 0, 0, []),
  (71, 1, .aload_n 0, 0, 0, []),
  (72, 3, .getfield 21, 9, 3, [(0, 536)]),
  (75, 1, .iload_n 2, 0, 0, []),
  (76, 1, .iaload, 0, 0, []),
  (77, 2, .iload 6, 0, 0, []),
  (79, 1, .isub, 0, 0, []),
  (80, 1, .iastore, 0, 0, []),
  (81, 1, .aload_n 0, 0, 0, []),
  (82, 3, .getfield 18, 9, 2, [(0, 535)]),
  (85, 2, .iload 4, 0, 0, []),
  (87, 2, .bipush (6), 48, 0, []),
  (89, 1, .imul, 0, 0, []),
  (90, 2, .iload 5, 0, 0, []),
  (92, 1, .iadd, 0, 0, []),
  (93, 1, .aload_n 0, 0, 0, []),
  (94, 3, .getfield 21, 9, 3, [(0, 536)]),
  (97, 1, .iload_n 3, 0, 0, []),
  (98, 1, .iaload, 0, 0, []),
  (99, 2, .iload 6, 0, 0, []),
  (101, 1, .isub, 0, 0, []),
  (102, 1, .iastore, 0, 0, []),
  (103, 3, .iinc 5 (1), 8, 0, []),
  (106, 3, .goto (-86), 0, 20, []),
  (109, 3, .iinc 4 (1), 8, 0, []),
  (112, 3, .goto (-102), 0, 10, []),
  (115, 1, .return_, 0, 0, [])]
/-- GravyRound$Shares.isRest (II)Z -/
def gc_293 : List ga_E := [(0, 1, .iload_n 1, 0, 0, []),
  (1, 2, .bipush (6), 48, 0, []),
  (3, 1, .imul, 0, 0, []),
  (4, 1, .iload_n 2, 0, 0, []),
  (5, 1, .iadd, 0, 0, []),
  (6, 1, .istore_n 3, 0, 0, []),
  (7, 1, .iconst 0, 0, 0, []),
  (8, 2, .istore 4, 0, 0, []),
  (10, 2, .iload 4, 0, 0, []),
  (12, 2, .bipush (6), 48, 0, []),
  (14, 3, .if_icmp .ge (53), 0, 67, []),
  (17, 1, .aload_n 0, 0, 0, []),
  (18, 3, .getfield 15, 9, 1, [(0, 534)]),
  (21, 2, .iload 4, 0, 0, []),
  (23, 2, .bipush (6), 48, 0, []),
  (25, 1, .imul, 0, 0, []),
  (26, 1, .iload_n 2, 0, 0, []),
  (27, 1, .iadd, 0, 0, []),
  (28, 1, .iaload, 0, 0, []),
  (29, 1, .aload_n 0, 0, 0, []),
  (30, 3, .getfield 15, 9, 1, [(0, 534)]),
  (33, 1, .iload_n 3, 0, 0, []),
  (34, 1, .iaload, 0, 0, []),
  (35, 3, .if_icmp .gt (24), 0, 59, []),
  (38, 1, .aload_n 0, 0, 0, []),
  (39, 3, .getfield 18, 9, 2, [(0, 535)]),
  (42, 1, .iload_n 1, 0, 0, []),
  (43, 2, .bipush (6), 48, 0, []),
  (45, 1, .imul, 0, 0, []),
  (46, 2, .iload 4, 0, 0, []),
  (48, 1, .iadd, 0, 0, []),
  (49, 1, .iaload, 0, 0, []),
  (50, 1, .aload_n 0, 0, 0, []),
  (51, 3, .getfield 18, 9, 2, [(0, 535)]),
  (54, 1, .iload_n 3, 0, 0, []),
  (55, 1, .iaload, 0, 0, []),
  (56, 3, .if_icmp .le (5), 0, 61, []),
  (59, 1, .iconst 0, 0, 0, []),
  (60, 1, .ireturn, 0, 0, []),
  (61, 3, .iinc 4 (1), 8, 0, []),
  (64, 3, .goto (-54), 0, 10, []),
  (67, 1, .iconst 1, 8, 0, []),
  (68, 1, .ireturn, 0, 0, [])]
/-- GravyRound$Sights.tell (IIZ)I -/
def gc_294 : List ga_E := [(0, 1, .iload_n 1, 0, 0, []),
  (1, 3, .ifCond .lt (18), 0, 19, []),
  (4, 1, .iload_n 1, 0, 0, []),
  (5, 2, .bipush (40), 320, 0, []),
  (7, 3, .if_icmp .gt (12), 0, 19, []),
  (10, 1, .aload_n 0, 0, 0, []),
  (11, 3, .getfield 38, 10, 8, [(0, 586)]),
  (14, 2, .bipush (30), 240, 0, []),
  (16, 3, .if_icmp .lt (5), 0, 21, []),
  (19, 1, .iconst (-1), 34359738360, 0, []),
  (20, 1, .ireturn, 0, 0, []),
  (21, 1, .aload_n 0, 0, 0, []),
  (22, 3, .getfield 11, 10, 1, [(0, 579)]),
  (25, 1, .aload_n 0, 0, 0, []),
  (26, 3, .getfield 38, 10, 8, [(0, 586)]),
  (29, 1, .iload_n 1, 0, 0, []),
  (30, 1, .iastore, 0, 0, []),
  (31, 1, .aload_n 0, 0, 0, []),
  (32, 3, .getfield 15, 10, 2, [(0, 580)]),
  (35, 1, .aload_n 0, 0, 0, []),
  (36, 3, .getfield 38, 10, 8, [(0, 586)]),
  (39, 1, .iload_n 2, 0, 0, []),
  (40, 1, .iastore, 0, 0, []),
  (41, 1, .aload_n 0, 0, 0, []),
  (42, 3, .getfield 18, 10, 3, [(0, 581)]),
  (45, 1, .aload_n 0, 0, 0, []),
  (46, 3, .getfield 38, 10, 8, [(0, 586)]),
  (49, 1, .iload_n 3, 0, 0, []),
  (50, 1, .bastore, 104, 0, []),
  (51, 1, .aload_n 0, 0, 0, []),
  (52, 3, .getfield 22, 10, 4, [(0, 582)]),
  (55, 1, .aload_n 0, 0, 0, []),
  (56, 3, .getfield 38, 10, 8, [(0, 586)]),
  (59, 1, .aload_n 0, 0, 0, []),
  (60, 3, .getfield 57, 10, 9, [(0, 588)]),
  (63, 1, .iastore, 0, 0, []),
  (64, 1, .aload_n 0, 0, 0, []),
  (65, 3, .getfield 25, 10, 5, [(0, 583)]),
  (68, 1, .aload_n 0, 0, 0, []),
  (69, 3, .getfield 38, 10, 8, [(0, 586)]),
  (72, 1, .iconst (-1), 34359738360, 0, []),
  (73, 1, .iastore, 0, 0, []),
  (74, 1, .aload_n 0, 0, 0, []),
  (75, 1, .dup, 0, 0, []),
  (76, 3, .getfield 38, 10, 8, [(0, 586)]),
  (79, 1, .iconst 1, 8, 0, []),
  (80, 1, .iadd, 0, 0, []),
  (81, 3, .putfield 38, 10, 8, [(0, 586)]),
  (84, 1, .aload_n 0, 0, 0, []),
  (85, 3, .getfield 38, 10, 8, [(0, 586)]),
  (88, 1, .iconst 1, 8, 0, []),
  (89, 1, .isub, 0, 0, []),
  (90, 1, .ireturn, 0, 0, [])]
/-- GravyRound$Sights.isFitting (II)Z -/
def gc_295 : List ga_E := [(0, 1, .iconst 0, 0, 0, []),
  (1, 1, .istore_n 3, 0, 0, []),
  (2, 1, .iload_n 3, 0, 0, []),
  (3, 1, .aload_n 0, 0, 0, []),
  (4, 3, .getfield 38, 10, 8, [(0, 586)]),
  (7, 3, .if_icmp .ge (87), 0, 94, []),
  (10, 1, .aload_n 0, 0, 0, []),
  (11, 3, .getfield 22, 10, 4, [(0, 582)]),
  (14, 1, .iload_n 3, 0, 0, []),
  (15, 1, .iaload, 0, 0, []),
  (16, 1, .iload_n 2, 0, 0, []),
  (17, 3, .if_icmp .gt (27), 0, 44, []),
  (20, 1, .aload_n 0, 0, 0, []),
  (21, 3, .getfield 25, 10, 5, [(0, 583)]),
  (24, 1, .iload_n 3, 0, 0, []),
  (25, 1, .iaload, 0, 0, []),
  (26, 1, .iconst (-1), 34359738360, 0, []),
  (27, 3, .if_icmp .eq (13), 0, 40, []),
  (30, 1, .aload_n 0, 0, 0, []),
  (31, 3, .getfield 25, 10, 5, [(0, 583)]),
  (34, 1, .iload_n 3, 0, 0, []),
  (35, 1, .iaload, 0, 0, []),
  (36, 1, .iload_n 2, 0, 0, []),
  (37, 3, .if_icmp .le (7), 0, 44, []),
  (40, 1, .iconst 1, 8, 0, []),
  (41, 3, .goto (4), 0, 45, []),
  (44, 1, .iconst 0, 0, 0, []),
  (45, 2, .istore 4, 0, 0, []),
  (47, 2, .iload 4, 0, 0, []),
  (49, 3, .ifCond .eq (39), 0, 88, []),
  (52, 1, .aload_n 0, 0, 0, []),
  (53, 1, .iload_n 1, 0, 0, []),
  (54, 1, .aload_n 0, 0, 0, []),
  (55, 3, .getfield 11, 10, 1, [(0, 579)]),
  (58, 1, .iload_n 3, 0, 0, []),
  (59, 1, .iaload, 0, 0, []),
  (60, 3, .invokevirtual 65, 296, 0, [(0, 1341)]),
  (63, 1, .aload_n 0, 0, 0, []),
  (64, 3, .getfield 15, 10, 2, [(0, 580)]),
  (67, 1, .iload_n 3, 0, 0, []),
  (68, 1, .iaload, 0, 0, []),
  (69, 3, .if_icmp .ne (7), 0, 76, []),
  (72, 1, .iconst 1, 8, 0, []),
  (73, 3, .goto (4), 0, 77, []),
  (76, 1, .iconst 0, 0, 0, []),
  (77, 1, .aload_n 0, 0, 0, []),
  (78, 3, .getfield 18, 10, 3, [(0, 581)]),
  (81, 1, .iload_n 3, 0, 0, []),
  (82, 1, .baload, 104, 0, []),
  (83, 3, .if_icmp .eq (5), 0, 88, []),
  (86, 1, .iconst 0, 0, 0, []),
  (87, 1, .ireturn, 0, 0, []),
  (88, 3, .iinc 3 (1), 8, 0, []),
  (91, 3, .goto (-89), 0, 2, []),
  (94, 1, .iconst 1, 8, 0, []),
  (95, 1, .ireturn, 0, 0, [])]
/-- GravyRound$Sights.seatAt (II)I -/
def gc_296 : List ga_E := [(0, 1, .iload_n 2, 0, 0, []),
  (1, 1, .iload_n 1, 0, 0, []),
  (2, 1, .isub, 0, 0, []),
  (3, 1, .istore_n 3, 0, 0, []),
  (4, 1, .iconst 0, 0, 0, []),
  (5, 2, .istore 4, 0, 0, []),
  (7, 2, .iload 4, 0, 0, []),
  (9, 1, .aload_n 0, 0, 0, []),
  (10, 3, .getfield 34, 10, 0, [(0, 578)]),
  (13, 3, .getfield 42, 4, 0, [(0, 196)]),
  (16, 3, .if_icmp .ge (39), 0, 55, []),
  (19, 1, .iload_n 3, 0, 0, []),
  (20, 3, .ifCond .lt (35), 0, 55, []),
  (23, 3, .iinc 4 (1), 8, 0, []),
  (26, 1, .iload_n 3, 0, 0, []),
  (27, 2, .iload 4, 0, 0, []),
  (29, 1, .aload_n 0, 0, 0, []),
  (30, 3, .getfield 34, 10, 0, [(0, 578)]),
  (33, 3, .getfield 42, 4, 0, [(0, 196)]),
  (36, 3, .if_icmp .ge (13), 0, 49, []),
  (39, 1, .aload_n 0, 0, 0, []),
  (40, 3, .getfield 28, 10, 6, [(0, 584)]),
  (43, 2, .iload 4, 0, 0, []),
  (45, 1, .iaload, 0, 0, []),
  (46, 3, .goto (4), 0, 50, []),
  (49, 1, .iconst 0, 0, 0, []),
  (50, 1, .isub, 0, 0, []),
  (51, 1, .istore_n 3, 0, 0, []),
  (52, 3, .goto (-45), 0, 7, []),
  (55, 2, .iload 4, 0, 0, []),
  (57, 1, .ireturn, 0, 0, [])]
/-- GravyRound$Sights.nextToAsk (I)I -/
def gc_297 : List ga_E := [(0, 1, .iconst 0, 0, 0, []),
  (1, 1, .istore_n 2, 0, 0, []),
  (2, 2, .bipush (21), 168, 0, []),
  (4, 1, .istore_n 3, 0, 0, []),
  (5, 1, .iconst 0, 0, 0, []),
  (6, 2, .istore 4, 0, 0, []),
  (8, 2, .iload 4, 0, 0, []),
  (10, 2, .bipush (40), 320, 0, []),
  (12, 3, .if_icmp .gt (30), 0, 42, []),
  (15, 1, .aload_n 0, 0, 0, []),
  (16, 1, .iload_n 1, 0, 0, []),
  (17, 2, .iload 4, 0, 0, []),
  (19, 3, .invokevirtual 68, 298, 0, [(0, 1363)]),
  (22, 2, .istore 5, 0, 0, []),
  (24, 2, .iload 5, 0, 0, []),
  (26, 1, .iload_n 3, 0, 0, []),
  (27, 3, .if_icmp .ge (9), 0, 36, []),
  (30, 2, .iload 5, 0, 0, []),
  (32, 1, .istore_n 3, 0, 0, []),
  (33, 2, .iload 4, 0, 0, []),
  (35, 1, .istore_n 2, 0, 0, []),
  (36, 3, .iinc 4 (1), 8, 0, []),
  (39, 3, .goto (-31), 0, 8, []),
  (42, 1, .iload_n 2, 0, 0, []),
  (43, 1, .ireturn, 0, 0, [])]
/-- GravyRound$Sights.leftAtMost (II)I -/
def gc_298 : List ga_E := [(0, 1, .iconst 0, 0, 0, []),
  (1, 1, .istore_n 3, 0, 0, []),
  (2, 1, .iload_n 3, 0, 0, []),
  (3, 1, .aload_n 0, 0, 0, []),
  (4, 3, .getfield 34, 10, 0, [(0, 578)]),
  (7, 3, .getfield 42, 4, 0, [(0, 196)]),
  (10, 3, .if_icmp .gt (16), 0, 26, []),
  (13, 1, .aload_n 0, 0, 0, []),
  (14, 3, .getfield 31, 10, 7, [(0, 585)]),
  (17, 1, .iload_n 3, 0, 0, []),
  (18, 1, .iconst 0, 0, 0, []),
  (19, 1, .iastore, 0, 0, []),
  (20, 3, .iinc 3 (1), 8, 0, []),
  (23, 3, .goto (-21), 0, 2, []),
  (26, 1, .iconst 0, 0, 0, []),
  (27, 1, .istore_n 3, 0, 0, []),
  (28, 1, .iconst 1, 8, 0, []),
  (29, 2, .istore 4, 0, 0, []),
  (31, 2, .iload 4, 0, 0, []),
  (33, 2, .bipush (20), 160, 0, []),
  (35, 3, .if_icmp .gt (51), 0, 86, []),
  (38, 1, .iload_n 1, 0, 0, []),
  (39, 2, .iload 4, 0, 0, []),
  (41, 1, .ishr, 0, 0, []),
  (42, 1, .iconst 1, 8, 0, []),
  (43, 1, .iand, 0, 0, []),
  (44, 1, .iconst 1, 8, 0, []),
  (45, 3, .if_icmp .ne (35), 0, 80, []),
  (48, 1, .aload_n 0, 0, 0, []),
  (49, 2, .iload 4, 0, 0, []),
  (51, 1, .iload_n 2, 0, 0, []),
  (52, 3, .invokevirtual 65, 296, 0, [(0, 1341)]),
  (55, 2, .istore 5, 0, 0, []),
  (57, 1, .aload_n 0, 0, 0, []),
  (58, 3, .getfield 31, 10, 7, [(0, 585)]),
  (61, 2, .iload 5, 0, 0, []),
  (63, 1, .dup2, 0, 0, []),
  (64, 1, .iaload, 0, 0, []),
  (65, 1, .iconst 1, 8, 0, []),
  (66, 1, .iadd, 0, 0, []),
  (67, 1, .iastore, 0, 0, []),
  (68, 1, .iload_n 3, 0, 0, []),
  (69, 1, .aload_n 0, 0, 0, []),
  (70, 3, .getfield 31, 10, 7, [(0, 585)]),
  (73, 2, .iload 5, 0, 0, []),
  (75, 1, .iaload, 0, 0, []),
  (76, 3, .invokestatic 71, 0, 0, [(0, 1367)]),
  (79, 1, .istore_n 3, 0, 0, []),
  (80, 3, .iinc 4 (1), 8, 0, []),
  (83, 3, .goto (-52), 0, 31, []),
  (86, 1, .iload_n 3, 0, 0, []),
  (87, 1, .ireturn, 0, 0, [])]
/-- GravyRound$Table.seatOf (I)I -/
def gc_299 : List ga_E := [(0, 1, .iconst 0, 0, 0, []),
  (1, 1, .istore_n 2, 0, 0, []),
  (2, 1, .iload_n 2, 0, 0, []),
  (3, 1, .aload_n 0, 0, 0, []),
  (4, 3, .getfield 21, 11, 0, [(0, 390)]),
  (7, 3, .getfield 64, 4, 0, [(0, 198)]),
  (10, 3, .if_icmp .ge (21), 0, 31, []),
  (13, 1, .aload_n 0, 0, 0, []),
  (14, 3, .getfield 9, 11, 1, [(0, 393)]),
  (17, 1, .iload_n 2, 0, 0, []),
  (18, 1, .iaload, 0, 0, []),
  (19, 1, .iload_n 1, 0, 0, []),
  (20, 3, .if_icmp .ne (5), 0, 25, []),
  (23, 1, .iload_n 2, 0, 0, []),
  (24, 1, .ireturn, 0, 0, []),
  (25, 3, .iinc 2 (1), 8, 0, []),
  (28, 3, .goto (-26), 0, 2, []),
  (31, 1, .iconst (-1), 34359738360, 0, []),
  (32, 1, .ireturn, 0, 0, [])]
/-- GravyRound$Table.isServed (I)Z -/
def gc_300 : List ga_E := [(0, 1, .aload_n 0, 0, 0, []),
  (1, 1, .iload_n 1, 0, 0, []),
  (2, 3, .invokevirtual 67, 299, 0, [(0, 953)]),
  (5, 1, .aload_n 0, 0, 0, []),
  (6, 3, .getfield 58, 11, 6, [(0, 411)]),
  (9, 3, .if_icmp .ge (7), 0, 16, []),
  (12, 1, .iconst 1, 8, 0, []),
  (13, 3, .goto (4), 0, 17, []),
  (16, 1, .iconst 0, 0, 0, []),
  (17, 1, .ireturn, 0, 0, [])]
/-- GravyRound$Table.isEnded (I)Z -/
def gc_301 : List ga_E := [(0, 1, .aload_n 0, 0, 0, []),
  (1, 3, .getfield 36, 11, 8, [(0, 416)]),
  (4, 1, .iload_n 1, 0, 0, []),
  (5, 1, .ishr, 0, 0, []),
  (6, 1, .iconst 1, 8, 0, []),
  (7, 1, .iand, 0, 0, []),
  (8, 1, .iconst 1, 8, 0, []),
  (9, 3, .if_icmp .ne (7), 0, 16, []),
  (12, 1, .iconst 1, 8, 0, []),
  (13, 3, .goto (4), 0, 17, []),
  (16, 1, .iconst 0, 0, 0, []),
  (17, 1, .ireturn, 0, 0, [])]
/-- GravyRound$Table.foesOf (I)I -/
def gc_302 : List ga_E := [(0, 1, .aload_n 0, 0, 0, []),
  (1, 3, .getfield 21, 11, 0, [(0, 390)]),
  (4, 1, .iload_n 1, 0, 0, []),
  (5, 1, .aload_n 0, 0, 0, []),
  (6, 3, .getfield 36, 11, 8, [(0, 416)]),
  (9, 3, .invokevirtual 71, 255, 0, [(0, 632)]),
  (12, 1, .ireturn, 0, 0, [])]
/-- GravyRound$Table.slownessBehind ()I -/
def gc_303 : List ga_E := [(0, 1, .iconst 0, 0, 0, []),
  (1, 1, .istore_n 1, 0, 0, []),
  (2, 1, .aload_n 0, 0, 0, []),
  (3, 3, .getfield 58, 11, 6, [(0, 411)]),
  (6, 1, .iconst 1, 8, 0, []),
  (7, 1, .iadd, 0, 0, []),
  (8, 1, .istore_n 2, 0, 0, []),
  (9, 1, .iload_n 2, 0, 0, []),
  (10, 1, .aload_n 0, 0, 0, []),
  (11, 3, .getfield 21, 11, 0, [(0, 390)]),
  (14, 3, .getfield 64, 4, 0, [(0, 198)]),
  (17, 3, .if_icmp .ge (26), 0, 43, []),
  (20, 1, .iload_n 1, 0, 0, []),
  (21, 1, .aload_n 0, 0, 0, []),
  (22, 3, .getfield 21, 11, 0, [(0, 390)]),
  (25, 3, .getfield 77, 4, 3, [(0, 211)]),
  (28, 1, .aload_n 0, 0, 0, []),
  (29, 3, .getfield 9, 11, 1, [(0, 393)]),
  (32, 1, .iload_n 2, 0, 0, []),
  (33, 1, .iaload, 0, 0, []),
  (34, 1, .iaload, 0, 0, []),
  (35, 1, .iadd, 0, 0, []),
  (36, 1, .istore_n 1, 0, 0, []),
  (37, 3, .iinc 2 (1), 8, 0, []),
  (40, 3, .goto (-31), 0, 9, []),
  (43, 1, .iload_n 1, 0, 0, []),
  (44, 1, .ireturn, 0, 0, [])]
/-- GravyRound$Table.swap (II)V -/
def gc_304 : List ga_E := [(0, 1, .iload_n 1, 0, 0, []),
  (1, 3, .ifCond .lt (29), 0, 30, []),
  (4, 1, .iload_n 1, 0, 0, []),
  (5, 1, .aload_n 0, 0, 0, []),
  (6, 3, .getfield 21, 11, 0, [(0, 390)]),
  (9, 3, .getfield 64, 4, 0, [(0, 198)]),
  (12, 3, .if_icmp .ge (18), 0, 30, []),
  (15, 1, .iload_n 2, 0, 0, []),
  (16, 3, .ifCond .lt (14), 0, 30, []),
  (19, 1, .iload_n 2, 0, 0, []),
  (20, 1, .aload_n 0, 0, 0, []),
  (21, 3, .getfield 21, 11, 0, [(0, 390)]),
  (24, 3, .getfield 64, 4, 0, [(0, 198)]),
  (27, 3, .if_icmp .lt (4), 0, 31, []),
  (30, 1, .return_, 0, 0, []),
  (31, 1, .aload_n 0, 0, 0, []),
  (32, 3, .getfield 9, 11, 1, [(0, 393)]),
  (35, 1, .iload_n 1, 0, 0, []),
  (36, 1, .iaload, 0, 0, []),
  (37, 1, .istore_n 3, 0, 0, []),
  (38, 1, .aload_n 0, 0, 0, []),
  (39, 3, .getfield 9, 11, 1, [(0, 393)]),
  (42, 1, .iload_n 1, 0, 0, []),
  (43, 1, .aload_n 0, 0, 0, []),
  (44, 3, .getfield 9, 11, 1, [(0, 393)]),
  (47, 1, .iload_n 2, 0, 0, []),
  (48, 1, .iaload, 0, 0, []),
  (49, 1, .iastore, 0, 0, []),
  (50, 1, .aload_n 0, 0, 0, []),
  (51, 3, .getfield 9, 11, 1, [(0, 393)]),
  (54, 1, .iload_n 2, 0, 0, []),
  (55, 1, .iload_n 3, 0, 0, []),
  (56, 1, .iastore, 0, 0, []),
  (57, 1, .return_, 0, 0, [])]
/-- GravyRound$Table.pass (Z)I -/
def gc_305 : List ga_E := [(0, 1, .aload_n 0, 0, 0, []),
  (1, 1, .aload_n 0, 0, 0, []),
  (2, 3, .getfield 21, 11, 0, [(0, 390)]),
  (5, 1, .aload_n 0, 0, 0, []),
  (6, 3, .getfield 35, 11, 5, [(0, 406)]),
  (9, 1, .aload_n 0, 0, 0, []),
  (10, 3, .getfield 31, 11, 4, [(0, 402)]),
  (13, 1, .aload_n 0, 0, 0, []),
  (14, 3, .getfield 39, 11, 9, [(0, 418)]),
  (17, 1, .aload_n 0, 0, 0, []),
  (18, 3, .getfield 58, 11, 6, [(0, 411)]),
  (21, 3, .invokevirtual 86, 6, 0, [(0, 983)]),
  (24, 3, .putfield 35, 11, 5, [(0, 406)]),
  (27, 1, .aload_n 0, 0, 0, []),
  (28, 1, .dup, 0, 0, []),
  (29, 3, .getfield 39, 11, 9, [(0, 418)]),
  (32, 1, .iconst 1, 8, 0, []),
  (33, 1, .iadd, 0, 0, []),
  (34, 3, .putfield 39, 11, 9, [(0, 418)]),
  (37, 1, .aload_n 0, 0, 0, []),
  (38, 1, .dup, 0, 0, []),
  (39, 3, .getfield 61, 11, 7, [(0, 414)]),
  (42, 1, .iconst 1, 8, 0, []),
  (43, 1, .isub, 0, 0, []),
  (44, 3, .putfield 61, 11, 7, [(0, 414)]),
  (47, 1, .aload_n 0, 0, 0, []),
  (48, 3, .getfield 61, 11, 7, [(0, 414)]),
  (51, 3, .ifCond .le (7), 0, 58, []),
  (54, 1, .iconst (-1), 34359738360, 0, []),
  (55, 3, .goto (8), 0, 63, []),
  (58, 1, .aload_n 0, 0, 0, []),
  (59, 1, .iload_n 1, 0, 0, []),
  (60, 3, .invokevirtual 90, 306, 0, [(0, 999)]),
  (63, 1, .ireturn, 0, 0, [])]
/-- GravyRound$Table.serve (Z)I -/
def gc_306 : List ga_E := [(0, 1, .aload_n 0, 0, 0, []),
  (1, 3, .getfield 58, 11, 6, [(0, 411)]),
  (4, 3, .ifCond .lt (17), 0, 21, []),
  (7, 1, .aload_n 0, 0, 0, []),
  (8, 3, .getfield 58, 11, 6, [(0, 411)]),
  (11, 1, .aload_n 0, 0, 0, []),
  (12, 3, .getfield 21, 11, 0, [(0, 390)]),
  (15, 3, .getfield 64, 4, 0, [(0, 198)]),
  (18, 3, .if_icmp .lt (5), 0, 23, []),
  (21, 1, .iconst (-1), 34359738360, 0, []),
  (22, 1, .ireturn, 0, 0, []),
  (23, 1, .aload_n 0, 0, 0, []),
  (24, 3, .getfield 9, 11, 1, [(0, 393)]),
  (27, 1, .aload_n 0, 0, 0, []),
  (28, 3, .getfield 58, 11, 6, [(0, 411)]),
  (31, 1, .iaload, 0, 0, []),
  (32, 1, .istore_n 2, 0, 0, []),
  (33, 1, .aload_n 0, 0, 0, []),
  (34, 3, .getfield 15, 11, 2, [(0, 397)]),
  (37, 1, .iload_n 2, 0, 0, []),
  (38, 1, .aload_n 0, 0, 0, []),
  (39, 3, .getfield 21, 11, 0, [(0, 390)]),
  (42, 3, .getfield 106, 4, 2, [(0, 206)]),
  (45, 1, .iload_n 2, 0, 0, []),
  (46, 1, .iaload, 0, 0, []),
  (47, 1, .aload_n 0, 0, 0, []),
  (48, 3, .getfield 31, 11, 4, [(0, 402)]),
  (51, 3, .invokestatic 109, 4, 0, [(0, 1003)]),
  (54, 1, .iastore, 0, 0, []),
  (55, 1, .aload_n 0, 0, 0, []),
  (56, 3, .getfield 18, 11, 3, [(0, 400)]),
  (59, 1, .iload_n 2, 0, 0, []),
  (60, 1, .aload_n 0, 0, 0, []),
  (61, 3, .getfield 35, 11, 5, [(0, 406)]),
  (64, 1, .iastore, 0, 0, []),
  (65, 1, .aload_n 0, 0, 0, []),
  (66, 1, .dup, 0, 0, []),
  (67, 3, .getfield 31, 11, 4, [(0, 402)]),
  (70, 1, .aload_n 0, 0, 0, []),
  (71, 3, .getfield 15, 11, 2, [(0, 397)]),
  (74, 1, .iload_n 2, 0, 0, []),
  (75, 1, .iaload, 0, 0, []),
  (76, 1, .isub, 0, 0, []),
  (77, 3, .putfield 31, 11, 4, [(0, 402)]),
  (80, 1, .aload_n 0, 0, 0, []),
  (81, 1, .aload_n 0, 0, 0, []),
  (82, 3, .getfield 58, 11, 6, [(0, 411)]),
  (85, 1, .iconst 1, 8, 0, []),
  (86, 1, .iadd, 0, 0, []),
  (87, 3, .invokevirtual 48, 62, 0, [(0, 620)]),
  (90, 1, .aload_n 0, 0, 0, []),
  (91, 1, .aload_n 0, 0, 0, []),
  (92, 3, .getfield 45, 11, 10, [(0, 421)]),
  (95, 3, .sipush (137), 1096, 0, []),
  (98, 1, .imul, 0, 0, []),
  (99, 2, .bipush (71), 568, 0, []),
  (101, 1, .iadd, 0, 0, []),
  (102, 3, .sipush (1000), 8000, 0, []),
  (105, 1, .irem, 0, 0, []),
  (106, 3, .putfield 45, 11, 10, [(0, 421)]),
  (109, 1, .iload_n 1, 0, 0, []),
  (110, 3, .ifCond .eq (37), 0, 147, []),
  (113, 1, .aload_n 0, 0, 0, []),
  (114, 3, .getfield 45, 11, 10, [(0, 421)]),
  (117, 2, .bipush (100), 800, 0, []),
  (119, 1, .irem, 0, 0, []),
  (120, 1, .aload_n 0, 0, 0, []),
  (121, 3, .getfield 21, 11, 0, [(0, 390)]),
  (124, 3, .getfield 112, 4, 10, [(0, 233)]),
  (127, 3, .if_icmp .ge (20), 0, 147, []),
  (130, 1, .aload_n 0, 0, 0, []),
  (131, 3, .getfield 31, 11, 4, [(0, 402)]),
  (134, 3, .ifCond .le (13), 0, 147, []),
  (137, 1, .aload_n 0, 0, 0, []),
  (138, 1, .dup, 0, 0, []),
  (139, 3, .getfield 31, 11, 4, [(0, 402)]),
  (142, 1, .iconst 1, 8, 0, []),
  (143, 1, .isub, 0, 0, []),
  (144, 3, .putfield 31, 11, 4, [(0, 402)]),
  (147, 1, .iload_n 2, 0, 0, []),
  (148, 1, .ireturn, 0, 0, [])]
/-- GravyRound$Tokens.readWord ()V -/
def gc_307 : List ga_E := [(0, 1, .aload_n 0, 0, 0, []),
  (1, 1, .lconst 0, 5, 0, []),
  (2, 3, .putfield 81, 12, 7, [(2, 348)]),
  (5, 1, .aload_n 0, 0, 0, []),
  (6, 3, .getfield 50, 12, 3, [(0, 340)]),
  (9, 1, .aload_n 0, 0, 0, []),
  (10, 3, .getfield 47, 12, 2, [(0, 339)]),
  (13, 3, .if_icmp .ge (51), 0, 64, []),
  (16, 1, .aload_n 0, 0, 0, []),
  (17, 3, .getfield 13, 12, 0, [(0, 337)]),
  (20, 1, .aload_n 0, 0, 0, []),
  (21, 3, .getfield 50, 12, 3, [(0, 340)]),
  (24, 1, .baload, 101, 0, []),
  (25, 3, .invokestatic 62, 310, 0, [(0, 750)]),
  (28, 3, .ifCond .eq (36), 0, 64, []),
  (31, 1, .aload_n 0, 0, 0, []),
  (32, 1, .aload_n 0, 0, 0, []),
  (33, 3, .getfield 81, 12, 7, [(0, 348)]),
  (36, 1, .aload_n 0, 0, 0, []),
  (37, 3, .getfield 13, 12, 0, [(0, 337)]),
  (40, 1, .aload_n 0, 0, 0, []),
  (41, 3, .getfield 50, 12, 3, [(0, 340)]),
  (44, 1, .baload, 101, 0, []),
  (45, 3, .invokestatic 32, 10, 0, [(0, 333)]),
  (48, 3, .putfield 81, 12, 7, [(2, 348)]),
  (51, 1, .aload_n 0, 0, 0, []),
  (52, 1, .dup, 0, 0, []),
  (53, 3, .getfield 50, 12, 3, [(0, 340)]),
  (56, 1, .iconst 1, 8, 0, []),
  (57, 1, .iadd, 0, 0, []),
  (58, 3, .putfield 50, 12, 3, [(0, 340)]),
  (61, 3, .goto (-56), 0, 5, []),
  (64, 1, .aload_n 0, 0, 0, []),
  (65, 1, .aload_n 0, 0, 0, []),
  (66, 3, .getfield 50, 12, 3, [(0, 340)]),
  (69, 1, .aload_n 0, 0, 0, []),
  (70, 3, .getfield 56, 12, 5, [(0, 343)]),
  (73, 1, .isub, 0, 0, []),
  (74, 2, .bipush (8), 64, 0, []),
  (76, 3, .if_icmp .le (7), 0, 83, []),
  (79, 1, .iconst 1, 8, 0, []),
  (80, 3, .goto (7), 0, 87, []),
  (83, 1, .aload_n 0, 0, 0, []),
  (84, 3, .invokevirtual 85, 308, 0, [(0, 757)]),
  (87, 3, .putfield 59, 12, 4, [(0, 342)]),
  (90, 1, .return_, 0, 0, [])]
/-- GravyRound$Tokens.wordKind ()I -/
def gc_308 : List ga_E := [(0, 1, .iconst 0, 0, 0, []),
  (1, 1, .istore_n 1, 0, 0, []),
  (2, 1, .iload_n 1, 0, 0, []),
  (3, 1, .aload_n 0, 0, 0, []),
  (4, 3, .getfield 9, 12, 1, [(0, 338)]),
  (7, 1, .arraylength, 0, 0, []),
  (8, 3, .if_icmp .ge (29), 0, 37, []),
  (11, 1, .aload_n 0, 0, 0, []),
  (12, 3, .getfield 9, 12, 1, [(0, 338)]),
  (15, 1, .iload_n 1, 0, 0, []),
  (16, 1, .laload, 0, 0, []),
  (17, 1, .aload_n 0, 0, 0, []),
  (18, 3, .getfield 81, 12, 7, [(0, 348)]),
  (21, 1, .lcmp, 0, 0, []),
  (22, 3, .ifCond .ne (9), 0, 31, []),
  (25, 3, .sipush (200), 1600, 0, []),
  (28, 1, .iload_n 1, 0, 0, []),
  (29, 1, .iadd, 0, 0, []),
  (30, 1, .ireturn, 0, 0, []),
  (31, 3, .iinc 1 (1), 8, 0, []),
  (34, 3, .goto (-32), 0, 2, []),
  (37, 1, .iconst 2, 16, 0, []),
  (38, 1, .ireturn, 0, 0, [])]
/-- GravyRound$Tokens.readNumber ()V -/
def gc_309 : List ga_E := [(0, 1, .aload_n 0, 0, 0, []),
  (1, 1, .iconst 0, 0, 0, []),
  (2, 3, .putfield 88, 12, 6, [(0, 346)]),
  (5, 1, .aload_n 0, 0, 0, []),
  (6, 3, .getfield 50, 12, 3, [(0, 340)]),
  (9, 1, .aload_n 0, 0, 0, []),
  (10, 3, .getfield 47, 12, 2, [(0, 339)]),
  (13, 3, .if_icmp .ge (55), 0, 68, []),
  (16, 1, .aload_n 0, 0, 0, []),
  (17, 3, .getfield 13, 12, 0, [(0, 337)]),
  (20, 1, .aload_n 0, 0, 0, []),
  (21, 3, .getfield 50, 12, 3, [(0, 340)]),
  (24, 1, .baload, 101, 0, []),
  (25, 3, .invokestatic 69, 311, 0, [(0, 761)]),
  (28, 3, .ifCond .eq (40), 0, 68, []),
  (31, 1, .aload_n 0, 0, 0, []),
  (32, 1, .aload_n 0, 0, 0, []),
  (33, 3, .getfield 88, 12, 6, [(0, 346)]),
  (36, 2, .bipush (10), 80, 0, []),
  (38, 1, .imul, 0, 0, []),
  (39, 1, .aload_n 0, 0, 0, []),
  (40, 3, .getfield 13, 12, 0, [(0, 337)]),
  (43, 1, .aload_n 0, 0, 0, []),
  (44, 3, .getfield 50, 12, 3, [(0, 340)]),
  (47, 1, .baload, 101, 0, []),
  (48, 2, .bipush (48), 384, 0, []),
  (50, 1, .isub, 0, 0, []),
  (51, 1, .iadd, 0, 0, []),
  (52, 3, .putfield 88, 12, 6, [(0, 346)]),
  (55, 1, .aload_n 0, 0, 0, []),
  (56, 1, .dup, 0, 0, []),
  (57, 3, .getfield 50, 12, 3, [(0, 340)]),
  (60, 1, .iconst 1, 8, 0, []),
  (61, 1, .iadd, 0, 0, []),
  (62, 3, .putfield 50, 12, 3, [(0, 340)]),
  (65, 3, .goto (-60), 0, 5, []),
  (68, 1, .aload_n 0, 0, 0, []),
  (69, 3, .getfield 50, 12, 3, [(0, 340)]),
  (72, 1, .aload_n 0, 0, 0, []),
  (73, 3, .getfield 47, 12, 2, [(0, 339)]),
  (76, 3, .if_icmp .ge (22), 0, 98, []),
  (79, 1, .aload_n 0, 0, 0, []),
  (80, 3, .getfield 13, 12, 0, [(0, 337)]),
  (83, 1, .aload_n 0, 0, 0, []),
  (84, 3, .getfield 50, 12, 3, [(0, 340)]),
  (87, 1, .baload, 101, 0, []),
  (88, 3, .invokestatic 62, 310, 0, [(0, 750)]),
  (91, 3, .ifCond .eq (7), 0, 98, []),
  (94, 1, .iconst 1, 8, 0, []),
  (95, 3, .goto (4), 0, 99, []),
  (98, 1, .iconst 0, 0, 0, []),
  (99, 1, .istore_n 1, 0, 0, []),
  (100, 1, .aload_n 0, 0, 0, []),
  (101, 1, .iload_n 1, 0, 0, []),
  (102, 3, .ifCond .ne (16), 0, 118, []),
  (105, 1, .aload_n 0, 0, 0, []),
  (106, 3, .getfield 50, 12, 3, [(0, 340)]),
  (109, 1, .aload_n 0, 0, 0, []),
  (110, 3, .getfield 56, 12, 5, [(0, 343)]),
  (113, 1, .isub, 0, 0, []),
  (114, 1, .iconst 4, 32, 0, []),
  (115, 3, .if_icmp .le (7), 0, 122, []),
  (118, 1, .iconst 1, 8, 0, []),
  (119, 3, .goto (4), 0, 123, []),
  (122, 1, .iconst 3, 24, 0, []),
  (123, 3, .putfield 59, 12, 4, [(0, 342)]),
  (126, 1, .return_, 0, 0, [])]
/-- GravyRound$Tokens.isLetter (I)Z -/
def gc_310 : List ga_E := [(0, 1, .iload_n 0, 0, 0, []),
  (1, 2, .bipush (97), 776, 0, []),
  (3, 3, .if_icmp .lt (13), 0, 16, []),
  (6, 1, .iload_n 0, 0, 0, []),
  (7, 2, .bipush (122), 976, 0, []),
  (9, 3, .if_icmp .gt (7), 0, 16, []),
  (12, 1, .iconst 1, 8, 0, []),
  (13, 3, .goto (4), 0, 17, []),
  (16, 1, .iconst 0, 0, 0, []),
  (17, 1, .ireturn, 0, 0, [])]
/-- GravyRound$Tokens.isDigit (I)Z -/
def gc_311 : List ga_E := [(0, 1, .iload_n 0, 0, 0, []),
  (1, 2, .bipush (48), 384, 0, []),
  (3, 3, .if_icmp .lt (13), 0, 16, []),
  (6, 1, .iload_n 0, 0, 0, []),
  (7, 2, .bipush (57), 456, 0, []),
  (9, 3, .if_icmp .gt (7), 0, 16, []),
  (12, 1, .iconst 1, 8, 0, []),
  (13, 3, .goto (4), 0, 17, []),
  (16, 1, .iconst 0, 0, 0, []),
  (17, 1, .ireturn, 0, 0, [])]
/-- java/lang/Math.abs (I)I -/
def gc_312 : List ga_E := [(0, 1, .iload_n 0, 0, 0, []),
  (1, 3, .ifCond .ge (8), 0, 9, []),
  (4, 1, .iload_n 0, 0, 0, []),
  (5, 1, .ineg, 0, 0, []),
  (6, 3, .goto (4), 0, 10, []),
  (9, 1, .iload_n 0, 0, 0, []),
  (10, 1, .ireturn, 0, 0, [])]
def gc_law : List ga_E := [(0, 3, .new 7, 0, 17, [(0, 143)]),
  (3, 1, .dup, 0, 0, []),
  (4, 3, .invokespecial 9, 89, 0, [(0, 145)]),
  (7, 1, .astore_n 1, 0, 0, []),
  (8, 3, .new 10, 1, 65, [(0, 1381)]),
  (11, 1, .dup, 0, 0, []),
  (12, 3, .invokespecial 12, 99, 0, [(0, 1383)]),
  (15, 1, .astore_n 2, 0, 0, []),
  (16, 1, .iconst 0, 0, 0, []),
  (17, 1, .istore_n 3, 0, 0, []),
  (18, 1, .iload_n 3, 0, 0, []),
  (19, 1, .aload_n 0, 0, 0, []),
  (20, 1, .arraylength, 0, 0, []),
  (21, 2, .bipush (6), 48, 0, []),
  (23, 1, .isub, 0, 0, []),
  (24, 3, .if_icmp .gt (1362), 0, 1386, []),
  (27, 1, .aload_n 0, 0, 0, []),
  (28, 1, .iload_n 3, 0, 0, []),
  (29, 1, .iaload, 0, 0, []),
  (30, 2, .bipush (63), 504, 0, []),
  (32, 1, .iand, 0, 0, []),
  (33, 207, .tableswitch (1347) (0) (47) #[207, 270, 293, 306, 329, 362, 385, 418, 431, 464, 487, 510, 533, 556, 569, 582, 595, 618, 661, 674, 687, 700, 733, 756, 769, 782, 815, 838, 871, 894, 907, 930, 943, 956, 969, 982, 1005, 1028, 1061, 1084, 1143, 1166, 1189, 1212, 1245, 1278, 1301, 1324], 0, 1380, [(0, 240), (8, 303), (16, 326), (24, 339), (32, 362), (40, 395), (48, 418), (56, 451), (64, 464), (72, 497), (80, 520), (88, 543), (96, 566), (104, 589), (112, 602), (120, 615), (128, 628), (136, 651), (144, 694), (152, 707), (160, 720), (168, 733), (176, 766), (184, 789), (192, 802), (200, 815), (208, 848), (216, 871), (224, 904), (232, 927), (240, 940), (248, 963), (256, 976), (264, 989), (272, 1002), (280, 1015), (288, 1038), (296, 1061), (304, 1094), (312, 1117), (320, 1176), (328, 1199), (336, 1222), (344, 1245), (352, 1278), (360, 1311), (368, 1334), (376, 1357)]),
  (240, 1, .aload_n 1, 0, 0, []),
  (241, 1, .aload_n 0, 0, 0, []),
  (242, 1, .iload_n 3, 0, 0, []),
  (243, 1, .iconst 1, 8, 0, []),
  (244, 1, .iadd, 0, 0, []),
  (245, 1, .iaload, 0, 0, []),
  (246, 1, .aload_n 0, 0, 0, []),
  (247, 1, .iload_n 3, 0, 0, []),
  (248, 1, .iconst 2, 16, 0, []),
  (249, 1, .iadd, 0, 0, []),
  (250, 1, .iaload, 0, 0, []),
  (251, 1, .aload_n 0, 0, 0, []),
  (252, 1, .iload_n 3, 0, 0, []),
  (253, 1, .iconst 3, 24, 0, []),
  (254, 1, .iadd, 0, 0, []),
  (255, 1, .iaload, 0, 0, []),
  (256, 1, .aload_n 0, 0, 0, []),
  (257, 1, .iload_n 3, 0, 0, []),
  (258, 1, .iconst 4, 32, 0, []),
  (259, 1, .iadd, 0, 0, []),
  (260, 1, .iaload, 0, 0, []),
  (261, 1, .aload_n 0, 0, 0, []),
  (262, 1, .iload_n 3, 0, 0, []),
  (263, 1, .iconst 5, 40, 0, []),
  (264, 1, .iadd, 0, 0, []),
  (265, 1, .iaload, 0, 0, []),
  (266, 3, .invokevirtual 13, 182, 0, [(0, 715)]),
  (269, 1, .pop, 0, 0, []),
  (270, 1, .aload_n 2, 0, 0, []),
  (271, 1, .aload_n 0, 0, 0, []),
  (272, 1, .iload_n 3, 0, 0, []),
  (273, 1, .iconst 1, 8, 0, []),
  (274, 1, .iadd, 0, 0, []),
  (275, 1, .iaload, 0, 0, []),
  (276, 1, .aload_n 0, 0, 0, []),
  (277, 1, .iload_n 3, 0, 0, []),
  (278, 1, .iconst 2, 16, 0, []),
  (279, 1, .iadd, 0, 0, []),
  (280, 1, .iaload, 0, 0, []),
  (281, 1, .aload_n 0, 0, 0, []),
  (282, 1, .iload_n 3, 0, 0, []),
  (283, 1, .iconst 3, 24, 0, []),
  (284, 1, .iadd, 0, 0, []),
  (285, 1, .iaload, 0, 0, []),
  (286, 1, .aload_n 0, 0, 0, []),
  (287, 1, .iload_n 3, 0, 0, []),
  (288, 1, .iconst 4, 32, 0, []),
  (289, 1, .iadd, 0, 0, []),
  (290, 1, .iaload, 0, 0, []),
  (291, 1, .aload_n 0, 0, 0, []),
  (292, 1, .iload_n 3, 0, 0, []),
  (293, 1, .iconst 5, 40, 0, []),
  (294, 1, .iadd, 0, 0, []),
  (295, 1, .iaload, 0, 0, []),
  (296, 3, .invokevirtual 17, 183, 0, [(0, 2126)]),
  (299, 1, .pop, 0, 0, []),
  (300, 3, .goto (1080), 0, 1380, []),
  (303, 1, .aload_n 1, 0, 0, []),
  (304, 1, .aload_n 0, 0, 0, []),
  (305, 1, .iload_n 3, 0, 0, []),
  (306, 1, .iconst 1, 8, 0, []),
  (307, 1, .iadd, 0, 0, []),
  (308, 1, .iaload, 0, 0, []),
  (309, 3, .invokevirtual 18, 181, 0, [(0, 723)]),
  (312, 1, .pop, 0, 0, []),
  (313, 1, .aload_n 2, 0, 0, []),
  (314, 1, .aload_n 0, 0, 0, []),
  (315, 1, .iload_n 3, 0, 0, []),
  (316, 1, .iconst 1, 8, 0, []),
  (317, 1, .iadd, 0, 0, []),
  (318, 1, .iaload, 0, 0, []),
  (319, 3, .invokevirtual 22, 57, 0, [(0, 2130)]),
  (322, 1, .pop, 0, 0, []),
  (323, 3, .goto (1057), 0, 1380, []),
  (326, 1, .aload_n 1, 0, 0, []),
  (327, 3, .invokevirtual 23, 172, 0, [(0, 727)]),
  (330, 1, .pop, 0, 0, []),
  (331, 1, .aload_n 2, 0, 0, []),
  (332, 3, .invokevirtual 27, 178, 0, [(0, 1637)]),
  (335, 1, .pop, 0, 0, []),
  (336, 3, .goto (1044), 0, 1380, []),
  (339, 1, .aload_n 1, 0, 0, []),
  (340, 1, .aload_n 0, 0, 0, []),
  (341, 1, .iload_n 3, 0, 0, []),
  (342, 1, .iconst 1, 8, 0, []),
  (343, 1, .iadd, 0, 0, []),
  (344, 1, .iaload, 0, 0, []),
  (345, 3, .invokevirtual 28, 171, 0, [(0, 933)]),
  (348, 1, .pop, 0, 0, []),
  (349, 1, .aload_n 2, 0, 0, []),
  (350, 1, .aload_n 0, 0, 0, []),
  (351, 1, .iload_n 3, 0, 0, []),
  (352, 1, .iconst 1, 8, 0, []),
  (353, 1, .iadd, 0, 0, []),
  (354, 1, .iaload, 0, 0, []),
  (355, 3, .invokevirtual 31, 41, 0, [(0, 1774)]),
  (358, 1, .pop, 0, 0, []),
  (359, 3, .goto (1021), 0, 1380, []),
  (362, 1, .aload_n 1, 0, 0, []),
  (363, 1, .aload_n 0, 0, 0, []),
  (364, 1, .iload_n 3, 0, 0, []),
  (365, 1, .iconst 1, 8, 0, []),
  (366, 1, .iadd, 0, 0, []),
  (367, 1, .iaload, 0, 0, []),
  (368, 1, .aload_n 0, 0, 0, []),
  (369, 1, .iload_n 3, 0, 0, []),
  (370, 1, .iconst 2, 16, 0, []),
  (371, 1, .iadd, 0, 0, []),
  (372, 1, .iaload, 0, 0, []),
  (373, 3, .invokevirtual 32, 170, 0, [(0, 937)]),
  (376, 1, .pop, 0, 0, []),
  (377, 1, .aload_n 2, 0, 0, []),
  (378, 1, .aload_n 0, 0, 0, []),
  (379, 1, .iload_n 3, 0, 0, []),
  (380, 1, .iconst 1, 8, 0, []),
  (381, 1, .iadd, 0, 0, []),
  (382, 1, .iaload, 0, 0, []),
  (383, 1, .aload_n 0, 0, 0, []),
  (384, 1, .iload_n 3, 0, 0, []),
  (385, 1, .iconst 2, 16, 0, []),
  (386, 1, .iadd, 0, 0, []),
  (387, 1, .iaload, 0, 0, []),
  (388, 3, .invokevirtual 36, 87, 0, [(0, 1778)]),
  (391, 1, .pop, 0, 0, []),
  (392, 3, .goto (988), 0, 1380, []),
  (395, 1, .aload_n 1, 0, 0, []),
  (396, 1, .aload_n 0, 0, 0, []),
  (397, 1, .iload_n 3, 0, 0, []),
  (398, 1, .iconst 1, 8, 0, []),
  (399, 1, .iadd, 0, 0, []),
  (400, 1, .iaload, 0, 0, []),
  (401, 3, .invokevirtual 37, 169, 0, [(0, 955)]),
  (404, 1, .pop, 0, 0, []),
  (405, 1, .aload_n 2, 0, 0, []),
  (406, 1, .aload_n 0, 0, 0, []),
  (407, 1, .iload_n 3, 0, 0, []),
  (408, 1, .iconst 1, 8, 0, []),
  (409, 1, .iadd, 0, 0, []),
  (410, 1, .iaload, 0, 0, []),
  (411, 3, .invokevirtual 40, 86, 0, [(0, 1790)]),
  (414, 1, .pop, 0, 0, []),
  (415, 3, .goto (965), 0, 1380, []),
  (418, 1, .aload_n 1, 0, 0, []),
  (419, 1, .aload_n 0, 0, 0, []),
  (420, 1, .iload_n 3, 0, 0, []),
  (421, 1, .iconst 1, 8, 0, []),
  (422, 1, .iadd, 0, 0, []),
  (423, 1, .iaload, 0, 0, []),
  (424, 1, .aload_n 0, 0, 0, []),
  (425, 1, .iload_n 3, 0, 0, []),
  (426, 1, .iconst 2, 16, 0, []),
  (427, 1, .iadd, 0, 0, []),
  (428, 1, .iaload, 0, 0, []),
  (429, 3, .invokevirtual 41, 168, 0, [(0, 959)]),
  (432, 1, .pop, 0, 0, []),
  (433, 1, .aload_n 2, 0, 0, []),
  (434, 1, .aload_n 0, 0, 0, []),
  (435, 1, .iload_n 3, 0, 0, []),
  (436, 1, .iconst 1, 8, 0, []),
  (437, 1, .iadd, 0, 0, []),
  (438, 1, .iaload, 0, 0, []),
  (439, 1, .aload_n 0, 0, 0, []),
  (440, 1, .iload_n 3, 0, 0, []),
  (441, 1, .iconst 2, 16, 0, []),
  (442, 1, .iadd, 0, 0, []),
  (443, 1, .iaload, 0, 0, []),
  (444, 3, .invokevirtual 44, 85, 0, [(0, 1794)]),
  (447, 1, .pop, 0, 0, []),
  (448, 3, .goto (932), 0, 1380, []),
  (451, 1, .aload_n 1, 0, 0, []),
  (452, 3, .invokevirtual 45, 166, 0, [(0, 971)]),
  (455, 1, .pop, 0, 0, []),
  (456, 1, .aload_n 2, 0, 0, []),
  (457, 3, .invokevirtual 48, 167, 0, [(0, 1833)]),
  (460, 1, .pop, 0, 0, []),
  (461, 3, .goto (919), 0, 1380, []),
  (464, 1, .aload_n 1, 0, 0, []),
  (465, 1, .aload_n 0, 0, 0, []),
  (466, 1, .iload_n 3, 0, 0, []),
  (467, 1, .iconst 1, 8, 0, []),
  (468, 1, .iadd, 0, 0, []),
  (469, 1, .iaload, 0, 0, []),
  (470, 1, .aload_n 0, 0, 0, []),
  (471, 1, .iload_n 3, 0, 0, []),
  (472, 1, .iconst 2, 16, 0, []),
  (473, 1, .iadd, 0, 0, []),
  (474, 1, .iaload, 0, 0, []),
  (475, 3, .invokevirtual 49, 165, 0, [(0, 1008)]),
  (478, 1, .pop, 0, 0, []),
  (479, 1, .aload_n 2, 0, 0, []),
  (480, 1, .aload_n 0, 0, 0, []),
  (481, 1, .iload_n 3, 0, 0, []),
  (482, 1, .iconst 1, 8, 0, []),
  (483, 1, .iadd, 0, 0, []),
  (484, 1, .iaload, 0, 0, []),
  (485, 1, .aload_n 0, 0, 0, []),
  (486, 1, .iload_n 3, 0, 0, []),
  (487, 1, .iconst 2, 16, 0, []),
  (488, 1, .iadd, 0, 0, []),
  (489, 1, .iaload, 0, 0, []),
  (490, 3, .invokevirtual 52, 56, 0, [(0, 1871)]),
  (493, 1, .pop, 0, 0, []),
  (494, 3, .goto (886), 0, 1380, []),
  (497, 1, .aload_n 1, 0, 0, []),
  (498, 1, .aload_n 0, 0, 0, []),
  (499, 1, .iload_n 3, 0, 0, []),
  (500, 1, .iconst 1, 8, 0, []),
  (501, 1, .iadd, 0, 0, []),
  (502, 1, .iaload, 0, 0, []),
  (503, 3, .invokevirtual 53, 164, 0, [(0, 1024)]),
  (506, 1, .pop, 0, 0, []),
  (507, 1, .aload_n 2, 0, 0, []),
  (508, 1, .aload_n 0, 0, 0, []),
  (509, 1, .iload_n 3, 0, 0, []),
  (510, 1, .iconst 1, 8, 0, []),
  (511, 1, .iadd, 0, 0, []),
  (512, 1, .iaload, 0, 0, []),
  (513, 3, .invokevirtual 56, 84, 0, [(0, 1879)]),
  (516, 1, .pop, 0, 0, []),
  (517, 3, .goto (863), 0, 1380, []),
  (520, 1, .aload_n 1, 0, 0, []),
  (521, 1, .aload_n 0, 0, 0, []),
  (522, 1, .iload_n 3, 0, 0, []),
  (523, 1, .iconst 1, 8, 0, []),
  (524, 1, .iadd, 0, 0, []),
  (525, 1, .iaload, 0, 0, []),
  (526, 3, .invokevirtual 57, 163, 0, [(0, 1032)]),
  (529, 1, .pop, 0, 0, []),
  (530, 1, .aload_n 2, 0, 0, []),
  (531, 1, .aload_n 0, 0, 0, []),
  (532, 1, .iload_n 3, 0, 0, []),
  (533, 1, .iconst 1, 8, 0, []),
  (534, 1, .iadd, 0, 0, []),
  (535, 1, .iaload, 0, 0, []),
  (536, 3, .invokevirtual 60, 83, 0, [(0, 1887)]),
  (539, 1, .pop, 0, 0, []),
  (540, 3, .goto (840), 0, 1380, []),
  (543, 1, .aload_n 1, 0, 0, []),
  (544, 1, .aload_n 0, 0, 0, []),
  (545, 1, .iload_n 3, 0, 0, []),
  (546, 1, .iconst 1, 8, 0, []),
  (547, 1, .iadd, 0, 0, []),
  (548, 1, .iaload, 0, 0, []),
  (549, 3, .invokevirtual 61, 162, 0, [(0, 1036)]),
  (552, 1, .pop, 0, 0, []),
  (553, 1, .aload_n 2, 0, 0, []),
  (554, 1, .aload_n 0, 0, 0, []),
  (555, 1, .iload_n 3, 0, 0, []),
  (556, 1, .iconst 1, 8, 0, []),
  (557, 1, .iadd, 0, 0, []),
  (558, 1, .iaload, 0, 0, []),
  (559, 3, .invokevirtual 64, 55, 0, [(0, 1891)]),
  (562, 1, .pop, 0, 0, []),
  (563, 3, .goto (817), 0, 1380, []),
  (566, 1, .aload_n 1, 0, 0, []),
  (567, 1, .aload_n 0, 0, 0, []),
  (568, 1, .iload_n 3, 0, 0, []),
  (569, 1, .iconst 1, 8, 0, []),
  (570, 1, .iadd, 0, 0, []),
  (571, 1, .iaload, 0, 0, []),
  (572, 3, .invokevirtual 65, 161, 0, [(0, 1041)]),
  (575, 1, .pop, 0, 0, []),
  (576, 1, .aload_n 2, 0, 0, []),
  (577, 1, .aload_n 0, 0, 0, []),
  (578, 1, .iload_n 3, 0, 0, []),
  (579, 1, .iconst 1, 8, 0, []),
  (580, 1, .iadd, 0, 0, []),
  (581, 1, .iaload, 0, 0, []),
  (582, 3, .invokevirtual 68, 54, 0, [(0, 1895)]),
  (585, 1, .pop, 0, 0, []),
  (586, 3, .goto (794), 0, 1380, []),
  (589, 1, .aload_n 1, 0, 0, []),
  (590, 3, .invokevirtual 69, 158, 0, [(0, 1045)]),
  (593, 1, .pop, 0, 0, []),
  (594, 1, .aload_n 2, 0, 0, []),
  (595, 3, .invokevirtual 73, 160, 0, [(0, 1899)]),
  (598, 1, .pop, 0, 0, []),
  (599, 3, .goto (781), 0, 1380, []),
  (602, 1, .aload_n 1, 0, 0, []),
  (603, 3, .invokevirtual 74, 155, 0, [(0, 1053)]),
  (606, 1, .pop, 0, 0, []),
  (607, 1, .aload_n 2, 0, 0, []),
  (608, 3, .invokevirtual 77, 157, 0, [(0, 1907)]),
  (611, 1, .pop, 0, 0, []),
  (612, 3, .goto (768), 0, 1380, []),
  (615, 1, .aload_n 1, 0, 0, []),
  (616, 3, .invokevirtual 78, 153, 0, [(0, 1061)]),
  (619, 1, .pop, 0, 0, []),
  (620, 1, .aload_n 2, 0, 0, []),
  (621, 3, .invokevirtual 81, 154, 0, [(0, 1802)]),
  (624, 1, .pop, 0, 0, []),
  (625, 3, .goto (755), 0, 1380, []),
  (628, 1, .aload_n 1, 0, 0, []),
  (629, 1, .aload_n 0, 0, 0, []),
  (630, 1, .iload_n 3, 0, 0, []),
  (631, 1, .iconst 1, 8, 0, []),
  (632, 1, .iadd, 0, 0, []),
  (633, 1, .iaload, 0, 0, []),
  (634, 3, .invokevirtual 82, 151, 0, [(0, 1065)]),
  (637, 1, .pop, 0, 0, []),
  (638, 1, .aload_n 2, 0, 0, []),
  (639, 1, .aload_n 0, 0, 0, []),
  (640, 1, .iload_n 3, 0, 0, []),
  (641, 1, .iconst 1, 8, 0, []),
  (642, 1, .iadd, 0, 0, []),
  (643, 1, .iaload, 0, 0, []),
  (644, 3, .invokevirtual 85, 53, 0, [(0, 1911)]),
  (647, 1, .pop, 0, 0, []),
  (648, 3, .goto (732), 0, 1380, []),
  (651, 1, .aload_n 1, 0, 0, []),
  (652, 1, .aload_n 0, 0, 0, []),
  (653, 1, .iload_n 3, 0, 0, []),
  (654, 1, .iconst 1, 8, 0, []),
  (655, 1, .iadd, 0, 0, []),
  (656, 1, .iaload, 0, 0, []),
  (657, 1, .aload_n 0, 0, 0, []),
  (658, 1, .iload_n 3, 0, 0, []),
  (659, 1, .iconst 2, 16, 0, []),
  (660, 1, .iadd, 0, 0, []),
  (661, 1, .iaload, 0, 0, []),
  (662, 1, .aload_n 0, 0, 0, []),
  (663, 1, .iload_n 3, 0, 0, []),
  (664, 1, .iconst 3, 24, 0, []),
  (665, 1, .iadd, 0, 0, []),
  (666, 1, .iaload, 0, 0, []),
  (667, 3, .invokevirtual 86, 150, 0, [(0, 1073)]),
  (670, 1, .pop, 0, 0, []),
  (671, 1, .aload_n 2, 0, 0, []),
  (672, 1, .aload_n 0, 0, 0, []),
  (673, 1, .iload_n 3, 0, 0, []),
  (674, 1, .iconst 1, 8, 0, []),
  (675, 1, .iadd, 0, 0, []),
  (676, 1, .iaload, 0, 0, []),
  (677, 1, .aload_n 0, 0, 0, []),
  (678, 1, .iload_n 3, 0, 0, []),
  (679, 1, .iconst 2, 16, 0, []),
  (680, 1, .iadd, 0, 0, []),
  (681, 1, .iaload, 0, 0, []),
  (682, 1, .aload_n 0, 0, 0, []),
  (683, 1, .iload_n 3, 0, 0, []),
  (684, 1, .iconst 3, 24, 0, []),
  (685, 1, .iadd, 0, 0, []),
  (686, 1, .iaload, 0, 0, []),
  (687, 3, .invokevirtual 90, 80, 0, [(0, 1923)]),
  (690, 1, .pop, 0, 0, []),
  (691, 3, .goto (689), 0, 1380, []),
  (694, 1, .aload_n 1, 0, 0, []),
  (695, 3, .invokevirtual 91, 148, 0, [(0, 1078)]),
  (698, 1, .pop, 0, 0, []),
  (699, 1, .aload_n 2, 0, 0, []),
  (700, 3, .invokevirtual 94, 149, 0, [(0, 1947)]),
  (703, 1, .pop, 0, 0, []),
  (704, 3, .goto (676), 0, 1380, []),
  (707, 1, .aload_n 1, 0, 0, []),
  (708, 3, .invokevirtual 95, 146, 0, [(0, 1117)]),
  (711, 1, .pop, 0, 0, []),
  (712, 1, .aload_n 2, 0, 0, []),
  (713, 3, .invokevirtual 98, 147, 0, [(0, 1992)]),
  (716, 1, .pop, 0, 0, []),
  (717, 3, .goto (663), 0, 1380, []),
  (720, 1, .aload_n 1, 0, 0, []),
  (721, 3, .invokevirtual 99, 144, 0, [(0, 1138)]),
  (724, 1, .pop, 0, 0, []),
  (725, 1, .aload_n 2, 0, 0, []),
  (726, 3, .invokevirtual 102, 145, 0, [(0, 1996)]),
  (729, 1, .pop, 0, 0, []),
  (730, 3, .goto (650), 0, 1380, []),
  (733, 1, .aload_n 1, 0, 0, []),
  (734, 1, .aload_n 0, 0, 0, []),
  (735, 1, .iload_n 3, 0, 0, []),
  (736, 1, .iconst 1, 8, 0, []),
  (737, 1, .iadd, 0, 0, []),
  (738, 1, .iaload, 0, 0, []),
  (739, 1, .aload_n 0, 0, 0, []),
  (740, 1, .iload_n 3, 0, 0, []),
  (741, 1, .iconst 2, 16, 0, []),
  (742, 1, .iadd, 0, 0, []),
  (743, 1, .iaload, 0, 0, []),
  (744, 3, .invokevirtual 103, 143, 0, [(0, 1142)]),
  (747, 1, .pop, 0, 0, []),
  (748, 1, .aload_n 2, 0, 0, []),
  (749, 1, .aload_n 0, 0, 0, []),
  (750, 1, .iload_n 3, 0, 0, []),
  (751, 1, .iconst 1, 8, 0, []),
  (752, 1, .iadd, 0, 0, []),
  (753, 1, .iaload, 0, 0, []),
  (754, 1, .aload_n 0, 0, 0, []),
  (755, 1, .iload_n 3, 0, 0, []),
  (756, 1, .iconst 2, 16, 0, []),
  (757, 1, .iadd, 0, 0, []),
  (758, 1, .iaload, 0, 0, []),
  (759, 3, .invokevirtual 106, 22, 0, [(0, 2005)]),
  (762, 1, .pop, 0, 0, []),
  (763, 3, .goto (617), 0, 1380, []),
  (766, 1, .aload_n 1, 0, 0, []),
  (767, 1, .aload_n 0, 0, 0, []),
  (768, 1, .iload_n 3, 0, 0, []),
  (769, 1, .iconst 1, 8, 0, []),
  (770, 1, .iadd, 0, 0, []),
  (771, 1, .iaload, 0, 0, []),
  (772, 3, .invokevirtual 107, 141, 0, [(0, 1159)]),
  (775, 1, .pop, 0, 0, []),
  (776, 1, .aload_n 2, 0, 0, []),
  (777, 1, .aload_n 0, 0, 0, []),
  (778, 1, .iload_n 3, 0, 0, []),
  (779, 1, .iconst 1, 8, 0, []),
  (780, 1, .iadd, 0, 0, []),
  (781, 1, .iaload, 0, 0, []),
  (782, 3, .invokevirtual 110, 39, 0, [(0, 2015)]),
  (785, 1, .pop, 0, 0, []),
  (786, 3, .goto (594), 0, 1380, []),
  (789, 1, .aload_n 1, 0, 0, []),
  (790, 3, .invokevirtual 111, 136, 0, [(0, 1177)]),
  (793, 1, .pop, 0, 0, []),
  (794, 1, .aload_n 2, 0, 0, []),
  (795, 3, .invokevirtual 114, 139, 0, [(0, 2019)]),
  (798, 1, .pop, 0, 0, []),
  (799, 3, .goto (581), 0, 1380, []),
  (802, 1, .aload_n 1, 0, 0, []),
  (803, 3, .invokevirtual 115, 134, 0, [(0, 1192)]),
  (806, 1, .pop, 0, 0, []),
  (807, 1, .aload_n 2, 0, 0, []),
  (808, 3, .invokevirtual 118, 135, 0, [(0, 2047)]),
  (811, 1, .pop, 0, 0, []),
  (812, 3, .goto (568), 0, 1380, []),
  (815, 1, .aload_n 1, 0, 0, []),
  (816, 1, .aload_n 0, 0, 0, []),
  (817, 1, .iload_n 3, 0, 0, []),
  (818, 1, .iconst 1, 8, 0, []),
  (819, 1, .iadd, 0, 0, []),
  (820, 1, .iaload, 0, 0, []),
  (821, 1, .aload_n 0, 0, 0, []),
  (822, 1, .iload_n 3, 0, 0, []),
  (823, 1, .iconst 2, 16, 0, []),
  (824, 1, .iadd, 0, 0, []),
  (825, 1, .iaload, 0, 0, []),
  (826, 3, .invokevirtual 119, 133, 0, [(0, 1205)]),
  (829, 1, .pop, 0, 0, []),
  (830, 1, .aload_n 2, 0, 0, []),
  (831, 1, .aload_n 0, 0, 0, []),
  (832, 1, .iload_n 3, 0, 0, []),
  (833, 1, .iconst 1, 8, 0, []),
  (834, 1, .iadd, 0, 0, []),
  (835, 1, .iaload, 0, 0, []),
  (836, 1, .aload_n 0, 0, 0, []),
  (837, 1, .iload_n 3, 0, 0, []),
  (838, 1, .iconst 2, 16, 0, []),
  (839, 1, .iadd, 0, 0, []),
  (840, 1, .iaload, 0, 0, []),
  (841, 3, .invokevirtual 122, 78, 0, [(0, 2000)]),
  (844, 1, .pop, 0, 0, []),
  (845, 3, .goto (535), 0, 1380, []),
  (848, 1, .aload_n 1, 0, 0, []),
  (849, 1, .aload_n 0, 0, 0, []),
  (850, 1, .iload_n 3, 0, 0, []),
  (851, 1, .iconst 1, 8, 0, []),
  (852, 1, .iadd, 0, 0, []),
  (853, 1, .iaload, 0, 0, []),
  (854, 3, .invokevirtual 123, 132, 0, [(0, 1209)]),
  (857, 1, .pop, 0, 0, []),
  (858, 1, .aload_n 2, 0, 0, []),
  (859, 1, .aload_n 0, 0, 0, []),
  (860, 1, .iload_n 3, 0, 0, []),
  (861, 1, .iconst 1, 8, 0, []),
  (862, 1, .iadd, 0, 0, []),
  (863, 1, .iaload, 0, 0, []),
  (864, 3, .invokevirtual 126, 38, 0, [(0, 1931)]),
  (867, 1, .pop, 0, 0, []),
  (868, 3, .goto (512), 0, 1380, []),
  (871, 1, .aload_n 1, 0, 0, []),
  (872, 1, .aload_n 0, 0, 0, []),
  (873, 1, .iload_n 3, 0, 0, []),
  (874, 1, .iconst 1, 8, 0, []),
  (875, 1, .iadd, 0, 0, []),
  (876, 1, .iaload, 0, 0, []),
  (877, 1, .aload_n 0, 0, 0, []),
  (878, 1, .iload_n 3, 0, 0, []),
  (879, 1, .iconst 2, 16, 0, []),
  (880, 1, .iadd, 0, 0, []),
  (881, 1, .iaload, 0, 0, []),
  (882, 3, .invokevirtual 127, 130, 0, [(0, 1220)]),
  (885, 1, .pop, 0, 0, []),
  (886, 1, .aload_n 2, 0, 0, []),
  (887, 1, .aload_n 0, 0, 0, []),
  (888, 1, .iload_n 3, 0, 0, []),
  (889, 1, .iconst 1, 8, 0, []),
  (890, 1, .iadd, 0, 0, []),
  (891, 1, .iaload, 0, 0, []),
  (892, 1, .aload_n 0, 0, 0, []),
  (893, 1, .iload_n 3, 0, 0, []),
  (894, 1, .iconst 2, 16, 0, []),
  (895, 1, .iadd, 0, 0, []),
  (896, 1, .iaload, 0, 0, []),
  (897, 3, .invokevirtual 130, 51, 0, [(0, 2059)]),
  (900, 1, .pop, 0, 0, []),
  (901, 3, .goto (479), 0, 1380, []),
  (904, 1, .aload_n 1, 0, 0, []),
  (905, 1, .aload_n 0, 0, 0, []),
  (906, 1, .iload_n 3, 0, 0, []),
  (907, 1, .iconst 1, 8, 0, []),
  (908, 1, .iadd, 0, 0, []),
  (909, 1, .iaload, 0, 0, []),
  (910, 3, .invokevirtual 131, 129, 0, [(0, 1242)]),
  (913, 1, .pop, 0, 0, []),
  (914, 1, .aload_n 2, 0, 0, []),
  (915, 1, .aload_n 0, 0, 0, []),
  (916, 1, .iload_n 3, 0, 0, []),
  (917, 1, .iconst 1, 8, 0, []),
  (918, 1, .iadd, 0, 0, []),
  (919, 1, .iaload, 0, 0, []),
  (920, 3, .invokevirtual 134, 76, 0, [(0, 2031)]),
  (923, 1, .pop, 0, 0, []),
  (924, 3, .goto (456), 0, 1380, []),
  (927, 1, .aload_n 1, 0, 0, []),
  (928, 3, .invokevirtual 135, 126, 0, [(0, 1250)]),
  (931, 1, .pop, 0, 0, []),
  (932, 1, .aload_n 2, 0, 0, []),
  (933, 3, .invokevirtual 138, 128, 0, [(0, 2043)]),
  (936, 1, .pop, 0, 0, []),
  (937, 3, .goto (443), 0, 1380, []),
  (940, 1, .aload_n 1, 0, 0, []),
  (941, 1, .aload_n 0, 0, 0, []),
  (942, 1, .iload_n 3, 0, 0, []),
  (943, 1, .iconst 1, 8, 0, []),
  (944, 1, .iadd, 0, 0, []),
  (945, 1, .iaload, 0, 0, []),
  (946, 3, .invokevirtual 139, 125, 0, [(0, 1259)]),
  (949, 1, .pop, 0, 0, []),
  (950, 1, .aload_n 2, 0, 0, []),
  (951, 1, .aload_n 0, 0, 0, []),
  (952, 1, .iload_n 3, 0, 0, []),
  (953, 1, .iconst 1, 8, 0, []),
  (954, 1, .iadd, 0, 0, []),
  (955, 1, .iaload, 0, 0, []),
  (956, 3, .invokevirtual 142, 75, 0, [(0, 1829)]),
  (959, 1, .pop, 0, 0, []),
  (960, 3, .goto (420), 0, 1380, []),
  (963, 1, .aload_n 1, 0, 0, []),
  (964, 3, .invokevirtual 143, 123, 0, [(0, 1263)]),
  (967, 1, .pop, 0, 0, []),
  (968, 1, .aload_n 2, 0, 0, []),
  (969, 3, .invokevirtual 146, 124, 0, [(0, 1810)]),
  (972, 1, .pop, 0, 0, []),
  (973, 3, .goto (407), 0, 1380, []),
  (976, 1, .aload_n 1, 0, 0, []),
  (977, 3, .invokevirtual 147, 121, 0, [(0, 1267)]),
  (980, 1, .pop, 0, 0, []),
  (981, 1, .aload_n 2, 0, 0, []),
  (982, 3, .invokevirtual 150, 122, 0, [(0, 1817)]),
  (985, 1, .pop, 0, 0, []),
  (986, 3, .goto (394), 0, 1380, []),
  (989, 1, .aload_n 1, 0, 0, []),
  (990, 3, .invokevirtual 151, 119, 0, [(0, 1271)]),
  (993, 1, .pop, 0, 0, []),
  (994, 1, .aload_n 2, 0, 0, []),
  (995, 3, .invokevirtual 154, 120, 0, [(0, 1935)]),
  (998, 1, .pop, 0, 0, []),
  (999, 3, .goto (381), 0, 1380, []),
  (1002, 1, .aload_n 1, 0, 0, []),
  (1003, 3, .invokevirtual 155, 117, 0, [(0, 1279)]),
  (1006, 1, .pop, 0, 0, []),
  (1007, 1, .aload_n 2, 0, 0, []),
  (1008, 3, .invokevirtual 158, 118, 0, [(0, 1939)]),
  (1011, 1, .pop, 0, 0, []),
  (1012, 3, .goto (368), 0, 1380, []),
  (1015, 1, .aload_n 1, 0, 0, []),
  (1016, 1, .aload_n 0, 0, 0, []),
  (1017, 1, .iload_n 3, 0, 0, []),
  (1018, 1, .iconst 1, 8, 0, []),
  (1019, 1, .iadd, 0, 0, []),
  (1020, 1, .iaload, 0, 0, []),
  (1021, 3, .invokevirtual 159, 116, 0, [(0, 1283)]),
  (1024, 1, .pop, 0, 0, []),
  (1025, 1, .aload_n 2, 0, 0, []),
  (1026, 1, .aload_n 0, 0, 0, []),
  (1027, 1, .iload_n 3, 0, 0, []),
  (1028, 1, .iconst 1, 8, 0, []),
  (1029, 1, .iadd, 0, 0, []),
  (1030, 1, .iaload, 0, 0, []),
  (1031, 3, .invokevirtual 162, 36, 0, [(0, 1821)]),
  (1034, 1, .pop, 0, 0, []),
  (1035, 3, .goto (345), 0, 1380, []),
  (1038, 1, .aload_n 1, 0, 0, []),
  (1039, 1, .aload_n 0, 0, 0, []),
  (1040, 1, .iload_n 3, 0, 0, []),
  (1041, 1, .iconst 1, 8, 0, []),
  (1042, 1, .iadd, 0, 0, []),
  (1043, 1, .iaload, 0, 0, []),
  (1044, 3, .invokevirtual 163, 115, 0, [(0, 1288)]),
  (1047, 1, .pop, 0, 0, []),
  (1048, 1, .aload_n 2, 0, 0, []),
  (1049, 1, .aload_n 0, 0, 0, []),
  (1050, 1, .iload_n 3, 0, 0, []),
  (1051, 1, .iconst 1, 8, 0, []),
  (1052, 1, .iadd, 0, 0, []),
  (1053, 1, .iaload, 0, 0, []),
  (1054, 3, .invokevirtual 166, 49, 0, [(0, 1825)]),
  (1057, 1, .pop, 0, 0, []),
  (1058, 3, .goto (322), 0, 1380, []),
  (1061, 1, .aload_n 1, 0, 0, []),
  (1062, 1, .aload_n 0, 0, 0, []),
  (1063, 1, .iload_n 3, 0, 0, []),
  (1064, 1, .iconst 1, 8, 0, []),
  (1065, 1, .iadd, 0, 0, []),
  (1066, 1, .iaload, 0, 0, []),
  (1067, 1, .aload_n 0, 0, 0, []),
  (1068, 1, .iload_n 3, 0, 0, []),
  (1069, 1, .iconst 2, 16, 0, []),
  (1070, 1, .iadd, 0, 0, []),
  (1071, 1, .iaload, 0, 0, []),
  (1072, 3, .invokevirtual 167, 113, 0, [(0, 1292)]),
  (1075, 1, .pop, 0, 0, []),
  (1076, 1, .aload_n 2, 0, 0, []),
  (1077, 1, .aload_n 0, 0, 0, []),
  (1078, 1, .iload_n 3, 0, 0, []),
  (1079, 1, .iconst 1, 8, 0, []),
  (1080, 1, .iadd, 0, 0, []),
  (1081, 1, .iaload, 0, 0, []),
  (1082, 1, .aload_n 0, 0, 0, []),
  (1083, 1, .iload_n 3, 0, 0, []),
  (1084, 1, .iconst 2, 16, 0, []),
  (1085, 1, .iadd, 0, 0, []),
  (1086, 1, .iaload, 0, 0, []),
  (1087, 3, .invokevirtual 170, 16, 0, [(0, 2067)]),
  (1090, 1, .pop, 0, 0, []),
  (1091, 3, .goto (289), 0, 1380, []),
  (1094, 1, .aload_n 1, 0, 0, []),
  (1095, 1, .aload_n 0, 0, 0, []),
  (1096, 1, .iload_n 3, 0, 0, []),
  (1097, 1, .iconst 1, 8, 0, []),
  (1098, 1, .iadd, 0, 0, []),
  (1099, 1, .iaload, 0, 0, []),
  (1100, 3, .invokevirtual 171, 112, 0, [(0, 1300)]),
  (1103, 1, .pop, 0, 0, []),
  (1104, 1, .aload_n 2, 0, 0, []),
  (1105, 1, .aload_n 0, 0, 0, []),
  (1106, 1, .iload_n 3, 0, 0, []),
  (1107, 1, .iconst 1, 8, 0, []),
  (1108, 1, .iadd, 0, 0, []),
  (1109, 1, .iaload, 0, 0, []),
  (1110, 3, .invokevirtual 174, 70, 0, [(0, 1943)]),
  (1113, 1, .pop, 0, 0, []),
  (1114, 3, .goto (266), 0, 1380, []),
  (1117, 1, .aload_n 1, 0, 0, []),
  (1118, 1, .aload_n 0, 0, 0, []),
  (1119, 1, .iload_n 3, 0, 0, []),
  (1120, 1, .iconst 1, 8, 0, []),
  (1121, 1, .iadd, 0, 0, []),
  (1122, 1, .iaload, 0, 0, []),
  (1123, 1, .aload_n 0, 0, 0, []),
  (1124, 1, .iload_n 3, 0, 0, []),
  (1125, 1, .iconst 2, 16, 0, []),
  (1126, 1, .iadd, 0, 0, []),
  (1127, 1, .iaload, 0, 0, []),
  (1128, 1, .aload_n 0, 0, 0, []),
  (1129, 1, .iload_n 3, 0, 0, []),
  (1130, 1, .iconst 3, 24, 0, []),
  (1131, 1, .iadd, 0, 0, []),
  (1132, 1, .iaload, 0, 0, []),
  (1133, 3, .ifCond .eq (7), 0, 1140, []),
  (1136, 1, .iconst 1, 8, 0, []),
  (1137, 3, .goto (4), 0, 1141, []),
  (1140, 1, .iconst 0, 0, 0, []),
  (1141, 3, .invokevirtual 175, 48, 0, [(0, 1304)]),
  (1144, 1, .pop, 0, 0, []),
  (1145, 1, .aload_n 2, 0, 0, []),
  (1146, 1, .aload_n 0, 0, 0, []),
  (1147, 1, .iload_n 3, 0, 0, []),
  (1148, 1, .iconst 1, 8, 0, []),
  (1149, 1, .iadd, 0, 0, []),
  (1150, 1, .iaload, 0, 0, []),
  (1151, 1, .aload_n 0, 0, 0, []),
  (1152, 1, .iload_n 3, 0, 0, []),
  (1153, 1, .iconst 2, 16, 0, []),
  (1154, 1, .iadd, 0, 0, []),
  (1155, 1, .iaload, 0, 0, []),
  (1156, 1, .aload_n 0, 0, 0, []),
  (1157, 1, .iload_n 3, 0, 0, []),
  (1158, 1, .iconst 3, 24, 0, []),
  (1159, 1, .iadd, 0, 0, []),
  (1160, 1, .iaload, 0, 0, []),
  (1161, 3, .ifCond .eq (7), 0, 1168, []),
  (1164, 1, .iconst 1, 8, 0, []),
  (1165, 3, .goto (4), 0, 1169, []),
  (1168, 1, .iconst 0, 0, 0, []),
  (1169, 3, .invokevirtual 179, 24, 0, [(0, 2077)]),
  (1172, 1, .pop, 0, 0, []),
  (1173, 3, .goto (207), 0, 1380, []),
  (1176, 1, .aload_n 1, 0, 0, []),
  (1177, 1, .aload_n 0, 0, 0, []),
  (1178, 1, .iload_n 3, 0, 0, []),
  (1179, 1, .iconst 1, 8, 0, []),
  (1180, 1, .iadd, 0, 0, []),
  (1181, 1, .iaload, 0, 0, []),
  (1182, 3, .invokevirtual 180, 110, 0, [(0, 1312)]),
  (1185, 1, .pop, 0, 0, []),
  (1186, 1, .aload_n 2, 0, 0, []),
  (1187, 1, .aload_n 0, 0, 0, []),
  (1188, 1, .iload_n 3, 0, 0, []),
  (1189, 1, .iconst 1, 8, 0, []),
  (1190, 1, .iadd, 0, 0, []),
  (1191, 1, .iaload, 0, 0, []),
  (1192, 3, .invokevirtual 184, 69, 0, [(0, 2081)]),
  (1195, 1, .pop, 0, 0, []),
  (1196, 3, .goto (184), 0, 1380, []),
  (1199, 1, .aload_n 1, 0, 0, []),
  (1200, 1, .aload_n 0, 0, 0, []),
  (1201, 1, .iload_n 3, 0, 0, []),
  (1202, 1, .iconst 1, 8, 0, []),
  (1203, 1, .iadd, 0, 0, []),
  (1204, 1, .iaload, 0, 0, []),
  (1205, 3, .invokevirtual 185, 108, 0, [(0, 1320)]),
  (1208, 1, .aload_n 2, 0, 0, []),
  (1209, 1, .aload_n 0, 0, 0, []),
  (1210, 1, .iload_n 3, 0, 0, []),
  (1211, 1, .iconst 1, 8, 0, []),
  (1212, 1, .iadd, 0, 0, []),
  (1213, 1, .iaload, 0, 0, []),
  (1214, 3, .invokevirtual 188, 47, 0, [(0, 2085)]),
  (1217, 3, .if_icmp .eq (163), 0, 1380, []),
  (1220, 1, .iconst 0, 0, 0, []),
  (1221, 1, .ireturn, 0, 0, []),
  (1222, 1, .aload_n 1, 0, 0, []),
  (1223, 1, .aload_n 0, 0, 0, []),
  (1224, 1, .iload_n 3, 0, 0, []),
  (1225, 1, .iconst 1, 8, 0, []),
  (1226, 1, .iadd, 0, 0, []),
  (1227, 1, .iaload, 0, 0, []),
  (1228, 3, .invokevirtual 189, 107, 0, [(0, 1329)]),
  (1231, 1, .pop, 0, 0, []),
  (1232, 1, .aload_n 2, 0, 0, []),
  (1233, 1, .aload_n 0, 0, 0, []),
  (1234, 1, .iload_n 3, 0, 0, []),
  (1235, 1, .iconst 1, 8, 0, []),
  (1236, 1, .iadd, 0, 0, []),
  (1237, 1, .iaload, 0, 0, []),
  (1238, 3, .invokevirtual 192, 46, 0, [(0, 2089)]),
  (1241, 1, .pop, 0, 0, []),
  (1242, 3, .goto (138), 0, 1380, []),
  (1245, 1, .aload_n 1, 0, 0, []),
  (1246, 1, .aload_n 0, 0, 0, []),
  (1247, 1, .iload_n 3, 0, 0, []),
  (1248, 1, .iconst 1, 8, 0, []),
  (1249, 1, .iadd, 0, 0, []),
  (1250, 1, .iaload, 0, 0, []),
  (1251, 1, .aload_n 0, 0, 0, []),
  (1252, 1, .iload_n 3, 0, 0, []),
  (1253, 1, .iconst 2, 16, 0, []),
  (1254, 1, .iadd, 0, 0, []),
  (1255, 1, .iaload, 0, 0, []),
  (1256, 3, .invokevirtual 193, 105, 0, [(0, 1345)]),
  (1259, 1, .pop, 0, 0, []),
  (1260, 1, .aload_n 2, 0, 0, []),
  (1261, 1, .aload_n 0, 0, 0, []),
  (1262, 1, .iload_n 3, 0, 0, []),
  (1263, 1, .iconst 1, 8, 0, []),
  (1264, 1, .iadd, 0, 0, []),
  (1265, 1, .iaload, 0, 0, []),
  (1266, 1, .aload_n 0, 0, 0, []),
  (1267, 1, .iload_n 3, 0, 0, []),
  (1268, 1, .iconst 2, 16, 0, []),
  (1269, 1, .iadd, 0, 0, []),
  (1270, 1, .iaload, 0, 0, []),
  (1271, 3, .invokevirtual 196, 106, 0, [(0, 2101)]),
  (1274, 1, .pop, 0, 0, []),
  (1275, 3, .goto (105), 0, 1380, []),
  (1278, 1, .aload_n 1, 0, 0, []),
  (1279, 1, .aload_n 0, 0, 0, []),
  (1280, 1, .iload_n 3, 0, 0, []),
  (1281, 1, .iconst 1, 8, 0, []),
  (1282, 1, .iadd, 0, 0, []),
  (1283, 1, .iaload, 0, 0, []),
  (1284, 1, .aload_n 0, 0, 0, []),
  (1285, 1, .iload_n 3, 0, 0, []),
  (1286, 1, .iconst 2, 16, 0, []),
  (1287, 1, .iadd, 0, 0, []),
  (1288, 1, .iaload, 0, 0, []),
  (1289, 3, .invokevirtual 197, 103, 0, [(0, 1355)]),
  (1292, 1, .pop, 0, 0, []),
  (1293, 1, .aload_n 2, 0, 0, []),
  (1294, 1, .aload_n 0, 0, 0, []),
  (1295, 1, .iload_n 3, 0, 0, []),
  (1296, 1, .iconst 1, 8, 0, []),
  (1297, 1, .iadd, 0, 0, []),
  (1298, 1, .iaload, 0, 0, []),
  (1299, 1, .aload_n 0, 0, 0, []),
  (1300, 1, .iload_n 3, 0, 0, []),
  (1301, 1, .iconst 2, 16, 0, []),
  (1302, 1, .iadd, 0, 0, []),
  (1303, 1, .iaload, 0, 0, []),
  (1304, 3, .invokevirtual 200, 104, 0, [(0, 2106)]),
  (1307, 1, .pop, 0, 0, []),
  (1308, 3, .goto (72), 0, 1380, []),
  (1311, 1, .aload_n 1, 0, 0, []),
  (1312, 1, .aload_n 0, 0, 0, []),
  (1313, 1, .iload_n 3, 0, 0, []),
  (1314, 1, .iconst 1, 8, 0, []),
  (1315, 1, .iadd, 0, 0, []),
  (1316, 1, .iaload, 0, 0, []),
  (1317, 3, .invokevirtual 201, 102, 0, [(0, 1369)]),
  (1320, 1, .pop, 0, 0, []),
  (1321, 1, .aload_n 2, 0, 0, []),
  (1322, 1, .aload_n 0, 0, 0, []),
  (1323, 1, .iload_n 3, 0, 0, []),
  (1324, 1, .iconst 1, 8, 0, []),
  (1325, 1, .iadd, 0, 0, []),
  (1326, 1, .iaload, 0, 0, []),
  (1327, 3, .invokevirtual 204, 26, 0, [(0, 2114)]),
  (1330, 1, .pop, 0, 0, []),
  (1331, 3, .goto (49), 0, 1380, []),
  (1334, 1, .aload_n 1, 0, 0, []),
  (1335, 1, .aload_n 0, 0, 0, []),
  (1336, 1, .iload_n 3, 0, 0, []),
  (1337, 1, .iconst 1, 8, 0, []),
  (1338, 1, .iadd, 0, 0, []),
  (1339, 1, .iaload, 0, 0, []),
  (1340, 3, .invokevirtual 205, 101, 0, [(0, 1373)]),
  (1343, 1, .pop, 0, 0, []),
  (1344, 1, .aload_n 2, 0, 0, []),
  (1345, 1, .aload_n 0, 0, 0, []),
  (1346, 1, .iload_n 3, 0, 0, []),
  (1347, 1, .iconst 1, 8, 0, []),
  (1348, 1, .iadd, 0, 0, []),
  (1349, 1, .iaload, 0, 0, []),
  (1350, 3, .invokevirtual 208, 44, 0, [(0, 2118)]),
  (1353, 1, .pop, 0, 0, []),
  (1354, 3, .goto (26), 0, 1380, []),
  (1357, 1, .aload_n 1, 0, 0, []),
  (1358, 1, .aload_n 0, 0, 0, []),
  (1359, 1, .iload_n 3, 0, 0, []),
  (1360, 1, .iconst 1, 8, 0, []),
  (1361, 1, .iadd, 0, 0, []),
  (1362, 1, .iaload, 0, 0, []),
  (1363, 3, .invokevirtual 209, 100, 0, [(0, 1377)]),
  (1366, 1, .pop, 0, 0, []),
  (1367, 1, .aload_n 2, 0, 0, []),
  (1368, 1, .aload_n 0, 0, 0, []),
  (1369, 1, .iload_n 3, 0, 0, []),
  (1370, 1, .iconst 1, 8, 0, []),
  (1371, 1, .iadd, 0, 0, []),
  (1372, 1, .iaload, 0, 0, []),
  (1373, 3, .invokevirtual 212, 14, 0, [(0, 2122)]),
  (1376, 1, .pop, 0, 0, []),
  (1377, 3, .goto (3), 0, 1380, []),
  (1380, 3, .iinc 3 (6), 48, 0, []),
  (1383, 3, .goto (-1365), 0, 18, []),
  (1386, 1, .iconst 1, 8, 0, []),
  (1387, 1, .ireturn, 0, 0, [])]
def gm_t0 : List ga_M := [(gc_0, 0, 2, 2, 0, 0, 1, 999), (gc_1, 0, 3, 3, 0, 0, 1, 999), (gc_2, 0, 1, 1, 0, 0, 2, 1), (gc_3, 0, 1, 1, 0, 0, 2, 11), (gc_4, 0, 2, 2, 0, 0, 1, 999), (gc_5, 0, 1, 1, 0, 0, 0, 11), (gc_6, 1, 6, 5, 0, 0, 1, 4), (gc_7, 1, 2, 1, 0, 0, 0, 1), (gc_8, 0, 2, 2, 0, 0, 2, 999), (gc_9, 0, 3, 3, 0, 0, 2, 999), (gc_10, 0, 3, 2, 0, 0, 4, 999), (gc_11, 0, 1, 1, 0, 0, 1, 1), (gc_12, 0, 2, 2, 3, 21, 0, 11), (gc_13, 2, 4, 2, 0, 0, 1, 999), (gc_14, 0, 2, 2, 0, 0, 1, 1), (gc_15, 0, 1, 1, 0, 0, 1, 1)]
def gm_t1 : List ga_M := [(gc_16, 2, 5, 3, 0, 0, 1, 1), (gc_17, 0, 2, 2, 0, 0, 2, 1), (gc_18, 0, 2, 2, 0, 0, 2, 0), (gc_19, 3, 5, 2, 0, 0, 1, 999), (gc_20, 0, 2, 2, 0, 0, 0, 11), (gc_21, 0, 2, 2, 0, 0, 2, 1), (gc_22, 3, 6, 3, 0, 0, 1, 1), (gc_23, 0, 1, 1, 0, 0, 0, 8), (gc_24, 0, 4, 4, 0, 0, 1, 1), (gc_25, 1, 2, 1, 0, 0, 0, 1), (gc_26, 1, 3, 2, 0, 0, 1, 1), (gc_27, 0, 1, 1, 0, 0, 1, 999), (gc_28, 2, 3, 1, 0, 0, 1, 1), (gc_29, 1, 2, 1, 0, 0, 0, 1), (gc_30, 0, 2, 2, 0, 0, 2, 1), (gc_31, 0, 2, 2, 0, 0, 2, 999)]
def gm_t2 : List ga_M := [(gc_32, 0, 2, 2, 0, 0, 1, 999), (gc_33, 1, 3, 2, 0, 0, 0, 0), (gc_34, 0, 2, 2, 0, 0, 5, 2), (gc_35, 1, 3, 2, 0, 0, 1, 999), (gc_36, 2, 4, 2, 0, 0, 1, 1), (gc_37, 0, 2, 2, 0, 0, 2, 0), (gc_38, 2, 4, 2, 0, 0, 1, 1), (gc_39, 4, 6, 2, 0, 0, 1, 1), (gc_40, 0, 3, 3, 0, 0, 1, 1), (gc_41, 0, 2, 2, 0, 0, 1, 1), (gc_42, 0, 1, 1, 0, 0, 0, 4), (gc_43, 0, 1, 1, 0, 0, 0, 5), (gc_44, 1, 3, 2, 0, 0, 1, 1), (gc_45, 2, 4, 2, 0, 0, 1, 10), (gc_46, 2, 4, 2, 0, 0, 1, 1), (gc_47, 0, 2, 2, 0, 0, 1, 1)]
def gm_t3 : List ga_M := [(gc_48, 0, 4, 4, 0, 0, 1, 0), (gc_49, 1, 3, 2, 0, 0, 1, 1), (gc_50, 1, 3, 2, 0, 0, 0, 3), (gc_51, 6, 9, 3, 0, 0, 1, 1), (gc_52, 2, 3, 1, 0, 0, 1, 999), (gc_53, 2, 4, 2, 0, 0, 1, 1), (gc_54, 0, 2, 2, 0, 0, 1, 1), (gc_55, 0, 2, 2, 0, 0, 1, 1), (gc_56, 0, 3, 3, 0, 0, 1, 1), (gc_57, 0, 2, 2, 0, 0, 1, 1), (gc_58, 0, 1, 1, 9, 383, 0, 4), (gc_59, 0, 1, 1, 3, 337, 0, 5), (gc_60, 0, 1, 1, 0, 0, 0, 0), (gc_61, 1, 2, 1, 0, 0, 0, 11), (gc_62, 0, 2, 2, 0, 0, 0, 11), (gc_63, 2, 4, 2, 0, 0, 1, 11)]
def gm_t4 : List ga_M := [(gc_64, 0, 2, 2, 0, 0, 0, 2), (gc_65, 2, 3, 1, 0, 0, 0, 10), (gc_66, 0, 1, 1, 0, 0, 0, 1), (gc_67, 1, 2, 1, 0, 0, 0, 1), (gc_68, 1, 2, 1, 0, 0, 0, 1), (gc_69, 0, 2, 2, 0, 0, 2, 1), (gc_70, 0, 2, 2, 0, 0, 1, 1), (gc_71, 0, 1, 1, 0, 0, 0, 0), (gc_72, 1, 4, 3, 0, 0, 0, 9), (gc_73, 4, 6, 2, 0, 0, 1, 9), (gc_74, 2, 4, 2, 0, 0, 1, 1), (gc_75, 2, 4, 2, 0, 0, 1, 1), (gc_76, 0, 2, 2, 0, 0, 1, 1), (gc_77, 0, 2, 2, 0, 0, 2, 0), (gc_78, 5, 8, 3, 0, 0, 1, 1), (gc_79, 2, 3, 1, 0, 0, 1, 11)]
def gm_t5 : List ga_M := [(gc_80, 2, 6, 4, 0, 0, 1, 1), (gc_81, 0, 2, 2, 0, 0, 0, 2), (gc_82, 1, 2, 1, 0, 0, 0, 1), (gc_83, 0, 2, 2, 0, 0, 1, 1), (gc_84, 0, 2, 2, 0, 0, 1, 1), (gc_85, 0, 3, 3, 0, 0, 1, 1), (gc_86, 0, 2, 2, 0, 0, 1, 1), (gc_87, 0, 3, 3, 0, 0, 1, 1), (gc_88, 0, 1, 1, 0, 0, 2, 1), (gc_89, 1, 2, 1, 235, 4283, 0, 0), (gc_90, 0, 3, 3, 2, 25, 0, 7), (gc_91, 0, 2, 2, 1, 17, 0, 12), (gc_92, 5, 6, 1, 0, 0, 0, 12), (gc_93, 1, 3, 2, 165, 1353, 0, 2), (gc_94, 0, 1, 1, 1, 7, 0, 8), (gc_95, 0, 2, 2, 5, 37, 0, 6)]
def gm_t6 : List ga_M := [(gc_96, 0, 1, 1, 4, 86, 0, 9), (gc_97, 0, 1, 1, 2, 14, 0, 3), (gc_98, 0, 2, 2, 7, 165, 0, 10), (gc_99, 0, 1, 1, 42, 8267, 0, 1), (gc_100, 0, 2, 2, 0, 0, 1, 0), (gc_101, 0, 2, 2, 0, 0, 1, 0), (gc_102, 0, 2, 2, 0, 0, 1, 0), (gc_103, 2, 5, 3, 0, 0, 1, 0), (gc_104, 2, 5, 3, 0, 0, 1, 1), (gc_105, 1, 4, 3, 0, 0, 1, 0), (gc_106, 1, 4, 3, 0, 0, 1, 1), (gc_107, 0, 2, 2, 0, 0, 1, 0), (gc_108, 0, 2, 2, 0, 0, 1, 0), (gc_109, 0, 2, 2, 0, 0, 1, 10), (gc_110, 0, 2, 2, 0, 0, 2, 0), (gc_111, 0, 2, 2, 0, 0, 2, 10)]
def gm_t7 : List ga_M := [(gc_112, 0, 2, 2, 0, 0, 1, 0), (gc_113, 5, 8, 3, 0, 0, 1, 0), (gc_114, 4, 6, 2, 0, 0, 1, 999), (gc_115, 1, 3, 2, 0, 0, 1, 0), (gc_116, 4, 6, 2, 0, 0, 1, 0), (gc_117, 2, 3, 1, 0, 0, 1, 0), (gc_118, 3, 4, 1, 0, 0, 1, 1), (gc_119, 2, 3, 1, 0, 0, 1, 0), (gc_120, 3, 4, 1, 0, 0, 1, 1), (gc_121, 3, 4, 1, 0, 0, 1, 0), (gc_122, 2, 3, 1, 0, 0, 1, 1), (gc_123, 4, 5, 1, 0, 0, 1, 0), (gc_124, 2, 3, 1, 0, 0, 1, 1), (gc_125, 0, 2, 2, 0, 0, 1, 0), (gc_126, 0, 1, 1, 0, 0, 1, 0), (gc_127, 3, 4, 1, 0, 0, 1, 3)]
def gm_t8 : List ga_M := [(gc_128, 3, 4, 1, 0, 0, 1, 1), (gc_129, 0, 2, 2, 0, 0, 1, 0), (gc_130, 1, 4, 3, 0, 0, 1, 0), (gc_131, 0, 2, 2, 0, 0, 2, 0), (gc_132, 1, 3, 2, 0, 0, 1, 0), (gc_133, 5, 8, 3, 0, 0, 1, 0), (gc_134, 1, 2, 1, 0, 0, 1, 0), (gc_135, 3, 4, 1, 0, 0, 1, 1), (gc_136, 2, 3, 1, 0, 0, 1, 0), (gc_137, 1, 2, 1, 0, 0, 1, 3), (gc_138, 1, 4, 3, 0, 0, 2, 999), (gc_139, 1, 2, 1, 0, 0, 1, 1), (gc_140, 2, 4, 2, 0, 0, 2, 1), (gc_141, 1, 3, 2, 0, 0, 1, 0), (gc_142, 3, 4, 1, 0, 0, 1, 3), (gc_143, 3, 6, 3, 0, 0, 1, 0)]
def gm_t9 : List ga_M := [(gc_144, 0, 1, 1, 0, 0, 1, 0), (gc_145, 0, 1, 1, 0, 0, 1, 1), (gc_146, 1, 2, 1, 0, 0, 1, 0), (gc_147, 1, 2, 1, 0, 0, 1, 1), (gc_148, 1, 2, 1, 0, 0, 1, 0), (gc_149, 1, 2, 1, 0, 0, 1, 1), (gc_150, 2, 6, 4, 0, 0, 1, 0), (gc_151, 0, 2, 2, 0, 0, 1, 0), (gc_152, 2, 4, 2, 0, 0, 1, 11), (gc_153, 0, 1, 1, 0, 0, 1, 0), (gc_154, 0, 1, 1, 0, 0, 1, 1), (gc_155, 0, 1, 1, 0, 0, 2, 0), (gc_156, 0, 2, 2, 0, 0, 2, 2), (gc_157, 0, 1, 1, 0, 0, 2, 1), (gc_158, 0, 1, 1, 0, 0, 2, 0), (gc_159, 0, 2, 2, 0, 0, 2, 2)]
def gm_t10 : List ga_M := [(gc_160, 0, 1, 1, 0, 0, 2, 1), (gc_161, 0, 2, 2, 0, 0, 1, 0), (gc_162, 0, 2, 2, 0, 0, 1, 0), (gc_163, 0, 2, 2, 0, 0, 1, 0), (gc_164, 0, 2, 2, 0, 0, 1, 0), (gc_165, 0, 3, 3, 0, 0, 1, 0), (gc_166, 1, 2, 1, 0, 0, 1, 0), (gc_167, 0, 1, 1, 0, 0, 1, 1), (gc_168, 0, 3, 3, 0, 0, 1, 0), (gc_169, 0, 2, 2, 0, 0, 1, 0), (gc_170, 0, 3, 3, 0, 0, 1, 0), (gc_171, 0, 2, 2, 0, 0, 1, 0), (gc_172, 1, 2, 1, 0, 0, 1, 0), (gc_173, 1, 3, 2, 0, 0, 2, 7), (gc_174, 0, 2, 2, 0, 0, 0, 12), (gc_175, 1, 2, 1, 0, 0, 0, 12)]
def gm_t11 : List ga_M := [(gc_176, 0, 2, 2, 0, 0, 0, 4), (gc_177, 0, 2, 2, 0, 0, 0, 5), (gc_178, 1, 2, 1, 0, 0, 1, 1), (gc_179, 2, 3, 1, 0, 0, 0, 1), (gc_180, 0, 2, 2, 0, 0, 1, 1), (gc_181, 0, 2, 2, 0, 0, 1, 0), (gc_182, 0, 6, 6, 0, 0, 1, 0), (gc_183, 2, 8, 6, 0, 0, 1, 1), (gc_184, 0, 2, 2, 0, 0, 1, 0), (gc_185, 2, 4, 2, 0, 0, 2, 0), (gc_186, 1, 2, 1, 0, 0, 0, 0), (gc_187, 1, 2, 1, 0, 0, 1, 999), (gc_188, 1, 2, 1, 0, 0, 1, 999), (gc_189, 0, 1, 1, 0, 0, 2, 999), (gc_190, 0, 1, 1, 0, 0, 2, 999), (gc_191, 0, 3, 3, 0, 0, 0, 1)]
def gm_t12 : List ga_M := [(gc_192, 1, 3, 1, 0, 0, 2, 999), (gc_193, 0, 1, 1, 0, 0, 2, 999), (gc_194, 0, 2, 2, 0, 0, 2, 1), (gc_195, 0, 3, 2, 0, 0, 2, 1), (gc_196, 0, 1, 1, 0, 0, 0, 1), (gc_197, 0, 2, 2, 0, 0, 0, 1), (gc_198, 1, 4, 3, 0, 0, 1, 1), (gc_199, 0, 5, 4, 0, 0, 1, 1), (gc_200, 0, 1, 1, 0, 0, 1, 1), (gc_201, 0, 1, 1, 0, 0, 2, 1), (gc_202, 2, 3, 1, 0, 0, 0, 1), (gc_203, 1, 2, 1, 0, 0, 1, 1), (gc_204, 1, 2, 1, 0, 0, 0, 1), (gc_205, 1, 2, 1, 0, 0, 1, 1), (gc_206, 5, 6, 1, 0, 0, 0, 1), (gc_207, 0, 1, 1, 0, 0, 0, 1)]
def gm_t13 : List ga_M := [(gc_208, 0, 3, 3, 0, 0, 0, 1), (gc_209, 0, 3, 3, 0, 0, 0, 1), (gc_210, 1, 2, 1, 0, 0, 0, 1), (gc_211, 0, 1, 1, 0, 0, 1, 1), (gc_212, 6, 7, 1, 0, 0, 2, 1), (gc_213, 0, 1, 1, 0, 0, 1, 1), (gc_214, 1, 2, 1, 0, 0, 2, 1), (gc_215, 1, 2, 1, 0, 0, 2, 1), (gc_216, 0, 3, 3, 0, 0, 1, 999), (gc_217, 0, 3, 3, 0, 0, 1, 1), (gc_218, 3, 4, 1, 0, 0, 1, 1), (gc_219, 0, 1, 1, 0, 0, 1, 1), (gc_220, 1, 3, 2, 0, 0, 1, 1), (gc_221, 0, 2, 2, 0, 0, 1, 1), (gc_222, 0, 2, 2, 0, 0, 1, 1), (gc_223, 3, 6, 3, 0, 0, 2, 1)]
def gm_t14 : List ga_M := [(gc_224, 2, 4, 2, 0, 0, 1, 1), (gc_225, 1, 3, 2, 0, 0, 1, 1), (gc_226, 2, 4, 2, 0, 0, 1, 1), (gc_227, 1, 3, 2, 0, 0, 1, 1), (gc_228, 2, 3, 1, 0, 0, 0, 1), (gc_229, 1, 4, 3, 0, 0, 0, 1), (gc_230, 0, 1, 1, 0, 0, 1, 1), (gc_231, 2, 3, 1, 0, 0, 0, 1), (gc_232, 3, 5, 2, 0, 0, 2, 1), (gc_233, 1, 4, 3, 0, 0, 0, 1), (gc_234, 1, 3, 2, 0, 0, 0, 1), (gc_235, 2, 3, 1, 0, 0, 1, 1), (gc_236, 2, 3, 1, 0, 0, 1, 1), (gc_237, 0, 2, 2, 0, 0, 1, 1), (gc_238, 5, 7, 2, 0, 0, 1, 1), (gc_239, 1, 2, 1, 0, 0, 0, 1)]
def gm_t15 : List ga_M := [(gc_240, 1, 3, 2, 0, 0, 2, 1), (gc_241, 2, 4, 2, 0, 0, 1, 1), (gc_242, 2, 4, 2, 0, 0, 1, 1), (gc_243, 1, 2, 1, 0, 0, 0, 1), (gc_244, 2, 3, 1, 0, 0, 1, 1), (gc_245, 2, 5, 3, 0, 0, 0, 1), (gc_246, 3, 4, 1, 0, 0, 0, 1), (gc_247, 2, 5, 3, 0, 0, 2, 1), (gc_248, 3, 6, 3, 0, 0, 1, 1), (gc_249, 1, 3, 2, 0, 0, 2, 3), (gc_250, 1, 3, 2, 0, 0, 2, 3), (gc_251, 4, 6, 2, 0, 0, 1, 3), (gc_252, 0, 5, 4, 0, 0, 0, 4), (gc_253, 0, 3, 3, 0, 0, 0, 4), (gc_254, 1, 4, 2, 0, 0, 1, 4), (gc_255, 2, 5, 3, 0, 0, 1, 4)]
def gm_t16 : List ga_M := [(gc_256, 0, 2, 2, 0, 0, 0, 5), (gc_257, 3, 9, 6, 0, 0, 1, 5), (gc_258, 0, 3, 3, 0, 0, 1, 999), (gc_259, 0, 1, 1, 0, 0, 1, 999), (gc_260, 0, 3, 3, 0, 0, 1, 6), (gc_261, 1, 3, 2, 0, 0, 1, 6), (gc_262, 1, 3, 2, 0, 0, 0, 6), (gc_263, 2, 7, 5, 0, 0, 0, 999), (gc_264, 2, 7, 5, 0, 0, 0, 999), (gc_265, 0, 3, 3, 0, 0, 2, 6), (gc_266, 0, 1, 1, 0, 0, 0, 6), (gc_267, 2, 8, 6, 0, 0, 1, 6), (gc_268, 0, 3, 3, 0, 0, 1, 6), (gc_269, 0, 1, 1, 0, 0, 2, 7), (gc_270, 3, 4, 1, 0, 0, 2, 7), (gc_271, 2, 3, 1, 0, 0, 2, 7)]
def gm_t17 : List ga_M := [(gc_272, 1, 3, 2, 0, 0, 2, 7), (gc_273, 0, 3, 3, 0, 0, 0, 7), (gc_274, 0, 1, 1, 0, 0, 2, 7), (gc_275, 1, 3, 2, 0, 0, 2, 7), (gc_276, 1, 3, 2, 0, 0, 2, 7), (gc_277, 1, 3, 2, 0, 0, 2, 7), (gc_278, 2, 4, 2, 0, 0, 2, 7), (gc_279, 2, 4, 2, 0, 0, 2, 7), (gc_280, 1, 3, 2, 0, 0, 2, 7), (gc_281, 0, 2, 2, 0, 0, 2, 7), (gc_282, 0, 1, 1, 0, 0, 1, 999), (gc_283, 0, 1, 1, 0, 0, 1, 999), (gc_284, 0, 1, 1, 0, 0, 1, 999), (gc_285, 1, 3, 2, 0, 0, 2, 7), (gc_286, 0, 1, 1, 0, 0, 2, 7), (gc_287, 0, 3, 3, 0, 0, 2, 7)]
def gm_t18 : List ga_M := [(gc_288, 0, 2, 2, 0, 0, 2, 7), (gc_289, 0, 2, 2, 0, 0, 2, 7), (gc_290, 0, 2, 2, 0, 0, 0, 8), (gc_291, 3, 7, 4, 0, 0, 1, 9), (gc_292, 3, 7, 4, 0, 0, 0, 9), (gc_293, 2, 5, 3, 0, 0, 2, 9), (gc_294, 0, 4, 4, 0, 0, 1, 10), (gc_295, 2, 5, 3, 0, 0, 2, 10), (gc_296, 2, 5, 3, 0, 0, 1, 10), (gc_297, 4, 6, 2, 0, 0, 1, 10), (gc_298, 3, 6, 3, 0, 0, 1, 10), (gc_299, 1, 3, 2, 0, 0, 1, 11), (gc_300, 0, 2, 2, 0, 0, 2, 11), (gc_301, 0, 2, 2, 0, 0, 2, 11), (gc_302, 0, 2, 2, 0, 0, 1, 11), (gc_303, 2, 3, 1, 0, 0, 1, 11)]
def gm_t19 : List ga_M := [(gc_304, 1, 4, 3, 0, 0, 0, 11), (gc_305, 0, 2, 2, 0, 0, 1, 11), (gc_306, 1, 3, 2, 0, 0, 1, 11), (gc_307, 0, 1, 1, 0, 0, 0, 12), (gc_308, 1, 2, 1, 0, 0, 1, 12), (gc_309, 1, 2, 1, 0, 0, 0, 12), (gc_310, 0, 1, 1, 0, 0, 2, 999), (gc_311, 0, 1, 1, 0, 0, 2, 999), (gc_312, 0, 1, 1, 0, 0, 1, 999)]
def gm_t : List (List ga_M) := [gm_t0, gm_t1, gm_t2, gm_t3, gm_t4, gm_t5, gm_t6, gm_t7, gm_t8, gm_t9, gm_t10, gm_t11, gm_t12, gm_t13, gm_t14, gm_t15, gm_t16, gm_t17, gm_t18, gm_t19]
noncomputable def gm_me (k : Nat) : ga_M := ga_nth ([], 0, 0, 0, 0, 0, 0, 999) (ga_nth [] gm_t (k / 16)) (k % 16)
def gm_dl : List (List Nat) := [[4, 0, 0, 0, 4, 4, 4, 4, 4, 4, 4, 0, 4, 4, 4, 4, 4], [4, 4, 0, 0, 0, 0, 0, 0, 0, 0, 5, 4, 4, 4, 4, 4, 4, 4, 4, 4, 4, 4, 4, 4, 4, 4, 4, 4, 4, 4, 4, 4, 0, 0, 0, 0, 0, 0, 4, 4, 4, 4, 0, 0, 0, 4, 0, 0, 4, 4, 4, 0, 4, 4, 4, 4, 4, 4, 4, 4, 4, 0, 0, 4, 4], [4, 0, 0, 0], [4, 0, 4], [0, 4, 4, 4, 0, 4, 4, 0, 0, 0, 0, 0, 4], [4, 0, 0, 4, 4], [4, 4, 4, 4, 4, 0, 0, 0, 0, 4, 0], [4, 4, 0, 0, 0], [4, 0], [4, 4, 4, 4, 0, 0], [4, 4, 4, 4, 4, 4, 4, 4, 0, 0], [4, 4, 4, 4, 0, 0, 0, 0, 0, 0, 0], [4, 4, 0, 0, 0, 0, 0, 5]]
noncomputable def gm_df (c : Nat) : List Nat := ga_nth [] gm_dl c
def gm_tx : List Nat := [103, 117, 101, 115, 116, 32, 116, 97, 107, 101, 115, 32, 115, 108, 111, 119, 32, 102, 101, 117, 100, 32, 98, 111, 97, 116, 32, 104, 101, 97, 116, 32, 97, 99, 114, 111, 115, 115, 32, 99, 111, 111, 108, 115, 32, 108, 101, 97, 110, 115, 32, 100, 114, 97, 119, 32, 111, 114, 32, 97, 110, 100, 32, 110, 111, 116, 32, 108, 101, 102, 116, 32, 109, 105, 110, 117, 116, 101, 32, 115, 101, 97, 116, 32, 103, 117, 101, 115, 116, 115, 32]
def gm_n0 : List (MethodName × ByteArray × Nat × Option FieldType) := [(⟨"java/lang/Math", "max", "(II)I"⟩, prog_17_method_65_code, 2, some .int),
  (⟨"GravyRoundModel", "held", "(III)I"⟩, prog_14_method_39_code, 3, some .int),
  (⟨"GravyRoundModel", "isOver", "()Z"⟩, prog_14_method_48_code, 1, some .boolean),
  (⟨"GravyRound$Table", "isOver", "()Z"⟩, prog_11_method_4_code, 1, some .boolean),
  (⟨"java/lang/Math", "min", "(II)I"⟩, prog_17_method_69_code, 2, some .int),
  (⟨"GravyRound$Table", "passOrCool", "()V"⟩, prog_11_method_15_code, 1, none),
  (⟨"GravyRound$Dinner", "cooled", "(IIII)I"⟩, prog_4_method_8_code, 6, some .int),
  (⟨"GravyRoundModel", "goCool", "()V"⟩, prog_14_method_61_code, 2, none),
  (⟨"GravyRoundModel", "bit", "(II)Z"⟩, prog_14_method_40_code, 2, some .boolean),
  (⟨"GravyRoundModel", "isIn", "(III)Z"⟩, prog_14_method_38_code, 3, some .boolean),
  (⟨"GravyRound$Tokens", "packedBy", "(JI)J"⟩, prog_12_method_3_code, 3, some .long),
  (⟨"GravyRoundModel", "folk", "()I"⟩, prog_14_method_44_code, 1, some .int),
  (⟨"GravyRound$Table", "<init>", "(LGravyRound$Dinner;)V"⟩, prog_11_method_1_code, 2, none),
  (⟨"GravyRoundModel", "power", "(II)I"⟩, prog_14_method_43_code, 4, some .int),
  (⟨"GravyRoundModel", "about", "(I)I"⟩, prog_14_method_135_code, 2, some .int),
  (⟨"GravyRoundModel", "quarrels", "()I"⟩, prog_14_method_45_code, 1, some .int)]
def gm_n1 : List (MethodName × ByteArray × Nat × Option FieldType) := [(⟨"GravyRoundModel", "odds", "(II)I"⟩, prog_14_method_123_code, 5, some .int),
  (⟨"GravyRoundModel", "isGuest", "(I)Z"⟩, prog_14_method_46_code, 2, some .boolean),
  (⟨"GravyRound", "isGuest", "(I)Z"⟩, prog_1_method_52_code, 2, some .boolean),
  (⟨"GravyRoundModel", "divisor", "(II)I"⟩, prog_14_method_42_code, 5, some .int),
  (⟨"GravyRound$Table", "copyFrom", "(LGravyRound$Table;)V"⟩, prog_11_method_3_code, 2, none),
  (⟨"GravyRoundModel", "isFeud", "(I)Z"⟩, prog_14_method_47_code, 2, some .boolean),
  (⟨"GravyRoundModel", "treaty", "(II)I"⟩, prog_14_method_109_code, 6, some .int),
  (⟨"GravyRound$Row", "clear", "()V"⟩, prog_8_method_2_code, 1, none),
  (⟨"GravyRoundModel", "seen", "(IIZ)I"⟩, prog_14_method_124_code, 4, some .int),
  (⟨"GravyRoundModel", "bringBack", "()V"⟩, prog_14_method_60_code, 2, none),
  (⟨"GravyRoundModel", "image", "(I)I"⟩, prog_14_method_133_code, 3, some .int),
  (⟨"java/lang/Integer", "bitCount", "(I)I"⟩, prog_16_method_49_code, 1, some .int),
  (⟨"GravyRoundModel", "roundNow", "()I"⟩, prog_14_method_65_code, 3, some .int),
  (⟨"GravyRoundModel", "keepNow", "()V"⟩, prog_14_method_59_code, 2, none),
  (⟨"GravyRoundModel", "isBehind", "(I)Z"⟩, prog_14_method_51_code, 2, some .boolean),
  (⟨"GravyRoundModel", "isLess", "(II)Z"⟩, prog_14_method_107_code, 2, some .boolean)]
def gm_n2 : List (MethodName × ByteArray × Nat × Option FieldType) := [(⟨"GravyRoundModel", "toldOf", "(II)I"⟩, prog_14_method_108_code, 2, some .int),
  (⟨"GravyRound", "putOnTape", "(I)V"⟩, prog_1_method_51_code, 3, none),
  (⟨"GravyRound$Acts", "slot", "(I)LGravyRound$Table;"⟩, prog_2_method_6_code, 2, some (.object "GravyRound$Table")),
  (⟨"java/lang/Math", "floorMod", "(II)I"⟩, prog_17_method_50_code, 3, some .int),
  (⟨"GravyRoundModel", "slowest", "(I)I"⟩, prog_14_method_72_code, 4, some .int),
  (⟨"GravyRound", "isFeud", "(I)Z"⟩, prog_1_method_53_code, 2, some .boolean),
  (⟨"GravyRoundModel", "skin", "(I)I"⟩, prog_14_method_89_code, 4, some .int),
  (⟨"GravyRoundModel", "leave", "(I)I"⟩, prog_14_method_110_code, 6, some .int),
  (⟨"GravyRoundModel", "turnFeud", "(IZ)I"⟩, prog_14_method_80_code, 3, some .int),
  (⟨"GravyRoundModel", "fault", "(I)I"⟩, prog_14_method_37_code, 2, some .int),
  (⟨"GravyRound$Dinner", "clear", "()V"⟩, prog_4_method_2_code, 1, none),
  (⟨"GravyRound$Formula", "clear", "()V"⟩, prog_5_method_2_code, 1, none),
  (⟨"GravyRoundModel", "back", "(I)I"⟩, prog_14_method_134_code, 3, some .int),
  (⟨"GravyRound$Sights", "fitting", "(I)I"⟩, prog_10_method_6_code, 4, some .int),
  (⟨"GravyRoundModel", "fits", "(I)I"⟩, prog_14_method_129_code, 4, some .int),
  (⟨"GravyRoundModel", "later", "(I)I"⟩, prog_14_method_126_code, 2, some .int)]
def gm_n3 : List (MethodName × ByteArray × Nat × Option FieldType) := [(⟨"GravyRound", "seen", "(IIZ)I"⟩, prog_1_method_41_code, 4, some .int),
  (⟨"GravyRoundModel", "law", "(I)I"⟩, prog_14_method_73_code, 3, some .int),
  (⟨"GravyRound$Company", "look", "(LGravyRound$Table;)V"⟩, prog_3_method_2_code, 3, none),
  (⟨"GravyRoundModel", "greed", "(II)I"⟩, prog_14_method_122_code, 9, some .int),
  (⟨"GravyRoundModel", "bitsOf", "(I)I"⟩, prog_14_method_41_code, 3, some .int),
  (⟨"GravyRoundModel", "stands", "(I)I"⟩, prog_14_method_87_code, 4, some .int),
  (⟨"GravyRoundModel", "warm", "(I)I"⟩, prog_14_method_84_code, 2, some .int),
  (⟨"GravyRoundModel", "pour", "(I)I"⟩, prog_14_method_83_code, 2, some .int),
  (⟨"GravyRoundModel", "change", "(II)I"⟩, prog_14_method_79_code, 3, some .int),
  (⟨"GravyRoundModel", "end", "(I)I"⟩, prog_14_method_137_code, 2, some .int),
  (⟨"GravyRound$Dinner", "<init>", "()V"⟩, prog_4_method_1_code, 1, none),
  (⟨"GravyRound$Formula", "<init>", "()V"⟩, prog_5_method_1_code, 1, none),
  (⟨"GravyRound", "beginAsTold", "()V"⟩, prog_1_method_50_code, 1, none),
  (⟨"GravyRound$Table", "begin", "()V"⟩, prog_11_method_2_code, 2, none),
  (⟨"GravyRound$Table", "comeTo", "(I)V"⟩, prog_11_method_17_code, 2, none),
  (⟨"GravyRound$Table", "waitAt", "(I)I"⟩, prog_11_method_9_code, 4, some .int)]
def gm_n4 : List (MethodName × ByteArray × Nat × Option FieldType) := [(⟨"GravyRound$Acts", "begin", "(LGravyRound$Table;)V"⟩, prog_2_method_2_code, 2, none),
  (⟨"GravyRound$Sights", "begin", "()V"⟩, prog_10_method_2_code, 3, none),
  (⟨"GravyRoundModel", "clearBank", "()V"⟩, prog_14_method_16_code, 1, none),
  (⟨"GravyRoundModel", "startAnew", "()V"⟩, prog_14_method_57_code, 2, none),
  (⟨"GravyRoundModel", "layTold", "()V"⟩, prog_14_method_58_code, 2, none),
  (⟨"GravyRoundModel", "untell", "(I)Z"⟩, prog_14_method_125_code, 2, some .boolean),
  (⟨"GravyRoundModel", "lies", "(I)I"⟩, prog_14_method_92_code, 2, some .int),
  (⟨"GravyRound", "handAsTold", "()V"⟩, prog_1_method_59_code, 1, none),
  (⟨"GravyRound$Shares", "takeAtMost", "(LGravyRound$Table;I)V"⟩, prog_9_method_2_code, 4, none),
  (⟨"GravyRound$Shares", "hand", "(LGravyRound$Table;)I"⟩, prog_9_method_3_code, 6, some .int),
  (⟨"GravyRoundModel", "goTillOver", "(Z)I"⟩, prog_14_method_64_code, 4, some .int),
  (⟨"GravyRoundModel", "blame", "(I)I"⟩, prog_14_method_74_code, 4, some .int),
  (⟨"GravyRoundModel", "clan", "(I)I"⟩, prog_14_method_116_code, 2, some .int),
  (⟨"GravyRound", "isBehind", "(I)Z"⟩, prog_1_method_54_code, 2, some .boolean),
  (⟨"GravyRoundModel", "best", "(II)I"⟩, prog_14_method_106_code, 8, some .int),
  (⟨"GravyRound$Table", "minutesToGo", "()I"⟩, prog_11_method_10_code, 3, some .int)]
def gm_n5 : List (MethodName × ByteArray × Nat × Option FieldType) := [(⟨"GravyRoundModel", "will", "(III)I"⟩, prog_14_method_88_code, 6, some .int),
  (⟨"GravyRound$Acts", "add", "(LGravyRound$Table;)V"⟩, prog_2_method_3_code, 2, none),
  (⟨"GravyRoundModel", "keepAct", "()V"⟩, prog_14_method_75_code, 2, none),
  (⟨"GravyRoundModel", "fallOut", "(I)I"⟩, prog_14_method_82_code, 2, some .int),
  (⟨"GravyRoundModel", "makeUp", "(I)I"⟩, prog_14_method_81_code, 2, some .int),
  (⟨"GravyRoundModel", "feud", "(II)I"⟩, prog_14_method_68_code, 3, some .int),
  (⟨"GravyRoundModel", "seat", "(I)I"⟩, prog_14_method_67_code, 2, some .int),
  (⟨"GravyRoundModel", "guest", "(II)I"⟩, prog_14_method_66_code, 3, some .int),
  (⟨"GravyRoundModel", "isGood", "()Z"⟩, prog_14_method_6_code, 1, some .boolean),
  (⟨"GravyRound", "<init>", "()V"⟩, prog_1_method_1_code, 2, none),
  (⟨"GravyRound$Reader", "<init>", "([BLGravyRound$Dinner;)V"⟩, prog_7_method_1_code, 3, none),
  (⟨"GravyRound$Tokens", "<init>", "([B)V"⟩, prog_12_method_1_code, 2, none),
  (⟨"GravyRound$Tokens", "packWords", "()V"⟩, prog_12_method_2_code, 6, none),
  (⟨"GravyRound$Acts", "<init>", "(LGravyRound$Dinner;)V"⟩, prog_2_method_1_code, 3, none),
  (⟨"GravyRound$Row", "<init>", "()V"⟩, prog_8_method_1_code, 1, none),
  (⟨"GravyRound$Orders", "<init>", "(LGravyRound$Dinner;)V"⟩, prog_6_method_1_code, 2, none)]
def gm_n6 : List (MethodName × ByteArray × Nat × Option FieldType) := [(⟨"GravyRound$Shares", "<init>", "()V"⟩, prog_9_method_1_code, 1, none),
  (⟨"GravyRound$Company", "<init>", "()V"⟩, prog_3_method_1_code, 1, none),
  (⟨"GravyRound$Sights", "<init>", "(LGravyRound$Dinner;)V"⟩, prog_10_method_1_code, 2, none),
  (⟨"GravyRoundModel", "<init>", "()V"⟩, prog_14_method_1_code, 1, none),
  (⟨"GravyRound", "about", "(I)I"⟩, prog_1_method_49_code, 2, some .int),
  (⟨"GravyRound", "back", "(I)I"⟩, prog_1_method_48_code, 2, some .int),
  (⟨"GravyRound", "image", "(I)I"⟩, prog_1_method_47_code, 2, some .int),
  (⟨"GravyRound", "ask", "(II)I"⟩, prog_1_method_46_code, 5, some .int),
  (⟨"GravyRoundModel", "ask", "(II)I"⟩, prog_14_method_132_code, 5, some .int),
  (⟨"GravyRound", "sure", "(II)I"⟩, prog_1_method_45_code, 4, some .int),
  (⟨"GravyRoundModel", "sure", "(II)I"⟩, prog_14_method_130_code, 4, some .int),
  (⟨"GravyRound", "fits", "(I)I"⟩, prog_1_method_44_code, 2, some .int),
  (⟨"GravyRound", "later", "(I)I"⟩, prog_1_method_43_code, 2, some .int),
  (⟨"GravyRound$Sights", "goOn", "(I)I"⟩, prog_10_method_5_code, 2, some .int),
  (⟨"GravyRound", "untell", "(I)Z"⟩, prog_1_method_42_code, 2, some .boolean),
  (⟨"GravyRound$Sights", "takeBack", "(I)Z"⟩, prog_10_method_4_code, 2, some .boolean)]
def gm_n7 : List (MethodName × ByteArray × Nat × Option FieldType) := [(⟨"GravyRound", "lies", "(I)I"⟩, prog_1_method_40_code, 2, some .int),
  (⟨"GravyRound", "odds", "(II)I"⟩, prog_1_method_39_code, 8, some .int),
  (⟨"GravyRound", "commonDivisor", "(II)I"⟩, prog_1_method_62_code, 6, some .int),
  (⟨"GravyRound", "law", "(I)I"⟩, prog_1_method_38_code, 3, some .int),
  (⟨"GravyRound", "slowest", "(I)I"⟩, prog_1_method_37_code, 6, some .int),
  (⟨"GravyRound", "hungry", "()I"⟩, prog_1_method_36_code, 3, some .int),
  (⟨"GravyRoundModel", "hungry", "()I"⟩, prog_14_method_91_code, 4, some .int),
  (⟨"GravyRound", "lacking", "()I"⟩, prog_1_method_35_code, 3, some .int),
  (⟨"GravyRoundModel", "lacking", "()I"⟩, prog_14_method_90_code, 4, some .int),
  (⟨"GravyRound", "luckiest", "()I"⟩, prog_1_method_34_code, 4, some .int),
  (⟨"GravyRoundModel", "luckiest", "()I"⟩, prog_14_method_71_code, 3, some .int),
  (⟨"GravyRound", "sourest", "()I"⟩, prog_1_method_33_code, 5, some .int),
  (⟨"GravyRoundModel", "sourest", "()I"⟩, prog_14_method_70_code, 3, some .int),
  (⟨"GravyRound", "blame", "(I)I"⟩, prog_1_method_32_code, 2, some .int),
  (⟨"GravyRound", "clans", "()I"⟩, prog_1_method_31_code, 1, some .int),
  (⟨"GravyRound$Company", "countClans", "()I"⟩, prog_3_method_9_code, 4, some .int)]
def gm_n8 : List (MethodName × ByteArray × Nat × Option FieldType) := [(⟨"GravyRoundModel", "clans", "()I"⟩, prog_14_method_117_code, 4, some .int),
  (⟨"GravyRound", "clan", "(I)I"⟩, prog_1_method_30_code, 2, some .int),
  (⟨"GravyRound", "greed", "(II)I"⟩, prog_1_method_29_code, 4, some .int),
  (⟨"GravyRound", "isWaitingGuest", "(I)Z"⟩, prog_1_method_55_code, 2, some .boolean),
  (⟨"GravyRound", "skin", "(I)I"⟩, prog_1_method_28_code, 3, some .int),
  (⟨"GravyRound", "best", "(II)I"⟩, prog_1_method_27_code, 8, some .int),
  (⟨"GravyRound", "limit", "()I"⟩, prog_1_method_26_code, 2, some .int),
  (⟨"GravyRoundModel", "limit", "()I"⟩, prog_14_method_120_code, 4, some .int),
  (⟨"GravyRound", "tables", "()I"⟩, prog_1_method_25_code, 3, some .int),
  (⟨"GravyRound$Company", "fewestTables", "()I"⟩, prog_3_method_5_code, 2, some .int),
  (⟨"GravyRound$Company", "canSit", "(LGravyRound$Company;II)Z"⟩, prog_3_method_6_code, 4, some .boolean),
  (⟨"GravyRoundModel", "tables", "()I"⟩, prog_14_method_111_code, 2, some .int),
  (⟨"GravyRoundModel", "canSeat", "(I)Z"⟩, prog_14_method_112_code, 4, some .boolean),
  (⟨"GravyRound", "leave", "(I)I"⟩, prog_1_method_24_code, 3, some .int),
  (⟨"GravyRound$Company", "fewestToLeave", "()I"⟩, prog_3_method_3_code, 4, some .int),
  (⟨"GravyRound", "treaty", "(II)I"⟩, prog_1_method_23_code, 6, some .int)]
def gm_n9 : List (MethodName × ByteArray × Nat × Option FieldType) := [(⟨"GravyRound", "peace", "()I"⟩, prog_1_method_22_code, 1, some .int),
  (⟨"GravyRoundModel", "peace", "()I"⟩, prog_14_method_105_code, 1, some .int),
  (⟨"GravyRound", "warmest", "()I"⟩, prog_1_method_21_code, 2, some .int),
  (⟨"GravyRoundModel", "warmest", "()I"⟩, prog_14_method_104_code, 2, some .int),
  (⟨"GravyRound", "soonest", "()I"⟩, prog_1_method_20_code, 2, some .int),
  (⟨"GravyRoundModel", "soonest", "()I"⟩, prog_14_method_103_code, 2, some .int),
  (⟨"GravyRound", "will", "(III)I"⟩, prog_1_method_19_code, 6, some .int),
  (⟨"GravyRound", "stands", "(I)I"⟩, prog_1_method_18_code, 2, some .int),
  (⟨"GravyRound$Table", "seatBehind", "(I)I"⟩, prog_11_method_12_code, 4, some .int),
  (⟨"GravyRound", "round", "()I"⟩, prog_1_method_17_code, 1, some .int),
  (⟨"GravyRoundModel", "round", "()I"⟩, prog_14_method_69_code, 1, some .int),
  (⟨"GravyRound", "redo", "()Z"⟩, prog_1_method_16_code, 1, some .boolean),
  (⟨"GravyRound$Acts", "goOn", "(LGravyRound$Table;)Z"⟩, prog_2_method_5_code, 2, some .boolean),
  (⟨"GravyRoundModel", "redo", "()Z"⟩, prog_14_method_86_code, 1, some .boolean),
  (⟨"GravyRound", "undo", "()Z"⟩, prog_1_method_15_code, 1, some .boolean),
  (⟨"GravyRound$Acts", "goBack", "(LGravyRound$Table;)Z"⟩, prog_2_method_4_code, 2, some .boolean)]
def gm_n10 : List (MethodName × ByteArray × Nat × Option FieldType) := [(⟨"GravyRoundModel", "undo", "()Z"⟩, prog_14_method_85_code, 1, some .boolean),
  (⟨"GravyRound", "warm", "(I)I"⟩, prog_1_method_14_code, 2, some .int),
  (⟨"GravyRound", "pour", "(I)I"⟩, prog_1_method_13_code, 2, some .int),
  (⟨"GravyRound", "fallOut", "(I)I"⟩, prog_1_method_12_code, 2, some .int),
  (⟨"GravyRound", "makeUp", "(I)I"⟩, prog_1_method_11_code, 2, some .int),
  (⟨"GravyRound", "change", "(II)I"⟩, prog_1_method_10_code, 3, some .int),
  (⟨"GravyRound", "minute", "()I"⟩, prog_1_method_9_code, 2, some .int),
  (⟨"GravyRoundModel", "minute", "()I"⟩, prog_14_method_77_code, 1, some .int),
  (⟨"GravyRound", "feud", "(II)I"⟩, prog_1_method_8_code, 3, some .int),
  (⟨"GravyRound", "seat", "(I)I"⟩, prog_1_method_7_code, 2, some .int),
  (⟨"GravyRound", "guest", "(II)I"⟩, prog_1_method_6_code, 3, some .int),
  (⟨"GravyRound", "fault", "(I)I"⟩, prog_1_method_5_code, 2, some .int),
  (⟨"GravyRound", "dinner", "()I"⟩, prog_1_method_4_code, 2, some .int),
  (⟨"GravyRound$Reader", "read", "(I)Z"⟩, prog_7_method_2_code, 3, some .boolean),
  (⟨"GravyRound$Tokens", "begin", "(I)V"⟩, prog_12_method_4_code, 2, none),
  (⟨"GravyRound$Tokens", "step", "()V"⟩, prog_12_method_5_code, 2, none)]
def gm_n11 : List (MethodName × ByteArray × Nat × Option FieldType) := [(⟨"GravyRound$Dinner", "copyFrom", "(LGravyRound$Dinner;)V"⟩, prog_4_method_3_code, 2, none),
  (⟨"GravyRound$Formula", "copyFrom", "(LGravyRound$Formula;)V"⟩, prog_5_method_3_code, 2, none),
  (⟨"GravyRoundModel", "dinner", "()I"⟩, prog_14_method_17_code, 2, some .int),
  (⟨"GravyRoundModel", "goOn", "()V"⟩, prog_14_method_9_code, 3, none),
  (⟨"GravyRoundModel", "sign", "(I)I"⟩, prog_14_method_2_code, 2, some .int),
  (⟨"GravyRound", "end", "(I)I"⟩, prog_1_method_3_code, 2, some .int),
  (⟨"GravyRound", "feed", "(IIIII)I"⟩, prog_1_method_2_code, 6, some .int),
  (⟨"GravyRoundModel", "feed", "(IIIII)I"⟩, prog_14_method_136_code, 8, some .int),
  (⟨"GravyRound", "turnFeud", "(I)I"⟩, prog_1_method_56_code, 2, some .int),
  (⟨"GravyRound", "liesOnTheWay", "(I)Z"⟩, prog_1_method_57_code, 4, some .boolean),
  (⟨"GravyRound", "layOrder", "()V"⟩, prog_1_method_58_code, 2, none),
  (⟨"GravyRound", "lowestBit", "(I)I"⟩, prog_1_method_60_code, 2, some .int),
  (⟨"GravyRound", "highestBit", "(I)I"⟩, prog_1_method_61_code, 2, some .int),
  (⟨"GravyRoundModel", "isLetter", "(I)Z"⟩, prog_14_method_3_code, 1, some .boolean),
  (⟨"GravyRoundModel", "isDigit", "(I)Z"⟩, prog_14_method_4_code, 1, some .boolean),
  (⟨"GravyRoundModel", "fails", "(II)V"⟩, prog_14_method_5_code, 3, none)]
def gm_n12 : List (MethodName × ByteArray × Nat × Option FieldType) := [(⟨"GravyRoundModel", "isKept", "(J)Z"⟩, prog_14_method_7_code, 3, some .boolean),
  (⟨"GravyRoundModel", "isSign", "(I)Z"⟩, prog_14_method_8_code, 1, some .boolean),
  (⟨"GravyRoundModel", "isSignHere", "(I)Z"⟩, prog_14_method_10_code, 2, some .boolean),
  (⟨"GravyRoundModel", "isWord", "(J)Z"⟩, prog_14_method_11_code, 3, some .boolean),
  (⟨"GravyRoundModel", "misplaced", "()V"⟩, prog_14_method_12_code, 1, none),
  (⟨"GravyRoundModel", "must", "(Z)V"⟩, prog_14_method_13_code, 2, none),
  (⟨"GravyRoundModel", "numeral", "(II)I"⟩, prog_14_method_14_code, 4, some .int),
  (⟨"GravyRoundModel", "after", "(JII)I"⟩, prog_14_method_15_code, 5, some .int),
  (⟨"GravyRoundModel", "onceHere", "()I"⟩, prog_14_method_18_code, 1, some .int),
  (⟨"GravyRoundModel", "isFull", "()Z"⟩, prog_14_method_19_code, 1, some .boolean),
  (⟨"GravyRoundModel", "readLine", "()V"⟩, prog_14_method_20_code, 3, none),
  (⟨"GravyRoundModel", "here", "()I"⟩, prog_14_method_21_code, 2, some .int),
  (⟨"GravyRoundModel", "readGuest", "()V"⟩, prog_14_method_22_code, 2, none),
  (⟨"GravyRoundModel", "someone", "()I"⟩, prog_14_method_23_code, 2, some .int),
  (⟨"GravyRoundModel", "readFeud", "()V"⟩, prog_14_method_24_code, 6, none),
  (⟨"GravyRoundModel", "readRule", "()V"⟩, prog_14_method_25_code, 1, none)]
def gm_n13 : List (MethodName × ByteArray × Nat × Option FieldType) := [(⟨"GravyRoundModel", "emit", "(II)V"⟩, prog_14_method_26_code, 3, none),
  (⟨"GravyRoundModel", "pushE", "(II)V"⟩, prog_14_method_27_code, 3, none),
  (⟨"GravyRoundModel", "e", "()V"⟩, prog_14_method_28_code, 2, none),
  (⟨"GravyRoundModel", "wordHere", "()I"⟩, prog_14_method_29_code, 1, some .int),
  (⟨"GravyRoundModel", "unit", "()Z"⟩, prog_14_method_30_code, 7, some .boolean),
  (⟨"GravyRoundModel", "rankHere", "()I"⟩, prog_14_method_31_code, 1, some .int),
  (⟨"GravyRoundModel", "isCompared", "()Z"⟩, prog_14_method_32_code, 2, some .boolean),
  (⟨"GravyRoundModel", "behindUnit", "()Z"⟩, prog_14_method_33_code, 2, some .boolean),
  (⟨"GravyRoundModel", "two", "(III)I"⟩, prog_14_method_34_code, 3, some .int),
  (⟨"GravyRoundModel", "asked", "(II)I"⟩, prog_14_method_35_code, 3, some .int),
  (⟨"GravyRoundModel", "comes", "()I"⟩, prog_14_method_36_code, 4, some .int),
  (⟨"GravyRoundModel", "seatNow", "()I"⟩, prog_14_method_49_code, 1, some .int),
  (⟨"GravyRoundModel", "seatOf", "(I)I"⟩, prog_14_method_50_code, 3, some .int),
  (⟨"GravyRoundModel", "slowOf", "(I)I"⟩, prog_14_method_52_code, 2, some .int),
  (⟨"GravyRoundModel", "takesOf", "(I)I"⟩, prog_14_method_53_code, 2, some .int),
  (⟨"GravyRoundModel", "isAtOdds", "(II)Z"⟩, prog_14_method_54_code, 6, some .boolean)]
def gm_n14 : List (MethodName × ByteArray × Nat × Option FieldType) := [(⟨"GravyRoundModel", "foesOf", "(I)I"⟩, prog_14_method_55_code, 4, some .int),
  (⟨"GravyRoundModel", "waitOf", "(I)I"⟩, prog_14_method_56_code, 3, some .int),
  (⟨"GravyRoundModel", "serve", "(Z)I"⟩, prog_14_method_62_code, 4, some .int),
  (⟨"GravyRoundModel", "goMinute", "(Z)I"⟩, prog_14_method_63_code, 3, some .int),
  (⟨"GravyRoundModel", "swapAll", "()V"⟩, prog_14_method_76_code, 3, none),
  (⟨"GravyRoundModel", "swapSeats", "(II)V"⟩, prog_14_method_78_code, 4, none),
  (⟨"GravyRoundModel", "manyBehind", "()I"⟩, prog_14_method_93_code, 1, some .int),
  (⟨"GravyRoundModel", "layFirst", "()V"⟩, prog_14_method_94_code, 3, none),
  (⟨"GravyRoundModel", "hasNext", "(I)Z"⟩, prog_14_method_95_code, 5, some .boolean),
  (⟨"GravyRoundModel", "swapOrder", "(II)V"⟩, prog_14_method_96_code, 4, none),
  (⟨"GravyRoundModel", "sitInOrder", "(I)V"⟩, prog_14_method_97_code, 3, none),
  (⟨"GravyRoundModel", "uneasy", "()I"⟩, prog_14_method_98_code, 3, some .int),
  (⟨"GravyRoundModel", "warmthOfLast", "()I"⟩, prog_14_method_99_code, 3, some .int),
  (⟨"GravyRoundModel", "worthOf", "(I)I"⟩, prog_14_method_100_code, 2, some .int),
  (⟨"GravyRoundModel", "bestOf", "(I)I"⟩, prog_14_method_101_code, 7, some .int),
  (⟨"GravyRoundModel", "layBest", "()V"⟩, prog_14_method_102_code, 2, none)]
def gm_n15 : List (MethodName × ByteArray × Nat × Option FieldType) := [(⟨"GravyRoundModel", "isEasy", "(I)Z"⟩, prog_14_method_113_code, 3, some .boolean),
  (⟨"GravyRoundModel", "friendsOf", "(I)I"⟩, prog_14_method_114_code, 4, some .int),
  (⟨"GravyRoundModel", "clanOf", "(I)I"⟩, prog_14_method_115_code, 4, some .int),
  (⟨"GravyRoundModel", "thinkTakes", "()V"⟩, prog_14_method_118_code, 2, none),
  (⟨"GravyRoundModel", "gotByLast", "()I"⟩, prog_14_method_119_code, 3, some .int),
  (⟨"GravyRoundModel", "layGreed", "(II)V"⟩, prog_14_method_121_code, 5, none),
  (⟨"GravyRoundModel", "layStands", "()V"⟩, prog_14_method_127_code, 4, none),
  (⟨"GravyRoundModel", "doesFit", "(II)Z"⟩, prog_14_method_128_code, 5, some .boolean),
  (⟨"GravyRoundModel", "mostBy", "(II)I"⟩, prog_14_method_131_code, 6, some .int),
  (⟨"GravyRound$Company", "allSpeakWithout", "(I)Z"⟩, prog_3_method_4_code, 3, some .boolean),
  (⟨"GravyRound$Company", "speaksAtHisTable", "(I)Z"⟩, prog_3_method_7_code, 3, some .boolean),
  (⟨"GravyRound$Company", "clanOf", "(I)I"⟩, prog_3_method_8_code, 6, some .int),
  (⟨"GravyRound$Dinner", "addGuest", "(JII)V"⟩, prog_4_method_4_code, 5, none),
  (⟨"GravyRound$Dinner", "addFeud", "(II)V"⟩, prog_4_method_5_code, 3, none),
  (⟨"GravyRound$Dinner", "guestNamed", "(J)I"⟩, prog_4_method_6_code, 4, some .int),
  (⟨"GravyRound$Dinner", "foesOf", "(II)I"⟩, prog_4_method_7_code, 5, some .int)]
def gm_n16 : List (MethodName × ByteArray × Nat × Option FieldType) := [(⟨"GravyRound$Formula", "add", "(I)V"⟩, prog_5_method_4_code, 2, none),
  (⟨"GravyRound$Formula", "worth", "(IIIII)I"⟩, prog_5_method_5_code, 9, some .int),
  (⟨"GravyRound$Formula", "joined", "(III)I"⟩, prog_5_method_6_code, 3, some .int),
  (⟨"GravyRound$Formula", "truth", "(Z)I"⟩, prog_5_method_7_code, 1, some .int),
  (⟨"GravyRound$Orders", "findCheapest", "(LGravyRound$Table;I)I"⟩, prog_6_method_2_code, 3, some .int),
  (⟨"GravyRound$Orders", "findWarmest", "(LGravyRound$Table;)I"⟩, prog_6_method_3_code, 3, some .int),
  (⟨"GravyRound$Orders", "look", "(LGravyRound$Table;)V"⟩, prog_6_method_4_code, 3, none),
  (⟨"GravyRound$Orders", "layCheap", "(LGravyRound$Orders;IIII)V"⟩, prog_6_method_5_code, 7, none),
  (⟨"GravyRound$Orders", "layWarm", "(LGravyRound$Orders;IIII)V"⟩, prog_6_method_6_code, 7, none),
  (⟨"GravyRound$Orders", "isFoe", "(II)Z"⟩, prog_6_method_7_code, 3, some .boolean),
  (⟨"GravyRound$Orders", "keepOrder", "()V"⟩, prog_6_method_8_code, 1, none),
  (⟨"GravyRound$Orders", "cooledFor", "(IIIII)I"⟩, prog_6_method_9_code, 8, some .int),
  (⟨"GravyRound$Orders", "leftBehind", "(II)I"⟩, prog_6_method_10_code, 3, some .int),
  (⟨"GravyRound$Reader", "readLine", "()Z"⟩, prog_7_method_3_code, 1, some .boolean),
  (⟨"GravyRound$Reader", "readGuest", "()Z"⟩, prog_7_method_4_code, 4, some .boolean),
  (⟨"GravyRound$Reader", "readFeud", "()Z"⟩, prog_7_method_5_code, 3, some .boolean)]
def gm_n17 : List (MethodName × ByteArray × Nat × Option FieldType) := [(⟨"GravyRound$Reader", "readSetting", "(I)Z"⟩, prog_7_method_6_code, 3, some .boolean),
  (⟨"GravyRound$Reader", "set", "(II)V"⟩, prog_7_method_7_code, 3, none),
  (⟨"GravyRound$Reader", "readCools", "()Z"⟩, prog_7_method_8_code, 1, some .boolean),
  (⟨"GravyRound$Reader", "readEither", "(I)Z"⟩, prog_7_method_9_code, 3, some .boolean),
  (⟨"GravyRound$Reader", "readBoth", "(I)Z"⟩, prog_7_method_10_code, 3, some .boolean),
  (⟨"GravyRound$Reader", "readOne", "(I)Z"⟩, prog_7_method_11_code, 3, some .boolean),
  (⟨"GravyRound$Reader", "readSum", "(I)Z"⟩, prog_7_method_12_code, 4, some .boolean),
  (⟨"GravyRound$Reader", "readTerm", "(I)Z"⟩, prog_7_method_13_code, 4, some .boolean),
  (⟨"GravyRound$Reader", "readUnit", "(I)Z"⟩, prog_7_method_14_code, 3, some .boolean),
  (⟨"GravyRound$Reader", "readInBrackets", "(I)Z"⟩, prog_7_method_15_code, 2, some .boolean),
  (⟨"GravyRound$Reader", "relationOf", "(I)I"⟩, prog_7_method_16_code, 1, some .int),
  (⟨"GravyRound$Reader", "productOf", "(I)I"⟩, prog_7_method_17_code, 1, some .int),
  (⟨"GravyRound$Reader", "knownOf", "(I)I"⟩, prog_7_method_18_code, 1, some .int),
  (⟨"GravyRound$Reader", "isFirstOfSort", "(I)Z"⟩, prog_7_method_19_code, 3, some .boolean),
  (⟨"GravyRound$Reader", "isToldGuest", "()Z"⟩, prog_7_method_20_code, 1, some .boolean),
  (⟨"GravyRound$Reader", "isNumber", "(II)Z"⟩, prog_7_method_21_code, 3, some .boolean)]
def gm_n18 : List (MethodName × ByteArray × Nat × Option FieldType) := [(⟨"GravyRound$Reader", "pass", "(I)Z"⟩, prog_7_method_22_code, 2, some .boolean),
  (⟨"GravyRound$Reader", "refuse", "(I)Z"⟩, prog_7_method_23_code, 2, some .boolean),
  (⟨"GravyRound$Row", "put", "(I)V"⟩, prog_8_method_3_code, 2, none),
  (⟨"GravyRound$Shares", "countRests", "(LGravyRound$Table;II)I"⟩, prog_9_method_4_code, 7, some .int),
  (⟨"GravyRound$Shares", "reckonGains", "(LGravyRound$Table;II)V"⟩, prog_9_method_5_code, 7, none),
  (⟨"GravyRound$Shares", "isRest", "(II)Z"⟩, prog_9_method_6_code, 5, some .boolean),
  (⟨"GravyRound$Sights", "tell", "(IIZ)I"⟩, prog_10_method_3_code, 4, some .int),
  (⟨"GravyRound$Sights", "isFitting", "(II)Z"⟩, prog_10_method_7_code, 5, some .boolean),
  (⟨"GravyRound$Sights", "seatAt", "(II)I"⟩, prog_10_method_8_code, 5, some .int),
  (⟨"GravyRound$Sights", "nextToAsk", "(I)I"⟩, prog_10_method_9_code, 6, some .int),
  (⟨"GravyRound$Sights", "leftAtMost", "(II)I"⟩, prog_10_method_10_code, 6, some .int),
  (⟨"GravyRound$Table", "seatOf", "(I)I"⟩, prog_11_method_5_code, 3, some .int),
  (⟨"GravyRound$Table", "isServed", "(I)Z"⟩, prog_11_method_6_code, 2, some .boolean),
  (⟨"GravyRound$Table", "isEnded", "(I)Z"⟩, prog_11_method_7_code, 2, some .boolean),
  (⟨"GravyRound$Table", "foesOf", "(I)I"⟩, prog_11_method_8_code, 2, some .int),
  (⟨"GravyRound$Table", "slownessBehind", "()I"⟩, prog_11_method_11_code, 3, some .int)]
def gm_n19 : List (MethodName × ByteArray × Nat × Option FieldType) := [(⟨"GravyRound$Table", "swap", "(II)V"⟩, prog_11_method_13_code, 4, none),
  (⟨"GravyRound$Table", "pass", "(Z)I"⟩, prog_11_method_14_code, 2, some .int),
  (⟨"GravyRound$Table", "serve", "(Z)I"⟩, prog_11_method_16_code, 3, some .int),
  (⟨"GravyRound$Tokens", "readWord", "()V"⟩, prog_12_method_6_code, 1, none),
  (⟨"GravyRound$Tokens", "wordKind", "()I"⟩, prog_12_method_7_code, 2, some .int),
  (⟨"GravyRound$Tokens", "readNumber", "()V"⟩, prog_12_method_8_code, 2, none),
  (⟨"GravyRound$Tokens", "isLetter", "(I)Z"⟩, prog_12_method_9_code, 1, some .boolean),
  (⟨"GravyRound$Tokens", "isDigit", "(I)Z"⟩, prog_12_method_10_code, 1, some .boolean),
  (⟨"java/lang/Math", "abs", "(I)I"⟩, prog_17_method_59_code, 1, some .int)]
def gm_n : List (List (MethodName × ByteArray × Nat × Option FieldType)) := [gm_n0, gm_n1, gm_n2, gm_n3, gm_n4, gm_n5, gm_n6, gm_n7, gm_n8, gm_n9, gm_n10, gm_n11, gm_n12, gm_n13, gm_n14, gm_n15, gm_n16, gm_n17, gm_n18, gm_n19]
noncomputable def gm_i (k : Nat) : MethodName × ByteArray × Nat × Option FieldType := ga_nth (⟨"", "", ""⟩, .mk #[], 0, none) (ga_nth [] gm_n (k / 16)) (k % 16)
def gm_wl : List (List Nat) := [[745, 744, 0, 138], [1866, 1865, 0, 140], [1425, 1424, 54, 140], [978, 976, 977, 131], [742, 741, 0, 138], [1216, 1214, 1215, 131], [986, 984, 985, 123], [1848, 1847, 90, 140], [1440, 1439, 0, 140], [1421, 1420, 0, 140], [335, 334, 0, 126], [1402, 1401, 49, 140], [388, 387, 0, 131], [2073, 2072, 0, 140], [2125, 2123, 2124, 140], [1437, 1436, 57, 140], [2070, 2068, 2069, 140], [1418, 1417, 53, 140], [944, 943, 26, 122], [2076, 2075, 0, 140], [650, 648, 649, 131], [1801, 1800, 86, 140], [2008, 2006, 2007, 140], [662, 660, 661, 133], [2080, 2078, 2079, 140], [1922, 1921, 99, 140], [2117, 2115, 2116, 140], [1155, 1154, 0, 142], [1809, 1808, 87, 140], [1918, 1917, 98, 140], [1414, 1413, 52, 140], [2011, 2010, 0, 140], [2014, 2013, 0, 140], [722, 721, 4, 122], [643, 642, 3, 132], [646, 645, 0, 138], [1824, 1822, 1823, 140], [966, 965, 27, 122], [1934, 1932, 1933, 140], [2018, 2016, 2017, 140], [1886, 1885, 96, 140], [1777, 1775, 1776, 140], [188, 186, 187, 123], [192, 190, 191, 124], [2121, 2119, 2120, 140], [1336, 1334, 1335, 137], [2092, 2090, 2091, 140], [2088, 2086, 2087, 140], [1307, 1305, 1306, 122], [1828, 1826, 1827, 140], [1166, 1164, 1165, 136], [2062, 2060, 2061, 140], [1816, 1815, 0, 140], [1914, 1912, 1913, 140], [1898, 1896, 1897, 140], [1894, 1892, 1893, 140], [1874, 1872, 1873, 140], [2133, 2131, 2132, 140], [155, 154, 0, 123], [161, 160, 0, 124], [615, 614, 1, 122], [619, 617, 618, 131], [623, 622, 2, 131], [627, 625, 626, 131], [639, 637, 638, 132], [657, 655, 656, 137], [1390, 1389, 46, 140], [1394, 1393, 47, 140], [1398, 1397, 48, 140], [2084, 2082, 2083, 140], [1946, 1944, 1945, 140], [1278, 1277, 43, 122], [1199, 1197, 1198, 135], [1204, 1202, 1203, 135], [1930, 1929, 100, 140], [1832, 1830, 1831, 140], [2034, 2032, 2033, 140], [1015, 1014, 29, 122], [2003, 2001, 2002, 140], [1023, 1021, 1022, 131], [1926, 1924, 1925, 140], [1007, 1005, 1006, 132], [1840, 1839, 88, 140], [1890, 1888, 1889, 140], [1882, 1880, 1881, 140], [1797, 1795, 1796, 140], [1793, 1791, 1792, 140], [1781, 1779, 1780, 140], [1681, 1680, 60, 140], [147, 146, 0, 122], [272, 271, 0, 125], [278, 277, 0, 126], [283, 282, 0, 126], [450, 449, 0, 132], [474, 473, 0, 133], [489, 488, 0, 134], [531, 530, 0, 135], [559, 558, 0, 136], [576, 575, 0, 137], [1385, 1384, 0, 140], [1380, 1378, 1379, 122], [1376, 1374, 1375, 122], [1372, 1370, 1371, 122], [1358, 1356, 1357, 122], [2109, 2107, 2108, 140], [1348, 1346, 1347, 122], [2104, 2102, 2103, 140], [1332, 1330, 1331, 122], [1323, 1321, 1322, 122], [1327, 1325, 1326, 137], [1315, 1313, 1314, 122], [1319, 1317, 1318, 137], [1303, 1301, 1302, 122], [1295, 1293, 1294, 122], [1298, 1297, 0, 122], [1291, 1289, 1290, 122], [1286, 1284, 1285, 122], [1282, 1280, 1281, 122], [1942, 1940, 1941, 140], [1274, 1272, 1273, 122], [1938, 1936, 1937, 140], [1270, 1268, 1269, 122], [1820, 1818, 1819, 140], [1266, 1264, 1265, 122], [1813, 1811, 1812, 140], [1262, 1260, 1261, 122], [1253, 1251, 1252, 122], [1257, 1255, 1256, 136], [2046, 2044, 2045, 140], [1245, 1243, 1244, 122], [1223, 1221, 1222, 122], [1227, 1226, 40, 122], [1212, 1210, 1211, 122], [1208, 1206, 1207, 122], [1195, 1193, 1194, 122], [2050, 2048, 2049, 140], [1180, 1178, 1179, 122], [1184, 1182, 1183, 136], [1187, 1186, 0, 136], [2022, 2020, 2021, 140], [2026, 2025, 111, 140], [1162, 1160, 1161, 122], [1171, 1169, 1170, 136], [1145, 1143, 1144, 122], [1141, 1139, 1140, 122], [1999, 1997, 1998, 140], [1120, 1118, 1119, 122], [1995, 1993, 1994, 140], [1081, 1079, 1080, 122], [1950, 1948, 1949, 140], [1076, 1074, 1075, 122], [1068, 1066, 1067, 122], [1072, 1070, 1071, 131], [1064, 1062, 1063, 122], [1805, 1803, 1804, 140], [1056, 1054, 1055, 122], [1060, 1058, 1059, 132], [1910, 1908, 1909, 140], [1048, 1046, 1047, 122], [1052, 1050, 1051, 132], [1902, 1900, 1901, 140], [1044, 1042, 1043, 122], [1039, 1037, 1038, 122], [1035, 1033, 1034, 122], [1027, 1025, 1026, 122], [1011, 1009, 1010, 122], [974, 972, 973, 122], [1836, 1834, 1835, 140], [962, 960, 961, 122], [958, 956, 957, 122], [940, 938, 939, 122], [936, 934, 935, 122], [730, 728, 729, 122], [734, 732, 733, 125], [739, 737, 738, 126], [749, 747, 748, 126], [926, 924, 925, 123], [931, 929, 930, 124], [1640, 1638, 1639, 140], [1644, 1643, 58, 140], [1648, 1647, 59, 140], [726, 724, 725, 122], [718, 716, 717, 122], [2129, 2127, 2128, 140], [1031, 1030, 30, 122], [1149, 1148, 37, 122], [1108, 1107, 34, 122], [1351, 1350, 0, 122], [1354, 1353, 0, 122], [1651, 1650, 0, 140], [1674, 1673, 0, 140], [1705, 1704, 66, 140], [1654, 1653, 0, 140], [1677, 1676, 0, 140], [1753, 1752, 78, 140], [1693, 1692, 63, 140], [1701, 1700, 65, 140], [1717, 1716, 69, 140], [1725, 1724, 71, 140], [1721, 1720, 70, 140], [1697, 1696, 64, 140], [1689, 1688, 62, 140], [1685, 1684, 61, 140], [1713, 1712, 68, 140], [1709, 1708, 67, 140], [1733, 1732, 73, 140], [1729, 1728, 72, 140], [1737, 1736, 74, 140], [1761, 1760, 80, 140], [1745, 1744, 76, 140], [1741, 1740, 75, 140], [1757, 1756, 79, 140], [1749, 1748, 77, 140], [1769, 1768, 82, 140], [1773, 1772, 83, 140], [1765, 1764, 81, 140], [1863, 1862, 0, 140], [1856, 1855, 92, 140], [1852, 1851, 91, 140], [1860, 1859, 93, 140], [1429, 1428, 55, 140], [1410, 1409, 51, 140], [1785, 1784, 84, 140], [1433, 1432, 56, 140], [1789, 1788, 85, 140], [1406, 1405, 50, 140], [1870, 1869, 94, 140], [1844, 1843, 89, 140], [1906, 1905, 97, 140], [1878, 1877, 95, 140], [1958, 1957, 102, 140], [1963, 1962, 103, 140], [1983, 1982, 108, 140], [1987, 1986, 109, 140], [1967, 1966, 104, 140], [1979, 1978, 107, 140], [1975, 1974, 106, 140], [1971, 1970, 105, 140], [1954, 1953, 101, 140], [1991, 1990, 110, 140], [2030, 2029, 112, 140], [2042, 2041, 114, 140], [2038, 2037, 113, 140], [2054, 2053, 115, 140], [2058, 2057, 116, 140], [2066, 2065, 117, 140], [2096, 2095, 118, 140], [2100, 2099, 119, 140], [2113, 2112, 120, 140], [1176, 1175, 38, 136], [1191, 1190, 39, 136], [1249, 1247, 1248, 136], [852, 850, 851, 123], [865, 863, 864, 123], [840, 838, 839, 123], [635, 633, 634, 123], [889, 887, 888, 124], [990, 988, 989, 124], [996, 995, 0, 124], [993, 992, 0, 124], [1085, 1083, 1084, 134], [1124, 1122, 1123, 134], [1089, 1088, 31, 134], [1095, 1094, 0, 134], [1137, 1136, 0, 134], [1104, 1103, 33, 134], [1099, 1098, 32, 134], [1128, 1127, 35, 134], [1133, 1132, 36, 134], [827, 826, 8, 125], [831, 830, 9, 125], [856, 855, 13, 125], [918, 917, 24, 125], [922, 921, 25, 125], [869, 868, 15, 125], [877, 876, 17, 125], [881, 880, 18, 125], [885, 884, 19, 125], [893, 892, 20, 125], [897, 896, 21, 125], [901, 900, 22, 125], [905, 904, 23, 125], [914, 913, 0, 125], [911, 910, 0, 125], [908, 907, 0, 125], [873, 872, 16, 125], [860, 859, 14, 125], [848, 847, 12, 125], [844, 843, 11, 125], [835, 834, 10, 125], [1112, 1110, 1111, 133], [1231, 1229, 1230, 135], [1235, 1234, 41, 135], [1241, 1240, 42, 135], [1311, 1309, 1310, 137], [1340, 1339, 44, 137], [1344, 1343, 45, 137], [1362, 1360, 1361, 137], [1366, 1364, 1365, 137], [948, 946, 947, 131], [952, 950, 951, 131], [970, 968, 969, 131], [631, 629, 630, 131], [1116, 1114, 1115, 131], [1019, 1017, 1018, 131], [982, 980, 981, 131], [1002, 1001, 28, 131], [756, 755, 5, 126], [760, 759, 6, 126], [767, 766, 7, 126], [752, 751, 0, 126], [763, 762, 0, 126], [1152, 1151, 0, 138]]
noncomputable def gm_wd (k : Nat) : List Nat := ga_nth [] gm_wl k
end
section
def gn_T0 : u_T := fun k => match k with
  | 0 => ("GravyRound", "tape", "[B", true)
  | 1 => ("GravyRound", "tapeLength", "I", false)
  | 2 => ("GravyRound", "faultKind", "I", false)
  | 3 => ("GravyRound", "faultPlace", "I", false)
  | 4 => ("GravyRound", "told", "LGravyRound$Dinner;", true)
  | 5 => ("GravyRound", "draft", "LGravyRound$Dinner;", true)
  | 6 => ("GravyRound", "reader", "LGravyRound$Reader;", true)
  | 7 => ("GravyRound", "live", "LGravyRound$Table;", true)
  | 8 => ("GravyRound", "trial", "LGravyRound$Table;", true)
  | 9 => ("GravyRound", "acts", "LGravyRound$Acts;", true)
  | 10 => ("GravyRound", "boxes", "[LGravyRound$Table;", true)
  | 11 => ("GravyRound", "filledBoxes", "I", false)
  | 12 => ("GravyRound", "lying", "LGravyRound$Row;", true)
  | 13 => ("GravyRound", "orders", "LGravyRound$Orders;", true)
  | 14 => ("GravyRound", "shares", "LGravyRound$Shares;", true)
  | 15 => ("GravyRound", "company", "LGravyRound$Company;", true)
  | _ => ("GravyRound", "sights", "LGravyRound$Sights;", true)
def gn_ty0 : Nat → FieldType := fun k => match k with
  | 0 => .array .byte
  | 1 => .int
  | 2 => .int
  | 3 => .int
  | 4 => .object "GravyRound$Dinner"
  | 5 => .object "GravyRound$Dinner"
  | 6 => .object "GravyRound$Reader"
  | 7 => .object "GravyRound$Table"
  | 8 => .object "GravyRound$Table"
  | 9 => .object "GravyRound$Acts"
  | 10 => .array (.object "GravyRound$Table")
  | 11 => .int
  | 12 => .object "GravyRound$Row"
  | 13 => .object "GravyRound$Orders"
  | 14 => .object "GravyRound$Shares"
  | 15 => .object "GravyRound$Company"
  | _ => .object "GravyRound$Sights"
def gn_T1 : u_T := fun k => match k with
  | 0 => ("GravyRoundModel", "tape", "[B", true)
  | 1 => ("GravyRoundModel", "text", "[B", true)
  | 2 => ("GravyRoundModel", "taped", "I", false)
  | 3 => ("GravyRoundModel", "size", "I", false)
  | 4 => ("GravyRoundModel", "faultKind", "I", false)
  | 5 => ("GravyRoundModel", "faultPlace", "I", false)
  | 6 => ("GravyRoundModel", "at", "I", false)
  | 7 => ("GravyRoundModel", "end", "I", false)
  | 8 => ("GravyRoundModel", "token", "I", false)
  | 9 => ("GravyRoundModel", "number", "I", false)
  | 10 => ("GravyRoundModel", "name", "J", false)
  | 11 => ("GravyRoundModel", "guests", "[I", true)
  | 12 => ("GravyRoundModel", "feuds", "[I", true)
  | 13 => ("GravyRoundModel", "units", "[I", true)
  | 14 => ("GravyRoundModel", "boat", "[I", true)
  | 15 => ("GravyRoundModel", "heat", "[I", true)
  | 16 => ("GravyRoundModel", "across", "[I", true)
  | 17 => ("GravyRoundModel", "leans", "[I", true)
  | 18 => ("GravyRoundModel", "draw", "[I", true)
  | 19 => ("GravyRoundModel", "told", "[I", true)
  | 20 => ("GravyRoundModel", "takes", "[I", true)
  | 21 => ("GravyRoundModel", "slow", "[I", true)
  | 22 => ("GravyRoundModel", "one", "[I", true)
  | 23 => ("GravyRoundModel", "other", "[I", true)
  | 24 => ("GravyRoundModel", "ruleFrom", "[I", true)
  | 25 => ("GravyRoundModel", "ruleTo", "[I", true)
  | 26 => ("GravyRoundModel", "gName", "[J", true)
  | 27 => ("GravyRoundModel", "code", "[I", true)
  | 28 => ("GravyRoundModel", "codeNumber", "[I", true)
  | 29 => ("GravyRoundModel", "eWhat", "[I", true)
  | 30 => ("GravyRoundModel", "eSign", "[I", true)
  | 31 => ("GravyRoundModel", "pile", "[I", true)
  | 32 => ("GravyRoundModel", "bank", "I", false)
  | 33 => ("GravyRoundModel", "rb", "I", false)
  | 34 => ("GravyRoundModel", "codes", "I", false)
  | 35 => ("GravyRoundModel", "within", "I", false)
  | 36 => ("GravyRoundModel", "piled", "I", false)
  | 37 => ("GravyRoundModel", "unitsInRule", "I", false)
  | 38 => ("GravyRoundModel", "all", "[I", true)
  | 39 => ("GravyRoundModel", "kept", "[I", true)
  | 40 => ("GravyRoundModel", "servedAt", "[I", true)
  | 41 => ("GravyRoundModel", "thoughtTakes", "[I", true)
  | 42 => ("GravyRoundModel", "thoughtSlow", "I", false)
  | 43 => ("GravyRoundModel", "thoughtFirst", "I", false)
  | 44 => ("GravyRoundModel", "isThought", "Z", false)
  | 45 => ("GravyRoundModel", "was", "[I", true)
  | 46 => ("GravyRoundModel", "acts", "I", false)
  | 47 => ("GravyRoundModel", "undone", "I", false)
  | 48 => ("GravyRoundModel", "laidRow", "[I", true)
  | 49 => ("GravyRoundModel", "inOrder", "[I", true)
  | 50 => ("GravyRoundModel", "bestOrder", "[I", true)
  | 51 => ("GravyRoundModel", "laid", "I", false)
  | 52 => ("GravyRoundModel", "gainOne", "[I", true)
  | 53 => ("GravyRoundModel", "gainOther", "[I", true)
  | 54 => ("GravyRoundModel", "standsIf", "[I", true)
  | 55 => ("GravyRoundModel", "sMinutes", "[I", true)
  | 56 => ("GravyRoundModel", "sSeat", "[I", true)
  | 57 => ("GravyRoundModel", "sIs", "[I", true)
  | 58 => ("GravyRoundModel", "sTold", "[I", true)
  | 59 => ("GravyRoundModel", "sUntold", "[I", true)
  | 60 => ("GravyRoundModel", "parts", "[I", true)
  | 61 => ("GravyRoundModel", "seens", "I", false)
  | 62 => ("GravyRoundModel", "time", "I", false)
  | 63 => ("GravyRoundModel", "boxAll", "[I", true)
  | _ => ("GravyRoundModel", "isBoxed", "[Z", true)
def gn_ty1 : Nat → FieldType := fun k => match k with
  | 0 => .array .byte
  | 1 => .array .byte
  | 2 => .int
  | 3 => .int
  | 4 => .int
  | 5 => .int
  | 6 => .int
  | 7 => .int
  | 8 => .int
  | 9 => .int
  | 10 => .long
  | 11 => .array .int
  | 12 => .array .int
  | 13 => .array .int
  | 14 => .array .int
  | 15 => .array .int
  | 16 => .array .int
  | 17 => .array .int
  | 18 => .array .int
  | 19 => .array .int
  | 20 => .array .int
  | 21 => .array .int
  | 22 => .array .int
  | 23 => .array .int
  | 24 => .array .int
  | 25 => .array .int
  | 26 => .array .long
  | 27 => .array .int
  | 28 => .array .int
  | 29 => .array .int
  | 30 => .array .int
  | 31 => .array .int
  | 32 => .int
  | 33 => .int
  | 34 => .int
  | 35 => .int
  | 36 => .int
  | 37 => .int
  | 38 => .array .int
  | 39 => .array .int
  | 40 => .array .int
  | 41 => .array .int
  | 42 => .int
  | 43 => .int
  | 44 => .boolean
  | 45 => .array .int
  | 46 => .int
  | 47 => .int
  | 48 => .array .int
  | 49 => .array .int
  | 50 => .array .int
  | 51 => .int
  | 52 => .array .int
  | 53 => .array .int
  | 54 => .array .int
  | 55 => .array .int
  | 56 => .array .int
  | 57 => .array .int
  | 58 => .array .int
  | 59 => .array .int
  | 60 => .array .int
  | 61 => .int
  | 62 => .int
  | 63 => .array .int
  | _ => .array .boolean
def gn_T2 : u_T := fun k => match k with
  | 0 => ("GravyRound$Acts", "tables", "[LGravyRound$Table;", true)
  | 1 => ("GravyRound$Acts", "first", "I", false)
  | 2 => ("GravyRound$Acts", "done", "I", false)
  | _ => ("GravyRound$Acts", "kept", "I", false)
def gn_ty2 : Nat → FieldType := fun k => match k with
  | 0 => .array (.object "GravyRound$Table")
  | 1 => .int
  | 2 => .int
  | _ => .int
def gn_T3 : u_T := fun k => match k with
  | 0 => ("GravyRound$Company", "foes", "[I", true)
  | 1 => ("GravyRound$Company", "guests", "I", false)
  | _ => ("GravyRound$Company", "table", "[I", true)
def gn_ty3 : Nat → FieldType := fun k => match k with
  | 0 => .array .int
  | 1 => .int
  | _ => .array .int
def gn_T4 : u_T := fun k => match k with
  | 0 => ("GravyRound$Dinner", "guests", "I", false)
  | 1 => ("GravyRound$Dinner", "names", "[J", true)
  | 2 => ("GravyRound$Dinner", "takes", "[I", true)
  | 3 => ("GravyRound$Dinner", "slow", "[I", true)
  | 4 => ("GravyRound$Dinner", "feuds", "I", false)
  | 5 => ("GravyRound$Dinner", "feudFirst", "[I", true)
  | 6 => ("GravyRound$Dinner", "feudOther", "[I", true)
  | 7 => ("GravyRound$Dinner", "boat", "I", false)
  | 8 => ("GravyRound$Dinner", "heat", "I", false)
  | 9 => ("GravyRound$Dinner", "across", "I", false)
  | 10 => ("GravyRound$Dinner", "leans", "I", false)
  | 11 => ("GravyRound$Dinner", "draw", "I", false)
  | _ => ("GravyRound$Dinner", "cools", "LGravyRound$Formula;", true)
def gn_ty4 : Nat → FieldType := fun k => match k with
  | 0 => .int
  | 1 => .array .long
  | 2 => .array .int
  | 3 => .array .int
  | 4 => .int
  | 5 => .array .int
  | 6 => .array .int
  | 7 => .int
  | 8 => .int
  | 9 => .int
  | 10 => .int
  | 11 => .int
  | _ => .object "GravyRound$Formula"
def gn_T5 : u_T := fun k => match k with
  | 0 => ("GravyRound$Formula", "steps", "[I", true)
  | 1 => ("GravyRound$Formula", "length", "I", false)
  | 2 => ("GravyRound$Formula", "units", "I", false)
  | 3 => ("GravyRound$Formula", "known", "[I", true)
  | _ => ("GravyRound$Formula", "stack", "[I", true)
def gn_ty5 : Nat → FieldType := fun k => match k with
  | 0 => .array .int
  | 1 => .int
  | 2 => .int
  | 3 => .array .int
  | _ => .array .int
def gn_T6 : u_T := fun k => match k with
  | 0 => ("GravyRound$Orders", "told", "LGravyRound$Dinner;", true)
  | 1 => ("GravyRound$Orders", "foes", "[I", true)
  | 2 => ("GravyRound$Orders", "order", "[I", true)
  | 3 => ("GravyRound$Orders", "heats", "[I", true)
  | 4 => ("GravyRound$Orders", "boats", "[I", true)
  | 5 => ("GravyRound$Orders", "firstSeat", "I", false)
  | 6 => ("GravyRound$Orders", "free", "I", false)
  | 7 => ("GravyRound$Orders", "price", "I", false)
  | 8 => ("GravyRound$Orders", "bestYet", "I", false)
  | 9 => ("GravyRound$Orders", "found", "[I", true)
  | _ => ("GravyRound$Orders", "size", "I", false)
def gn_ty6 : Nat → FieldType := fun k => match k with
  | 0 => .object "GravyRound$Dinner"
  | 1 => .array .int
  | 2 => .array .int
  | 3 => .array .int
  | 4 => .array .int
  | 5 => .int
  | 6 => .int
  | 7 => .int
  | 8 => .int
  | 9 => .array .int
  | _ => .int
def gn_T7 : u_T := fun k => match k with
  | 0 => ("GravyRound$Reader", "tokens", "LGravyRound$Tokens;", true)
  | 1 => ("GravyRound$Reader", "into", "LGravyRound$Dinner;", true)
  | 2 => ("GravyRound$Reader", "toldOnce", "I", false)
  | 3 => ("GravyRound$Reader", "faultKind", "I", false)
  | _ => ("GravyRound$Reader", "faultPlace", "I", false)
def gn_ty7 : Nat → FieldType := fun k => match k with
  | 0 => .object "GravyRound$Tokens"
  | 1 => .object "GravyRound$Dinner"
  | 2 => .int
  | 3 => .int
  | _ => .int
def gn_T8 : u_T := fun k => match k with
  | 0 => ("GravyRound$Row", "numbers", "[I", true)
  | _ => ("GravyRound$Row", "count", "I", false)
def gn_ty8 : Nat → FieldType := fun k => match k with
  | 0 => .array .int
  | _ => .int
def gn_T9 : u_T := fun k => match k with
  | 0 => ("GravyRound$Shares", "takes", "[I", true)
  | 1 => ("GravyRound$Shares", "gainFirst", "[I", true)
  | 2 => ("GravyRound$Shares", "gainOther", "[I", true)
  | 3 => ("GravyRound$Shares", "got", "[I", true)
  | 4 => ("GravyRound$Shares", "restFirst", "I", false)
  | _ => ("GravyRound$Shares", "restOther", "I", false)
def gn_ty9 : Nat → FieldType := fun k => match k with
  | 0 => .array .int
  | 1 => .array .int
  | 2 => .array .int
  | 3 => .array .int
  | 4 => .int
  | _ => .int
def gn_T10 : u_T := fun k => match k with
  | 0 => ("GravyRound$Sights", "told", "LGravyRound$Dinner;", true)
  | 1 => ("GravyRound$Sights", "minutes", "[I", true)
  | 2 => ("GravyRound$Sights", "seats", "[I", true)
  | 3 => ("GravyRound$Sights", "stood", "[Z", true)
  | 4 => ("GravyRound$Sights", "toldAt", "[I", true)
  | 5 => ("GravyRound$Sights", "untoldAt", "[I", true)
  | 6 => ("GravyRound$Sights", "waits", "[I", true)
  | 7 => ("GravyRound$Sights", "tally", "[I", true)
  | 8 => ("GravyRound$Sights", "count", "I", false)
  | _ => ("GravyRound$Sights", "time", "I", false)
def gn_ty10 : Nat → FieldType := fun k => match k with
  | 0 => .object "GravyRound$Dinner"
  | 1 => .array .int
  | 2 => .array .int
  | 3 => .array .boolean
  | 4 => .array .int
  | 5 => .array .int
  | 6 => .array .int
  | 7 => .array .int
  | 8 => .int
  | _ => .int
def gn_T11 : u_T := fun k => match k with
  | 0 => ("GravyRound$Table", "told", "LGravyRound$Dinner;", true)
  | 1 => ("GravyRound$Table", "who", "[I", true)
  | 2 => ("GravyRound$Table", "got", "[I", true)
  | 3 => ("GravyRound$Table", "warmth", "[I", true)
  | 4 => ("GravyRound$Table", "boat", "I", false)
  | 5 => ("GravyRound$Table", "heat", "I", false)
  | 6 => ("GravyRound$Table", "stand", "I", false)
  | 7 => ("GravyRound$Table", "waiting", "I", false)
  | 8 => ("GravyRound$Table", "ended", "I", false)
  | 9 => ("GravyRound$Table", "minute", "I", false)
  | _ => ("GravyRound$Table", "seed", "I", false)
def gn_ty11 : Nat → FieldType := fun k => match k with
  | 0 => .object "GravyRound$Dinner"
  | 1 => .array .int
  | 2 => .array .int
  | 3 => .array .int
  | 4 => .int
  | 5 => .int
  | 6 => .int
  | 7 => .int
  | 8 => .int
  | 9 => .int
  | _ => .int
def gn_T12 : u_T := fun k => match k with
  | 0 => ("GravyRound$Tokens", "text", "[B", true)
  | 1 => ("GravyRound$Tokens", "words", "[J", true)
  | 2 => ("GravyRound$Tokens", "length", "I", false)
  | 3 => ("GravyRound$Tokens", "next", "I", false)
  | 4 => ("GravyRound$Tokens", "kind", "I", false)
  | 5 => ("GravyRound$Tokens", "start", "I", false)
  | 6 => ("GravyRound$Tokens", "number", "I", false)
  | _ => ("GravyRound$Tokens", "name", "J", false)
def gn_ty12 : Nat → FieldType := fun k => match k with
  | 0 => .array .byte
  | 1 => .array .long
  | 2 => .int
  | 3 => .int
  | 4 => .int
  | 5 => .int
  | 6 => .int
  | _ => .long
/-- the classes whose objects the worlds hold -/
abbrev gm_cl : List vw_C := [("GravyRound", gn_T0, 17), ("GravyRoundModel", gn_T1, 65), ("GravyRound$Acts", gn_T2, 4), ("GravyRound$Company", gn_T3, 3), ("GravyRound$Dinner", gn_T4, 13), ("GravyRound$Formula", gn_T5, 5), ("GravyRound$Orders", gn_T6, 11), ("GravyRound$Reader", gn_T7, 5), ("GravyRound$Row", gn_T8, 2), ("GravyRound$Shares", gn_T9, 6), ("GravyRound$Sights", gn_T10, 10), ("GravyRound$Table", gn_T11, 11), ("GravyRound$Tokens", gn_T12, 8)]
/-- a field's first value -/
def ga_cv (v : Nat) : Value := if v = 0 then .int 0 else if v = 5 then .long 0 else .null
/-- what the tables say of a class -/
def gn_ok (ci : Nat) (q : vw_C) : Prop := (∀ w ∈ u_ws q.1 q.2.1 q.2.2, w ∈ gw_tbl) ∧ (∀ a, a < q.2.2 → ∀ b, b < q.2.2 → a ≠ b → (q.2.1 a).2.1 ≠ (q.2.1 b).2.1) ∧ (∃ ty : Nat → FieldType, (∀ k, k < q.2.2 → parseFieldDescriptor (q.2.1 k).2.2.1 = some (ty k)) ∧ ∀ j, j < q.2.2 → defaultValue (ty j) = vp_V ((gm_df ci).map ga_cv) j) ∧ Cond.instantiable q.1 q.2.2 ∈ gw_tbl ∧ Cond.initialized q.1 ∈ gw_tbl ∧ ci < 100 ∧ (gm_df ci).length = q.2.2 ∧ ∀ v ∈ gm_df ci, v = 0 ∨ v = 4 ∨ v = 5
theorem gw_of {l : List Cond} (ps : List Nat) (h : decide (l = ps.filterMap (fun i => lw_tbl[i]?)) = true) (hg : l.all goodWord = true) : ∀ w ∈ l, w ∈ gw_tbl := by
  intro w hw
  have h1 := of_decide_eq_true h
  have hm : w ∈ lw_tbl := by
    rw [h1] at hw
    obtain ⟨i, -, hi⟩ := List.mem_filterMap.mp hw
    exact List.mem_of_getElem? hi
  exact List.mem_filter.mpr ⟨hm, List.all_eq_true.mp hg w hw⟩
theorem gn_in0 : ∀ w ∈ u_ws "GravyRound" gn_T0 17, w ∈ gw_tbl := gw_of [680, 682, 684, 686, 688, 690, 692, 694, 696, 698, 700, 702, 704, 706, 708, 710, 712] (by decide +kernel) (by decide +kernel)
theorem gn_nm0 : ∀ a, a < 17 → ∀ b, b < 17 → a ≠ b → (gn_T0 a).2.1 ≠ (gn_T0 b).2.1 := by decide +kernel
theorem gn_tk0 : ∀ k, k < 17 → parseFieldDescriptor (gn_T0 k).2.2.1 = some (gn_ty0 k) := by decide +kernel
theorem gn_dv0 : ∀ j, j < 17 → defaultValue (gn_ty0 j) = vp_V ((gm_df 0).map ga_cv) j := by decide +kernel
theorem gn_ok0 : gn_ok 0 ("GravyRound", gn_T0, 17) := ⟨gn_in0, gn_nm0, ⟨gn_ty0, gn_tk0, gn_dv0⟩, gw_mem (i := 144) (by decide +kernel), gw_mem (i := 122) (by decide +kernel), by decide, by decide +kernel, by decide +kernel⟩
theorem gn_in1 : ∀ w ∈ u_ws "GravyRoundModel" gn_T1 65, w ∈ gw_tbl := gw_of [1506, 1508, 1510, 1512, 1514, 1516, 1518, 1520, 1522, 1524, 1526, 1528, 1530, 1532, 1534, 1536, 1538, 1540, 1542, 1544, 1546, 1548, 1550, 1552, 1554, 1556, 1558, 1560, 1562, 1564, 1566, 1568, 1570, 1572, 1574, 1576, 1578, 1580, 1582, 1584, 1586, 1588, 1590, 1592, 1594, 1596, 1598, 1600, 1602, 1604, 1606, 1608, 1610, 1612, 1614, 1616, 1618, 1620, 1622, 1624, 1626, 1628, 1630, 1632, 1634] (by decide +kernel) (by decide +kernel)
theorem gn_nm1 : ∀ a, a < 65 → ∀ b, b < 65 → a ≠ b → (gn_T1 a).2.1 ≠ (gn_T1 b).2.1 := by decide +kernel
theorem gn_tk1 : ∀ k, k < 65 → parseFieldDescriptor (gn_T1 k).2.2.1 = some (gn_ty1 k) := by decide +kernel
theorem gn_dv1 : ∀ j, j < 65 → defaultValue (gn_ty1 j) = vp_V ((gm_df 1).map ga_cv) j := by decide +kernel
theorem gn_ok1 : gn_ok 1 ("GravyRoundModel", gn_T1, 65) := ⟨gn_in1, gn_nm1, ⟨gn_ty1, gn_tk1, gn_dv1⟩, gw_mem (i := 1382) (by decide +kernel), gw_mem (i := 140) (by decide +kernel), by decide, by decide +kernel, by decide +kernel⟩
theorem gn_in2 : ∀ w ∈ u_ws "GravyRound$Acts" gn_T2 4, w ∈ gw_tbl := gw_of [461, 463, 465, 467] (by decide +kernel) (by decide +kernel)
theorem gn_nm2 : ∀ a, a < 4 → ∀ b, b < 4 → a ≠ b → (gn_T2 a).2.1 ≠ (gn_T2 b).2.1 := by decide +kernel
theorem gn_tk2 : ∀ k, k < 4 → parseFieldDescriptor (gn_T2 k).2.2.1 = some (gn_ty2 k) := by decide +kernel
theorem gn_dv2 : ∀ j, j < 4 → defaultValue (gn_ty2 j) = vp_V ((gm_df 2).map ga_cv) j := by decide +kernel
theorem gn_ok2 : gn_ok 2 ("GravyRound$Acts", gn_T2, 4) := ⟨gn_in2, gn_nm2, ⟨gn_ty2, gn_tk2, gn_dv2⟩, gw_mem (i := 447) (by decide +kernel), gw_mem (i := 132) (by decide +kernel), by decide, by decide +kernel, by decide +kernel⟩
theorem gn_in3 : ∀ w ∈ u_ws "GravyRound$Company" gn_T3 3, w ∈ gw_tbl := gw_of [565, 567, 569] (by decide +kernel) (by decide +kernel)
theorem gn_nm3 : ∀ a, a < 3 → ∀ b, b < 3 → a ≠ b → (gn_T3 a).2.1 ≠ (gn_T3 b).2.1 := by decide +kernel
theorem gn_tk3 : ∀ k, k < 3 → parseFieldDescriptor (gn_T3 k).2.2.1 = some (gn_ty3 k) := by decide +kernel
theorem gn_dv3 : ∀ j, j < 3 → defaultValue (gn_ty3 j) = vp_V ((gm_df 3).map ga_cv) j := by decide +kernel
theorem gn_ok3 : gn_ok 3 ("GravyRound$Company", gn_T3, 3) := ⟨gn_in3, gn_nm3, ⟨gn_ty3, gn_tk3, gn_dv3⟩, gw_mem (i := 556) (by decide +kernel), gw_mem (i := 136) (by decide +kernel), by decide, by decide +kernel, by decide +kernel⟩
theorem gn_in4 : ∀ w ∈ u_ws "GravyRound$Dinner" gn_T4 13, w ∈ gw_tbl := gw_of [241, 243, 245, 247, 249, 251, 253, 255, 257, 259, 261, 263, 265] (by decide +kernel) (by decide +kernel)
theorem gn_nm4 : ∀ a, a < 13 → ∀ b, b < 13 → a ≠ b → (gn_T4 a).2.1 ≠ (gn_T4 b).2.1 := by decide +kernel
theorem gn_tk4 : ∀ k, k < 13 → parseFieldDescriptor (gn_T4 k).2.2.1 = some (gn_ty4 k) := by decide +kernel
theorem gn_dv4 : ∀ j, j < 13 → defaultValue (gn_ty4 j) = vp_V ((gm_df 4).map ga_cv) j := by decide +kernel
theorem gn_ok4 : gn_ok 4 ("GravyRound$Dinner", gn_T4, 13) := ⟨gn_in4, gn_nm4, ⟨gn_ty4, gn_tk4, gn_dv4⟩, gw_mem (i := 152) (by decide +kernel), gw_mem (i := 123) (by decide +kernel), by decide, by decide +kernel, by decide +kernel⟩
theorem gn_in5 : ∀ w ∈ u_ws "GravyRound$Formula" gn_T5 5, w ∈ gw_tbl := gw_of [171, 173, 175, 177, 179] (by decide +kernel) (by decide +kernel)
theorem gn_nm5 : ∀ a, a < 5 → ∀ b, b < 5 → a ≠ b → (gn_T5 a).2.1 ≠ (gn_T5 b).2.1 := by decide +kernel
theorem gn_tk5 : ∀ k, k < 5 → parseFieldDescriptor (gn_T5 k).2.2.1 = some (gn_ty5 k) := by decide +kernel
theorem gn_dv5 : ∀ j, j < 5 → defaultValue (gn_ty5 j) = vp_V ((gm_df 5).map ga_cv) j := by decide +kernel
theorem gn_ok5 : gn_ok 5 ("GravyRound$Formula", gn_T5, 5) := ⟨gn_in5, gn_nm5, ⟨gn_ty5, gn_tk5, gn_dv5⟩, gw_mem (i := 158) (by decide +kernel), gw_mem (i := 124) (by decide +kernel), by decide, by decide +kernel, by decide +kernel⟩
theorem gn_in6 : ∀ w ∈ u_ws "GravyRound$Orders" gn_T6 11, w ∈ gw_tbl := gw_of [504, 506, 508, 510, 512, 514, 516, 518, 520, 522, 524] (by decide +kernel) (by decide +kernel)
theorem gn_nm6 : ∀ a, a < 11 → ∀ b, b < 11 → a ≠ b → (gn_T6 a).2.1 ≠ (gn_T6 b).2.1 := by decide +kernel
theorem gn_tk6 : ∀ k, k < 11 → parseFieldDescriptor (gn_T6 k).2.2.1 = some (gn_ty6 k) := by decide +kernel
theorem gn_dv6 : ∀ j, j < 11 → defaultValue (gn_ty6 j) = vp_V ((gm_df 6).map ga_cv) j := by decide +kernel
theorem gn_ok6 : gn_ok 6 ("GravyRound$Orders", gn_T6, 11) := ⟨gn_in6, gn_nm6, ⟨gn_ty6, gn_tk6, gn_dv6⟩, gw_mem (i := 486) (by decide +kernel), gw_mem (i := 134) (by decide +kernel), by decide, by decide +kernel, by decide +kernel⟩
theorem gn_in7 : ∀ w ∈ u_ws "GravyRound$Reader" gn_T7 5, w ∈ gw_tbl := gw_of [373, 375, 377, 379, 381] (by decide +kernel) (by decide +kernel)
theorem gn_nm7 : ∀ a, a < 5 → ∀ b, b < 5 → a ≠ b → (gn_T7 a).2.1 ≠ (gn_T7 b).2.1 := by decide +kernel
theorem gn_tk7 : ∀ k, k < 5 → parseFieldDescriptor (gn_T7 k).2.2.1 = some (gn_ty7 k) := by decide +kernel
theorem gn_dv7 : ∀ j, j < 5 → defaultValue (gn_ty7 j) = vp_V ((gm_df 7).map ga_cv) j := by decide +kernel
theorem gn_ok7 : gn_ok 7 ("GravyRound$Reader", gn_T7, 5) := ⟨gn_in7, gn_nm7, ⟨gn_ty7, gn_tk7, gn_dv7⟩, gw_mem (i := 269) (by decide +kernel), gw_mem (i := 125) (by decide +kernel), by decide, by decide +kernel, by decide +kernel⟩
theorem gn_in8 : ∀ w ∈ u_ws "GravyRound$Row" gn_T8 2, w ∈ gw_tbl := gw_of [480, 482] (by decide +kernel) (by decide +kernel)
theorem gn_nm8 : ∀ a, a < 2 → ∀ b, b < 2 → a ≠ b → (gn_T8 a).2.1 ≠ (gn_T8 b).2.1 := by decide +kernel
theorem gn_tk8 : ∀ k, k < 2 → parseFieldDescriptor (gn_T8 k).2.2.1 = some (gn_ty8 k) := by decide +kernel
theorem gn_dv8 : ∀ j, j < 2 → defaultValue (gn_ty8 j) = vp_V ((gm_df 8).map ga_cv) j := by decide +kernel
theorem gn_ok8 : gn_ok 8 ("GravyRound$Row", gn_T8, 2) := ⟨gn_in8, gn_nm8, ⟨gn_ty8, gn_tk8, gn_dv8⟩, gw_mem (i := 471) (by decide +kernel), gw_mem (i := 133) (by decide +kernel), by decide, by decide +kernel, by decide +kernel⟩
theorem gn_in9 : ∀ w ∈ u_ws "GravyRound$Shares" gn_T9 6, w ∈ gw_tbl := gw_of [542, 544, 546, 548, 550, 552] (by decide +kernel) (by decide +kernel)
theorem gn_nm9 : ∀ a, a < 6 → ∀ b, b < 6 → a ≠ b → (gn_T9 a).2.1 ≠ (gn_T9 b).2.1 := by decide +kernel
theorem gn_tk9 : ∀ k, k < 6 → parseFieldDescriptor (gn_T9 k).2.2.1 = some (gn_ty9 k) := by decide +kernel
theorem gn_dv9 : ∀ j, j < 6 → defaultValue (gn_ty9 j) = vp_V ((gm_df 9).map ga_cv) j := by decide +kernel
theorem gn_ok9 : gn_ok 9 ("GravyRound$Shares", gn_T9, 6) := ⟨gn_in9, gn_nm9, ⟨gn_ty9, gn_tk9, gn_dv9⟩, gw_mem (i := 528) (by decide +kernel), gw_mem (i := 135) (by decide +kernel), by decide, by decide +kernel, by decide +kernel⟩
theorem gn_in10 : ∀ w ∈ u_ws "GravyRound$Sights" gn_T10 10, w ∈ gw_tbl := gw_of [590, 592, 594, 596, 598, 600, 602, 604, 606, 608] (by decide +kernel) (by decide +kernel)
theorem gn_nm10 : ∀ a, a < 10 → ∀ b, b < 10 → a ≠ b → (gn_T10 a).2.1 ≠ (gn_T10 b).2.1 := by decide +kernel
theorem gn_tk10 : ∀ k, k < 10 → parseFieldDescriptor (gn_T10 k).2.2.1 = some (gn_ty10 k) := by decide +kernel
theorem gn_dv10 : ∀ j, j < 10 → defaultValue (gn_ty10 j) = vp_V ((gm_df 10).map ga_cv) j := by decide +kernel
theorem gn_ok10 : gn_ok 10 ("GravyRound$Sights", gn_T10, 10) := ⟨gn_in10, gn_nm10, ⟨gn_ty10, gn_tk10, gn_dv10⟩, gw_mem (i := 573) (by decide +kernel), gw_mem (i := 137) (by decide +kernel), by decide, by decide +kernel, by decide +kernel⟩
theorem gn_in11 : ∀ w ∈ u_ws "GravyRound$Table" gn_T11 11, w ∈ gw_tbl := gw_of [423, 425, 427, 429, 431, 433, 435, 437, 439, 441, 443] (by decide +kernel) (by decide +kernel)
theorem gn_nm11 : ∀ a, a < 11 → ∀ b, b < 11 → a ≠ b → (gn_T11 a).2.1 ≠ (gn_T11 b).2.1 := by decide +kernel
theorem gn_tk11 : ∀ k, k < 11 → parseFieldDescriptor (gn_T11 k).2.2.1 = some (gn_ty11 k) := by decide +kernel
theorem gn_dv11 : ∀ j, j < 11 → defaultValue (gn_ty11 j) = vp_V ((gm_df 11).map ga_cv) j := by decide +kernel
theorem gn_ok11 : gn_ok 11 ("GravyRound$Table", gn_T11, 11) := ⟨gn_in11, gn_nm11, ⟨gn_ty11, gn_tk11, gn_dv11⟩, gw_mem (i := 385) (by decide +kernel), gw_mem (i := 131) (by decide +kernel), by decide, by decide +kernel, by decide +kernel⟩
theorem gn_in12 : ∀ w ∈ u_ws "GravyRound$Tokens" gn_T12 8, w ∈ gw_tbl := gw_of [349, 351, 353, 355, 357, 359, 361, 363] (by decide +kernel) (by decide +kernel)
theorem gn_nm12 : ∀ a, a < 8 → ∀ b, b < 8 → a ≠ b → (gn_T12 a).2.1 ≠ (gn_T12 b).2.1 := by decide +kernel
theorem gn_tk12 : ∀ k, k < 8 → parseFieldDescriptor (gn_T12 k).2.2.1 = some (gn_ty12 k) := by decide +kernel
theorem gn_dv12 : ∀ j, j < 8 → defaultValue (gn_ty12 j) = vp_V ((gm_df 12).map ga_cv) j := by decide +kernel
theorem gn_ok12 : gn_ok 12 ("GravyRound$Tokens", gn_T12, 8) := ⟨gn_in12, gn_nm12, ⟨gn_ty12, gn_tk12, gn_dv12⟩, gw_mem (i := 275) (by decide +kernel), gw_mem (i := 126) (by decide +kernel), by decide, by decide +kernel, by decide +kernel⟩
theorem gn_all : ∀ (ci : Nat) (q : vw_C), gm_cl[ci]? = some q → gn_ok ci q := by
  intro ci q hq
  match ci, hq with
  | 0, hq => cases hq; exact gn_ok0
  | 1, hq => cases hq; exact gn_ok1
  | 2, hq => cases hq; exact gn_ok2
  | 3, hq => cases hq; exact gn_ok3
  | 4, hq => cases hq; exact gn_ok4
  | 5, hq => cases hq; exact gn_ok5
  | 6, hq => cases hq; exact gn_ok6
  | 7, hq => cases hq; exact gn_ok7
  | 8, hq => cases hq; exact gn_ok8
  | 9, hq => cases hq; exact gn_ok9
  | 10, hq => cases hq; exact gn_ok10
  | 11, hq => cases hq; exact gn_ok11
  | 12, hq => cases hq; exact gn_ok12
  | k + 13, hq => simp [gm_cl] at hq
end
section
/-! the certificate of a method's code: each entry is what the class file has there, and its words are among the tables' -/
def ga_pc (cds : List ga_E) : Nat := match cds with | [] => 0 | e :: _ => e.1
def gw_isN (w : Cond) : Bool := match w with
  | .fieldLinkNest .. => true
  | .methodLinkNest .. => true
  | _ => false
def gw_nest : List Cond := lw_tbl.filter gw_isN
def gw_nk (i : Nat) (w : Cond) : Bool := decide (lw_tbl[i]? = some w) && gw_isN w
theorem gw_nmem {i : Nat} {w : Cond} (h : gw_nk i w = true) : w ∈ gw_nest := by
  unfold gw_nk at h
  simp only [Bool.and_eq_true, decide_eq_true_eq] at h
  exact List.mem_filter.mpr ⟨List.mem_of_getElem? h.1, h.2⟩
def ga_yLen : MethodName := ⟨"java/lang/String", "length", "()I"⟩
def ga_yChr : MethodName := ⟨"java/lang/String", "charAt", "(I)C"⟩
def ga_yIdx : MethodName := ⟨"java/lang/String", "indexOf", "(I)I"⟩
def ga_lb (a : Nat) : Bool := Nat.beq (a % 8) 0 && Nat.blt (a / 8) 4294967296
def ga_w1 (ps : List (Nat × Nat)) (f : Nat × Nat → Bool) : Bool := match ps with
  | q :: _ => f q
  | [] => false
def ga_lnb (i : Instr) (ln : Nat) : Bool := match i with
  | .iload _ => Nat.beq ln 2
  | .istore _ => Nat.beq ln 2
  | .bipush _ => Nat.beq ln 2
  | .ldc _ => Nat.beq ln 2
  | .newarray _ => Nat.beq ln 2
  | .sipush _ => Nat.beq ln 3
  | .ldc_w _ => Nat.beq ln 3
  | .ldc2_w _ => Nat.beq ln 3
  | .iinc _ _ => Nat.beq ln 3
  | .goto _ => Nat.beq ln 3
  | .if_icmp _ _ => Nat.beq ln 3
  | .ifCond _ _ => Nat.beq ln 3
  | .getfield _ => Nat.beq ln 3
  | .putfield _ => Nat.beq ln 3
  | .invokestatic _ => Nat.beq ln 3
  | .invokevirtual _ => Nat.beq ln 3
  | .invokespecial _ => Nat.beq ln 3
  | .new _ => Nat.beq ln 3
  | .anewarray _ => Nat.beq ln 3
  | .tableswitch .. => true
  | .lookupswitch .. => true
  | .getstatic _ => true
  | .aload _ => true
  | .astore _ => true
  | .lload _ => true
  | .lstore _ => true
  | _ => Nat.beq ln 1
/-- the kind of a field's type: 0 an int, 1 a boolean, 2 a long, 3 a reference -/
def ga_tc (tc : Nat) (d : String) : Bool := match parseFieldDescriptor d with
  | some .int => Nat.beq tc 0
  | some .boolean => Nat.beq tc 1
  | some .long => Nat.beq tc 2
  | some (.object _) => Nat.beq tc 3
  | some (.array _) => Nat.beq tc 3
  | _ => false
noncomputable def ga_wb (own : String) (ini : Bool) (nL pc : Nat) (i : Instr) (a b : Nat) (ps : List (Nat × Nat)) : Bool := match i with
  | .iconst n => ga_lb a && decide (Int32.ofInt n = nI (a / 8))
  | .bipush n => ga_lb a && decide ((Int8.ofInt n).toInt32 = nI (a / 8))
  | .sipush n => ga_lb a && decide ((Int16.ofInt n).toInt32 = nI (a / 8))
  | .ldc idx => if a % 8 = 0 then ga_lb a && ga_w1 ps (fun q => gw_ok q.2 (.constant own idx (nI (a / 8)))) else if a = 14 then decide (own = "GravyRound$Tokens") && Nat.beq idx 20 else if a = 30 then decide (own = "GravyRound$Tokens") && Nat.beq idx 75 else true
  | .ldc_w idx => ga_lb a && ga_w1 ps (fun q => gw_ok q.2 (.constant own idx (nI (a / 8))))
  | .ldc2_w idx => Nat.beq (a % 8) 5 && Nat.blt (a / 8) 18446744073709551616 && ga_w1 ps (fun q => gw_ok q.2 (.constantLong own idx (lN (a / 8))))
  | .lconst k => Nat.beq (a % 8) 5 && Nat.blt (a / 8) 18446744073709551616 && decide (Int64.ofNat k.val = lN (a / 8))
  | .iinc x n => ga_lb a && decide (Int32.ofInt n = nI (a / 8)) && Nat.blt x nL
  | .goto off => decide ((pc : Int) + off = (b : Int))
  | .if_icmp _ off => decide ((pc : Int) + off = (b : Int))
  | .ifCond _ off => decide ((pc : Int) + off = (b : Int))
  | .istore x => Nat.blt x nL
  | .istore_n k => Nat.blt k.val nL
  | .astore_n k => Nat.blt k.val nL
  | .lstore_n k => Nat.blt (k.val + 1) nL
  | .getfield idx => match gm_cl[a]? with
    | some q => Nat.blt b q.2.2 && ga_w1 ps (fun w => if w.1 = 0 then gw_ok w.2 (.fieldLink own idx (q.2.1 b).1 (q.2.1 b).2.1 (q.2.1 b).2.2.1) else gw_nk w.2 (.fieldLinkNest own idx (q.2.1 b).1 (q.2.1 b).2.1 (q.2.1 b).2.2.1 "GravyRound"))
    | none => false
  | .putfield idx => match gm_cl[a]? with
    | some q => Nat.blt b q.2.2 && ga_w1 ps (fun w => gw_ok w.2 (.fieldLink own idx (q.2.1 b).1 (q.2.1 b).2.1 (q.2.1 b).2.2.1) && ga_tc w.1 (q.2.1 b).2.2.1) && (!(q.2.1 b).2.2.2 || (ini && decide ((q.2.1 b).1 = own)))
    | none => false
  | .new idx => match gm_cl[a]? with
    | some q => Nat.beq b q.2.2 && ga_w1 ps (fun w => gw_ok w.2 (.classLink own idx q.1))
    | none => false
  | .newarray t => match t with
    | .int => Nat.beq a 100 && ga_w1 ps (fun w => gw_ok w.2 (.arrayClass .int))
    | .byte => Nat.beq a 101 && ga_w1 ps (fun w => gw_ok w.2 (.arrayClass .byte))
    | .long => Nat.beq a 102 && ga_w1 ps (fun w => gw_ok w.2 (.arrayClass .long))
    | .boolean => Nat.beq a 104 && ga_w1 ps (fun w => gw_ok w.2 (.arrayClass .boolean))
    | _ => false
  | .anewarray idx => ga_w1 ps (fun w => gw_ok w.2 (.classLink own idx "GravyRound$Table"))
  | .aastore => match gm_cl[a]? with
    | some q => decide (q.1 = "GravyRound$Table")
    | none => false
  | .invokestatic idx => if a = 1001 then ga_w1 ps (fun w => gw_ok w.2 (.methodLink own idx arraycopyName)) else if a < 998 then ga_w1 ps (fun w => gw_ok w.2 (.methodLink own idx (gm_i a).1)) && Nat.beq (gm_me a).2.2.2.2.2.2.2 999 else true
  | .invokevirtual idx => if a < 998 then ga_w1 ps (fun w => gw_ok w.2 (.methodLink own idx (gm_i a).1)) && decide (¬ (gm_i a).1.name = "<init>" ∧ ¬ (gm_me a).2.2.2.2.2.2.2 = 999) else if a = 1002 then ga_w1 ps (fun w => gw_ok w.2 (.methodLink own idx ga_yLen)) else if a = 1003 then ga_w1 ps (fun w => gw_ok w.2 (.methodLink own idx ga_yChr)) else if a = 1004 then ga_w1 ps (fun w => gw_ok w.2 (.methodLink own idx ga_yIdx)) else Nat.beq a 998
  | .invokespecial idx => if a = 1000 then ga_w1 ps (fun w => gw_ok w.2 (.methodLink own idx objectInit)) else if a < 998 then ga_w1 ps (fun w => if w.1 = 0 then gw_ok w.2 (.methodLink own idx (gm_i a).1) else gw_nk w.2 (.methodLinkNest own idx (gm_i a).1 "GravyRound")) && decide ((gm_i a).1.name = "<init>" ∧ ¬ (gm_me a).2.2.2.2.2.2.2 = 999) else true
  | .tableswitch dflt lo hi offs => decide (-2147483648 ≤ lo) && decide (hi < 2147483648) && decide (hi = lo + (ps.length : Int) - 1) && decide ((pc : Int) + dflt = (b : Int)) && Nat.blt ps.length 1000 && (List.range ps.length).all (fun j => match ps[j]?, offs[j]? with | some q, some o => Nat.beq (q.1 % 8) 0 && Nat.blt (q.1 / 8) 4294967296 && decide ((nI (q.1 / 8)).toInt = lo + (j : Int)) && decide ((pc : Int) + o = (q.2 : Int)) | _, _ => false)
  | .lookupswitch dflt prs => (prs.toList.zip (prs.toList.drop 1)).all (fun (a, next) => a.1 < next.1) && decide ((pc : Int) + dflt = (b : Int)) && decide (prs.toList = ps.map (fun q => (((q.1 / 8 : Nat) : Int), (q.2 : Int) - (pc : Int)))) && ps.all (fun q => Nat.beq (q.1 % 8) 0 && Nat.blt (q.1 / 8) 2147483648)
  | _ => true
noncomputable def ga_oe (own : String) (cc : ByteArray) (ini : Bool) (nL : Nat) (e : ga_E) : Bool := match e with
  | (pc, ln, i, a, b, ps) => decide (decode cc pc = .ok (i, ln)) && ga_lnb i ln && ga_wb own ini nL pc i a b ps
def ga_okc (own : String) (cc : ByteArray) (ini : Bool) (nL : Nat) : List ga_E → Prop
  | [] => True
  | e :: r => ga_oe own cc ini nL e = true ∧ (r = [] ∨ ga_pc r = e.1 + e.2.1) ∧ ga_okc own cc ini nL r
noncomputable def ga_okb (own : String) (cc : ByteArray) (ini : Bool) (nL : Nat) : List ga_E → Bool
  | [] => true
  | e :: r => ga_oe own cc ini nL e && (match r with | [] => true | e2 :: _ => Nat.beq e2.1 (e.1 + e.2.1)) && ga_okb own cc ini nL r
theorem ga_okb_ok {own : String} {cc : ByteArray} {ini : Bool} {nL : Nat} : ∀ {l : List ga_E}, ga_okb own cc ini nL l = true → ga_okc own cc ini nL l
  | [], _ => trivial
  | e :: r, h => by
    unfold ga_okb at h
    simp only [Bool.and_eq_true] at h
    refine ⟨h.1.1, ?_, ga_okb_ok h.2⟩
    cases r with
    | nil => exact Or.inl rfl
    | cons e2 t => exact Or.inr (Nat.eq_of_beq_eq_true h.1.2)
theorem ga_okc_jmp {own : String} {cc : ByteArray} {ini : Bool} {nL : Nat} {t : Nat} : ∀ {l : List ga_E}, ga_okc own cc ini nL l → ga_okc own cc ini nL (ga_jmp l t) ∧ (ga_jmp l t = [] ∨ ga_pc (ga_jmp l t) = t)
  | [], _ => ⟨trivial, Or.inl rfl⟩
  | e :: r, h => by
    have e1 : ga_jmp (e :: r) t = ga_if (Nat.beq e.1 t) (e :: r) (ga_jmp r t) := rfl
    rw [e1]
    cases hb : Nat.beq e.1 t with
    | true => exact ⟨h, Or.inr (Nat.eq_of_beq_eq_true hb)⟩
    | false => exact ga_okc_jmp h.2.2
/-- what a method's own entry in the tables says -/
noncomputable def gm_okm (k : Nat) : Bool := match gm_me k, gm_i k, gm_wd k with
  | (code, _, nl, na, _, _, rc, ci), (y, b, l, r), cw :: kd :: sl :: iw :: _ =>
    gw_ok cw (.code y b l r) && gw_ok iw (.initialized y.cls) && plainFor y && decide (y.cls ≠ "java/lang/invoke/MethodHandle" ∧ y.cls ≠ "java/lang/invoke/VarHandle") && Nat.beq nl l && Nat.ble l 80 &&
    (if ci = 999 then gw_ok kd (.static y) && decide ((parseMethodDescriptor y.desc).map (fun d => d.parameters.length) = some na) && Nat.blt 0 1
      else gw_ok kd (.instanceMethod y) && decide ((parseMethodDescriptor y.desc).map (fun d => d.parameters.length + 1) = some na) && decide ((gm_cl[ci]?).map (·.1) = some y.cls) && (if y.name = "<init>" then decide (r = none) else gw_ok sl (.selects y.cls y y))) &&
    (match r with | none => Nat.beq rc 0 | some .int => Nat.beq rc 1 | some .boolean => Nat.beq rc 2 | some .long => Nat.beq rc 4 | some (.object _) => Nat.beq rc 5 | _ => false) &&
    ga_okb y.cls b (decide (y.name = "<init>")) l code
  | _, _, _ => false
end
section
theorem gk_0 : gm_okm 0 = true := by decide +kernel
theorem gk_1 : gm_okm 1 = true := by decide +kernel
theorem gk_2 : gm_okm 2 = true := by decide +kernel
theorem gk_3 : gm_okm 3 = true := by decide +kernel
theorem gk_4 : gm_okm 4 = true := by decide +kernel
theorem gk_5 : gm_okm 5 = true := by decide +kernel
theorem gk_6 : gm_okm 6 = true := by decide +kernel
theorem gk_7 : gm_okm 7 = true := by decide +kernel
theorem gk_8 : gm_okm 8 = true := by decide +kernel
theorem gk_9 : gm_okm 9 = true := by decide +kernel
theorem gk_10 : gm_okm 10 = true := by decide +kernel
theorem gk_11 : gm_okm 11 = true := by decide +kernel
theorem gk_12 : gm_okm 12 = true := by decide +kernel
theorem gk_13 : gm_okm 13 = true := by decide +kernel
theorem gk_14 : gm_okm 14 = true := by decide +kernel
theorem gk_15 : gm_okm 15 = true := by decide +kernel
theorem gk_16 : gm_okm 16 = true := by decide +kernel
theorem gk_17 : gm_okm 17 = true := by decide +kernel
theorem gk_18 : gm_okm 18 = true := by decide +kernel
theorem gk_19 : gm_okm 19 = true := by decide +kernel
theorem gk_20 : gm_okm 20 = true := by decide +kernel
theorem gk_21 : gm_okm 21 = true := by decide +kernel
theorem gk_22 : gm_okm 22 = true := by decide +kernel
theorem gk_23 : gm_okm 23 = true := by decide +kernel
theorem gk_24 : gm_okm 24 = true := by decide +kernel
theorem gk_25 : gm_okm 25 = true := by decide +kernel
theorem gk_26 : gm_okm 26 = true := by decide +kernel
theorem gk_27 : gm_okm 27 = true := by decide +kernel
theorem gk_28 : gm_okm 28 = true := by decide +kernel
theorem gk_29 : gm_okm 29 = true := by decide +kernel
theorem gk_30 : gm_okm 30 = true := by decide +kernel
theorem gk_31 : gm_okm 31 = true := by decide +kernel
theorem gk_32 : gm_okm 32 = true := by decide +kernel
theorem gk_33 : gm_okm 33 = true := by decide +kernel
theorem gk_34 : gm_okm 34 = true := by decide +kernel
theorem gk_35 : gm_okm 35 = true := by decide +kernel
theorem gk_36 : gm_okm 36 = true := by decide +kernel
theorem gk_37 : gm_okm 37 = true := by decide +kernel
theorem gk_38 : gm_okm 38 = true := by decide +kernel
theorem gk_39 : gm_okm 39 = true := by decide +kernel
theorem gk_40 : gm_okm 40 = true := by decide +kernel
theorem gk_41 : gm_okm 41 = true := by decide +kernel
theorem gk_42 : gm_okm 42 = true := by decide +kernel
theorem gk_43 : gm_okm 43 = true := by decide +kernel
theorem gk_44 : gm_okm 44 = true := by decide +kernel
theorem gk_45 : gm_okm 45 = true := by decide +kernel
end
section
theorem gk_46 : gm_okm 46 = true := by decide +kernel
theorem gk_47 : gm_okm 47 = true := by decide +kernel
theorem gk_48 : gm_okm 48 = true := by decide +kernel
theorem gk_49 : gm_okm 49 = true := by decide +kernel
theorem gk_50 : gm_okm 50 = true := by decide +kernel
theorem gk_51 : gm_okm 51 = true := by decide +kernel
theorem gk_52 : gm_okm 52 = true := by decide +kernel
theorem gk_53 : gm_okm 53 = true := by decide +kernel
theorem gk_54 : gm_okm 54 = true := by decide +kernel
theorem gk_55 : gm_okm 55 = true := by decide +kernel
theorem gk_56 : gm_okm 56 = true := by decide +kernel
theorem gk_57 : gm_okm 57 = true := by decide +kernel
theorem gk_58 : gm_okm 58 = true := by decide +kernel
theorem gk_59 : gm_okm 59 = true := by decide +kernel
theorem gk_60 : gm_okm 60 = true := by decide +kernel
theorem gk_61 : gm_okm 61 = true := by decide +kernel
theorem gk_62 : gm_okm 62 = true := by decide +kernel
theorem gk_63 : gm_okm 63 = true := by decide +kernel
theorem gk_64 : gm_okm 64 = true := by decide +kernel
theorem gk_65 : gm_okm 65 = true := by decide +kernel
theorem gk_66 : gm_okm 66 = true := by decide +kernel
theorem gk_67 : gm_okm 67 = true := by decide +kernel
theorem gk_68 : gm_okm 68 = true := by decide +kernel
theorem gk_69 : gm_okm 69 = true := by decide +kernel
theorem gk_70 : gm_okm 70 = true := by decide +kernel
theorem gk_71 : gm_okm 71 = true := by decide +kernel
theorem gk_72 : gm_okm 72 = true := by decide +kernel
theorem gk_73 : gm_okm 73 = true := by decide +kernel
theorem gk_74 : gm_okm 74 = true := by decide +kernel
theorem gk_75 : gm_okm 75 = true := by decide +kernel
theorem gk_76 : gm_okm 76 = true := by decide +kernel
theorem gk_77 : gm_okm 77 = true := by decide +kernel
theorem gk_78 : gm_okm 78 = true := by decide +kernel
theorem gk_79 : gm_okm 79 = true := by decide +kernel
theorem gk_80 : gm_okm 80 = true := by decide +kernel
theorem gk_81 : gm_okm 81 = true := by decide +kernel
theorem gk_82 : gm_okm 82 = true := by decide +kernel
theorem gk_83 : gm_okm 83 = true := by decide +kernel
theorem gk_84 : gm_okm 84 = true := by decide +kernel
theorem gk_85 : gm_okm 85 = true := by decide +kernel
theorem gk_86 : gm_okm 86 = true := by decide +kernel
theorem gk_87 : gm_okm 87 = true := by decide +kernel
theorem gk_88 : gm_okm 88 = true := by decide +kernel
theorem gk_89 : gm_okm 89 = true := by decide +kernel
theorem gk_90 : gm_okm 90 = true := by decide +kernel
theorem gk_91 : gm_okm 91 = true := by decide +kernel
end
section
theorem gk_92 : gm_okm 92 = true := by decide +kernel
theorem gk_93 : gm_okm 93 = true := by decide +kernel
theorem gk_94 : gm_okm 94 = true := by decide +kernel
theorem gk_95 : gm_okm 95 = true := by decide +kernel
theorem gk_96 : gm_okm 96 = true := by decide +kernel
theorem gk_97 : gm_okm 97 = true := by decide +kernel
theorem gk_98 : gm_okm 98 = true := by decide +kernel
theorem gk_99 : gm_okm 99 = true := by decide +kernel
theorem gk_100 : gm_okm 100 = true := by decide +kernel
theorem gk_101 : gm_okm 101 = true := by decide +kernel
theorem gk_102 : gm_okm 102 = true := by decide +kernel
theorem gk_103 : gm_okm 103 = true := by decide +kernel
theorem gk_104 : gm_okm 104 = true := by decide +kernel
theorem gk_105 : gm_okm 105 = true := by decide +kernel
theorem gk_106 : gm_okm 106 = true := by decide +kernel
theorem gk_107 : gm_okm 107 = true := by decide +kernel
theorem gk_108 : gm_okm 108 = true := by decide +kernel
theorem gk_109 : gm_okm 109 = true := by decide +kernel
theorem gk_110 : gm_okm 110 = true := by decide +kernel
theorem gk_111 : gm_okm 111 = true := by decide +kernel
theorem gk_112 : gm_okm 112 = true := by decide +kernel
theorem gk_113 : gm_okm 113 = true := by decide +kernel
theorem gk_114 : gm_okm 114 = true := by decide +kernel
theorem gk_115 : gm_okm 115 = true := by decide +kernel
theorem gk_116 : gm_okm 116 = true := by decide +kernel
theorem gk_117 : gm_okm 117 = true := by decide +kernel
theorem gk_118 : gm_okm 118 = true := by decide +kernel
theorem gk_119 : gm_okm 119 = true := by decide +kernel
theorem gk_120 : gm_okm 120 = true := by decide +kernel
theorem gk_121 : gm_okm 121 = true := by decide +kernel
theorem gk_122 : gm_okm 122 = true := by decide +kernel
theorem gk_123 : gm_okm 123 = true := by decide +kernel
theorem gk_124 : gm_okm 124 = true := by decide +kernel
theorem gk_125 : gm_okm 125 = true := by decide +kernel
theorem gk_126 : gm_okm 126 = true := by decide +kernel
theorem gk_127 : gm_okm 127 = true := by decide +kernel
theorem gk_128 : gm_okm 128 = true := by decide +kernel
theorem gk_129 : gm_okm 129 = true := by decide +kernel
theorem gk_130 : gm_okm 130 = true := by decide +kernel
theorem gk_131 : gm_okm 131 = true := by decide +kernel
theorem gk_132 : gm_okm 132 = true := by decide +kernel
theorem gk_133 : gm_okm 133 = true := by decide +kernel
theorem gk_134 : gm_okm 134 = true := by decide +kernel
theorem gk_135 : gm_okm 135 = true := by decide +kernel
theorem gk_136 : gm_okm 136 = true := by decide +kernel
theorem gk_137 : gm_okm 137 = true := by decide +kernel
end
section
theorem gk_138 : gm_okm 138 = true := by decide +kernel
theorem gk_139 : gm_okm 139 = true := by decide +kernel
theorem gk_140 : gm_okm 140 = true := by decide +kernel
theorem gk_141 : gm_okm 141 = true := by decide +kernel
theorem gk_142 : gm_okm 142 = true := by decide +kernel
theorem gk_143 : gm_okm 143 = true := by decide +kernel
theorem gk_144 : gm_okm 144 = true := by decide +kernel
theorem gk_145 : gm_okm 145 = true := by decide +kernel
theorem gk_146 : gm_okm 146 = true := by decide +kernel
theorem gk_147 : gm_okm 147 = true := by decide +kernel
theorem gk_148 : gm_okm 148 = true := by decide +kernel
theorem gk_149 : gm_okm 149 = true := by decide +kernel
theorem gk_150 : gm_okm 150 = true := by decide +kernel
theorem gk_151 : gm_okm 151 = true := by decide +kernel
theorem gk_152 : gm_okm 152 = true := by decide +kernel
theorem gk_153 : gm_okm 153 = true := by decide +kernel
theorem gk_154 : gm_okm 154 = true := by decide +kernel
theorem gk_155 : gm_okm 155 = true := by decide +kernel
theorem gk_156 : gm_okm 156 = true := by decide +kernel
theorem gk_157 : gm_okm 157 = true := by decide +kernel
theorem gk_158 : gm_okm 158 = true := by decide +kernel
theorem gk_159 : gm_okm 159 = true := by decide +kernel
theorem gk_160 : gm_okm 160 = true := by decide +kernel
theorem gk_161 : gm_okm 161 = true := by decide +kernel
theorem gk_162 : gm_okm 162 = true := by decide +kernel
theorem gk_163 : gm_okm 163 = true := by decide +kernel
theorem gk_164 : gm_okm 164 = true := by decide +kernel
theorem gk_165 : gm_okm 165 = true := by decide +kernel
theorem gk_166 : gm_okm 166 = true := by decide +kernel
theorem gk_167 : gm_okm 167 = true := by decide +kernel
theorem gk_168 : gm_okm 168 = true := by decide +kernel
theorem gk_169 : gm_okm 169 = true := by decide +kernel
theorem gk_170 : gm_okm 170 = true := by decide +kernel
theorem gk_171 : gm_okm 171 = true := by decide +kernel
theorem gk_172 : gm_okm 172 = true := by decide +kernel
theorem gk_173 : gm_okm 173 = true := by decide +kernel
theorem gk_174 : gm_okm 174 = true := by decide +kernel
theorem gk_175 : gm_okm 175 = true := by decide +kernel
theorem gk_176 : gm_okm 176 = true := by decide +kernel
theorem gk_177 : gm_okm 177 = true := by decide +kernel
theorem gk_178 : gm_okm 178 = true := by decide +kernel
theorem gk_179 : gm_okm 179 = true := by decide +kernel
theorem gk_180 : gm_okm 180 = true := by decide +kernel
theorem gk_181 : gm_okm 181 = true := by decide +kernel
theorem gk_182 : gm_okm 182 = true := by decide +kernel
theorem gk_183 : gm_okm 183 = true := by decide +kernel
end
section
theorem gk_184 : gm_okm 184 = true := by decide +kernel
theorem gk_185 : gm_okm 185 = true := by decide +kernel
theorem gk_186 : gm_okm 186 = true := by decide +kernel
theorem gk_187 : gm_okm 187 = true := by decide +kernel
theorem gk_188 : gm_okm 188 = true := by decide +kernel
theorem gk_189 : gm_okm 189 = true := by decide +kernel
theorem gk_190 : gm_okm 190 = true := by decide +kernel
theorem gk_191 : gm_okm 191 = true := by decide +kernel
theorem gk_192 : gm_okm 192 = true := by decide +kernel
theorem gk_193 : gm_okm 193 = true := by decide +kernel
theorem gk_194 : gm_okm 194 = true := by decide +kernel
theorem gk_195 : gm_okm 195 = true := by decide +kernel
theorem gk_196 : gm_okm 196 = true := by decide +kernel
theorem gk_197 : gm_okm 197 = true := by decide +kernel
theorem gk_198 : gm_okm 198 = true := by decide +kernel
theorem gk_199 : gm_okm 199 = true := by decide +kernel
theorem gk_200 : gm_okm 200 = true := by decide +kernel
theorem gk_201 : gm_okm 201 = true := by decide +kernel
theorem gk_202 : gm_okm 202 = true := by decide +kernel
theorem gk_203 : gm_okm 203 = true := by decide +kernel
theorem gk_204 : gm_okm 204 = true := by decide +kernel
theorem gk_205 : gm_okm 205 = true := by decide +kernel
theorem gk_206 : gm_okm 206 = true := by decide +kernel
theorem gk_207 : gm_okm 207 = true := by decide +kernel
theorem gk_208 : gm_okm 208 = true := by decide +kernel
theorem gk_209 : gm_okm 209 = true := by decide +kernel
theorem gk_210 : gm_okm 210 = true := by decide +kernel
theorem gk_211 : gm_okm 211 = true := by decide +kernel
theorem gk_212 : gm_okm 212 = true := by decide +kernel
theorem gk_213 : gm_okm 213 = true := by decide +kernel
theorem gk_214 : gm_okm 214 = true := by decide +kernel
theorem gk_215 : gm_okm 215 = true := by decide +kernel
theorem gk_216 : gm_okm 216 = true := by decide +kernel
theorem gk_217 : gm_okm 217 = true := by decide +kernel
theorem gk_218 : gm_okm 218 = true := by decide +kernel
theorem gk_219 : gm_okm 219 = true := by decide +kernel
theorem gk_220 : gm_okm 220 = true := by decide +kernel
theorem gk_221 : gm_okm 221 = true := by decide +kernel
theorem gk_222 : gm_okm 222 = true := by decide +kernel
theorem gk_223 : gm_okm 223 = true := by decide +kernel
theorem gk_224 : gm_okm 224 = true := by decide +kernel
theorem gk_225 : gm_okm 225 = true := by decide +kernel
theorem gk_226 : gm_okm 226 = true := by decide +kernel
theorem gk_227 : gm_okm 227 = true := by decide +kernel
theorem gk_228 : gm_okm 228 = true := by decide +kernel
theorem gk_229 : gm_okm 229 = true := by decide +kernel
end
section
theorem gk_230 : gm_okm 230 = true := by decide +kernel
theorem gk_231 : gm_okm 231 = true := by decide +kernel
theorem gk_232 : gm_okm 232 = true := by decide +kernel
theorem gk_233 : gm_okm 233 = true := by decide +kernel
theorem gk_234 : gm_okm 234 = true := by decide +kernel
theorem gk_235 : gm_okm 235 = true := by decide +kernel
theorem gk_236 : gm_okm 236 = true := by decide +kernel
theorem gk_237 : gm_okm 237 = true := by decide +kernel
theorem gk_238 : gm_okm 238 = true := by decide +kernel
theorem gk_239 : gm_okm 239 = true := by decide +kernel
theorem gk_240 : gm_okm 240 = true := by decide +kernel
theorem gk_241 : gm_okm 241 = true := by decide +kernel
theorem gk_242 : gm_okm 242 = true := by decide +kernel
theorem gk_243 : gm_okm 243 = true := by decide +kernel
theorem gk_244 : gm_okm 244 = true := by decide +kernel
theorem gk_245 : gm_okm 245 = true := by decide +kernel
theorem gk_246 : gm_okm 246 = true := by decide +kernel
theorem gk_247 : gm_okm 247 = true := by decide +kernel
theorem gk_248 : gm_okm 248 = true := by decide +kernel
theorem gk_249 : gm_okm 249 = true := by decide +kernel
theorem gk_250 : gm_okm 250 = true := by decide +kernel
theorem gk_251 : gm_okm 251 = true := by decide +kernel
theorem gk_252 : gm_okm 252 = true := by decide +kernel
theorem gk_253 : gm_okm 253 = true := by decide +kernel
theorem gk_254 : gm_okm 254 = true := by decide +kernel
theorem gk_255 : gm_okm 255 = true := by decide +kernel
theorem gk_256 : gm_okm 256 = true := by decide +kernel
theorem gk_257 : gm_okm 257 = true := by decide +kernel
theorem gk_258 : gm_okm 258 = true := by decide +kernel
theorem gk_259 : gm_okm 259 = true := by decide +kernel
theorem gk_260 : gm_okm 260 = true := by decide +kernel
theorem gk_261 : gm_okm 261 = true := by decide +kernel
theorem gk_262 : gm_okm 262 = true := by decide +kernel
theorem gk_263 : gm_okm 263 = true := by decide +kernel
theorem gk_264 : gm_okm 264 = true := by decide +kernel
theorem gk_265 : gm_okm 265 = true := by decide +kernel
theorem gk_266 : gm_okm 266 = true := by decide +kernel
theorem gk_267 : gm_okm 267 = true := by decide +kernel
theorem gk_268 : gm_okm 268 = true := by decide +kernel
theorem gk_269 : gm_okm 269 = true := by decide +kernel
theorem gk_270 : gm_okm 270 = true := by decide +kernel
theorem gk_271 : gm_okm 271 = true := by decide +kernel
theorem gk_272 : gm_okm 272 = true := by decide +kernel
theorem gk_273 : gm_okm 273 = true := by decide +kernel
theorem gk_274 : gm_okm 274 = true := by decide +kernel
theorem gk_275 : gm_okm 275 = true := by decide +kernel
end
section
theorem gk_276 : gm_okm 276 = true := by decide +kernel
theorem gk_277 : gm_okm 277 = true := by decide +kernel
theorem gk_278 : gm_okm 278 = true := by decide +kernel
theorem gk_279 : gm_okm 279 = true := by decide +kernel
theorem gk_280 : gm_okm 280 = true := by decide +kernel
theorem gk_281 : gm_okm 281 = true := by decide +kernel
theorem gk_282 : gm_okm 282 = true := by decide +kernel
theorem gk_283 : gm_okm 283 = true := by decide +kernel
theorem gk_284 : gm_okm 284 = true := by decide +kernel
theorem gk_285 : gm_okm 285 = true := by decide +kernel
theorem gk_286 : gm_okm 286 = true := by decide +kernel
theorem gk_287 : gm_okm 287 = true := by decide +kernel
theorem gk_288 : gm_okm 288 = true := by decide +kernel
theorem gk_289 : gm_okm 289 = true := by decide +kernel
theorem gk_290 : gm_okm 290 = true := by decide +kernel
theorem gk_291 : gm_okm 291 = true := by decide +kernel
theorem gk_292 : gm_okm 292 = true := by decide +kernel
theorem gk_293 : gm_okm 293 = true := by decide +kernel
theorem gk_294 : gm_okm 294 = true := by decide +kernel
theorem gk_295 : gm_okm 295 = true := by decide +kernel
theorem gk_296 : gm_okm 296 = true := by decide +kernel
theorem gk_297 : gm_okm 297 = true := by decide +kernel
theorem gk_298 : gm_okm 298 = true := by decide +kernel
theorem gk_299 : gm_okm 299 = true := by decide +kernel
theorem gk_300 : gm_okm 300 = true := by decide +kernel
theorem gk_301 : gm_okm 301 = true := by decide +kernel
theorem gk_302 : gm_okm 302 = true := by decide +kernel
theorem gk_303 : gm_okm 303 = true := by decide +kernel
theorem gk_304 : gm_okm 304 = true := by decide +kernel
theorem gk_305 : gm_okm 305 = true := by decide +kernel
theorem gk_306 : gm_okm 306 = true := by decide +kernel
theorem gk_307 : gm_okm 307 = true := by decide +kernel
theorem gk_308 : gm_okm 308 = true := by decide +kernel
theorem gk_309 : gm_okm 309 = true := by decide +kernel
theorem gk_310 : gm_okm 310 = true := by decide +kernel
theorem gk_311 : gm_okm 311 = true := by decide +kernel
theorem gk_312 : gm_okm 312 = true := by decide +kernel
end
section
theorem gk_all : ∀ k, k < 313 → gm_okm k = true := by
  intro k hk
  match k, hk with
  | 0, _ => exact gk_0
  | 1, _ => exact gk_1
  | 2, _ => exact gk_2
  | 3, _ => exact gk_3
  | 4, _ => exact gk_4
  | 5, _ => exact gk_5
  | 6, _ => exact gk_6
  | 7, _ => exact gk_7
  | 8, _ => exact gk_8
  | 9, _ => exact gk_9
  | 10, _ => exact gk_10
  | 11, _ => exact gk_11
  | 12, _ => exact gk_12
  | 13, _ => exact gk_13
  | 14, _ => exact gk_14
  | 15, _ => exact gk_15
  | 16, _ => exact gk_16
  | 17, _ => exact gk_17
  | 18, _ => exact gk_18
  | 19, _ => exact gk_19
  | 20, _ => exact gk_20
  | 21, _ => exact gk_21
  | 22, _ => exact gk_22
  | 23, _ => exact gk_23
  | 24, _ => exact gk_24
  | 25, _ => exact gk_25
  | 26, _ => exact gk_26
  | 27, _ => exact gk_27
  | 28, _ => exact gk_28
  | 29, _ => exact gk_29
  | 30, _ => exact gk_30
  | 31, _ => exact gk_31
  | 32, _ => exact gk_32
  | 33, _ => exact gk_33
  | 34, _ => exact gk_34
  | 35, _ => exact gk_35
  | 36, _ => exact gk_36
  | 37, _ => exact gk_37
  | 38, _ => exact gk_38
  | 39, _ => exact gk_39
  | 40, _ => exact gk_40
  | 41, _ => exact gk_41
  | 42, _ => exact gk_42
  | 43, _ => exact gk_43
  | 44, _ => exact gk_44
  | 45, _ => exact gk_45
  | 46, _ => exact gk_46
  | 47, _ => exact gk_47
  | 48, _ => exact gk_48
  | 49, _ => exact gk_49
  | 50, _ => exact gk_50
  | 51, _ => exact gk_51
  | 52, _ => exact gk_52
  | 53, _ => exact gk_53
  | 54, _ => exact gk_54
  | 55, _ => exact gk_55
  | 56, _ => exact gk_56
  | 57, _ => exact gk_57
  | 58, _ => exact gk_58
  | 59, _ => exact gk_59
  | 60, _ => exact gk_60
  | 61, _ => exact gk_61
  | 62, _ => exact gk_62
  | 63, _ => exact gk_63
  | 64, _ => exact gk_64
  | 65, _ => exact gk_65
  | 66, _ => exact gk_66
  | 67, _ => exact gk_67
  | 68, _ => exact gk_68
  | 69, _ => exact gk_69
  | 70, _ => exact gk_70
  | 71, _ => exact gk_71
  | 72, _ => exact gk_72
  | 73, _ => exact gk_73
  | 74, _ => exact gk_74
  | 75, _ => exact gk_75
  | 76, _ => exact gk_76
  | 77, _ => exact gk_77
  | 78, _ => exact gk_78
  | 79, _ => exact gk_79
  | 80, _ => exact gk_80
  | 81, _ => exact gk_81
  | 82, _ => exact gk_82
  | 83, _ => exact gk_83
  | 84, _ => exact gk_84
  | 85, _ => exact gk_85
  | 86, _ => exact gk_86
  | 87, _ => exact gk_87
  | 88, _ => exact gk_88
  | 89, _ => exact gk_89
  | 90, _ => exact gk_90
  | 91, _ => exact gk_91
  | 92, _ => exact gk_92
  | 93, _ => exact gk_93
  | 94, _ => exact gk_94
  | 95, _ => exact gk_95
  | 96, _ => exact gk_96
  | 97, _ => exact gk_97
  | 98, _ => exact gk_98
  | 99, _ => exact gk_99
  | 100, _ => exact gk_100
  | 101, _ => exact gk_101
  | 102, _ => exact gk_102
  | 103, _ => exact gk_103
  | 104, _ => exact gk_104
  | 105, _ => exact gk_105
  | 106, _ => exact gk_106
  | 107, _ => exact gk_107
  | 108, _ => exact gk_108
  | 109, _ => exact gk_109
  | 110, _ => exact gk_110
  | 111, _ => exact gk_111
  | 112, _ => exact gk_112
  | 113, _ => exact gk_113
  | 114, _ => exact gk_114
  | 115, _ => exact gk_115
  | 116, _ => exact gk_116
  | 117, _ => exact gk_117
  | 118, _ => exact gk_118
  | 119, _ => exact gk_119
  | 120, _ => exact gk_120
  | 121, _ => exact gk_121
  | 122, _ => exact gk_122
  | 123, _ => exact gk_123
  | 124, _ => exact gk_124
  | 125, _ => exact gk_125
  | 126, _ => exact gk_126
  | 127, _ => exact gk_127
  | 128, _ => exact gk_128
  | 129, _ => exact gk_129
  | 130, _ => exact gk_130
  | 131, _ => exact gk_131
  | 132, _ => exact gk_132
  | 133, _ => exact gk_133
  | 134, _ => exact gk_134
  | 135, _ => exact gk_135
  | 136, _ => exact gk_136
  | 137, _ => exact gk_137
  | 138, _ => exact gk_138
  | 139, _ => exact gk_139
  | 140, _ => exact gk_140
  | 141, _ => exact gk_141
  | 142, _ => exact gk_142
  | 143, _ => exact gk_143
  | 144, _ => exact gk_144
  | 145, _ => exact gk_145
  | 146, _ => exact gk_146
  | 147, _ => exact gk_147
  | 148, _ => exact gk_148
  | 149, _ => exact gk_149
  | 150, _ => exact gk_150
  | 151, _ => exact gk_151
  | 152, _ => exact gk_152
  | 153, _ => exact gk_153
  | 154, _ => exact gk_154
  | 155, _ => exact gk_155
  | 156, _ => exact gk_156
  | 157, _ => exact gk_157
  | 158, _ => exact gk_158
  | 159, _ => exact gk_159
  | 160, _ => exact gk_160
  | 161, _ => exact gk_161
  | 162, _ => exact gk_162
  | 163, _ => exact gk_163
  | 164, _ => exact gk_164
  | 165, _ => exact gk_165
  | 166, _ => exact gk_166
  | 167, _ => exact gk_167
  | 168, _ => exact gk_168
  | 169, _ => exact gk_169
  | 170, _ => exact gk_170
  | 171, _ => exact gk_171
  | 172, _ => exact gk_172
  | 173, _ => exact gk_173
  | 174, _ => exact gk_174
  | 175, _ => exact gk_175
  | 176, _ => exact gk_176
  | 177, _ => exact gk_177
  | 178, _ => exact gk_178
  | 179, _ => exact gk_179
  | 180, _ => exact gk_180
  | 181, _ => exact gk_181
  | 182, _ => exact gk_182
  | 183, _ => exact gk_183
  | 184, _ => exact gk_184
  | 185, _ => exact gk_185
  | 186, _ => exact gk_186
  | 187, _ => exact gk_187
  | 188, _ => exact gk_188
  | 189, _ => exact gk_189
  | 190, _ => exact gk_190
  | 191, _ => exact gk_191
  | 192, _ => exact gk_192
  | 193, _ => exact gk_193
  | 194, _ => exact gk_194
  | 195, _ => exact gk_195
  | 196, _ => exact gk_196
  | 197, _ => exact gk_197
  | 198, _ => exact gk_198
  | 199, _ => exact gk_199
  | 200, _ => exact gk_200
  | 201, _ => exact gk_201
  | 202, _ => exact gk_202
  | 203, _ => exact gk_203
  | 204, _ => exact gk_204
  | 205, _ => exact gk_205
  | 206, _ => exact gk_206
  | 207, _ => exact gk_207
  | 208, _ => exact gk_208
  | 209, _ => exact gk_209
  | 210, _ => exact gk_210
  | 211, _ => exact gk_211
  | 212, _ => exact gk_212
  | 213, _ => exact gk_213
  | 214, _ => exact gk_214
  | 215, _ => exact gk_215
  | 216, _ => exact gk_216
  | 217, _ => exact gk_217
  | 218, _ => exact gk_218
  | 219, _ => exact gk_219
  | 220, _ => exact gk_220
  | 221, _ => exact gk_221
  | 222, _ => exact gk_222
  | 223, _ => exact gk_223
  | 224, _ => exact gk_224
  | 225, _ => exact gk_225
  | 226, _ => exact gk_226
  | 227, _ => exact gk_227
  | 228, _ => exact gk_228
  | 229, _ => exact gk_229
  | 230, _ => exact gk_230
  | 231, _ => exact gk_231
  | 232, _ => exact gk_232
  | 233, _ => exact gk_233
  | 234, _ => exact gk_234
  | 235, _ => exact gk_235
  | 236, _ => exact gk_236
  | 237, _ => exact gk_237
  | 238, _ => exact gk_238
  | 239, _ => exact gk_239
  | 240, _ => exact gk_240
  | 241, _ => exact gk_241
  | 242, _ => exact gk_242
  | 243, _ => exact gk_243
  | 244, _ => exact gk_244
  | 245, _ => exact gk_245
  | 246, _ => exact gk_246
  | 247, _ => exact gk_247
  | 248, _ => exact gk_248
  | 249, _ => exact gk_249
  | 250, _ => exact gk_250
  | 251, _ => exact gk_251
  | 252, _ => exact gk_252
  | 253, _ => exact gk_253
  | 254, _ => exact gk_254
  | 255, _ => exact gk_255
  | 256, _ => exact gk_256
  | 257, _ => exact gk_257
  | 258, _ => exact gk_258
  | 259, _ => exact gk_259
  | 260, _ => exact gk_260
  | 261, _ => exact gk_261
  | 262, _ => exact gk_262
  | 263, _ => exact gk_263
  | 264, _ => exact gk_264
  | 265, _ => exact gk_265
  | 266, _ => exact gk_266
  | 267, _ => exact gk_267
  | 268, _ => exact gk_268
  | 269, _ => exact gk_269
  | 270, _ => exact gk_270
  | 271, _ => exact gk_271
  | 272, _ => exact gk_272
  | 273, _ => exact gk_273
  | 274, _ => exact gk_274
  | 275, _ => exact gk_275
  | 276, _ => exact gk_276
  | 277, _ => exact gk_277
  | 278, _ => exact gk_278
  | 279, _ => exact gk_279
  | 280, _ => exact gk_280
  | 281, _ => exact gk_281
  | 282, _ => exact gk_282
  | 283, _ => exact gk_283
  | 284, _ => exact gk_284
  | 285, _ => exact gk_285
  | 286, _ => exact gk_286
  | 287, _ => exact gk_287
  | 288, _ => exact gk_288
  | 289, _ => exact gk_289
  | 290, _ => exact gk_290
  | 291, _ => exact gk_291
  | 292, _ => exact gk_292
  | 293, _ => exact gk_293
  | 294, _ => exact gk_294
  | 295, _ => exact gk_295
  | 296, _ => exact gk_296
  | 297, _ => exact gk_297
  | 298, _ => exact gk_298
  | 299, _ => exact gk_299
  | 300, _ => exact gk_300
  | 301, _ => exact gk_301
  | 302, _ => exact gk_302
  | 303, _ => exact gk_303
  | 304, _ => exact gk_304
  | 305, _ => exact gk_305
  | 306, _ => exact gk_306
  | 307, _ => exact gk_307
  | 308, _ => exact gk_308
  | 309, _ => exact gk_309
  | 310, _ => exact gk_310
  | 311, _ => exact gk_311
  | 312, _ => exact gk_312
  | k + 313, h => omega
theorem gk_pcs : (List.range 313).all (fun k => Nat.beq (ga_pc (gm_me k).1) 0) = true := by decide +kernel
theorem gk_pc {k : Nat} (hk : k < 313) : ga_pc (gm_me k).1 = 0 := Nat.eq_of_beq_eq_true (List.all_eq_true.mp gk_pcs k (List.mem_range.mpr hk))
end
section
def gl_0 : List ga_E := [(0, 3, .new 7, 0, 17, [(0, 143)]),
  (3, 1, .dup, 0, 0, []),
  (4, 3, .invokespecial 9, 89, 0, [(0, 145)]),
  (7, 1, .astore_n 1, 0, 0, []),
  (8, 3, .new 10, 1, 65, [(0, 1381)]),
  (11, 1, .dup, 0, 0, []),
  (12, 3, .invokespecial 12, 99, 0, [(0, 1383)]),
  (15, 1, .astore_n 2, 0, 0, []),
  (16, 1, .iconst 0, 0, 0, []),
  (17, 1, .istore_n 3, 0, 0, []),
  (18, 1, .iload_n 3, 0, 0, []),
  (19, 1, .aload_n 0, 0, 0, []),
  (20, 1, .arraylength, 0, 0, []),
  (21, 2, .bipush (6), 48, 0, []),
  (23, 1, .isub, 0, 0, []),
  (24, 3, .if_icmp .gt (1362), 0, 1386, []),
  (27, 1, .aload_n 0, 0, 0, []),
  (28, 1, .iload_n 3, 0, 0, []),
  (29, 1, .iaload, 0, 0, []),
  (30, 2, .bipush (63), 504, 0, []),
  (32, 1, .iand, 0, 0, []),
  (33, 207, .tableswitch (1347) (0) (47) #[207, 270, 293, 306, 329, 362, 385, 418, 431, 464, 487, 510, 533, 556, 569, 582, 595, 618, 661, 674, 687, 700, 733, 756, 769, 782, 815, 838, 871, 894, 907, 930, 943, 956, 969, 982, 1005, 1028, 1061, 1084, 1143, 1166, 1189, 1212, 1245, 1278, 1301, 1324], 0, 1380, [(0, 240), (8, 303), (16, 326), (24, 339), (32, 362), (40, 395), (48, 418), (56, 451), (64, 464), (72, 497), (80, 520), (88, 543), (96, 566), (104, 589), (112, 602), (120, 615), (128, 628), (136, 651), (144, 694), (152, 707), (160, 720), (168, 733), (176, 766), (184, 789), (192, 802), (200, 815), (208, 848), (216, 871), (224, 904), (232, 927), (240, 940), (248, 963), (256, 976), (264, 989), (272, 1002), (280, 1015), (288, 1038), (296, 1061), (304, 1094), (312, 1117), (320, 1176), (328, 1199), (336, 1222), (344, 1245), (352, 1278), (360, 1311), (368, 1334), (376, 1357)]),
  (240, 1, .aload_n 1, 0, 0, []),
  (241, 1, .aload_n 0, 0, 0, []),
  (242, 1, .iload_n 3, 0, 0, []),
  (243, 1, .iconst 1, 8, 0, []),
  (244, 1, .iadd, 0, 0, []),
  (245, 1, .iaload, 0, 0, []),
  (246, 1, .aload_n 0, 0, 0, []),
  (247, 1, .iload_n 3, 0, 0, [])]
def gl_1 : List ga_E := [(248, 1, .iconst 2, 16, 0, []),
  (249, 1, .iadd, 0, 0, []),
  (250, 1, .iaload, 0, 0, []),
  (251, 1, .aload_n 0, 0, 0, []),
  (252, 1, .iload_n 3, 0, 0, []),
  (253, 1, .iconst 3, 24, 0, []),
  (254, 1, .iadd, 0, 0, []),
  (255, 1, .iaload, 0, 0, []),
  (256, 1, .aload_n 0, 0, 0, []),
  (257, 1, .iload_n 3, 0, 0, []),
  (258, 1, .iconst 4, 32, 0, []),
  (259, 1, .iadd, 0, 0, []),
  (260, 1, .iaload, 0, 0, []),
  (261, 1, .aload_n 0, 0, 0, []),
  (262, 1, .iload_n 3, 0, 0, []),
  (263, 1, .iconst 5, 40, 0, []),
  (264, 1, .iadd, 0, 0, []),
  (265, 1, .iaload, 0, 0, []),
  (266, 3, .invokevirtual 13, 182, 0, [(0, 715)]),
  (269, 1, .pop, 0, 0, []),
  (270, 1, .aload_n 2, 0, 0, []),
  (271, 1, .aload_n 0, 0, 0, []),
  (272, 1, .iload_n 3, 0, 0, []),
  (273, 1, .iconst 1, 8, 0, []),
  (274, 1, .iadd, 0, 0, []),
  (275, 1, .iaload, 0, 0, []),
  (276, 1, .aload_n 0, 0, 0, []),
  (277, 1, .iload_n 3, 0, 0, []),
  (278, 1, .iconst 2, 16, 0, []),
  (279, 1, .iadd, 0, 0, [])]
def gl_2 : List ga_E := [(280, 1, .iaload, 0, 0, []),
  (281, 1, .aload_n 0, 0, 0, []),
  (282, 1, .iload_n 3, 0, 0, []),
  (283, 1, .iconst 3, 24, 0, []),
  (284, 1, .iadd, 0, 0, []),
  (285, 1, .iaload, 0, 0, []),
  (286, 1, .aload_n 0, 0, 0, []),
  (287, 1, .iload_n 3, 0, 0, []),
  (288, 1, .iconst 4, 32, 0, []),
  (289, 1, .iadd, 0, 0, []),
  (290, 1, .iaload, 0, 0, []),
  (291, 1, .aload_n 0, 0, 0, []),
  (292, 1, .iload_n 3, 0, 0, []),
  (293, 1, .iconst 5, 40, 0, []),
  (294, 1, .iadd, 0, 0, []),
  (295, 1, .iaload, 0, 0, []),
  (296, 3, .invokevirtual 17, 183, 0, [(0, 2126)]),
  (299, 1, .pop, 0, 0, []),
  (300, 3, .goto (1080), 0, 1380, []),
  (303, 1, .aload_n 1, 0, 0, []),
  (304, 1, .aload_n 0, 0, 0, []),
  (305, 1, .iload_n 3, 0, 0, []),
  (306, 1, .iconst 1, 8, 0, []),
  (307, 1, .iadd, 0, 0, []),
  (308, 1, .iaload, 0, 0, []),
  (309, 3, .invokevirtual 18, 181, 0, [(0, 723)]),
  (312, 1, .pop, 0, 0, []),
  (313, 1, .aload_n 2, 0, 0, []),
  (314, 1, .aload_n 0, 0, 0, []),
  (315, 1, .iload_n 3, 0, 0, [])]
def gl_3 : List ga_E := [(316, 1, .iconst 1, 8, 0, []),
  (317, 1, .iadd, 0, 0, []),
  (318, 1, .iaload, 0, 0, []),
  (319, 3, .invokevirtual 22, 57, 0, [(0, 2130)]),
  (322, 1, .pop, 0, 0, []),
  (323, 3, .goto (1057), 0, 1380, []),
  (326, 1, .aload_n 1, 0, 0, []),
  (327, 3, .invokevirtual 23, 172, 0, [(0, 727)]),
  (330, 1, .pop, 0, 0, []),
  (331, 1, .aload_n 2, 0, 0, []),
  (332, 3, .invokevirtual 27, 178, 0, [(0, 1637)]),
  (335, 1, .pop, 0, 0, []),
  (336, 3, .goto (1044), 0, 1380, []),
  (339, 1, .aload_n 1, 0, 0, []),
  (340, 1, .aload_n 0, 0, 0, []),
  (341, 1, .iload_n 3, 0, 0, []),
  (342, 1, .iconst 1, 8, 0, []),
  (343, 1, .iadd, 0, 0, []),
  (344, 1, .iaload, 0, 0, []),
  (345, 3, .invokevirtual 28, 171, 0, [(0, 933)]),
  (348, 1, .pop, 0, 0, []),
  (349, 1, .aload_n 2, 0, 0, []),
  (350, 1, .aload_n 0, 0, 0, []),
  (351, 1, .iload_n 3, 0, 0, []),
  (352, 1, .iconst 1, 8, 0, []),
  (353, 1, .iadd, 0, 0, []),
  (354, 1, .iaload, 0, 0, []),
  (355, 3, .invokevirtual 31, 41, 0, [(0, 1774)]),
  (358, 1, .pop, 0, 0, []),
  (359, 3, .goto (1021), 0, 1380, [])]
def gl_4 : List ga_E := [(362, 1, .aload_n 1, 0, 0, []),
  (363, 1, .aload_n 0, 0, 0, []),
  (364, 1, .iload_n 3, 0, 0, []),
  (365, 1, .iconst 1, 8, 0, []),
  (366, 1, .iadd, 0, 0, []),
  (367, 1, .iaload, 0, 0, []),
  (368, 1, .aload_n 0, 0, 0, []),
  (369, 1, .iload_n 3, 0, 0, []),
  (370, 1, .iconst 2, 16, 0, []),
  (371, 1, .iadd, 0, 0, []),
  (372, 1, .iaload, 0, 0, []),
  (373, 3, .invokevirtual 32, 170, 0, [(0, 937)]),
  (376, 1, .pop, 0, 0, []),
  (377, 1, .aload_n 2, 0, 0, []),
  (378, 1, .aload_n 0, 0, 0, []),
  (379, 1, .iload_n 3, 0, 0, []),
  (380, 1, .iconst 1, 8, 0, []),
  (381, 1, .iadd, 0, 0, []),
  (382, 1, .iaload, 0, 0, []),
  (383, 1, .aload_n 0, 0, 0, []),
  (384, 1, .iload_n 3, 0, 0, []),
  (385, 1, .iconst 2, 16, 0, []),
  (386, 1, .iadd, 0, 0, []),
  (387, 1, .iaload, 0, 0, []),
  (388, 3, .invokevirtual 36, 87, 0, [(0, 1778)]),
  (391, 1, .pop, 0, 0, []),
  (392, 3, .goto (988), 0, 1380, []),
  (395, 1, .aload_n 1, 0, 0, []),
  (396, 1, .aload_n 0, 0, 0, []),
  (397, 1, .iload_n 3, 0, 0, [])]
def gl_5 : List ga_E := [(398, 1, .iconst 1, 8, 0, []),
  (399, 1, .iadd, 0, 0, []),
  (400, 1, .iaload, 0, 0, []),
  (401, 3, .invokevirtual 37, 169, 0, [(0, 955)]),
  (404, 1, .pop, 0, 0, []),
  (405, 1, .aload_n 2, 0, 0, []),
  (406, 1, .aload_n 0, 0, 0, []),
  (407, 1, .iload_n 3, 0, 0, []),
  (408, 1, .iconst 1, 8, 0, []),
  (409, 1, .iadd, 0, 0, []),
  (410, 1, .iaload, 0, 0, []),
  (411, 3, .invokevirtual 40, 86, 0, [(0, 1790)]),
  (414, 1, .pop, 0, 0, []),
  (415, 3, .goto (965), 0, 1380, []),
  (418, 1, .aload_n 1, 0, 0, []),
  (419, 1, .aload_n 0, 0, 0, []),
  (420, 1, .iload_n 3, 0, 0, []),
  (421, 1, .iconst 1, 8, 0, []),
  (422, 1, .iadd, 0, 0, []),
  (423, 1, .iaload, 0, 0, []),
  (424, 1, .aload_n 0, 0, 0, []),
  (425, 1, .iload_n 3, 0, 0, []),
  (426, 1, .iconst 2, 16, 0, []),
  (427, 1, .iadd, 0, 0, []),
  (428, 1, .iaload, 0, 0, []),
  (429, 3, .invokevirtual 41, 168, 0, [(0, 959)]),
  (432, 1, .pop, 0, 0, []),
  (433, 1, .aload_n 2, 0, 0, []),
  (434, 1, .aload_n 0, 0, 0, []),
  (435, 1, .iload_n 3, 0, 0, [])]
def gl_6 : List ga_E := [(436, 1, .iconst 1, 8, 0, []),
  (437, 1, .iadd, 0, 0, []),
  (438, 1, .iaload, 0, 0, []),
  (439, 1, .aload_n 0, 0, 0, []),
  (440, 1, .iload_n 3, 0, 0, []),
  (441, 1, .iconst 2, 16, 0, []),
  (442, 1, .iadd, 0, 0, []),
  (443, 1, .iaload, 0, 0, []),
  (444, 3, .invokevirtual 44, 85, 0, [(0, 1794)]),
  (447, 1, .pop, 0, 0, []),
  (448, 3, .goto (932), 0, 1380, []),
  (451, 1, .aload_n 1, 0, 0, []),
  (452, 3, .invokevirtual 45, 166, 0, [(0, 971)]),
  (455, 1, .pop, 0, 0, []),
  (456, 1, .aload_n 2, 0, 0, []),
  (457, 3, .invokevirtual 48, 167, 0, [(0, 1833)]),
  (460, 1, .pop, 0, 0, []),
  (461, 3, .goto (919), 0, 1380, []),
  (464, 1, .aload_n 1, 0, 0, []),
  (465, 1, .aload_n 0, 0, 0, []),
  (466, 1, .iload_n 3, 0, 0, []),
  (467, 1, .iconst 1, 8, 0, []),
  (468, 1, .iadd, 0, 0, []),
  (469, 1, .iaload, 0, 0, []),
  (470, 1, .aload_n 0, 0, 0, []),
  (471, 1, .iload_n 3, 0, 0, []),
  (472, 1, .iconst 2, 16, 0, []),
  (473, 1, .iadd, 0, 0, []),
  (474, 1, .iaload, 0, 0, []),
  (475, 3, .invokevirtual 49, 165, 0, [(0, 1008)])]
def gl_7 : List ga_E := [(478, 1, .pop, 0, 0, []),
  (479, 1, .aload_n 2, 0, 0, []),
  (480, 1, .aload_n 0, 0, 0, []),
  (481, 1, .iload_n 3, 0, 0, []),
  (482, 1, .iconst 1, 8, 0, []),
  (483, 1, .iadd, 0, 0, []),
  (484, 1, .iaload, 0, 0, []),
  (485, 1, .aload_n 0, 0, 0, []),
  (486, 1, .iload_n 3, 0, 0, []),
  (487, 1, .iconst 2, 16, 0, []),
  (488, 1, .iadd, 0, 0, []),
  (489, 1, .iaload, 0, 0, []),
  (490, 3, .invokevirtual 52, 56, 0, [(0, 1871)]),
  (493, 1, .pop, 0, 0, []),
  (494, 3, .goto (886), 0, 1380, []),
  (497, 1, .aload_n 1, 0, 0, []),
  (498, 1, .aload_n 0, 0, 0, []),
  (499, 1, .iload_n 3, 0, 0, []),
  (500, 1, .iconst 1, 8, 0, []),
  (501, 1, .iadd, 0, 0, []),
  (502, 1, .iaload, 0, 0, []),
  (503, 3, .invokevirtual 53, 164, 0, [(0, 1024)]),
  (506, 1, .pop, 0, 0, []),
  (507, 1, .aload_n 2, 0, 0, []),
  (508, 1, .aload_n 0, 0, 0, []),
  (509, 1, .iload_n 3, 0, 0, []),
  (510, 1, .iconst 1, 8, 0, []),
  (511, 1, .iadd, 0, 0, []),
  (512, 1, .iaload, 0, 0, []),
  (513, 3, .invokevirtual 56, 84, 0, [(0, 1879)])]
def gl_8 : List ga_E := [(516, 1, .pop, 0, 0, []),
  (517, 3, .goto (863), 0, 1380, []),
  (520, 1, .aload_n 1, 0, 0, []),
  (521, 1, .aload_n 0, 0, 0, []),
  (522, 1, .iload_n 3, 0, 0, []),
  (523, 1, .iconst 1, 8, 0, []),
  (524, 1, .iadd, 0, 0, []),
  (525, 1, .iaload, 0, 0, []),
  (526, 3, .invokevirtual 57, 163, 0, [(0, 1032)]),
  (529, 1, .pop, 0, 0, []),
  (530, 1, .aload_n 2, 0, 0, []),
  (531, 1, .aload_n 0, 0, 0, []),
  (532, 1, .iload_n 3, 0, 0, []),
  (533, 1, .iconst 1, 8, 0, []),
  (534, 1, .iadd, 0, 0, []),
  (535, 1, .iaload, 0, 0, []),
  (536, 3, .invokevirtual 60, 83, 0, [(0, 1887)]),
  (539, 1, .pop, 0, 0, []),
  (540, 3, .goto (840), 0, 1380, []),
  (543, 1, .aload_n 1, 0, 0, []),
  (544, 1, .aload_n 0, 0, 0, []),
  (545, 1, .iload_n 3, 0, 0, []),
  (546, 1, .iconst 1, 8, 0, []),
  (547, 1, .iadd, 0, 0, []),
  (548, 1, .iaload, 0, 0, []),
  (549, 3, .invokevirtual 61, 162, 0, [(0, 1036)]),
  (552, 1, .pop, 0, 0, []),
  (553, 1, .aload_n 2, 0, 0, []),
  (554, 1, .aload_n 0, 0, 0, []),
  (555, 1, .iload_n 3, 0, 0, [])]
def gl_9 : List ga_E := [(556, 1, .iconst 1, 8, 0, []),
  (557, 1, .iadd, 0, 0, []),
  (558, 1, .iaload, 0, 0, []),
  (559, 3, .invokevirtual 64, 55, 0, [(0, 1891)]),
  (562, 1, .pop, 0, 0, []),
  (563, 3, .goto (817), 0, 1380, []),
  (566, 1, .aload_n 1, 0, 0, []),
  (567, 1, .aload_n 0, 0, 0, []),
  (568, 1, .iload_n 3, 0, 0, []),
  (569, 1, .iconst 1, 8, 0, []),
  (570, 1, .iadd, 0, 0, []),
  (571, 1, .iaload, 0, 0, []),
  (572, 3, .invokevirtual 65, 161, 0, [(0, 1041)]),
  (575, 1, .pop, 0, 0, []),
  (576, 1, .aload_n 2, 0, 0, []),
  (577, 1, .aload_n 0, 0, 0, []),
  (578, 1, .iload_n 3, 0, 0, []),
  (579, 1, .iconst 1, 8, 0, []),
  (580, 1, .iadd, 0, 0, []),
  (581, 1, .iaload, 0, 0, []),
  (582, 3, .invokevirtual 68, 54, 0, [(0, 1895)]),
  (585, 1, .pop, 0, 0, []),
  (586, 3, .goto (794), 0, 1380, []),
  (589, 1, .aload_n 1, 0, 0, []),
  (590, 3, .invokevirtual 69, 158, 0, [(0, 1045)]),
  (593, 1, .pop, 0, 0, []),
  (594, 1, .aload_n 2, 0, 0, []),
  (595, 3, .invokevirtual 73, 160, 0, [(0, 1899)]),
  (598, 1, .pop, 0, 0, []),
  (599, 3, .goto (781), 0, 1380, [])]
def gl_10 : List ga_E := [(602, 1, .aload_n 1, 0, 0, []),
  (603, 3, .invokevirtual 74, 155, 0, [(0, 1053)]),
  (606, 1, .pop, 0, 0, []),
  (607, 1, .aload_n 2, 0, 0, []),
  (608, 3, .invokevirtual 77, 157, 0, [(0, 1907)]),
  (611, 1, .pop, 0, 0, []),
  (612, 3, .goto (768), 0, 1380, []),
  (615, 1, .aload_n 1, 0, 0, []),
  (616, 3, .invokevirtual 78, 153, 0, [(0, 1061)]),
  (619, 1, .pop, 0, 0, []),
  (620, 1, .aload_n 2, 0, 0, []),
  (621, 3, .invokevirtual 81, 154, 0, [(0, 1802)]),
  (624, 1, .pop, 0, 0, []),
  (625, 3, .goto (755), 0, 1380, []),
  (628, 1, .aload_n 1, 0, 0, []),
  (629, 1, .aload_n 0, 0, 0, []),
  (630, 1, .iload_n 3, 0, 0, []),
  (631, 1, .iconst 1, 8, 0, []),
  (632, 1, .iadd, 0, 0, []),
  (633, 1, .iaload, 0, 0, []),
  (634, 3, .invokevirtual 82, 151, 0, [(0, 1065)]),
  (637, 1, .pop, 0, 0, []),
  (638, 1, .aload_n 2, 0, 0, []),
  (639, 1, .aload_n 0, 0, 0, []),
  (640, 1, .iload_n 3, 0, 0, []),
  (641, 1, .iconst 1, 8, 0, []),
  (642, 1, .iadd, 0, 0, []),
  (643, 1, .iaload, 0, 0, []),
  (644, 3, .invokevirtual 85, 53, 0, [(0, 1911)]),
  (647, 1, .pop, 0, 0, [])]
def gl_11 : List ga_E := [(648, 3, .goto (732), 0, 1380, []),
  (651, 1, .aload_n 1, 0, 0, []),
  (652, 1, .aload_n 0, 0, 0, []),
  (653, 1, .iload_n 3, 0, 0, []),
  (654, 1, .iconst 1, 8, 0, []),
  (655, 1, .iadd, 0, 0, []),
  (656, 1, .iaload, 0, 0, []),
  (657, 1, .aload_n 0, 0, 0, []),
  (658, 1, .iload_n 3, 0, 0, []),
  (659, 1, .iconst 2, 16, 0, []),
  (660, 1, .iadd, 0, 0, []),
  (661, 1, .iaload, 0, 0, []),
  (662, 1, .aload_n 0, 0, 0, []),
  (663, 1, .iload_n 3, 0, 0, []),
  (664, 1, .iconst 3, 24, 0, []),
  (665, 1, .iadd, 0, 0, []),
  (666, 1, .iaload, 0, 0, []),
  (667, 3, .invokevirtual 86, 150, 0, [(0, 1073)]),
  (670, 1, .pop, 0, 0, []),
  (671, 1, .aload_n 2, 0, 0, []),
  (672, 1, .aload_n 0, 0, 0, []),
  (673, 1, .iload_n 3, 0, 0, []),
  (674, 1, .iconst 1, 8, 0, []),
  (675, 1, .iadd, 0, 0, []),
  (676, 1, .iaload, 0, 0, []),
  (677, 1, .aload_n 0, 0, 0, []),
  (678, 1, .iload_n 3, 0, 0, []),
  (679, 1, .iconst 2, 16, 0, []),
  (680, 1, .iadd, 0, 0, []),
  (681, 1, .iaload, 0, 0, [])]
def gl_12 : List ga_E := [(682, 1, .aload_n 0, 0, 0, []),
  (683, 1, .iload_n 3, 0, 0, []),
  (684, 1, .iconst 3, 24, 0, []),
  (685, 1, .iadd, 0, 0, []),
  (686, 1, .iaload, 0, 0, []),
  (687, 3, .invokevirtual 90, 80, 0, [(0, 1923)]),
  (690, 1, .pop, 0, 0, []),
  (691, 3, .goto (689), 0, 1380, []),
  (694, 1, .aload_n 1, 0, 0, []),
  (695, 3, .invokevirtual 91, 148, 0, [(0, 1078)]),
  (698, 1, .pop, 0, 0, []),
  (699, 1, .aload_n 2, 0, 0, []),
  (700, 3, .invokevirtual 94, 149, 0, [(0, 1947)]),
  (703, 1, .pop, 0, 0, []),
  (704, 3, .goto (676), 0, 1380, []),
  (707, 1, .aload_n 1, 0, 0, []),
  (708, 3, .invokevirtual 95, 146, 0, [(0, 1117)]),
  (711, 1, .pop, 0, 0, []),
  (712, 1, .aload_n 2, 0, 0, []),
  (713, 3, .invokevirtual 98, 147, 0, [(0, 1992)]),
  (716, 1, .pop, 0, 0, []),
  (717, 3, .goto (663), 0, 1380, []),
  (720, 1, .aload_n 1, 0, 0, []),
  (721, 3, .invokevirtual 99, 144, 0, [(0, 1138)]),
  (724, 1, .pop, 0, 0, []),
  (725, 1, .aload_n 2, 0, 0, []),
  (726, 3, .invokevirtual 102, 145, 0, [(0, 1996)]),
  (729, 1, .pop, 0, 0, []),
  (730, 3, .goto (650), 0, 1380, []),
  (733, 1, .aload_n 1, 0, 0, [])]
def gl_13 : List ga_E := [(734, 1, .aload_n 0, 0, 0, []),
  (735, 1, .iload_n 3, 0, 0, []),
  (736, 1, .iconst 1, 8, 0, []),
  (737, 1, .iadd, 0, 0, []),
  (738, 1, .iaload, 0, 0, []),
  (739, 1, .aload_n 0, 0, 0, []),
  (740, 1, .iload_n 3, 0, 0, []),
  (741, 1, .iconst 2, 16, 0, []),
  (742, 1, .iadd, 0, 0, []),
  (743, 1, .iaload, 0, 0, []),
  (744, 3, .invokevirtual 103, 143, 0, [(0, 1142)]),
  (747, 1, .pop, 0, 0, []),
  (748, 1, .aload_n 2, 0, 0, []),
  (749, 1, .aload_n 0, 0, 0, []),
  (750, 1, .iload_n 3, 0, 0, []),
  (751, 1, .iconst 1, 8, 0, []),
  (752, 1, .iadd, 0, 0, []),
  (753, 1, .iaload, 0, 0, []),
  (754, 1, .aload_n 0, 0, 0, []),
  (755, 1, .iload_n 3, 0, 0, []),
  (756, 1, .iconst 2, 16, 0, []),
  (757, 1, .iadd, 0, 0, []),
  (758, 1, .iaload, 0, 0, []),
  (759, 3, .invokevirtual 106, 22, 0, [(0, 2005)]),
  (762, 1, .pop, 0, 0, []),
  (763, 3, .goto (617), 0, 1380, []),
  (766, 1, .aload_n 1, 0, 0, []),
  (767, 1, .aload_n 0, 0, 0, []),
  (768, 1, .iload_n 3, 0, 0, []),
  (769, 1, .iconst 1, 8, 0, [])]
def gl_14 : List ga_E := [(770, 1, .iadd, 0, 0, []),
  (771, 1, .iaload, 0, 0, []),
  (772, 3, .invokevirtual 107, 141, 0, [(0, 1159)]),
  (775, 1, .pop, 0, 0, []),
  (776, 1, .aload_n 2, 0, 0, []),
  (777, 1, .aload_n 0, 0, 0, []),
  (778, 1, .iload_n 3, 0, 0, []),
  (779, 1, .iconst 1, 8, 0, []),
  (780, 1, .iadd, 0, 0, []),
  (781, 1, .iaload, 0, 0, []),
  (782, 3, .invokevirtual 110, 39, 0, [(0, 2015)]),
  (785, 1, .pop, 0, 0, []),
  (786, 3, .goto (594), 0, 1380, []),
  (789, 1, .aload_n 1, 0, 0, []),
  (790, 3, .invokevirtual 111, 136, 0, [(0, 1177)]),
  (793, 1, .pop, 0, 0, []),
  (794, 1, .aload_n 2, 0, 0, []),
  (795, 3, .invokevirtual 114, 139, 0, [(0, 2019)]),
  (798, 1, .pop, 0, 0, []),
  (799, 3, .goto (581), 0, 1380, []),
  (802, 1, .aload_n 1, 0, 0, []),
  (803, 3, .invokevirtual 115, 134, 0, [(0, 1192)]),
  (806, 1, .pop, 0, 0, []),
  (807, 1, .aload_n 2, 0, 0, []),
  (808, 3, .invokevirtual 118, 135, 0, [(0, 2047)]),
  (811, 1, .pop, 0, 0, []),
  (812, 3, .goto (568), 0, 1380, []),
  (815, 1, .aload_n 1, 0, 0, []),
  (816, 1, .aload_n 0, 0, 0, []),
  (817, 1, .iload_n 3, 0, 0, [])]
def gl_15 : List ga_E := [(818, 1, .iconst 1, 8, 0, []),
  (819, 1, .iadd, 0, 0, []),
  (820, 1, .iaload, 0, 0, []),
  (821, 1, .aload_n 0, 0, 0, []),
  (822, 1, .iload_n 3, 0, 0, []),
  (823, 1, .iconst 2, 16, 0, []),
  (824, 1, .iadd, 0, 0, []),
  (825, 1, .iaload, 0, 0, []),
  (826, 3, .invokevirtual 119, 133, 0, [(0, 1205)]),
  (829, 1, .pop, 0, 0, []),
  (830, 1, .aload_n 2, 0, 0, []),
  (831, 1, .aload_n 0, 0, 0, []),
  (832, 1, .iload_n 3, 0, 0, []),
  (833, 1, .iconst 1, 8, 0, []),
  (834, 1, .iadd, 0, 0, []),
  (835, 1, .iaload, 0, 0, []),
  (836, 1, .aload_n 0, 0, 0, []),
  (837, 1, .iload_n 3, 0, 0, []),
  (838, 1, .iconst 2, 16, 0, []),
  (839, 1, .iadd, 0, 0, []),
  (840, 1, .iaload, 0, 0, []),
  (841, 3, .invokevirtual 122, 78, 0, [(0, 2000)]),
  (844, 1, .pop, 0, 0, []),
  (845, 3, .goto (535), 0, 1380, []),
  (848, 1, .aload_n 1, 0, 0, []),
  (849, 1, .aload_n 0, 0, 0, []),
  (850, 1, .iload_n 3, 0, 0, []),
  (851, 1, .iconst 1, 8, 0, []),
  (852, 1, .iadd, 0, 0, []),
  (853, 1, .iaload, 0, 0, [])]
def gl_16 : List ga_E := [(854, 3, .invokevirtual 123, 132, 0, [(0, 1209)]),
  (857, 1, .pop, 0, 0, []),
  (858, 1, .aload_n 2, 0, 0, []),
  (859, 1, .aload_n 0, 0, 0, []),
  (860, 1, .iload_n 3, 0, 0, []),
  (861, 1, .iconst 1, 8, 0, []),
  (862, 1, .iadd, 0, 0, []),
  (863, 1, .iaload, 0, 0, []),
  (864, 3, .invokevirtual 126, 38, 0, [(0, 1931)]),
  (867, 1, .pop, 0, 0, []),
  (868, 3, .goto (512), 0, 1380, []),
  (871, 1, .aload_n 1, 0, 0, []),
  (872, 1, .aload_n 0, 0, 0, []),
  (873, 1, .iload_n 3, 0, 0, []),
  (874, 1, .iconst 1, 8, 0, []),
  (875, 1, .iadd, 0, 0, []),
  (876, 1, .iaload, 0, 0, []),
  (877, 1, .aload_n 0, 0, 0, []),
  (878, 1, .iload_n 3, 0, 0, []),
  (879, 1, .iconst 2, 16, 0, []),
  (880, 1, .iadd, 0, 0, []),
  (881, 1, .iaload, 0, 0, []),
  (882, 3, .invokevirtual 127, 130, 0, [(0, 1220)]),
  (885, 1, .pop, 0, 0, []),
  (886, 1, .aload_n 2, 0, 0, []),
  (887, 1, .aload_n 0, 0, 0, []),
  (888, 1, .iload_n 3, 0, 0, []),
  (889, 1, .iconst 1, 8, 0, []),
  (890, 1, .iadd, 0, 0, []),
  (891, 1, .iaload, 0, 0, [])]
def gl_17 : List ga_E := [(892, 1, .aload_n 0, 0, 0, []),
  (893, 1, .iload_n 3, 0, 0, []),
  (894, 1, .iconst 2, 16, 0, []),
  (895, 1, .iadd, 0, 0, []),
  (896, 1, .iaload, 0, 0, []),
  (897, 3, .invokevirtual 130, 51, 0, [(0, 2059)]),
  (900, 1, .pop, 0, 0, []),
  (901, 3, .goto (479), 0, 1380, []),
  (904, 1, .aload_n 1, 0, 0, []),
  (905, 1, .aload_n 0, 0, 0, []),
  (906, 1, .iload_n 3, 0, 0, []),
  (907, 1, .iconst 1, 8, 0, []),
  (908, 1, .iadd, 0, 0, []),
  (909, 1, .iaload, 0, 0, []),
  (910, 3, .invokevirtual 131, 129, 0, [(0, 1242)]),
  (913, 1, .pop, 0, 0, []),
  (914, 1, .aload_n 2, 0, 0, []),
  (915, 1, .aload_n 0, 0, 0, []),
  (916, 1, .iload_n 3, 0, 0, []),
  (917, 1, .iconst 1, 8, 0, []),
  (918, 1, .iadd, 0, 0, []),
  (919, 1, .iaload, 0, 0, []),
  (920, 3, .invokevirtual 134, 76, 0, [(0, 2031)]),
  (923, 1, .pop, 0, 0, []),
  (924, 3, .goto (456), 0, 1380, []),
  (927, 1, .aload_n 1, 0, 0, []),
  (928, 3, .invokevirtual 135, 126, 0, [(0, 1250)]),
  (931, 1, .pop, 0, 0, []),
  (932, 1, .aload_n 2, 0, 0, []),
  (933, 3, .invokevirtual 138, 128, 0, [(0, 2043)])]
def gl_18 : List ga_E := [(936, 1, .pop, 0, 0, []),
  (937, 3, .goto (443), 0, 1380, []),
  (940, 1, .aload_n 1, 0, 0, []),
  (941, 1, .aload_n 0, 0, 0, []),
  (942, 1, .iload_n 3, 0, 0, []),
  (943, 1, .iconst 1, 8, 0, []),
  (944, 1, .iadd, 0, 0, []),
  (945, 1, .iaload, 0, 0, []),
  (946, 3, .invokevirtual 139, 125, 0, [(0, 1259)]),
  (949, 1, .pop, 0, 0, []),
  (950, 1, .aload_n 2, 0, 0, []),
  (951, 1, .aload_n 0, 0, 0, []),
  (952, 1, .iload_n 3, 0, 0, []),
  (953, 1, .iconst 1, 8, 0, []),
  (954, 1, .iadd, 0, 0, []),
  (955, 1, .iaload, 0, 0, []),
  (956, 3, .invokevirtual 142, 75, 0, [(0, 1829)]),
  (959, 1, .pop, 0, 0, []),
  (960, 3, .goto (420), 0, 1380, []),
  (963, 1, .aload_n 1, 0, 0, []),
  (964, 3, .invokevirtual 143, 123, 0, [(0, 1263)]),
  (967, 1, .pop, 0, 0, []),
  (968, 1, .aload_n 2, 0, 0, []),
  (969, 3, .invokevirtual 146, 124, 0, [(0, 1810)]),
  (972, 1, .pop, 0, 0, []),
  (973, 3, .goto (407), 0, 1380, []),
  (976, 1, .aload_n 1, 0, 0, []),
  (977, 3, .invokevirtual 147, 121, 0, [(0, 1267)]),
  (980, 1, .pop, 0, 0, []),
  (981, 1, .aload_n 2, 0, 0, [])]
def gl_19 : List ga_E := [(982, 3, .invokevirtual 150, 122, 0, [(0, 1817)]),
  (985, 1, .pop, 0, 0, []),
  (986, 3, .goto (394), 0, 1380, []),
  (989, 1, .aload_n 1, 0, 0, []),
  (990, 3, .invokevirtual 151, 119, 0, [(0, 1271)]),
  (993, 1, .pop, 0, 0, []),
  (994, 1, .aload_n 2, 0, 0, []),
  (995, 3, .invokevirtual 154, 120, 0, [(0, 1935)]),
  (998, 1, .pop, 0, 0, []),
  (999, 3, .goto (381), 0, 1380, []),
  (1002, 1, .aload_n 1, 0, 0, []),
  (1003, 3, .invokevirtual 155, 117, 0, [(0, 1279)]),
  (1006, 1, .pop, 0, 0, []),
  (1007, 1, .aload_n 2, 0, 0, []),
  (1008, 3, .invokevirtual 158, 118, 0, [(0, 1939)]),
  (1011, 1, .pop, 0, 0, []),
  (1012, 3, .goto (368), 0, 1380, []),
  (1015, 1, .aload_n 1, 0, 0, []),
  (1016, 1, .aload_n 0, 0, 0, []),
  (1017, 1, .iload_n 3, 0, 0, []),
  (1018, 1, .iconst 1, 8, 0, []),
  (1019, 1, .iadd, 0, 0, []),
  (1020, 1, .iaload, 0, 0, []),
  (1021, 3, .invokevirtual 159, 116, 0, [(0, 1283)]),
  (1024, 1, .pop, 0, 0, []),
  (1025, 1, .aload_n 2, 0, 0, []),
  (1026, 1, .aload_n 0, 0, 0, []),
  (1027, 1, .iload_n 3, 0, 0, []),
  (1028, 1, .iconst 1, 8, 0, []),
  (1029, 1, .iadd, 0, 0, [])]
def gl_20 : List ga_E := [(1030, 1, .iaload, 0, 0, []),
  (1031, 3, .invokevirtual 162, 36, 0, [(0, 1821)]),
  (1034, 1, .pop, 0, 0, []),
  (1035, 3, .goto (345), 0, 1380, []),
  (1038, 1, .aload_n 1, 0, 0, []),
  (1039, 1, .aload_n 0, 0, 0, []),
  (1040, 1, .iload_n 3, 0, 0, []),
  (1041, 1, .iconst 1, 8, 0, []),
  (1042, 1, .iadd, 0, 0, []),
  (1043, 1, .iaload, 0, 0, []),
  (1044, 3, .invokevirtual 163, 115, 0, [(0, 1288)]),
  (1047, 1, .pop, 0, 0, []),
  (1048, 1, .aload_n 2, 0, 0, []),
  (1049, 1, .aload_n 0, 0, 0, []),
  (1050, 1, .iload_n 3, 0, 0, []),
  (1051, 1, .iconst 1, 8, 0, []),
  (1052, 1, .iadd, 0, 0, []),
  (1053, 1, .iaload, 0, 0, []),
  (1054, 3, .invokevirtual 166, 49, 0, [(0, 1825)]),
  (1057, 1, .pop, 0, 0, []),
  (1058, 3, .goto (322), 0, 1380, []),
  (1061, 1, .aload_n 1, 0, 0, []),
  (1062, 1, .aload_n 0, 0, 0, []),
  (1063, 1, .iload_n 3, 0, 0, []),
  (1064, 1, .iconst 1, 8, 0, []),
  (1065, 1, .iadd, 0, 0, []),
  (1066, 1, .iaload, 0, 0, []),
  (1067, 1, .aload_n 0, 0, 0, []),
  (1068, 1, .iload_n 3, 0, 0, []),
  (1069, 1, .iconst 2, 16, 0, [])]
def gl_21 : List ga_E := [(1070, 1, .iadd, 0, 0, []),
  (1071, 1, .iaload, 0, 0, []),
  (1072, 3, .invokevirtual 167, 113, 0, [(0, 1292)]),
  (1075, 1, .pop, 0, 0, []),
  (1076, 1, .aload_n 2, 0, 0, []),
  (1077, 1, .aload_n 0, 0, 0, []),
  (1078, 1, .iload_n 3, 0, 0, []),
  (1079, 1, .iconst 1, 8, 0, []),
  (1080, 1, .iadd, 0, 0, []),
  (1081, 1, .iaload, 0, 0, []),
  (1082, 1, .aload_n 0, 0, 0, []),
  (1083, 1, .iload_n 3, 0, 0, []),
  (1084, 1, .iconst 2, 16, 0, []),
  (1085, 1, .iadd, 0, 0, []),
  (1086, 1, .iaload, 0, 0, []),
  (1087, 3, .invokevirtual 170, 16, 0, [(0, 2067)]),
  (1090, 1, .pop, 0, 0, []),
  (1091, 3, .goto (289), 0, 1380, []),
  (1094, 1, .aload_n 1, 0, 0, []),
  (1095, 1, .aload_n 0, 0, 0, []),
  (1096, 1, .iload_n 3, 0, 0, []),
  (1097, 1, .iconst 1, 8, 0, []),
  (1098, 1, .iadd, 0, 0, []),
  (1099, 1, .iaload, 0, 0, []),
  (1100, 3, .invokevirtual 171, 112, 0, [(0, 1300)]),
  (1103, 1, .pop, 0, 0, []),
  (1104, 1, .aload_n 2, 0, 0, []),
  (1105, 1, .aload_n 0, 0, 0, []),
  (1106, 1, .iload_n 3, 0, 0, []),
  (1107, 1, .iconst 1, 8, 0, [])]
def gl_22 : List ga_E := [(1108, 1, .iadd, 0, 0, []),
  (1109, 1, .iaload, 0, 0, []),
  (1110, 3, .invokevirtual 174, 70, 0, [(0, 1943)]),
  (1113, 1, .pop, 0, 0, []),
  (1114, 3, .goto (266), 0, 1380, []),
  (1117, 1, .aload_n 1, 0, 0, []),
  (1118, 1, .aload_n 0, 0, 0, []),
  (1119, 1, .iload_n 3, 0, 0, []),
  (1120, 1, .iconst 1, 8, 0, []),
  (1121, 1, .iadd, 0, 0, []),
  (1122, 1, .iaload, 0, 0, []),
  (1123, 1, .aload_n 0, 0, 0, []),
  (1124, 1, .iload_n 3, 0, 0, []),
  (1125, 1, .iconst 2, 16, 0, []),
  (1126, 1, .iadd, 0, 0, []),
  (1127, 1, .iaload, 0, 0, []),
  (1128, 1, .aload_n 0, 0, 0, []),
  (1129, 1, .iload_n 3, 0, 0, []),
  (1130, 1, .iconst 3, 24, 0, []),
  (1131, 1, .iadd, 0, 0, []),
  (1132, 1, .iaload, 0, 0, []),
  (1133, 3, .ifCond .eq (7), 0, 1140, []),
  (1136, 1, .iconst 1, 8, 0, []),
  (1137, 3, .goto (4), 0, 1141, []),
  (1140, 1, .iconst 0, 0, 0, []),
  (1141, 3, .invokevirtual 175, 48, 0, [(0, 1304)]),
  (1144, 1, .pop, 0, 0, []),
  (1145, 1, .aload_n 2, 0, 0, []),
  (1146, 1, .aload_n 0, 0, 0, []),
  (1147, 1, .iload_n 3, 0, 0, [])]
def gl_23 : List ga_E := [(1148, 1, .iconst 1, 8, 0, []),
  (1149, 1, .iadd, 0, 0, []),
  (1150, 1, .iaload, 0, 0, []),
  (1151, 1, .aload_n 0, 0, 0, []),
  (1152, 1, .iload_n 3, 0, 0, []),
  (1153, 1, .iconst 2, 16, 0, []),
  (1154, 1, .iadd, 0, 0, []),
  (1155, 1, .iaload, 0, 0, []),
  (1156, 1, .aload_n 0, 0, 0, []),
  (1157, 1, .iload_n 3, 0, 0, []),
  (1158, 1, .iconst 3, 24, 0, []),
  (1159, 1, .iadd, 0, 0, []),
  (1160, 1, .iaload, 0, 0, []),
  (1161, 3, .ifCond .eq (7), 0, 1168, []),
  (1164, 1, .iconst 1, 8, 0, []),
  (1165, 3, .goto (4), 0, 1169, []),
  (1168, 1, .iconst 0, 0, 0, []),
  (1169, 3, .invokevirtual 179, 24, 0, [(0, 2077)]),
  (1172, 1, .pop, 0, 0, []),
  (1173, 3, .goto (207), 0, 1380, []),
  (1176, 1, .aload_n 1, 0, 0, []),
  (1177, 1, .aload_n 0, 0, 0, []),
  (1178, 1, .iload_n 3, 0, 0, []),
  (1179, 1, .iconst 1, 8, 0, []),
  (1180, 1, .iadd, 0, 0, []),
  (1181, 1, .iaload, 0, 0, []),
  (1182, 3, .invokevirtual 180, 110, 0, [(0, 1312)]),
  (1185, 1, .pop, 0, 0, []),
  (1186, 1, .aload_n 2, 0, 0, []),
  (1187, 1, .aload_n 0, 0, 0, [])]
def gl_24 : List ga_E := [(1188, 1, .iload_n 3, 0, 0, []),
  (1189, 1, .iconst 1, 8, 0, []),
  (1190, 1, .iadd, 0, 0, []),
  (1191, 1, .iaload, 0, 0, []),
  (1192, 3, .invokevirtual 184, 69, 0, [(0, 2081)]),
  (1195, 1, .pop, 0, 0, []),
  (1196, 3, .goto (184), 0, 1380, []),
  (1199, 1, .aload_n 1, 0, 0, []),
  (1200, 1, .aload_n 0, 0, 0, []),
  (1201, 1, .iload_n 3, 0, 0, []),
  (1202, 1, .iconst 1, 8, 0, []),
  (1203, 1, .iadd, 0, 0, []),
  (1204, 1, .iaload, 0, 0, []),
  (1205, 3, .invokevirtual 185, 108, 0, [(0, 1320)]),
  (1208, 1, .aload_n 2, 0, 0, []),
  (1209, 1, .aload_n 0, 0, 0, []),
  (1210, 1, .iload_n 3, 0, 0, []),
  (1211, 1, .iconst 1, 8, 0, []),
  (1212, 1, .iadd, 0, 0, []),
  (1213, 1, .iaload, 0, 0, []),
  (1214, 3, .invokevirtual 188, 47, 0, [(0, 2085)]),
  (1217, 3, .if_icmp .eq (163), 0, 1380, []),
  (1220, 1, .iconst 0, 0, 0, []),
  (1221, 1, .ireturn, 0, 0, []),
  (1222, 1, .aload_n 1, 0, 0, []),
  (1223, 1, .aload_n 0, 0, 0, []),
  (1224, 1, .iload_n 3, 0, 0, []),
  (1225, 1, .iconst 1, 8, 0, []),
  (1226, 1, .iadd, 0, 0, []),
  (1227, 1, .iaload, 0, 0, [])]
def gl_25 : List ga_E := [(1228, 3, .invokevirtual 189, 107, 0, [(0, 1329)]),
  (1231, 1, .pop, 0, 0, []),
  (1232, 1, .aload_n 2, 0, 0, []),
  (1233, 1, .aload_n 0, 0, 0, []),
  (1234, 1, .iload_n 3, 0, 0, []),
  (1235, 1, .iconst 1, 8, 0, []),
  (1236, 1, .iadd, 0, 0, []),
  (1237, 1, .iaload, 0, 0, []),
  (1238, 3, .invokevirtual 192, 46, 0, [(0, 2089)]),
  (1241, 1, .pop, 0, 0, []),
  (1242, 3, .goto (138), 0, 1380, []),
  (1245, 1, .aload_n 1, 0, 0, []),
  (1246, 1, .aload_n 0, 0, 0, []),
  (1247, 1, .iload_n 3, 0, 0, []),
  (1248, 1, .iconst 1, 8, 0, []),
  (1249, 1, .iadd, 0, 0, []),
  (1250, 1, .iaload, 0, 0, []),
  (1251, 1, .aload_n 0, 0, 0, []),
  (1252, 1, .iload_n 3, 0, 0, []),
  (1253, 1, .iconst 2, 16, 0, []),
  (1254, 1, .iadd, 0, 0, []),
  (1255, 1, .iaload, 0, 0, []),
  (1256, 3, .invokevirtual 193, 105, 0, [(0, 1345)]),
  (1259, 1, .pop, 0, 0, []),
  (1260, 1, .aload_n 2, 0, 0, []),
  (1261, 1, .aload_n 0, 0, 0, []),
  (1262, 1, .iload_n 3, 0, 0, []),
  (1263, 1, .iconst 1, 8, 0, []),
  (1264, 1, .iadd, 0, 0, []),
  (1265, 1, .iaload, 0, 0, [])]
def gl_26 : List ga_E := [(1266, 1, .aload_n 0, 0, 0, []),
  (1267, 1, .iload_n 3, 0, 0, []),
  (1268, 1, .iconst 2, 16, 0, []),
  (1269, 1, .iadd, 0, 0, []),
  (1270, 1, .iaload, 0, 0, []),
  (1271, 3, .invokevirtual 196, 106, 0, [(0, 2101)]),
  (1274, 1, .pop, 0, 0, []),
  (1275, 3, .goto (105), 0, 1380, []),
  (1278, 1, .aload_n 1, 0, 0, []),
  (1279, 1, .aload_n 0, 0, 0, []),
  (1280, 1, .iload_n 3, 0, 0, []),
  (1281, 1, .iconst 1, 8, 0, []),
  (1282, 1, .iadd, 0, 0, []),
  (1283, 1, .iaload, 0, 0, []),
  (1284, 1, .aload_n 0, 0, 0, []),
  (1285, 1, .iload_n 3, 0, 0, []),
  (1286, 1, .iconst 2, 16, 0, []),
  (1287, 1, .iadd, 0, 0, []),
  (1288, 1, .iaload, 0, 0, []),
  (1289, 3, .invokevirtual 197, 103, 0, [(0, 1355)]),
  (1292, 1, .pop, 0, 0, []),
  (1293, 1, .aload_n 2, 0, 0, []),
  (1294, 1, .aload_n 0, 0, 0, []),
  (1295, 1, .iload_n 3, 0, 0, []),
  (1296, 1, .iconst 1, 8, 0, []),
  (1297, 1, .iadd, 0, 0, []),
  (1298, 1, .iaload, 0, 0, []),
  (1299, 1, .aload_n 0, 0, 0, []),
  (1300, 1, .iload_n 3, 0, 0, []),
  (1301, 1, .iconst 2, 16, 0, [])]
def gl_27 : List ga_E := [(1302, 1, .iadd, 0, 0, []),
  (1303, 1, .iaload, 0, 0, []),
  (1304, 3, .invokevirtual 200, 104, 0, [(0, 2106)]),
  (1307, 1, .pop, 0, 0, []),
  (1308, 3, .goto (72), 0, 1380, []),
  (1311, 1, .aload_n 1, 0, 0, []),
  (1312, 1, .aload_n 0, 0, 0, []),
  (1313, 1, .iload_n 3, 0, 0, []),
  (1314, 1, .iconst 1, 8, 0, []),
  (1315, 1, .iadd, 0, 0, []),
  (1316, 1, .iaload, 0, 0, []),
  (1317, 3, .invokevirtual 201, 102, 0, [(0, 1369)]),
  (1320, 1, .pop, 0, 0, []),
  (1321, 1, .aload_n 2, 0, 0, []),
  (1322, 1, .aload_n 0, 0, 0, []),
  (1323, 1, .iload_n 3, 0, 0, []),
  (1324, 1, .iconst 1, 8, 0, []),
  (1325, 1, .iadd, 0, 0, []),
  (1326, 1, .iaload, 0, 0, []),
  (1327, 3, .invokevirtual 204, 26, 0, [(0, 2114)]),
  (1330, 1, .pop, 0, 0, []),
  (1331, 3, .goto (49), 0, 1380, []),
  (1334, 1, .aload_n 1, 0, 0, []),
  (1335, 1, .aload_n 0, 0, 0, []),
  (1336, 1, .iload_n 3, 0, 0, []),
  (1337, 1, .iconst 1, 8, 0, []),
  (1338, 1, .iadd, 0, 0, []),
  (1339, 1, .iaload, 0, 0, []),
  (1340, 3, .invokevirtual 205, 101, 0, [(0, 1373)]),
  (1343, 1, .pop, 0, 0, [])]
def gl_28 : List ga_E := [(1344, 1, .aload_n 2, 0, 0, []),
  (1345, 1, .aload_n 0, 0, 0, []),
  (1346, 1, .iload_n 3, 0, 0, []),
  (1347, 1, .iconst 1, 8, 0, []),
  (1348, 1, .iadd, 0, 0, []),
  (1349, 1, .iaload, 0, 0, []),
  (1350, 3, .invokevirtual 208, 44, 0, [(0, 2118)]),
  (1353, 1, .pop, 0, 0, []),
  (1354, 3, .goto (26), 0, 1380, []),
  (1357, 1, .aload_n 1, 0, 0, []),
  (1358, 1, .aload_n 0, 0, 0, []),
  (1359, 1, .iload_n 3, 0, 0, []),
  (1360, 1, .iconst 1, 8, 0, []),
  (1361, 1, .iadd, 0, 0, []),
  (1362, 1, .iaload, 0, 0, []),
  (1363, 3, .invokevirtual 209, 100, 0, [(0, 1377)]),
  (1366, 1, .pop, 0, 0, []),
  (1367, 1, .aload_n 2, 0, 0, []),
  (1368, 1, .aload_n 0, 0, 0, []),
  (1369, 1, .iload_n 3, 0, 0, []),
  (1370, 1, .iconst 1, 8, 0, []),
  (1371, 1, .iadd, 0, 0, []),
  (1372, 1, .iaload, 0, 0, []),
  (1373, 3, .invokevirtual 212, 14, 0, [(0, 2122)]),
  (1376, 1, .pop, 0, 0, []),
  (1377, 3, .goto (3), 0, 1380, []),
  (1380, 3, .iinc 3 (6), 48, 0, []),
  (1383, 3, .goto (-1365), 0, 18, []),
  (1386, 1, .iconst 1, 8, 0, []),
  (1387, 1, .ireturn, 0, 0, [])]
def gl_law : List ga_E := gl_0 ++ (gl_1 ++ (gl_2 ++ (gl_3 ++ (gl_4 ++ (gl_5 ++ (gl_6 ++ (gl_7 ++ (gl_8 ++ (gl_9 ++ (gl_10 ++ (gl_11 ++ (gl_12 ++ (gl_13 ++ (gl_14 ++ (gl_15 ++ (gl_16 ++ (gl_17 ++ (gl_18 ++ (gl_19 ++ (gl_20 ++ (gl_21 ++ (gl_22 ++ (gl_23 ++ (gl_24 ++ (gl_25 ++ (gl_26 ++ (gl_27 ++ (gl_28))))))))))))))))))))))))))))
noncomputable def ga_okp (own : String) (cc : ByteArray) (ini : Bool) (nL nxt : Nat) : List ga_E → Bool
  | [] => true
  | e :: r => ga_oe own cc ini nL e && (match r with | [] => Nat.beq nxt (e.1 + e.2.1) | e2 :: _ => Nat.beq e2.1 (e.1 + e.2.1)) && ga_okp own cc ini nL nxt r
theorem ga_okp_ok {own : String} {cc : ByteArray} {ini : Bool} {nL nxt : Nat} {r : List ga_E} (hr : ga_okc own cc ini nL r) (hp : ga_pc r = nxt) : ∀ {l : List ga_E}, ga_okp own cc ini nL nxt l = true → ga_okc own cc ini nL (l ++ r)
  | [], _ => hr
  | e :: t, h => by
    unfold ga_okp at h
    simp only [Bool.and_eq_true] at h
    refine ⟨h.1.1, ?_, ga_okp_ok hr hp h.2⟩
    cases t with
    | nil => exact Or.inr (hp.trans (Nat.eq_of_beq_eq_true h.1.2))
    | cons e2 t => exact Or.inr (Nat.eq_of_beq_eq_true h.1.2)
theorem gl_k0 : ga_okp "GravyRoundLaw" code false 4 248 gl_0 = true := by decide +kernel
theorem gl_k1 : ga_okp "GravyRoundLaw" code false 4 280 gl_1 = true := by decide +kernel
theorem gl_k2 : ga_okp "GravyRoundLaw" code false 4 316 gl_2 = true := by decide +kernel
theorem gl_k3 : ga_okp "GravyRoundLaw" code false 4 362 gl_3 = true := by decide +kernel
theorem gl_k4 : ga_okp "GravyRoundLaw" code false 4 398 gl_4 = true := by decide +kernel
theorem gl_k5 : ga_okp "GravyRoundLaw" code false 4 436 gl_5 = true := by decide +kernel
theorem gl_k6 : ga_okp "GravyRoundLaw" code false 4 478 gl_6 = true := by decide +kernel
theorem gl_k7 : ga_okp "GravyRoundLaw" code false 4 516 gl_7 = true := by decide +kernel
theorem gl_k8 : ga_okp "GravyRoundLaw" code false 4 556 gl_8 = true := by decide +kernel
theorem gl_k9 : ga_okp "GravyRoundLaw" code false 4 602 gl_9 = true := by decide +kernel
theorem gl_k10 : ga_okp "GravyRoundLaw" code false 4 648 gl_10 = true := by decide +kernel
theorem gl_k11 : ga_okp "GravyRoundLaw" code false 4 682 gl_11 = true := by decide +kernel
theorem gl_k12 : ga_okp "GravyRoundLaw" code false 4 734 gl_12 = true := by decide +kernel
theorem gl_k13 : ga_okp "GravyRoundLaw" code false 4 770 gl_13 = true := by decide +kernel
theorem gl_k14 : ga_okp "GravyRoundLaw" code false 4 818 gl_14 = true := by decide +kernel
theorem gl_k15 : ga_okp "GravyRoundLaw" code false 4 854 gl_15 = true := by decide +kernel
theorem gl_k16 : ga_okp "GravyRoundLaw" code false 4 892 gl_16 = true := by decide +kernel
theorem gl_k17 : ga_okp "GravyRoundLaw" code false 4 936 gl_17 = true := by decide +kernel
theorem gl_k18 : ga_okp "GravyRoundLaw" code false 4 982 gl_18 = true := by decide +kernel
theorem gl_k19 : ga_okp "GravyRoundLaw" code false 4 1030 gl_19 = true := by decide +kernel
theorem gl_k20 : ga_okp "GravyRoundLaw" code false 4 1070 gl_20 = true := by decide +kernel
theorem gl_k21 : ga_okp "GravyRoundLaw" code false 4 1108 gl_21 = true := by decide +kernel
theorem gl_k22 : ga_okp "GravyRoundLaw" code false 4 1148 gl_22 = true := by decide +kernel
theorem gl_k23 : ga_okp "GravyRoundLaw" code false 4 1188 gl_23 = true := by decide +kernel
theorem gl_k24 : ga_okp "GravyRoundLaw" code false 4 1228 gl_24 = true := by decide +kernel
theorem gl_k25 : ga_okp "GravyRoundLaw" code false 4 1266 gl_25 = true := by decide +kernel
theorem gl_k26 : ga_okp "GravyRoundLaw" code false 4 1302 gl_26 = true := by decide +kernel
theorem gl_k27 : ga_okp "GravyRoundLaw" code false 4 1344 gl_27 = true := by decide +kernel
theorem gl_k28 : ga_okb "GravyRoundLaw" code false 4 gl_28 = true := by decide +kernel
theorem gl_ok : ga_okc "GravyRoundLaw" code false 4 gl_law := ga_okp_ok (ga_okp_ok (ga_okp_ok (ga_okp_ok (ga_okp_ok (ga_okp_ok (ga_okp_ok (ga_okp_ok (ga_okp_ok (ga_okp_ok (ga_okp_ok (ga_okp_ok (ga_okp_ok (ga_okp_ok (ga_okp_ok (ga_okp_ok (ga_okp_ok (ga_okp_ok (ga_okp_ok (ga_okp_ok (ga_okp_ok (ga_okp_ok (ga_okp_ok (ga_okp_ok (ga_okp_ok (ga_okp_ok (ga_okp_ok (ga_okp_ok (ga_okb_ok gl_k28) rfl gl_k27) rfl gl_k26) rfl gl_k25) rfl gl_k24) rfl gl_k23) rfl gl_k22) rfl gl_k21) rfl gl_k20) rfl gl_k19) rfl gl_k18) rfl gl_k17) rfl gl_k16) rfl gl_k15) rfl gl_k14) rfl gl_k13) rfl gl_k12) rfl gl_k11) rfl gl_k10) rfl gl_k9) rfl gl_k8) rfl gl_k7) rfl gl_k6) rfl gl_k5) rfl gl_k4) rfl gl_k3) rfl gl_k2) rfl gl_k1) rfl gl_k0
end
section
/-! the plain readings of the machine's words -/
theorem ga_f_eq {β : Type} (n : Nat) (K : Nat → β) : ga_f n K = K n := by cases n <;> rfl
theorem ga_if_t {α : Type} {t e : α} : ga_if true t e = t := rfl
theorem ga_if_f {α : Type} {t e : α} : ga_if false t e = e := rfl
theorem ga_if_eq {α : Type} (b : Bool) (t e : α) : ga_if b t e = if b = true then t else e := by cases b <;> rfl
theorem ga_nth_eq {α : Type} (d : α) (l : List α) (n : Nat) : ga_nth d l n = l.getD n d := by
  induction l generalizing n with
  | nil => rfl
  | cons x r ih => cases n with
    | zero => rfl
    | succ m => exact (ih m).trans (by simp)
theorem ga_set_eq {α β : Type} (l : List α) (n : Nat) (v : α) (K : List α → β) : ga_set l n v K = K (l.set n v) := by
  induction l generalizing n K with
  | nil => rfl
  | cons x r ih => cases n with
    | zero => rfl
    | succ m => exact ih m (fun r' => K (x :: r'))
/-- the value behind a store in an array's list: what is beyond its end is the kind's first value -/
theorem ga_put_eq {β : Type} (d : Nat) (l : List Nat) (n v : Nat) (K : List Nat → β) : ∃ l' : List Nat, ga_put d l n v K = K l' ∧ ∀ j, l'.getD j d = if j = n then v else l.getD j d := by
  induction l generalizing n K with
  | nil =>
    induction n generalizing K with
    | zero => exact ⟨[v], rfl, fun j => by cases j with | zero => rfl | succ j => simp⟩
    | succ m ih =>
      obtain ⟨l', h1, h2⟩ := ih (fun r => K (d :: r))
      refine ⟨d :: l', h1, fun j => ?_⟩
      cases j with
      | zero => simp
      | succ j =>
        have := h2 j
        simp only [List.getD_cons_succ, Nat.add_right_cancel_iff, List.getD_nil] at this ⊢
        exact this
  | cons x r ih => cases n with
    | zero => exact ⟨v :: r, rfl, fun j => by cases j with | zero => rfl | succ j => simp⟩
    | succ m =>
      obtain ⟨l', h1, h2⟩ := ih m (fun r' => K (x :: r'))
      refine ⟨x :: l', h1, fun j => ?_⟩
      cases j with
      | zero => simp
      | succ j =>
        have := h2 j
        simp only [List.getD_cons_succ, Nat.add_right_cancel_iff] at this ⊢
        exact this
theorem ga_getD_set {α : Type} (l : List α) (n j : Nat) (v d : α) : (l.set n v).getD j d = if j = n ∧ n < l.length then v else l.getD j d := by
  simp only [List.getD_eq_getElem?_getD, List.getElem?_set]
  by_cases h : n = j
  · subst h
    by_cases h2 : n < l.length
    · simp [h2]
    · simp [h2]
  · have h3 : ¬ j = n := fun q => h q.symm
    simp [h, h3]
/-- a heap behind a store: what is read there is the new cell, or was there -/
theorem ga_hs_eq {β : Type} (h : ga_H) (k : Nat) (c : ga_C) (K : ga_H → β) : ∃ h' : ga_H, ga_hs h k c K = K h' ∧ ∀ j, (j = k ∧ ga_hg h' j = c) ∨ ga_hg h' j = ga_hg h j := by
  refine ⟨h.set (k / 16) ((h.getD (k / 16) []).set (k % 16) c), ?_, fun j => ?_⟩
  · simp only [ga_hs, ga_set_eq, ga_nth_eq]
  · simp only [ga_hg, ga_nth_eq]
    rw [ga_getD_set]
    by_cases h1 : j / 16 = k / 16 ∧ k / 16 < h.length
    · rw [if_pos h1, ga_getD_set]
      by_cases h2 : j % 16 = k % 16 ∧ k % 16 < (h.getD (k / 16) []).length
      · rw [if_pos h2]
        exact Or.inl ⟨by omega, rfl⟩
      · rw [if_neg h2, h1.1]
        exact Or.inr rfl
    · rw [if_neg h1]
      exact Or.inr rfl
theorem ga_all_mem {α : Type} {l : List α} {K : α → Option (List ga_O)} {os : List ga_O} (h : ga_all l K = some os) {q : α} (hq : q ∈ l) : ∃ o1, K q = some o1 ∧ ∀ z ∈ o1, z ∈ os := by
  induction l generalizing os with
  | nil => cases hq
  | cons x r ih =>
    cases r with
    | nil =>
      rcases List.mem_cons.mp hq with rfl | h2
      · exact ⟨os, h, fun _ hz => hz⟩
      · cases h2
    | cons y t =>
      have h1 : ga_cat (K x) (ga_all (y :: t) K) = some os := h
      unfold ga_cat at h1
      cases hx : K x with
      | none => rw [hx] at h1; cases h1
      | some a =>
        rw [hx] at h1
        cases hb : ga_all (y :: t) K with
        | none => rw [hb] at h1; cases h1
        | some b =>
          rw [hb] at h1
          have h3 : a ++ b = os := Option.some.inj h1
          rcases List.mem_cons.mp hq with rfl | h2
          · exact ⟨a, hx, fun z hz => by rw [← h3]; exact List.mem_append_left _ hz⟩
          · obtain ⟨o1, g1, g2⟩ := ih hb h2
            exact ⟨o1, g1, fun z hz => by rw [← h3]; exact List.mem_append_right _ (g2 z hz)⟩
/-- ints as numbers, in their order -/
def ga_kk (x : Int32) : Nat := (x.toInt + 2147483648).toNat
theorem ga_kk_lt {x y : Int32} : x < y ↔ ga_kk x < ga_kk y := by
  have h1 := Int32.le_toInt x
  have h2 := Int32.le_toInt y
  rw [Int32.lt_iff_toInt_lt]
  unfold ga_kk
  omega
theorem ga_kk_eq {x y : Int32} : x = y ↔ ga_kk x = ga_kk y := by
  have h1 := Int32.le_toInt x
  have h2 := Int32.le_toInt y
  refine ⟨fun h => by rw [h], fun h => Int32.toInt_inj.mp ?_⟩
  unfold ga_kk at h
  omega
theorem ga_kk_le (x : Int32) : ga_kk x ≤ 4294967295 := by
  have h1 := Int32.toInt_lt x
  unfold ga_kk
  omega
theorem ga_kk_nI {n : Nat} (h : n < 4294967296) : ga_kk (nI n) = ga_key n := by
  unfold ga_kk ga_key nI
  rw [Int32.toInt_ofNat']
  simp only [Int.bmod, Int32.size]
  split <;> omega
theorem ga_key_key {n : Nat} (h : n < 4294967296) : ga_key (ga_key n) = n := by
  unfold ga_key
  omega
theorem ga_key_lt (n : Nat) : ga_key n < 4294967296 := Nat.mod_lt _ (by decide)
/-- what a value of the machine says of a value -/
def ga_vr (ρ : Nat → Int32) (oa : Nat → Nat) (ad : List Nat) (v : Nat) (x : Value) : Prop :=
  match v % 8 with
  | 0 => v / 8 < 4294967296 ∧ x = .int (nI (v / 8))
  | 1 => x = .int (ρ (v / 8))
  | 2 => ∃ y : Int32, x = .int y
  | 3 => ∃ a, ad[v / 8]? = some a ∧ x = .ref a
  | 4 => x = .null
  | 5 => v / 8 < 18446744073709551616 ∧ x = .long (lN (v / 8))
  | 6 => x = .ref (oa (v / 8))
  | _ => False
/-- the symbols are in their bounds -/
def ga_in (ρ : Nat → Int32) (iv : ga_I) : Prop := ∀ i, (ga_iv iv i).1 ≤ ga_kk (ρ i) ∧ ga_kk (ρ i) ≤ (ga_iv iv i).2
section GV
variable {ρ : Nat → Int32} {oa : Nat → Nat} {ad : List Nat}
theorem ga_in_set {iv : ga_I} (h : ga_in ρ iv) {i lo hi : Nat} (h1 : lo ≤ ga_kk (ρ i)) (h2 : ga_kk (ρ i) ≤ hi) : ga_in ρ (iv.set i (lo, hi)) := by
  intro j
  unfold ga_iv
  rw [ga_nth_eq, ga_getD_set]
  by_cases hj : j = i ∧ i < iv.length
  · rw [if_pos hj, hj.1]
    exact ⟨h1, h2⟩
  · rw [if_neg hj, ← ga_nth_eq]
    exact h j
theorem ga_vr_0 {v : Nat} {x : Value} (h : v % 8 = 0) : ga_vr ρ oa ad v x ↔ v / 8 < 4294967296 ∧ x = .int (nI (v / 8)) := by unfold ga_vr; rw [h]; exact Iff.rfl
theorem ga_vr_1 {v : Nat} {x : Value} (h : v % 8 = 1) : ga_vr ρ oa ad v x ↔ x = .int (ρ (v / 8)) := by unfold ga_vr; rw [h]; exact Iff.rfl
theorem ga_vr_2 {v : Nat} {x : Value} (h : v % 8 = 2) : ga_vr ρ oa ad v x ↔ ∃ y : Int32, x = .int y := by unfold ga_vr; rw [h]; exact Iff.rfl
theorem ga_vr_3 {v : Nat} {x : Value} (h : v % 8 = 3) : ga_vr ρ oa ad v x ↔ ∃ a, ad[v / 8]? = some a ∧ x = .ref a := by unfold ga_vr; rw [h]; exact Iff.rfl
theorem ga_vr_4 {v : Nat} {x : Value} (h : v % 8 = 4) : ga_vr ρ oa ad v x ↔ x = .null := by unfold ga_vr; rw [h]; exact Iff.rfl
theorem ga_vr_5 {v : Nat} {x : Value} (h : v % 8 = 5) : ga_vr ρ oa ad v x ↔ v / 8 < 18446744073709551616 ∧ x = .long (lN (v / 8)) := by unfold ga_vr; rw [h]; exact Iff.rfl
theorem ga_vr_6 {v : Nat} {x : Value} (h : v % 8 = 6) : ga_vr ρ oa ad v x ↔ x = .ref (oa (v / 8)) := by unfold ga_vr; rw [h]; exact Iff.rfl
theorem ga_vr_7 {v : Nat} {x : Value} (h : v % 8 = 7) : ¬ ga_vr ρ oa ad v x := by unfold ga_vr; rw [h]; exact id
theorem ga_vr_mono {v : Nat} {x : Value} (q : Nat) (h : ga_vr ρ oa ad v x) : ga_vr ρ oa (ad ++ [q]) v x := by
  have h8 : v % 8 < 8 := Nat.mod_lt _ (by decide)
  by_cases h3 : v % 8 = 3
  · obtain ⟨a, h1, h2⟩ := (ga_vr_3 h3).mp h
    refine (ga_vr_3 h3).mpr ⟨a, ?_, h2⟩
    rw [List.getElem?_append_left (by
      rcases Nat.lt_or_ge (v / 8) ad.length with hl | hl
      · exact hl
      · rw [List.getElem?_eq_none hl] at h1; cases h1)]
    exact h1
  · unfold ga_vr at h ⊢
    generalize v % 8 = t at h h3 h8 ⊢
    match t, h3, h8, h with
    | 0, _, _, h => exact h
    | 1, _, _, h => exact h
    | 2, _, _, h => exact h
    | 4, _, _, h => exact h
    | 5, _, _, h => exact h
    | 6, _, _, h => exact h
    | 7, _, _, h => exact h
theorem ga_int_le {v : Nat} (h : ga_int v = true) : v % 8 = 0 ∨ v % 8 = 1 ∨ v % 8 = 2 := by
  have : v % 8 ≤ 2 := Nat.le_of_ble_eq_true h
  omega
theorem ga_vr_int {v : Nat} {x : Value} (h : ga_int v = true) (hx : ga_vr ρ oa ad v x) : ∃ y : Int32, x = .int y := by
  rcases ga_int_le h with h | h | h
  · exact ⟨_, ((ga_vr_0 h).mp hx).2⟩
  · exact ⟨_, (ga_vr_1 h).mp hx⟩
  · exact (ga_vr_2 h).mp hx
theorem ga_beq {a b : Nat} : (Nat.beq a b = true) = (a = b) := by simp
theorem ga_lohi {iv : ga_I} (hi : ga_in ρ iv) {v : Nat} {y : Int32} (hx : ga_vr ρ oa ad v (.int y)) : ga_lo iv v ≤ ga_kk y ∧ ga_kk y ≤ ga_hi iv v := by
  unfold ga_lo ga_hi
  simp only [ga_if_eq, ga_beq]
  by_cases h0 : v % 8 = 0
  · obtain ⟨h1, h2⟩ := (ga_vr_0 h0).mp hx
    cases h2
    rw [if_pos h0, if_pos h0, ga_kk_nI h1]
    exact ⟨Nat.le_refl _, Nat.le_refl _⟩
  · rw [if_neg h0, if_neg h0]
    by_cases h1 : v % 8 = 1
    · have h2 := (ga_vr_1 h1).mp hx
      cases h2
      rw [if_pos h1, if_pos h1]
      exact hi _
    · rw [if_neg h1, if_neg h1]
      exact ⟨Nat.zero_le _, ga_kk_le y⟩
theorem ga_lt_ok {iv : ga_I} (hi : ga_in ρ iv) {x y : Nat} {X Y : Int32} (hx : ga_vr ρ oa ad x (.int X)) (hy : ga_vr ρ oa ad y (.int Y)) : ∃ q ∈ ga_lt iv x y, ga_in ρ q.2 ∧ (q.1 = true ↔ X < Y) := by
  obtain ⟨a1, a2⟩ := ga_lohi hi hx
  obtain ⟨b1, b2⟩ := ga_lohi hi hy
  unfold ga_lt
  simp only [ga_f_eq, ga_set_eq, ga_if_eq, Bool.and_eq_true, ga_beq, Nat.blt_eq, Nat.ble_eq]
  rw [ga_kk_lt]
  split
  · exact ⟨_, List.mem_singleton.mpr rfl, hi, by simp; omega⟩
  · split
    · exact ⟨_, List.mem_singleton.mpr rfl, hi, by simp; omega⟩
    · split
      · rename_i h1 h2 h3
        have e1 := (ga_vr_1 h3.1).mp hx
        cases e1
        by_cases hc : ga_kk (ρ (x / 8)) < ga_kk Y
        · exact ⟨_, List.mem_cons_self, ga_in_set hi a1 (by omega), by simp; omega⟩
        · exact ⟨_, List.mem_cons_of_mem _ List.mem_cons_self, ga_in_set hi (by omega) a2, by simp; omega⟩
      · split
        · rename_i h1 h2 h3 h4
          have e1 := (ga_vr_1 h4.1).mp hy
          cases e1
          by_cases hc : ga_kk X < ga_kk (ρ (y / 8))
          · exact ⟨_, List.mem_cons_self, ga_in_set hi (by omega) b2, by simp; omega⟩
          · exact ⟨_, List.mem_cons_of_mem _ List.mem_cons_self, ga_in_set hi b1 (by omega), by simp; omega⟩
        · by_cases hc : ga_kk X < ga_kk Y
          · exact ⟨_, List.mem_cons_self, hi, by simp; omega⟩
          · exact ⟨_, List.mem_cons_of_mem _ List.mem_cons_self, hi, by simp; omega⟩
theorem ga_eq3_ok {iv : ga_I} (hi : ga_in ρ iv) {i lo hh c : Nat} (h1 : lo ≤ ga_kk (ρ i)) (h2 : ga_kk (ρ i) ≤ hh) : ∃ q ∈ ga_eq3 iv i lo hh c, ga_in ρ q.2 ∧ (q.1 = true ↔ ga_kk (ρ i) = c) := by
  unfold ga_eq3
  simp only [ga_f_eq, ga_set_eq, ga_if_eq, Nat.blt_eq]
  rcases Nat.lt_trichotomy (ga_kk (ρ i)) c with h | h | h
  · rw [if_pos (by omega : lo < c)]
    split <;> exact ⟨_, List.mem_cons_self, ga_in_set hi h1 (by omega), by simp; omega⟩
  · split <;> split
    · exact ⟨_, List.mem_cons_of_mem _ List.mem_cons_self, ga_in_set hi (by omega) (by omega), by simp; omega⟩
    · exact ⟨_, List.mem_cons_of_mem _ List.mem_cons_self, ga_in_set hi (by omega) (by omega), by simp; omega⟩
    · exact ⟨_, List.mem_cons_self, ga_in_set hi (by omega) (by omega), by simp; omega⟩
    · exact ⟨_, List.mem_cons_self, ga_in_set hi (by omega) (by omega), by simp; omega⟩
  · have hc : c < hh := by omega
    rw [if_pos hc, if_pos hc]
    split
    · exact ⟨_, List.mem_cons_of_mem _ (List.mem_cons_of_mem _ List.mem_cons_self), ga_in_set hi (by omega) h2, by simp; omega⟩
    · exact ⟨_, List.mem_cons_of_mem _ List.mem_cons_self, ga_in_set hi (by omega) h2, by simp; omega⟩
theorem ga_eq_ok {iv : ga_I} (hi : ga_in ρ iv) {x y : Nat} {X Y : Int32} (hx : ga_vr ρ oa ad x (.int X)) (hy : ga_vr ρ oa ad y (.int Y)) : ∃ q ∈ ga_eq iv x y, ga_in ρ q.2 ∧ (q.1 = true ↔ X = Y) := by
  obtain ⟨a1, a2⟩ := ga_lohi hi hx
  obtain ⟨b1, b2⟩ := ga_lohi hi hy
  unfold ga_eq
  simp only [ga_f_eq, ga_if_eq, Bool.and_eq_true, Bool.or_eq_true, ga_beq, Nat.blt_eq, Nat.ble_eq]
  rw [ga_kk_eq]
  split
  · exact ⟨_, List.mem_singleton.mpr rfl, hi, by simp; omega⟩
  · split
    · exact ⟨_, List.mem_singleton.mpr rfl, hi, by simp; omega⟩
    · split
      · rename_i h1 h2 h3
        obtain ⟨rfl, h3⟩ := h3
        have e1 := (ga_vr_1 h3).mp hx
        have e2 := (ga_vr_1 h3).mp hy
        cases e1
        cases e2
        exact ⟨_, List.mem_singleton.mpr rfl, hi, by simp⟩
      · split
        · rename_i h1 h2 h3 h4
          have e1 := (ga_vr_1 h4.1).mp hx
          cases e1
          obtain ⟨q, g1, g2, g3⟩ := ga_eq3_ok hi (c := ga_lo iv y) a1 a2
          exact ⟨q, g1, g2, g3.trans (by omega)⟩
        · split
          · rename_i h1 h2 h3 h4 h5
            have e1 := (ga_vr_1 h5.1).mp hy
            cases e1
            obtain ⟨q, g1, g2, g3⟩ := ga_eq3_ok hi (c := ga_lo iv x) b1 b2
            exact ⟨q, g1, g2, g3.trans (by omega)⟩
          · by_cases hc : ga_kk X = ga_kk Y
            · exact ⟨_, List.mem_cons_self, hi, by simp; omega⟩
            · exact ⟨_, List.mem_cons_of_mem _ List.mem_cons_self, hi, by simp; omega⟩
theorem ga_sm_ok {iv : ga_I} (hi : ga_in ρ iv) {v : Nat} {x : Value} (hx : ga_vr ρ oa ad v x) : ga_vr ρ oa ad (ga_sm iv v) x := by
  unfold ga_sm
  simp only [ga_if_eq, ga_beq]
  split
  · rename_i h1
    split
    · rename_i h2
      have e1 := (ga_vr_1 h1).mp hx
      subst e1
      have g1 := (hi (v / 8)).1
      have g2 := (hi (v / 8)).2
      have hk : ga_kk (ρ (v / 8)) = (ga_iv iv (v / 8)).1 := by omega
      rw [← hk]
      refine (ga_vr_0 (by omega)).mpr ?_
      have e2 : 8 * ga_key (ga_kk (ρ (v / 8))) / 8 = ga_key (ga_kk (ρ (v / 8))) := by omega
      rw [e2]
      have hlt := ga_key_lt (ga_kk (ρ (v / 8)))
      refine ⟨hlt, ?_⟩
      have hk2 := ga_kk_le (ρ (v / 8))
      have e3 : ρ (v / 8) = nI (ga_key (ga_kk (ρ (v / 8)))) := by
        rw [ga_kk_eq, ga_kk_nI hlt, ga_key_key (by omega)]
      rw [← e3]
    · exact hx
  · exact hx
end GV
end
section
/-! arithmetic: what the machine reckons is what the instruction does (s_l, s_u, nx_and, nx_xor, fa_or: as in kit/laws) -/
theorem s_l : ∀ n, n < 32 → ((nI n &&& 31).toBitVec.smod 32).toNat = n := by decide +kernel
theorem s_u : ∀ n, n < 32 → (((nI n).toUInt32 &&& Int32.toUInt32 31).toBitVec % 32).toNat = n := by decide +kernel
theorem nx_and (a b : Nat) : nI a &&& nI b = nI (a &&& b) := by
  apply Int32.toBitVec_inj.1
  show BitVec.ofNat 32 a &&& BitVec.ofNat 32 b = BitVec.ofNat 32 (a &&& b)
  apply BitVec.eq_of_getLsbD_eq
  intro i hi
  simp [hi]
theorem nx_xor (a b : Nat) : nI a ^^^ nI b = nI (a ^^^ b) := by
  apply Int32.toBitVec_inj.1
  show BitVec.ofNat 32 a ^^^ BitVec.ofNat 32 b = BitVec.ofNat 32 (a ^^^ b)
  apply BitVec.eq_of_getLsbD_eq
  intro i hi
  simp [hi]
theorem fa_or (a b : Nat) : nI a ||| nI b = nI (a ||| b) := by
  apply Int32.toBitVec_inj.1
  show BitVec.ofNat 32 a ||| BitVec.ofNat 32 b = BitVec.ofNat 32 (a ||| b)
  apply BitVec.eq_of_getLsbD_eq
  intro i hi
  simp [hi]
theorem ga_nImod (n : Nat) : nI (n % 4294967296) = nI n := by
  apply Int32.toBitVec_inj.1
  show BitVec.ofNat 32 (n % 4294967296) = BitVec.ofNat 32 n
  apply BitVec.eq_of_toNat_eq
  rw [BitVec.toNat_ofNat, BitVec.toNat_ofNat]
  exact Nat.mod_mod _ _
theorem ga_lNmod (n : Nat) : lN (n % 18446744073709551616) = lN n := by
  apply Int64.toBitVec_inj.1
  show BitVec.ofNat 64 (n % 18446744073709551616) = BitVec.ofNat 64 n
  apply BitVec.eq_of_toNat_eq
  rw [BitVec.toNat_ofNat, BitVec.toNat_ofNat]
  exact Nat.mod_mod _ _
theorem ga_nIsub {a b : Nat} (hb : b ≤ 4294967296) : nI a - nI b = nI (a + 4294967296 - b) := by
  have h : nI (a + 4294967296 - b) + nI b = nI a := by
    rw [nI_add, show a + 4294967296 - b + b = a + 4294967296 by omega, ← ga_nImod (a + 4294967296), Nat.add_mod_right, ga_nImod]
  rw [← h]
  apply Int32.toBitVec_inj.1
  simp
section GO
variable {ρ : Nat → Int32} {oa : Nat → Nat} {ad : List Nat}
theorem ga_l2_ok {x y : Nat} (h : ga_l2 x y = true) : x % 8 = 0 ∧ y % 8 = 0 := by
  unfold ga_l2 at h
  simpa [ga_beq] using h
theorem ga_i2_ok {x y : Nat} (h : ga_i2 x y = true) : ga_int x = true ∧ ga_int y = true := by
  unfold ga_i2 at h
  simpa using h
/-- an operation's table is right -/
def ga_O2 (ρ : Nat → Int32) (oa : Nat → Nat) (ad : List Nat) (f : Nat → Nat → Nat) (g : Int32 → Int32 → Int32) : Prop :=
  ∀ (x y : Nat) (vx vy : Value), ga_vr ρ oa ad x vx → ga_vr ρ oa ad y vy → ¬ f x y % 8 = 7 → ∃ X Y : Int32, vx = .int X ∧ vy = .int Y ∧ ga_vr ρ oa ad (f x y) (.int (g X Y))
theorem ga_lit (n : Nat) (h : n < 4294967296) : ga_vr ρ oa ad (8 * n) (.int (nI n)) := (ga_vr_0 (by omega)).mpr ⟨by omega, by rw [Nat.mul_div_cancel_left _ (by decide)]⟩
theorem ga_litx (n : Nat) : ga_vr ρ oa ad (8 * (n % 4294967296)) (.int (nI n)) := by
  have := ga_lit (ρ := ρ) (oa := oa) (ad := ad) (n % 4294967296) (Nat.mod_lt _ (by decide))
  rwa [ga_nImod] at this
theorem ga_any (x : Int32) : ga_vr ρ oa ad 2 (.int x) := (ga_vr_2 (by decide)).mpr ⟨x, rfl⟩
theorem ga_zero {X : Int32} (h : ga_vr ρ oa ad 0 (.int X)) : X = 0 := by
  have h1 := ((ga_vr_0 (by decide)).mp h).2
  cases h1
  rfl
theorem ga_z0 : ga_vr ρ oa ad 0 (.int 0) := ga_lit 0 (by decide)
/-- both are numbers, or both are ints whichever -/
theorem ga_two {x y : Nat} {vx vy : Value} {A B : Nat} (hx : ga_vr ρ oa ad x vx) (hy : ga_vr ρ oa ad y vy) {g : Int32 → Int32 → Int32} {b : Bool}
    (hA : b = true → ga_l2 x y = true ∧ (x / 8 < 4294967296 → y / 8 < 4294967296 → ga_vr ρ oa ad A (.int (g (nI (x / 8)) (nI (y / 8))))))
    (hB : ∀ X Y : Int32, vx = .int X → vy = .int Y → ¬ B % 8 = 7 → ga_vr ρ oa ad B (.int (g X Y)))
    (h7 : ¬ (ga_if b A (ga_if (ga_i2 x y) B 7)) % 8 = 7) : ∃ X Y : Int32, vx = .int X ∧ vy = .int Y ∧ ga_vr ρ oa ad (ga_if b A (ga_if (ga_i2 x y) B 7)) (.int (g X Y)) := by
  cases b with
  | true =>
    obtain ⟨h1, h2⟩ := hA rfl
    obtain ⟨e1, e2⟩ := ga_l2_ok h1
    obtain ⟨l1, rfl⟩ := (ga_vr_0 e1).mp hx
    obtain ⟨l2, rfl⟩ := (ga_vr_0 e2).mp hy
    exact ⟨_, _, rfl, rfl, h2 l1 l2⟩
  | false =>
    rw [ga_if_f] at h7 ⊢
    cases hi : ga_i2 x y with
    | false => rw [hi] at h7; exact absurd rfl h7
    | true =>
      rw [hi, ga_if_t] at h7
      obtain ⟨i1, i2⟩ := ga_i2_ok hi
      obtain ⟨X, rfl⟩ := ga_vr_int i1 hx
      obtain ⟨Y, rfl⟩ := ga_vr_int i2 hy
      rw [ga_if_t]
      exact ⟨X, Y, rfl, rfl, hB X Y rfl rfl h7⟩
theorem ga_add_ok : ga_O2 ρ oa ad ga_add (fun X Y => X + Y) := by
  intro x y vx vy hx hy h7
  refine ga_two hx hy (fun h => ⟨h, fun l1 l2 => ?_⟩) (fun X Y eX eY _ => ?_) h7
  · obtain ⟨e1, e2⟩ := ga_l2_ok h
    rw [nI_add]
    have e : (x + y) % 34359738368 = 8 * ((x / 8 + y / 8) % 4294967296) := by omega
    rw [e]
    exact ga_litx _
  · subst eX; subst eY
    simp only [ga_if_eq, ga_beq]
    split
    · rename_i h0
      subst h0
      rw [ga_zero hy]
      simpa using hx
    · split
      · rename_i h0 h1
        subst h1
        rw [ga_zero hx]
        simpa using hy
      · exact ga_any _
theorem ga_sub_ok : ga_O2 ρ oa ad ga_sub (fun X Y => X - Y) := by
  intro x y vx vy hx hy h7
  refine ga_two hx hy (fun h => ⟨h, fun l1 l2 => ?_⟩) (fun X Y eX eY _ => ?_) h7
  · obtain ⟨e1, e2⟩ := ga_l2_ok h
    rw [ga_nIsub (by omega)]
    have e : (x + 34359738368 - y) % 34359738368 = 8 * ((x / 8 + 4294967296 - y / 8) % 4294967296) := by omega
    rw [e]
    exact ga_litx _
  · subst eX; subst eY
    simp only [ga_if_eq, ga_beq]
    split
    · rename_i h0
      subst h0
      rw [ga_zero hy]
      simpa using hx
    · exact ga_any _
theorem ga_mul_ok : ga_O2 ρ oa ad ga_mul (fun X Y => X * Y) := by
  intro x y vx vy hx hy h7
  refine ga_two hx hy (fun h => ⟨h, fun l1 l2 => ?_⟩) (fun X Y eX eY _ => ?_) h7
  · rw [pk_mul]
    exact ga_litx _
  · subst eX; subst eY
    simp only [ga_if_eq, ga_beq, Bool.or_eq_true]
    split
    · rename_i h0
      rcases h0 with h0 | h0
      · subst h0
        rw [ga_zero hx]
        simpa using (ga_z0 (ρ := ρ) (oa := oa) (ad := ad))
      · subst h0
        rw [ga_zero hy]
        simpa using (ga_z0 (ρ := ρ) (oa := oa) (ad := ad))
    · exact ga_any _
theorem ga_and_ok (hρ : ρ 6 = ρ 0 &&& 63) : ga_O2 ρ oa ad ga_and (fun X Y => X &&& Y) := by
  intro x y vx vy hx hy h7
  refine ga_two hx hy (fun h => ⟨h, fun l1 l2 => ?_⟩) (fun X Y eX eY _ => ?_) h7
  · rw [nx_and]
    exact ga_lit _ (Nat.lt_of_le_of_lt Nat.and_le_left l1)
  · subst eX; subst eY
    simp only [ga_if_eq, ga_beq, Bool.or_eq_true, Bool.and_eq_true]
    split
    · rename_i h0
      rcases h0 with h0 | h0
      · subst h0
        rw [ga_zero hx]
        simpa using (ga_z0 (ρ := ρ) (oa := oa) (ad := ad))
      · subst h0
        rw [ga_zero hy]
        simpa using (ga_z0 (ρ := ρ) (oa := oa) (ad := ad))
    · split
      · rename_i h0 h1
        obtain ⟨rfl, rfl⟩ := h1
        have e1 := (ga_vr_1 (by decide)).mp hx
        have e2 := ((ga_vr_0 (by decide)).mp hy).2
        cases e1
        cases e2
        refine (ga_vr_1 (by decide)).mpr ?_
        show Value.int (ρ 0 &&& nI 63) = Value.int (ρ 6)
        rw [hρ]
        rfl
      · exact ga_any _
theorem ga_or_ok : ga_O2 ρ oa ad ga_or (fun X Y => X ||| Y) := by
  intro x y vx vy hx hy h7
  refine ga_two hx hy (fun h => ⟨h, fun l1 l2 => ?_⟩) (fun X Y eX eY _ => ga_any _) h7
  rw [fa_or]
  exact ga_lit _ (Nat.or_lt_two_pow (n := 32) l1 l2)
theorem ga_xor_ok : ga_O2 ρ oa ad ga_xor (fun X Y => X ^^^ Y) := by
  intro x y vx vy hx hy h7
  refine ga_two hx hy (fun h => ⟨h, fun l1 l2 => ?_⟩) (fun X Y eX eY _ => ga_any _) h7
  rw [nx_xor]
  exact ga_lit _ (Nat.xor_lt_two_pow (n := 32) l1 l2)
theorem ga_shl_ok : ga_O2 ρ oa ad ga_shl (fun X Y => X <<< (Y &&& 31)) := by
  intro x y vx vy hx hy h7
  unfold ga_shl at h7 ⊢
  refine ga_two hx hy (fun h => ⟨h, fun l1 l2 => ?_⟩) (fun X Y eX eY _ => ga_any _) h7
  rw [h, ga_if_t] at h7
  simp only [ga_if_eq, Bool.and_eq_true, Nat.blt_eq] at h7 ⊢
  split at h7
  · rename_i hc
    rw [if_pos hc, pk_shlN (n := x / 8) (nI (y / 8) &&& 31) (y / 8) (s_l _ (by omega)) hc.2]
    exact ga_lit _ hc.2
  · exact absurd rfl h7
theorem ga_shr_ok : ga_O2 ρ oa ad ga_shr (fun X Y => X >>> (Y &&& 31)) := by
  intro x y vx vy hx hy h7
  unfold ga_shr at h7 ⊢
  refine ga_two hx hy (fun h => ?_) (fun X Y eX eY _ => ?_) h7
  · simp only [Bool.and_eq_true, Nat.blt_eq] at h
    refine ⟨h.1, fun l1 l2 => ?_⟩
    rw [pk_shrN h.2.2 (nI (y / 8) &&& 31) (y / 8) (s_l _ (by omega))]
    exact ga_lit _ (Nat.lt_of_le_of_lt (Nat.div_le_self _ _) l1)
  · subst eX; subst eY
    simp only [ga_if_eq, ga_beq]
    split
    · rename_i h0
      subst h0
      rw [ga_zero hx]
      have e : (0 : Int32) >>> (Y &&& 31) = 0 := by
        apply Int32.toBitVec_inj.1
        simp [Int32.toBitVec_shiftRight]
      rw [e]
      exact ga_lit 0 (by decide)
    · exact ga_any _
theorem ga_ush_ok : ga_O2 ρ oa ad ga_ush (fun X Y => (X.toUInt32 >>> (Y.toUInt32 &&& Int32.toUInt32 31)).toInt32) := by
  intro x y vx vy hx hy h7
  unfold ga_ush at h7 ⊢
  refine ga_two hx hy (fun h => ?_) (fun X Y eX eY _ => ga_any _) h7
  simp only [Bool.and_eq_true, Nat.blt_eq] at h
  refine ⟨h.1, fun l1 l2 => ?_⟩
  rw [pk_ushrN l1 (nI (y / 8)) (y / 8) (s_u _ (by omega))]
  exact ga_lit _ (Nat.lt_of_le_of_lt (Nat.div_le_self _ _) l1)
theorem ga_div_ok (x y : Nat) (vx vy : Value) (hx : ga_vr ρ oa ad x vx) (hy : ga_vr ρ oa ad y vy) (h7 : ¬ ga_div x y % 8 = 7) : ∃ X Y : Int32, vx = .int X ∧ vy = .int Y ∧ ¬ Y = 0 ∧ ga_vr ρ oa ad (ga_div x y) (.int (X / Y)) := by
  unfold ga_div at h7 ⊢
  simp only [ga_if_eq, Bool.and_eq_true, Nat.blt_eq] at h7 ⊢
  split at h7
  · rename_i h
    rw [if_pos h]
    obtain ⟨e1, e2⟩ := ga_l2_ok h.1
    obtain ⟨l1, rfl⟩ := (ga_vr_0 e1).mp hx
    obtain ⟨l2, rfl⟩ := (ga_vr_0 e2).mp hy
    refine ⟨_, _, rfl, rfl, nI_ne0 h.2.1 h.2.2.2, ?_⟩
    rw [pk_div h.2.2.1 h.2.1 h.2.2.2]
    exact ga_lit _ (Nat.lt_of_le_of_lt (Nat.div_le_self _ _) l1)
  · exact absurd rfl h7
theorem ga_rem_ok (x y : Nat) (vx vy : Value) (hx : ga_vr ρ oa ad x vx) (hy : ga_vr ρ oa ad y vy) (h7 : ¬ ga_rem x y % 8 = 7) : ∃ X Y : Int32, vx = .int X ∧ vy = .int Y ∧ ¬ Y = 0 ∧ ga_vr ρ oa ad (ga_rem x y) (.int (X - X / Y * Y)) := by
  unfold ga_rem at h7 ⊢
  simp only [ga_if_eq, Bool.and_eq_true, Nat.blt_eq] at h7 ⊢
  split at h7
  · rename_i h
    rw [if_pos h]
    obtain ⟨e1, e2⟩ := ga_l2_ok h.1
    obtain ⟨l1, rfl⟩ := (ga_vr_0 e1).mp hx
    obtain ⟨l2, rfl⟩ := (ga_vr_0 e2).mp hy
    refine ⟨_, _, rfl, rfl, nI_ne0 h.2.1 h.2.2.2, ?_⟩
    rw [pk_rem h.2.2.1 h.2.1 h.2.2.2]
    exact ga_lit _ (Nat.lt_of_le_of_lt (Nat.mod_le _ _) l1)
  · exact absurd rfl h7
theorem ga_litL (n : Nat) : ga_vr ρ oa ad (8 * (n % 18446744073709551616) + 5) (.long (lN n)) := by
  refine (ga_vr_5 (by omega)).mpr ?_
  have e : (8 * (n % 18446744073709551616) + 5) / 8 = n % 18446744073709551616 := by omega
  rw [e, ga_lNmod]
  exact ⟨Nat.mod_lt _ (by decide), rfl⟩
theorem ga_lad_ok (x y : Nat) (vx vy : Value) (hx : ga_vr ρ oa ad x vx) (hy : ga_vr ρ oa ad y vy) (h7 : ¬ ga_lad x y % 8 = 7) : ∃ X Y : Int64, vx = .long X ∧ vy = .long Y ∧ ga_vr ρ oa ad (ga_lad x y) (.long (X + Y)) := by
  unfold ga_lad at h7 ⊢
  simp only [ga_if_eq, Bool.and_eq_true, ga_beq] at h7 ⊢
  split at h7
  · rename_i h
    rw [if_pos h]
    obtain ⟨l1, rfl⟩ := (ga_vr_5 h.1).mp hx
    obtain ⟨l2, rfl⟩ := (ga_vr_5 h.2).mp hy
    exact ⟨_, _, rfl, rfl, by rw [lN_add]; exact ga_litL _⟩
  · exact absurd rfl h7
theorem ga_lmu_ok (x y : Nat) (vx vy : Value) (hx : ga_vr ρ oa ad x vx) (hy : ga_vr ρ oa ad y vy) (h7 : ¬ ga_lmu x y % 8 = 7) : ∃ X Y : Int64, vx = .long X ∧ vy = .long Y ∧ ga_vr ρ oa ad (ga_lmu x y) (.long (X * Y)) := by
  unfold ga_lmu at h7 ⊢
  simp only [ga_if_eq, Bool.and_eq_true, ga_beq] at h7 ⊢
  split at h7
  · rename_i h
    rw [if_pos h]
    obtain ⟨l1, rfl⟩ := (ga_vr_5 h.1).mp hx
    obtain ⟨l2, rfl⟩ := (ga_vr_5 h.2).mp hy
    exact ⟨_, _, rfl, rfl, by rw [lN_mul]; exact ga_litL _⟩
  · exact absurd rfl h7
theorem ga_b128 : ∀ n, n < 128 → (nI n).toInt8.toInt32 = nI n := by decide +kernel
theorem ga_i2b_ok (x : Nat) (vx : Value) (hx : ga_vr ρ oa ad x vx) (h7 : ¬ ga_i2b x % 8 = 7) : ∃ X : Int32, vx = .int X ∧ ga_vr ρ oa ad (ga_i2b x) (.int X.toInt8.toInt32) := by
  unfold ga_i2b at h7 ⊢
  simp only [ga_if_eq, Bool.and_eq_true, ga_beq, Nat.blt_eq] at h7 ⊢
  split at h7
  · rename_i h
    rw [if_pos h]
    obtain ⟨l1, rfl⟩ := (ga_vr_0 h.1).mp hx
    exact ⟨_, rfl, by rw [ga_b128 _ h.2]; exact hx⟩
  · rename_i h
    rw [if_neg h]
    split at h7
    · rename_i h2
      rw [if_pos h2]
      obtain ⟨X, rfl⟩ := ga_vr_int h2 hx
      exact ⟨X, rfl, ga_any _⟩
    · exact absurd rfl h7
theorem ga_i2l_ok (x : Nat) (vx : Value) (hx : ga_vr ρ oa ad x vx) (h7 : ¬ ga_i2l x % 8 = 7) : ∃ X : Int32, vx = .int X ∧ ga_vr ρ oa ad (ga_i2l x) (.long X.toInt64) := by
  unfold ga_i2l at h7 ⊢
  simp only [ga_if_eq, Bool.and_eq_true, ga_beq, Nat.blt_eq] at h7 ⊢
  split at h7
  · rename_i h
    rw [if_pos h]
    obtain ⟨l1, rfl⟩ := (ga_vr_0 h.1).mp hx
    refine ⟨_, rfl, ?_⟩
    rw [nI_l h.2]
    refine (ga_vr_5 (by omega)).mpr ?_
    have e : (x + 5) / 8 = x / 8 := by omega
    rw [e]
    exact ⟨by omega, rfl⟩
  · exact absurd rfl h7
end GO
end
section
/-! the world behind the machine's heap, and what it is to stand at a place of a method -/
/-- the array classes, by the machine's kinds -/
def ga_tys (ta : Nat → ClassId) : List (ClassId × FieldType) := [(ta 100, .int), (ta 101, .byte), (ta 102, .long), (ta 103, .object "GravyRound$Table"), (ta 104, .boolean)]
def ga_cr (ρ : Nat → Int32) (oa : Nat → Nat) (ta : Nat → ClassId) (ad : List Nat) (c : ga_C) (e : va_E) : Prop :=
  (c.1 < 100 ∧ ∃ fs : List Value, e = .inr (c.1, fs) ∧ fs.length = c.2.2.length ∧ ∀ (j v : Nat), c.2.2[j]? = some v → ∃ x, fs[j]? = some x ∧ ga_vr ρ oa ad v x) ∨
  ((c.1 = 100 ∨ c.1 = 101 ∨ c.1 = 104) ∧ ∃ f : Nat → Int32, e = .inl (ta c.1, c.2.1, .inl f) ∧ ∀ j, j < c.2.1 → ga_vr ρ oa ad (c.2.2.getD j 0) (.int (f j))) ∨
  (c.1 = 102 ∧ ∃ f : Nat → Int64, e = .inl (ta c.1, c.2.1, .inr (.inl f)) ∧ ∀ j, j < c.2.1 → ga_vr ρ oa ad (c.2.2.getD j 5) (.long (f j))) ∨
  (c.1 = 103 ∧ ∃ f : Nat → Option Nat, e = .inl (ta c.1, c.2.1, .inr (.inr (.inr (.inr f)))) ∧ ∀ j, j < c.2.1 → ga_vr ρ oa ad (c.2.2.getD j 4) (va_rf (f j)))
theorem ga_cr_mono {ρ : Nat → Int32} {oa : Nat → Nat} {ta : Nat → ClassId} {ad : List Nat} {c : ga_C} {e : va_E} (q : Nat) (h : ga_cr ρ oa ta ad c e) : ga_cr ρ oa ta (ad ++ [q]) c e := by
  rcases h with ⟨h, fs, h1, h2, h3⟩ | ⟨h, f, h1, h2⟩ | ⟨h, f, h1, h2⟩ | ⟨h, f, h1, h2⟩
  · exact Or.inl ⟨h, fs, h1, h2, fun j v hv => by obtain ⟨x, a1, a2⟩ := h3 j v hv; exact ⟨x, a1, ga_vr_mono q a2⟩⟩
  · exact Or.inr (Or.inl ⟨h, f, h1, fun j hj => ga_vr_mono q (h2 j hj)⟩)
  · exact Or.inr (Or.inr (Or.inl ⟨h, f, h1, fun j hj => ga_vr_mono q (h2 j hj)⟩))
  · exact Or.inr (Or.inr (Or.inr ⟨h, f, h1, fun j hj => ga_vr_mono q (h2 j hj)⟩))
/-- the addresses go on from those that stand in ta from 1001 on, ta 1000 of them -/
def ga_xt (ta : Nat → ClassId) (ad : List Nat) : Prop := ∀ k : Nat, k < ta 1000 → ad[k]? = some (ta (1001 + k))
/-- the cells are the machine's; their addresses are ad -/
def ga_Ws (ρ : Nat → Int32) (oa : Nat → Nat) (ta : Nat → ClassId) (D : va_G) (n0 n : Nat) (h : ga_H) (ad : List Nat) (ws : va_W) (H : Heap) : Prop :=
  va_P D gm_cl ws H ∧ va_D (fun q => n0 ≤ q) ws ∧ (ws.map Prod.fst = ad ∧ ga_xt ta ad) ∧ ad.length = n ∧ ∀ k, ¬ (ga_hg h k).1 = 999 → ∃ (a : Nat) (e : va_E), ws[k]? = some (a, e) ∧ ga_cr ρ oa ta ad (ga_hg h k) e
def ga_sr (ρ : Nat → Int32) (oa : Nat → Nat) (ad : List Nat) : List Nat → List Value → Prop
  | [], [] => True
  | v :: r, x :: t => ga_vr ρ oa ad v x ∧ ga_sr ρ oa ad r t
  | _, _ => False
def ga_lr (ρ : Nat → Int32) (oa : Nat → Nat) (ad : List Nat) (nL : Nat) (al : List Nat) (ls : Array Slot) : Prop :=
  ls.size = nL ∧ lv_wf ls ∧ al.length = nL ∧ ∀ (i v : Nat), al[i]? = some v → ¬ v % 8 = 7 → ∃ x, ga_vr ρ oa ad v x ∧ ls[i]? = some (.val x)
theorem ga_sr_mono {ρ : Nat → Int32} {oa : Nat → Nat} {ad : List Nat} (q : Nat) : ∀ {sk : List Nat} {st : List Value}, ga_sr ρ oa ad sk st → ga_sr ρ oa (ad ++ [q]) sk st
  | [], [], _ => trivial
  | _ :: _, _ :: _, h => ⟨ga_vr_mono q h.1, ga_sr_mono q h.2⟩
  | [], _ :: _, h => h.elim
  | _ :: _, [], h => h.elim
theorem ga_sr_cons {ρ : Nat → Int32} {oa : Nat → Nat} {ad : List Nat} {v : Nat} {r : List Nat} {st : List Value} (h : ga_sr ρ oa ad (v :: r) st) : ∃ x t, st = x :: t ∧ ga_vr ρ oa ad v x ∧ ga_sr ρ oa ad r t := by
  cases st with
  | nil => exact h.elim
  | cons x t => exact ⟨x, t, rfl, h.1, h.2⟩
theorem ga_sr_nil {ρ : Nat → Int32} {oa : Nat → Nat} {ad : List Nat} {st : List Value} (h : ga_sr ρ oa ad [] st) : st = [] := by
  cases st with
  | nil => rfl
  | cons x t => exact h.elim
theorem ga_lr_mono {ρ : Nat → Int32} {oa : Nat → Nat} {ad : List Nat} {nL : Nat} {al : List Nat} {ls : Array Slot} (q : Nat) (h : ga_lr ρ oa ad nL al ls) : ga_lr ρ oa (ad ++ [q]) nL al ls :=
  ⟨h.1, h.2.1, h.2.2.1, fun i v h1 h2 => by obtain ⟨x, a1, a2⟩ := h.2.2.2 i v h1 h2; exact ⟨x, ga_vr_mono q a1, a2⟩⟩
/-- a machine state and a state of the JVM, in a method that began at s -/
def ga_At (ρ : Nat → Int32) (oa : Nat → Nat) (ta : Nat → ClassId) (D : va_G) (n0 nL : Nat) (s : State) (al sk : List Nat) (iv : ga_I) (n : Nat) (h : ga_H) (H : Heap) (locs : List Loc) (ls : Array Slot) (st : List Value) : Prop :=
  ga_in ρ iv ∧ va_S (fun q => n0 ≤ q) s.heap H locs ∧ ∃ (ad : List Nat) (ws : va_W), ga_Ws ρ oa ta D n0 n h ad ws H ∧ ga_lr ρ oa ad nL al ls ∧ ga_sr ρ oa ad sk st
def ga_Go (p : Program) (l : Launch) (e : Env) (R : Room) (s : State) (m : MethodId) (args : Array Value) (below : List Frame) (meth : Method) (c : Code) (Q : State → Prop) (ρ : Nat → Int32) (oa : Nat → Nat) (ta : Nat → ClassId) (D : va_G) (n0 nL : Nat) (cds : List ga_E) (al sk : List Nat) (cs ss : Nat) (iv : ga_I) (n : Nat) (h : ga_H) : Prop :=
  ∀ (H : Heap) (locs : List Loc) (ls : Array Slot) (st : List Value), ga_At ρ oa ta D n0 nL s al sk iv n h H locs ls st → W p l e R s m args below meth c H locs cs ss Q (F0 m (ga_pc cds) ls st)
section GW
variable {p : Program} {l : Launch} {e : Env} {R : Room} {s : State} {m : MethodId} {args : Array Value} {below : List Frame} {meth : Method} {c : Code} {Q : State → Prop}
variable {ρ : Nat → Int32} {oa : Nat → Nat} {ta : Nat → ClassId} {D : va_G} {n0 nL : Nat} {cc : ByteArray} {pc : Nat} {nx cds : List ga_E} {al sk : List Nat} {cs ss : Nat} {iv : ga_I} {n : Nat} {h : ga_H}
/-- numbers on the stack -/
theorem gg_push {v : Nat} {x : Value} (hc : ga_pc cds = pc) (hrow : ∀ (H : Heap) (locs : List Loc) (ls : Array Slot) (st : List Value), W p l e R s m args below meth c H locs cs ss Q (F0 m (ga_pc nx) ls (x :: st)) → W p l e R s m args below meth c H locs cs ss Q (F0 m pc ls st))
    (hv : ∀ ad, ga_vr ρ oa ad v x) (k : ga_Go p l e R s m args below meth c Q ρ oa ta D n0 nL nx al (v :: sk) cs ss iv n h) : ga_Go p l e R s m args below meth c Q ρ oa ta D n0 nL cds al sk cs ss iv n h := by
  intro H locs ls st hat
  obtain ⟨hi, hS, ad, ws, hw, hl, hs⟩ := hat
  rw [hc]
  exact hrow H locs ls st (k H locs ls (x :: st) ⟨hi, hS, ad, ws, hw, hl, hv ad, hs⟩)
theorem gg_load {v i : Nat} (hc : ga_pc cds = pc) (hv : ga_nth 7 al i = v) (h7 : ¬ v % 8 = 7) (hrow : ∀ (H : Heap) (locs : List Loc) (ls : Array Slot) (st : List Value) (ad : List Nat) (x : Value), ga_vr ρ oa ad v x → ls[i]? = some (.val x) → W p l e R s m args below meth c H locs cs ss Q (F0 m (ga_pc nx) ls (x :: st)) → W p l e R s m args below meth c H locs cs ss Q (F0 m pc ls st))
    (k : ga_Go p l e R s m args below meth c Q ρ oa ta D n0 nL nx al (v :: sk) cs ss iv n h) : ga_Go p l e R s m args below meth c Q ρ oa ta D n0 nL cds al sk cs ss iv n h := by
  intro H locs ls st hat
  obtain ⟨hi, hS, ad, ws, hw, hl, hs⟩ := hat
  have hg : al[i]? = some v := by
    rw [ga_nth_eq, List.getD_eq_getElem?_getD] at hv
    cases hq : al[i]? with
    | none => rw [hq] at hv; exact absurd (by rw [← hv]; rfl) h7
    | some w => rw [hq] at hv; exact congrArg some hv
  obtain ⟨x, h1, h2⟩ := hl.2.2.2 i v hg h7
  rw [hc]
  exact hrow H locs ls st ad x h1 h2 (k H locs ls (x :: st) ⟨hi, hS, ad, ws, hw, hl, h1, hs⟩)
theorem gg_op1 {f : Nat → Nat} {x : Nat} {r : List Nat} (hc : ga_pc cds = pc) (h7 : ¬ f (ga_sm iv x) % 8 = 7)
    (hrow : ∀ (H : Heap) (locs : List Loc) (ls : Array Slot) (st : List Value) (ad : List Nat) (vx : Value), ga_vr ρ oa ad (ga_sm iv x) vx → ∃ z : Value, ga_vr ρ oa ad (f (ga_sm iv x)) z ∧ (W p l e R s m args below meth c H locs cs ss Q (F0 m (ga_pc nx) ls (z :: st)) → W p l e R s m args below meth c H locs cs ss Q (F0 m pc ls (vx :: st))))
    (k : ga_Go p l e R s m args below meth c Q ρ oa ta D n0 nL nx al (f (ga_sm iv x) :: r) cs ss iv n h) : ga_Go p l e R s m args below meth c Q ρ oa ta D n0 nL cds al (x :: r) cs ss iv n h := by
  intro H locs ls st hat
  obtain ⟨hi, hS, ad, ws, hw, hl, hs⟩ := hat
  obtain ⟨vx, t, rfl, h1, hs⟩ := ga_sr_cons hs
  obtain ⟨z, g1, g2⟩ := hrow H locs ls t ad vx (ga_sm_ok hi h1)
  rw [hc]
  exact g2 (k H locs ls (z :: t) ⟨hi, hS, ad, ws, hw, hl, g1, hs⟩)
theorem gg_op2 {f : Nat → Nat → Nat} {x y : Nat} {r : List Nat} (hc : ga_pc cds = pc)
    (hrow : ∀ (H : Heap) (locs : List Loc) (ls : Array Slot) (st : List Value) (ad : List Nat) (vx vy : Value), ga_vr ρ oa ad (ga_sm iv x) vx → ga_vr ρ oa ad (ga_sm iv y) vy → ∃ z : Value, ga_vr ρ oa ad (f (ga_sm iv x) (ga_sm iv y)) z ∧ (W p l e R s m args below meth c H locs cs ss Q (F0 m (ga_pc nx) ls (z :: st)) → W p l e R s m args below meth c H locs cs ss Q (F0 m pc ls (vy :: vx :: st))))
    (k : ga_Go p l e R s m args below meth c Q ρ oa ta D n0 nL nx al (f (ga_sm iv x) (ga_sm iv y) :: r) cs ss iv n h) : ga_Go p l e R s m args below meth c Q ρ oa ta D n0 nL cds al (y :: x :: r) cs ss iv n h := by
  intro H locs ls st hat
  obtain ⟨hi, hS, ad, ws, hw, hl, hs⟩ := hat
  obtain ⟨vy, t, rfl, h1, hs⟩ := ga_sr_cons hs
  obtain ⟨vx, t, rfl, h2, hs⟩ := ga_sr_cons hs
  obtain ⟨z, g1, g2⟩ := hrow H locs ls t ad vx vy (ga_sm_ok hi h2) (ga_sm_ok hi h1)
  rw [hc]
  exact g2 (k H locs ls (z :: t) ⟨hi, hS, ad, ws, hw, hl, g1, hs⟩)
/-- the bounds may be wider in the proof of what follows -/
theorem gg_iv {iv' : ga_I} {al' sk' : List Nat} (hb : ga_in ρ iv → ga_in ρ iv') (k : ga_Go p l e R s m args below meth c Q ρ oa ta D n0 nL cds al' sk' cs ss iv' n h) : ga_Go p l e R s m args below meth c Q ρ oa ta D n0 nL cds al' sk' cs ss iv n h := by
  intro H locs ls st hat
  obtain ⟨hi, r⟩ := hat
  exact k H locs ls st ⟨hb hi, r⟩
theorem gg_goto (hc : ga_pc cds = pc) (hrow : ∀ (H : Heap) (locs : List Loc) (ls : Array Slot) (st : List Value), W p l e R s m args below meth c H locs cs ss Q (F0 m (ga_pc nx) ls st) → W p l e R s m args below meth c H locs cs ss Q (F0 m pc ls st)) (k : ga_Go p l e R s m args below meth c Q ρ oa ta D n0 nL nx al sk cs ss iv n h) : ga_Go p l e R s m args below meth c Q ρ oa ta D n0 nL cds al sk cs ss iv n h := by
  intro H locs ls st hat
  rw [hc]
  exact hrow H locs ls st (k H locs ls st hat)
/-- a branch by an order or an equality of the two numbers, told in a list of ways -/
theorem gg_br {o : List (Bool × ga_I)} {kt kf : ga_I → Option (List ga_O)} {os : List ga_O} {cdt cdf : List ga_E} {x y : Nat} {r : List Nat} {P : Int32 → Int32 → Prop} (hc : ga_pc cds = pc) (ho : ga_br o kt kf = some os) (ix : ga_int x = true) (iy : ga_int y = true)
    (hP : ∀ (ad : List Nat) (X Y : Int32), ga_in ρ iv → ga_vr ρ oa ad x (.int X) → ga_vr ρ oa ad y (.int Y) → ∃ q ∈ o, ga_in ρ q.2 ∧ (q.1 = true ↔ P X Y))
    (hrow : ∀ (H : Heap) (locs : List Loc) (ls : Array Slot) (st : List Value) (X Y : Int32), (P X Y → W p l e R s m args below meth c H locs cs ss Q (F0 m (ga_pc cdt) ls st)) → (¬ P X Y → W p l e R s m args below meth c H locs cs ss Q (F0 m (ga_pc cdf) ls st)) → W p l e R s m args below meth c H locs cs ss Q (F0 m pc ls (.int Y :: .int X :: st)))
    (Kt : ∀ iv' o1, kt iv' = some o1 → (∀ z ∈ o1, z ∈ os) → ga_Go p l e R s m args below meth c Q ρ oa ta D n0 nL cdt al r cs ss iv' n h) (Kf : ∀ iv' o1, kf iv' = some o1 → (∀ z ∈ o1, z ∈ os) → ga_Go p l e R s m args below meth c Q ρ oa ta D n0 nL cdf al r cs ss iv' n h) : ga_Go p l e R s m args below meth c Q ρ oa ta D n0 nL cds al (y :: x :: r) cs ss iv n h := by
  intro H locs ls st hat
  obtain ⟨hi, hS, ad, ws, hw, hl, hs⟩ := hat
  obtain ⟨vy, t1, rfl, h1, hs1⟩ := ga_sr_cons hs
  obtain ⟨vx, t, rfl, h2, hs2⟩ := ga_sr_cons hs1
  obtain ⟨X, rfl⟩ := ga_vr_int ix h2
  obtain ⟨Y, rfl⟩ := ga_vr_int iy h1
  obtain ⟨q, hq, hin, hiff⟩ := hP ad X Y hi h2 h1
  obtain ⟨o1, g1, g2⟩ := ga_all_mem ho hq
  rw [hc]
  refine hrow H locs ls t X Y (fun hp => ?_) (fun hp => ?_)
  · rw [hiff.mpr hp, ga_if_t] at g1
    exact Kt q.2 o1 g1 g2 H locs ls t ⟨hin, hS, ad, ws, hw, hl, hs2⟩
  · have hf : q.1 = false := by
      cases hb : q.1 with
      | false => rfl
      | true => exact absurd (hiff.mp hb) hp
    rw [hf, ga_if_f] at g1
    exact Kf q.2 o1 g1 g2 H locs ls t ⟨hin, hS, ad, ws, hw, hl, hs2⟩
/-- the same against 0 -/
theorem gg_br0 {o : List (Bool × ga_I)} {kt kf : ga_I → Option (List ga_O)} {os : List ga_O} {cdt cdf : List ga_E} {x : Nat} {r : List Nat} {P : Int32 → Prop} (hc : ga_pc cds = pc) (ho : ga_br o kt kf = some os) (ix : ga_int x = true)
    (hP : ∀ (ad : List Nat) (X : Int32), ga_in ρ iv → ga_vr ρ oa ad x (.int X) → ∃ q ∈ o, ga_in ρ q.2 ∧ (q.1 = true ↔ P X))
    (hrow : ∀ (H : Heap) (locs : List Loc) (ls : Array Slot) (st : List Value) (X : Int32), (P X → W p l e R s m args below meth c H locs cs ss Q (F0 m (ga_pc cdt) ls st)) → (¬ P X → W p l e R s m args below meth c H locs cs ss Q (F0 m (ga_pc cdf) ls st)) → W p l e R s m args below meth c H locs cs ss Q (F0 m pc ls (.int X :: st)))
    (Kt : ∀ iv' o1, kt iv' = some o1 → (∀ z ∈ o1, z ∈ os) → ga_Go p l e R s m args below meth c Q ρ oa ta D n0 nL cdt al r cs ss iv' n h) (Kf : ∀ iv' o1, kf iv' = some o1 → (∀ z ∈ o1, z ∈ os) → ga_Go p l e R s m args below meth c Q ρ oa ta D n0 nL cdf al r cs ss iv' n h) : ga_Go p l e R s m args below meth c Q ρ oa ta D n0 nL cds al (x :: r) cs ss iv n h := by
  intro H locs ls st hat
  obtain ⟨hi, hS, ad, ws, hw, hl, hs⟩ := hat
  obtain ⟨vx, t, rfl, h2, hs2⟩ := ga_sr_cons hs
  obtain ⟨X, rfl⟩ := ga_vr_int ix h2
  obtain ⟨q, hq, hin, hiff⟩ := hP ad X hi h2
  obtain ⟨o1, g1, g2⟩ := ga_all_mem ho hq
  rw [hc]
  refine hrow H locs ls t X (fun hp => ?_) (fun hp => ?_)
  · rw [hiff.mpr hp, ga_if_t] at g1
    exact Kt q.2 o1 g1 g2 H locs ls t ⟨hin, hS, ad, ws, hw, hl, hs2⟩
  · have hf : q.1 = false := by
      cases hb : q.1 with
      | false => rfl
      | true => exact absurd (hiff.mp hb) hp
    rw [hf, ga_if_f] at g1
    exact Kf q.2 o1 g1 g2 H locs ls t ⟨hin, hS, ad, ws, hw, hl, hs2⟩
end GW
end
section
theorem ga_hs_at {β : Type} (h : ga_H) (k : Nat) (c : ga_C) (K : ga_H → β) : ∃ h' : ga_H, ga_hs h k c K = K h' ∧ ∀ j, (j = k → ga_hg h' j = c ∨ (ga_hg h' j).1 = 999) ∧ (¬ j = k → ga_hg h' j = ga_hg h j) := by
  refine ⟨h.set (k / 16) ((h.getD (k / 16) []).set (k % 16) c), ?_, fun j => ⟨fun hj => ?_, fun hj => ?_⟩⟩
  · simp only [ga_hs, ga_set_eq, ga_nth_eq]
  · subst hj
    simp only [ga_hg, ga_nth_eq]
    rw [ga_getD_set]
    by_cases h1 : j / 16 < h.length
    · rw [if_pos ⟨rfl, h1⟩, ga_getD_set]
      by_cases h2 : j % 16 < (h.getD (j / 16) []).length
      · rw [if_pos ⟨rfl, h2⟩]
        exact Or.inl rfl
      · rw [if_neg (fun q => h2 q.2)]
        right
        rw [List.getD_eq_getElem?_getD, List.getElem?_eq_none (by omega)]
        rfl
    · rw [if_neg (fun q => h1 q.2)]
      right
      rw [List.getD_eq_getElem?_getD (l := h), List.getElem?_eq_none (by omega)]
      rfl
  · simp only [ga_hg, ga_nth_eq]
    rw [ga_getD_set]
    by_cases h1 : j / 16 = k / 16 ∧ k / 16 < h.length
    · rw [if_pos h1, ga_getD_set, if_neg (by omega), h1.1]
    · rw [if_neg h1]
theorem ga_set_self {α : Type} {l : List α} {k : Nat} {a : α} (h : l[k]? = some a) : l.set k a = l := by
  apply List.ext_getElem?
  intro j
  rw [List.getElem?_set]
  by_cases hj : k = j
  · subst hj
    have hl : k < l.length := by
      rcases Nat.lt_or_ge k l.length with q | q
      · exact q
      · rw [List.getElem?_eq_none q] at h; cases h
    rw [if_pos rfl, if_pos hl, h]
  · rw [if_neg hj]
section GH
variable {ρ : Nat → Int32} {oa : Nat → Nat} {ta : Nat → ClassId} {D : va_G} {n0 n : Nat} {h h' : ga_H} {ad : List Nat} {ws : va_W} {H H1 : Heap}
theorem ga_Ws_ad (hw : ga_Ws ρ oa ta D n0 n h ad ws H) {k a : Nat} (hk : ad[k]? = some a) : ∃ e, ws[k]? = some (a, e) := by
  rw [← hw.2.2.1.1, List.getElem?_map] at hk
  cases hq : ws[k]? with
  | none => rw [hq] at hk; cases hk
  | some q =>
    rw [hq] at hk
    cases hk
    exact ⟨q.2, rfl⟩
/-- a cell that the machine reads -/
theorem ga_Ws_at (hw : ga_Ws ρ oa ta D n0 n h ad ws H) {v : Nat} {x : Value} (hr : ga_ref v = true) (hv : ga_vr ρ oa ad v x) (h9 : ¬ (ga_hg h (v / 8)).1 = 999) : ∃ (a : Nat) (e : va_E), x = .ref a ∧ ws[v / 8]? = some (a, e) ∧ ga_cr ρ oa ta ad (ga_hg h (v / 8)) e := by
  have h3 : v % 8 = 3 := by simpa [ga_ref, ga_beq] using hr
  obtain ⟨a, h1, rfl⟩ := (ga_vr_3 h3).mp hv
  obtain ⟨a2, e, h4, h5⟩ := hw.2.2.2.2 _ h9
  obtain ⟨e2, h6⟩ := ga_Ws_ad hw h1
  rw [h6] at h4
  cases h4
  exact ⟨a, _, rfl, h6, h5⟩
theorem ga_Ws_set (hw : ga_Ws ρ oa ta D n0 n h ad ws H) {q0 a : Nat} {e e' : va_E} {c : ga_C} (he : ws[q0]? = some (a, e)) (hP1 : va_P D gm_cl (ws.set q0 (a, e')) H1) (hD1 : va_D (fun q => n0 ≤ q) (ws.set q0 (a, e'))) (hcr : ga_cr ρ oa ta ad c e')
    (hh : ∀ j, (j = q0 → ga_hg h' j = c ∨ (ga_hg h' j).1 = 999) ∧ (¬ j = q0 → ga_hg h' j = ga_hg h j)) : ga_Ws ρ oa ta D n0 n h' ad (ws.set q0 (a, e')) H1 := by
  have hl : q0 < ws.length := by
    rcases Nat.lt_or_ge q0 ws.length with q | q
    · exact q
    · rw [List.getElem?_eq_none q] at he; cases he
  refine ⟨hP1, hD1, ⟨?_, hw.2.2.1.2⟩, hw.2.2.2.1, fun k hk => ?_⟩
  · rw [List.map_set, hw.2.2.1.1]
    exact ga_set_self (by rw [← hw.2.2.1.1, List.getElem?_map, he]; rfl)
  · by_cases hj : k = q0
    · subst hj
      refine ⟨a, e', ?_, ?_⟩
      · rw [List.getElem?_set, if_pos rfl, if_pos hl]
      · rcases (hh k).1 rfl with g | g
        · rw [g]; exact hcr
        · exact absurd g hk
    · rw [(hh k).2 hj] at hk ⊢
      obtain ⟨a2, e2, g1, g2⟩ := hw.2.2.2.2 k hk
      exact ⟨a2, e2, by rw [List.getElem?_set, if_neg (fun q => hj q.symm)]; exact g1, g2⟩
theorem ga_Ws_push (hw : ga_Ws ρ oa ta D n0 n h ad ws H) {q : Nat} {e : va_E} {c : ga_C} (hP1 : va_P D gm_cl (ws ++ [(q, e)]) H1) (hD1 : va_D (fun q => n0 ≤ q) (ws ++ [(q, e)])) (hcr : ga_cr ρ oa ta (ad ++ [q]) c e)
    (hh : ∀ j, (j = n → ga_hg h' j = c ∨ (ga_hg h' j).1 = 999) ∧ (¬ j = n → ga_hg h' j = ga_hg h j)) : ga_Ws ρ oa ta D n0 (n + 1) h' (ad ++ [q]) (ws ++ [(q, e)]) H1 := by
  have hl : ws.length = n := by rw [← hw.2.2.2.1, ← hw.2.2.1.1, List.length_map]
  refine ⟨hP1, hD1, ⟨by rw [List.map_append, hw.2.2.1.1]; rfl, fun k hk => by rw [List.getElem?_append_left (by rcases Nat.lt_or_ge k ad.length with z | z; exact z; have h9 := hw.2.2.1.2 k hk; rw [List.getElem?_eq_none z] at h9; cases h9)]; exact hw.2.2.1.2 k hk⟩, by rw [List.length_append, hw.2.2.2.1]; rfl, fun k hk => ?_⟩
  by_cases hj : k = n
  · subst hj
    refine ⟨q, e, ?_, ?_⟩
    · rw [List.getElem?_append_right (by omega), hl, Nat.sub_self]; rfl
    · rcases (hh k).1 rfl with g | g
      · rw [g]; exact hcr
      · exact absurd g hk
  · rw [(hh k).2 hj] at hk ⊢
    obtain ⟨a2, e2, g1, g2⟩ := hw.2.2.2.2 k hk
    refine ⟨a2, e2, ?_, ga_cr_mono q g2⟩
    have hk2 : k < ws.length := by
      rcases Nat.lt_or_ge k ws.length with z | z
      · exact z
      · rw [List.getElem?_eq_none z] at g1; cases g1
    rw [List.getElem?_append_left hk2]
    exact g1
theorem ga_vr_cat {v : Nat} {x : Value} (hv : ga_vr ρ oa ad v x) : x.category = if v % 8 = 5 then 2 else 1 := by
  have h8 : v % 8 < 8 := Nat.mod_lt _ (by decide)
  unfold ga_vr at hv
  generalize v % 8 = t at hv h8 ⊢
  match t, h8, hv with
  | 0, _, hv => obtain ⟨-, rfl⟩ := hv; rfl
  | 1, _, hv => cases hv; rfl
  | 2, _, hv => obtain ⟨y, rfl⟩ := hv; rfl
  | 3, _, hv => obtain ⟨a, -, rfl⟩ := hv; rfl
  | 4, _, hv => cases hv; rfl
  | 5, _, hv => obtain ⟨-, rfl⟩ := hv; rfl
  | 6, _, hv => cases hv; rfl
  | 7, _, hv => exact hv.elim
theorem ga_sr_wd : ∀ {sk : List Nat} {st : List Value}, ga_sr ρ oa ad sk st → (st.map fun v => v.category).sum = ga_wd sk
  | [], [], _ => rfl
  | v :: r, x :: t, hs => by
    have h1 := ga_vr_cat hs.1
    have h2 := ga_sr_wd hs.2
    have e : ga_wd (v :: r) = ga_if (Nat.beq (v % 8) 5) (ga_wd r + 2) (ga_wd r + 1) := rfl
    rw [List.map_cons, List.sum_cons, h1, h2, e]
    simp only [ga_if_eq, ga_beq]
    split <;> omega
  | [], _ :: _, hs => hs.elim
  | _ :: _, [], hs => hs.elim
/-- all that the locals hold -/
def ga_hl (ls : Array Slot) : List (Nat × Value) := (List.range ls.size).filterMap (fun j : Nat => match (ls[j]? : Option Slot) with | some (Slot.val x) => some (j, x) | _ => none)
theorem ga_hl_mem {ls : Array Slot} {j : Nat} {x : Value} : (j, x) ∈ ga_hl ls ↔ ls[j]? = some (.val x) := by
  unfold ga_hl
  rw [List.mem_filterMap]
  constructor
  · rintro ⟨i, -, hi⟩
    cases hq : ls[i]? with
    | none => rw [hq] at hi; cases hi
    | some z =>
      rw [hq] at hi
      cases z with
      | val y => cases hi; exact hq
      | unset => cases hi
      | second => cases hi
  · intro hq
    exact ⟨j, List.mem_range.mpr (lv_lt hq), by rw [hq]⟩
theorem ga_hl_has {ls : Array Slot} {nL : Nat} (hs : ls.size = nL) (hw : lv_wf ls) : lv_has ls nL (ga_hl ls) := ⟨hs, hw, fun q hq => ga_hl_mem.mp hq⟩
theorem ga_getset {α : Type} {l : List α} {i j : Nat} {v w : α} (h : (l.set i v)[j]? = some w) : (j = i ∧ w = v) ∨ (¬ j = i ∧ l[j]? = some w) := by
  rw [List.getElem?_set] at h
  by_cases hj : i = j
  · rw [if_pos hj] at h
    split at h
    · cases h; exact Or.inl ⟨hj.symm, rfl⟩
    · cases h
  · rw [if_neg hj] at h
    exact Or.inr ⟨fun q => hj q.symm, h⟩
/-- the locals behind a store of one word -/
theorem ga_lr_set {nL : Nat} {al : List Nat} {ls ls' : Array Slot} {i v : Nat} {x : Value} (hl : ga_lr ρ oa ad nL al ls) (ha : ga_ahead al i = true) (hv : ga_vr ρ oa ad v x)
    (hh : lv_has ls' nL ((i, x) :: (ga_hl ls).filter (fun q => !(q.1 == i) && !(q.1 + 1 == i && q.2.category == 2)))) : ga_lr ρ oa ad nL (al.set i v) ls' := by
  refine ⟨hh.1, hh.2.1, by rw [List.length_set]; exact hl.2.2.1, fun j w hj h7 => ?_⟩
  rcases ga_getset hj with ⟨rfl, rfl⟩ | ⟨hne, hj2⟩
  · exact ⟨x, hv, hh.2.2 (_, x) List.mem_cons_self⟩
  · obtain ⟨y, g1, g2⟩ := hl.2.2.2 j w hj2 h7
    refine ⟨y, g1, hh.2.2 (j, y) (List.mem_cons_of_mem _ (List.mem_filter.mpr ⟨ga_hl_mem.mpr g2, ?_⟩))⟩
    have hc := ga_vr_cat g1
    simp only [Bool.and_eq_true, Bool.not_eq_true', beq_eq_false_iff_ne, ne_eq, Bool.and_eq_false_iff]
    refine ⟨hne, ?_⟩
    by_cases hi : j + 1 = i
    · right
      subst hi
      have h5 : ¬ w % 8 = 5 := by
        intro h5
        have e : ga_ahead al (j + 1) = ga_if (Nat.beq (ga_nth 7 al j % 8) 5) false true := rfl
        rw [e, ga_nth_eq, List.getD_eq_getElem?_getD, hj2] at ha
        simp [ga_if_eq, ga_beq, h5] at ha
      rw [hc, if_neg h5]
      decide
    · exact Or.inl hi
/-- the locals behind a store of two words -/
theorem ga_lr_set2 {nL : Nat} {al : List Nat} {ls ls' : Array Slot} {i v : Nat} {x : Value} (hl : ga_lr ρ oa ad nL al ls) (ha : ga_ahead al i = true) (hv : ga_vr ρ oa ad v x)
    (hh : lv_has ls' nL ((i, x) :: (ga_hl ls).filter (fun q => !(q.1 == i) && (!(q.1 == i + 1) && !(q.1 + 1 == i && q.2.category == 2))))) : ga_lr ρ oa ad nL ((al.set i v).set (i + 1) 7) ls' := by
  refine ⟨hh.1, hh.2.1, by rw [List.length_set, List.length_set]; exact hl.2.2.1, fun j w hj h7 => ?_⟩
  rcases ga_getset hj with ⟨rfl, rfl⟩ | ⟨hne2, hj1⟩
  · exact absurd rfl h7
  · rcases ga_getset hj1 with ⟨rfl, rfl⟩ | ⟨hne, hj2⟩
    · exact ⟨x, hv, hh.2.2 (_, x) List.mem_cons_self⟩
    · obtain ⟨y, g1, g2⟩ := hl.2.2.2 j w hj2 h7
      refine ⟨y, g1, hh.2.2 (j, y) (List.mem_cons_of_mem _ (List.mem_filter.mpr ⟨ga_hl_mem.mpr g2, ?_⟩))⟩
      have hc := ga_vr_cat g1
      simp only [Bool.and_eq_true, Bool.not_eq_true', beq_eq_false_iff_ne, ne_eq, Bool.and_eq_false_iff]
      refine ⟨hne, hne2, ?_⟩
      by_cases hi : j + 1 = i
      · right
        subst hi
        have h5 : ¬ w % 8 = 5 := by
          intro h5
          have e : ga_ahead al (j + 1) = ga_if (Nat.beq (ga_nth 7 al j % 8) 5) false true := rfl
          rw [e, ga_nth_eq, List.getD_eq_getElem?_getD, hj2] at ha
          simp [ga_if_eq, ga_beq, h5] at ha
        rw [hc, if_neg h5]
        decide
      · exact Or.inl hi
end GH
end
section
theorem ga_clamp {j : Nat} (h : j < 1048576) : (nI j).toNatClampNeg = j := nI_clamp (by omega)
theorem ga_vpin {j m : Nat} (h : j < 1048576) (hm : j < m) : vp_in (nI j) m := by
  unfold vp_in
  rw [ga_clamp h]
  have := nI_pos (n := j) (by omega)
  rintro (q | q)
  · exact this q
  · omega
theorem ga_fork_mem {i lo : Nat} {iv : ga_I} {K : ga_I → Option (List ga_O)} {m : Nat} {os : List ga_O} (h : ga_fork i lo iv K m = some os) {j : Nat} (hj : j < m) : ∃ o1, K (iv.set i (lo + j, lo + j)) = some o1 ∧ ∀ z ∈ o1, z ∈ os := by
  induction m generalizing os with
  | zero => omega
  | succ m ih =>
    have h1 : ga_cat (ga_f (lo + m) (fun c => ga_set iv i (c, c) K)) (ga_fork i lo iv K m) = some os := h
    rw [ga_f_eq, ga_set_eq] at h1
    unfold ga_cat at h1
    cases hx : K (iv.set i (lo + m, lo + m)) with
    | none => rw [hx] at h1; cases h1
    | some a =>
      rw [hx] at h1
      cases hb : ga_fork i lo iv K m with
      | none => rw [hb] at h1; cases h1
      | some b =>
        rw [hb] at h1
        have h3 : a ++ b = os := Option.some.inj h1
        by_cases hjm : j = m
        · subst hjm
          exact ⟨a, hx, fun z hz => by rw [← h3]; exact List.mem_append_left _ hz⟩
        · obtain ⟨o1, g1, g2⟩ := ih hb (by omega)
          exact ⟨o1, g1, fun z hz => by rw [← h3]; exact List.mem_append_right _ (g2 z hz)⟩
/-- a switch: which way is gone -/
theorem ga_sw_ok {ρ : Nat → Int32} {oa : Nat → Nat} {ad : List Nat} {v : Nat} {X : Int32} (hX : ga_vr ρ oa ad v (.int X)) {d : ga_I → Option (List ga_O)} {K : Nat → ga_I → Option (List ga_O)} {os : List ga_O} : ∀ {ps : List (Nat × Nat)} {iv : ga_I}, (∀ q ∈ ps, q.1 % 8 = 0 ∧ q.1 / 8 < 4294967296) → ga_in ρ iv → ga_sw ps v iv d K = some os →
    (∃ q ∈ ps, X = nI (q.1 / 8) ∧ ∃ iv' o1, ga_in ρ iv' ∧ K q.2 iv' = some o1 ∧ ∀ z ∈ o1, z ∈ os) ∨ ((∀ q ∈ ps, ¬ X = nI (q.1 / 8)) ∧ ∃ iv' o1, ga_in ρ iv' ∧ d iv' = some o1 ∧ ∀ z ∈ o1, z ∈ os)
  | [], iv, _, hi, h => Or.inr ⟨fun _ hq => (by cases hq), iv, os, hi, h, fun _ hz => hz⟩
  | q :: r, iv, hp, hi, h => by
    have h1 : ga_br (ga_eq iv v q.1) (K q.2) (fun iv => ga_sw r v iv d K) = some os := h
    have hq := hp q List.mem_cons_self
    have hy : ga_vr ρ oa ad q.1 (.int (nI (q.1 / 8))) := (ga_vr_0 hq.1).mpr ⟨hq.2, rfl⟩
    obtain ⟨w, hw, hin, hiff⟩ := ga_eq_ok hi hX hy
    obtain ⟨o1, g1, g2⟩ := ga_all_mem h1 hw
    by_cases hc : X = nI (q.1 / 8)
    · rw [hiff.mpr hc, ga_if_t] at g1
      exact Or.inl ⟨q, List.mem_cons_self, hc, w.2, o1, hin, g1, g2⟩
    · have hf : w.1 = false := by
        cases hb : w.1 with
        | false => rfl
        | true => exact absurd (hiff.mp hb) hc
      rw [hf, ga_if_f] at g1
      rcases ga_sw_ok hX (fun z hz => hp z (List.mem_cons_of_mem _ hz)) hin g1 with ⟨z, hz, e, iv', o2, a1, a2, a3⟩ | ⟨hn, iv', o2, a1, a2, a3⟩
      · exact Or.inl ⟨z, List.mem_cons_of_mem _ hz, e, iv', o2, a1, a2, fun y hy => g2 y (a3 y hy)⟩
      · refine Or.inr ⟨fun z hz => ?_, iv', o2, a1, a2, fun y hy => g2 y (a3 y hy)⟩
        rcases List.mem_cons.mp hz with rfl | hz
        · exact hc
        · exact hn z hz
section GI
variable {p : Program} {l : Launch} {e : Env} {R : Room} {s : State} {m : MethodId} {args : Array Value} {below : List Frame} {meth : Method} {c : Code} {Q : State → Prop}
variable {ρ : Nat → Int32} {oa : Nat → Nat} {ta : Nat → ClassId} {D : va_G} {n0 nL : Nat} {cc : ByteArray} {pc : Nat} {nx cds : List ga_E} {al sk : List Nat} {cs ss : Nat} {iv : ga_I} {n : Nat} {h : ga_H}
theorem gg_stk {sk' : List Nat} (hc : ga_pc cds = pc) (hrow : ∀ (H : Heap) (locs : List Loc) (ls : Array Slot) (st : List Value) (ad : List Nat), ls.size = nL → ga_sr ρ oa ad sk st → ∃ st', ga_sr ρ oa ad sk' st' ∧ (W p l e R s m args below meth c H locs cs ss Q (F0 m (ga_pc nx) ls st') → W p l e R s m args below meth c H locs cs ss Q (F0 m pc ls st)))
    (k : ga_Go p l e R s m args below meth c Q ρ oa ta D n0 nL nx al sk' cs ss iv n h) : ga_Go p l e R s m args below meth c Q ρ oa ta D n0 nL cds al sk cs ss iv n h := by
  intro H locs ls st hat
  obtain ⟨hi, hS, ad, ws, hw, hl, hs⟩ := hat
  obtain ⟨st', g1, g2⟩ := hrow H locs ls st ad hl.1 hs
  rw [hc]
  exact g2 (k H locs ls st' ⟨hi, hS, ad, ws, hw, hl, g1⟩)
theorem gg_store {v i : Nat} {r : List Nat} (hc : ga_pc cds = pc) (ha : ga_ahead al i = true)
    (hrow : ∀ (H : Heap) (locs : List Loc) (ls : Array Slot) (st : List Value) (ad : List Nat) (x : Value), ga_vr ρ oa ad v x → lv_has ls nL (ga_hl ls) → (∀ ls', lv_has ls' nL ((i, x) :: (ga_hl ls).filter (fun q => !(q.1 == i) && !(q.1 + 1 == i && q.2.category == 2))) → W p l e R s m args below meth c H locs cs ss Q (F0 m (ga_pc nx) ls' st)) → W p l e R s m args below meth c H locs cs ss Q (F0 m pc ls (x :: st)))
    (k : ga_Go p l e R s m args below meth c Q ρ oa ta D n0 nL nx (al.set i v) r cs ss iv n h) : ga_Go p l e R s m args below meth c Q ρ oa ta D n0 nL cds al (v :: r) cs ss iv n h := by
  intro H locs ls st hat
  obtain ⟨hi, hS, ad, ws, hw, hl, hs⟩ := hat
  obtain ⟨x, t, rfl, h1, hs1⟩ := ga_sr_cons hs
  rw [hc]
  exact hrow H locs ls t ad x h1 (ga_hl_has hl.1 hl.2.1) (fun ls' hh => k H locs ls' t ⟨hi, hS, ad, ws, hw, ga_lr_set hl ha h1 hh, hs1⟩)
theorem gg_store2 {v i : Nat} {r : List Nat} (hc : ga_pc cds = pc) (ha : ga_ahead al i = true)
    (hrow : ∀ (H : Heap) (locs : List Loc) (ls : Array Slot) (st : List Value) (ad : List Nat) (x : Value), ga_vr ρ oa ad v x → lv_has ls nL (ga_hl ls) → (∀ ls', lv_has ls' nL ((i, x) :: (ga_hl ls).filter (fun q => !(q.1 == i) && (!(q.1 == i + 1) && !(q.1 + 1 == i && q.2.category == 2)))) → W p l e R s m args below meth c H locs cs ss Q (F0 m (ga_pc nx) ls' st)) → W p l e R s m args below meth c H locs cs ss Q (F0 m pc ls (x :: st)))
    (k : ga_Go p l e R s m args below meth c Q ρ oa ta D n0 nL nx ((al.set i v).set (i + 1) 7) r cs ss iv n h) : ga_Go p l e R s m args below meth c Q ρ oa ta D n0 nL cds al (v :: r) cs ss iv n h := by
  intro H locs ls st hat
  obtain ⟨hi, hS, ad, ws, hw, hl, hs⟩ := hat
  obtain ⟨x, t, rfl, h1, hs1⟩ := ga_sr_cons hs
  rw [hc]
  exact hrow H locs ls t ad x h1 (ga_hl_has hl.1 hl.2.1) (fun ls' hh => k H locs ls' t ⟨hi, hS, ad, ws, hw, ga_lr_set2 hl ha h1 hh, hs1⟩)
theorem gg_iinc {v i a : Nat} (hc : ga_pc cds = pc) (hv : ga_nth 7 al i = v) (h0 : v % 8 = 0) (ha : ga_ahead al i = true) (ha0 : a % 8 = 0)
    (hrow : ∀ (H : Heap) (locs : List Loc) (ls : Array Slot) (st : List Value) (x : Int32), lv_has ls nL (ga_hl ls) → (i, Value.int x) ∈ ga_hl ls → (∀ ls', lv_has ls' nL ((i, Value.int (x + nI (a / 8))) :: (ga_hl ls).filter (fun q => !(q.1 == i) && !(q.1 + 1 == i && q.2.category == 2))) → W p l e R s m args below meth c H locs cs ss Q (F0 m (ga_pc nx) ls' st)) → W p l e R s m args below meth c H locs cs ss Q (F0 m pc ls st))
    (k : ga_Go p l e R s m args below meth c Q ρ oa ta D n0 nL nx (al.set i ((v + a) % 34359738368)) sk cs ss iv n h) : ga_Go p l e R s m args below meth c Q ρ oa ta D n0 nL cds al sk cs ss iv n h := by
  intro H locs ls st hat
  obtain ⟨hi, hS, ad, ws, hw, hl, hs⟩ := hat
  have hg : al[i]? = some v := by
    rw [ga_nth_eq, List.getD_eq_getElem?_getD] at hv
    cases hq : al[i]? with
    | none => rw [hq] at hv; exact absurd (show v % 8 = 7 by rw [← hv]; rfl) (by omega)
    | some w => rw [hq] at hv; exact congrArg some hv
  obtain ⟨x, h1, h2⟩ := hl.2.2.2 i v hg (by omega)
  obtain ⟨l1, rfl⟩ := (ga_vr_0 h0).mp h1
  rw [hc]
  refine hrow H locs ls st (nI (v / 8)) (ga_hl_has hl.1 hl.2.1) (ga_hl_mem.mpr h2) (fun ls' hh => k H locs ls' st ⟨hi, hS, ad, ws, hw, ga_lr_set hl ha ?_ hh, hs⟩)
  rw [nI_add]
  have e : (v + a) % 34359738368 = 8 * ((v / 8 + a / 8) % 4294967296) := by omega
  rw [e]
  exact ga_litx _
theorem gg_get {r ci mm kf v : Nat} {vs t : List Nat} (hc : ga_pc cds = pc) (hr : ga_ref r = true) (hcell : ga_hg h (r / 8) = (ci, mm, vs)) (hci : ci < 100) (hv : vs[kf]? = some v)
    (hrow : ∀ (H : Heap) (locs : List Loc) (ls : Array Slot) (st : List Value) (ws : va_W) (q0 a : Nat) (fs : List Value) (x : Value), va_P D gm_cl ws H → ws[q0]? = some (a, .inr (ci, fs)) → fs[kf]? = some x → W p l e R s m args below meth c H locs cs ss Q (F0 m (ga_pc nx) ls (x :: st)) → W p l e R s m args below meth c H locs cs ss Q (F0 m pc ls (.ref a :: st)))
    (k : ga_Go p l e R s m args below meth c Q ρ oa ta D n0 nL nx al (v :: t) cs ss iv n h) : ga_Go p l e R s m args below meth c Q ρ oa ta D n0 nL cds al (r :: t) cs ss iv n h := by
  intro H locs ls st hat
  obtain ⟨hi, hS, ad, ws, hw, hl, hs⟩ := hat
  obtain ⟨x, st1, rfl, h1, hs1⟩ := ga_sr_cons hs
  obtain ⟨a, e, rfl, he, hcr⟩ := ga_Ws_at hw hr h1 (by rw [hcell]; show ¬ ci = 999; omega)
  rw [hcell] at hcr
  rcases hcr with ⟨-, fs, rfl, -, h3⟩ | ⟨hk, -⟩ | ⟨hk, -⟩ | ⟨hk, -⟩
  · obtain ⟨x, g1, g2⟩ := h3 kf v hv
    rw [hc]
    exact hrow H locs ls st1 ws _ a fs x hw.1 he g1 (k H locs ls (x :: st1) ⟨hi, hS, ad, ws, hw, hl, g2, hs1⟩)
  · exact absurd hk (show ¬ (ci = 100 ∨ ci = 101 ∨ ci = 104) by omega)
  · exact absurd hk (show ¬ ci = 102 by omega)
  · exact absurd hk (show ¬ ci = 103 by omega)
theorem gg_put {r ci mm kf v : Nat} {vs t : List Nat} {h' : ga_H} (hc : ga_pc cds = pc) (hr : ga_ref r = true) (hcell : ga_hg h (r / 8) = (ci, mm, vs)) (hci : ci < 100) (hkf : kf < vs.length)
    (hh : ∀ j, (j = r / 8 → ga_hg h' j = (ci, mm, vs.set kf v) ∨ (ga_hg h' j).1 = 999) ∧ (¬ j = r / 8 → ga_hg h' j = ga_hg h j))
    (hrow : ∀ (H : Heap) (locs : List Loc) (ls : Array Slot) (st : List Value) (ad : List Nat) (ws : va_W) (q0 a : Nat) (fs : List Value) (x : Value), va_P D gm_cl ws H → va_D (fun q => n0 ≤ q) ws → va_S (fun q => n0 ≤ q) s.heap H locs → ws[q0]? = some (a, .inr (ci, fs)) → kf < fs.length → ga_vr ρ oa ad v x →
      (∀ (H1 : Heap) (locs1 : List Loc), va_P D gm_cl (ws.set q0 (a, .inr (ci, fs.set kf x))) H1 → va_D (fun q => n0 ≤ q) (ws.set q0 (a, .inr (ci, fs.set kf x))) → va_S (fun q => n0 ≤ q) s.heap H1 locs1 → W p l e R s m args below meth c H1 locs1 cs ss Q (F0 m (ga_pc nx) ls st)) → W p l e R s m args below meth c H locs cs ss Q (F0 m pc ls (x :: .ref a :: st)))
    (k : ga_Go p l e R s m args below meth c Q ρ oa ta D n0 nL nx al t cs ss iv n h') : ga_Go p l e R s m args below meth c Q ρ oa ta D n0 nL cds al (v :: r :: t) cs ss iv n h := by
  intro H locs ls st hat
  obtain ⟨hi, hS, ad, ws, hw, hl, hs⟩ := hat
  obtain ⟨x, st0, rfl, hx, hs0⟩ := ga_sr_cons hs
  obtain ⟨y, st1, rfl, h1, hs1⟩ := ga_sr_cons hs0
  obtain ⟨a, e, rfl, he, hcr⟩ := ga_Ws_at hw hr h1 (by rw [hcell]; show ¬ ci = 999; omega)
  rw [hcell] at hcr
  rcases hcr with ⟨-, fs, rfl, hlen, h3⟩ | ⟨hk, -⟩ | ⟨hk, -⟩ | ⟨hk, -⟩
  · rw [hc]
    refine hrow H locs ls st1 ad ws (r / 8) a fs x hw.1 hw.2.1 hS he (by rw [hlen]; exact hkf) hx (fun H1 locs1 hP1 hD1 hS1 => k H1 locs1 ls st1 ⟨hi, hS1, ad, _, ga_Ws_set hw he hP1 hD1 (Or.inl ⟨hci, fs.set kf x, rfl, by simp only [List.length_set]; exact hlen, fun j w hj => ?_⟩) hh, hl, hs1⟩)
    rcases ga_getset hj with ⟨rfl, rfl⟩ | ⟨hne, hj⟩
    · exact ⟨x, by rw [List.getElem?_set, if_pos rfl, if_pos (by rw [hlen]; exact hkf)], hx⟩
    · obtain ⟨z, g1, g2⟩ := h3 j w hj
      exact ⟨z, by rw [List.getElem?_set, if_neg (fun q => hne q.symm)]; exact g1, g2⟩
  · exact absurd hk (show ¬ (ci = 100 ∨ ci = 101 ∨ ci = 104) by omega)
  · exact absurd hk (show ¬ ci = 102 by omega)
  · exact absurd hk (show ¬ ci = 103 by omega)
/-- a place in an array: the number at hand, or one of those that the symbol may be -/
theorem gg_idx {v : Nat} {again : ga_I → Option (List ga_O)} {K : Nat → Option (List ga_O)} {os : List ga_O} (ho : ga_idx iv v again K = some os)
    (hK : ga_sm iv v % 8 = 0 → ∀ o1, K (ga_sm iv v / 8) = some o1 → (∀ z ∈ o1, z ∈ os) → ga_Go p l e R s m args below meth c Q ρ oa ta D n0 nL cds al sk cs ss iv n h)
    (hA : ∀ iv' o1, again iv' = some o1 → (∀ z ∈ o1, z ∈ os) → ga_Go p l e R s m args below meth c Q ρ oa ta D n0 nL cds al sk cs ss iv' n h) : ga_Go p l e R s m args below meth c Q ρ oa ta D n0 nL cds al sk cs ss iv n h := by
  unfold ga_idx at ho
  rw [ga_f_eq] at ho
  simp only [ga_if_eq, ga_beq, ga_f_eq, Nat.blt_eq] at ho
  split at ho
  · rename_i h0
    exact hK h0 os ho (fun _ hz => hz)
  · split at ho
    · split at ho
      · intro H locs ls st hat
        have hi := hat.1
        have g1 := (hi (ga_sm iv v / 8)).1
        have g2 := (hi (ga_sm iv v / 8)).2
        obtain ⟨o1, a1, a2⟩ := ga_fork_mem ho (j := ga_kk (ρ (ga_sm iv v / 8)) - (ga_iv iv (ga_sm iv v / 8)).1) (by omega)
        refine hA _ o1 a1 a2 H locs ls st ⟨ga_in_set hi (by omega) (by omega), hat.2⟩
      · cases ho
    · cases ho
theorem ga_lit_of (hi : ga_in ρ iv) {ad : List Nat} {v : Nat} {x : Value} (h0 : ga_sm iv v % 8 = 0) (hv : ga_vr ρ oa ad v x) : x = .int (nI (ga_sm iv v / 8)) := ((ga_vr_0 h0).mp (ga_sm_ok hi hv)).2
theorem gg_aldi {kind i r j mm v : Nat} {vs t : List Nat} (hc : ga_pc cds = pc) (hi0 : ga_sm iv i % 8 = 0) (hj : ga_sm iv i / 8 = j) (hjb : j < 1048576) (hr : ga_ref r = true) (hcell : ga_hg h (r / 8) = (kind, mm, vs)) (hk : kind = 100 ∨ kind = 101 ∨ kind = 104) (hjm : j < mm) (hv : vs.getD j 0 = v)
    (hrow : ∀ (H : Heap) (locs : List Loc) (ls : Array Slot) (st : List Value) (ws : va_W) (q0 a : Nat) (f : Nat → Int32), va_P D gm_cl ws H → ws[q0]? = some (a, .inl (ta kind, mm, .inl f)) → W p l e R s m args below meth c H locs cs ss Q (F0 m (ga_pc nx) ls (.int (f j) :: st)) → W p l e R s m args below meth c H locs cs ss Q (F0 m pc ls (.int (nI j) :: .ref a :: st)))
    (k : ga_Go p l e R s m args below meth c Q ρ oa ta D n0 nL nx al (v :: t) cs ss iv n h) : ga_Go p l e R s m args below meth c Q ρ oa ta D n0 nL cds al (i :: r :: t) cs ss iv n h := by
  intro H locs ls st hat
  obtain ⟨hi, hS, ad, ws, hw, hl, hs⟩ := hat
  obtain ⟨x, st0, rfl, hx, hs0⟩ := ga_sr_cons hs
  obtain ⟨y, st1, rfl, h1, hs1⟩ := ga_sr_cons hs0
  have e1 := ga_lit_of hi hi0 hx
  rw [hj] at e1
  subst e1
  obtain ⟨a, e, rfl, he, hcr⟩ := ga_Ws_at hw hr h1 (by rw [hcell]; show ¬ kind = 999; omega)
  rw [hcell] at hcr
  rcases hcr with ⟨q, -⟩ | ⟨-, f, rfl, h3⟩ | ⟨q, -⟩ | ⟨q, -⟩
  · exact absurd q (show ¬ kind < 100 by omega)
  · rw [hc]
    have h4 := h3 j hjm
    exact hrow H locs ls st1 ws _ a f hw.1 he (k H locs ls (.int (f j) :: st1) ⟨hi, hS, ad, ws, hw, hl, by rw [← hv]; exact h4, hs1⟩)
  · exact absurd q (show ¬ kind = 102 by omega)
  · exact absurd q (show ¬ kind = 103 by omega)
theorem gg_aldr {i r j mm v : Nat} {vs t : List Nat} (hc : ga_pc cds = pc) (hi0 : ga_sm iv i % 8 = 0) (hj : ga_sm iv i / 8 = j) (hjb : j < 1048576) (hr : ga_ref r = true) (hcell : ga_hg h (r / 8) = (103, mm, vs)) (hjm : j < mm) (hv : vs.getD j 4 = v)
    (hrow : ∀ (H : Heap) (locs : List Loc) (ls : Array Slot) (st : List Value) (ws : va_W) (q0 a : Nat) (f : Nat → Option Nat), va_P D gm_cl ws H → ws[q0]? = some (a, .inl (ta 103, mm, .inr (.inr (.inr (.inr f))))) → W p l e R s m args below meth c H locs cs ss Q (F0 m (ga_pc nx) ls (va_rf (f j) :: st)) → W p l e R s m args below meth c H locs cs ss Q (F0 m pc ls (.int (nI j) :: .ref a :: st)))
    (k : ga_Go p l e R s m args below meth c Q ρ oa ta D n0 nL nx al (v :: t) cs ss iv n h) : ga_Go p l e R s m args below meth c Q ρ oa ta D n0 nL cds al (i :: r :: t) cs ss iv n h := by
  intro H locs ls st hat
  obtain ⟨hi, hS, ad, ws, hw, hl, hs⟩ := hat
  obtain ⟨x, st0, rfl, hx, hs0⟩ := ga_sr_cons hs
  obtain ⟨y, st1, rfl, h1, hs1⟩ := ga_sr_cons hs0
  have e1 := ga_lit_of hi hi0 hx
  rw [hj] at e1
  subst e1
  obtain ⟨a, e, rfl, he, hcr⟩ := ga_Ws_at hw hr h1 (by rw [hcell]; show ¬ 103 = 999; omega)
  rw [hcell] at hcr
  rcases hcr with ⟨q, -⟩ | ⟨q, -⟩ | ⟨q, -⟩ | ⟨-, f, rfl, h3⟩
  · exact absurd q (show ¬ 103 < 100 by omega)
  · exact absurd q (show ¬ (103 = 100 ∨ 103 = 101 ∨ 103 = 104) by omega)
  · exact absurd q (show ¬ 103 = 102 by omega)
  · rw [hc]
    have h4 := h3 j hjm
    exact hrow H locs ls st1 ws _ a f hw.1 he (k H locs ls (va_rf (f j) :: st1) ⟨hi, hS, ad, ws, hw, hl, by rw [← hv]; exact h4, hs1⟩)
end GI
end
section
theorem ga_cpy_eq {β : Type} (d : Nat) (a : List Nat) (sp dp : Nat) : ∀ (m : Nat) (b : List Nat) (K : List Nat → β), ∃ b' : List Nat, ga_cpy d a sp dp m b K = K b' ∧ ∀ j, b'.getD j d = if dp ≤ j ∧ j < dp + m then a.getD (sp + (j - dp)) d else b.getD j d := by
  intro m
  induction m with
  | zero => exact fun b K => ⟨b, rfl, fun j => by rw [if_neg (by omega)]⟩
  | succ m ih =>
    intro b K
    have e : ga_cpy d a sp dp (m + 1) b K = ga_f (ga_nth d a (sp + m)) (fun v => ga_if (Nat.beq v (ga_nth d b (dp + m))) (ga_cpy d a sp dp m b K) (ga_put d b (dp + m) v (fun b => ga_cpy d a sp dp m b K))) := rfl
    rw [e, ga_f_eq]
    simp only [ga_if_eq, ga_beq, ga_nth_eq]
    split
    · rename_i hq
      obtain ⟨b', h1, h2⟩ := ih b K
      refine ⟨b', h1, fun j => ?_⟩
      rw [h2 j]
      by_cases hj : j = dp + m
      · subst hj
        rw [if_neg (by omega), if_pos (by omega), ← hq]
        congr 1
        omega
      · by_cases hk : dp ≤ j ∧ j < dp + m
        · rw [if_pos hk, if_pos (by omega)]
        · rw [if_neg hk, if_neg (by omega)]
    · obtain ⟨b1, g1, g2⟩ := ga_put_eq d b (dp + m) (a.getD (sp + m) d) (fun b => ga_cpy d a sp dp m b K)
      obtain ⟨b', h1, h2⟩ := ih b1 K
      refine ⟨b', g1.trans h1, fun j => ?_⟩
      rw [h2 j]
      by_cases hj : j = dp + m
      · subst hj
        rw [if_neg (by omega), if_pos (by omega), g2, if_pos rfl]
        congr 1
        omega
      · by_cases hk : dp ≤ j ∧ j < dp + m
        · rw [if_pos hk, if_pos (by omega)]
        · rw [if_neg hk, if_neg (by omega), g2, if_neg hj]
section GJ
variable {p : Program} {l : Launch} {e : Env} {R : Room} {s : State} {m : MethodId} {args : Array Value} {below : List Frame} {meth : Method} {c : Code} {Q : State → Prop}
variable {ρ : Nat → Int32} {oa : Nat → Nat} {ta : Nat → ClassId} {D : va_G} {n0 nL : Nat} {cc : ByteArray} {pc : Nat} {nx cds : List ga_E} {al sk : List Nat} {cs ss : Nat} {iv : ga_I} {n : Nat} {h h' : ga_H}
/-- a store in an array of ints, bytes or booleans: w is what comes there of v -/
theorem gg_asti {kind i r j mm v w : Nat} {vs vs' t : List Nat} (hc : ga_pc cds = pc) (hi0 : ga_sm iv i % 8 = 0) (hj : ga_sm iv i / 8 = j) (hr : ga_ref r = true) (hcell : ga_hg h (r / 8) = (kind, mm, vs)) (hk : kind = 100 ∨ kind = 101 ∨ kind = 104) (hjm : j < mm)
    (hvs : ∀ q, vs'.getD q 0 = if q = j then w else vs.getD q 0)
    (hh : ∀ q, (q = r / 8 → ga_hg h' q = (kind, mm, vs') ∨ (ga_hg h' q).1 = 999) ∧ (¬ q = r / 8 → ga_hg h' q = ga_hg h q))
    (hrow : ∀ (H : Heap) (locs : List Loc) (ls : Array Slot) (st : List Value) (ad : List Nat) (ws : va_W) (q0 a : Nat) (f : Nat → Int32) (x : Value), va_P D gm_cl ws H → va_D (fun q => n0 ≤ q) ws → va_S (fun q => n0 ≤ q) s.heap H locs → ws[q0]? = some (a, .inl (ta kind, mm, .inl f)) → ga_vr ρ oa ad v x →
      ∃ z : Int32, ga_vr ρ oa ad w (.int z) ∧ ((∀ (H1 : Heap) (locs1 : List Loc), va_P D gm_cl (ws.set q0 (a, .inl (ta kind, mm, .inl (upd f j z)))) H1 → va_D (fun q => n0 ≤ q) (ws.set q0 (a, .inl (ta kind, mm, .inl (upd f j z)))) → va_S (fun q => n0 ≤ q) s.heap H1 locs1 → W p l e R s m args below meth c H1 locs1 cs ss Q (F0 m (ga_pc nx) ls st)) → W p l e R s m args below meth c H locs cs ss Q (F0 m pc ls (x :: .int (nI j) :: .ref a :: st))))
    (k : ga_Go p l e R s m args below meth c Q ρ oa ta D n0 nL nx al t cs ss iv n h') : ga_Go p l e R s m args below meth c Q ρ oa ta D n0 nL cds al (v :: i :: r :: t) cs ss iv n h := by
  intro H locs ls st hat
  obtain ⟨hi, hS, ad, ws, hw, hl, hs⟩ := hat
  obtain ⟨x, st0, rfl, hx, hs0⟩ := ga_sr_cons hs
  obtain ⟨y, st1, rfl, hy, hs1⟩ := ga_sr_cons hs0
  obtain ⟨z, st2, rfl, hz, hs2⟩ := ga_sr_cons hs1
  have e1 := ga_lit_of hi hi0 hy
  rw [hj] at e1
  subst e1
  obtain ⟨a, e, rfl, he, hcr⟩ := ga_Ws_at hw hr hz (by rw [hcell]; show ¬ kind = 999; omega)
  rw [hcell] at hcr
  rcases hcr with ⟨q, -⟩ | ⟨-, f, rfl, h3⟩ | ⟨q, -⟩ | ⟨q, -⟩
  · exact absurd q (show ¬ kind < 100 by omega)
  · obtain ⟨z, g1, g2⟩ := hrow H locs ls st2 ad ws (r / 8) a f x hw.1 hw.2.1 hS he hx
    rw [hc]
    refine g2 (fun H1 locs1 hP1 hD1 hS1 => k H1 locs1 ls st2 ⟨hi, hS1, ad, _, ga_Ws_set hw he hP1 hD1 (Or.inr (Or.inl ⟨hk, upd f j z, rfl, fun q hq => ?_⟩)) hh, hl, hs2⟩)
    show ga_vr ρ oa ad (vs'.getD q 0) (.int (upd f j z q))
    rw [hvs q]
    unfold upd
    by_cases hqj : q = j
    · rw [if_pos hqj, if_pos hqj]; exact g1
    · rw [if_neg hqj, if_neg hqj]; exact h3 q hq
  · exact absurd q (show ¬ kind = 102 by omega)
  · exact absurd q (show ¬ kind = 103 by omega)
theorem gg_astl {i r j mm v : Nat} {vs vs' t : List Nat} (hc : ga_pc cds = pc) (hi0 : ga_sm iv i % 8 = 0) (hj : ga_sm iv i / 8 = j) (hr : ga_ref r = true) (hcell : ga_hg h (r / 8) = (102, mm, vs)) (hjm : j < mm) (hv5 : v % 8 = 5)
    (hvs : ∀ q, vs'.getD q 5 = if q = j then v else vs.getD q 5)
    (hh : ∀ q, (q = r / 8 → ga_hg h' q = (102, mm, vs') ∨ (ga_hg h' q).1 = 999) ∧ (¬ q = r / 8 → ga_hg h' q = ga_hg h q))
    (hrow : ∀ (H : Heap) (locs : List Loc) (ls : Array Slot) (st : List Value) (ws : va_W) (q0 a : Nat) (f : Nat → Int64) (x : Int64), va_P D gm_cl ws H → va_D (fun q => n0 ≤ q) ws → va_S (fun q => n0 ≤ q) s.heap H locs → ws[q0]? = some (a, .inl (ta 102, mm, .inr (.inl f))) →
      (∀ (H1 : Heap) (locs1 : List Loc), va_P D gm_cl (ws.set q0 (a, .inl (ta 102, mm, .inr (.inl (vp_updL f j x))))) H1 → va_D (fun q => n0 ≤ q) (ws.set q0 (a, .inl (ta 102, mm, .inr (.inl (vp_updL f j x))))) → va_S (fun q => n0 ≤ q) s.heap H1 locs1 → W p l e R s m args below meth c H1 locs1 cs ss Q (F0 m (ga_pc nx) ls st)) → W p l e R s m args below meth c H locs cs ss Q (F0 m pc ls (.long x :: .int (nI j) :: .ref a :: st)))
    (k : ga_Go p l e R s m args below meth c Q ρ oa ta D n0 nL nx al t cs ss iv n h') : ga_Go p l e R s m args below meth c Q ρ oa ta D n0 nL cds al (v :: i :: r :: t) cs ss iv n h := by
  intro H locs ls st hat
  obtain ⟨hi, hS, ad, ws, hw, hl, hs⟩ := hat
  obtain ⟨x, st0, rfl, hx, hs0⟩ := ga_sr_cons hs
  obtain ⟨y, st1, rfl, hy, hs1⟩ := ga_sr_cons hs0
  obtain ⟨z, st2, rfl, hz, hs2⟩ := ga_sr_cons hs1
  have e1 := ga_lit_of hi hi0 hy
  rw [hj] at e1
  subst e1
  obtain ⟨-, rfl⟩ := (ga_vr_5 hv5).mp hx
  obtain ⟨a, e, rfl, he, hcr⟩ := ga_Ws_at hw hr hz (by rw [hcell]; show ¬ 102 = 999; omega)
  rw [hcell] at hcr
  rcases hcr with ⟨q, -⟩ | ⟨q, -⟩ | ⟨-, f, rfl, h3⟩ | ⟨q, -⟩
  · exact absurd q (show ¬ 102 < 100 by omega)
  · exact absurd q (show ¬ (102 = 100 ∨ 102 = 101 ∨ 102 = 104) by omega)
  · rw [hc]
    refine hrow H locs ls st2 ws (r / 8) a f _ hw.1 hw.2.1 hS he (fun H1 locs1 hP1 hD1 hS1 => k H1 locs1 ls st2 ⟨hi, hS1, ad, _, ga_Ws_set hw he hP1 hD1 (Or.inr (Or.inr (Or.inl ⟨rfl, _, rfl, fun q hq => ?_⟩))) hh, hl, hs2⟩)
    show ga_vr ρ oa ad (vs'.getD q 5) (.long (vp_updL f j _ q))
    rw [hvs q]
    unfold vp_updL
    by_cases hqj : q = j
    · rw [if_pos hqj, if_pos hqj]; exact hx
    · rw [if_neg hqj, if_neg hqj]; exact h3 q hq
  · exact absurd q (show ¬ 102 = 103 by omega)
theorem gg_astr {ci i r j mm v : Nat} {vs vs' t : List Nat} (hc : ga_pc cds = pc) (hi0 : ga_sm iv i % 8 = 0) (hj : ga_sm iv i / 8 = j) (hr : ga_ref r = true) (hcell : ga_hg h (r / 8) = (103, mm, vs)) (hjm : j < mm) (hv : ga_ref v = true) (hvc : (ga_hg h (v / 8)).1 = ci) (hci : ci < 100)
    (hvs : ∀ q, vs'.getD q 4 = if q = j then v else vs.getD q 4)
    (hh : ∀ q, (q = r / 8 → ga_hg h' q = (103, mm, vs') ∨ (ga_hg h' q).1 = 999) ∧ (¬ q = r / 8 → ga_hg h' q = ga_hg h q))
    (hrow : ∀ (H : Heap) (locs : List Loc) (ls : Array Slot) (st : List Value) (ws : va_W) (q0 qk a x : Nat) (f : Nat → Option Nat) (fs : List Value), va_P D gm_cl ws H → va_D (fun q => n0 ≤ q) ws → va_S (fun q => n0 ≤ q) s.heap H locs → ws[q0]? = some (a, .inl (ta 103, mm, .inr (.inr (.inr (.inr f))))) → ws[qk]? = some (x, .inr (ci, fs)) →
      (∀ (H1 : Heap) (locs1 : List Loc), va_P D gm_cl (ws.set q0 (a, .inl (ta 103, mm, .inr (.inr (.inr (.inr (va_up f j (some x)))))))) H1 → va_D (fun q => n0 ≤ q) (ws.set q0 (a, .inl (ta 103, mm, .inr (.inr (.inr (.inr (va_up f j (some x)))))))) → va_S (fun q => n0 ≤ q) s.heap H1 locs1 → W p l e R s m args below meth c H1 locs1 cs ss Q (F0 m (ga_pc nx) ls st)) → W p l e R s m args below meth c H locs cs ss Q (F0 m pc ls (.ref x :: .int (nI j) :: .ref a :: st)))
    (k : ga_Go p l e R s m args below meth c Q ρ oa ta D n0 nL nx al t cs ss iv n h') : ga_Go p l e R s m args below meth c Q ρ oa ta D n0 nL cds al (v :: i :: r :: t) cs ss iv n h := by
  intro H locs ls st hat
  obtain ⟨hi, hS, ad, ws, hw, hl, hs⟩ := hat
  obtain ⟨x, st0, rfl, hx, hs0⟩ := ga_sr_cons hs
  obtain ⟨y, st1, rfl, hy, hs1⟩ := ga_sr_cons hs0
  obtain ⟨z, st2, rfl, hz, hs2⟩ := ga_sr_cons hs1
  have e1 := ga_lit_of hi hi0 hy
  rw [hj] at e1
  subst e1
  obtain ⟨b, eb, rfl, heb, hcb⟩ := ga_Ws_at hw hv hx (by rw [hvc]; omega)
  obtain ⟨a, e, rfl, he, hcr⟩ := ga_Ws_at hw hr hz (by rw [hcell]; show ¬ 103 = 999; omega)
  rw [hcell] at hcr
  rcases hcr with ⟨q, -⟩ | ⟨q, -⟩ | ⟨q, -⟩ | ⟨-, f, rfl, h3⟩
  · exact absurd q (show ¬ 103 < 100 by omega)
  · exact absurd q (show ¬ (103 = 100 ∨ 103 = 101 ∨ 103 = 104) by omega)
  · exact absurd q (show ¬ 103 = 102 by omega)
  · rcases hcb with ⟨-, fs, rfl, -⟩ | ⟨q, -⟩ | ⟨q, -⟩ | ⟨q, -⟩
    · rw [hvc] at heb
      rw [hc]
      refine hrow H locs ls st2 ws (r / 8) (v / 8) a b f fs hw.1 hw.2.1 hS he heb (fun H1 locs1 hP1 hD1 hS1 => k H1 locs1 ls st2 ⟨hi, hS1, ad, _, ga_Ws_set hw he hP1 hD1 (Or.inr (Or.inr (Or.inr ⟨rfl, _, rfl, fun q hq => ?_⟩))) hh, hl, hs2⟩)
      show ga_vr ρ oa ad (vs'.getD q 4) (va_rf (va_up f j (some b) q))
      rw [hvs q]
      unfold va_up
      by_cases hqj : q = j
      · rw [if_pos hqj, if_pos hqj]; exact hx
      · rw [if_neg hqj, if_neg hqj]; exact h3 q hq
    · rw [hvc] at q; omega
    · rw [hvc] at q; omega
    · rw [hvc] at q; omega
/-- a new cell -/
theorem gg_new {cl : ga_C} {sk' : List Nat} {cs' ss' : Nat} (hc : ga_pc cds = pc)
    (hh : ∀ q, (q = n → ga_hg h' q = cl ∨ (ga_hg h' q).1 = 999) ∧ (¬ q = n → ga_hg h' q = ga_hg h q))
    (hrow : ∀ (H : Heap) (locs : List Loc) (ls : Array Slot) (st : List Value) (ad : List Nat) (ws : va_W), va_P D gm_cl ws H → va_D (fun q => n0 ≤ q) ws → va_S (fun q => n0 ≤ q) s.heap H locs → ga_in ρ iv → ga_sr ρ oa ad sk st →
      ∃ (ev : va_E) (st' : List Value), (∀ q, ga_cr ρ oa ta (ad ++ [q]) cl ev) ∧ ga_sr ρ oa ad sk' st' ∧ ((∀ (q : Nat) (H1 : Heap), va_P D gm_cl (ws ++ [(q, ev)]) H1 → va_D (fun q => n0 ≤ q) (ws ++ [(q, ev)]) → va_S (fun q => n0 ≤ q) s.heap H1 locs → W p l e R s m args below meth c H1 locs cs' ss' Q (F0 m (ga_pc nx) ls (.ref q :: st'))) → W p l e R s m args below meth c H locs cs ss Q (F0 m pc ls st)))
    (k : ga_Go p l e R s m args below meth c Q ρ oa ta D n0 nL nx al ((8 * n + 3) :: sk') cs' ss' iv (n + 1) h') : ga_Go p l e R s m args below meth c Q ρ oa ta D n0 nL cds al sk cs ss iv n h := by
  intro H locs ls st hat
  obtain ⟨hi, hS, ad, ws, hw, hl, hs⟩ := hat
  obtain ⟨ev, st', g1, g2, g3⟩ := hrow H locs ls st ad ws hw.1 hw.2.1 hS hi hs
  rw [hc]
  refine g3 (fun q H1 hP1 hD1 hS1 => k H1 locs ls (.ref q :: st') ⟨hi, hS1, ad ++ [q], _, ga_Ws_push hw hP1 hD1 (g1 q) hh, ga_lr_mono q hl, (ga_vr_3 (by omega)).mpr ⟨q, ?_, rfl⟩, ga_sr_mono q g2⟩)
  have e1 : (8 * n + 3) / 8 = n := by omega
  rw [e1, List.getElem?_append_right (by rw [hw.2.2.2.1]; exact Nat.le_refl _), hw.2.2.2.1, Nat.sub_self]
  rfl
theorem gg_alen {r kind mm : Nat} {vs t : List Nat} (hc : ga_pc cds = pc) (hr : ga_ref r = true) (hcell : ga_hg h (r / 8) = (kind, mm, vs)) (hk : 100 ≤ kind) (hk2 : kind ≤ 104) (hm : mm < 4294967296)
    (hrow : ∀ (H : Heap) (locs : List Loc) (ls : Array Slot) (st : List Value) (ws : va_W) (q0 a : Nat) (x : vp_A), va_P D gm_cl ws H → ws[q0]? = some (a, .inl (ta kind, x)) → x.1 = mm → W p l e R s m args below meth c H locs cs ss Q (F0 m (ga_pc nx) ls (.int (nI mm) :: st)) → W p l e R s m args below meth c H locs cs ss Q (F0 m pc ls (.ref a :: st)))
    (k : ga_Go p l e R s m args below meth c Q ρ oa ta D n0 nL nx al (8 * mm :: t) cs ss iv n h) : ga_Go p l e R s m args below meth c Q ρ oa ta D n0 nL cds al (r :: t) cs ss iv n h := by
  intro H locs ls st hat
  obtain ⟨hi, hS, ad, ws, hw, hl, hs⟩ := hat
  obtain ⟨x, st1, rfl, h1, hs1⟩ := ga_sr_cons hs
  obtain ⟨a, ev, rfl, he, hcr⟩ := ga_Ws_at hw hr h1 (by rw [hcell]; show ¬ kind = 999; omega)
  rw [hcell] at hcr
  have fin : ∀ x : vp_A, ev = .inl (ta kind, x) → x.1 = mm → W p l e R s m args below meth c H locs cs ss Q (F0 m (ga_pc cds) ls (.ref a :: st1)) := by
    intro x ex hx
    subst ex
    rw [hc]
    exact hrow H locs ls st1 ws _ a x hw.1 he hx (k H locs ls (.int (nI mm) :: st1) ⟨hi, hS, ad, ws, hw, hl, ga_lit mm hm, hs1⟩)
  rcases hcr with ⟨q, -⟩ | ⟨-, f, e1, -⟩ | ⟨-, f, e1, -⟩ | ⟨-, f, e1, -⟩
  · exact absurd q (show ¬ kind < 100 by omega)
  · exact fin _ e1 rfl
  · exact fin _ e1 rfl
  · exact fin _ e1 rfl
/-- an array's places over another's: ints -/
theorem gg_cpi {a b sp dp mm la lb : Nat} {va vb vs' t : List Nat} (hc : ga_pc cds = pc) (hra : ga_ref a = true) (hrb : ga_ref b = true) (hca : ga_hg h (a / 8) = (100, la, va)) (hcb : ga_hg h (b / 8) = (100, lb, vb)) (h1 : sp + mm ≤ la) (h2 : dp + mm ≤ lb)
    (hvs : ∀ j, vs'.getD j 0 = if dp ≤ j ∧ j < dp + mm then va.getD (sp + (j - dp)) 0 else vb.getD j 0)
    (hh : ∀ q, (q = b / 8 → ga_hg h' q = (100, lb, vs') ∨ (ga_hg h' q).1 = 999) ∧ (¬ q = b / 8 → ga_hg h' q = ga_hg h q)) (hsp : sp < 4294967296) (hdp : dp < 4294967296) (hmm : mm < 4294967296)
    (hrow : ∀ (H : Heap) (locs : List Loc) (ls : Array Slot) (st : List Value) (ad : List Nat) (ws : va_W) (q0 q1 A B : Nat) (f g : Nat → Int32), ls.size = nL → ga_sr ρ oa ad t st → va_P D gm_cl ws H → va_D (fun q => n0 ≤ q) ws → va_S (fun q => n0 ≤ q) s.heap H locs → ws[q0]? = some (A, .inl (ta 100, la, .inl f)) → ws[q1]? = some (B, .inl (ta 100, lb, .inl g)) →
      (∀ (H1 : Heap) (locs1 : List Loc), va_P D gm_cl (ws.set q1 (B, .inl (ta 100, lb, .inl (va_cpy f g sp dp mm)))) H1 → va_D (fun q => n0 ≤ q) (ws.set q1 (B, .inl (ta 100, lb, .inl (va_cpy f g sp dp mm)))) → va_S (fun q => n0 ≤ q) s.heap H1 locs1 → W p l e R s m args below meth c H1 locs1 cs ss Q (F0 m (ga_pc nx) ls st)) → W p l e R s m args below meth c H locs cs ss Q (F0 m pc ls (.int (nI mm) :: .int (nI dp) :: .ref B :: .int (nI sp) :: .ref A :: st)))
    (k : ga_Go p l e R s m args below meth c Q ρ oa ta D n0 nL nx al t cs ss iv n h') : ga_Go p l e R s m args below meth c Q ρ oa ta D n0 nL cds al (8 * mm :: 8 * dp :: b :: 8 * sp :: a :: t) cs ss iv n h := by
  intro H locs ls st hat
  obtain ⟨hi, hS, ad, ws, hw, hl, hs⟩ := hat
  obtain ⟨x1, s1, rfl, y1, hs1⟩ := ga_sr_cons hs
  obtain ⟨x2, s2, rfl, y2, hs2⟩ := ga_sr_cons hs1
  obtain ⟨x3, s3, rfl, y3, hs3⟩ := ga_sr_cons hs2
  obtain ⟨x4, s4, rfl, y4, hs4⟩ := ga_sr_cons hs3
  obtain ⟨x5, s5, rfl, y5, hs5⟩ := ga_sr_cons hs4
  have l8 : ∀ {k : Nat} {x : Value}, ga_vr ρ oa ad (8 * k) x → x = .int (nI k) := fun {k x} hx => by
    have := ((ga_vr_0 (by omega)).mp hx).2
    rwa [Nat.mul_div_cancel_left _ (by decide)] at this
  have e1 := l8 y1
  have e2 := l8 y2
  have e4 := l8 y4
  subst e1; subst e2; subst e4
  obtain ⟨B, eb, rfl, heb, hcrb⟩ := ga_Ws_at hw hrb y3 (by rw [hcb]; show ¬ 100 = 999; omega)
  obtain ⟨A, ea, rfl, hea, hcra⟩ := ga_Ws_at hw hra y5 (by rw [hca]; show ¬ 100 = 999; omega)
  rw [hcb] at hcrb
  rw [hca] at hcra
  rcases hcrb with ⟨q, -⟩ | ⟨-, g, rfl, hg⟩ | ⟨q, -⟩ | ⟨q, -⟩
  · exact absurd q (show ¬ 100 < 100 by omega)
  · rcases hcra with ⟨q, -⟩ | ⟨-, f, rfl, hf⟩ | ⟨q, -⟩ | ⟨q, -⟩
    · exact absurd q (show ¬ 100 < 100 by omega)
    · rw [hc]
      refine hrow H locs ls s5 ad ws (a / 8) (b / 8) A B f g hl.1 hs5 hw.1 hw.2.1 hS hea heb (fun H1 locs1 hP1 hD1 hS1 => k H1 locs1 ls s5 ⟨hi, hS1, ad, _, ga_Ws_set hw heb hP1 hD1 (Or.inr (Or.inl ⟨Or.inl rfl, _, rfl, fun q hq => ?_⟩)) hh, hl, hs5⟩)
      show ga_vr ρ oa ad (vs'.getD q 0) (.int (va_cpy f g sp dp mm q))
      rw [hvs q]
      unfold va_cpy
      by_cases hqj : dp ≤ q ∧ q < dp + mm
      · rw [if_pos hqj, if_pos hqj]; exact hf _ (show sp + (q - dp) < la by omega)
      · rw [if_neg hqj, if_neg hqj]; exact hg q hq
    · exact absurd q (show ¬ 100 = 102 by omega)
    · exact absurd q (show ¬ 100 = 103 by omega)
  · exact absurd q (show ¬ 100 = 102 by omega)
  · exact absurd q (show ¬ 100 = 103 by omega)
/-- an array's places over another's: longs -/
theorem gg_cpl {a b sp dp mm la lb : Nat} {va vb vs' t : List Nat} (hc : ga_pc cds = pc) (hra : ga_ref a = true) (hrb : ga_ref b = true) (hca : ga_hg h (a / 8) = (102, la, va)) (hcb : ga_hg h (b / 8) = (102, lb, vb)) (h1 : sp + mm ≤ la) (h2 : dp + mm ≤ lb)
    (hvs : ∀ j, vs'.getD j 5 = if dp ≤ j ∧ j < dp + mm then va.getD (sp + (j - dp)) 5 else vb.getD j 5)
    (hh : ∀ q, (q = b / 8 → ga_hg h' q = (102, lb, vs') ∨ (ga_hg h' q).1 = 999) ∧ (¬ q = b / 8 → ga_hg h' q = ga_hg h q)) (hsp : sp < 4294967296) (hdp : dp < 4294967296) (hmm : mm < 4294967296)
    (hrow : ∀ (H : Heap) (locs : List Loc) (ls : Array Slot) (st : List Value) (ad : List Nat) (ws : va_W) (q0 q1 A B : Nat) (f g : Nat → Int64), ls.size = nL → ga_sr ρ oa ad t st → va_P D gm_cl ws H → va_D (fun q => n0 ≤ q) ws → va_S (fun q => n0 ≤ q) s.heap H locs → ws[q0]? = some (A, .inl (ta 102, la, .inr (.inl f))) → ws[q1]? = some (B, .inl (ta 102, lb, .inr (.inl g))) →
      (∀ (H1 : Heap) (locs1 : List Loc), va_P D gm_cl (ws.set q1 (B, .inl (ta 102, lb, .inr (.inl (va_cpy f g sp dp mm))))) H1 → va_D (fun q => n0 ≤ q) (ws.set q1 (B, .inl (ta 102, lb, .inr (.inl (va_cpy f g sp dp mm))))) → va_S (fun q => n0 ≤ q) s.heap H1 locs1 → W p l e R s m args below meth c H1 locs1 cs ss Q (F0 m (ga_pc nx) ls st)) → W p l e R s m args below meth c H locs cs ss Q (F0 m pc ls (.int (nI mm) :: .int (nI dp) :: .ref B :: .int (nI sp) :: .ref A :: st)))
    (k : ga_Go p l e R s m args below meth c Q ρ oa ta D n0 nL nx al t cs ss iv n h') : ga_Go p l e R s m args below meth c Q ρ oa ta D n0 nL cds al (8 * mm :: 8 * dp :: b :: 8 * sp :: a :: t) cs ss iv n h := by
  intro H locs ls st hat
  obtain ⟨hi, hS, ad, ws, hw, hl, hs⟩ := hat
  obtain ⟨x1, s1, rfl, y1, hs1⟩ := ga_sr_cons hs
  obtain ⟨x2, s2, rfl, y2, hs2⟩ := ga_sr_cons hs1
  obtain ⟨x3, s3, rfl, y3, hs3⟩ := ga_sr_cons hs2
  obtain ⟨x4, s4, rfl, y4, hs4⟩ := ga_sr_cons hs3
  obtain ⟨x5, s5, rfl, y5, hs5⟩ := ga_sr_cons hs4
  have l8 : ∀ {k : Nat} {x : Value}, ga_vr ρ oa ad (8 * k) x → x = .int (nI k) := fun {k x} hx => by
    have := ((ga_vr_0 (by omega)).mp hx).2
    rwa [Nat.mul_div_cancel_left _ (by decide)] at this
  have e1 := l8 y1
  have e2 := l8 y2
  have e4 := l8 y4
  subst e1; subst e2; subst e4
  obtain ⟨B, eb, rfl, heb, hcrb⟩ := ga_Ws_at hw hrb y3 (by rw [hcb]; show ¬ 102 = 999; omega)
  obtain ⟨A, ea, rfl, hea, hcra⟩ := ga_Ws_at hw hra y5 (by rw [hca]; show ¬ 102 = 999; omega)
  rw [hcb] at hcrb
  rw [hca] at hcra
  rcases hcrb with ⟨q, -⟩ | ⟨q, -⟩ | ⟨-, g, rfl, hg⟩ | ⟨q, -⟩
  · exact absurd q (show ¬ 102 < 100 by omega)
  · exact absurd q (show ¬ (102 = 100 ∨ 102 = 101 ∨ 102 = 104) by omega)
  · rcases hcra with ⟨q, -⟩ | ⟨q, -⟩ | ⟨-, f, rfl, hf⟩ | ⟨q, -⟩
    · exact absurd q (show ¬ 102 < 100 by omega)
    · exact absurd q (show ¬ (102 = 100 ∨ 102 = 101 ∨ 102 = 104) by omega)
    · rw [hc]
      refine hrow H locs ls s5 ad ws (a / 8) (b / 8) A B f g hl.1 hs5 hw.1 hw.2.1 hS hea heb (fun H1 locs1 hP1 hD1 hS1 => k H1 locs1 ls s5 ⟨hi, hS1, ad, _, ga_Ws_set hw heb hP1 hD1 (Or.inr (Or.inr (Or.inl ⟨rfl, _, rfl, fun q hq => ?_⟩))) hh, hl, hs5⟩)
      show ga_vr ρ oa ad (vs'.getD q 5) (.long (va_cpy f g sp dp mm q))
      rw [hvs q]
      unfold va_cpy
      by_cases hqj : dp ≤ q ∧ q < dp + mm
      · rw [if_pos hqj, if_pos hqj]; exact hf _ (show sp + (q - dp) < la by omega)
      · rw [if_neg hqj, if_neg hqj]; exact hg q hq
    · exact absurd q (show ¬ 102 = 103 by omega)
  · exact absurd q (show ¬ 102 = 103 by omega)
end GJ
end
section
/-! calls -/
def ga_ex (ad ad' : List Nat) : Prop := ∀ (k a : Nat), ad[k]? = some a → ad'[k]? = some a
theorem ga_ex_app (ad : List Nat) (q : Nat) : ga_ex ad (ad ++ [q]) := fun k a h => by
  rw [List.getElem?_append_left]
  · exact h
  · rcases Nat.lt_or_ge k ad.length with hl | hl
    · exact hl
    · rw [List.getElem?_eq_none hl] at h; cases h
theorem ga_ex_rf (ad : List Nat) : ga_ex ad ad := fun _ _ h => h
theorem ga_ex_tr {a b c : List Nat} (h1 : ga_ex a b) (h2 : ga_ex b c) : ga_ex a c := fun k x h => h2 k x (h1 k x h)
theorem ga_vr_ex {ρ : Nat → Int32} {oa : Nat → Nat} {ad ad' : List Nat} {v : Nat} {x : Value} (he : ga_ex ad ad') (h : ga_vr ρ oa ad v x) : ga_vr ρ oa ad' v x := by
  have h8 : v % 8 < 8 := Nat.mod_lt _ (by decide)
  by_cases h3 : v % 8 = 3
  · obtain ⟨a, h1, h2⟩ := (ga_vr_3 h3).mp h
    exact (ga_vr_3 h3).mpr ⟨a, he _ _ h1, h2⟩
  · unfold ga_vr at h ⊢
    generalize v % 8 = t at h h3 h8 ⊢
    match t, h3, h8, h with
    | 0, _, _, h => exact h
    | 1, _, _, h => exact h
    | 2, _, _, h => exact h
    | 4, _, _, h => exact h
    | 5, _, _, h => exact h
    | 6, _, _, h => exact h
    | 7, _, _, h => exact h
theorem ga_sr_ex {ρ : Nat → Int32} {oa : Nat → Nat} {ad ad' : List Nat} (he : ga_ex ad ad') : ∀ {sk : List Nat} {st : List Value}, ga_sr ρ oa ad sk st → ga_sr ρ oa ad' sk st
  | [], [], _ => trivial
  | _ :: _, _ :: _, h => ⟨ga_vr_ex he h.1, ga_sr_ex he h.2⟩
  | [], _ :: _, h => h.elim
  | _ :: _, [], h => h.elim
theorem ga_lr_ex {ρ : Nat → Int32} {oa : Nat → Nat} {ad ad' : List Nat} {nL : Nat} {al : List Nat} {ls : Array Slot} (he : ga_ex ad ad') (h : ga_lr ρ oa ad nL al ls) : ga_lr ρ oa ad' nL al ls :=
  ⟨h.1, h.2.1, h.2.2.1, fun i v h1 h2 => by obtain ⟨x, a1, a2⟩ := h.2.2.2 i v h1 h2; exact ⟨x, ga_vr_ex he a1, a2⟩⟩
/-- what a method of the world may find: the machine's cells, the arguments; what else is so there -/
def ga_Pc (ρ : Nat → Int32) (oa : Nat → Nat) (ta : Nat → ClassId) (D : va_G) (n0 : Nat) (old : State → Prop) (ad as : List Nat) (iv : ga_I) (n : Nat) (h : ga_H) : Array Value → State → Prop := fun v U =>
  (∃ vs : List Value, v = vs.toArray ∧ ga_sr ρ oa ad as vs) ∧ ga_in ρ iv ∧ (∃ ws, ga_Ws ρ oa ta D n0 n h ad ws U.heap) ∧ va_K D gm_cl (ga_tys ta) U ∧ n0 ≤ U.heap.size ∧ old U
def ga_Qc (ρ : Nat → Int32) (oa : Nat → Nat) (ta : Nat → ClassId) (D : va_G) (n0 rc : Nat) (ad : List Nat) (os : List ga_A) : Array Value → State → Outcome → State → Prop := fun _ st oc t =>
  (∃ o ∈ os, ga_in ρ o.2.1 ∧ ∃ ad' ws', ga_ex ad ad' ∧ ga_Ws ρ oa ta D n0 o.2.2.1 o.2.2.2 ad' ws' t.heap ∧ ((rc = 0 ∧ oc = .returned none) ∨ (¬ rc = 0 ∧ ∃ x, oc = .returned (some x) ∧ ga_vr ρ oa ad' o.1 x))) ∧ va_F (fun q => n0 ≤ q) st t
/-- the arguments off the stack -/
theorem ga_take_eq {β : Type} {z : β} : ∀ (m : Nat) (acc sk : List Nat) (K : List Nat → List Nat → β), ga_take m acc sk K z = z ∨ ∃ as t, sk = as.reverse ++ t ∧ as.length = m ∧ ga_take m acc sk K z = K (as ++ acc) t
  | 0, acc, sk, K => Or.inr ⟨[], sk, rfl, rfl, rfl⟩
  | m + 1, acc, [], K => Or.inl rfl
  | m + 1, acc, v :: r, K => by
    have e : ga_take (m + 1) acc (v :: r) K z = ga_take m (v :: acc) r K z := rfl
    rw [e]
    rcases ga_take_eq m (v :: acc) r K with h | ⟨as, t, h1, h2, h3⟩
    · exact Or.inl h
    · refine Or.inr ⟨as ++ [v], t, ?_, ?_, ?_⟩
      · rw [List.reverse_append, h1]; rfl
      · rw [List.length_append, h2]; rfl
      · rw [h3, List.append_assoc]; rfl
theorem ga_sr_app {ρ : Nat → Int32} {oa : Nat → Nat} {ad : List Nat} : ∀ {a b : List Nat} {st : List Value}, ga_sr ρ oa ad (a ++ b) st → ∃ x y, st = x ++ y ∧ ga_sr ρ oa ad a x ∧ ga_sr ρ oa ad b y
  | [], b, st, h => ⟨[], st, rfl, trivial, h⟩
  | v :: r, b, [], h => h.elim
  | v :: r, b, z :: st, h => by
    obtain ⟨x, y, h1, h2, h3⟩ := ga_sr_app h.2
    exact ⟨z :: x, y, by rw [h1]; rfl, ⟨h.1, h2⟩, h3⟩
theorem ga_sr_join {ρ : Nat → Int32} {oa : Nat → Nat} {ad : List Nat} : ∀ {a b : List Nat} {x y : List Value}, ga_sr ρ oa ad a x → ga_sr ρ oa ad b y → ga_sr ρ oa ad (a ++ b) (x ++ y)
  | [], b, [], y, _, h2 => h2
  | _ :: _, b, _ :: _, y, h1, h2 => ⟨h1.1, ga_sr_join h1.2 h2⟩
  | [], b, _ :: _, y, h1, _ => h1.elim
  | _ :: _, b, [], y, h1, _ => h1.elim
theorem ga_sr_rev {ρ : Nat → Int32} {oa : Nat → Nat} {ad : List Nat} : ∀ {a : List Nat} {x : List Value}, ga_sr ρ oa ad a x → ga_sr ρ oa ad a.reverse x.reverse
  | [], [], _ => trivial
  | v :: r, z :: t, h => by
    rw [List.reverse_cons, List.reverse_cons]
    exact ga_sr_join (ga_sr_rev h.2) ⟨h.1, trivial⟩
  | [], _ :: _, h => h.elim
  | _ :: _, [], h => h.elim
theorem ga_sr_len {ρ : Nat → Int32} {oa : Nat → Nat} {ad : List Nat} : ∀ {a : List Nat} {x : List Value}, ga_sr ρ oa ad a x → a.length = x.length
  | [], [], _ => rfl
  | _ :: _, _ :: _, h => by rw [List.length_cons, List.length_cons, ga_sr_len h.2]
  | [], _ :: _, h => h.elim
  | _ :: _, [], h => h.elim
section GC
variable {p : Program} {l : Launch} {e : Env} {R : Room} {s : State} {m : MethodId} {args : Array Value} {below : List Frame} {meth : Method} {c : Code} {Q : State → Prop}
variable {ρ : Nat → Int32} {oa : Nat → Nat} {ta : Nat → ClassId} {D : va_G} {n0 nL : Nat} {cc : ByteArray} {pc : Nat} {nx cds : List ga_E} {al sk : List Nat} {cs ss : Nat} {iv : ga_I} {n : Nat} {h : ga_H}
theorem gg_call {as t : List Nat} {mc ms rc : Nat} {os : List ga_A} (hc : ga_pc cds = pc) (hn : ga_pc nx = pc + 3)
    (hrun : ∀ (H : Heap) (locs : List Loc) (ls : Array Slot) (ad : List Nat) (ws : va_W) (vs st : List Value), ga_in ρ iv → va_S (fun q => n0 ≤ q) s.heap H locs → ga_Ws ρ oa ta D n0 n h ad ws H → ls.size = nL → ga_sr ρ oa ad as vs → ga_sr ρ oa ad t st →
      va_Run p l e R s m args below meth c H locs cs ss mc ms (F0 m pc ls (vs.reverse ++ st)) st (ga_Qc ρ oa ta D n0 rc ad os vs.toArray) (fun q => n0 ≤ q))
    (k : ∀ o ∈ os, ga_Go p l e R s m args below meth c Q ρ oa ta D n0 nL nx al (ga_ret rc o.1 t) (cs + mc) (ss + ms) o.2.1 o.2.2.1 o.2.2.2) : ga_Go p l e R s m args below meth c Q ρ oa ta D n0 nL cds al (as.reverse ++ t) cs ss iv n h := by
  intro H locs ls st hat
  obtain ⟨hi, hS, ad, ws, hw, hl, hs⟩ := hat
  obtain ⟨x, y, rfl, hx, hy⟩ := ga_sr_app hs
  have hx2 := ga_sr_rev hx
  rw [List.reverse_reverse] at hx2
  have hr := hrun H locs ls ad ws x.reverse y hi hS hw hl.1 hx2 hy
  rw [List.reverse_reverse] at hr
  rw [hc]
  intro T hT X
  obtain ⟨v, st₀, t', T', L, h0, X', hL, e1, e2, ⟨⟨o, ho, hin, ad', ws', hex, hw', hret⟩, hz, hk⟩, st⟩ := hr T hT X
  rw [h0] at hz hk
  have hS' : va_S (fun q => n0 ≤ q) s.heap T'.heap (locs ++ L) := by
    refine ⟨Nat.le_trans hS.1 (by rw [e1]; exact hz), fun q h1 h2 => ?_, fun q hq => ?_⟩
    · rw [e1, hk q (Nat.lt_of_lt_of_le h1 hS.1) h2]
      exact hS.2.1 q h1 h2
    · rcases List.mem_append.mp hq with h | h
      · exact hS.2.2 q h
      · exact hL q h
  have hstk : ga_sr ρ oa ad' (ga_ret rc o.1 t) (v.toList ++ y) := by
    unfold ga_ret
    simp only [ga_if_eq, ga_beq]
    rcases hret with ⟨h1, h2⟩ | ⟨h1, z, h2, h3⟩
    · rw [if_pos h1]
      cases h2
      exact ga_sr_ex hex hy
    · rw [if_neg h1]
      cases h2
      exact ⟨h3, ga_sr_ex hex hy⟩
  have kk := k o ho T'.heap (locs ++ L) ls (v.toList ++ y) ⟨hin, hS', ad', ws', by rw [e1]; exact hw', ga_lr_ex hex hl, hstk⟩
  obtain ⟨t2, a1, b1⟩ := kk T' rfl X'
  refine ⟨t2, st t2 ?_, b1⟩
  rw [hn] at a1
  exact a1
end GC
end
section
/-! one step of the machine is a step of the JVM -/
/-- what was there before: the script, the nest words, the array class of tables, the one text -/
def ga_tx : String := "guest takes slow feud boat heat across cools leans draw or and not left minute seat guests "
def ga_by : List Int32 := gm_tx.map nI
def ga_old (ρ : Nat → Int32) (oa : Nat → Nat) (n0 L : Nat) (U : State) : Prop :=
  oa 0 < n0 ∧ va_X (oa 0) L ρ U U.heap ∧ (∀ w ∈ gw_nest, va_Nw w U) ∧ va_AO "GravyRound$Table" U ∧ vk_R "GravyRound$Tokens" 20 ga_tx (oa 1) U ∧ vk_S 1 [91] [ga_by] (fun _ => oa 1) (fun _ => oa 2) (fun q => n0 ≤ q) U U.heap ∧ va_Z "java/lang/String" "COMPACT_STRINGS" "Z" (.int 1) (fun q => n0 ≤ q) U U.heap ∧ va_Zq "jdk/internal/util/Preconditions" "SIOOBE_FORMATTER" "Ljava/util/function/BiFunction;" (fun q => n0 ≤ q) U U.heap
def ga_GoO (p : Program) (l : Launch) (e : Env) (R : Room) (s : State) (m : MethodId) (args : Array Value) (below : List Frame) (meth : Method) (c : Code) (Q : State → Prop) (ρ : Nat → Int32) (oa : Nat → Nat) (ta : Nat → ClassId) (D : va_G) (n0 nL : Nat) (own : String) (cc : ByteArray) (ini : Bool) (o : ga_O) : Prop :=
  ga_okc own cc ini nL o.1 → ga_Go p l e R s m args below meth c Q ρ oa ta D n0 nL o.1 o.2.1 o.2.2.1 o.2.2.2.1 o.2.2.2.2.1 o.2.2.2.2.2.1 o.2.2.2.2.2.2.1 o.2.2.2.2.2.2.2
def ga_Sd (p : Program) (l : Launch) (e : Env) (R : Room) (s : State) (m : MethodId) (args : Array Value) (below : List Frame) (meth : Method) (c : Code) (Q : State → Prop) (ρ : Nat → Int32) (oa : Nat → Nat) (ta : Nat → ClassId) (D : va_G) (n0 nL : Nat) (own : String) (cc : ByteArray) (ini : Bool) (cm sm : Nat) (go : ga_G) : Prop :=
  (∀ al sk cs ss iv n h os, ¬ go [] al sk cs ss iv n h = some os) ∧ ∀ cds al sk cs ss iv n h os, ga_okc own cc ini nL cds → cs ≤ cm ∧ ss ≤ sm → go cds al sk cs ss iv n h = some os → (∀ o ∈ os, ga_GoO p l e R s m args below meth c Q ρ oa ta D n0 nL own cc ini o) → ga_Go p l e R s m args below meth c Q ρ oa ta D n0 nL cds al sk cs ss iv n h
/-- the ways told the other way round -/
theorem sx_flip (o : List (Bool × ga_I)) (kt kf : ga_I → Option (List ga_O)) : ga_br (o.map (fun q => (!q.1, q.2))) kt kf = ga_br o kf kt := by
  unfold ga_br
  induction o with
  | nil => rfl
  | cons x r ih =>
    have hx : ga_if (!x.1) (kt x.2) (kf x.2) = ga_if x.1 (kf x.2) (kt x.2) := by cases x.1 <;> rfl
    cases r with
    | nil => exact hx
    | cons y t =>
      show ga_cat (ga_if (!x.1) (kt x.2) (kf x.2)) (ga_all ((y :: t).map (fun q => (!q.1, q.2))) (fun q => ga_if q.1 (kt q.2) (kf q.2))) = ga_cat (ga_if x.1 (kf x.2) (kt x.2)) (ga_all (y :: t) (fun q => ga_if q.1 (kf q.2) (kt q.2)))
      rw [hx, ih]
section GS
variable {p : Program} {l : Launch} {e : Env} {R : Room} {s : State} {m : MethodId} {args : Array Value} {below : List Frame} {meth : Method} {c : Code} {Q : State → Prop}
variable {ρ : Nat → Int32} {oa : Nat → Nat} {ta : Nat → ClassId} {D : va_G} {n0 nL : Nat} {own : String} {cc : ByteArray} {ini : Bool} {cm sm : Nat} {pc z : Nat} {nx cds code : List ga_E} {al sk : List Nat} {cs ss : Nat} {iv : ga_I} {n : Nat} {h : ga_H} {go : ga_G} {os : List ga_O}
theorem sd_nx (S : ga_Sd p l e R s m args below meth c Q ρ oa ta D n0 nL own cc ini cm sm go) (hcs : cs ≤ cm ∧ ss ≤ sm) (hO : ∀ o ∈ os, ga_GoO p l e R s m args below meth c Q ρ oa ta D n0 nL own cc ini o) (okn : ga_okc own cc ini nL nx) (hnx : nx = [] ∨ ga_pc nx = z) (hg : go nx al sk cs ss iv n h = some os) : ga_pc nx = z ∧ ga_Go p l e R s m args below meth c Q ρ oa ta D n0 nL nx al sk cs ss iv n h := by
  rcases hnx with rfl | hnx
  · exact absurd hg (S.1 _ _ _ _ _ _ _ _)
  · exact ⟨hnx, S.2 _ _ _ _ _ _ _ _ _ okn hcs hg hO⟩
theorem sd_sub {o1 : List ga_O} (hO : ∀ o ∈ os, ga_GoO p l e R s m args below meth c Q ρ oa ta D n0 nL own cc ini o) (hs : ∀ z ∈ o1, z ∈ os) : ∀ o ∈ o1, ga_GoO p l e R s m args below meth c Q ρ oa ta D n0 nL own cc ini o := fun o ho => hO o (hs o ho)
theorem sx_push {v : Nat} {x : Value} (S : ga_Sd p l e R s m args below meth c Q ρ oa ta D n0 nL own cc ini cm sm go) (hcs : cs ≤ cm ∧ ss ≤ sm) (hO : ∀ o ∈ os, ga_GoO p l e R s m args below meth c Q ρ oa ta D n0 nL own cc ini o) (okn : ga_okc own cc ini nL nx) (hnx : nx = [] ∨ ga_pc nx = z) (hc : ga_pc cds = pc) (ho : go nx al (v :: sk) cs ss iv n h = some os) (hv : ∀ ad, ga_vr ρ oa ad v x)
    (hrow : ∀ (H : Heap) (locs : List Loc) (ls : Array Slot) (st : List Value), W p l e R s m args below meth c H locs cs ss Q (F0 m z ls (x :: st)) → W p l e R s m args below meth c H locs cs ss Q (F0 m pc ls st)) : ga_Go p l e R s m args below meth c Q ρ oa ta D n0 nL cds al sk cs ss iv n h := by
  obtain ⟨e1, k⟩ := sd_nx S hcs hO okn hnx ho
  exact gg_push hc (fun H locs ls st w => hrow H locs ls st (by rw [← e1]; exact w)) hv k
theorem sx_load {ok : Nat → Bool} {i : Nat} (S : ga_Sd p l e R s m args below meth c Q ρ oa ta D n0 nL own cc ini cm sm go) (hcs : cs ≤ cm ∧ ss ≤ sm) (hO : ∀ o ∈ os, ga_GoO p l e R s m args below meth c Q ρ oa ta D n0 nL own cc ini o) (okn : ga_okc own cc ini nL nx) (hnx : nx = [] ∨ ga_pc nx = z) (hc : ga_pc cds = pc) (ho : ga_load ok i go nx al sk cs ss iv n h = some os) (h7 : ∀ v, ok v = true → ¬ v % 8 = 7)
    (hrow : ∀ (H : Heap) (locs : List Loc) (ls : Array Slot) (st : List Value) (ad : List Nat) (v : Nat) (x : Value), ok v = true → ga_vr ρ oa ad v x → ls[i]? = some (.val x) → W p l e R s m args below meth c H locs cs ss Q (F0 m z ls (x :: st)) → W p l e R s m args below meth c H locs cs ss Q (F0 m pc ls st)) : ga_Go p l e R s m args below meth c Q ρ oa ta D n0 nL cds al sk cs ss iv n h := by
  unfold ga_load at ho
  rw [ga_f_eq, ga_if_eq] at ho
  split at ho
  · rename_i hk
    obtain ⟨e1, k⟩ := sd_nx S hcs hO okn hnx ho
    exact gg_load hc rfl (h7 _ hk) (fun H locs ls st ad x hv hl w => hrow H locs ls st ad _ x hk hv hl (by rw [← e1]; exact w)) k
  · cases ho
theorem ga_p_eq {v : Nat} {K : Nat → Option (List ga_O)} (h : ga_p v K = some os) : ¬ v % 8 = 7 ∧ K v = some os := by
  unfold ga_p at h
  rw [ga_f_eq, ga_if_eq] at h
  split at h
  · cases h
  · rename_i h7
    exact ⟨fun q => h7 (by rw [q]; rfl), h⟩
theorem sx_op2 {f : Nat → Nat → Nat} (S : ga_Sd p l e R s m args below meth c Q ρ oa ta D n0 nL own cc ini cm sm go) (hcs : cs ≤ cm ∧ ss ≤ sm) (hO : ∀ o ∈ os, ga_GoO p l e R s m args below meth c Q ρ oa ta D n0 nL own cc ini o) (okn : ga_okc own cc ini nL nx) (hnx : nx = [] ∨ ga_pc nx = z) (hc : ga_pc cds = pc) (ho : ga_op2 f go nx al sk cs ss iv n h = some os)
    (hrow : ∀ (H : Heap) (locs : List Loc) (ls : Array Slot) (st : List Value) (ad : List Nat) (x y : Nat) (vx vy : Value), ga_vr ρ oa ad x vx → ga_vr ρ oa ad y vy → ¬ f x y % 8 = 7 → ∃ z' : Value, ga_vr ρ oa ad (f x y) z' ∧ (W p l e R s m args below meth c H locs cs ss Q (F0 m z ls (z' :: st)) → W p l e R s m args below meth c H locs cs ss Q (F0 m pc ls (vy :: vx :: st)))) : ga_Go p l e R s m args below meth c Q ρ oa ta D n0 nL cds al sk cs ss iv n h := by
  unfold ga_op2 at ho
  split at ho
  · obtain ⟨h7, ho⟩ := ga_p_eq ho
    obtain ⟨e1, k⟩ := sd_nx S hcs hO okn hnx ho
    exact gg_op2 hc (fun H locs ls st ad vx vy hx hy => by
      obtain ⟨z', g1, g2⟩ := hrow H locs ls st ad _ _ vx vy hx hy h7
      exact ⟨z', g1, fun w => g2 (by rw [← e1]; exact w)⟩) k
  · cases ho
theorem sx_op1 {f : Nat → Nat} (S : ga_Sd p l e R s m args below meth c Q ρ oa ta D n0 nL own cc ini cm sm go) (hcs : cs ≤ cm ∧ ss ≤ sm) (hO : ∀ o ∈ os, ga_GoO p l e R s m args below meth c Q ρ oa ta D n0 nL own cc ini o) (okn : ga_okc own cc ini nL nx) (hnx : nx = [] ∨ ga_pc nx = z) (hc : ga_pc cds = pc) (ho : ga_op1 f go nx al sk cs ss iv n h = some os)
    (hrow : ∀ (H : Heap) (locs : List Loc) (ls : Array Slot) (st : List Value) (ad : List Nat) (x : Nat) (vx : Value), ga_vr ρ oa ad x vx → ¬ f x % 8 = 7 → ∃ z' : Value, ga_vr ρ oa ad (f x) z' ∧ (W p l e R s m args below meth c H locs cs ss Q (F0 m z ls (z' :: st)) → W p l e R s m args below meth c H locs cs ss Q (F0 m pc ls (vx :: st)))) : ga_Go p l e R s m args below meth c Q ρ oa ta D n0 nL cds al sk cs ss iv n h := by
  unfold ga_op1 at ho
  split at ho
  · obtain ⟨h7, ho⟩ := ga_p_eq ho
    obtain ⟨e1, k⟩ := sd_nx S hcs hO okn hnx ho
    exact gg_op1 hc h7 (fun H locs ls st ad vx hx => by
      obtain ⟨z', g1, g2⟩ := hrow H locs ls st ad _ vx hx h7
      exact ⟨z', g1, fun w => g2 (by rw [← e1]; exact w)⟩) k
  · cases ho
theorem sx_store {ok : Nat → Bool} {i : Nat} (S : ga_Sd p l e R s m args below meth c Q ρ oa ta D n0 nL own cc ini cm sm go) (hcs : cs ≤ cm ∧ ss ≤ sm) (hO : ∀ o ∈ os, ga_GoO p l e R s m args below meth c Q ρ oa ta D n0 nL own cc ini o) (okn : ga_okc own cc ini nL nx) (hnx : nx = [] ∨ ga_pc nx = z) (hc : ga_pc cds = pc) (ho : ga_store ok i go nx al sk cs ss iv n h = some os)
    (hrow : ∀ (H : Heap) (locs : List Loc) (ls : Array Slot) (st : List Value) (ad : List Nat) (v : Nat) (x : Value), ok v = true → ga_vr ρ oa ad v x → lv_has ls nL (ga_hl ls) → (∀ ls', lv_has ls' nL ((i, x) :: (ga_hl ls).filter (fun q => !(q.1 == i) && !(q.1 + 1 == i && q.2.category == 2))) → W p l e R s m args below meth c H locs cs ss Q (F0 m z ls' st)) → W p l e R s m args below meth c H locs cs ss Q (F0 m pc ls (x :: st))) : ga_Go p l e R s m args below meth c Q ρ oa ta D n0 nL cds al sk cs ss iv n h := by
  unfold ga_store at ho
  split at ho
  · rw [ga_if_eq] at ho
    split at ho
    · rename_i hk
      simp only [Bool.and_eq_true] at hk
      rw [ga_set_eq] at ho
      obtain ⟨e1, k⟩ := sd_nx S hcs hO okn hnx ho
      exact gg_store hc hk.2 (fun H locs ls st ad x hv hl w => hrow H locs ls st ad _ x hk.1 hv hl (fun ls' hh => by rw [← e1]; exact w ls' hh)) k
    · cases ho
  · cases ho
theorem sx_stk {sk' : List Nat} (S : ga_Sd p l e R s m args below meth c Q ρ oa ta D n0 nL own cc ini cm sm go) (hcs : cs ≤ cm ∧ ss ≤ sm) (hO : ∀ o ∈ os, ga_GoO p l e R s m args below meth c Q ρ oa ta D n0 nL own cc ini o) (okn : ga_okc own cc ini nL nx) (hnx : nx = [] ∨ ga_pc nx = z) (hc : ga_pc cds = pc) (ho : go nx al sk' cs ss iv n h = some os)
    (hrow : ∀ (H : Heap) (locs : List Loc) (ls : Array Slot) (st : List Value) (ad : List Nat), ls.size = nL → ga_sr ρ oa ad sk st → ∃ st', ga_sr ρ oa ad sk' st' ∧ (W p l e R s m args below meth c H locs cs ss Q (F0 m z ls st') → W p l e R s m args below meth c H locs cs ss Q (F0 m pc ls st))) : ga_Go p l e R s m args below meth c Q ρ oa ta D n0 nL cds al sk cs ss iv n h := by
  obtain ⟨e1, k⟩ := sd_nx S hcs hO okn hnx ho
  exact gg_stk hc (fun H locs ls st ad hs hst => by
    obtain ⟨st', g1, g2⟩ := hrow H locs ls st ad hs hst
    exact ⟨st', g1, fun w => g2 (by rw [← e1]; exact w)⟩) k
/-- a branch on two ints -/
theorem sx_br {o : List (Bool × ga_I)} {x y b : Nat} {r : List Nat} {cdj : List ga_E} {P : Int32 → Int32 → Prop} (S : ga_Sd p l e R s m args below meth c Q ρ oa ta D n0 nL own cc ini cm sm go) (hcs : cs ≤ cm ∧ ss ≤ sm) (hO : ∀ o ∈ os, ga_GoO p l e R s m args below meth c Q ρ oa ta D n0 nL own cc ini o) (okn : ga_okc own cc ini nL nx) (hnx : nx = [] ∨ ga_pc nx = z) (okj : ga_okc own cc ini nL cdj) (hj : cdj = [] ∨ ga_pc cdj = b) (hc : ga_pc cds = pc) (ix : ga_int x = true) (iy : ga_int y = true)
    (hP : ∀ (ad : List Nat) (X Y : Int32), ga_in ρ iv → ga_vr ρ oa ad x (.int X) → ga_vr ρ oa ad y (.int Y) → ∃ q ∈ o, ga_in ρ q.2 ∧ (q.1 = true ↔ P X Y))
    (ho : ga_br o (fun iv => go cdj al r cs ss iv n h) (fun iv => go nx al r cs ss iv n h) = some os)
    (hrow : ∀ (H : Heap) (locs : List Loc) (ls : Array Slot) (st : List Value) (X Y : Int32), (P X Y → W p l e R s m args below meth c H locs cs ss Q (F0 m b ls st)) → (¬ P X Y → W p l e R s m args below meth c H locs cs ss Q (F0 m z ls st)) → W p l e R s m args below meth c H locs cs ss Q (F0 m pc ls (.int Y :: .int X :: st))) : ga_Go p l e R s m args below meth c Q ρ oa ta D n0 nL cds al (y :: x :: r) cs ss iv n h := by
  intro H locs ls st hat
  obtain ⟨hi, hS, ad, ws, hw, hl, hs⟩ := hat
  obtain ⟨vy, t1, rfl, h1, hs1⟩ := ga_sr_cons hs
  obtain ⟨vx, t, rfl, h2, hs2⟩ := ga_sr_cons hs1
  obtain ⟨X, rfl⟩ := ga_vr_int ix h2
  obtain ⟨Y, rfl⟩ := ga_vr_int iy h1
  obtain ⟨q, hq, hin, hiff⟩ := hP ad X Y hi h2 h1
  obtain ⟨o1, g1, g2⟩ := ga_all_mem ho hq
  rw [hc]
  refine hrow H locs ls t X Y (fun hp => ?_) (fun hp => ?_)
  · rw [hiff.mpr hp, ga_if_t] at g1
    obtain ⟨e1, k⟩ := sd_nx S hcs (sd_sub hO g2) okj hj g1
    rw [← e1]
    exact k H locs ls t ⟨hin, hS, ad, ws, hw, hl, hs2⟩
  · have hf : q.1 = false := by
      cases hb : q.1 with
      | false => rfl
      | true => exact absurd (hiff.mp hb) hp
    rw [hf, ga_if_f] at g1
    obtain ⟨e1, k⟩ := sd_nx S hcs (sd_sub hO g2) okn hnx g1
    rw [← e1]
    exact k H locs ls t ⟨hin, hS, ad, ws, hw, hl, hs2⟩
/-- a branch on an int and 0 -/
theorem sx_br0 {o : List (Bool × ga_I)} {x b : Nat} {r : List Nat} {cdj : List ga_E} {P : Int32 → Prop} (S : ga_Sd p l e R s m args below meth c Q ρ oa ta D n0 nL own cc ini cm sm go) (hcs : cs ≤ cm ∧ ss ≤ sm) (hO : ∀ o ∈ os, ga_GoO p l e R s m args below meth c Q ρ oa ta D n0 nL own cc ini o) (okn : ga_okc own cc ini nL nx) (hnx : nx = [] ∨ ga_pc nx = z) (okj : ga_okc own cc ini nL cdj) (hj : cdj = [] ∨ ga_pc cdj = b) (hc : ga_pc cds = pc) (ix : ga_int x = true)
    (hP : ∀ (ad : List Nat) (X : Int32), ga_in ρ iv → ga_vr ρ oa ad x (.int X) → ∃ q ∈ o, ga_in ρ q.2 ∧ (q.1 = true ↔ P X))
    (ho : ga_br o (fun iv => go cdj al r cs ss iv n h) (fun iv => go nx al r cs ss iv n h) = some os)
    (hrow : ∀ (H : Heap) (locs : List Loc) (ls : Array Slot) (st : List Value) (X : Int32), (P X → W p l e R s m args below meth c H locs cs ss Q (F0 m b ls st)) → (¬ P X → W p l e R s m args below meth c H locs cs ss Q (F0 m z ls st)) → W p l e R s m args below meth c H locs cs ss Q (F0 m pc ls (.int X :: st))) : ga_Go p l e R s m args below meth c Q ρ oa ta D n0 nL cds al (x :: r) cs ss iv n h := by
  intro H locs ls st hat
  obtain ⟨hi, hS, ad, ws, hw, hl, hs⟩ := hat
  obtain ⟨vx, t, rfl, h2, hs2⟩ := ga_sr_cons hs
  obtain ⟨X, rfl⟩ := ga_vr_int ix h2
  obtain ⟨q, hq, hin, hiff⟩ := hP ad X hi h2
  obtain ⟨o1, g1, g2⟩ := ga_all_mem ho hq
  rw [hc]
  refine hrow H locs ls t X (fun hp => ?_) (fun hp => ?_)
  · rw [hiff.mpr hp, ga_if_t] at g1
    obtain ⟨e1, k⟩ := sd_nx S hcs (sd_sub hO g2) okj hj g1
    rw [← e1]
    exact k H locs ls t ⟨hin, hS, ad, ws, hw, hl, hs2⟩
  · have hf : q.1 = false := by
      cases hb : q.1 with
      | false => rfl
      | true => exact absurd (hiff.mp hb) hp
    rw [hf, ga_if_f] at g1
    obtain ⟨e1, k⟩ := sd_nx S hcs (sd_sub hO g2) okn hnx g1
    rw [← e1]
    exact k H locs ls t ⟨hin, hS, ad, ws, hw, hl, hs2⟩
/-- the six conditions: the ways of the machine's lists, the rows of the kit -/
theorem sx_icmp {cnd : Jvm.ClassFile.Cond} {off : Int} {x y b : Nat} {r : List Nat} (hx : p.tables.exec = Jvm.exec) (hb : c.code = cc) (S : ga_Sd p l e R s m args below meth c Q ρ oa ta D n0 nL own cc ini cm sm go) (hcs : cs ≤ cm ∧ ss ≤ sm) (hO : ∀ o ∈ os, ga_GoO p l e R s m args below meth c Q ρ oa ta D n0 nL own cc ini o) (okn : ga_okc own cc ini nL nx) (hnx : nx = [] ∨ ga_pc nx = pc + 3) (okc : ga_okc own cc ini nL code) (hc : ga_pc cds = pc) (ix : ga_int x = true) (iy : ga_int y = true)
    (hdg : decode cc pc = .ok (.if_icmp cnd off, 3)) (ht : (pc : Int) + off = (b : Int))
    (ho : ga_cnd cnd iv x y (fun iv => go (ga_jmp code b) al r cs ss iv n h) (fun iv => go nx al r cs ss iv n h) = some os) : ga_Go p l e R s m args below meth c Q ρ oa ta D n0 nL cds al (y :: x :: r) cs ss iv n h := by
  have hj := ga_okc_jmp (t := b) okc
  have nle : ∀ {u v : Int32}, ¬ u < v ↔ v ≤ u := fun {u v} => Int32.not_lt
  cases cnd with
  | eq => exact sx_br (P := fun X Y => X = Y) S hcs hO okn hnx hj.1 hj.2 hc ix iy (fun ad X Y hi a b => ga_eq_ok hi a b) ho (fun H locs ls st X Y kt kf => lv_icmp_eq hx hb hdg ht kt kf)
  | ne =>
    refine sx_br (P := fun X Y => ¬ X = Y) (o := (ga_eq iv x y).map (fun q => (!q.1, q.2))) S hcs hO okn hnx hj.1 hj.2 hc ix iy (fun ad X Y hi a b => ?_) ?_ (fun H locs ls st X Y kt kf => lv_icmp_ne hx hb hdg ht kt (fun q => kf (fun w => w q)))
    · obtain ⟨q, g1, g2, g3⟩ := ga_eq_ok hi a b
      exact ⟨(!q.1, q.2), List.mem_map.mpr ⟨q, g1, rfl⟩, g2, by cases hq : q.1 <;> simp [hq] at g3 ⊢ <;> exact g3⟩
    · exact (sx_flip _ _ _).trans ho
  | lt => exact sx_br (P := fun X Y => X < Y) S hcs hO okn hnx hj.1 hj.2 hc ix iy (fun ad X Y hi a b => ga_lt_ok hi a b) ho (fun H locs ls st X Y kt kf => lv_icmp_lt hx hb hdg ht kt kf)
  | ge =>
    refine sx_br (P := fun X Y => Y ≤ X) (o := (ga_lt iv x y).map (fun q => (!q.1, q.2))) S hcs hO okn hnx hj.1 hj.2 hc ix iy (fun ad X Y hi a b => ?_) ?_ (fun H locs ls st X Y kt kf => lv_icmp_ge hx hb hdg ht kt kf)
    · obtain ⟨q, g1, g2, g3⟩ := ga_lt_ok hi a b
      exact ⟨(!q.1, q.2), List.mem_map.mpr ⟨q, g1, rfl⟩, g2, by rw [← nle]; cases hq : q.1 <;> simp [hq] at g3 ⊢ <;> exact g3⟩
    · exact (sx_flip _ _ _).trans ho
  | gt =>
    refine sx_br (P := fun X Y => Y < X) S hcs hO okn hnx hj.1 hj.2 hc ix iy (fun ad X Y hi a b => ?_) ho (fun H locs ls st X Y kt kf => lv_icmp_gt hx hb hdg ht kt kf)
    exact ga_lt_ok hi b a
  | le =>
    refine sx_br (P := fun X Y => X ≤ Y) (o := (ga_lt iv y x).map (fun q => (!q.1, q.2))) S hcs hO okn hnx hj.1 hj.2 hc ix iy (fun ad X Y hi a b => ?_) ?_ (fun H locs ls st X Y kt kf => lv_icmp_le hx hb hdg ht kt kf)
    · obtain ⟨q, g1, g2, g3⟩ := ga_lt_ok hi b a
      exact ⟨(!q.1, q.2), List.mem_map.mpr ⟨q, g1, rfl⟩, g2, by rw [← nle]; cases hq : q.1 <;> simp [hq] at g3 ⊢ <;> exact g3⟩
    · exact (sx_flip _ _ _).trans ho
theorem sx_if {cnd : Jvm.ClassFile.Cond} {off : Int} {x b : Nat} {r : List Nat} (hx : p.tables.exec = Jvm.exec) (hb : c.code = cc) (S : ga_Sd p l e R s m args below meth c Q ρ oa ta D n0 nL own cc ini cm sm go) (hcs : cs ≤ cm ∧ ss ≤ sm) (hO : ∀ o ∈ os, ga_GoO p l e R s m args below meth c Q ρ oa ta D n0 nL own cc ini o) (okn : ga_okc own cc ini nL nx) (hnx : nx = [] ∨ ga_pc nx = pc + 3) (okc : ga_okc own cc ini nL code) (hc : ga_pc cds = pc) (ix : ga_int x = true)
    (hdg : decode cc pc = .ok (.ifCond cnd off, 3)) (ht : (pc : Int) + off = (b : Int))
    (ho : ga_cnd cnd iv x 0 (fun iv => go (ga_jmp code b) al r cs ss iv n h) (fun iv => go nx al r cs ss iv n h) = some os) : ga_Go p l e R s m args below meth c Q ρ oa ta D n0 nL cds al (x :: r) cs ss iv n h := by
  have hj := ga_okc_jmp (t := b) okc
  have nle : ∀ {u v : Int32}, ¬ u < v ↔ v ≤ u := fun {u v} => Int32.not_lt
  have z0 : ∀ ad, ga_vr ρ oa ad 0 (.int 0) := fun ad => ga_z0
  cases cnd with
  | eq => exact sx_br0 (P := fun X => X = 0) S hcs hO okn hnx hj.1 hj.2 hc ix (fun ad X hi a => ga_eq_ok hi a (z0 ad)) ho (fun H locs ls st X kt kf => lv_if_eq hx hb hdg ht kt kf)
  | ne =>
    refine sx_br0 (P := fun X => ¬ X = 0) (o := (ga_eq iv x 0).map (fun q => (!q.1, q.2))) S hcs hO okn hnx hj.1 hj.2 hc ix (fun ad X hi a => ?_) ?_ (fun H locs ls st X kt kf => lv_if_ne hx hb hdg ht kt (fun q => kf (fun w => w q)))
    · obtain ⟨q, g1, g2, g3⟩ := ga_eq_ok hi a (z0 ad)
      exact ⟨(!q.1, q.2), List.mem_map.mpr ⟨q, g1, rfl⟩, g2, by cases hq : q.1 <;> simp [hq] at g3 ⊢ <;> exact g3⟩
    · exact (sx_flip _ _ _).trans ho
  | lt => exact sx_br0 (P := fun X => X < 0) S hcs hO okn hnx hj.1 hj.2 hc ix (fun ad X hi a => ga_lt_ok hi a (z0 ad)) ho (fun H locs ls st X kt kf => lv_if_lt hx hb hdg ht kt kf)
  | ge =>
    refine sx_br0 (P := fun X => 0 ≤ X) (o := (ga_lt iv x 0).map (fun q => (!q.1, q.2))) S hcs hO okn hnx hj.1 hj.2 hc ix (fun ad X hi a => ?_) ?_ (fun H locs ls st X kt kf => lv_if_ge hx hb hdg ht kt kf)
    · obtain ⟨q, g1, g2, g3⟩ := ga_lt_ok hi a (z0 ad)
      exact ⟨(!q.1, q.2), List.mem_map.mpr ⟨q, g1, rfl⟩, g2, by rw [← nle]; cases hq : q.1 <;> simp [hq] at g3 ⊢ <;> exact g3⟩
    · exact (sx_flip _ _ _).trans ho
  | gt => exact sx_br0 (P := fun X => 0 < X) S hcs hO okn hnx hj.1 hj.2 hc ix (fun ad X hi a => ga_lt_ok hi (z0 ad) a) ho (fun H locs ls st X kt kf => lv_if_gt hx hb hdg ht kt kf)
  | le =>
    refine sx_br0 (P := fun X => X ≤ 0) (o := (ga_lt iv 0 x).map (fun q => (!q.1, q.2))) S hcs hO okn hnx hj.1 hj.2 hc ix (fun ad X hi a => ?_) ?_ (fun H locs ls st X kt kf => lv_if_le hx hb hdg ht kt kf)
    · obtain ⟨q, g1, g2, g3⟩ := ga_lt_ok hi (z0 ad) a
      exact ⟨(!q.1, q.2), List.mem_map.mpr ⟨q, g1, rfl⟩, g2, by rw [← nle]; cases hq : q.1 <;> simp [hq] at g3 ⊢ <;> exact g3⟩
    · exact (sx_flip _ _ _).trans ho
end GS
end
section
theorem ga_nth_some {vs : List Nat} {b v : Nat} (hv : ga_nth 7 vs b = v) (h7 : ¬ v % 8 = 7) : vs[b]? = some v := by
  rw [ga_nth_eq, List.getD_eq_getElem?_getD] at hv
  cases hq : vs[b]? with
  | none => rw [hq] at hv; exact absurd (by rw [← hv]; rfl) h7
  | some w => rw [hq] at hv; exact congrArg some hv
section GT
variable {p : Program} {l : Launch} {e : Env} {R : Room} {s : State} {m : MethodId} {args : Array Value} {below : List Frame} {meth : Method} {c : Code} {Q : State → Prop}
variable {ρ : Nat → Int32} {oa : Nat → Nat} {ta : Nat → ClassId} {D : va_G} {n0 nL : Nat} {own : String} {cc : ByteArray} {ini : Bool} {cm sm : Nat} {pc z : Nat} {nx cds code : List ga_E} {al sk : List Nat} {cs ss : Nat} {iv : ga_I} {n : Nat} {h : ga_H} {go : ga_G} {os : List ga_O}
theorem sx_get {a b idx : Nat} {q : vw_C} (hx : p.tables.exec = Jvm.exec) (hb : c.code = cc) (hown : s.vm.findClass own = some m.cls) (hts : ∀ w ∈ gw_tbl, w.before args s = true) (hK : va_K D gm_cl (ga_tys ta) s) (S : ga_Sd p l e R s m args below meth c Q ρ oa ta D n0 nL own cc ini cm sm go) (hcs : cs ≤ cm ∧ ss ≤ sm) (hO : ∀ o ∈ os, ga_GoO p l e R s m args below meth c Q ρ oa ta D n0 nL own cc ini o) (okn : ga_okc own cc ini nL nx) (hnx : nx = [] ∨ ga_pc nx = pc + 3) (hc : ga_pc cds = pc)
    (hdg : decode cc pc = .ok (.getfield idx, 3)) (hq : gm_cl[a]? = some q) (hbl : b < q.2.2) (hlk : (Cond.fieldLink own idx (q.2.1 b).1 (q.2.1 b).2.1 (q.2.1 b).2.2.1).before args s = true ∨ (Cond.fieldLinkNest own idx (q.2.1 b).1 (q.2.1 b).2.1 (q.2.1 b).2.2.1 "GravyRound").before args s = true)
    (ho : ga_get a b go nx al sk cs ss iv n h = some os) : ga_Go p l e R s m args below meth c Q ρ oa ta D n0 nL cds al sk cs ss iv n h := by
  unfold ga_get at ho
  split at ho
  · rename_i r t
    rw [ga_if_eq] at ho
    split at ho
    · rename_i hr
      rcases hcell : ga_hg h (r / 8) with ⟨c1, mm, vs⟩
      rw [hcell] at ho
      simp only [ga_if_eq, ga_beq] at ho
      split at ho
      · rename_i hca
        subst hca
        obtain ⟨h7, ho⟩ := ga_p_eq ho
        obtain ⟨e1, k⟩ := sd_nx S hcs hO okn hnx ho
        have hg := gn_all c1 q hq
        obtain ⟨C, T, N⟩ := q
        refine gg_get hc hr hcell hg.2.2.2.2.2.1 (ga_nth_some rfl h7) (fun H locs ls st ws q0 a1 fs x hP he hv w => ?_) k
        rw [e1] at w
        rcases hlk with hlk | hlk
        · exact va_get hx hb hts hg.1 hown hK hP q0 he hq b hbl hlk (fun _ q => q) hv hdg w
        · exact va_getN hx hb hts hg.1 hown hK hP q0 he hq b hbl hlk (fun _ q => q) hv hdg w
      · cases ho
    · cases ho
  · cases ho
theorem sx_put {a b idx : Nat} {q : vw_C} {ps : List (Nat × Nat)} (hx : p.tables.exec = Jvm.exec) (hb : c.code = cc) (hown : s.vm.findClass own = some m.cls) (hts : ∀ w ∈ gw_tbl, w.before args s = true) (hK : va_K D gm_cl (ga_tys ta) s) (S : ga_Sd p l e R s m args below meth c Q ρ oa ta D n0 nL own cc ini cm sm go) (hcs : cs ≤ cm ∧ ss ≤ sm) (hO : ∀ o ∈ os, ga_GoO p l e R s m args below meth c Q ρ oa ta D n0 nL own cc ini o) (okn : ga_okc own cc ini nL nx) (hnx : nx = [] ∨ ga_pc nx = pc + 3) (hc : ga_pc cds = pc)
    (hdg : decode cc pc = .ok (.putfield idx, 3)) (hq : gm_cl[a]? = some q) (hbl : b < q.2.2) (hlk : (Cond.fieldLink own idx (q.2.1 b).1 (q.2.1 b).2.1 (q.2.1 b).2.2.1).before args s = true) (htc : ∀ w ∈ ps.head?, ga_tc w.1 (q.2.1 b).2.2.1 = true) (hfin : (q.2.1 b).2.2.2 = false ∨ (meth.name = "<init>" ∧ (q.2.1 b).1 = own))
    (ho : ga_ptf a b ps go nx al sk cs ss iv n h = some os) : ga_Go p l e R s m args below meth c Q ρ oa ta D n0 nL cds al sk cs ss iv n h := by
  unfold ga_ptf at ho
  split at ho
  · rename_i v r t w0 ps'
    rw [ga_if_eq] at ho
    split at ho
    · rename_i hr
      simp only [Bool.and_eq_true] at hr
      rcases hcell : ga_hg h (r / 8) with ⟨c1, mm, vs⟩
      rw [hcell] at ho
      simp only [ga_if_eq, ga_beq, Bool.and_eq_true, Nat.blt_eq] at ho
      split at ho
      · rename_i hca
        obtain ⟨hca, hvs⟩ := hca
        subst hca
        rw [ga_set_eq] at ho
        obtain ⟨h', g1, g2⟩ := ga_hs_at h (r / 8) (c1, mm, vs.set b v) (fun h => go nx al t cs ss iv n h)
        rw [g1] at ho
        obtain ⟨e1, k⟩ := sd_nx S hcs hO okn hnx ho
        have hg := gn_all c1 q hq
        have htc0 := htc w0 (by simp)
        obtain ⟨C, T, N⟩ := q
        obtain ⟨ty, hty, -⟩ := hg.2.2.1
        · refine gg_put hc hr.1 hcell hg.2.2.2.2.2.1 hvs g2 (fun H locs ls st ad ws q0 a1 fs x hP hD hS he hl hv kk => ?_) k
          have hfit : ∃ tyf, parseFieldDescriptor (T b).2.2.1 = some tyf ∧ narrow tyf x = x ∧ fits tyf x = true := by
            have hf := hr.2
            unfold ga_tc at htc0
            unfold ga_fit at hf
            simp only [ga_if_eq, ga_beq] at hf
            split at htc0
            · rename_i hd
              rw [ga_beq] at htc0
              rw [if_pos htc0] at hf
              obtain ⟨X, rfl⟩ := ga_vr_int hf hv
              exact ⟨_, hd, rfl, rfl⟩
            · rename_i hd
              rw [ga_beq] at htc0
              rw [if_neg (by omega), if_pos htc0] at hf
              simp only [Bool.or_eq_true, ga_beq] at hf
              rcases hf with rfl | rfl
              · have := ((ga_vr_0 (by decide)).mp hv).2
                subst this
                exact ⟨_, hd, by decide +kernel, by decide +kernel⟩
              · have := ((ga_vr_0 (by decide)).mp hv).2
                subst this
                exact ⟨_, hd, by decide +kernel, by decide +kernel⟩
            · rename_i hd
              rw [ga_beq] at htc0
              rw [if_neg (by omega), if_neg (by omega), if_pos htc0] at hf
              have h5 : v % 8 = 5 := by simpa [ga_lng, ga_beq] using hf
              obtain ⟨-, rfl⟩ := (ga_vr_5 h5).mp hv
              exact ⟨_, hd, rfl, rfl⟩
            · rename_i hd
              rw [ga_beq] at htc0
              rw [if_neg (by omega), if_neg (by omega), if_neg (by omega)] at hf
              have h3 : v % 8 = 3 := by simpa [ga_ref, ga_beq] using hf
              obtain ⟨y, -, rfl⟩ := (ga_vr_3 h3).mp hv
              exact ⟨_, hd, rfl, rfl⟩
            · rename_i hd
              rw [ga_beq] at htc0
              rw [if_neg (by omega), if_neg (by omega), if_neg (by omega)] at hf
              have h3 : v % 8 = 3 := by simpa [ga_ref, ga_beq] using hf
              obtain ⟨y, -, rfl⟩ := (ga_vr_3 h3).mp hv
              exact ⟨_, hd, rfl, rfl⟩
            · cases htc0
          obtain ⟨tyf, f1, f2, f3⟩ := hfit
          rw [e1] at kk
          rcases hfin with hfin | ⟨hfin, hdecl⟩
          · exact va_put hx hb hts hg.1 ty hty hg.2.1 hown hK hP hD hS q0 he hq b hbl hlk (fun _ q => q) hfin f1 f2 f3 hl hdg kk
          · cases hfb : (T b).2.2.2 with
            | false => exact va_put hx hb hts hg.1 ty hty hg.2.1 hown hK hP hD hS q0 he hq b hbl hlk (fun _ q => q) hfb f1 f2 f3 hl hdg kk
            | true => exact va_putF hx hb hts hg.1 ty hty hg.2.1 hown hK hP hD hS q0 he hq b hbl hlk (fun _ q => q) hfb hfin hdecl f1 f2 f3 hl hdg kk
      · cases ho
    · cases ho
  · cases ho
end GT
end
section
theorem ga_d_i {kind : Nat} (hk : kind = 100 ∨ kind = 101 ∨ kind = 104) : ga_d kind = 0 := by rcases hk with rfl | rfl | rfl <;> rfl
section GU
variable {p : Program} {l : Launch} {e : Env} {R : Room} {s : State} {m : MethodId} {args : Array Value} {below : List Frame} {meth : Method} {c : Code} {Q : State → Prop}
variable {ρ : Nat → Int32} {oa : Nat → Nat} {ta : Nat → ClassId} {D : va_G} {n0 nL : Nat} {own : String} {cc : ByteArray} {ini : Bool} {cm sm : Nat} {pc z : Nat} {nx cds code : List ga_E} {al sk : List Nat} {cs ss : Nat} {iv : ga_I} {n : Nat} {h : ga_H} {go : ga_G} {os : List ga_O} {ev : ga_E}
theorem sx_aldi {kind : Nat} (hk : kind = 100 ∨ kind = 101 ∨ kind = 104) (S : ga_Sd p l e R s m args below meth c Q ρ oa ta D n0 nL own cc ini cm sm go) (hcs : cs ≤ cm ∧ ss ≤ sm) (hO : ∀ o ∈ os, ga_GoO p l e R s m args below meth c Q ρ oa ta D n0 nL own cc ini o) (oke : ga_okc own cc ini nL (ev :: nx)) (hnx : nx = [] ∨ ga_pc nx = z) (hc : ga_pc (ev :: nx) = pc)
    (hrow : ∀ (H : Heap) (locs : List Loc) (ls : Array Slot) (st : List Value) (ws : va_W) (q0 a j mm : Nat) (f : Nat → Int32), j < 1048576 → j < mm → va_P D gm_cl ws H → ws[q0]? = some (a, .inl (ta kind, mm, .inl f)) → W p l e R s m args below meth c H locs cs ss Q (F0 m z ls (.int (f j) :: st)) → W p l e R s m args below meth c H locs cs ss Q (F0 m pc ls (.int (nI j) :: .ref a :: st)))
    (ho : ga_ald kind go ev nx al sk cs ss iv n h = some os) : ga_Go p l e R s m args below meth c Q ρ oa ta D n0 nL (ev :: nx) al sk cs ss iv n h := by
  unfold ga_ald at ho
  split at ho
  · rename_i i r t
    refine gg_idx ho (fun h0 o1 g1 g2 => ?_) (fun iv' o1 g1 g2 => S.2 _ _ _ _ _ _ _ _ _ oke hcs g1 (sd_sub hO g2))
    rw [ga_if_eq] at g1
    split at g1
    · rename_i hr
      rcases hcell : ga_hg h (r / 8) with ⟨c1, mm, vs⟩
      rw [hcell] at g1
      simp only [ga_if_eq, ga_beq, Bool.and_eq_true, Nat.blt_eq] at g1
      split at g1
      · rename_i hcd
        obtain ⟨rfl, hj1, hj2⟩ := hcd
        obtain ⟨h7, g1⟩ := ga_p_eq g1
        obtain ⟨e1, k⟩ := sd_nx S hcs (sd_sub hO g2) oke.2.2 hnx g1
        rw [ga_d_i hk, ga_nth_eq] at k
        exact gg_aldi hc h0 rfl hj2 hr hcell hk hj1 rfl (fun H locs ls st ws q0 a f hP he w => hrow H locs ls st ws q0 a _ mm f hj2 hj1 hP he (by rw [← e1]; exact w)) k
      · cases g1
    · cases g1
  · cases ho
theorem sx_aldr (S : ga_Sd p l e R s m args below meth c Q ρ oa ta D n0 nL own cc ini cm sm go) (hcs : cs ≤ cm ∧ ss ≤ sm) (hO : ∀ o ∈ os, ga_GoO p l e R s m args below meth c Q ρ oa ta D n0 nL own cc ini o) (oke : ga_okc own cc ini nL (ev :: nx)) (hnx : nx = [] ∨ ga_pc nx = z) (hc : ga_pc (ev :: nx) = pc)
    (hrow : ∀ (H : Heap) (locs : List Loc) (ls : Array Slot) (st : List Value) (ws : va_W) (q0 a j mm : Nat) (f : Nat → Option Nat), j < 1048576 → j < mm → va_P D gm_cl ws H → ws[q0]? = some (a, .inl (ta 103, mm, .inr (.inr (.inr (.inr f))))) → W p l e R s m args below meth c H locs cs ss Q (F0 m z ls (va_rf (f j) :: st)) → W p l e R s m args below meth c H locs cs ss Q (F0 m pc ls (.int (nI j) :: .ref a :: st)))
    (ho : ga_ald 103 go ev nx al sk cs ss iv n h = some os) : ga_Go p l e R s m args below meth c Q ρ oa ta D n0 nL (ev :: nx) al sk cs ss iv n h := by
  unfold ga_ald at ho
  split at ho
  · rename_i i r t
    refine gg_idx ho (fun h0 o1 g1 g2 => ?_) (fun iv' o1 g1 g2 => S.2 _ _ _ _ _ _ _ _ _ oke hcs g1 (sd_sub hO g2))
    rw [ga_if_eq] at g1
    split at g1
    · rename_i hr
      rcases hcell : ga_hg h (r / 8) with ⟨c1, mm, vs⟩
      rw [hcell] at g1
      simp only [ga_if_eq, ga_beq, Bool.and_eq_true, Nat.blt_eq] at g1
      split at g1
      · rename_i hcd
        obtain ⟨rfl, hj1, hj2⟩ := hcd
        obtain ⟨h7, g1⟩ := ga_p_eq g1
        obtain ⟨e1, k⟩ := sd_nx S hcs (sd_sub hO g2) oke.2.2 hnx g1
        rw [show ga_d 103 = 4 from rfl, ga_nth_eq] at k
        exact gg_aldr hc h0 rfl hj2 hr hcell hj1 rfl (fun H locs ls st ws q0 a f hP he w => hrow H locs ls st ws q0 a _ mm f hj2 hj1 hP he (by rw [← e1]; exact w)) k
      · cases g1
    · cases g1
  · cases ho
theorem sx_asti {kind : Nat} {f : Nat → Nat} (hk : kind = 100 ∨ kind = 101 ∨ kind = 104) (S : ga_Sd p l e R s m args below meth c Q ρ oa ta D n0 nL own cc ini cm sm go) (hcs : cs ≤ cm ∧ ss ≤ sm) (hO : ∀ o ∈ os, ga_GoO p l e R s m args below meth c Q ρ oa ta D n0 nL own cc ini o) (oke : ga_okc own cc ini nL (ev :: nx)) (hnx : nx = [] ∨ ga_pc nx = z) (hc : ga_pc (ev :: nx) = pc)
    (hrow : ∀ (H : Heap) (locs : List Loc) (ls : Array Slot) (st : List Value) (ad : List Nat) (ws : va_W) (q0 a j mm v : Nat) (g : Nat → Int32) (x : Value), j < 1048576 → j < mm → ¬ f v % 8 = 7 → va_P D gm_cl ws H → va_D (fun q => n0 ≤ q) ws → va_S (fun q => n0 ≤ q) s.heap H locs → ws[q0]? = some (a, .inl (ta kind, mm, .inl g)) → ga_vr ρ oa ad v x →
      ∃ y : Int32, ga_vr ρ oa ad (f v) (.int y) ∧ ((∀ (H1 : Heap) (locs1 : List Loc), va_P D gm_cl (ws.set q0 (a, .inl (ta kind, mm, .inl (upd g j y)))) H1 → va_D (fun q => n0 ≤ q) (ws.set q0 (a, .inl (ta kind, mm, .inl (upd g j y)))) → va_S (fun q => n0 ≤ q) s.heap H1 locs1 → W p l e R s m args below meth c H1 locs1 cs ss Q (F0 m z ls st)) → W p l e R s m args below meth c H locs cs ss Q (F0 m pc ls (x :: .int (nI j) :: .ref a :: st))))
    (ho : ga_ast kind f go ev nx al sk cs ss iv n h = some os) : ga_Go p l e R s m args below meth c Q ρ oa ta D n0 nL (ev :: nx) al sk cs ss iv n h := by
  unfold ga_ast at ho
  split at ho
  · rename_i v i r t
    refine gg_idx ho (fun h0 o1 g1 g2 => ?_) (fun iv' o1 g1 g2 => S.2 _ _ _ _ _ _ _ _ _ oke hcs g1 (sd_sub hO g2))
    rw [ga_if_eq] at g1
    split at g1
    · rename_i hr
      rcases hcell : ga_hg h (r / 8) with ⟨c1, mm, vs⟩
      rw [hcell] at g1
      simp only [ga_if_eq, ga_beq, Bool.and_eq_true, Nat.blt_eq] at g1
      split at g1
      · rename_i hcd
        obtain ⟨rfl, hj1, hj2⟩ := hcd
        obtain ⟨h7, g1⟩ := ga_p_eq g1
        rw [ga_d_i hk] at g1
        obtain ⟨vs', p1, p2⟩ := ga_put_eq 0 vs (ga_sm iv i / 8) (f v) (fun vs => ga_hs h (r / 8) (c1, mm, vs) (fun h => go nx al t cs ss iv n h))
        rw [p1] at g1
        obtain ⟨h', p3, p4⟩ := ga_hs_at h (r / 8) (c1, mm, vs') (fun h => go nx al t cs ss iv n h)
        rw [p3] at g1
        obtain ⟨e1, k⟩ := sd_nx S hcs (sd_sub hO g2) oke.2.2 hnx g1
        exact gg_asti hc h0 rfl hr hcell hk hj1 p2 p4 (fun H locs ls st ad ws q0 a g x hP hD hS he hv => by
          obtain ⟨y, y1, y2⟩ := hrow H locs ls st ad ws q0 a _ mm v g x hj2 hj1 h7 hP hD hS he hv
          exact ⟨y, y1, fun kk => y2 (fun H1 locs1 a1 a2 a3 => by rw [← e1]; exact kk H1 locs1 a1 a2 a3)⟩) k
      · cases g1
    · cases g1
  · cases ho
theorem sx_astl (S : ga_Sd p l e R s m args below meth c Q ρ oa ta D n0 nL own cc ini cm sm go) (hcs : cs ≤ cm ∧ ss ≤ sm) (hO : ∀ o ∈ os, ga_GoO p l e R s m args below meth c Q ρ oa ta D n0 nL own cc ini o) (oke : ga_okc own cc ini nL (ev :: nx)) (hnx : nx = [] ∨ ga_pc nx = z) (hc : ga_pc (ev :: nx) = pc)
    (hrow : ∀ (H : Heap) (locs : List Loc) (ls : Array Slot) (st : List Value) (ws : va_W) (q0 a j mm : Nat) (f : Nat → Int64) (x : Int64), j < 1048576 → j < mm → va_P D gm_cl ws H → va_D (fun q => n0 ≤ q) ws → va_S (fun q => n0 ≤ q) s.heap H locs → ws[q0]? = some (a, .inl (ta 102, mm, .inr (.inl f))) →
      (∀ (H1 : Heap) (locs1 : List Loc), va_P D gm_cl (ws.set q0 (a, .inl (ta 102, mm, .inr (.inl (vp_updL f j x))))) H1 → va_D (fun q => n0 ≤ q) (ws.set q0 (a, .inl (ta 102, mm, .inr (.inl (vp_updL f j x))))) → va_S (fun q => n0 ≤ q) s.heap H1 locs1 → W p l e R s m args below meth c H1 locs1 cs ss Q (F0 m z ls st)) → W p l e R s m args below meth c H locs cs ss Q (F0 m pc ls (.long x :: .int (nI j) :: .ref a :: st)))
    (ho : ga_ast 102 ga_fl go ev nx al sk cs ss iv n h = some os) : ga_Go p l e R s m args below meth c Q ρ oa ta D n0 nL (ev :: nx) al sk cs ss iv n h := by
  unfold ga_ast at ho
  split at ho
  · rename_i v i r t
    refine gg_idx ho (fun h0 o1 g1 g2 => ?_) (fun iv' o1 g1 g2 => S.2 _ _ _ _ _ _ _ _ _ oke hcs g1 (sd_sub hO g2))
    rw [ga_if_eq] at g1
    split at g1
    · rename_i hr
      rcases hcell : ga_hg h (r / 8) with ⟨c1, mm, vs⟩
      rw [hcell] at g1
      simp only [ga_if_eq, ga_beq, Bool.and_eq_true, Nat.blt_eq] at g1
      split at g1
      · rename_i hcd
        obtain ⟨rfl, hj1, hj2⟩ := hcd
        obtain ⟨h7, g1⟩ := ga_p_eq g1
        have h5 : v % 8 = 5 ∧ ga_fl v = v := by
          unfold ga_fl at h7 ⊢
          simp only [ga_if_eq, ga_lng, ga_beq] at h7 ⊢
          split at h7
          · rename_i q; exact ⟨q, if_pos q⟩
          · exact absurd rfl h7
        rw [h5.2, show ga_d 102 = 5 from rfl] at g1
        obtain ⟨vs', p1, p2⟩ := ga_put_eq 5 vs (ga_sm iv i / 8) v (fun vs => ga_hs h (r / 8) (102, mm, vs) (fun h => go nx al t cs ss iv n h))
        rw [p1] at g1
        obtain ⟨h', p3, p4⟩ := ga_hs_at h (r / 8) (102, mm, vs') (fun h => go nx al t cs ss iv n h)
        rw [p3] at g1
        obtain ⟨e1, k⟩ := sd_nx S hcs (sd_sub hO g2) oke.2.2 hnx g1
        exact gg_astl hc h0 rfl hr hcell hj1 h5.1 p2 p4 (fun H locs ls st ws q0 a f x hP hD hS he kk => hrow H locs ls st ws q0 a _ mm f x hj2 hj1 hP hD hS he (fun H1 locs1 a1 a2 a3 => by rw [← e1]; exact kk H1 locs1 a1 a2 a3)) k
      · cases g1
    · cases g1
  · cases ho
theorem sx_astr {ci : Nat} (hci : ci < 100) (S : ga_Sd p l e R s m args below meth c Q ρ oa ta D n0 nL own cc ini cm sm go) (hcs : cs ≤ cm ∧ ss ≤ sm) (hO : ∀ o ∈ os, ga_GoO p l e R s m args below meth c Q ρ oa ta D n0 nL own cc ini o) (oke : ga_okc own cc ini nL (ev :: nx)) (hnx : nx = [] ∨ ga_pc nx = z) (hc : ga_pc (ev :: nx) = pc)
    (hrow : ∀ (H : Heap) (locs : List Loc) (ls : Array Slot) (st : List Value) (ws : va_W) (q0 qk a x j mm : Nat) (f : Nat → Option Nat) (fs : List Value), j < 1048576 → j < mm → va_P D gm_cl ws H → va_D (fun q => n0 ≤ q) ws → va_S (fun q => n0 ≤ q) s.heap H locs → ws[q0]? = some (a, .inl (ta 103, mm, .inr (.inr (.inr (.inr f))))) → ws[qk]? = some (x, .inr (ci, fs)) →
      (∀ (H1 : Heap) (locs1 : List Loc), va_P D gm_cl (ws.set q0 (a, .inl (ta 103, mm, .inr (.inr (.inr (.inr (va_up f j (some x)))))))) H1 → va_D (fun q => n0 ≤ q) (ws.set q0 (a, .inl (ta 103, mm, .inr (.inr (.inr (.inr (va_up f j (some x)))))))) → va_S (fun q => n0 ≤ q) s.heap H1 locs1 → W p l e R s m args below meth c H1 locs1 cs ss Q (F0 m z ls st)) → W p l e R s m args below meth c H locs cs ss Q (F0 m pc ls (.ref x :: .int (nI j) :: .ref a :: st)))
    (ho : ga_ast 103 (ga_fr ci h) go ev nx al sk cs ss iv n h = some os) : ga_Go p l e R s m args below meth c Q ρ oa ta D n0 nL (ev :: nx) al sk cs ss iv n h := by
  unfold ga_ast at ho
  split at ho
  · rename_i v i r t
    refine gg_idx ho (fun h0 o1 g1 g2 => ?_) (fun iv' o1 g1 g2 => S.2 _ _ _ _ _ _ _ _ _ oke hcs g1 (sd_sub hO g2))
    rw [ga_if_eq] at g1
    split at g1
    · rename_i hr
      rcases hcell : ga_hg h (r / 8) with ⟨c1, mm, vs⟩
      rw [hcell] at g1
      simp only [ga_if_eq, ga_beq, Bool.and_eq_true, Nat.blt_eq] at g1
      split at g1
      · rename_i hcd
        obtain ⟨rfl, hj1, hj2⟩ := hcd
        obtain ⟨h7, g1⟩ := ga_p_eq g1
        have h5 : ga_ref v = true ∧ (ga_hg h (v / 8)).1 = ci ∧ ga_fr ci h v = v := by
          unfold ga_fr at h7 ⊢
          simp only [ga_if_eq, ga_beq] at h7 ⊢
          split at h7
          · rename_i q1
            split at h7
            · rename_i q2; exact ⟨q1, q2, by rw [if_pos q1, if_pos q2]⟩
            · exact absurd rfl h7
          · exact absurd rfl h7
        rw [h5.2.2, show ga_d 103 = 4 from rfl] at g1
        obtain ⟨vs', p1, p2⟩ := ga_put_eq 4 vs (ga_sm iv i / 8) v (fun vs => ga_hs h (r / 8) (103, mm, vs) (fun h => go nx al t cs ss iv n h))
        rw [p1] at g1
        obtain ⟨h', p3, p4⟩ := ga_hs_at h (r / 8) (103, mm, vs') (fun h => go nx al t cs ss iv n h)
        rw [p3] at g1
        obtain ⟨e1, k⟩ := sd_nx S hcs (sd_sub hO g2) oke.2.2 hnx g1
        exact gg_astr hc h0 rfl hr hcell hj1 h5.1 h5.2.1 hci p2 p4 (fun H locs ls st ws q0 qk a x f fs hP hD hS he hev kk => hrow H locs ls st ws q0 qk a x _ mm f fs hj2 hj1 hP hD hS he hev (fun H1 locs1 a1 a2 a3 => by rw [← e1]; exact kk H1 locs1 a1 a2 a3)) k
      · cases g1
    · cases g1
  · cases ho
/-- a new cell -/
theorem sx_new {cK mm sz : Nat} {vs sk' : List Nat} (S : ga_Sd p l e R s m args below meth c Q ρ oa ta D n0 nL own cc ini cm sm go) (hO : ∀ o ∈ os, ga_GoO p l e R s m args below meth c Q ρ oa ta D n0 nL own cc ini o) (okn : ga_okc own cc ini nL nx) (hnx : nx = [] ∨ ga_pc nx = z) (hc : ga_pc cds = pc)
    (hrow : ∀ (H : Heap) (locs : List Loc) (ls : Array Slot) (st : List Value) (ad : List Nat) (ws : va_W), cs + 1 ≤ cm → ss + sz ≤ sm → va_P D gm_cl ws H → va_D (fun q => n0 ≤ q) ws → va_S (fun q => n0 ≤ q) s.heap H locs → ga_in ρ iv → ga_sr ρ oa ad sk st →
      ∃ (ev : va_E) (st' : List Value), (∀ q, ga_cr ρ oa ta (ad ++ [q]) (cK, mm, vs) ev) ∧ ga_sr ρ oa ad sk' st' ∧ ((∀ (q : Nat) (H1 : Heap), va_P D gm_cl (ws ++ [(q, ev)]) H1 → va_D (fun q => n0 ≤ q) (ws ++ [(q, ev)]) → va_S (fun q => n0 ≤ q) s.heap H1 locs → W p l e R s m args below meth c H1 locs (cs + 1) (ss + sz) Q (F0 m z ls (.ref q :: st'))) → W p l e R s m args below meth c H locs cs ss Q (F0 m pc ls st)))
    (ho : ga_new cK mm vs sz cm sm go nx al sk' cs ss iv n h = some os) : ga_Go p l e R s m args below meth c Q ρ oa ta D n0 nL cds al sk cs ss iv n h := by
  unfold ga_new at ho
  simp only [ga_f_eq, ga_if_eq, Bool.and_eq_true, Nat.ble_eq] at ho
  split at ho
  · rename_i hb
    obtain ⟨h', p3, p4⟩ := ga_hs_at h n (cK, mm, vs) (fun h => go nx al ((8 * n + 3) :: sk') (cs + 1) (ss + sz) iv (n + 1) h)
    have ho2 : ga_hs h n (cK, mm, vs) (fun h => go nx al ((8 * n + 3) :: sk') (cs + 1) (ss + sz) iv (n + 1) h) = some os := ho
    rw [p3] at ho2
    obtain ⟨e1, k⟩ := sd_nx S hb hO okn hnx ho2
    exact gg_new hc p4 (fun H locs ls st ad ws hP hD hS hi hs => by
      obtain ⟨ev, st', g1, g2, g3⟩ := hrow H locs ls st ad ws hb.1 hb.2 hP hD hS hi hs
      exact ⟨ev, st', g1, g2, fun kk => g3 (fun q H1 a1 a2 a3 => by rw [← e1]; exact kk q H1 a1 a2 a3)⟩) k
  · cases ho
end GU
end
section
theorem ga_kk_neg {x : Int32} (h : 2147483648 ≤ ga_kk x) : ga_kk (0 - x) = 4294967296 - ga_kk x := by
  have h1 := Int32.le_toInt x
  have h2 := Int32.toInt_lt x
  have e : (0 - x).toInt = (0 - x.toInt).bmod (2 ^ 32) := by
    rw [Int32.toInt_sub]; rfl
  unfold ga_kk at h ⊢
  rw [e]
  simp only [Int.bmod]
  split <;> omega
/-- the words of a method's contract -/
noncomputable def gw_m (k : Nat) : List Cond := Cond.code (gm_i k).1 (gm_i k).2.1 (gm_i k).2.2.1 (gm_i k).2.2.2 :: gw_tbl
noncomputable def gm_mc (k : Nat) : Nat := (gm_me k).2.2.2.2.1
noncomputable def gm_ms (k : Nat) : Nat := (gm_me k).2.2.2.2.2.1
noncomputable def gm_rc (k : Nat) : Nat := (gm_me k).2.2.2.2.2.2.1
noncomputable def gm_ci (k : Nat) : Nat := (gm_me k).2.2.2.2.2.2.2
noncomputable def gm_na (k : Nat) : Nat := (gm_me k).2.2.2.1
noncomputable def ga_rm (d k : Nat) : Room := { frames := d + 10, cells := gm_mc k, slots := gm_ms k, locals := 100 * (d + 10) }
/-- the calls of depth d are right -/
def ga_CS (l : Launch) (ρ : Nat → Int32) (oa : Nat → Nat) (ta : Nat → ClassId) (D : va_G) (n0 L d : Nat) (call : Nat → List Nat → ga_I → Nat → ga_H → Option (List ga_A)) : Prop :=
  ∀ k as iv n h os, call k as iv n h = some os → k < 313 ∧ as.length = gm_na k ∧ ∀ ad, Met l (gm_i k).1 (gw_m k) (ga_rm d k) (ga_Pc ρ oa ta D n0 (ga_old ρ oa n0 L) ad as iv n h) (ga_Qc ρ oa ta D n0 (gm_rc k) ad os) (gm_mc k) (gm_ms k) (fun q => n0 ≤ q)
section GX
variable {p : Program} {l : Launch} {e : Env} {R : Room} {s : State} {m : MethodId} {args : Array Value} {below : List Frame} {meth : Method} {c : Code} {Q : State → Prop}
variable {ρ : Nat → Int32} {oa : Nat → Nat} {ta : Nat → ClassId} {D : va_G} {n0 nL : Nat} {own : String} {cc : ByteArray} {ini : Bool} {cm sm : Nat} {pc z : Nat} {nx cds code : List ga_E} {al sk : List Nat} {cs ss : Nat} {iv : ga_I} {n : Nat} {h : ga_H} {go : ga_G} {os : List ga_O} {ev : ga_E}
theorem sx_isb (hρ : ρ 7 = 0 - ρ 1) (hx : p.tables.exec = Jvm.exec) (hb : c.code = cc) (S : ga_Sd p l e R s m args below meth c Q ρ oa ta D n0 nL own cc ini cm sm go) (hcs : cs ≤ cm ∧ ss ≤ sm) (hO : ∀ o ∈ os, ga_GoO p l e R s m args below meth c Q ρ oa ta D n0 nL own cc ini o) (okn : ga_okc own cc ini nL nx) (hnx : nx = [] ∨ ga_pc nx = pc + 1) (hc : ga_pc cds = pc) (hdg : decode cc pc = .ok (.isub, 1))
    (ho : ga_isb go nx al sk cs ss iv n h = some os) : ga_Go p l e R s m args below meth c Q ρ oa ta D n0 nL cds al sk cs ss iv n h := by
  unfold ga_isb at ho
  split at ho
  · rename_i y x r
    simp only [ga_if_eq, ga_f_eq, ga_set_eq] at ho
    split at ho
    · rename_i hq
      simp only [Bool.and_eq_true, ga_beq, Nat.ble_eq] at hq
      obtain ⟨rfl, hy9, hlo⟩ := hq
      obtain ⟨e1, k⟩ := sd_nx S hcs hO okn hnx ho
      intro H locs ls st hat
      obtain ⟨hi, hS, ad, ws, hw, hl, hs⟩ := hat
      obtain ⟨vy, t1, rfl, h1, hs1⟩ := ga_sr_cons hs
      obtain ⟨vx, t, rfl, h2, hs2⟩ := ga_sr_cons hs1
      have h1' := ga_sm_ok hi h1
      rw [hy9] at h1'
      have ey := (ga_vr_1 (by decide)).mp h1'
      have ex := ((ga_vr_0 (by decide)).mp h2).2
      subst ey; subst ex
      rw [hc]
      refine lv_isub hx hb hdg ?_
      have hg1 := (hi 1).1
      have hg2 := (hi 1).2
      have hkn := ga_kk_neg (x := ρ 1) (by omega)
      have er : nI (0 / 8) - ρ (9 / 8) = ρ 7 := hρ.symm
      rw [er]
      have kk := k H locs ls (.int (ρ 7) :: t) ⟨ga_in_set hi (by rw [hρ, hkn]; omega) (by rw [hρ, hkn]; omega), hS, ad, ws, hw, hl, (ga_vr_1 (by decide)).mpr rfl, hs2⟩
      rw [e1] at kk
      exact kk
    · exact sx_op2 S hcs hO okn hnx hc ho (fun H locs ls st ad x y vx vy a1 a2 a3 => by
        obtain ⟨X, Y, rfl, rfl, g⟩ := ga_sub_ok x y vx vy a1 a2 a3
        exact ⟨_, g, fun w => lv_isub hx hb hdg w⟩)
  · cases ho
theorem sx_iinc {i a : Nat} {nn : Int} (hx : p.tables.exec = Jvm.exec) (hb : c.code = cc) (S : ga_Sd p l e R s m args below meth c Q ρ oa ta D n0 nL own cc ini cm sm go) (hcs : cs ≤ cm ∧ ss ≤ sm) (hO : ∀ o ∈ os, ga_GoO p l e R s m args below meth c Q ρ oa ta D n0 nL own cc ini o) (okn : ga_okc own cc ini nL nx) (hnx : nx = [] ∨ ga_pc nx = pc + 3) (hc : ga_pc cds = pc) (hdg : decode cc pc = .ok (.iinc i nn, 3)) (ha0 : a % 8 = 0) (hin : i < nL) (hn : Int32.ofInt nn = nI (a / 8))
    (ho : (ga_f (ga_nth 7 al i) (fun v => ga_if (and (Nat.beq (v % 8) 0) (ga_ahead al i)) (ga_f ((v + a) % 34359738368) (fun v => ga_set al i v (fun al => go nx al sk cs ss iv n h))) none)) = some os) : ga_Go p l e R s m args below meth c Q ρ oa ta D n0 nL cds al sk cs ss iv n h := by
  simp only [ga_if_eq, ga_f_eq, ga_set_eq, Bool.and_eq_true, ga_beq] at ho
  split at ho
  · rename_i hq
    obtain ⟨e1, k⟩ := sd_nx S hcs hO okn hnx ho
    refine gg_iinc hc rfl hq.1 hq.2 ha0 (fun H locs ls st x hh hm w => ?_) k
    obtain ⟨kx, hkx⟩ := List.getElem?_of_mem hm
    exact lv_iinc hx hb hdg hh hkx (by rw [hn]) hin rfl (fun ls' hl' => by rw [← e1]; exact w ls' hl')
  · cases ho
theorem sx_lst {k : Fin 4} (hx : p.tables.exec = Jvm.exec) (hb : c.code = cc) (S : ga_Sd p l e R s m args below meth c Q ρ oa ta D n0 nL own cc ini cm sm go) (hcs : cs ≤ cm ∧ ss ≤ sm) (hO : ∀ o ∈ os, ga_GoO p l e R s m args below meth c Q ρ oa ta D n0 nL own cc ini o) (okn : ga_okc own cc ini nL nx) (hnx : nx = [] ∨ ga_pc nx = pc + 1) (hc : ga_pc cds = pc) (hdg : decode cc pc = .ok (.lstore_n k, 1)) (hin : k.val + 1 < nL) {v : Nat} {r : List Nat}
    (ho : ga_if (and (ga_lng v) (ga_ahead al k.val)) (ga_set al k.val v (fun al => ga_set al (k.val + 1) 7 (fun al => go nx al r cs ss iv n h))) none = some os) : ga_Go p l e R s m args below meth c Q ρ oa ta D n0 nL cds al (v :: r) cs ss iv n h := by
  simp only [ga_if_eq, ga_set_eq, Bool.and_eq_true] at ho
  split at ho
  · rename_i hq
    obtain ⟨e1, kk⟩ := sd_nx S hcs hO okn hnx ho
    have h5 : v % 8 = 5 := by simpa [ga_lng, ga_beq] using hq.1
    refine gg_store2 hc hq.2 (fun H locs ls st ad x hv hh w => ?_) kk
    obtain ⟨-, rfl⟩ := (ga_vr_5 h5).mp hv
    exact lv_lstore_n hx hb hdg rfl hh hin rfl (fun ls' hl' => by rw [← e1]; exact w ls' hl')
  · cases ho
/-- a switch -/
theorem sx_sw {ps : List (Nat × Nat)} {v b : Nat} {r : List Nat} (S : ga_Sd p l e R s m args below meth c Q ρ oa ta D n0 nL own cc ini cm sm go) (hcs : cs ≤ cm ∧ ss ≤ sm) (hO : ∀ o ∈ os, ga_GoO p l e R s m args below meth c Q ρ oa ta D n0 nL own cc ini o) (okc : ga_okc own cc ini nL code) (hc : ga_pc cds = pc) (hv : ga_int v = true) (hps : ∀ q ∈ ps, q.1 % 8 = 0 ∧ q.1 / 8 < 4294967296)
    (hin : ∀ (H : Heap) (locs : List Loc) (ls : Array Slot) (st : List Value) (X : Int32) (q : Nat × Nat), q ∈ ps → X = nI (q.1 / 8) → W p l e R s m args below meth c H locs cs ss Q (F0 m q.2 ls st) → W p l e R s m args below meth c H locs cs ss Q (F0 m pc ls (.int X :: st)))
    (hout : ∀ (H : Heap) (locs : List Loc) (ls : Array Slot) (st : List Value) (X : Int32), (∀ q ∈ ps, ¬ X = nI (q.1 / 8)) → W p l e R s m args below meth c H locs cs ss Q (F0 m b ls st) → W p l e R s m args below meth c H locs cs ss Q (F0 m pc ls (.int X :: st)))
    (ho : ga_sw ps v iv (fun iv => go (ga_jmp code b) al r cs ss iv n h) (fun t iv => go (ga_jmp code t) al r cs ss iv n h) = some os) : ga_Go p l e R s m args below meth c Q ρ oa ta D n0 nL cds al (v :: r) cs ss iv n h := by
  intro H locs ls st hat
  obtain ⟨hi, hS, ad, ws, hw, hl, hs⟩ := hat
  obtain ⟨vx, t, rfl, h2, hs2⟩ := ga_sr_cons hs
  obtain ⟨X, rfl⟩ := ga_vr_int hv h2
  rw [hc]
  rcases ga_sw_ok h2 hps hi ho with ⟨q, hq, hX, iv', o1, hin', g1, g2⟩ | ⟨hno, iv', o1, hin', g1, g2⟩
  · have hj := ga_okc_jmp (t := q.2) okc
    obtain ⟨e1, k⟩ := sd_nx S hcs (sd_sub hO g2) hj.1 hj.2 g1
    refine hin H locs ls t X q hq hX ?_
    rw [← e1]
    exact k H locs ls t ⟨hin', hS, ad, ws, hw, hl, hs2⟩
  · have hj := ga_okc_jmp (t := b) okc
    obtain ⟨e1, k⟩ := sd_nx S hcs (sd_sub hO g2) hj.1 hj.2 g1
    refine hout H locs ls t X hno ?_
    rw [← e1]
    exact k H locs ls t ⟨hin', hS, ad, ws, hw, hl, hs2⟩
theorem sx_acp (hx : p.tables.exec = Jvm.exec) (hb : c.code = cc) (S : ga_Sd p l e R s m args below meth c Q ρ oa ta D n0 nL own cc ini cm sm go) (hcs : cs ≤ cm ∧ ss ≤ sm) (hO : ∀ o ∈ os, ga_GoO p l e R s m args below meth c Q ρ oa ta D n0 nL own cc ini o) (okn : ga_okc own cc ini nL nx) (hnx : nx = [] ∨ ga_pc nx = z) (hc : ga_pc cds = pc)
    (hri : ∀ (H : Heap) (locs : List Loc) (ls : Array Slot) (st : List Value) (ws : va_W) (q0 q1 A B sp dp mm la lb : Nat) (f g : Nat → Int32), ls.size = nL → (st.map fun v => v.category).sum ≤ 8 → sp < 1048576 → dp < 1048576 → mm < 1048576 → sp + mm ≤ la → dp + mm ≤ lb → va_P D gm_cl ws H → va_D (fun q => n0 ≤ q) ws → va_S (fun q => n0 ≤ q) s.heap H locs → ws[q0]? = some (A, .inl (ta 100, la, .inl f)) → ws[q1]? = some (B, .inl (ta 100, lb, .inl g)) →
      (∀ (H1 : Heap) (locs1 : List Loc), va_P D gm_cl (ws.set q1 (B, .inl (ta 100, lb, .inl (va_cpy f g sp dp mm)))) H1 → va_D (fun q => n0 ≤ q) (ws.set q1 (B, .inl (ta 100, lb, .inl (va_cpy f g sp dp mm)))) → va_S (fun q => n0 ≤ q) s.heap H1 locs1 → W p l e R s m args below meth c H1 locs1 cs ss Q (F0 m z ls st)) → W p l e R s m args below meth c H locs cs ss Q (F0 m pc ls (.int (nI mm) :: .int (nI dp) :: .ref B :: .int (nI sp) :: .ref A :: st)))
    (hrl : ∀ (H : Heap) (locs : List Loc) (ls : Array Slot) (st : List Value) (ws : va_W) (q0 q1 A B sp dp mm la lb : Nat) (f g : Nat → Int64), ls.size = nL → (st.map fun v => v.category).sum ≤ 8 → sp < 1048576 → dp < 1048576 → mm < 1048576 → sp + mm ≤ la → dp + mm ≤ lb → va_P D gm_cl ws H → va_D (fun q => n0 ≤ q) ws → va_S (fun q => n0 ≤ q) s.heap H locs → ws[q0]? = some (A, .inl (ta 102, la, .inr (.inl f))) → ws[q1]? = some (B, .inl (ta 102, lb, .inr (.inl g))) →
      (∀ (H1 : Heap) (locs1 : List Loc), va_P D gm_cl (ws.set q1 (B, .inl (ta 102, lb, .inr (.inl (va_cpy f g sp dp mm))))) H1 → va_D (fun q => n0 ≤ q) (ws.set q1 (B, .inl (ta 102, lb, .inr (.inl (va_cpy f g sp dp mm))))) → va_S (fun q => n0 ≤ q) s.heap H1 locs1 → W p l e R s m args below meth c H1 locs1 cs ss Q (F0 m z ls st)) → W p l e R s m args below meth c H locs cs ss Q (F0 m pc ls (.int (nI mm) :: .int (nI dp) :: .ref B :: .int (nI sp) :: .ref A :: st)))
    (ho : ga_acp go nx al sk cs ss iv n h = some os) : ga_Go p l e R s m args below meth c Q ρ oa ta D n0 nL cds al sk cs ss iv n h := by
  unfold ga_acp at ho
  split at ho
  · rename_i mq dq b sq a t
    rw [ga_if_eq] at ho
    split at ho
    · rename_i hq
      simp only [Bool.and_eq_true, ga_beq, Nat.ble_eq] at hq
      obtain ⟨⟨hl2, hsp⟩, ⟨hra, hrb⟩, hwd⟩ := hq
      obtain ⟨hm8, hd8⟩ := ga_l2_ok hl2
      obtain ⟨mm, rfl⟩ : ∃ k, mq = 8 * k := ⟨mq / 8, by omega⟩
      obtain ⟨dp, rfl⟩ : ∃ k, dq = 8 * k := ⟨dq / 8, by omega⟩
      obtain ⟨sp, rfl⟩ : ∃ k, sq = 8 * k := ⟨sq / 8, by omega⟩
      rcases hca : ga_hg h (a / 8) with ⟨ka, la, va⟩
      rcases hcb : ga_hg h (b / 8) with ⟨kb, lb, vb⟩
      rw [hca, hcb] at ho
      simp only [ga_if_eq, ga_beq, Bool.and_eq_true, Bool.or_eq_true, Nat.ble_eq, Nat.blt_eq, Nat.mul_div_cancel_left _ (show 0 < 8 by decide)] at ho
      split at ho
      · rename_i hq2
        obtain ⟨⟨hkk, hkind⟩, ⟨hs1, hs2⟩, hb1, hb2, hb3⟩ := hq2
        subst hkk
        rcases hkind with rfl | rfl
        · obtain ⟨vs', c1, c2⟩ := ga_cpy_eq (ga_d 100) va sp dp mm vb (fun vs => ga_hs h (b / 8) (100, lb, vs) (fun h => go nx al t cs ss iv n h))
          rw [c1] at ho
          obtain ⟨h', p3, p4⟩ := ga_hs_at h (b / 8) (100, lb, vs') (fun h => go nx al t cs ss iv n h)
          rw [p3] at ho
          obtain ⟨e1, k⟩ := sd_nx S hcs hO okn hnx ho
          exact gg_cpi hc hra hrb hca hcb hs1 hs2 c2 p4 (by omega) (by omega) (by omega) (fun H locs ls st ad ws q0 q1 A B f g hsz hst hP hD hS hA hB kk => hri H locs ls st ws q0 q1 A B sp dp mm la lb f g hsz (by rw [ga_sr_wd hst]; exact hwd) hb1 hb2 hb3 hs1 hs2 hP hD hS hA hB (fun H1 locs1 a1 a2 a3 => by rw [← e1]; exact kk H1 locs1 a1 a2 a3)) k
        · obtain ⟨vs', c1, c2⟩ := ga_cpy_eq (ga_d 102) va sp dp mm vb (fun vs => ga_hs h (b / 8) (102, lb, vs) (fun h => go nx al t cs ss iv n h))
          rw [c1] at ho
          obtain ⟨h', p3, p4⟩ := ga_hs_at h (b / 8) (102, lb, vs') (fun h => go nx al t cs ss iv n h)
          rw [p3] at ho
          obtain ⟨e1, k⟩ := sd_nx S hcs hO okn hnx ho
          exact gg_cpl hc hra hrb hca hcb hs1 hs2 c2 p4 (by omega) (by omega) (by omega) (fun H locs ls st ad ws q0 q1 A B f g hsz hst hP hD hS hA hB kk => hrl H locs ls st ws q0 q1 A B sp dp mm la lb f g hsz (by rw [ga_sr_wd hst]; exact hwd) hb1 hb2 hb3 hs1 hs2 hP hD hS hA hB (fun H1 locs1 a1 a2 a3 => by rw [← e1]; exact kk H1 locs1 a1 a2 a3)) k
      · cases ho
    · cases ho
  · cases ho
end GX
end
section
/-! calls of the world's own methods -/
theorem ga_old_tr {ρ : Nat → Int32} {oa : Nat → Nat} {n0 L : Nat} {s U : State} {H : Heap} {locs : List Loc} (ho : ga_old ρ oa n0 L s) (hS : va_S (fun q => n0 ≤ q) s.heap H locs) (hn0 : n0 ≤ s.heap.size) (hU : U.heap = H) (hW : s.WarmedH U.vm) : ga_old ρ oa n0 L U := by
  obtain ⟨h0, hX, hN, hA, hR, hT, hZ, hZq⟩ := ho
  refine ⟨h0, ?_, fun w hw => ?_, va_AO.moved hW.alike hA, vk_R.warm hW hR, ?_, ?_, ?_⟩
  · rw [hU]
    exact va_X.moved hW.alike (hX.kept (hS.2.1 _ (by omega) (by omega)))
  · have h1 := hN w hw
    have h2 := (List.mem_filter.mp hw).2
    cases w <;> first | exact va_Nw.warmF hW h1 | exact va_Nw.warmM hW h1 | (exact absurd h2 (by simp [gw_isN]))
  · rw [hU]
    exact vk_S.moved hW.alike (hT.kept hS.2.1)
  · rw [hU]
    exact va_Z.moved hW.alike (hZ.kept hS.2.1)
  · rw [hU]
    exact va_Zq.moved hW.alike (hZq.kept hS.2.1)
theorem ga_old_vm {ρ : Nat → Int32} {oa : Nat → Nat} {n0 L : Nat} {s U : State} (ho : ga_old ρ oa n0 L s) (hU : U.heap = s.heap) (hv : U.vm = s.vm) : ga_old ρ oa n0 L U := by
  obtain ⟨h0, hX, hN, hA, hR, hT, hZ, hZq⟩ := ho
  have al : s.vm.Alike U.vm := by rw [hv]; exact Vm.Alike.refl s.vm
  refine ⟨h0, ?_, fun w hw => ?_, va_AO.moved al hA, vk_R.same hv hR, ?_, ?_, ?_⟩
  · rw [hU]; exact va_X.moved al hX
  · have h2 := (List.mem_filter.mp hw).2
    have ht : w.onTables = true := by cases w <;> first | rfl | (exact absurd h2 (by simp [gw_isN]))
    exact va_Nw.same ht hv.symm (hN w hw)
  · rw [hU]; exact vk_S.moved al hT
  · rw [hU]; exact va_Z.moved al hZ
  · rw [hU]; exact va_Zq.moved al hZq
theorem ga_Pc_blind {ρ : Nat → Int32} {oa : Nat → Nat} {ta : Nat → ClassId} {D : va_G} {n0 L : Nat} {ad as : List Nat} {iv : ga_I} {n : Nat} {h : ga_H} : FrameBlind (ga_Pc ρ oa ta D n0 (ga_old ρ oa n0 L) ad as iv n h) := by
  intro a U g mk hp
  obtain ⟨h1, h2, h3, h4, h5, h6⟩ := hp
  exact ⟨h1, h2, h3, va_K.moved (u := U) (U := U.calling g mk a) (Vm.Alike.refl U.vm) h4, h5, ga_old_vm h6 rfl rfl⟩
theorem gw_code {k : Nat} (hk : gm_okm k = true) : GoodIn gw_tbl (gw_m k) := by
  intro w hw
  rcases List.mem_cons.mp hw with rfl | hw
  · have : Cond.code (gm_i k).1 (gm_i k).2.1 (gm_i k).2.2.1 (gm_i k).2.2.2 ∈ gw_tbl := by
      unfold gm_okm at hk
      split at hk
      · rename_i e1 e2 e3
        rw [e2]
        simp only [Bool.and_eq_true] at hk
        exact gw_mem hk.1.1.1.1.1.1.1.1
      · cases hk
    exact gw_good _ this
  · exact gw_good w hw
/-- what the certificate of a method says -/
theorem gm_facts {k : Nat} (hk : gm_okm k = true) : Cond.initialized (gm_i k).1.cls ∈ gw_tbl ∧ plainFor (gm_i k).1 = true ∧ ((gm_i k).1.cls ≠ "java/lang/invoke/MethodHandle" ∧ (gm_i k).1.cls ≠ "java/lang/invoke/VarHandle") ∧ (gm_me k).2.2.1 = (gm_i k).2.2.1 ∧ (gm_i k).2.2.1 ≤ 80 ∧
    (gm_ci k = 999 → Cond.static (gm_i k).1 ∈ gw_tbl ∧ (parseMethodDescriptor (gm_i k).1.desc).map (fun d => d.parameters.length) = some (gm_na k)) ∧
    (¬ gm_ci k = 999 → Cond.instanceMethod (gm_i k).1 ∈ gw_tbl ∧ (parseMethodDescriptor (gm_i k).1.desc).map (fun d => d.parameters.length + 1) = some (gm_na k) ∧ (gm_cl[gm_ci k]?).map (·.1) = some (gm_i k).1.cls ∧ ((gm_i k).1.name = "<init>" → (gm_i k).2.2.2 = none) ∧ (¬ (gm_i k).1.name = "<init>" → Cond.selects (gm_i k).1.cls (gm_i k).1 (gm_i k).1 ∈ gw_tbl)) ∧
    (match (gm_i k).2.2.2 with | none => Nat.beq (gm_rc k) 0 | some .int => Nat.beq (gm_rc k) 1 | some .boolean => Nat.beq (gm_rc k) 2 | some .long => Nat.beq (gm_rc k) 4 | some (.object _) => Nat.beq (gm_rc k) 5 | _ => false) = true ∧
    ga_okc (gm_i k).1.cls (gm_i k).2.1 (decide ((gm_i k).1.name = "<init>")) (gm_i k).2.2.1 (gm_me k).1 := by
  unfold gm_okm at hk
  unfold gm_ci gm_na gm_rc
  split at hk
  · rename_i e1 e2 e3
    rw [e1, e2]
    simp only [Bool.and_eq_true, decide_eq_true_eq] at hk
    obtain ⟨⟨⟨⟨⟨⟨⟨⟨k1, k2⟩, k3⟩, k4⟩, k5⟩, k6⟩, k7⟩, k8⟩, k9⟩ := hk
    refine ⟨gw_mem k2, k3, k4, Nat.eq_of_beq_eq_true k5, Nat.le_of_ble_eq_true k6, fun hc => ?_, fun hc => ?_, k8, ga_okb_ok k9⟩
    · rw [if_pos hc] at k7
      simp only [Bool.and_eq_true, decide_eq_true_eq] at k7
      exact ⟨gw_mem k7.1.1, k7.1.2⟩
    · rw [if_neg hc] at k7
      simp only [Bool.and_eq_true, decide_eq_true_eq] at k7
      refine ⟨gw_mem k7.1.1.1, k7.1.1.2, k7.1.2, fun hi => ?_, fun hi => ?_⟩
      · have := k7.2
        rw [if_pos hi] at this
        exact of_decide_eq_true this
      · have := k7.2
        rw [if_neg hi] at this
        exact gw_mem this
  · cases hk
theorem ga_if_some {b : Bool} {t : Option (List ga_O)} {os : List ga_O} (h : ga_if b t none = some os) : b = true ∧ t = some os := by
  cases b with
  | true => exact ⟨rfl, h⟩
  | false => cases h
theorem ga_take_some {na : Nat} {sk : List Nat} {K : List Nat → List Nat → Option (List ga_O)} {os : List ga_O} (h : ga_take na [] sk K none = some os) : ∃ as t, sk = as.reverse ++ t ∧ as.length = na ∧ K as t = some os := by
  rcases ga_take_eq (z := (none : Option (List ga_O))) na [] sk K with hz | ⟨as, t, h1, h2, h3⟩
  · rw [hz] at h; cases h
  · rw [List.append_nil] at h3
    exact ⟨as, t, h1, h2, h3.symm.trans h⟩
section GY
variable {p : Program} {l : Launch} {e : Env} {R : Room} {s : State} {m : MethodId} {args : Array Value} {below : List Frame} {meth : Method} {c : Code} {Q : State → Prop}
variable {ρ : Nat → Int32} {oa : Nat → Nat} {ta : Nat → ClassId} {D : va_G} {n0 nL L d : Nat} {own : String} {cc : ByteArray} {ini : Bool} {cm sm : Nat} {pc z : Nat} {nx cds code : List ga_E} {al sk : List Nat} {cs ss : Nat} {iv : ga_I} {n : Nat} {h : ga_H} {go : ga_G} {os : List ga_O} {ev : ga_E}
theorem gg_call2 {as t : List Nat} {mc ms rc : Nat} {os : List ga_A} (hc : ga_pc cds = pc) (hn : ∀ o ∈ os, ga_pc nx = pc + 3)
    (hrun : ∀ (H : Heap) (locs : List Loc) (ls : Array Slot) (ad : List Nat) (ws : va_W) (vs st : List Value), ga_in ρ iv → va_S (fun q => n0 ≤ q) s.heap H locs → ga_Ws ρ oa ta D n0 n h ad ws H → ls.size = nL → ga_sr ρ oa ad as vs → ga_sr ρ oa ad t st →
      va_Run p l e R s m args below meth c H locs cs ss mc ms (F0 m pc ls (vs.reverse ++ st)) st (ga_Qc ρ oa ta D n0 rc ad os vs.toArray) (fun q => n0 ≤ q))
    (k : ∀ o ∈ os, ga_Go p l e R s m args below meth c Q ρ oa ta D n0 nL nx al (ga_ret rc o.1 t) (cs + mc) (ss + ms) o.2.1 o.2.2.1 o.2.2.2) : ga_Go p l e R s m args below meth c Q ρ oa ta D n0 nL cds al (as.reverse ++ t) cs ss iv n h := by
  intro H locs ls st hat
  obtain ⟨hi, hS, ad, ws, hw, hl, hs⟩ := hat
  obtain ⟨x, y, rfl, hx, hy⟩ := ga_sr_app hs
  have hx2 := ga_sr_rev hx
  rw [List.reverse_reverse] at hx2
  have hr := hrun H locs ls ad ws x.reverse y hi hS hw hl.1 hx2 hy
  rw [List.reverse_reverse] at hr
  rw [hc]
  intro T hT X
  obtain ⟨v, st₀, t', T', L, h0, X', hL, e1, e2, ⟨⟨o, ho, hin, ad', ws', hex, hw', hret⟩, hz, hk⟩, st⟩ := hr T hT X
  rw [h0] at hz hk
  have hS' : va_S (fun q => n0 ≤ q) s.heap T'.heap (locs ++ L) := by
    refine ⟨Nat.le_trans hS.1 (by rw [e1]; exact hz), fun q h1 h2 => ?_, fun q hq => ?_⟩
    · rw [e1, hk q (Nat.lt_of_lt_of_le h1 hS.1) h2]
      exact hS.2.1 q h1 h2
    · rcases List.mem_append.mp hq with h | h
      · exact hS.2.2 q h
      · exact hL q h
  have hstk : ga_sr ρ oa ad' (ga_ret rc o.1 t) (v.toList ++ y) := by
    unfold ga_ret
    simp only [ga_if_eq, ga_beq]
    rcases hret with ⟨h1, h2⟩ | ⟨h1, z, h2, h3⟩
    · rw [if_pos h1]
      cases h2
      exact ga_sr_ex hex hy
    · rw [if_neg h1]
      cases h2
      exact ⟨h3, ga_sr_ex hex hy⟩
  have kk := k o ho T'.heap (locs ++ L) ls (v.toList ++ y) ⟨hin, hS', ad', ws', by rw [e1]; exact hw', ga_lr_ex hex hl, hstk⟩
  obtain ⟨t2, a1, b1⟩ := kk T' rfl X'
  refine ⟨t2, st t2 ?_, b1⟩
  rw [hn o ho] at a1
  exact a1
/-- a call of kind 0 (virtual), 1 (special), 2 (special, of a nest mate), 3 (static) -/
def ga_lnk (own : String) (idx k kind : Nat) (args : Array Value) (s : State) : Prop :=
  (kind = 0 ∧ (Cond.methodLink own idx (gm_i k).1).before args s = true) ∨ (kind = 1 ∧ (Cond.methodLink own idx (gm_i k).1).before args s = true) ∨ (kind = 2 ∧ va_Nw (.methodLinkNest own idx (gm_i k).1 "GravyRound") s) ∨ (kind = 3 ∧ (Cond.methodLink own idx (gm_i k).1).before args s = true)
theorem sx_inv {call : Nat → List Nat → ga_I → Nat → ga_H → Option (List ga_A)} {k idx kind : Nat} {virt : Bool} (hx : p.tables.exec = Jvm.exec) (hb : c.code = cc) (hml : c.maxLocals = nL) (hown : s.vm.findClass own = some m.cls) (hts : ∀ w ∈ gw_tbl, w.before args s = true) (hK : va_K D gm_cl (ga_tys ta) s) (hn0 : n0 ≤ s.heap.size) (hold : ga_old ρ oa n0 L s)
    (hRf : d + 11 ≤ R.frames) (hRl : 100 * (d + 11) ≤ R.locals) (hRc : cm ≤ R.cells) (hRs : sm ≤ R.slots) (HC : ga_CS l ρ oa ta D n0 L d call)
    (S : ga_Sd p l e R s m args below meth c Q ρ oa ta D n0 nL own cc ini cm sm go) (hO : ∀ o ∈ os, ga_GoO p l e R s m args below meth c Q ρ oa ta D n0 nL own cc ini o) (okn : ga_okc own cc ini nL nx) (hnx : nx = [] ∨ ga_pc nx = pc + 3) (hc : ga_pc cds = pc) (hlk : k < 998 → ga_lnk own idx k kind args s) (hvk : virt = true ↔ ¬ kind = 3)
    (hd0 : kind = 0 → decode cc pc = .ok (.invokevirtual idx, 3)) (hd1 : kind = 1 ∨ kind = 2 → decode cc pc = .ok (.invokespecial idx, 3)) (hd3 : kind = 3 → decode cc pc = .ok (.invokestatic idx, 3))
    (hst3 : k < 998 → kind = 3 → gm_ci k = 999) (hns3 : k < 998 → ¬ kind = 3 → ¬ gm_ci k = 999) (hnm0 : k < 998 → kind = 0 → ¬ (gm_i k).1.name = "<init>") (hnm1 : k < 998 → kind = 1 ∨ kind = 2 → (gm_i k).1.name = "<init>")
    (ho : ga_inv gm_me call k virt cm sm go nx al sk cs ss iv n h = some os) : ga_Go p l e R s m args below meth c Q ρ oa ta D n0 nL cds al sk cs ss iv n h := by
  unfold ga_inv at ho
  rcases hme : gm_me k with ⟨mcode, pad, nl, na, mc, ms, rc, ci⟩
  rw [hme] at ho
  simp only at ho
  obtain ⟨as, t, hsk, hlen, ho1⟩ := ga_take_some ho
  obtain ⟨hq, ho2⟩ := ga_if_some ho1
  simp only [Bool.and_eq_true, Nat.ble_eq] at hq
  obtain ⟨hwd, hvr⟩ := hq
  rw [ga_f_eq, ga_f_eq] at ho2
  obtain ⟨hcs2, ho3⟩ := ga_if_some ho2
  simp only [Bool.and_eq_true, Nat.ble_eq] at hcs2
  cases hcall : call k as iv n h with
  | none => rw [hcall] at ho3; cases ho3
  | some oa' =>
    rw [hcall] at ho3
    simp only at ho3
    obtain ⟨hk184, hna, hM⟩ := HC k as iv n h oa' hcall
    have hok := gk_all k hk184
    obtain ⟨f1, f2, f3, f4, f5, f6, f7, f8, f9⟩ := gm_facts hok
    have emc : gm_mc k = mc := by unfold gm_mc; rw [hme]
    have ems : gm_ms k = ms := by unfold gm_ms; rw [hme]
    have erc : gm_rc k = rc := by unfold gm_rc; rw [hme]
    have eci : gm_ci k = ci := by unfold gm_ci; rw [hme]
    have ena : gm_na k = na := by unfold gm_na; rw [hme]
    have hlk' := hlk (by omega)
    subst hsk
    have hroom : (ga_rm d k).frames + 1 ≤ R.frames ∧ 8 + ((gm_i k).2.2.1 + 11) + (ga_rm d k).locals ≤ R.locals := by
      show d + 10 + 1 ≤ R.frames ∧ 8 + ((gm_i k).2.2.1 + 11) + 100 * (d + 10) ≤ R.locals
      omega
    refine gg_call2 (nx := nx) (rc := rc) (os := oa') (mc := mc) (ms := ms) hc (fun o hoo => ?_) (fun H locs ls ad ws vs st hi hS hw hsz hvs hst => ?_) (fun o hoo => ?_)
    · obtain ⟨o1, g1, g2⟩ := ga_all_mem ho3 hoo
      rcases hnx with rfl | hnx
      · exact absurd g1 (S.1 _ _ _ _ _ _ _ _)
      · exact hnx
    · have hPU : ∀ U : State, U.heap = H → s.WarmedH U.vm → ga_Pc ρ oa ta D n0 (ga_old ρ oa n0 L) ad as iv n h vs.toArray U := by
        intro U hU hWm
        exact ⟨⟨vs, rfl, hvs⟩, hi, ⟨ws, by rw [hU]; exact hw⟩, va_K.moved hWm.alike hK, by rw [hU]; exact Nat.le_trans hn0 hS.1, ga_old_tr hold hS hn0 hU hWm⟩
      have hMk := hM ad
      rw [emc, ems, erc] at hMk
      have hwd2 : 2 * (F0 m pc ls (vs.reverse ++ st)).monitorRoom + (st.map fun v => v.category).sum ≤ 8 := by
        rw [ga_sr_wd hst]
        show 2 * 0 + _ ≤ 8
        omega
      have hini : (Cond.initialized (gm_i k).1.cls).before args s = true := hts _ f1
      have hfit : cs + mc ≤ R.cells ∧ ss + ms ≤ R.slots := ⟨by omega, by omega⟩
      have hlen2 := ga_sr_len hvs
      by_cases hk3 : kind = 3
      · have hl : (Cond.methodLink own idx (gm_i k).1).before args s = true := by
          rcases hlk' with ⟨q, -⟩ | ⟨q, -⟩ | ⟨q, -⟩ | ⟨-, q⟩
          · omega
          · omega
          · omega
          · exact q
        obtain ⟨f61, f62⟩ := f6 (hst3 (by omega) hk3)
        exact va_runS (bytes := (gm_i k).2.1) (maxL := (gm_i k).2.2.1) (ret := (gm_i k).2.2.2) (n := na) ⟨hx, hb, hml, hown, hts⟩ hMk ⟨callB_of na hts (gw_code hok) rfl emc ems hini hl ⟨f3.1, f3.2, by rw [f62, ena]⟩ hroom, hts _ f61⟩ ⟨ga_Pc_blind, hPU⟩ rfl (by rw [← hlen2]; exact hlen) hsz rfl hwd2 (hd3 hk3) hfit
      · have hvt : virt = true := hvk.mpr hk3
        rw [hvt, ga_if_t] at hvr
        cases as with
        | nil => simp at hvr
        | cons r as' =>
          simp only [Bool.and_eq_true, ga_beq] at hvr
          obtain ⟨hrr, hrc⟩ := hvr
          obtain ⟨f71, f72, f73, f74, f75⟩ := f7 (hns3 (by omega) hk3)
          rw [eci] at f73
          obtain ⟨q, hq, hq1⟩ : ∃ q, gm_cl[ci]? = some q ∧ q.1 = (gm_i k).1.cls := by
            cases hqq : gm_cl[ci]? with
            | none => rw [hqq] at f73; cases f73
            | some q => rw [hqq] at f73; exact ⟨q, rfl, Option.some.inj f73⟩
          have hg := gn_all ci q hq
          have hci : ci < 100 := hg.2.2.2.2.2.1
          obtain ⟨x, vs', rfl, hxr, hvs'⟩ := ga_sr_cons hvs
          obtain ⟨b, eb, rfl, heb, hcr⟩ := ga_Ws_at hw hrr hxr (by rw [hrc]; omega)
          have hev : ∃ fs, eb = .inr (ci, fs) := by
            rcases hcr with ⟨-, fs, e1, -⟩ | ⟨q1, -⟩ | ⟨q1, -⟩ | ⟨q1, -⟩
            · exact ⟨fs, by rw [e1, hrc]⟩
            · rw [hrc] at q1; omega
            · rw [hrc] at q1; omega
            · rw [hrc] at q1; omega
          obtain ⟨fs, rfl⟩ := hev
          have hrecv := va_recv hK hw.1 hq heb
          rw [hq1] at hrecv
          have hparm : (parseMethodDescriptor (gm_i k).1.desc).map (fun d => d.parameters.length) = some (na - 1) := by
            rw [ena] at f72
            cases hpd : parseMethodDescriptor (gm_i k).1.desc with
            | none => rw [hpd] at f72; cases f72
            | some sg =>
              rw [hpd] at f72
              have := Option.some.inj f72
              show some sg.parameters.length = some (na - 1)
              have h2 : sg.parameters.length + 1 = na := this
              rw [← h2]; rfl
          have hlen3 : vs'.length = na - 1 := by
            have := ga_sr_len hvs'
            simp only [List.length_cons] at hlen
            omega
          have hstk : (F0 m pc ls ((Value.ref b :: vs').reverse ++ st)).stack = vs'.reverse ++ .ref b :: st := by
            show (Value.ref b :: vs').reverse ++ st = vs'.reverse ++ .ref b :: st
            rw [List.reverse_cons, List.append_assoc]; rfl
          rcases hlk' with ⟨q0, hl⟩ | ⟨q0, hl⟩ | ⟨q0, hl⟩ | ⟨q0, -⟩
          · exact va_runV (bytes := (gm_i k).2.1) (maxL := (gm_i k).2.2.1) (ret := (gm_i k).2.2.2) (n := na - 1) (C := (gm_i k).1.cls) ⟨hx, hb, hml, hown, hts⟩ hMk ⟨callB_of (na - 1) hts (gw_code hok) rfl emc ems hini hl ⟨f3.1, f3.2, hparm⟩ hroom, hts _ f71, hts _ (f75 (hnm0 (by omega) q0))⟩ ⟨ga_Pc_blind, hrecv, hPU⟩ rfl hlen3 hsz hstk hwd2 (hd0 q0) hfit
          · have hnm := hnm1 (by omega) (Or.inl q0)
            have hMk2 := hMk
            exact va_runI (bytes := (gm_i k).2.1) (maxL := (gm_i k).2.2.1) (n := na - 1) ⟨hx, hb, hml, hown, hts⟩ hMk ⟨callB_of (na - 1) hts (gw_code hok) (by rw [← f74 hnm]; rfl) emc ems hini hl ⟨f3.1, f3.2, hparm⟩ hroom, hnm, hts _ f71⟩ ⟨ga_Pc_blind, hPU⟩ rfl hlen3 hsz hstk hwd2 (hd1 (Or.inl q0)) hfit
          · have hnm := hnm1 (by omega) (Or.inr q0)
            exact va_runIN (bytes := (gm_i k).2.1) (maxL := (gm_i k).2.2.1) (n := na - 1) (host := "GravyRound") ⟨hx, hb, hml, hown, hts⟩ hMk ⟨va_cnB (na - 1) hts (gw_code hok) (by rw [← f74 hnm]; rfl) emc ems hl hini ⟨f3.1, f3.2, hparm⟩ hroom, hnm, hts _ f71⟩ ⟨ga_Pc_blind, hPU⟩ rfl hlen3 hsz hstk hwd2 (hd1 (Or.inr q0)) hfit
          · exact absurd q0 hk3
    · obtain ⟨o1, g1, g2⟩ := ga_all_mem ho3 hoo
      exact S.2 _ _ _ _ _ _ _ _ _ okn hcs2 g1 (sd_sub hO g2)
end GY
end
section
theorem ga_vr_adr {ρ : Nat → Int32} {oa : Nat → Nat} {ad : List Nat} {v : Nat} {x : Value} (h : ga_adr v = true) (hx : ga_vr ρ oa ad v x) : ∃ a, x = .ref a := by
  unfold ga_adr at h
  simp only [Bool.or_eq_true, ga_beq] at h
  rcases h with h | h
  · obtain ⟨a, -, e⟩ := (ga_vr_3 h).mp hx; exact ⟨a, e⟩
  · exact ⟨_, (ga_vr_6 h).mp hx⟩
theorem ga_vr_lng {ρ : Nat → Int32} {oa : Nat → Nat} {ad : List Nat} {v : Nat} {x : Value} (h : ga_lng v = true) (hx : ga_vr ρ oa ad v x) : ∃ a, x = .long a := by
  have h5 : v % 8 = 5 := by simpa [ga_lng, ga_beq] using h
  exact ⟨_, ((ga_vr_5 h5).mp hx).2⟩
theorem ga_int7 {v : Nat} (h : ga_int v = true) : ¬ v % 8 = 7 := by rcases ga_int_le h with q | q | q <;> omega
theorem ga_adr7 {v : Nat} (h : ga_adr v = true) : ¬ v % 8 = 7 := by
  unfold ga_adr at h
  simp only [Bool.or_eq_true, ga_beq] at h
  omega
theorem ga_lng7 {v : Nat} (h : ga_lng v = true) : ¬ v % 8 = 7 := by
  have h5 : v % 8 = 5 := by simpa [ga_lng, ga_beq] using h
  omega
theorem ga_one1 {ρ : Nat → Int32} {oa : Nat → Nat} {ad : List Nat} {v : Nat} {x : Value} (h : ga_one v = true) (hx : ga_vr ρ oa ad v x) : x.category = 1 := by
  unfold ga_one at h
  simp only [Bool.or_eq_true] at h
  rcases h with h | h
  · obtain ⟨y, rfl⟩ := ga_vr_int h hx; rfl
  · obtain ⟨y, rfl⟩ := ga_vr_adr h hx; rfl
theorem ga_w1_ok {ps : List (Nat × Nat)} {f : Nat × Nat → Bool} (h : ga_w1 ps f = true) : ∃ q r, ps = q :: r ∧ f q = true := by
  cases ps with
  | nil => cases h
  | cons q r => exact ⟨q, r, rfl, h⟩
theorem ga_lb_ok {a : Nat} (h : ga_lb a = true) : a % 8 = 0 ∧ a / 8 < 4294967296 := by
  unfold ga_lb at h
  simpa [ga_beq] using h
theorem ga_lk_lt : ∀ {l : List (Int × Int)} {a : Int × Int}, (((a :: l).zip ((a :: l).drop 1)).all (fun (a, next) => a.1 < next.1)) = true → ∀ x ∈ l, a.1 < x.1
  | [], _, _, x, hx => by cases hx
  | b :: l, a, h, x, hx => by
    have h1 : (decide (a.1 < b.1) && ((b :: l).zip ((b :: l).drop 1)).all (fun (a, next) => a.1 < next.1)) = true := h
    simp only [Bool.and_eq_true, decide_eq_true_eq] at h1
    rcases List.mem_cons.mp hx with rfl | hx
    · exact h1.1
    · have := ga_lk_lt h1.2 x hx
      omega
theorem ga_lk_tl {l : List (Int × Int)} {a : Int × Int} (h : (((a :: l).zip ((a :: l).drop 1)).all (fun (a, next) => a.1 < next.1)) = true) : ((l.zip (l.drop 1)).all (fun (a, next) => a.1 < next.1)) = true := by
  cases l with
  | nil => rfl
  | cons b l =>
    have h1 : (decide (a.1 < b.1) && ((b :: l).zip ((b :: l).drop 1)).all (fun (a, next) => a.1 < next.1)) = true := h
    simp only [Bool.and_eq_true] at h1
    exact h1.2
theorem ga_lk_in : ∀ {l : List (Int × Int)} {dflt k o : Int}, ((l.zip (l.drop 1)).all (fun (a, next) => a.1 < next.1)) = true → (k, o) ∈ l → Op.lookupswitch.offset l dflt k = o
  | [], _, _, _, _, h => by cases h
  | a :: l, dflt, k, o, hs, h => by
    obtain ⟨a1, a2⟩ := a
    rw [Op.lookupswitch.offset_cons]
    rcases List.mem_cons.mp h with e | h
    · cases e
      rw [if_pos rfl]
    · have := ga_lk_lt hs (k, o) h
      rw [if_neg (by intro e; simp only at this; omega)]
      exact ga_lk_in (ga_lk_tl hs) h
theorem ga_lk_out : ∀ {l : List (Int × Int)} {dflt k : Int}, (∀ x ∈ l, ¬ x.1 = k) → Op.lookupswitch.offset l dflt k = dflt
  | [], _, _, _ => rfl
  | a :: l, dflt, k, h => by
    obtain ⟨a1, a2⟩ := a
    rw [Op.lookupswitch.offset_cons, if_neg (h (a1, a2) List.mem_cons_self)]
    exact ga_lk_out (fun x hx => h x (List.mem_cons_of_mem _ hx))
section GZ
variable {p : Program} {l : Launch} {e : Env} {R : Room} {s : State} {m : MethodId} {args : Array Value} {below : List Frame} {meth : Method} {c : Code} {Q : State → Prop}
variable {ρ : Nat → Int32} {oa : Nat → Nat} {ta : Nat → ClassId} {D : va_G} {n0 nL L d : Nat} {own : String} {cc : ByteArray} {ini : Bool} {cm sm : Nat} {nx code : List ga_E} {al sk : List Nat} {cs ss : Nat} {iv : ga_I} {n : Nat} {h : ga_H} {go : ga_G} {os : List ga_O} {ev : ga_E}
/-- the text's two methods, as rows -/
def ga_TX (p : Program) (l : Launch) (e : Env) (R : Room) (s : State) (m : MethodId) (args : Array Value) (below : List Frame) (meth : Method) (c : Code) (Q : State → Prop) (oa : Nat → Nat) (n0 nL : Nat) (own : String) (cc : ByteArray) : Prop :=
  (∀ (H : Heap) (locs : List Loc) (ls : Array Slot) (st : List Value) (cs ss idx pc : Nat), Cond.methodLink own idx ga_yLen ∈ gw_tbl → decode cc pc = .ok (.invokevirtual idx, 3) → ls.size = nL → (st.map fun v => v.category).sum ≤ 8 → cs ≤ R.cells → ss ≤ R.slots → va_S (fun q => n0 ≤ q) s.heap H locs → W p l e R s m args below meth c H locs cs ss Q (F0 m (pc + 3) ls (.int (nI 91) :: st)) → W p l e R s m args below meth c H locs cs ss Q (F0 m pc ls (.ref (oa 1) :: st))) ∧
  (∀ (H : Heap) (locs : List Loc) (ls : Array Slot) (st : List Value) (cs ss idx pc j : Nat), Cond.methodLink own idx ga_yChr ∈ gw_tbl → decode cc pc = .ok (.invokevirtual idx, 3) → ls.size = nL → (st.map fun v => v.category).sum ≤ 8 → cs ≤ R.cells → ss ≤ R.slots → j < 91 → va_S (fun q => n0 ≤ q) s.heap H locs → W p l e R s m args below meth c H locs cs ss Q (F0 m (pc + 3) ls (.int (nI (gm_tx.getD j 0)) :: st)) → W p l e R s m args below meth c H locs cs ss Q (F0 m pc ls (.int (nI j) :: .ref (oa 1) :: st)))
theorem ga_ta {ty : FieldType} {cA : ClassId} {k : Nat} {t : Nat} (hK : va_K D gm_cl (ga_tys ta) s) (hk : (ga_tys ta)[k]? = some (ta t, ty)) (hK2 : va_K D gm_cl (ga_tys ta ++ [(cA, ty)]) s) : cA = ta t := by
  have h1 := (hK.2 k _ hk).2
  have h2 := (hK2.2 5 (cA, ty) rfl).2
  cases ty with
  | object C =>
    obtain ⟨_, _, _, _, _, q1⟩ := h1
    obtain ⟨_, _, _, _, _, q2⟩ := h2
    exact Option.some.inj (q2.symm.trans q1)
  | _ =>
    have q1 : s.vm.findClass _ = some (ta t) := h1
    have q2 : s.vm.findClass _ = some cA := h2
    exact Option.some.inj (q2.symm.trans q1)
set_option maxHeartbeats 4000000 in
set_option maxRecDepth 100000 in
theorem ga_step_ok {call : Nat → List Nat → ga_I → Nat → ga_H → Option (List ga_A)} (hx : p.tables.exec = Jvm.exec) (hb : c.code = cc) (hml : c.maxLocals = nL) (hown : s.vm.findClass own = some m.cls) (hts : ∀ w ∈ gw_tbl, w.before args s = true) (hK : va_K D gm_cl (ga_tys ta) s) (hn0 : n0 ≤ s.heap.size) (hold : ga_old ρ oa n0 L s) (hinit : ini = true → meth.name = "<init>") (hρ6 : ρ 6 = ρ 0 &&& 63) (hρ7 : ρ 7 = 0 - ρ 1) (hL : L ≤ 6)
    (hRf : d + 11 ≤ R.frames) (hRl : 100 * (d + 11) ≤ R.locals) (hRc : cm ≤ R.cells) (hRs : sm ≤ R.slots) (HC : ga_CS l ρ oa ta D n0 L d call) (TX : ga_TX p l e R s m args below meth c Q oa n0 nL own cc)
    (okc : ga_okc own cc ini nL code) (oke : ga_okc own cc ini nL (ev :: nx)) (S : ga_Sd p l e R s m args below meth c Q ρ oa ta D n0 nL own cc ini cm sm go) (hcs : cs ≤ cm ∧ ss ≤ sm) (hO : ∀ o ∈ os, ga_GoO p l e R s m args below meth c Q ρ oa ta D n0 nL own cc ini o)
    (ho : ga_step gm_me gm_df L gm_tx call cm sm code go ev nx al sk cs ss iv n h = some os) : ga_Go p l e R s m args below meth c Q ρ oa ta D n0 nL (ev :: nx) al sk cs ss iv n h := by
  obtain ⟨pc, ln, i, a, b, ps⟩ := ev
  have oe := oke.1
  unfold ga_oe at oe
  simp only [Bool.and_eq_true, decide_eq_true_eq] at oe
  obtain ⟨⟨hdg, hln⟩, hwb⟩ := oe
  have hnx : nx = [] ∨ ga_pc nx = pc + ln := oke.2.1
  have okn := oke.2.2
  have hA : ∀ q : Nat, s.heap.size ≤ q → (fun q => n0 ≤ q) q := fun q hq => Nat.le_trans hn0 hq
  have op2 : ∀ {f : Nat → Nat → Nat} {g : Int32 → Int32 → Int32} {z : Nat}, (∀ ad, ga_O2 ρ oa ad f g) → (nx = [] ∨ ga_pc nx = z) → (∀ (H : Heap) (locs : List Loc) (ls : Array Slot) (st : List Value) (X Y : Int32), W p l e R s m args below meth c H locs cs ss Q (F0 m z ls (.int (g X Y) :: st)) → W p l e R s m args below meth c H locs cs ss Q (F0 m pc ls (.int Y :: .int X :: st))) → ga_op2 f go nx al sk cs ss iv n h = some os → ga_Go p l e R s m args below meth c Q ρ oa ta D n0 nL ((pc, ln, i, a, b, ps) :: nx) al sk cs ss iv n h := by
    intro f g z hf hz hr ho'
    exact sx_op2 S hcs hO okn hz rfl ho' (fun H locs ls st ad x y vx vy a1 a2 a3 => by
      obtain ⟨X, Y, rfl, rfl, g1⟩ := hf ad x y vx vy a1 a2 a3
      exact ⟨_, g1, hr H locs ls st X Y⟩)
  have stop : ∀ {x : Option (List ga_O)}, x = some os → x = some [((pc, ln, i, a, b, ps) :: nx, al, sk, cs, ss, iv, n, h)] → ga_Go p l e R s m args below meth c Q ρ oa ta D n0 nL ((pc, ln, i, a, b, ps) :: nx) al sk cs ss iv n h := by
    intro x h1 h2
    rw [h2] at h1
    have := Option.some.inj h1
    exact hO ((pc, ln, i, a, b, ps) :: nx, al, sk, cs, ss, iv, n, h) (by rw [← this]; exact List.mem_singleton.mpr rfl) oke
  cases i with
  | ireturn => exact stop ho rfl
  | return_ => exact stop ho rfl
  | areturn => exact stop ho rfl
  | lreturn => exact stop ho rfl
  | aload_n k =>
    obtain rfl : ln = 1 := Nat.eq_of_beq_eq_true hln
    exact sx_load (ok := ga_adr) (i := k.val) S hcs hO okn hnx rfl ho (fun v hv => ga_adr7 hv) (fun H locs ls st ad v x hk hv hl w => by
      obtain ⟨y, rfl⟩ := ga_vr_adr hk hv
      exact lv_aload_n hx hb hdg rfl hl w)
  | iload_n k =>
    obtain rfl : ln = 1 := Nat.eq_of_beq_eq_true hln
    exact sx_load (ok := ga_int) (i := k.val) S hcs hO okn hnx rfl ho (fun v hv => ga_int7 hv) (fun H locs ls st ad v x hk hv hl w => by
      obtain ⟨y, rfl⟩ := ga_vr_int hk hv
      exact lv_iload_n hx hb hdg rfl hl w)
  | lload_n k =>
    obtain rfl : ln = 1 := Nat.eq_of_beq_eq_true hln
    exact sx_load (ok := ga_lng) (i := k.val) S hcs hO okn hnx rfl ho (fun v hv => ga_lng7 hv) (fun H locs ls st ad v x hk hv hl w => by
      obtain ⟨y, rfl⟩ := ga_vr_lng hk hv
      exact lv_lload_n hx hb hdg rfl hl w)
  | iload k =>
    obtain rfl : ln = 2 := Nat.eq_of_beq_eq_true hln
    exact sx_load (ok := ga_int) (i := k) S hcs hO okn hnx rfl ho (fun v hv => ga_int7 hv) (fun H locs ls st ad v x hk hv hl w => by
      obtain ⟨y, rfl⟩ := ga_vr_int hk hv
      exact lv_iload hx hb hdg hl w)
  | iconst k =>
    obtain rfl : ln = 1 := Nat.eq_of_beq_eq_true hln
    have hw : (ga_lb a && decide (Int32.ofInt k = nI (a / 8))) = true := hwb
    simp only [Bool.and_eq_true, decide_eq_true_eq] at hw
    have hl := ga_lb_ok hw.1
    exact sx_push (v := a) (x := .int (nI (a / 8))) S hcs hO okn hnx rfl ho (fun ad => (ga_vr_0 hl.1).mpr ⟨hl.2, rfl⟩) (fun H locs ls st w => lv_iconst hx hb hdg hw.2 w)
  | bipush k =>
    obtain rfl : ln = 2 := Nat.eq_of_beq_eq_true hln
    have hw : (ga_lb a && decide ((Int8.ofInt k).toInt32 = nI (a / 8))) = true := hwb
    simp only [Bool.and_eq_true, decide_eq_true_eq] at hw
    have hl := ga_lb_ok hw.1
    exact sx_push (v := a) (x := .int (nI (a / 8))) S hcs hO okn hnx rfl ho (fun ad => (ga_vr_0 hl.1).mpr ⟨hl.2, rfl⟩) (fun H locs ls st w => lv_bipush hx hb hdg hw.2 w)
  | sipush k =>
    obtain rfl : ln = 3 := Nat.eq_of_beq_eq_true hln
    have hw : (ga_lb a && decide ((Int16.ofInt k).toInt32 = nI (a / 8))) = true := hwb
    simp only [Bool.and_eq_true, decide_eq_true_eq] at hw
    have hl := ga_lb_ok hw.1
    exact sx_push (v := a) (x := .int (nI (a / 8))) S hcs hO okn hnx rfl ho (fun ad => (ga_vr_0 hl.1).mpr ⟨hl.2, rfl⟩) (fun H locs ls st w => lv_sipush hx hb hdg hw.2 w)
  | lconst k =>
    obtain rfl : ln = 1 := Nat.eq_of_beq_eq_true hln
    have hw : (Nat.beq (a % 8) 5 && Nat.blt (a / 8) 18446744073709551616 && decide (Int64.ofNat k.val = lN (a / 8))) = true := hwb
    simp only [Bool.and_eq_true, decide_eq_true_eq, ga_beq, Nat.blt_eq] at hw
    exact sx_push (v := a) (x := .long (lN (a / 8))) S hcs hO okn hnx rfl ho (fun ad => (ga_vr_5 hw.1.1).mpr ⟨hw.1.2, rfl⟩) (fun H locs ls st w => lv_lconst hx hb hdg hw.2 w)
  | ldc2_w k =>
    obtain rfl : ln = 3 := Nat.eq_of_beq_eq_true hln
    have hw : (Nat.beq (a % 8) 5 && Nat.blt (a / 8) 18446744073709551616 && ga_w1 ps (fun q => gw_ok q.2 (.constantLong own k (lN (a / 8))))) = true := hwb
    simp only [Bool.and_eq_true, ga_beq, Nat.blt_eq] at hw
    obtain ⟨q, r, -, hq⟩ := ga_w1_ok hw.2
    exact sx_push (v := a) (x := .long (lN (a / 8))) S hcs hO okn hnx rfl ho (fun ad => (ga_vr_5 hw.1.1).mpr ⟨hw.1.2, rfl⟩) (fun H locs ls st w => lv_ldc2 hx hb hown (hts _ (gw_mem hq)) hdg w)
  | ldc_w k =>
    obtain rfl : ln = 3 := Nat.eq_of_beq_eq_true hln
    have hw : (ga_lb a && ga_w1 ps (fun q => gw_ok q.2 (.constant own k (nI (a / 8))))) = true := hwb
    simp only [Bool.and_eq_true] at hw
    obtain ⟨q, r, -, hq⟩ := ga_w1_ok hw.2
    have hl := ga_lb_ok hw.1
    exact sx_push (v := a) (x := .int (nI (a / 8))) S hcs hO okn hnx rfl ho (fun ad => (ga_vr_0 hl.1).mpr ⟨hl.2, rfl⟩) (fun H locs ls st w => lv_ldcw hx hb hown (hts _ (gw_mem hq)) hdg w)
  | ldc k =>
    obtain rfl : ln = 2 := Nat.eq_of_beq_eq_true hln
    have ho2 : ga_if (or (Nat.beq (a % 8) 0) (Nat.beq a 14)) (go nx al (a :: sk) cs ss iv n h) none = some os := ho
    have hw : (if a % 8 = 0 then ga_lb a && ga_w1 ps (fun q => gw_ok q.2 (.constant own k (nI (a / 8)))) else if a = 14 then decide (own = "GravyRound$Tokens") && Nat.beq k 20 else if a = 30 then decide (own = "GravyRound$Tokens") && Nat.beq k 75 else true) = true := hwb
    simp only [ga_if_eq, Bool.or_eq_true, ga_beq] at ho2
    split at ho2
    · by_cases h0 : a % 8 = 0
      · rw [if_pos h0] at hw
        simp only [Bool.and_eq_true] at hw
        obtain ⟨q, r, -, hq⟩ := ga_w1_ok hw.2
        have hl := ga_lb_ok hw.1
        exact sx_push (v := a) (x := .int (nI (a / 8))) S hcs hO okn hnx rfl ho2 (fun ad => (ga_vr_0 hl.1).mpr ⟨hl.2, rfl⟩) (fun H locs ls st w => lv_ldc hx hb hown (hts _ (gw_mem hq)) hdg w)
      · rename_i h14
        have ha : a = 14 := by rcases h14 with q | q; exact absurd q h0; exact q
        rw [if_neg h0, if_pos ha] at hw
        simp only [Bool.and_eq_true, decide_eq_true_eq, ga_beq] at hw
        obtain ⟨rfl, rfl⟩ := hw
        subst ha
        exact sx_push (v := 14) (x := .ref (oa 1)) S hcs hO okn hnx rfl ho2 (fun ad => (ga_vr_6 (by decide)).mpr rfl) (fun H locs ls st w => va_ldcS hx hb hown hold.2.2.2.2.1 hdg w)
    · cases ho2
  | iadd => obtain rfl : ln = 1 := Nat.eq_of_beq_eq_true hln; exact op2 (f := ga_add) (fun ad => ga_add_ok) hnx (fun H locs ls st X Y w => lv_iadd hx hb hdg w) ho
  | imul => obtain rfl : ln = 1 := Nat.eq_of_beq_eq_true hln; exact op2 (f := ga_mul) (fun ad => ga_mul_ok) hnx (fun H locs ls st X Y w => lv_imul hx hb hdg w) ho
  | iand => obtain rfl : ln = 1 := Nat.eq_of_beq_eq_true hln; exact op2 (f := ga_and) (fun ad => ga_and_ok hρ6) hnx (fun H locs ls st X Y w => lv_iand hx hb hdg w) ho
  | ior => obtain rfl : ln = 1 := Nat.eq_of_beq_eq_true hln; exact op2 (f := ga_or) (fun ad => ga_or_ok) hnx (fun H locs ls st X Y w => lv_ior hx hb hdg w) ho
  | ixor => obtain rfl : ln = 1 := Nat.eq_of_beq_eq_true hln; exact op2 (f := ga_xor) (fun ad => ga_xor_ok) hnx (fun H locs ls st X Y w => lv_ixor hx hb hdg w) ho
  | ishl => obtain rfl : ln = 1 := Nat.eq_of_beq_eq_true hln; exact op2 (f := ga_shl) (fun ad => ga_shl_ok) hnx (fun H locs ls st X Y w => lv_ishl hx hb hdg w) ho
  | ishr => obtain rfl : ln = 1 := Nat.eq_of_beq_eq_true hln; exact op2 (f := ga_shr) (fun ad => ga_shr_ok) hnx (fun H locs ls st X Y w => lv_ishr hx hb hdg w) ho
  | iushr => obtain rfl : ln = 1 := Nat.eq_of_beq_eq_true hln; exact op2 (f := ga_ush) (fun ad => ga_ush_ok) hnx (fun H locs ls st X Y w => lv_iushr hx hb hdg rfl w) ho
  | isub => obtain rfl : ln = 1 := Nat.eq_of_beq_eq_true hln; exact sx_isb hρ7 hx hb S hcs hO okn hnx rfl hdg ho
  | idiv =>
    obtain rfl : ln = 1 := Nat.eq_of_beq_eq_true hln
    exact sx_op2 (f := ga_div) S hcs hO okn hnx rfl ho (fun H locs ls st ad x y vx vy a1 a2 a3 => by
      obtain ⟨X, Y, rfl, rfl, h0, g1⟩ := ga_div_ok x y vx vy a1 a2 a3
      exact ⟨_, g1, fun w => lv_idiv hx hb hdg h0 w⟩)
  | irem =>
    obtain rfl : ln = 1 := Nat.eq_of_beq_eq_true hln
    exact sx_op2 (f := ga_rem) S hcs hO okn hnx rfl ho (fun H locs ls st ad x y vx vy a1 a2 a3 => by
      obtain ⟨X, Y, rfl, rfl, h0, g1⟩ := ga_rem_ok x y vx vy a1 a2 a3
      exact ⟨_, g1, fun w => lv_irem hx hb hdg h0 w⟩)
  | ladd =>
    obtain rfl : ln = 1 := Nat.eq_of_beq_eq_true hln
    exact sx_op2 (f := ga_lad) S hcs hO okn hnx rfl ho (fun H locs ls st ad x y vx vy a1 a2 a3 => by
      obtain ⟨X, Y, rfl, rfl, g1⟩ := ga_lad_ok x y vx vy a1 a2 a3
      exact ⟨_, g1, fun w => lv_ladd hx hb hdg w⟩)
  | lmul =>
    obtain rfl : ln = 1 := Nat.eq_of_beq_eq_true hln
    exact sx_op2 (f := ga_lmu) S hcs hO okn hnx rfl ho (fun H locs ls st ad x y vx vy a1 a2 a3 => by
      obtain ⟨X, Y, rfl, rfl, g1⟩ := ga_lmu_ok x y vx vy a1 a2 a3
      exact ⟨_, g1, fun w => lv_lmul hx hb hdg w⟩)
  | i2b =>
    obtain rfl : ln = 1 := Nat.eq_of_beq_eq_true hln
    exact sx_op1 (f := ga_i2b) S hcs hO okn hnx rfl ho (fun H locs ls st ad x vx a1 a3 => by
      obtain ⟨X, rfl, g1⟩ := ga_i2b_ok x vx a1 a3
      exact ⟨_, g1, fun w => lv_i2b hx hb hdg rfl w⟩)
  | i2l =>
    obtain rfl : ln = 1 := Nat.eq_of_beq_eq_true hln
    exact sx_op1 (f := ga_i2l) S hcs hO okn hnx rfl ho (fun H locs ls st ad x vx a1 a3 => by
      obtain ⟨X, rfl, g1⟩ := ga_i2l_ok x vx a1 a3
      exact ⟨_, g1, fun w => lv_i2l hx hb hdg rfl w⟩)
  | goto off =>
    obtain rfl : ln = 3 := Nat.eq_of_beq_eq_true hln
    have ht : (pc : Int) + off = (b : Int) := of_decide_eq_true hwb
    have ho2 : go (ga_jmp code b) al sk cs ss iv n h = some os := ho
    have hj := ga_okc_jmp (t := b) okc
    obtain ⟨e1, k⟩ := sd_nx S hcs hO hj.1 hj.2 ho2
    exact gg_goto (nx := ga_jmp code b) rfl (fun H locs ls st w => lv_goto hx hb hdg ht (by rw [← e1]; exact w)) k
  | if_icmp cnd off =>
    obtain rfl : ln = 3 := Nat.eq_of_beq_eq_true hln
    have ht : (pc : Int) + off = (b : Int) := of_decide_eq_true hwb
    cases sk with
    | nil => exact absurd (show (none : Option (List ga_O)) = some os from ho) (by simp)
    | cons y sk =>
      cases sk with
      | nil => exact absurd (show (none : Option (List ga_O)) = some os from ho) (by simp)
      | cons x r =>
        have ho2 : ga_if (ga_i2 x y) (ga_cnd cnd iv x y (fun iv => go (ga_jmp code b) al r cs ss iv n h) (fun iv => go nx al r cs ss iv n h)) none = some os := ho
        rw [ga_if_eq] at ho2
        split at ho2
        · rename_i hi2
          obtain ⟨ix, iy⟩ := ga_i2_ok hi2
          exact sx_icmp hx hb S hcs hO okn hnx okc rfl ix iy hdg ht ho2
        · cases ho2
  | ifCond cnd off =>
    obtain rfl : ln = 3 := Nat.eq_of_beq_eq_true hln
    have ht : (pc : Int) + off = (b : Int) := of_decide_eq_true hwb
    cases sk with
    | nil => exact absurd (show (none : Option (List ga_O)) = some os from ho) (by simp)
    | cons x r =>
      have ho2 : ga_if (ga_int x) (ga_cnd cnd iv x 0 (fun iv => go (ga_jmp code b) al r cs ss iv n h) (fun iv => go nx al r cs ss iv n h)) none = some os := ho
      rw [ga_if_eq] at ho2
      split at ho2
      · rename_i ix
        exact sx_if hx hb S hcs hO okn hnx okc rfl ix hdg ht ho2
      · cases ho2
  | istore k =>
    obtain rfl : ln = 2 := Nat.eq_of_beq_eq_true hln
    have hlt : k < nL := by simpa using (show Nat.blt k nL = true from hwb)
    exact sx_store (ok := ga_int) (i := k) S hcs hO okn hnx rfl ho (fun H locs ls st ad v x hk hv hh w => by
      obtain ⟨y, rfl⟩ := ga_vr_int hk hv
      exact lv_istore hx hb hdg hh hlt rfl w)
  | istore_n k =>
    obtain rfl : ln = 1 := Nat.eq_of_beq_eq_true hln
    have hlt : k.val < nL := by simpa using (show Nat.blt k.val nL = true from hwb)
    exact sx_store (ok := ga_int) (i := k.val) S hcs hO okn hnx rfl ho (fun H locs ls st ad v x hk hv hh w => by
      obtain ⟨y, rfl⟩ := ga_vr_int hk hv
      exact lv_istore_n hx hb hdg rfl hh hlt rfl w)
  | astore_n k =>
    obtain rfl : ln = 1 := Nat.eq_of_beq_eq_true hln
    have hlt : k.val < nL := by simpa using (show Nat.blt k.val nL = true from hwb)
    exact sx_store (ok := ga_adr) (i := k.val) S hcs hO okn hnx rfl ho (fun H locs ls st ad v x hk hv hh w => by
      obtain ⟨y, rfl⟩ := ga_vr_adr hk hv
      exact lv_astore_n hx hb hdg rfl hh hlt rfl w)
  | lstore_n k =>
    obtain rfl : ln = 1 := Nat.eq_of_beq_eq_true hln
    have hlt : k.val + 1 < nL := by simpa using (show Nat.blt (k.val + 1) nL = true from hwb)
    cases sk with
    | nil => exact absurd (show (none : Option (List ga_O)) = some os from ho) (by simp)
    | cons v r => exact sx_lst hx hb S hcs hO okn hnx rfl hdg hlt ho
  | iinc k nn =>
    obtain rfl : ln = 3 := Nat.eq_of_beq_eq_true hln
    have hw : (ga_lb a && decide (Int32.ofInt nn = nI (a / 8)) && Nat.blt k nL) = true := hwb
    simp only [Bool.and_eq_true, decide_eq_true_eq, Nat.blt_eq] at hw
    exact sx_iinc hx hb S hcs hO okn hnx rfl hdg (ga_lb_ok hw.1.1).1 hw.2 hw.1.2 ho
  | getfield idx =>
    obtain rfl : ln = 3 := Nat.eq_of_beq_eq_true hln
    have hw : (match gm_cl[a]? with
      | some q => Nat.blt b q.2.2 && ga_w1 ps (fun w => if w.1 = 0 then gw_ok w.2 (.fieldLink own idx (q.2.1 b).1 (q.2.1 b).2.1 (q.2.1 b).2.2.1) else gw_nk w.2 (.fieldLinkNest own idx (q.2.1 b).1 (q.2.1 b).2.1 (q.2.1 b).2.2.1 "GravyRound"))
      | none => false) = true := hwb
    cases hq : gm_cl[a]? with
    | none => rw [hq] at hw; cases hw
    | some q =>
      rw [hq] at hw
      simp only [Bool.and_eq_true, Nat.blt_eq] at hw
      obtain ⟨w0, r0, -, hw0⟩ := ga_w1_ok hw.2
      refine sx_get hx hb hown hts hK S hcs hO okn hnx rfl hdg hq hw.1 ?_ ho
      split at hw0
      · exact Or.inl (hts _ (gw_mem hw0))
      · exact Or.inr (va_Nw.use rfl (hold.2.2.1 _ (gw_nmem hw0)))
  | putfield idx =>
    obtain rfl : ln = 3 := Nat.eq_of_beq_eq_true hln
    have hw : (match gm_cl[a]? with
      | some q => Nat.blt b q.2.2 && ga_w1 ps (fun w => gw_ok w.2 (.fieldLink own idx (q.2.1 b).1 (q.2.1 b).2.1 (q.2.1 b).2.2.1) && ga_tc w.1 (q.2.1 b).2.2.1) && (!(q.2.1 b).2.2.2 || (ini && decide ((q.2.1 b).1 = own)))
      | none => false) = true := hwb
    cases hq : gm_cl[a]? with
    | none => rw [hq] at hw; cases hw
    | some q =>
      rw [hq] at hw
      simp only [Bool.and_eq_true, Nat.blt_eq, Bool.or_eq_true, Bool.not_eq_true', decide_eq_true_eq] at hw
      obtain ⟨⟨h1, h2⟩, h3⟩ := hw
      obtain ⟨w0, r0, hps, hw0⟩ := ga_w1_ok h2
      simp only [Bool.and_eq_true] at hw0
      refine sx_put hx hb hown hts hK S hcs hO okn hnx rfl hdg hq h1 (hts _ (gw_mem hw0.1)) (fun w hw => ?_) ?_ ho
      · rw [hps] at hw
        have : w0 = w := by simpa using hw
        rw [← this]
        exact hw0.2
      · rcases h3 with h3 | ⟨h3, h4⟩
        · exact Or.inl h3
        · exact Or.inr ⟨hinit h3, h4⟩
  | dup =>
    obtain rfl : ln = 1 := Nat.eq_of_beq_eq_true hln
    cases sk with
    | nil => exact absurd (show (none : Option (List ga_O)) = some os from ho) (by simp)
    | cons v r =>
      have ho2 : ga_if (ga_one v) (go nx al (v :: v :: r) cs ss iv n h) none = some os := ho
      rw [ga_if_eq] at ho2
      split at ho2
      · rename_i hv1
        exact sx_stk S hcs hO okn hnx rfl ho2 (fun H locs ls st ad hsz hst => by
          obtain ⟨x, t, rfl, h1, h2⟩ := ga_sr_cons hst
          exact ⟨x :: x :: t, ⟨h1, h1, h2⟩, fun w => lv_dup hx hb hdg (ga_one1 hv1 h1) w⟩)
      · cases ho2
  | dup2 =>
    obtain rfl : ln = 1 := Nat.eq_of_beq_eq_true hln
    cases sk with
    | nil => exact absurd (show (none : Option (List ga_O)) = some os from ho) (by simp)
    | cons v sk =>
      cases sk with
      | nil => exact absurd (show (none : Option (List ga_O)) = some os from ho) (by simp)
      | cons w r =>
        have ho2 : ga_if (and (ga_one v) (ga_one w)) (go nx al (v :: w :: v :: w :: r) cs ss iv n h) none = some os := ho
        rw [ga_if_eq] at ho2
        split at ho2
        · rename_i hv1
          simp only [Bool.and_eq_true] at hv1
          exact sx_stk S hcs hO okn hnx rfl ho2 (fun H locs ls st ad hsz hst => by
            obtain ⟨x, t, rfl, h1, h2⟩ := ga_sr_cons hst
            obtain ⟨y, t, rfl, h3, h4⟩ := ga_sr_cons h2
            exact ⟨x :: y :: x :: y :: t, ⟨h1, h3, h1, h3, h4⟩, fun w => lv_dup2_11 hx hb hdg (ga_one1 hv1.1 h1) (ga_one1 hv1.2 h3) w⟩)
        · cases ho2
  | pop =>
    obtain rfl : ln = 1 := Nat.eq_of_beq_eq_true hln
    cases sk with
    | nil => exact absurd (show (none : Option (List ga_O)) = some os from ho) (by simp)
    | cons v r =>
      have ho2 : ga_if (ga_one v) (go nx al r cs ss iv n h) none = some os := ho
      rw [ga_if_eq] at ho2
      split at ho2
      · rename_i hv1
        exact sx_stk S hcs hO okn hnx rfl ho2 (fun H locs ls st ad hsz hst => by
          obtain ⟨x, t, rfl, h1, h2⟩ := ga_sr_cons hst
          exact ⟨t, h2, fun w => lv_pop hx hb hdg (ga_one1 hv1 h1) w⟩)
      · cases ho2
  | iaload =>
    obtain rfl : ln = 1 := Nat.eq_of_beq_eq_true hln
    cases sk with
    | nil => exact absurd (show (none : Option (List ga_O)) = some os from ho) (by simp)
    | cons i0 sk =>
      cases sk with
      | nil => exact absurd (show (none : Option (List ga_O)) = some os from ho) (by simp)
      | cons r t =>
        have ho2 : ga_if (Nat.beq r 6) (ga_idx iv i0 (fun _ => none) (fun j => ga_if (Nat.blt j L) (ga_f (8 * j + 1) (fun v => go nx al (v :: t) cs ss iv n h)) none)) (ga_ald 100 go (pc, 1, .iaload, a, b, ps) nx al (i0 :: r :: t) cs ss iv n h) = some os := ho
        rw [ga_if_eq] at ho2
        split at ho2
        · rename_i hr6
          rw [ga_beq] at hr6
          subst hr6
          refine gg_idx ho2 (fun h0 o1 g1 g2 => ?_) (fun iv' o1 g1 g2 => by cases g1)
          simp only [ga_if_eq, ga_f_eq, Nat.blt_eq] at g1
          split at g1
          · rename_i hjL
            obtain ⟨e1, k⟩ := sd_nx S hcs (sd_sub hO g2) okn hnx g1
            intro H locs ls st hat
            obtain ⟨hi, hS, ad, ws, hw, hl, hs⟩ := hat
            obtain ⟨x, st0, rfl, hx0, hs0⟩ := ga_sr_cons hs
            obtain ⟨y, st1, rfl, h1, hs1⟩ := ga_sr_cons hs0
            have ex := ga_lit_of hi h0 hx0
            have ey := (ga_vr_6 (by decide)).mp h1
            subst ex; subst ey
            have hjb : ga_sm iv i0 / 8 < 1048576 := by omega
            have kk := k H locs ls (.int (ρ (ga_sm iv i0 / 8)) :: st1) ⟨hi, hS, ad, ws, hw, hl, (ga_vr_1 (by omega)).mpr (by rw [show (8 * (ga_sm iv i0 / 8) + 1) / 8 = ga_sm iv i0 / 8 by omega]), hs1⟩
            rw [e1] at kk
            refine va_sld hx hb hold.2.1 (Nat.lt_of_lt_of_le hold.1 hn0) (fun q => absurd hold.1 (Nat.not_lt.mpr q)) hS (ga_vpin hjb hjL) hdg ?_
            rw [ga_clamp hjb]
            exact kk
          · cases g1
        · exact sx_aldi (kind := 100) (Or.inl rfl) S hcs hO oke hnx rfl (fun H locs ls st ws q0 a1 j mm f hj1 hj2 hP he w => va_iald hx hb hK hP q0 0 he rfl (ga_vpin hj1 hj2) hdg (by rw [ga_clamp hj1]; exact w)) ho2
  | baload =>
    obtain rfl : ln = 1 := Nat.eq_of_beq_eq_true hln
    have ho2 : ga_if (Nat.beq a 104) (ga_ald 104 go (pc, 1, .baload, a, b, ps) nx al sk cs ss iv n h) (ga_ald 101 go (pc, 1, .baload, a, b, ps) nx al sk cs ss iv n h) = some os := ho
    rw [ga_if_eq] at ho2
    split at ho2
    · exact sx_aldi (kind := 104) (Or.inr (Or.inr rfl)) S hcs hO oke hnx rfl (fun H locs ls st ws q0 a1 j mm f hj1 hj2 hP he w => va_zald hx hb hK hP q0 4 he rfl (ga_vpin hj1 hj2) hdg (by rw [ga_clamp hj1]; exact w)) ho2
    · exact sx_aldi (kind := 101) (Or.inr (Or.inl rfl)) S hcs hO oke hnx rfl (fun H locs ls st ws q0 a1 j mm f hj1 hj2 hP he w => va_bald hx hb hK hP q0 1 he rfl (ga_vpin hj1 hj2) hdg (by rw [ga_clamp hj1]; exact w)) ho2
  | aaload =>
    obtain rfl : ln = 1 := Nat.eq_of_beq_eq_true hln
    exact sx_aldr S hcs hO oke hnx rfl (fun H locs ls st ws q0 a1 j mm f hj1 hj2 hP he w => va_aldq hx hb hK hP q0 3 he rfl (ga_vpin hj1 hj2) hdg (by rw [ga_clamp hj1]; exact w)) ho
  | iastore =>
    obtain rfl : ln = 1 := Nat.eq_of_beq_eq_true hln
    refine sx_asti (kind := 100) (f := ga_fi) (Or.inl rfl) S hcs hO oke hnx rfl (fun H locs ls st ad ws q0 a1 j mm v g x hj1 hj2 h7 hP hD hS he hv => ?_) ho
    have hfi : ga_int v = true ∧ ga_fi v = v := by
      unfold ga_fi at h7 ⊢
      rw [ga_if_eq] at h7 ⊢
      split at h7
      · rename_i q; exact ⟨q, if_pos q⟩
      · exact absurd rfl h7
    obtain ⟨y, rfl⟩ := ga_vr_int hfi.1 hv
    refine ⟨y, by rw [hfi.2]; exact hv, fun kk => ?_⟩
    refine va_iast hx hb hK hP hD hS q0 0 he rfl (ga_vpin hj1 hj2) hdg ?_
    rw [ga_clamp hj1]
    exact kk
  | bastore =>
    obtain rfl : ln = 1 := Nat.eq_of_beq_eq_true hln
    have ho2 : ga_if (Nat.beq a 104) (ga_ast 104 ga_fz go (pc, 1, .bastore, a, b, ps) nx al sk cs ss iv n h) (ga_ast 101 ga_i2b go (pc, 1, .bastore, a, b, ps) nx al sk cs ss iv n h) = some os := ho
    rw [ga_if_eq] at ho2
    split at ho2
    · refine sx_asti (kind := 104) (f := ga_fz) (Or.inr (Or.inr rfl)) S hcs hO oke hnx rfl (fun H locs ls st ad ws q0 a1 j mm v g x hj1 hj2 h7 hP hD hS he hv => ?_) ho2
      have hfz : (v = 0 ∨ v = 8) ∧ ga_fz v = v := by
        unfold ga_fz at h7 ⊢
        simp only [ga_if_eq, Bool.or_eq_true, ga_beq] at h7 ⊢
        split at h7
        · rename_i q; exact ⟨q, if_pos q⟩
        · exact absurd rfl h7
      have hxx : ∃ y : Int32, x = .int y ∧ vp_nar .boolean y = y := by
        rcases hfz.1 with rfl | rfl
        · exact ⟨_, ((ga_vr_0 (by decide)).mp hv).2, by decide +kernel⟩
        · exact ⟨_, ((ga_vr_0 (by decide)).mp hv).2, by decide +kernel⟩
      obtain ⟨y, rfl, hy⟩ := hxx
      refine ⟨y, by rw [hfz.2]; exact hv, fun kk => ?_⟩
      refine va_zast hx hb hK hP hD hS q0 4 he rfl (ga_vpin hj1 hj2) hdg ?_
      rw [ga_clamp hj1, hy]
      exact kk
    · refine sx_asti (kind := 101) (f := ga_i2b) (Or.inr (Or.inl rfl)) S hcs hO oke hnx rfl (fun H locs ls st ad ws q0 a1 j mm v g x hj1 hj2 h7 hP hD hS he hv => ?_) ho2
      obtain ⟨y, rfl, hy⟩ := ga_i2b_ok v x hv h7
      refine ⟨_, hy, fun kk => ?_⟩
      refine va_bast hx hb hK hP hD hS q0 1 he rfl (ga_vpin hj1 hj2) hdg ?_
      rw [ga_clamp hj1, vp_nar_byte]
      exact kk
  | lastore =>
    obtain rfl : ln = 1 := Nat.eq_of_beq_eq_true hln
    exact sx_astl S hcs hO oke hnx rfl (fun H locs ls st ws q0 a1 j mm f x hj1 hj2 hP hD hS he kk => by
      refine va_last hx hb hK hP hD hS q0 2 he rfl (ga_vpin hj1 hj2) hdg ?_
      rw [ga_clamp hj1]
      exact kk) ho
  | aastore =>
    obtain rfl : ln = 1 := Nat.eq_of_beq_eq_true hln
    have hw : (match gm_cl[a]? with | some q => decide (q.1 = "GravyRound$Table") | none => false) = true := hwb
    cases hq : gm_cl[a]? with
    | none => rw [hq] at hw; cases hw
    | some q =>
      rw [hq] at hw
      have hq1 : q.1 = "GravyRound$Table" := of_decide_eq_true hw
      have hg := gn_all a q hq
      exact sx_astr (ci := a) hg.2.2.2.2.2.1 S hcs hO oke hnx rfl (fun H locs ls st ws q0 qk a1 x j mm f fs hj1 hj2 hP hD hS he hev kk => by
        refine va_astq hx hb hK hP hD hS q0 3 qk a he (by rw [hq1]; rfl) hev hq (ga_vpin hj1 hj2) hdg ?_
        rw [ga_clamp hj1]
        exact kk) ho
  | arraylength =>
    obtain rfl : ln = 1 := Nat.eq_of_beq_eq_true hln
    cases sk with
    | nil => exact absurd (show (none : Option (List ga_O)) = some os from ho) (by simp)
    | cons r t =>
      have ho2 : ga_if (Nat.beq r 6) (go nx al (8 * L :: t) cs ss iv n h) (ga_if (ga_ref r) (match ga_hg h (r / 8) with | (k, m, _) => ga_if (and (and (Nat.ble 100 k) (Nat.ble k 104)) (Nat.blt m 4294967296)) (ga_f (8 * m) (fun v => go nx al (v :: t) cs ss iv n h)) none) none) = some os := ho
      rw [ga_if_eq] at ho2
      split at ho2
      · rename_i hr6
        rw [ga_beq] at hr6
        subst hr6
        obtain ⟨e1, k⟩ := sd_nx S hcs hO okn hnx ho2
        intro H locs ls st hat
        obtain ⟨hi, hS, ad, ws, hw, hl, hs⟩ := hat
        obtain ⟨x, st0, rfl, hx0, hs0⟩ := ga_sr_cons hs
        have ey := (ga_vr_6 (by decide)).mp hx0
        subst ey
        have kk := k H locs ls (.int (nI L) :: st0) ⟨hi, hS, ad, ws, hw, hl, ga_lit L (by omega), hs0⟩
        rw [e1] at kk
        exact va_slen hx hb hold.2.1 (Nat.lt_of_lt_of_le hold.1 hn0) (fun q => absurd hold.1 (Nat.not_lt.mpr q)) hS hdg kk
      · rw [ga_if_eq] at ho2
        split at ho2
        · rename_i hr
          rcases hcell : ga_hg h (r / 8) with ⟨c1, mm, vs⟩
          rw [hcell] at ho2
          simp only [ga_if_eq, ga_f_eq, Bool.and_eq_true, Nat.ble_eq, Nat.blt_eq] at ho2
          split at ho2
          · rename_i hq
            obtain ⟨e1, k⟩ := sd_nx S hcs hO okn hnx ho2
            have htk : ∃ (t0 : Nat) (ty : FieldType), (ga_tys ta)[t0]? = some (ta c1, ty) := by
              have : c1 = 100 ∨ c1 = 101 ∨ c1 = 102 ∨ c1 = 103 ∨ c1 = 104 := by omega
              rcases this with rfl | rfl | rfl | rfl | rfl
              · exact ⟨0, _, rfl⟩
              · exact ⟨1, _, rfl⟩
              · exact ⟨2, _, rfl⟩
              · exact ⟨3, _, rfl⟩
              · exact ⟨4, _, rfl⟩
            obtain ⟨t0, ty, ht0⟩ := htk
            exact gg_alen (pc := pc) rfl hr hcell hq.1.1 hq.1.2 hq.2 (fun H locs ls st ws q0 a1 x hP he hx1 w => va_alen (v := nI mm) hx hb hK hP q0 t0 he ht0 (by rw [hx1]; rfl) hdg (by rw [e1] at w; exact w)) k
          · cases ho2
        · cases ho2
  | new idx =>
    obtain rfl : ln = 3 := Nat.eq_of_beq_eq_true hln
    have hw : (match gm_cl[a]? with | some q => Nat.beq b q.2.2 && ga_w1 ps (fun w => gw_ok w.2 (.classLink own idx q.1)) | none => false) = true := hwb
    cases hq : gm_cl[a]? with
    | none => rw [hq] at hw; cases hw
    | some q =>
      rw [hq] at hw
      simp only [Bool.and_eq_true, ga_beq] at hw
      obtain ⟨hb2, hw2⟩ := hw
      obtain ⟨w0, r0, -, hw0⟩ := ga_w1_ok hw2
      have hg := gn_all a q hq
      obtain ⟨ty, hty, hdv⟩ := hg.2.2.1
      subst hb2
      refine sx_new (cK := a) (mm := 0) (vs := gm_df a) (sz := q.2.2) (sk' := sk) S hO okn hnx rfl (fun H locs ls st ad ws hc1 hc2 hP hD hS hi hs => ⟨.inr (a, (gm_df a).map ga_cv), st, fun qq => Or.inl ⟨hg.2.2.2.2.2.1, _, rfl, by simp, fun j v hv => ⟨ga_cv v, by rw [List.getElem?_map, show (gm_df a)[j]? = some v from hv]; rfl, ?_⟩⟩, hs, fun kk => ?_⟩) ho
      · rcases hg.2.2.2.2.2.2.2 v (List.mem_of_getElem? hv) with rfl | rfl | rfl
        · exact ga_z0
        · exact (ga_vr_4 (by decide)).mpr rfl
        · exact (ga_vr_5 (by decide)).mpr ⟨by decide, rfl⟩
      · obtain ⟨C, T, N⟩ := q
        exact va_new hx hb hts hg.1 ty hty hown (hts _ (gw_mem hw0)) (hts _ hg.2.2.2.1) (hts _ hg.2.2.2.2.1) hK hP hD hS hA hq hdv (Nat.le_trans hc1 hRc) (Nat.le_trans hc2 hRs) hdg kk
  | newarray t =>
    obtain rfl : ln = 2 := Nat.eq_of_beq_eq_true hln
    cases sk with
    | nil => exact absurd (show (none : Option (List ga_O)) = some os from ho) (by simp)
    | cons mq r =>
      have ho2 : ga_if (and (Nat.beq (mq % 8) 0) (Nat.blt (mq / 8) 1048576)) (ga_f (mq / 8) (fun m => ga_new a m [] m cm sm go nx al r cs ss iv n h)) none = some os := ho
      simp only [ga_if_eq, ga_f_eq, Bool.and_eq_true, ga_beq, Nat.blt_eq] at ho2
      split at ho2
      · rename_i hm
        have hnn : ¬ nI (mq / 8) < 0 := nI_pos (by omega)
        have arr : ∀ {kk0 t0 : Nat} {ty : FieldType} {at0 : ArrayType} (i0 : Nat), a = kk0 → (kk0 = 100 ∨ kk0 = 101 ∨ kk0 = 104) → t = at0 → newarray.typeOf at0 = ty → (∀ (N' : Nat) (cA : ClassId), vp_cell cA (N', .inl (fun _ => 0)) = arrV cA N' (fun _ => defaultValue ty)) → componentBytes ty ≤ 8 → (ga_tys ta)[i0]? = some (ta kk0, ty) → Cond.arrayClass (newarray.typeOf at0) ∈ gw_tbl → ga_Go p l e R s m args below meth c Q ρ oa ta D n0 nL ((pc, 2, .newarray t, a, b, ps) :: nx) al (mq :: r) cs ss iv n h := by
          intro kk0 t0 ty at0 i0 ha hk0 ht hty hcell hby hti hwd
          subst ha; subst ht
          refine sx_new (cK := a) (mm := mq / 8) (vs := []) (sz := mq / 8) (sk' := r) S hO okn hnx rfl (fun H locs ls st ad ws hc1 hc2 hP hD hS hi hs => ?_) ho2
          obtain ⟨x, st1, rfl, hx1, hs1⟩ := ga_sr_cons hs
          have ex := ((ga_vr_0 hm.1).mp hx1).2
          subst ex
          refine ⟨.inl (ta a, mq / 8, .inl (fun _ => 0)), st1, fun q => Or.inr (Or.inl ⟨hk0, _, rfl, fun j _ => ga_z0⟩), hs1, fun kk => ?_⟩
          refine va_newa hx hb (hts _ hwd) hty hK hP hD hS hA (hcell (mq / 8)) hnn (ga_clamp hm.2) ?_ (Nat.le_trans hc1 hRc) (Nat.le_trans hc2 hRs) hdg (fun q cA H1 hK2 hP1 hD1 hS1 => ?_)
          · have : mq / 8 * componentBytes ty ≤ mq / 8 * 8 := Nat.mul_le_mul_left _ hby
            omega
          · have ec := ga_ta hK hti hK2
            subst ec
            exact kk q H1 hP1 hD1 hS1
        cases t with
        | int =>
          have hw : (Nat.beq a 100 && ga_w1 ps (fun w => gw_ok w.2 (.arrayClass .int))) = true := hwb
          simp only [Bool.and_eq_true, ga_beq] at hw
          obtain ⟨w0, r0, -, hw0⟩ := ga_w1_ok hw.2
          exact arr (at0 := .int) (t0 := 0) 0 hw.1 (Or.inl rfl) rfl rfl (fun _ _ => rfl) (by decide) rfl (gw_mem hw0)
        | byte =>
          have hw : (Nat.beq a 101 && ga_w1 ps (fun w => gw_ok w.2 (.arrayClass .byte))) = true := hwb
          simp only [Bool.and_eq_true, ga_beq] at hw
          obtain ⟨w0, r0, -, hw0⟩ := ga_w1_ok hw.2
          exact arr (at0 := .byte) (t0 := 0) 1 hw.1 (Or.inr (Or.inl rfl)) rfl rfl (fun _ _ => rfl) (by decide) rfl (gw_mem hw0)
        | boolean =>
          have hw : (Nat.beq a 104 && ga_w1 ps (fun w => gw_ok w.2 (.arrayClass .boolean))) = true := hwb
          simp only [Bool.and_eq_true, ga_beq] at hw
          obtain ⟨w0, r0, -, hw0⟩ := ga_w1_ok hw.2
          exact arr (at0 := .boolean) (t0 := 0) 4 hw.1 (Or.inr (Or.inr rfl)) rfl rfl (fun _ _ => rfl) (by decide) rfl (gw_mem hw0)
        | long =>
          have hw : (Nat.beq a 102 && ga_w1 ps (fun w => gw_ok w.2 (.arrayClass .long))) = true := hwb
          simp only [Bool.and_eq_true, ga_beq] at hw
          obtain ⟨ha, hw2⟩ := hw
          obtain ⟨w0, r0, -, hw0⟩ := ga_w1_ok hw2
          subst ha
          refine sx_new (cK := 102) (mm := mq / 8) (vs := []) (sz := mq / 8) (sk' := r) S hO okn hnx rfl (fun H locs ls st ad ws hc1 hc2 hP hD hS hi hs => ?_) ho2
          obtain ⟨x, st1, rfl, hx1, hs1⟩ := ga_sr_cons hs
          have ex := ((ga_vr_0 hm.1).mp hx1).2
          subst ex
          refine ⟨.inl (ta 102, mq / 8, .inr (.inl (fun _ => 0))), st1, fun q => Or.inr (Or.inr (Or.inl ⟨rfl, _, rfl, fun j _ => (show ga_vr ρ oa (ad ++ [q]) 5 (.long 0) from (ga_vr_5 (by decide)).mpr ⟨by decide, rfl⟩)⟩)), hs1, fun kk => ?_⟩
          refine va_newa (atype := .long) (ty := .long) (a0 := (mq / 8, .inr (.inl (fun _ => 0)))) hx hb (hts _ (gw_mem hw0)) rfl hK hP hD hS hA (fun _ => rfl) hnn (ga_clamp hm.2) ?_ (Nat.le_trans hc1 hRc) (Nat.le_trans hc2 hRs) hdg (fun q cA H1 hK2 hP1 hD1 hS1 => ?_)
          · show mq / 8 * 8 ≤ _
            omega
          · have ec := ga_ta (k := 2) (t := 102) hK rfl hK2
            subst ec
            exact kk q H1 hP1 hD1 hS1
        | _ => exact absurd (show false = true from hwb) (by simp)
      · cases ho2
  | anewarray idx =>
    obtain rfl : ln = 3 := Nat.eq_of_beq_eq_true hln
    cases sk with
    | nil => exact absurd (show (none : Option (List ga_O)) = some os from ho) (by simp)
    | cons mq r =>
      have ho2 : ga_if (and (Nat.beq (mq % 8) 0) (Nat.blt (mq / 8) 1048576)) (ga_f (mq / 8) (fun m => ga_new 103 m [] m cm sm go nx al r cs ss iv n h)) none = some os := ho
      have hw : ga_w1 ps (fun w => gw_ok w.2 (.classLink own idx "GravyRound$Table")) = true := hwb
      obtain ⟨w0, r0, -, hw0⟩ := ga_w1_ok hw
      simp only [ga_if_eq, ga_f_eq, Bool.and_eq_true, ga_beq, Nat.blt_eq] at ho2
      split at ho2
      · rename_i hm
        have hnn : ¬ nI (mq / 8) < 0 := nI_pos (by omega)
        refine sx_new (cK := 103) (mm := mq / 8) (vs := []) (sz := mq / 8) (sk' := r) S hO okn hnx rfl (fun H locs ls st ad ws hc1 hc2 hP hD hS hi hs => ?_) ho2
        obtain ⟨x, st1, rfl, hx1, hs1⟩ := ga_sr_cons hs
        have ex := ((ga_vr_0 hm.1).mp hx1).2
        subst ex
        refine ⟨.inl (ta 103, mq / 8, .inr (.inr (.inr (.inr (fun _ => none))))), st1, fun q => Or.inr (Or.inr (Or.inr ⟨rfl, _, rfl, fun j _ => (show ga_vr ρ oa (ad ++ [q]) 4 .null from (ga_vr_4 (by decide)).mpr rfl)⟩)), hs1, fun kk => ?_⟩
        refine va_newq hx hb hown (hts _ (gw_mem hw0)) hold.2.2.2.1 hK hP hD hS hA hnn (ga_clamp hm.2) (by omega) (Nat.le_trans hc1 hRc) (Nat.le_trans hc2 hRs) hdg (fun q cA H1 hK2 hP1 hD1 hS1 => ?_)
        have ec := ga_ta (k := 3) (t := 103) hK rfl hK2
        subst ec
        exact kk q H1 hP1 hD1 hS1
      · cases ho2
  | invokestatic idx =>
    obtain rfl : ln = 3 := Nat.eq_of_beq_eq_true hln
    have ho2 : ga_if (Nat.beq a 1001) (ga_acp go nx al sk cs ss iv n h) (ga_inv gm_me call a false cm sm go nx al sk cs ss iv n h) = some os := ho
    have hw : (if a = 1001 then ga_w1 ps (fun w => gw_ok w.2 (.methodLink own idx arraycopyName)) else if a < 998 then ga_w1 ps (fun w => gw_ok w.2 (.methodLink own idx (gm_i a).1)) && Nat.beq (gm_me a).2.2.2.2.2.2.2 999 else true) = true := hwb
    rw [ga_if_eq] at ho2
    split at ho2
    · rename_i h1001
      rw [ga_beq] at h1001
      rw [if_pos h1001] at hw
      obtain ⟨w0, r0, -, hw0⟩ := ga_w1_ok hw
      have hnf : nativeFrameWords "java/lang/System" "arraycopy" 5 ≤ 100 := by decide +kernel
      refine sx_acp hx hb S hcs hO okn hnx rfl (fun H locs ls st ws q0 q1 A B sp dp mm la lb f g hsz hwd hb1 hb2 hb3 hs1 hs2 hP hD hS hA1 hB1 kk => ?_) (fun H locs ls st ws q0 q1 A B sp dp mm la lb f g hsz hwd hb1 hb2 hb3 hs1 hs2 hP hD hS hA1 hB1 kk => ?_) ho2
      · refine va_copyi (ty := .int) hx hb (hml.trans hsz.symm) hown (hts _ (gw_mem hw0)) (hts _ (gw_mem (i := 653) (by decide +kernel))) (hts _ (gw_mem (i := 652) (by decide +kernel))) (hts _ (gw_mem (i := 139) (by decide +kernel))) hK hP hD hS q0 q1 0 0 hA1 hB1 rfl rfl rfl (nI_pos (by omega)) (nI_pos (by omega)) (nI_pos (by omega)) (by rw [ga_clamp hb1, ga_clamp hb3]; exact hs1) (by rw [ga_clamp hb2, ga_clamp hb3]; exact hs2) (fun _ _ => rfl) (by omega) (by omega) hdg ?_
        rw [ga_clamp hb1, ga_clamp hb2, ga_clamp hb3]
        exact kk
      · refine va_copyl (ty := .long) hx hb (hml.trans hsz.symm) hown (hts _ (gw_mem hw0)) (hts _ (gw_mem (i := 653) (by decide +kernel))) (hts _ (gw_mem (i := 652) (by decide +kernel))) (hts _ (gw_mem (i := 139) (by decide +kernel))) hK hP hD hS q0 q1 2 2 hA1 hB1 rfl rfl rfl (nI_pos (by omega)) (nI_pos (by omega)) (nI_pos (by omega)) (by rw [ga_clamp hb1, ga_clamp hb3]; exact hs1) (by rw [ga_clamp hb2, ga_clamp hb3]; exact hs2) (fun _ _ => rfl) (by omega) (by omega) hdg ?_
        rw [ga_clamp hb1, ga_clamp hb2, ga_clamp hb3]
        exact kk
    · rename_i h1001
      have hn1 : ¬ a = 1001 := fun q => h1001 (by rw [q]; rfl)
      rw [if_neg hn1] at hw
      have hw2 : a < 998 → Cond.methodLink own idx (gm_i a).1 ∈ gw_tbl ∧ gm_ci a = 999 := by
        intro hlt
        rw [if_pos hlt] at hw
        simp only [Bool.and_eq_true, ga_beq] at hw
        obtain ⟨w0, r0, -, hw0⟩ := ga_w1_ok hw.1
        exact ⟨gw_mem hw0, hw.2⟩
      exact sx_inv (kind := 3) (idx := idx) (virt := false) hx hb hml hown hts hK hn0 hold hRf hRl hRc hRs HC S hO okn hnx rfl (fun hlt => Or.inr (Or.inr (Or.inr ⟨rfl, hts _ (hw2 hlt).1⟩))) (by simp) (by omega) (by omega) (fun _ => hdg) (fun hlt _ => (hw2 hlt).2) (fun _ q => absurd rfl q) (fun _ q => absurd q (by decide)) (fun _ q => absurd q (by decide)) ho2
  | invokevirtual idx =>
    obtain rfl : ln = 3 := Nat.eq_of_beq_eq_true hln
    have ho2 : ga_if (Nat.ble a 999) (ga_inv gm_me call a true cm sm go nx al sk cs ss iv n h) (ga_if (Nat.beq a 1004) none (ga_txt gm_tx a go nx al sk cs ss iv n h)) = some os := ho
    have hw : (if a < 998 then ga_w1 ps (fun w => gw_ok w.2 (.methodLink own idx (gm_i a).1)) && decide (¬ (gm_i a).1.name = "<init>" ∧ ¬ (gm_me a).2.2.2.2.2.2.2 = 999) else if a = 1002 then ga_w1 ps (fun w => gw_ok w.2 (.methodLink own idx ga_yLen)) else if a = 1003 then ga_w1 ps (fun w => gw_ok w.2 (.methodLink own idx ga_yChr)) else if a = 1004 then ga_w1 ps (fun w => gw_ok w.2 (.methodLink own idx ga_yIdx)) else Nat.beq a 998) = true := hwb
    rw [ga_if_eq] at ho2
    split at ho2
    · rename_i hle
      have hw2 : a < 998 → Cond.methodLink own idx (gm_i a).1 ∈ gw_tbl ∧ ¬ (gm_i a).1.name = "<init>" ∧ ¬ gm_ci a = 999 := by
        intro hlt
        rw [if_pos hlt] at hw
        simp only [Bool.and_eq_true, decide_eq_true_eq] at hw
        obtain ⟨w0, r0, -, hw0⟩ := ga_w1_ok hw.1
        exact ⟨gw_mem hw0, hw.2⟩
      exact sx_inv (kind := 0) (idx := idx) (virt := true) hx hb hml hown hts hK hn0 hold hRf hRl hRc hRs HC S hO okn hnx rfl (fun hlt => Or.inl ⟨rfl, hts _ (hw2 hlt).1⟩) (by simp) (fun _ => hdg) (by omega) (by omega) (fun _ q => absurd q (by decide)) (fun hlt _ => (hw2 hlt).2.2) (fun hlt _ => (hw2 hlt).2.1) (fun _ q => absurd q (by decide)) ho2
    · rename_i hle
      have hgt : ¬ a ≤ 999 := fun q => hle (Nat.ble_eq.mpr q)
      rw [if_neg (by omega)] at hw
      rw [ga_if_eq] at ho2
      have h4 : ¬ a = 1004 := by
        intro q
        rw [if_pos (by rw [q]; rfl)] at ho2
        cases ho2
      rw [if_neg (by rw [ga_beq]; exact h4)] at ho2
      unfold ga_txt at ho2
      rw [ga_if_eq] at ho2
      split at ho2
      · rename_i ha
        rw [ga_beq] at ha
        rw [if_pos ha] at hw
        obtain ⟨w0, r0, -, hw0⟩ := ga_w1_ok hw
        cases sk with
        | nil => cases ho2
        | cons r t =>
          simp only [ga_if_eq, ga_f_eq, Bool.and_eq_true, ga_beq, Nat.ble_eq] at ho2
          split at ho2
          · rename_i hq
            obtain ⟨rfl, hwd⟩ := hq
            obtain ⟨e1, k⟩ := sd_nx S hcs hO okn hnx ho2
            intro H locs ls st hat
            obtain ⟨hi, hS, ad, ws, hw1, hl, hs⟩ := hat
            obtain ⟨x, st0, rfl, hx0, hs0⟩ := ga_sr_cons hs
            have ey := (ga_vr_6 (by decide)).mp hx0
            subst ey
            have kk := k H locs ls (.int (nI 91) :: st0) ⟨hi, hS, ad, ws, hw1, hl, ga_lit 91 (by decide), hs0⟩
            rw [e1] at kk
            exact TX.1 H locs ls st0 cs ss idx pc (gw_mem hw0) hdg hl.1 (by rw [ga_sr_wd hs0]; exact hwd) (Nat.le_trans hcs.1 hRc) (Nat.le_trans hcs.2 hRs) hS kk
          · cases ho2
      · rename_i ha
        have hna : ¬ a = 1002 := fun q => ha (by rw [q]; rfl)
        rw [if_neg hna] at hw
        split at hw
        · obtain ⟨w0, r0, -, hw0⟩ := ga_w1_ok hw
          cases sk with
          | nil => cases ho2
          | cons i0 sk =>
            cases sk with
            | nil => cases ho2
            | cons r t =>
              simp only [ga_if_eq, ga_f_eq, Bool.and_eq_true, ga_beq, Nat.ble_eq, Nat.blt_eq] at ho2
              split at ho2
              · rename_i hq
                obtain ⟨⟨rfl, hi8⟩, hwd, hjl⟩ := hq
                obtain ⟨e1, k⟩ := sd_nx S hcs hO okn hnx ho2
                intro H locs ls st hat
                obtain ⟨hi, hS, ad, ws, hw1, hl, hs⟩ := hat
                obtain ⟨x, st0, rfl, hx0, hs0⟩ := ga_sr_cons hs
                obtain ⟨y, st1, rfl, hy0, hs1⟩ := ga_sr_cons hs0
                have ex := ((ga_vr_0 hi8).mp hx0).2
                have ey := (ga_vr_6 (by decide)).mp hy0
                subst ex; subst ey
                have hjl2 : i0 / 8 < 91 := hjl
                rw [ga_nth_eq] at k
                have hch : gm_tx.getD (i0 / 8) 0 < 4294967296 := by
                  have : ∀ j, j < 91 → gm_tx.getD j 0 < 4294967296 := by decide +kernel
                  exact this _ hjl2
                have kk := k H locs ls (.int (nI (gm_tx.getD (i0 / 8) 0)) :: st1) ⟨hi, hS, ad, ws, hw1, hl, ga_lit _ hch, hs1⟩
                rw [e1] at kk
                exact TX.2 H locs ls st1 cs ss idx pc (i0 / 8) (gw_mem hw0) hdg hl.1 (by rw [ga_sr_wd hs1]; exact hwd) (Nat.le_trans hcs.1 hRc) (Nat.le_trans hcs.2 hRs) hjl2 hS kk
              · cases ho2
        · rw [ga_beq] at hw
          omega
  | invokespecial idx =>
    obtain rfl : ln = 3 := Nat.eq_of_beq_eq_true hln
    have hw : (if a = 1000 then ga_w1 ps (fun w => gw_ok w.2 (.methodLink own idx objectInit)) else if a < 998 then ga_w1 ps (fun w => if w.1 = 0 then gw_ok w.2 (.methodLink own idx (gm_i a).1) else gw_nk w.2 (.methodLinkNest own idx (gm_i a).1 "GravyRound")) && decide ((gm_i a).1.name = "<init>" ∧ ¬ (gm_me a).2.2.2.2.2.2.2 = 999) else true) = true := hwb
    by_cases h1000 : a = 1000
    · rw [if_pos h1000] at hw
      obtain ⟨w0, r0, -, hw0⟩ := ga_w1_ok hw
      have hbt : Nat.beq a 1000 = true := by rw [h1000]; rfl
      cases sk with
      | nil =>
        have ho2 : ga_if (Nat.beq a 1000) none (ga_inv gm_me call a true cm sm go nx al [] cs ss iv n h) = some os := ho
        rw [hbt] at ho2
        cases ho2
      | cons r t =>
        have ho2 : ga_if (Nat.beq a 1000) (ga_if (and (ga_ref r) (Nat.ble (ga_wd t) 8)) (go nx al t cs ss iv n h) none) (ga_inv gm_me call a true cm sm go nx al (r :: t) cs ss iv n h) = some os := ho
        rw [hbt, ga_if_t] at ho2
        simp only [ga_if_eq, Bool.and_eq_true, Nat.ble_eq] at ho2
        split at ho2
        · rename_i hq
          exact sx_stk S hcs hO okn hnx rfl ho2 (fun H locs ls st ad hsz hst => by
            obtain ⟨x, st0, rfl, h1, h2⟩ := ga_sr_cons hst
            have h3 : r % 8 = 3 := by simpa [ga_ref, ga_beq] using hq.1
            obtain ⟨y, -, rfl⟩ := (ga_vr_3 h3).mp h1
            refine ⟨st0, h2, fun w => W.objInit hx hb hown (hts _ (gw_mem hw0)) (hts _ (gw_mem (i := 149) (by decide +kernel))) (hts _ (gw_mem (i := 150) (by decide +kernel))) rfl (by rw [hml]; exact hsz) rfl hdg (by omega) ?_ w⟩
            rw [ga_sr_wd h2]
            show 2 * 0 + _ + 12 ≤ _
            omega)
        · cases ho2
    · have hn1 : ¬ a = 1000 := h1000
      have hbf : Nat.beq a 1000 = false := by
        cases hbb : Nat.beq a 1000 with
        | false => rfl
        | true => exact absurd (Nat.eq_of_beq_eq_true hbb) hn1
      have ho1 : ga_if (Nat.beq a 1000) _ (ga_inv gm_me call a true cm sm go nx al sk cs ss iv n h) = some os := ho
      rw [hbf] at ho1
      have ho2 : ga_inv gm_me call a true cm sm go nx al sk cs ss iv n h = some os := ho1
      rw [if_neg hn1] at hw
      by_cases hlt : a < 998
      · rw [if_pos hlt] at hw
        simp only [Bool.and_eq_true, decide_eq_true_eq] at hw
        obtain ⟨w0, r0, -, hw0⟩ := ga_w1_ok hw.1
        by_cases hk0 : w0.1 = 0
        · rw [if_pos hk0] at hw0
          exact sx_inv (kind := 1) (idx := idx) (virt := true) hx hb hml hown hts hK hn0 hold hRf hRl hRc hRs HC S hO okn hnx rfl (fun _ => Or.inr (Or.inl ⟨rfl, hts _ (gw_mem hw0)⟩)) (by simp) (by omega) (fun _ => hdg) (by omega) (fun _ q => absurd q (by decide)) (fun _ _ => hw.2.2) (fun _ q => absurd q (by decide)) (fun _ _ => hw.2.1) ho2
        · rw [if_neg hk0] at hw0
          exact sx_inv (kind := 2) (idx := idx) (virt := true) hx hb hml hown hts hK hn0 hold hRf hRl hRc hRs HC S hO okn hnx rfl (fun _ => Or.inr (Or.inr (Or.inl ⟨rfl, hold.2.2.1 _ (gw_nmem hw0)⟩))) (by simp) (by omega) (fun _ => hdg) (by omega) (fun _ q => absurd q (by decide)) (fun _ _ => hw.2.2) (fun _ q => absurd q (by decide)) (fun _ _ => hw.2.1) ho2
      · exact sx_inv (kind := 1) (idx := idx) (virt := true) hx hb hml hown hts hK hn0 hold hRf hRl hRc hRs HC S hO okn hnx rfl (fun q => absurd q hlt) (by simp) (by omega) (fun _ => hdg) (by omega) (fun q => absurd q hlt) (fun q => absurd q hlt) (fun q => absurd q hlt) (fun q => absurd q hlt) ho2
  | _ => exact absurd (show (none : Option (List ga_O)) = some os from ho) (by simp)
end GZ
end
section
/-! a run of the machine is a run of the JVM; a call of depth d is right -/
def ga_TXA (l : Launch) (oa : Nat → Nat) (n0 : Nat) : Prop := ∀ (p : Program) (e : Env) (R : Room) (s : State) (m : MethodId) (args : Array Value) (below : List Frame) (meth : Method) (c : Code) (Q : State → Prop) (ρ : Nat → Int32) (L nL : Nat) (own : String) (cc : ByteArray),
  p.tables.exec = Jvm.exec → c.code = cc → c.maxLocals = nL → s.vm.findClass own = some m.cls → (∀ w ∈ gw_tbl, w.before args s = true) → n0 ≤ s.heap.size → ga_old ρ oa n0 L s → 11 ≤ R.frames → 1100 ≤ R.locals → ga_TX p l e R s m args below meth c Q oa n0 nL own cc
theorem Met_ofWF {l : Launch} {y : MethodName} {ws ws' : List Cond} {rm : Room} {Pc : Array Value → State → Prop} {Qc : Array Value → State → Outcome → State → Prop} {mc ms : Nat} {free : Addr → Prop} {cc : ByteArray} {maxL : Nat} {ret : Option FieldType}
    (hy : plainFor y = true) (hw : ws = Cond.code y cc maxL ret :: ws')
    (body : ∀ p e s m args below meth c s₁, BodyLoose p l y (headSpec ws rm) cc maxL ret e s m args below meth c s₁ → c.maxLocals = maxL → Pc args s →
      W p l e (headSpec ws rm).room s m args below meth c s.heap [] 0 0 (MQ below Qc args s mc ms free) (entryFrame m args maxL)) : Met l y ws rm Pc Qc mc ms free := by
  refine MetFree.of_bodySF (code := cc) (maxLocals := maxL) (ret := ret) hy ?_ ?_
  · intro args s m h hn
    obtain ⟨meth, c, h1, h2, h3, h4, h5, h6, -, -⟩ := Cond.code_spec hn (atoms_spec (ws := ws) h _ (by rw [hw]; exact List.mem_cons_self))
    exact ⟨meth, c, h1, h2, h3, h4, h5, h6⟩
  · intro p e s m args below meth c s₁ B hml hP _
    have hh0 : s₁.heap = s.heap := by rw [B.state]; rfl
    obtain ⟨t, a1, o, b1, b2, b3⟩ := body p e s m args below meth c s₁ B hml hP s₁ hh0 (Stand.of_body B)
    exact ⟨t, o, a1, b1, b2, ⟨b3.1, b3.2⟩⟩
section GR
variable {p : Program} {l : Launch} {e : Env} {R : Room} {s : State} {m : MethodId} {args : Array Value} {below : List Frame} {meth : Method} {c : Code} {Q : State → Prop}
variable {ρ : Nat → Int32} {oa : Nat → Nat} {ta : Nat → ClassId} {D : va_G} {n0 nL L d : Nat} {own : String} {cc : ByteArray} {ini : Bool} {cm sm : Nat} {code : List ga_E}
theorem ga_run_ok {call : Nat → List Nat → ga_I → Nat → ga_H → Option (List ga_A)} (stop : Nat) (hx : p.tables.exec = Jvm.exec) (hb : c.code = cc) (hml : c.maxLocals = nL) (hown : s.vm.findClass own = some m.cls) (hts : ∀ w ∈ gw_tbl, w.before args s = true) (hK : va_K D gm_cl (ga_tys ta) s) (hn0 : n0 ≤ s.heap.size) (hold : ga_old ρ oa n0 L s) (hinit : ini = true → meth.name = "<init>") (hρ6 : ρ 6 = ρ 0 &&& 63) (hρ7 : ρ 7 = 0 - ρ 1) (hL : L ≤ 6)
    (hRf : d + 11 ≤ R.frames) (hRl : 100 * (d + 11) ≤ R.locals) (hRc : cm ≤ R.cells) (hRs : sm ≤ R.slots) (HC : ga_CS l ρ oa ta D n0 L d call) (HT : ga_TXA l oa n0)
    (okc : ga_okc own cc ini nL code) : ∀ fuel : Nat, ga_Sd p l e R s m args below meth c Q ρ oa ta D n0 nL own cc ini cm sm (ga_run gm_me gm_df L gm_tx call cm sm stop code fuel) := by
  have TX : ga_TX p l e R s m args below meth c Q oa n0 nL own cc := HT p e R s m args below meth c Q ρ L nL own cc hx hb hml hown hts hn0 hold (by omega) (by omega)
  intro fuel
  induction fuel with
  | zero => exact ⟨fun al sk cs ss iv n h os hq => (by cases hq), fun cds al sk cs ss iv n h os _ _ hq => (by cases hq)⟩
  | succ f ih =>
    refine ⟨fun al sk cs ss iv n h os hq => (by cases hq), fun cds al sk cs ss iv n h os okd hcs hq hO => ?_⟩
    cases cds with
    | nil => cases hq
    | cons ev nx =>
      have hq2 : ga_if (Nat.beq ev.1 stop) (some [(ev :: nx, al, sk, cs, ss, iv, n, h)]) (ga_step gm_me gm_df L gm_tx call cm sm code (ga_run gm_me gm_df L gm_tx call cm sm stop code f) ev nx al sk cs ss iv n h) = some os := hq
      rw [ga_if_eq] at hq2
      split at hq2
      · have := Option.some.inj hq2
        exact hO (ev :: nx, al, sk, cs, ss, iv, n, h) (by rw [← this]; exact List.mem_singleton.mpr rfl) okd
      · exact ga_step_ok hx hb hml hown hts hK hn0 hold hinit hρ6 hρ7 hL hRf hRl hRc hRs HC TX okc okd ih hcs hO hq2
end GR
theorem ga_pad_eq {β : Type} : ∀ (m : Nat) (K : List Nat → β), ga_pad m K = K (List.replicate m 7)
  | 0, _ => rfl
  | m + 1, K => ga_pad_eq m (fun r => K (7 :: r))
/-- arguments laid into locals -/
def ga_ly : List Nat → List Nat → List Nat
  | [], r => r
  | v :: as, r => if v % 8 = 5 then v :: 7 :: ga_ly as r else v :: ga_ly as r
theorem ga_ly_cons (v : Nat) (as r : List Nat) : ga_ly (v :: as) r = if v % 8 = 5 then v :: 7 :: ga_ly as r else v :: ga_ly as r := rfl
theorem ga_lay_eq {β : Type} : ∀ (as r : List Nat) (K : List Nat → β), ga_lay as r K = K (ga_ly as r)
  | [], _, _ => rfl
  | v :: as, r, K => by
    have e : ga_lay (v :: as) r K = ga_lay as r (fun t => ga_if (Nat.beq (v % 8) 5) (K (v :: 7 :: t)) (K (v :: t))) := rfl
    rw [e, ga_lay_eq as r]
    simp only [ga_if_eq, ga_beq]
    rw [ga_ly_cons]
    split <;> rfl
theorem ga_ly_len {ρ : Nat → Int32} {oa : Nat → Nat} {ad : List Nat} {r : List Nat} : ∀ {as : List Nat} {vs : List Value}, ga_sr ρ oa ad as vs → (ga_ly as r).length = (lg_sl vs).length + r.length
  | [], [], _ => by simp [ga_ly, lg_sl]
  | v :: as, x :: vs, h => by
    have h1 := ga_vr_cat h.1
    have h2 := ga_ly_len (r := r) h.2
    have e : lg_sl (x :: vs) = (if x.category = 2 then [.val x, .second] else [.val x]) ++ lg_sl vs := rfl
    rw [ga_ly_cons, e, h1]
    by_cases h5 : v % 8 = 5
    · rw [if_pos h5, if_pos h5, if_pos rfl]
      simp only [List.length_cons, List.length_append, List.length_nil, h2]
      omega
    · rw [if_neg h5, if_neg h5, if_neg (by decide)]
      simp only [List.length_cons, List.length_append, List.length_nil, h2]
      omega
  | [], _ :: _, h => h.elim
  | _ :: _, [], h => h.elim
theorem ga_ly_at {ρ : Nat → Int32} {oa : Nat → Nat} {ad : List Nat} {m : Nat} : ∀ {as : List Nat} {vs : List Value} (k0 : Nat), ga_sr ρ oa ad as vs → ∀ (i v : Nat), (ga_ly as (List.replicate m 7))[i]? = some v → ¬ v % 8 = 7 → ∃ x, ga_vr ρ oa ad v x ∧ (k0 + i, x) ∈ lv_args k0 vs
  | [], [], k0, _, i, v, hi, h7 => by
    have h1 : (List.replicate m 7)[i]? = some v := hi
    rw [List.getElem?_replicate] at h1
    split at h1
    · cases h1; exact absurd rfl h7
    · cases h1
  | w :: as, x :: vs, k0, h, i, v, hi, h7 => by
    have h1 := ga_vr_cat h.1
    rw [ga_ly_cons] at hi
    have e : lv_args k0 (x :: vs) = (k0, x) :: lv_args (if x.category = 2 then k0 + 2 else k0 + 1) vs := rfl
    rw [e, h1]
    by_cases h5 : w % 8 = 5
    · rw [if_pos h5] at hi
      rw [if_pos h5, if_pos rfl]
      match i, hi with
      | 0, hi => cases hi; exact ⟨x, h.1, List.mem_cons_self⟩
      | 1, hi => cases hi; exact absurd rfl h7
      | i + 2, hi =>
        obtain ⟨y, g1, g2⟩ := ga_ly_at (k0 + 2) h.2 i v hi h7
        exact ⟨y, g1, List.mem_cons_of_mem _ (by rw [show k0 + (i + 2) = k0 + 2 + i by omega]; exact g2)⟩
    · rw [if_neg h5] at hi
      rw [if_neg h5, if_neg (by decide)]
      match i, hi with
      | 0, hi => cases hi; exact ⟨x, h.1, List.mem_cons_self⟩
      | i + 1, hi =>
        obtain ⟨y, g1, g2⟩ := ga_ly_at (k0 + 1) h.2 i v hi h7
        exact ⟨y, g1, List.mem_cons_of_mem _ (by rw [show k0 + (i + 1) = k0 + 1 + i by omega]; exact g2)⟩
  | [], _ :: _, _, h, _, _, _, _ => h.elim
  | _ :: _, [], _, h, _, _, _, _ => h.elim
theorem ga_anss_mem {rc mc ms : Nat} : ∀ {os0 : List ga_O} {os : List ga_A}, ga_anss rc mc ms os0 = some os → ∀ o ∈ os0, ¬ ga_ans rc o % 8 = 7 ∧ o.2.2.2.1 ≤ mc ∧ o.2.2.2.2.1 ≤ ms ∧ (ga_ans rc o, o.2.2.2.2.2) ∈ os
  | [], os, h, o, ho => by cases ho
  | x :: r, os, h, o, ho => by
    have h1 : ga_f (ga_ans rc x) (fun v => ga_if (or (Nat.beq (v % 8) 7) (not (and (Nat.ble x.2.2.2.1 mc) (Nat.ble x.2.2.2.2.1 ms)))) none (match ga_anss rc mc ms r with | none => none | some t => some ((v, x.2.2.2.2.2) :: t))) = some os := h
    rw [ga_f_eq, ga_if_eq] at h1
    split at h1
    · cases h1
    · rename_i hc
      simp only [Bool.or_eq_true, ga_beq, Bool.not_eq_true', Bool.and_eq_false_iff, not_or] at hc
      obtain ⟨c1, c2, c3⟩ := hc
      have d2 : x.2.2.2.1 ≤ mc := Nat.le_of_ble_eq_true (by simpa using c2)
      have d3 : x.2.2.2.2.1 ≤ ms := Nat.le_of_ble_eq_true (by simpa using c3)
      cases hr : ga_anss rc mc ms r with
      | none => rw [hr] at h1; cases h1
      | some t =>
        rw [hr] at h1
        have e := Option.some.inj h1
        rcases List.mem_cons.mp ho with rfl | ho
        · exact ⟨c1, d2, d3, by rw [← e]; exact List.mem_cons_self⟩
        · obtain ⟨q1, q2, q3, q4⟩ := ga_anss_mem hr o ho
          exact ⟨q1, q2, q3, by rw [← e]; exact List.mem_cons_of_mem _ q4⟩
/-- the addresses at a method's start, written into ta -/
def ga_tn (ta : Nat → ClassId) (ad : List Nat) : Nat → ClassId := fun k => if k = 1000 then ad.length else if 1000 < k then ad.getD (k - 1001) 0 else ta k
theorem ga_tn_lo {ta : Nat → ClassId} {ad : List Nat} {k : Nat} (h : k < 1000) : ga_tn ta ad k = ta k := by
  unfold ga_tn
  rw [if_neg (by omega), if_neg (by omega)]
theorem ga_tn_tys {ta : Nat → ClassId} {ad : List Nat} : ga_tys (ga_tn ta ad) = ga_tys ta := by
  unfold ga_tys
  rw [ga_tn_lo (by omega), ga_tn_lo (by omega), ga_tn_lo (by omega), ga_tn_lo (by omega), ga_tn_lo (by omega)]
theorem ga_cr_ta {ρ : Nat → Int32} {oa : Nat → Nat} {ta tb : Nat → ClassId} {ad : List Nat} {c : ga_C} {ev : va_E} (ht : ∀ k, k < 1000 → ta k = tb k) (h : ga_cr ρ oa ta ad c ev) : ga_cr ρ oa tb ad c ev := by
  rcases h with h | ⟨hk, f, h1, h2⟩ | ⟨hk, f, h1, h2⟩ | ⟨hk, f, h1, h2⟩
  · exact Or.inl h
  · exact Or.inr (Or.inl ⟨hk, f, by rw [← ht _ (by omega)]; exact h1, h2⟩)
  · exact Or.inr (Or.inr (Or.inl ⟨hk, f, by rw [← ht _ (by omega)]; exact h1, h2⟩))
  · exact Or.inr (Or.inr (Or.inr ⟨hk, f, by rw [← ht _ (by omega)]; exact h1, h2⟩))
theorem ga_Ws_tn {ρ : Nat → Int32} {oa : Nat → Nat} {ta : Nat → ClassId} {D : va_G} {n0 n : Nat} {h : ga_H} {ad : List Nat} {ws : va_W} {H : Heap} (hw : ga_Ws ρ oa ta D n0 n h ad ws H) : ga_Ws ρ oa (ga_tn ta ad) D n0 n h ad ws H := by
  obtain ⟨h1, h2, ⟨h3, h4⟩, h5, h6⟩ := hw
  refine ⟨h1, h2, ⟨h3, fun k hk => ?_⟩, h5, fun k hk => ?_⟩
  · have hk2 : k < ad.length := hk
    have e : ga_tn ta ad (1001 + k) = ad.getD k 0 := by
      unfold ga_tn
      rw [if_neg (by omega), if_pos (by omega), show 1001 + k - 1001 = k by omega]
    rw [e, List.getD_eq_getElem?_getD, List.getElem?_eq_getElem hk2]
    rfl
  · obtain ⟨a, ev, g1, g2⟩ := h6 k hk
    exact ⟨a, ev, g1, ga_cr_ta (fun k hk => (ga_tn_lo hk).symm) g2⟩
theorem ga_Ws_bk {ρ : Nat → Int32} {oa : Nat → Nat} {ta : Nat → ClassId} {D : va_G} {n0 n : Nat} {h : ga_H} {ad ad' : List Nat} {ws : va_W} {H : Heap} (hx : ga_xt ta ad) (hw : ga_Ws ρ oa (ga_tn ta ad) D n0 n h ad' ws H) : ga_ex ad ad' ∧ ga_Ws ρ oa ta D n0 n h ad' ws H := by
  obtain ⟨h1, h2, ⟨h3, h4⟩, h5, h6⟩ := hw
  have hex : ga_ex ad ad' := by
    intro k a hk
    have hl : k < ad.length := by
      rcases Nat.lt_or_ge k ad.length with z | z
      · exact z
      · rw [List.getElem?_eq_none z] at hk; cases hk
    have := h4 k hl
    have e : ga_tn ta ad (1001 + k) = ad.getD k 0 := by
      unfold ga_tn
      rw [if_neg (by omega), if_pos (by omega), show 1001 + k - 1001 = k by omega]
    rw [this, e, List.getD_eq_getElem?_getD, hk]
    rfl
  refine ⟨hex, h1, h2, ⟨h3, fun k hk => hex _ _ (hx k hk)⟩, h5, fun k hk => ?_⟩
  obtain ⟨a, ev, g1, g2⟩ := h6 k hk
  exact ⟨a, ev, g1, ga_cr_ta (fun k hk => ga_tn_lo hk) g2⟩
set_option maxHeartbeats 2000000 in
theorem ga_call_ok {l : Launch} {ρ : Nat → Int32} {oa : Nat → Nat} {D : va_G} {n0 L : Nat} (fuel : Nat) (hρ6 : ρ 6 = ρ 0 &&& 63) (hρ7 : ρ 7 = 0 - ρ 1) (hL : L ≤ 6) (HT : ga_TXA l oa n0) : ∀ (d : Nat) (ta : Nat → ClassId), ga_CS l ρ oa ta D n0 L d (ga_call gm_me gm_df L gm_tx fuel d) := by
  intro d
  induction d with
  | zero => intro ta k as iv n h os hq; cases hq
  | succ d ih =>
    intro ta k as iv n h os hq
    rcases hme : gm_me k with ⟨code, pad, nl, na, mc, ms, rc, ci⟩
    have hq2 : (match gm_me k with
      | (code, pad, nl, na, mc, ms, rc, _) => ga_pad pad (fun p => ga_lay as p (fun al => ga_if (and (Nat.blt k 313) (and (Nat.beq (List.length al) nl) (Nat.beq (List.length as) na)))
        (match ga_run gm_me gm_df L gm_tx (ga_call gm_me gm_df L gm_tx fuel d) mc ms 100000 code fuel code al [] 0 0 iv n h with
        | none => none
        | some os => ga_anss rc mc ms os) none))) = some os := hq
    rw [hme] at hq2
    simp only [ga_pad_eq, ga_lay_eq, ga_if_eq, Bool.and_eq_true, ga_beq, Nat.blt_eq] at hq2
    split at hq2
    · rename_i hc
      obtain ⟨hk184, hal, has⟩ := hc
      have hok := gk_all k hk184
      obtain ⟨f1, f2, f3, f4, f5, f6, f7, f8, f9⟩ := gm_facts hok
      have emc : gm_mc k = mc := by unfold gm_mc; rw [hme]
      have ems : gm_ms k = ms := by unfold gm_ms; rw [hme]
      have erc : gm_rc k = rc := by unfold gm_rc; rw [hme]
      have ena : gm_na k = na := by unfold gm_na; rw [hme]
      have hpc0 : ga_pc code = 0 := by have := gk_pc hk184; rw [hme] at this; exact this
      rw [hme] at f4 f9
      have f4' : nl = (gm_i k).2.2.1 := f4
      have f9' : ga_okc (gm_i k).1.cls (gm_i k).2.1 (decide ((gm_i k).1.name = "<init>")) (gm_i k).2.2.1 code := f9
      rw [erc] at f8
      refine ⟨hk184, by rw [ena]; exact has, fun ad => ?_⟩
      cases hrun : ga_run gm_me gm_df L gm_tx (ga_call gm_me gm_df L gm_tx fuel d) mc ms 100000 code fuel code (ga_ly as (List.replicate pad 7)) [] 0 0 iv n h with
      | none => rw [hrun] at hq2; cases hq2
      | some os0 =>
        rw [hrun] at hq2
        have hans := ga_anss_mem (show ga_anss rc mc ms os0 = some os from hq2)
        refine Met_ofWF (cc := (gm_i k).2.1) (maxL := (gm_i k).2.2.1) (ret := (gm_i k).2.2.2) f2 rfl ?_
        intro p e s m args below meth c s₁ B hml hv
        obtain ⟨⟨vs, rfl, hvs⟩, hin, ⟨ws, hw⟩, hK, hn0, hold⟩ := hv
        have hx := B.exec
        have hb := B.bytes
        have hr := B.returns
        have hts0 := atoms_spec (ws := gw_m k) B.pre
        have hts : ∀ w ∈ gw_tbl, w.before vs.toArray s = true := fun w hw => hts0 w (List.mem_cons_of_mem _ hw)
        have hown : s.vm.findClass (gm_i k).1.cls = some m.cls := findClass_of_methodNamed B.named
        have hlocks := B.notSynchronized
        have hin2 : meth.name = (gm_i k).1.name := (name_of_methodNamed B.named B.method).1
        have hlen := ga_ly_len (r := List.replicate pad 7) hvs
        rw [hal, List.length_replicate, f4'] at hlen
        have hle : (lg_sl vs).length ≤ (gm_i k).2.2.1 := by omega
        have hl := lv_entry vs (n := (gm_i k).2.2.1) hle
        rw [lg_entry_eq]
        generalize (lg_sl vs ++ List.replicate ((gm_i k).2.2.1 - (lg_sl vs).length) Slot.unset).toArray = ls at hl ⊢
        have hlr : ga_lr ρ oa ad (gm_i k).2.2.1 (ga_ly as (List.replicate pad 7)) ls := ⟨hl.1, hl.2.1, by rw [hal, f4'], fun i v hi h7 => by
          obtain ⟨x, g1, g2⟩ := ga_ly_at 0 hvs i v hi h7
          rw [Nat.zero_add] at g2
          exact ⟨x, g1, hl.2.2 _ g2⟩⟩
        have hS0 : va_S (fun q => n0 ≤ q) s.heap s.heap [] := va_S.rf
        have hK1 : va_K D gm_cl (ga_tys (ga_tn ta ad)) s := by rw [ga_tn_tys]; exact hK
        have hrk := ga_run_ok (p := p) (l := l) (e := e) (R := ga_rm (d + 1) k) (s := s) (m := m) (args := vs.toArray) (below := below) (meth := meth) (c := c) (Q := MQ below (ga_Qc ρ oa ta D n0 (gm_rc k) ad os) vs.toArray s (gm_mc k) (gm_ms k) (fun q => n0 ≤ q)) (ρ := ρ) (oa := oa) (ta := ga_tn ta ad) (D := D) (n0 := n0) (L := L) (d := d) (ini := decide ((gm_i k).1.name = "<init>")) (cm := mc) (sm := ms) 100000 hx hb hml hown hts hK1 hn0 hold (fun q => by rw [hin2]; exact of_decide_eq_true q) hρ6 hρ7 hL (by show d + 11 ≤ d + 1 + 10; omega) (by show 100 * (d + 11) ≤ 100 * (d + 1 + 10); omega) (by show mc ≤ gm_mc k; rw [emc]; exact Nat.le_refl _) (by show ms ≤ gm_ms k; rw [ems]; exact Nat.le_refl _) (ih (ga_tn ta ad)) HT f9' fuel
        have key := hrk.2 code (ga_ly as (List.replicate pad 7)) [] 0 0 iv n h os0 f9' ⟨Nat.zero_le _, Nat.zero_le _⟩ hrun (fun o ho hok2 => ?_)
        · have kk := key s.heap [] ls [] ⟨hin, hS0, ad, ws, ga_Ws_tn hw, hlr, trivial⟩
          rw [hpc0] at kk
          exact kk
        · obtain ⟨h7, hcs, hss, hmem⟩ := hans o ho
          obtain ⟨cds, al', sk', cs', ss', iv', n', h'⟩ := o
          cases cds with
          | nil => exact absurd rfl h7
          | cons ev nx =>
            obtain ⟨pc, ln, i, a, b, ps⟩ := ev
            have oe := hok2.1
            unfold ga_oe at oe
            simp only [Bool.and_eq_true, decide_eq_true_eq] at oe
            obtain ⟨⟨hdg, hln⟩, -⟩ := oe
            intro H locs ls' st hat
            obtain ⟨hi, hS, ad', ws', hw', hl', hs'⟩ := hat
            obtain ⟨hex, hw2⟩ := ga_Ws_bk hw.2.2.1.2 hw'
            refine W.widen (k := gm_mc k) (n := gm_ms k) (by rw [emc]; exact hcs) (by rw [ems]; exact hss) ?_
            show W p l e _ s m vs.toArray below meth c H locs (gm_mc k) (gm_ms k) _ (F0 m pc ls' st)
            rw [erc]
            have fin : ∀ (oc : Outcome) (t : State), t.heap = H → ((rc = 0 ∧ oc = .returned none) ∨ (¬ rc = 0 ∧ ∃ x, oc = .returned (some x) ∧ ga_vr ρ oa ad' (ga_ans rc ((pc, ln, i, a, b, ps) :: nx, al', sk', cs', ss', iv', n', h')) x)) → ga_Qc ρ oa ta D n0 rc ad os vs.toArray s oc t := by
              intro oc t ht hoc
              exact ⟨⟨_, hmem, hi, ad', ws', hex, by rw [ht]; exact hw2, hoc⟩, hS.F ht⟩
            cases i with
            | return_ =>
              obtain rfl : ln = 1 := Nat.eq_of_beq_eq_true hln
              have h7' : ¬ (match sk' with | [] => ga_if (Nat.beq rc 0) 0 7 | _ => 7) % 8 = 7 := h7
              cases sk' with
              | cons v r => exact absurd rfl h7'
              | nil =>
                simp only [ga_if_eq, ga_beq] at h7'
                split at h7'
                · rename_i hrc
                  subst hrc
                  obtain rfl := ga_sr_nil hs'
                  have hrn : (gm_i k).2.2.2 = none := by
                    split at f8
                    · rename_i q; exact q
                    all_goals first | (exact absurd f8 (by decide)) | cases f8
                  exact W.vret hx hb (hr.trans hrn) (fun t ht hW => fin _ t ht (Or.inl ⟨rfl, rfl⟩)) hS.2.2 hdg hlocks
                · exact absurd rfl h7'
            | ireturn =>
              obtain rfl : ln = 1 := Nat.eq_of_beq_eq_true hln
              cases sk' with
              | nil => exact absurd rfl h7
              | cons v r =>
                cases r with
                | cons w r => exact absurd rfl h7
                | nil =>
                  have e7 : ga_ans rc ((pc, 1, .ireturn, a, b, ps) :: nx, al', [v], cs', ss', iv', n', h') = ga_if (Nat.beq rc 1) (ga_if (ga_int v) v 7) (ga_if (Nat.beq rc 2) (ga_if (or (Nat.beq v 0) (Nat.beq v 8)) v 7) 7) := rfl
                  rw [e7] at h7 fin
                  simp only [ga_if_eq, ga_beq, Bool.or_eq_true] at h7 fin
                  obtain ⟨x, st1, rfl, hx1, hs1⟩ := ga_sr_cons hs'
                  obtain rfl := ga_sr_nil hs1
                  split at h7
                  · rename_i hrc
                    subst hrc
                    split at h7
                    · rename_i hv1
                      obtain ⟨y, rfl⟩ := ga_vr_int hv1 hx1
                      have hrn : (gm_i k).2.2.2 = some .int := by
                        split at f8
                        all_goals first | assumption | (exact absurd f8 (by decide)) | cases f8
                      refine W.iret hx hb (hr.trans hrn) (fun t ht hW => fin _ t ht (Or.inr ⟨by decide, _, rfl, ?_⟩)) hS.2.2 hdg hlocks
                      rw [if_pos rfl, if_pos hv1]
                      exact hx1
                    · exact absurd rfl h7
                  · rename_i hrc1
                    split at h7
                    · rename_i hrc
                      subst hrc
                      split at h7
                      · rename_i hv1
                        have hxx : ∃ y : Int32, x = .int y ∧ narrow .boolean (.int y) = .int y := by
                          rcases hv1 with rfl | rfl
                          · exact ⟨_, ((ga_vr_0 (by decide)).mp hx1).2, by decide +kernel⟩
                          · exact ⟨_, ((ga_vr_0 (by decide)).mp hx1).2, by decide +kernel⟩
                        obtain ⟨y, rfl, hy⟩ := hxx
                        have hrn : (gm_i k).2.2.2 = some .boolean := by
                          split at f8
                          all_goals first | assumption | (exact absurd f8 (by decide)) | cases f8
                        refine W.zret hx hb (hr.trans hrn) hy (fun t ht hW => fin _ t ht (Or.inr ⟨by decide, _, rfl, ?_⟩)) hS.2.2 hdg hlocks
                        rw [if_neg (by decide), if_pos rfl, if_pos hv1]
                        exact hx1
                      · exact absurd rfl h7
                    · exact absurd rfl h7
            | lreturn =>
              obtain rfl : ln = 1 := Nat.eq_of_beq_eq_true hln
              cases sk' with
              | nil => exact absurd rfl h7
              | cons v r =>
                cases r with
                | cons w r => exact absurd rfl h7
                | nil =>
                  have e7 : ga_ans rc ((pc, 1, .lreturn, a, b, ps) :: nx, al', [v], cs', ss', iv', n', h') = ga_if (and (Nat.beq rc 4) (ga_lng v)) v 7 := rfl
                  rw [e7] at h7 fin
                  simp only [ga_if_eq, ga_beq, Bool.and_eq_true] at h7 fin
                  obtain ⟨x, st1, rfl, hx1, hs1⟩ := ga_sr_cons hs'
                  obtain rfl := ga_sr_nil hs1
                  split at h7
                  · rename_i hrc
                    obtain ⟨rfl, hv1⟩ := hrc
                    obtain ⟨y, rfl⟩ := ga_vr_lng hv1 hx1
                    have hrn : (gm_i k).2.2.2 = some .long := by
                      split at f8
                      all_goals first | assumption | (exact absurd f8 (by decide)) | cases f8
                    refine W.lret hx hb (hr.trans hrn) (fun t ht hW => fin _ t ht (Or.inr ⟨by decide, _, rfl, ?_⟩)) hS.2.2 hdg hlocks
                    rw [if_pos ⟨rfl, hv1⟩]
                    exact hx1
                  · exact absurd rfl h7
            | areturn =>
              obtain rfl : ln = 1 := Nat.eq_of_beq_eq_true hln
              cases sk' with
              | nil => exact absurd rfl h7
              | cons v r =>
                cases r with
                | cons w r => exact absurd rfl h7
                | nil =>
                  have e7 : ga_ans rc ((pc, 1, .areturn, a, b, ps) :: nx, al', [v], cs', ss', iv', n', h') = ga_if (and (Nat.beq rc 5) (ga_ref v)) v 7 := rfl
                  rw [e7] at h7 fin
                  simp only [ga_if_eq, ga_beq, Bool.and_eq_true] at h7 fin
                  obtain ⟨x, st1, rfl, hx1, hs1⟩ := ga_sr_cons hs'
                  obtain rfl := ga_sr_nil hs1
                  split at h7
                  · rename_i hrc
                    obtain ⟨rfl, hv1⟩ := hrc
                    have h3 : v % 8 = 3 := by simpa [ga_ref, ga_beq] using hv1
                    obtain ⟨y, -, rfl⟩ := (ga_vr_3 h3).mp hx1
                    have hrn : ∃ nm, (gm_i k).2.2.2 = some (.object nm) := by
                      split at f8
                      all_goals first | (exact ⟨_, by assumption⟩) | (exact absurd f8 (by decide)) | cases f8
                    obtain ⟨nm, hrn⟩ := hrn
                    refine W.aret hx hb (hr.trans hrn) (Or.inl ⟨nm, rfl⟩) (Or.inr ⟨y, rfl⟩) (fun t ht hW => fin _ t ht (Or.inr ⟨by decide, _, rfl, ?_⟩)) hS.2.2 hdg hlocks
                    rw [if_pos ⟨rfl, hv1⟩]
                    exact hx1
                  · exact absurd rfl h7
            | _ => exact absurd rfl h7
    · cases hq2
end
section
/-! the one text: String.length() and String.charAt(int) on it -/
def tx_F (oa : Nat → Nat) (n0 : Nat) (U : State) : Prop := vk_S 1 [91] [ga_by] (fun _ => oa 1) (fun _ => oa 2) (fun q => n0 ≤ q) U U.heap ∧ va_Z "java/lang/String" "COMPACT_STRINGS" "Z" (.int 1) (fun q => n0 ≤ q) U U.heap ∧ va_Zq "jdk/internal/util/Preconditions" "SIOOBE_FORMATTER" "Ljava/util/function/BiFunction;" (fun q => n0 ≤ q) U U.heap
def tx_P (oa : Nat → Nat) (n0 : Nat) (vs : List Value) : Array Value → State → Prop := fun v U => v = vs.toArray ∧ tx_F oa n0 U
def tx_Qi (r : Int32) : Array Value → State → Outcome → State → Prop := fun _ st oc t => oc = .returned (some (.int r)) ∧ t.heap = st.heap
def tx_Qv : Array Value → State → Outcome → State → Prop := fun _ st oc t => oc = .returned none ∧ t.heap = st.heap
def tx_rm (f : Nat) : Room := { frames := f, cells := 0, slots := 0, locals := 100 * f }
theorem tx_F.tr {oa : Nat → Nat} {n0 : Nat} {s U : State} {H : Heap} {locs : List Loc} (ho : tx_F oa n0 s) (hS : va_S (fun q => n0 ≤ q) s.heap H locs) (hU : U.heap = H) (hW : s.WarmedH U.vm) : tx_F oa n0 U := by
  obtain ⟨h1, h2, h3⟩ := ho
  refine ⟨?_, ?_, ?_⟩
  · rw [hU]; exact vk_S.moved hW.alike (h1.kept hS.2.1)
  · rw [hU]; exact va_Z.moved hW.alike (h2.kept hS.2.1)
  · rw [hU]; exact va_Zq.moved hW.alike (h3.kept hS.2.1)
theorem tx_blind {oa : Nat → Nat} {n0 : Nat} {vs : List Value} : FrameBlind (tx_P oa n0 vs) := by
  intro a U g mk hp
  obtain ⟨h0, h1, h2, h3⟩ := hp
  exact ⟨h0, vk_S.moved (u := U) (U := U.calling g mk a) (Vm.Alike.refl U.vm) h1, va_Z.moved (u := U) (U := U.calling g mk a) (Vm.Alike.refl U.vm) h2, va_Zq.moved (u := U) (U := U.calling g mk a) (Vm.Alike.refl U.vm) h3⟩
section TXS
variable {p : Program} {l : Launch} {e : Env} {R : Room} {s : State} {m : MethodId} {args : Array Value} {below : List Frame} {meth : Method} {c : Code} {Q : State → Prop} {H : Heap} {locs : List Loc} {cells slots : Nat} {pc : Nat} {ls : Array Slot} {st0 rest : List Value}
theorem tx_ci {r : Int32} {a : Array Value} (hr : va_Run p l e R s m args below meth c H locs cells slots 0 0 (F0 m pc ls st0) rest (tx_Qi r a) (fun _ => False)) (k : W p l e R s m args below meth c H locs cells slots Q (F0 m (pc + 3) ls (.int r :: rest))) : W p l e R s m args below meth c H locs cells slots Q (F0 m pc ls st0) := by
  intro T hT X
  obtain ⟨v, st₀, t, T', L, h0, X', hL, e1, e2, ⟨hv, hh⟩, st⟩ := hr T hT X
  cases hv
  have hL0 : L = [] := by
    cases L with
    | nil => rfl
    | cons q r => exact (hL q List.mem_cons_self).elim
  subst hL0
  rw [List.append_nil] at X'
  obtain ⟨t2, a1, b1⟩ := k T' (by rw [e1, hh, h0]) X'
  exact ⟨t2, st t2 a1, b1⟩
theorem tx_cv {a : Array Value} (hr : va_Run p l e R s m args below meth c H locs cells slots 0 0 (F0 m pc ls st0) rest (tx_Qv a) (fun _ => False)) (k : W p l e R s m args below meth c H locs cells slots Q (F0 m (pc + 3) ls rest)) : W p l e R s m args below meth c H locs cells slots Q (F0 m pc ls st0) := by
  intro T hT X
  obtain ⟨v, st₀, t, T', L, h0, X', hL, e1, e2, ⟨hv, hh⟩, st⟩ := hr T hT X
  cases hv
  have hL0 : L = [] := by
    cases L with
    | nil => rfl
    | cons q r => exact (hL q List.mem_cons_self).elim
  subst hL0
  rw [List.append_nil] at X'
  obtain ⟨t2, a1, b1⟩ := k T' (by rw [e1, hh, h0]) X'
  exact ⟨t2, st t2 a1, b1⟩
end TXS
def y_cdr : MethodName := ⟨"java/lang/String", "coder", "()B"⟩
def y_lat : MethodName := ⟨"java/lang/String", "isLatin1", "()Z"⟩
def y_pre : MethodName := ⟨"jdk/internal/util/Preconditions", "checkIndex", "(IILjava/util/function/BiFunction;)I"⟩
def y_chk : MethodName := ⟨"java/lang/String", "checkIndex", "(II)V"⟩
def y_l1c : MethodName := ⟨"java/lang/StringLatin1", "charAt", "([BI)C"⟩
def tw_cdr : List Cond := Cond.code y_cdr prog_18_method_152_code 1 (some .byte) :: gw_tbl
def tw_len : List Cond := Cond.code ga_yLen prog_18_method_54_code 1 (some .int) :: gw_tbl
def tw_lat : List Cond := Cond.code y_lat prog_18_method_154_code 1 (some .boolean) :: gw_tbl
def tw_pre : List Cond := Cond.code y_pre prog_22_method_11_code 3 (some .int) :: gw_tbl
def tw_chk : List Cond := Cond.code y_chk prog_18_method_155_code 2 none :: gw_tbl
def tw_l1c : List Cond := Cond.code y_l1c prog_19_method_2_code 2 (some .char) :: gw_tbl
def tw_chr : List Cond := Cond.code ga_yChr prog_18_method_56_code 2 (some .char) :: gw_tbl
theorem tw_good {y : MethodName} {b : ByteArray} {n : Nat} {r : Option FieldType} (i : Nat) (h : gw_ok i (.code y b n r) = true) : GoodIn gw_tbl (Cond.code y b n r :: gw_tbl) := by
  intro w hw
  rcases List.mem_cons.mp hw with rfl | hw
  · exact gw_good _ (gw_mem h)
  · exact gw_good w hw
theorem ti_str : Cond.initialized "java/lang/String" ∈ gw_tbl := gw_mem (i := 127) (by decide +kernel)
theorem ti_l1 : Cond.initialized "java/lang/StringLatin1" ∈ gw_tbl := gw_mem (i := 128) (by decide +kernel)
theorem ti_pre : Cond.initialized "jdk/internal/util/Preconditions" ∈ gw_tbl := gw_mem (i := 129) (by decide +kernel)
theorem tf_cs : Cond.fieldLink "java/lang/String" 38 "java/lang/String" "COMPACT_STRINGS" "Z" ∈ gw_tbl := gw_mem (i := 293) (by decide +kernel)
theorem tf_val : Cond.fieldLink "java/lang/String" 9 "java/lang/String" "value" "[B" ∈ gw_tbl := gw_mem (i := 2134) (by decide +kernel)
theorem tf_cdr : Cond.fieldLink "java/lang/String" 15 "java/lang/String" "coder" "B" ∈ gw_tbl := gw_mem (i := 2135) (by decide +kernel)
theorem tf_sio : Cond.fieldLink "java/lang/String" 1053 "jdk/internal/util/Preconditions" "SIOOBE_FORMATTER" "Ljava/util/function/BiFunction;" ∈ gw_tbl := gw_mem (i := 309) (by decide +kernel)
theorem tm_cdr : Cond.methodLink "java/lang/String" 335 y_cdr ∈ gw_tbl := gw_mem (i := 289) (by decide +kernel)
theorem tm_lat : Cond.methodLink "java/lang/String" 492 y_lat ∈ gw_tbl := gw_mem (i := 299) (by decide +kernel)
theorem tm_pre : Cond.methodLink "java/lang/String" 1059 y_pre ∈ gw_tbl := gw_mem (i := 311) (by decide +kernel)
theorem tm_chk : Cond.methodLink "java/lang/StringLatin1" 9 y_chk ∈ gw_tbl := gw_mem (i := 306) (by decide +kernel)
theorem tm_l1c : Cond.methodLink "java/lang/String" 495 y_l1c ∈ gw_tbl := gw_mem (i := 303) (by decide +kernel)
set_option maxHeartbeats 1000000 in
theorem c_cdr (l : Launch) (oa : Nat → Nat) (n0 : Nat) : Met l y_cdr tw_cdr (tx_rm 1) (tx_P oa n0 [.ref (oa 1)]) (tx_Qi 0) 0 0 (fun _ => False) := by
  refine Met_ofWF (cc := prog_18_method_152_code) (maxL := 1) (ret := some .byte) (by decide +kernel) rfl ?_
  intro p e s m args below meth c s₁ B hml hv
  obtain ⟨rfl, hT, hZ, hZq⟩ := hv
  have hx := B.exec
  have hb := B.bytes
  have hr := B.returns
  have hts0 := atoms_spec (ws := tw_cdr) B.pre
  have hts : ∀ w ∈ gw_tbl, w.before [Value.ref (oa 1)].toArray s = true := fun w hw => hts0 w (List.mem_cons_of_mem _ hw)
  have hown : s.vm.findClass "java/lang/String" = some m.cls := findClass_of_methodNamed B.named
  have hlocks := B.notSynchronized
  have hS : va_S (fun q => n0 ≤ q) s.heap s.heap [] := va_S.rf
  have hl := lv_entry ([.ref (oa 1)]) (n := 1) (Nat.le_of_ble_eq_true rfl)
  rw [lg_entry_eq]
  generalize (lg_sl ([.ref (oa 1)]) ++ List.replicate (1 - (lg_sl ([.ref (oa 1)])).length) Slot.unset).toArray = ls at hl ⊢
  have hl : lv_has ls 1 [(0, .ref (oa 1))] := hl
  refine va_gets hx hb hZ hS hown (hts _ tf_cs) (fun _ q => q) (show decode prog_18_method_152_code 0 = .ok (.getstatic 38, 3) by decide +kernel) ?_
  refine lv_if_eq (tgt := 13) hx hb (show decode prog_18_method_152_code 3 = .ok (.ifCond .eq 10, 3) by decide +kernel) (by decide) (fun q => absurd q (by decide)) (fun _ => ?_)
  refine lv_aload_n hx hb (show decode prog_18_method_152_code 6 = .ok (.aload_n 0, 1) by decide +kernel) rfl (lv_at hl 0 rfl) ?_
  refine vk_getf hx hb (hT.1 0 (by decide)).2.1 hS hown (hts _ tf_cdr) (fun _ q => q) (show decode prog_18_method_152_code 7 = .ok (.getfield 15, 3) by decide +kernel) ?_
  refine lv_goto (tgt := 14) hx hb (show decode prog_18_method_152_code 10 = .ok (.goto 4, 3) by decide +kernel) (by decide) ?_
  exact W.zret hx hb hr (by decide +kernel) (fun t ht hW => ⟨rfl, ht⟩) (fun q hq => by cases hq) (show decode prog_18_method_152_code 14 = .ok (.ireturn, 1) by decide +kernel) hlocks
set_option maxHeartbeats 1000000 in
theorem c_lat (l : Launch) (oa : Nat → Nat) (n0 : Nat) : Met l y_lat tw_lat (tx_rm 1) (tx_P oa n0 [.ref (oa 1)]) (tx_Qi 1) 0 0 (fun _ => False) := by
  refine Met_ofWF (cc := prog_18_method_154_code) (maxL := 1) (ret := some .boolean) (by decide +kernel) rfl ?_
  intro p e s m args below meth c s₁ B hml hv
  obtain ⟨rfl, hT, hZ, hZq⟩ := hv
  have hx := B.exec
  have hb := B.bytes
  have hr := B.returns
  have hts0 := atoms_spec (ws := tw_lat) B.pre
  have hts : ∀ w ∈ gw_tbl, w.before [Value.ref (oa 1)].toArray s = true := fun w hw => hts0 w (List.mem_cons_of_mem _ hw)
  have hown : s.vm.findClass "java/lang/String" = some m.cls := findClass_of_methodNamed B.named
  have hlocks := B.notSynchronized
  have hS : va_S (fun q => n0 ≤ q) s.heap s.heap [] := va_S.rf
  have hl := lv_entry ([.ref (oa 1)]) (n := 1) (Nat.le_of_ble_eq_true rfl)
  rw [lg_entry_eq]
  generalize (lg_sl ([.ref (oa 1)]) ++ List.replicate (1 - (lg_sl ([.ref (oa 1)])).length) Slot.unset).toArray = ls at hl ⊢
  have hl : lv_has ls 1 [(0, .ref (oa 1))] := hl
  refine va_gets hx hb hZ hS hown (hts _ tf_cs) (fun _ q => q) (show decode prog_18_method_154_code 0 = .ok (.getstatic 38, 3) by decide +kernel) ?_
  refine lv_if_eq (tgt := 17) hx hb (show decode prog_18_method_154_code 3 = .ok (.ifCond .eq 14, 3) by decide +kernel) (by decide) (fun q => absurd q (by decide)) (fun _ => ?_)
  refine lv_aload_n hx hb (show decode prog_18_method_154_code 6 = .ok (.aload_n 0, 1) by decide +kernel) rfl (lv_at hl 0 rfl) ?_
  refine vk_getf hx hb (hT.1 0 (by decide)).2.1 hS hown (hts _ tf_cdr) (fun _ q => q) (show decode prog_18_method_154_code 7 = .ok (.getfield 15, 3) by decide +kernel) ?_
  refine lv_if_ne (tgt := 17) hx hb (show decode prog_18_method_154_code 10 = .ok (.ifCond .ne 7, 3) by decide +kernel) (by decide) (fun q => absurd rfl q) (fun _ => ?_)
  refine lv_iconst (v := 1) hx hb (show decode prog_18_method_154_code 13 = .ok (.iconst 1, 1) by decide +kernel) (by decide) ?_
  refine lv_goto (tgt := 18) hx hb (show decode prog_18_method_154_code 14 = .ok (.goto 4, 3) by decide +kernel) (by decide) ?_
  exact W.zret hx hb hr (by decide +kernel) (fun t ht hW => ⟨rfl, ht⟩) (fun q hq => by cases hq) (show decode prog_18_method_154_code 18 = .ok (.ireturn, 1) by decide +kernel) hlocks
set_option maxHeartbeats 1000000 in
theorem c_len (l : Launch) (oa : Nat → Nat) (n0 : Nat) : Met l ga_yLen tw_len (tx_rm 2) (tx_P oa n0 [.ref (oa 1)]) (tx_Qi (nI 91)) 0 0 (fun _ => False) := by
  refine Met_ofWF (cc := prog_18_method_54_code) (maxL := 1) (ret := some .int) (by decide +kernel) rfl ?_
  intro p e s m args below meth c s₁ B hml hv
  obtain ⟨rfl, hT, hZ, hZq⟩ := hv
  have hx := B.exec
  have hb := B.bytes
  have hr := B.returns
  have hts0 := atoms_spec (ws := tw_len) B.pre
  have hts : ∀ w ∈ gw_tbl, w.before [Value.ref (oa 1)].toArray s = true := fun w hw => hts0 w (List.mem_cons_of_mem _ hw)
  have hown : s.vm.findClass "java/lang/String" = some m.cls := findClass_of_methodNamed B.named
  have hlocks := B.notSynchronized
  have hS : va_S (fun q => n0 ≤ q) s.heap s.heap [] := va_S.rf
  have hl := lv_entry ([.ref (oa 1)]) (n := 1) (Nat.le_of_ble_eq_true rfl)
  rw [lg_entry_eq]
  generalize (lg_sl ([.ref (oa 1)]) ++ List.replicate (1 - (lg_sl ([.ref (oa 1)])).length) Slot.unset).toArray = ls at hl ⊢
  have hl : lv_has ls 1 [(0, .ref (oa 1))] := hl
  refine lv_aload_n hx hb (show decode prog_18_method_54_code 0 = .ok (.aload_n 0, 1) by decide +kernel) rfl (lv_at hl 0 rfl) ?_
  refine vk_getf hx hb (hT.1 0 (by decide)).2.2.1 hS hown (hts _ tf_val) (fun _ q => q) (show decode prog_18_method_54_code 1 = .ok (.getfield 9, 3) by decide +kernel) ?_
  refine va_tlen (v := nI 91) hx hb (hT.1 0 (by decide)).2.2.2 hS rfl (show decode prog_18_method_54_code 4 = .ok (.arraylength, 1) by decide +kernel) ?_
  refine lv_aload_n hx hb (show decode prog_18_method_54_code 5 = .ok (.aload_n 0, 1) by decide +kernel) rfl (lv_at hl 0 rfl) ?_
  refine tx_ci (va_runV (As := []) (rest := [.int (nI 91)]) (C := "java/lang/String") (bytes := prog_18_method_152_code) (maxL := 1) (ret := some .byte) (n := 0) ⟨hx, hb, hml, hown, hts⟩ (c_cdr l oa n0) ⟨callB_of 0 hts (tw_good 292 (by decide +kernel)) rfl rfl rfl (hts _ ti_str) (hts _ tm_cdr) ⟨by decide, by decide, by decide +kernel⟩ ⟨Nat.le_of_ble_eq_true rfl, Nat.le_of_ble_eq_true rfl⟩, hts _ (gw_mem (i := 290) (by decide +kernel)), hts _ (gw_mem (i := 291) (by decide +kernel))⟩ ⟨tx_blind, vk_recv (i := 0) hT (by decide) hS, fun U hU hW => ⟨rfl, tx_F.tr ⟨hT, hZ, hZq⟩ hS hU hW⟩⟩ rfl rfl hl.1 rfl (lv_room (Nat.le_of_ble_eq_true rfl)) (show decode prog_18_method_54_code 6 = .ok (.invokevirtual 335, 3) by decide +kernel) ⟨Nat.le_refl _, Nat.le_refl _⟩) ?_
  refine lv_ishr hx hb (show decode prog_18_method_54_code 9 = .ok (.ishr, 1) by decide +kernel) ?_
  rw [show nI 91 >>> ((0 : Int32) &&& 31) = nI 91 by decide +kernel]
  exact W.iret hx hb hr (fun t ht hW => ⟨rfl, ht⟩) (fun q hq => by cases hq) (show decode prog_18_method_54_code 10 = .ok (.ireturn, 1) by decide +kernel) hlocks
set_option maxHeartbeats 1000000 in
theorem c_pre (l : Launch) (oa : Nat → Nat) (n0 : Nat) {j : Nat} (hj : j < 91) {va : Value} (hva : va = .null ∨ ∃ q, va = .ref q) : Met l y_pre tw_pre (tx_rm 1) (tx_P oa n0 [.int (nI j), .int (nI 91), va]) (tx_Qi (nI j)) 0 0 (fun _ => False) := by
  refine Met_ofWF (cc := prog_22_method_11_code) (maxL := 3) (ret := some .int) (by decide +kernel) rfl ?_
  intro p e s m args below meth c s₁ B hml hv
  obtain ⟨rfl, hT, hZ, hZq⟩ := hv
  have hx := B.exec
  have hb := B.bytes
  have hr := B.returns
  have hts0 := atoms_spec (ws := tw_pre) B.pre
  have hts : ∀ w ∈ gw_tbl, w.before ([.int (nI j), .int (nI 91), va] : List Value).toArray s = true := fun w hw => hts0 w (List.mem_cons_of_mem _ hw)
  have hown : s.vm.findClass "jdk/internal/util/Preconditions" = some m.cls := findClass_of_methodNamed B.named
  have hlocks := B.notSynchronized
  have hS : va_S (fun q => n0 ≤ q) s.heap s.heap [] := va_S.rf
  have hle : (lg_sl [.int (nI j), .int (nI 91), va]).length ≤ 3 := by rcases hva with rfl | ⟨q, rfl⟩ <;> exact Nat.le_of_ble_eq_true rfl
  have hl := lv_entry ([.int (nI j), .int (nI 91), va]) (n := 3) (hle)
  rw [lg_entry_eq]
  generalize (lg_sl ([.int (nI j), .int (nI 91), va]) ++ List.replicate (3 - (lg_sl ([.int (nI j), .int (nI 91), va])).length) Slot.unset).toArray = ls at hl ⊢
  have hl : lv_has ls 3 [(0, .int (nI j)), (1, .int (nI 91)), (2, va)] := hl
  refine lv_iload_n hx hb (show decode prog_22_method_11_code 0 = .ok (.iload_n 0, 1) by decide +kernel) rfl (lv_at hl 0 rfl) ?_
  refine lv_if_lt (tgt := 9) hx hb (show decode prog_22_method_11_code 1 = .ok (.ifCond .lt 8, 3) by decide +kernel) (by decide) (fun q => absurd q (nI_pos (by omega))) (fun _ => ?_)
  refine lv_iload_n hx hb (show decode prog_22_method_11_code 4 = .ok (.iload_n 0, 1) by decide +kernel) rfl (lv_at hl 0 rfl) ?_
  refine lv_iload_n hx hb (show decode prog_22_method_11_code 5 = .ok (.iload_n 1, 1) by decide +kernel) rfl (lv_at hl 1 rfl) ?_
  refine lv_icmp_lt (tgt := 16) hx hb (show decode prog_22_method_11_code 6 = .ok (.if_icmp .lt 10, 3) by decide +kernel) (by decide) (fun _ => ?_) (fun q => absurd (nI_lt hj (by decide)) q)
  refine lv_iload_n hx hb (show decode prog_22_method_11_code 16 = .ok (.iload_n 0, 1) by decide +kernel) rfl (lv_at hl 0 rfl) ?_
  exact W.iret hx hb hr (fun t ht hW => ⟨rfl, ht⟩) (fun q hq => by cases hq) (show decode prog_22_method_11_code 17 = .ok (.ireturn, 1) by decide +kernel) hlocks
set_option maxHeartbeats 1000000 in
theorem c_chk (l : Launch) (oa : Nat → Nat) (n0 : Nat) {j : Nat} (hj : j < 91) : Met l y_chk tw_chk (tx_rm 2) (tx_P oa n0 [.int (nI j), .int (nI 91)]) tx_Qv 0 0 (fun _ => False) := by
  refine Met_ofWF (cc := prog_18_method_155_code) (maxL := 2) (ret := none) (by decide +kernel) rfl ?_
  intro p e s m args below meth c s₁ B hml hv
  obtain ⟨rfl, hT, hZ, hZq⟩ := hv
  have hx := B.exec
  have hb := B.bytes
  have hr := B.returns
  have hts0 := atoms_spec (ws := tw_chk) B.pre
  have hts : ∀ w ∈ gw_tbl, w.before ([.int (nI j), .int (nI 91)] : List Value).toArray s = true := fun w hw => hts0 w (List.mem_cons_of_mem _ hw)
  have hown : s.vm.findClass "java/lang/String" = some m.cls := findClass_of_methodNamed B.named
  have hlocks := B.notSynchronized
  have hS : va_S (fun q => n0 ≤ q) s.heap s.heap [] := va_S.rf
  have hl := lv_entry ([.int (nI j), .int (nI 91)]) (n := 2) (Nat.le_of_ble_eq_true rfl)
  rw [lg_entry_eq]
  generalize (lg_sl ([.int (nI j), .int (nI 91)]) ++ List.replicate (2 - (lg_sl ([.int (nI j), .int (nI 91)])).length) Slot.unset).toArray = ls at hl ⊢
  have hl : lv_has ls 2 [(0, .int (nI j)), (1, .int (nI 91))] := hl
  refine lv_iload_n hx hb (show decode prog_18_method_155_code 0 = .ok (.iload_n 0, 1) by decide +kernel) rfl (lv_at hl 0 rfl) ?_
  refine lv_iload_n hx hb (show decode prog_18_method_155_code 1 = .ok (.iload_n 1, 1) by decide +kernel) rfl (lv_at hl 1 rfl) ?_
  have go : ∀ va : Value, (va = .null ∨ ∃ q, va = .ref q) → va_Z "jdk/internal/util/Preconditions" "SIOOBE_FORMATTER" "Ljava/util/function/BiFunction;" va (fun q => n0 ≤ q) s s.heap → W p l e (headSpec tw_chk (tx_rm 2)).room s m ([.int (nI j), .int (nI 91)] : List Value).toArray below meth c s.heap [] 0 0 (MQ below tx_Qv ([.int (nI j), .int (nI 91)] : List Value).toArray s 0 0 fun _ => False) (F0 m 2 ls [.int (nI 91), .int (nI j)]) := by
    intro va hva hZv
    refine va_gets hx hb hZv hS hown (hts _ tf_sio) (fun _ q => q) (show decode prog_18_method_155_code 2 = .ok (.getstatic 1053, 3) by decide +kernel) ?_
    refine tx_ci (va_runS (As := [.int (nI j), .int (nI 91), va]) (rest := []) (bytes := prog_22_method_11_code) (maxL := 3) (ret := some .int) (n := 3) ⟨hx, hb, hml, hown, hts⟩ (c_pre l oa n0 hj hva) ⟨callB_of 3 hts (tw_good 313 (by decide +kernel)) rfl rfl rfl (hts _ ti_pre) (hts _ tm_pre) ⟨by decide, by decide, by decide +kernel⟩ ⟨Nat.le_of_ble_eq_true rfl, Nat.le_of_ble_eq_true rfl⟩, hts _ (gw_mem (i := 312) (by decide +kernel))⟩ ⟨tx_blind, fun U hU hW => ⟨rfl, tx_F.tr ⟨hT, hZ, hZq⟩ hS hU hW⟩⟩ rfl rfl hl.1 rfl (lv_room (Nat.le_of_ble_eq_true rfl)) (show decode prog_18_method_155_code 5 = .ok (.invokestatic 1059, 3) by decide +kernel) ⟨Nat.le_refl _, Nat.le_refl _⟩) ?_
    refine lv_pop hx hb (show decode prog_18_method_155_code 8 = .ok (.pop, 1) by decide +kernel) rfl ?_
    exact W.vret hx hb hr (fun t ht hW => ⟨rfl, ht⟩) (fun q hq => by cases hq) (show decode prog_18_method_155_code 9 = .ok (.return_, 1) by decide +kernel) hlocks
  rcases hZq with hz | ⟨q, hz⟩
  · exact go .null (Or.inl rfl) hz
  · exact go (.ref q) (Or.inr ⟨q, rfl⟩) hz
theorem tx_ch : ∀ j, j < 91 → ((((ga_by.getD j 0) &&& 255).toUInt32 % 65536).toInt32 = nI (gm_tx.getD j 0) ∧ narrow .char (.int (nI (gm_tx.getD j 0))) = .int (nI (gm_tx.getD j 0))) := by decide +kernel
set_option maxHeartbeats 1000000 in
theorem c_l1c (l : Launch) (oa : Nat → Nat) (n0 : Nat) {j : Nat} (hj : j < 91) : Met l y_l1c tw_l1c (tx_rm 3) (tx_P oa n0 [.ref (oa 2), .int (nI j)]) (tx_Qi (nI (gm_tx.getD j 0))) 0 0 (fun _ => False) := by
  refine Met_ofWF (cc := prog_19_method_2_code) (maxL := 2) (ret := some .char) (by decide +kernel) rfl ?_
  intro p e s m args below meth c s₁ B hml hv
  obtain ⟨rfl, hT, hZ, hZq⟩ := hv
  have hx := B.exec
  have hb := B.bytes
  have hr := B.returns
  have hts0 := atoms_spec (ws := tw_l1c) B.pre
  have hts : ∀ w ∈ gw_tbl, w.before ([.ref (oa 2), .int (nI j)] : List Value).toArray s = true := fun w hw => hts0 w (List.mem_cons_of_mem _ hw)
  have hown : s.vm.findClass "java/lang/StringLatin1" = some m.cls := findClass_of_methodNamed B.named
  have hlocks := B.notSynchronized
  have hS : va_S (fun q => n0 ≤ q) s.heap s.heap [] := va_S.rf
  have hl := lv_entry ([.ref (oa 2), .int (nI j)]) (n := 2) (Nat.le_of_ble_eq_true rfl)
  rw [lg_entry_eq]
  generalize (lg_sl ([.ref (oa 2), .int (nI j)]) ++ List.replicate (2 - (lg_sl ([.ref (oa 2), .int (nI j)])).length) Slot.unset).toArray = ls at hl ⊢
  have hl : lv_has ls 2 [(0, .ref (oa 2)), (1, .int (nI j))] := hl
  refine lv_iload_n hx hb (show decode prog_19_method_2_code 0 = .ok (.iload_n 1, 1) by decide +kernel) rfl (lv_at hl 1 rfl) ?_
  refine lv_aload_n hx hb (show decode prog_19_method_2_code 1 = .ok (.aload_n 0, 1) by decide +kernel) rfl (lv_at hl 0 rfl) ?_
  refine va_tlen (v := nI 91) hx hb (hT.1 0 (by decide)).2.2.2 hS rfl (show decode prog_19_method_2_code 2 = .ok (.arraylength, 1) by decide +kernel) ?_
  refine tx_cv (va_runS (As := [.int (nI j), .int (nI 91)]) (rest := []) (bytes := prog_18_method_155_code) (maxL := 2) (ret := none) (n := 2) ⟨hx, hb, hml, hown, hts⟩ (c_chk l oa n0 hj) ⟨callB_of 2 hts (tw_good 308 (by decide +kernel)) rfl rfl rfl (hts _ ti_str) (hts _ tm_chk) ⟨by decide, by decide, by decide +kernel⟩ ⟨Nat.le_of_ble_eq_true rfl, Nat.le_of_ble_eq_true rfl⟩, hts _ (gw_mem (i := 307) (by decide +kernel))⟩ ⟨tx_blind, fun U hU hW => ⟨rfl, tx_F.tr ⟨hT, hZ, hZq⟩ hS hU hW⟩⟩ rfl rfl hl.1 rfl (lv_room (Nat.le_of_ble_eq_true rfl)) (show decode prog_19_method_2_code 3 = .ok (.invokestatic 9, 3) by decide +kernel) ⟨Nat.le_refl _, Nat.le_refl _⟩) ?_
  refine lv_aload_n hx hb (show decode prog_19_method_2_code 6 = .ok (.aload_n 0, 1) by decide +kernel) rfl (lv_at hl 0 rfl) ?_
  refine lv_iload_n hx hb (show decode prog_19_method_2_code 7 = .ok (.iload_n 1, 1) by decide +kernel) rfl (lv_at hl 1 rfl) ?_
  refine va_tb (v := .int (ga_by.getD j 0)) hx hb (hT.1 0 (by decide)).2.2.2 hS (vp_in_nI hj (by decide)) (by rw [nI_clamp (by omega)]; rfl) (show decode prog_19_method_2_code 8 = .ok (.baload, 1) by decide +kernel) ?_
  refine lv_sipush (v := 255) hx hb (show decode prog_19_method_2_code 9 = .ok (.sipush 255, 3) by decide +kernel) (by decide) ?_
  refine lv_iand hx hb (show decode prog_19_method_2_code 12 = .ok (.iand, 1) by decide +kernel) ?_
  refine lv_i2c (v := nI (gm_tx.getD j 0)) hx hb (show decode prog_19_method_2_code 13 = .ok (.i2c, 1) by decide +kernel) (tx_ch j hj).1 ?_
  exact W.zret hx hb hr (tx_ch j hj).2 (fun t ht hW => ⟨rfl, ht⟩) (fun q hq => by cases hq) (show decode prog_19_method_2_code 14 = .ok (.ireturn, 1) by decide +kernel) hlocks
set_option maxHeartbeats 1000000 in
theorem c_chr (l : Launch) (oa : Nat → Nat) (n0 : Nat) {j : Nat} (hj : j < 91) : Met l ga_yChr tw_chr (tx_rm 4) (tx_P oa n0 [.ref (oa 1), .int (nI j)]) (tx_Qi (nI (gm_tx.getD j 0))) 0 0 (fun _ => False) := by
  refine Met_ofWF (cc := prog_18_method_56_code) (maxL := 2) (ret := some .char) (by decide +kernel) rfl ?_
  intro p e s m args below meth c s₁ B hml hv
  obtain ⟨rfl, hT, hZ, hZq⟩ := hv
  have hx := B.exec
  have hb := B.bytes
  have hr := B.returns
  have hts0 := atoms_spec (ws := tw_chr) B.pre
  have hts : ∀ w ∈ gw_tbl, w.before ([.ref (oa 1), .int (nI j)] : List Value).toArray s = true := fun w hw => hts0 w (List.mem_cons_of_mem _ hw)
  have hown : s.vm.findClass "java/lang/String" = some m.cls := findClass_of_methodNamed B.named
  have hlocks := B.notSynchronized
  have hS : va_S (fun q => n0 ≤ q) s.heap s.heap [] := va_S.rf
  have hl := lv_entry ([.ref (oa 1), .int (nI j)]) (n := 2) (Nat.le_of_ble_eq_true rfl)
  rw [lg_entry_eq]
  generalize (lg_sl ([.ref (oa 1), .int (nI j)]) ++ List.replicate (2 - (lg_sl ([.ref (oa 1), .int (nI j)])).length) Slot.unset).toArray = ls at hl ⊢
  have hl : lv_has ls 2 [(0, .ref (oa 1)), (1, .int (nI j))] := hl
  refine lv_aload_n hx hb (show decode prog_18_method_56_code 0 = .ok (.aload_n 0, 1) by decide +kernel) rfl (lv_at hl 0 rfl) ?_
  refine tx_ci (va_runV (As := []) (rest := []) (C := "java/lang/String") (bytes := prog_18_method_154_code) (maxL := 1) (ret := some .boolean) (n := 0) ⟨hx, hb, hml, hown, hts⟩ (c_lat l oa n0) ⟨callB_of 0 hts (tw_good 302 (by decide +kernel)) rfl rfl rfl (hts _ ti_str) (hts _ tm_lat) ⟨by decide, by decide, by decide +kernel⟩ ⟨Nat.le_of_ble_eq_true rfl, Nat.le_of_ble_eq_true rfl⟩, hts _ (gw_mem (i := 300) (by decide +kernel)), hts _ (gw_mem (i := 301) (by decide +kernel))⟩ ⟨tx_blind, vk_recv (i := 0) hT (by decide) hS, fun U hU hW => ⟨rfl, tx_F.tr ⟨hT, hZ, hZq⟩ hS hU hW⟩⟩ rfl rfl hl.1 rfl (lv_room (Nat.le_of_ble_eq_true rfl)) (show decode prog_18_method_56_code 1 = .ok (.invokevirtual 492, 3) by decide +kernel) ⟨Nat.le_refl _, Nat.le_refl _⟩) ?_
  refine lv_if_eq (tgt := 16) hx hb (show decode prog_18_method_56_code 4 = .ok (.ifCond .eq 12, 3) by decide +kernel) (by decide) (fun q => absurd q (by decide)) (fun _ => ?_)
  refine lv_aload_n hx hb (show decode prog_18_method_56_code 7 = .ok (.aload_n 0, 1) by decide +kernel) rfl (lv_at hl 0 rfl) ?_
  refine vk_getf hx hb (hT.1 0 (by decide)).2.2.1 hS hown (hts _ tf_val) (fun _ q => q) (show decode prog_18_method_56_code 8 = .ok (.getfield 9, 3) by decide +kernel) ?_
  refine lv_iload_n hx hb (show decode prog_18_method_56_code 11 = .ok (.iload_n 1, 1) by decide +kernel) rfl (lv_at hl 1 rfl) ?_
  refine tx_ci (va_runS (As := [.ref (oa 2), .int (nI j)]) (rest := []) (bytes := prog_19_method_2_code) (maxL := 2) (ret := some .char) (n := 2) ⟨hx, hb, hml, hown, hts⟩ (c_l1c l oa n0 hj) ⟨callB_of 2 hts (tw_good 305 (by decide +kernel)) rfl rfl rfl (hts _ ti_l1) (hts _ tm_l1c) ⟨by decide, by decide, by decide +kernel⟩ ⟨Nat.le_of_ble_eq_true rfl, Nat.le_of_ble_eq_true rfl⟩, hts _ (gw_mem (i := 304) (by decide +kernel))⟩ ⟨tx_blind, fun U hU hW => ⟨rfl, tx_F.tr ⟨hT, hZ, hZq⟩ hS hU hW⟩⟩ rfl rfl hl.1 rfl (lv_room (Nat.le_of_ble_eq_true rfl)) (show decode prog_18_method_56_code 12 = .ok (.invokestatic 495, 3) by decide +kernel) ⟨Nat.le_refl _, Nat.le_refl _⟩) ?_
  exact W.zret hx hb hr (tx_ch j hj).2 (fun t ht hW => ⟨rfl, ht⟩) (fun q hq => by cases hq) (show decode prog_18_method_56_code 15 = .ok (.ireturn, 1) by decide +kernel) hlocks
theorem tx_all (l : Launch) (oa : Nat → Nat) (n0 : Nat) : ga_TXA l oa n0 := by
  intro p e R s m args below meth c Q ρ L nL own cc hx hb hml hown hts hn0 hold hRf hRl
  have hF : tx_F oa n0 s := hold.2.2.2.2.2
  refine ⟨fun H locs ls st cs ss idx pc hw hdg hsz hwd hc1 hc2 hS k => ?_, fun H locs ls st cs ss idx pc j hw hdg hsz hwd hc1 hc2 hj hS k => ?_⟩
  · exact tx_ci (va_runV (As := []) (rest := st) (C := "java/lang/String") (bytes := prog_18_method_54_code) (maxL := 1) (ret := some .int) (n := 0) ⟨hx, hb, hml, hown, hts⟩ (c_len l oa n0) ⟨callB_of 0 hts (tw_good 288 (by decide +kernel)) rfl rfl rfl (hts _ ti_str) (hts _ hw) ⟨by decide, by decide, by decide +kernel⟩ ⟨by show 2 + 1 ≤ R.frames; omega, by show 8 + (1 + 11) + 200 ≤ R.locals; omega⟩, hts _ (gw_mem (i := 286) (by decide +kernel)), hts _ (gw_mem (i := 287) (by decide +kernel))⟩ ⟨tx_blind, vk_recv (i := 0) hF.1 (by decide) hS, fun U hU hW => ⟨rfl, tx_F.tr hF hS hU hW⟩⟩ rfl rfl hsz rfl (by show 2 * 0 + _ ≤ 8; omega) hdg ⟨hc1, hc2⟩) k
  · exact tx_ci (va_runV (As := [.int (nI j)]) (rest := st) (C := "java/lang/String") (bytes := prog_18_method_56_code) (maxL := 2) (ret := some .char) (n := 1) ⟨hx, hb, hml, hown, hts⟩ (c_chr l oa n0 hj) ⟨callB_of 1 hts (tw_good 298 (by decide +kernel)) rfl rfl rfl (hts _ ti_str) (hts _ hw) ⟨by decide, by decide, by decide +kernel⟩ ⟨by show 4 + 1 ≤ R.frames; omega, by show 8 + (2 + 11) + 400 ≤ R.locals; omega⟩, hts _ (gw_mem (i := 296) (by decide +kernel)), hts _ (gw_mem (i := 297) (by decide +kernel))⟩ ⟨tx_blind, vk_recv (i := 0) hF.1 (by decide) hS, fun U hU hW => ⟨rfl, tx_F.tr hF hS hU hW⟩⟩ rfl rfl hsz rfl (by show 2 * 0 + _ ≤ 8; omega) hdg ⟨hc1, hc2⟩) k
end
