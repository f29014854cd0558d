-- ===== PART A: goes FIRST, ahead of the names: the tables' words, and 'selects' of the private methods out of them =====
/-- a private method of a class that the tables say can be made, by its rows of tables_1 -/
def lw_okq (q : MethodName × Nat) : Prop := (q.1.cls ≠ "java/lang/invoke/MethodHandle" ∧ q.1.cls ≠ "java/lang/invoke/VarHandle") ∧ Cond.instantiable q.1.cls q.2 ∈ tables_1 ∧ Cond.privateMethod q.1 ∈ tables_1 ∧ Cond.instanceMethod q.1 ∈ tables_1
theorem lw_p0 : lw_okq (⟨"PartingMap", "retell", "()V"⟩, 11) := ⟨⟨by decide +kernel, by decide +kernel⟩, List.mem_of_getElem? (i := 13) (by decide +kernel), List.mem_of_getElem? (i := 220) (by decide +kernel), List.mem_of_getElem? (i := 221) (by decide +kernel)⟩
theorem lw_p1 : lw_okq (⟨"PartingMap$Text", "valueAt", "(I)I"⟩, 7) := ⟨⟨by decide +kernel, by decide +kernel⟩, List.mem_of_getElem? (i := 21) (by decide +kernel), List.mem_of_getElem? (i := 228) (by decide +kernel), List.mem_of_getElem? (i := 229) (by decide +kernel)⟩
theorem lw_p2 : lw_okq (⟨"PartingMap$Course", "begin", "()V"⟩, 15) := ⟨⟨by decide +kernel, by decide +kernel⟩, List.mem_of_getElem? (i := 85) (by decide +kernel), List.mem_of_getElem? (i := 255) (by decide +kernel), List.mem_of_getElem? (i := 256) (by decide +kernel)⟩
theorem lw_p3 : lw_okq (⟨"PartingMap$Course", "changeMinds", "(I)V"⟩, 15) := ⟨⟨by decide +kernel, by decide +kernel⟩, List.mem_of_getElem? (i := 85) (by decide +kernel), List.mem_of_getElem? (i := 259) (by decide +kernel), List.mem_of_getElem? (i := 260) (by decide +kernel)⟩
theorem lw_p4 : lw_okq (⟨"PartingMap$Course", "comeRound", "()V"⟩, 15) := ⟨⟨by decide +kernel, by decide +kernel⟩, List.mem_of_getElem? (i := 85) (by decide +kernel), List.mem_of_getElem? (i := 263) (by decide +kernel), List.mem_of_getElem? (i := 264) (by decide +kernel)⟩
theorem lw_p5 : lw_okq (⟨"PartingMap$Course", "differences", "(II)I"⟩, 15) := ⟨⟨by decide +kernel, by decide +kernel⟩, List.mem_of_getElem? (i := 85) (by decide +kernel), List.mem_of_getElem? (i := 267) (by decide +kernel), List.mem_of_getElem? (i := 268) (by decide +kernel)⟩
theorem lw_p6 : lw_okq (⟨"PartingMap$Course", "knock", "(I)V"⟩, 15) := ⟨⟨by decide +kernel, by decide +kernel⟩, List.mem_of_getElem? (i := 85) (by decide +kernel), List.mem_of_getElem? (i := 271) (by decide +kernel), List.mem_of_getElem? (i := 272) (by decide +kernel)⟩
theorem lw_p7 : lw_okq (⟨"PartingMap$Course", "wouldAgree", "(II)Z"⟩, 15) := ⟨⟨by decide +kernel, by decide +kernel⟩, List.mem_of_getElem? (i := 85) (by decide +kernel), List.mem_of_getElem? (i := 275) (by decide +kernel), List.mem_of_getElem? (i := 276) (by decide +kernel)⟩
theorem lw_p8 : lw_okq (⟨"PartingMap$Course", "refuge", "(I)I"⟩, 15) := ⟨⟨by decide +kernel, by decide +kernel⟩, List.mem_of_getElem? (i := 85) (by decide +kernel), List.mem_of_getElem? (i := 279) (by decide +kernel), List.mem_of_getElem? (i := 280) (by decide +kernel)⟩
theorem lw_p9 : lw_okq (⟨"PartingMap$Course", "keep", "(I)V"⟩, 15) := ⟨⟨by decide +kernel, by decide +kernel⟩, List.mem_of_getElem? (i := 85) (by decide +kernel), List.mem_of_getElem? (i := 286) (by decide +kernel), List.mem_of_getElem? (i := 287) (by decide +kernel)⟩
theorem lw_p10 : lw_okq (⟨"PartingMap", "isPerson", "(I)Z"⟩, 11) := ⟨⟨by decide +kernel, by decide +kernel⟩, List.mem_of_getElem? (i := 13) (by decide +kernel), List.mem_of_getElem? (i := 306) (by decide +kernel), List.mem_of_getElem? (i := 307) (by decide +kernel)⟩
theorem lw_p11 : lw_okq (⟨"PartingMap", "found", "(I)I"⟩, 11) := ⟨⟨by decide +kernel, by decide +kernel⟩, List.mem_of_getElem? (i := 13) (by decide +kernel), List.mem_of_getElem? (i := 332) (by decide +kernel), List.mem_of_getElem? (i := 333) (by decide +kernel)⟩
theorem lw_p12 : lw_okq (⟨"PartingMap", "endsWellWithout", "(I)Z"⟩, 11) := ⟨⟨by decide +kernel, by decide +kernel⟩, List.mem_of_getElem? (i := 13) (by decide +kernel), List.mem_of_getElem? (i := 423) (by decide +kernel), List.mem_of_getElem? (i := 424) (by decide +kernel)⟩
theorem lw_p13 : lw_okq (⟨"PartingMap", "tallyHomes", "(I)V"⟩, 11) := ⟨⟨by decide +kernel, by decide +kernel⟩, List.mem_of_getElem? (i := 13) (by decide +kernel), List.mem_of_getElem? (i := 462) (by decide +kernel), List.mem_of_getElem? (i := 463) (by decide +kernel)⟩
theorem lw_p14 : lw_okq (⟨"PartingMap", "quarterOfLeastTally", "()I"⟩, 11) := ⟨⟨by decide +kernel, by decide +kernel⟩, List.mem_of_getElem? (i := 13) (by decide +kernel), List.mem_of_getElem? (i := 466) (by decide +kernel), List.mem_of_getElem? (i := 467) (by decide +kernel)⟩
theorem lw_p15 : lw_okq (⟨"PartingMap", "digestOfPerson", "(JI)J"⟩, 11) := ⟨⟨by decide +kernel, by decide +kernel⟩, List.mem_of_getElem? (i := 13) (by decide +kernel), List.mem_of_getElem? (i := 551) (by decide +kernel), List.mem_of_getElem? (i := 552) (by decide +kernel)⟩
def lw_privs_1 : List (MethodName × Nat) := [(⟨"PartingMap", "retell", "()V"⟩, 11), (⟨"PartingMap$Text", "valueAt", "(I)I"⟩, 7), (⟨"PartingMap$Course", "begin", "()V"⟩, 15), (⟨"PartingMap$Course", "changeMinds", "(I)V"⟩, 15), (⟨"PartingMap$Course", "comeRound", "()V"⟩, 15), (⟨"PartingMap$Course", "differences", "(II)I"⟩, 15), (⟨"PartingMap$Course", "knock", "(I)V"⟩, 15), (⟨"PartingMap$Course", "wouldAgree", "(II)Z"⟩, 15), (⟨"PartingMap$Course", "refuge", "(I)I"⟩, 15), (⟨"PartingMap$Course", "keep", "(I)V"⟩, 15), (⟨"PartingMap", "isPerson", "(I)Z"⟩, 11), (⟨"PartingMap", "found", "(I)I"⟩, 11), (⟨"PartingMap", "endsWellWithout", "(I)Z"⟩, 11), (⟨"PartingMap", "tallyHomes", "(I)V"⟩, 11), (⟨"PartingMap", "quarterOfLeastTally", "()I"⟩, 11), (⟨"PartingMap", "digestOfPerson", "(JI)J"⟩, 11)]
theorem lw_r1 : ∀ q ∈ lw_privs_1, lw_okq q := List.forall_mem_cons.mpr ⟨lw_p0, List.forall_mem_cons.mpr ⟨lw_p1, List.forall_mem_cons.mpr ⟨lw_p2, List.forall_mem_cons.mpr ⟨lw_p3, List.forall_mem_cons.mpr ⟨lw_p4, List.forall_mem_cons.mpr ⟨lw_p5, List.forall_mem_cons.mpr ⟨lw_p6, List.forall_mem_cons.mpr ⟨lw_p7, List.forall_mem_cons.mpr ⟨lw_p8, List.forall_mem_cons.mpr ⟨lw_p9, List.forall_mem_cons.mpr ⟨lw_p10, List.forall_mem_cons.mpr ⟨lw_p11, List.forall_mem_cons.mpr ⟨lw_p12, List.forall_mem_cons.mpr ⟨lw_p13, List.forall_mem_cons.mpr ⟨lw_p14, List.forall_mem_cons.mpr ⟨lw_p15, fun _ h => absurd h List.not_mem_nil⟩⟩⟩⟩⟩⟩⟩⟩⟩⟩⟩⟩⟩⟩⟩⟩
theorem lw_p16 : lw_okq (⟨"PartingMapModel", "finds", "(I)I"⟩, 33) := ⟨⟨by decide +kernel, by decide +kernel⟩, List.mem_of_getElem? (i := 571) (by decide +kernel), List.mem_of_getElem? (i := 689) (by decide +kernel), List.mem_of_getElem? (i := 690) (by decide +kernel)⟩
theorem lw_p17 : lw_okq (⟨"PartingMapModel", "lacks", "(III)I"⟩, 33) := ⟨⟨by decide +kernel, by decide +kernel⟩, List.mem_of_getElem? (i := 571) (by decide +kernel), List.mem_of_getElem? (i := 701) (by decide +kernel), List.mem_of_getElem? (i := 702) (by decide +kernel)⟩
theorem lw_p18 : lw_okq (⟨"PartingMapModel", "reads", "()I"⟩, 33) := ⟨⟨by decide +kernel, by decide +kernel⟩, List.mem_of_getElem? (i := 571) (by decide +kernel), List.mem_of_getElem? (i := 734) (by decide +kernel), List.mem_of_getElem? (i := 735) (by decide +kernel)⟩
theorem lw_p19 : lw_okq (⟨"PartingMapModel", "byteOf", "(II)I"⟩, 33) := ⟨⟨by decide +kernel, by decide +kernel⟩, List.mem_of_getElem? (i := 571) (by decide +kernel), List.mem_of_getElem? (i := 738) (by decide +kernel), List.mem_of_getElem? (i := 739) (by decide +kernel)⟩
theorem lw_p20 : lw_okq (⟨"PartingMapModel", "isTaken", "(I)Z"⟩, 33) := ⟨⟨by decide +kernel, by decide +kernel⟩, List.mem_of_getElem? (i := 571) (by decide +kernel), List.mem_of_getElem? (i := 746) (by decide +kernel), List.mem_of_getElem? (i := 747) (by decide +kernel)⟩
theorem lw_p21 : lw_okq (⟨"PartingMapModel", "isPerson", "(I)Z"⟩, 33) := ⟨⟨by decide +kernel, by decide +kernel⟩, List.mem_of_getElem? (i := 571) (by decide +kernel), List.mem_of_getElem? (i := 754) (by decide +kernel), List.mem_of_getElem? (i := 755) (by decide +kernel)⟩
theorem lw_p22 : lw_okq (⟨"PartingMapModel", "keeps", "(III)V"⟩, 33) := ⟨⟨by decide +kernel, by decide +kernel⟩, List.mem_of_getElem? (i := 571) (by decide +kernel), List.mem_of_getElem? (i := 767) (by decide +kernel), List.mem_of_getElem? (i := 768) (by decide +kernel)⟩
theorem lw_p23 : lw_okq (⟨"PartingMapModel", "find", "()V"⟩, 33) := ⟨⟨by decide +kernel, by decide +kernel⟩, List.mem_of_getElem? (i := 571) (by decide +kernel), List.mem_of_getElem? (i := 784) (by decide +kernel), List.mem_of_getElem? (i := 785) (by decide +kernel)⟩
theorem lw_p24 : lw_okq (⟨"PartingMapModel", "lives", "()V"⟩, 33) := ⟨⟨by decide +kernel, by decide +kernel⟩, List.mem_of_getElem? (i := 571) (by decide +kernel), List.mem_of_getElem? (i := 788) (by decide +kernel), List.mem_of_getElem? (i := 789) (by decide +kernel)⟩
theorem lw_p25 : lw_okq (⟨"PartingMapModel", "passes", "(I)V"⟩, 33) := ⟨⟨by decide +kernel, by decide +kernel⟩, List.mem_of_getElem? (i := 571) (by decide +kernel), List.mem_of_getElem? (i := 792) (by decide +kernel), List.mem_of_getElem? (i := 793) (by decide +kernel)⟩
theorem lw_p26 : lw_okq (⟨"PartingMapModel", "happens", "(II)V"⟩, 33) := ⟨⟨by decide +kernel, by decide +kernel⟩, List.mem_of_getElem? (i := 571) (by decide +kernel), List.mem_of_getElem? (i := 799) (by decide +kernel), List.mem_of_getElem? (i := 800) (by decide +kernel)⟩
theorem lw_p27 : lw_okq (⟨"PartingMapModel", "comes", "(I)V"⟩, 33) := ⟨⟨by decide +kernel, by decide +kernel⟩, List.mem_of_getElem? (i := 571) (by decide +kernel), List.mem_of_getElem? (i := 803) (by decide +kernel), List.mem_of_getElem? (i := 804) (by decide +kernel)⟩
theorem lw_p28 : lw_okq (⟨"PartingMapModel", "whoIn", "(I)I"⟩, 33) := ⟨⟨by decide +kernel, by decide +kernel⟩, List.mem_of_getElem? (i := 571) (by decide +kernel), List.mem_of_getElem? (i := 807) (by decide +kernel), List.mem_of_getElem? (i := 808) (by decide +kernel)⟩
theorem lw_p29 : lw_okq (⟨"PartingMapModel", "isOther", "(II)Z"⟩, 33) := ⟨⟨by decide +kernel, by decide +kernel⟩, List.mem_of_getElem? (i := 571) (by decide +kernel), List.mem_of_getElem? (i := 811) (by decide +kernel), List.mem_of_getElem? (i := 812) (by decide +kernel)⟩
theorem lw_p30 : lw_okq (⟨"PartingMapModel", "knocks", "(II)V"⟩, 33) := ⟨⟨by decide +kernel, by decide +kernel⟩, List.mem_of_getElem? (i := 571) (by decide +kernel), List.mem_of_getElem? (i := 815) (by decide +kernel), List.mem_of_getElem? (i := 816) (by decide +kernel)⟩
theorem lw_p31 : lw_okq (⟨"PartingMapModel", "isDead", "(II)Z"⟩, 33) := ⟨⟨by decide +kernel, by decide +kernel⟩, List.mem_of_getElem? (i := 571) (by decide +kernel), List.mem_of_getElem? (i := 819) (by decide +kernel), List.mem_of_getElem? (i := 820) (by decide +kernel)⟩
def lw_privs_2 : List (MethodName × Nat) := [(⟨"PartingMapModel", "finds", "(I)I"⟩, 33), (⟨"PartingMapModel", "lacks", "(III)I"⟩, 33), (⟨"PartingMapModel", "reads", "()I"⟩, 33), (⟨"PartingMapModel", "byteOf", "(II)I"⟩, 33), (⟨"PartingMapModel", "isTaken", "(I)Z"⟩, 33), (⟨"PartingMapModel", "isPerson", "(I)Z"⟩, 33), (⟨"PartingMapModel", "keeps", "(III)V"⟩, 33), (⟨"PartingMapModel", "find", "()V"⟩, 33), (⟨"PartingMapModel", "lives", "()V"⟩, 33), (⟨"PartingMapModel", "passes", "(I)V"⟩, 33), (⟨"PartingMapModel", "happens", "(II)V"⟩, 33), (⟨"PartingMapModel", "comes", "(I)V"⟩, 33), (⟨"PartingMapModel", "whoIn", "(I)I"⟩, 33), (⟨"PartingMapModel", "isOther", "(II)Z"⟩, 33), (⟨"PartingMapModel", "knocks", "(II)V"⟩, 33), (⟨"PartingMapModel", "isDead", "(II)Z"⟩, 33)]
theorem lw_r2 : ∀ q ∈ lw_privs_2, lw_okq q := List.forall_mem_cons.mpr ⟨lw_p16, List.forall_mem_cons.mpr ⟨lw_p17, List.forall_mem_cons.mpr ⟨lw_p18, List.forall_mem_cons.mpr ⟨lw_p19, List.forall_mem_cons.mpr ⟨lw_p20, List.forall_mem_cons.mpr ⟨lw_p21, List.forall_mem_cons.mpr ⟨lw_p22, List.forall_mem_cons.mpr ⟨lw_p23, List.forall_mem_cons.mpr ⟨lw_p24, List.forall_mem_cons.mpr ⟨lw_p25, List.forall_mem_cons.mpr ⟨lw_p26, List.forall_mem_cons.mpr ⟨lw_p27, List.forall_mem_cons.mpr ⟨lw_p28, List.forall_mem_cons.mpr ⟨lw_p29, List.forall_mem_cons.mpr ⟨lw_p30, List.forall_mem_cons.mpr ⟨lw_p31, fun _ h => absurd h List.not_mem_nil⟩⟩⟩⟩⟩⟩⟩⟩⟩⟩⟩⟩⟩⟩⟩⟩
theorem lw_p32 : lw_okq (⟨"PartingMapModel", "agree", "(II)Z"⟩, 33) := ⟨⟨by decide +kernel, by decide +kernel⟩, List.mem_of_getElem? (i := 571) (by decide +kernel), List.mem_of_getElem? (i := 823) (by decide +kernel), List.mem_of_getElem? (i := 824) (by decide +kernel)⟩
theorem lw_p33 : lw_okq (⟨"PartingMapModel", "atBy", "(III)I"⟩, 33) := ⟨⟨by decide +kernel, by decide +kernel⟩, List.mem_of_getElem? (i := 571) (by decide +kernel), List.mem_of_getElem? (i := 830) (by decide +kernel), List.mem_of_getElem? (i := 831) (by decide +kernel)⟩
theorem lw_p34 : lw_okq (⟨"PartingMapModel", "houseOf", "(II)I"⟩, 33) := ⟨⟨by decide +kernel, by decide +kernel⟩, List.mem_of_getElem? (i := 571) (by decide +kernel), List.mem_of_getElem? (i := 842) (by decide +kernel), List.mem_of_getElem? (i := 843) (by decide +kernel)⟩
theorem lw_p35 : lw_okq (⟨"PartingMapModel", "pairsOf", "(II)I"⟩, 33) := ⟨⟨by decide +kernel, by decide +kernel⟩, List.mem_of_getElem? (i := 571) (by decide +kernel), List.mem_of_getElem? (i := 853) (by decide +kernel), List.mem_of_getElem? (i := 854) (by decide +kernel)⟩
theorem lw_p36 : lw_okq (⟨"PartingMapModel", "agreed", "(III)Z"⟩, 33) := ⟨⟨by decide +kernel, by decide +kernel⟩, List.mem_of_getElem? (i := 571) (by decide +kernel), List.mem_of_getElem? (i := 857) (by decide +kernel), List.mem_of_getElem? (i := 858) (by decide +kernel)⟩
theorem lw_p37 : lw_okq (⟨"PartingMapModel", "boredOf", "(I)I"⟩, 33) := ⟨⟨by decide +kernel, by decide +kernel⟩, List.mem_of_getElem? (i := 571) (by decide +kernel), List.mem_of_getElem? (i := 865) (by decide +kernel), List.mem_of_getElem? (i := 866) (by decide +kernel)⟩
theorem lw_p38 : lw_okq (⟨"PartingMapModel", "sumBy", "(I)I"⟩, 33) := ⟨⟨by decide +kernel, by decide +kernel⟩, List.mem_of_getElem? (i := 571) (by decide +kernel), List.mem_of_getElem? (i := 873) (by decide +kernel), List.mem_of_getElem? (i := 874) (by decide +kernel)⟩
theorem lw_p39 : lw_okq (⟨"PartingMapModel", "movesNow", "()I"⟩, 33) := ⟨⟨by decide +kernel, by decide +kernel⟩, List.mem_of_getElem? (i := 571) (by decide +kernel), List.mem_of_getElem? (i := 877) (by decide +kernel), List.mem_of_getElem? (i := 878) (by decide +kernel)⟩
theorem lw_p40 : lw_okq (⟨"PartingMapModel", "rootedNow", "()I"⟩, 33) := ⟨⟨by decide +kernel, by decide +kernel⟩, List.mem_of_getElem? (i := 571) (by decide +kernel), List.mem_of_getElem? (i := 889) (by decide +kernel), List.mem_of_getElem? (i := 890) (by decide +kernel)⟩
theorem lw_p41 : lw_okq (⟨"PartingMapModel", "friendsOf", "(I)I"⟩, 33) := ⟨⟨by decide +kernel, by decide +kernel⟩, List.mem_of_getElem? (i := 571) (by decide +kernel), List.mem_of_getElem? (i := 897) (by decide +kernel), List.mem_of_getElem? (i := 898) (by decide +kernel)⟩
theorem lw_p42 : lw_okq (⟨"PartingMapModel", "settleOf", "(II)I"⟩, 33) := ⟨⟨by decide +kernel, by decide +kernel⟩, List.mem_of_getElem? (i := 571) (by decide +kernel), List.mem_of_getElem? (i := 905) (by decide +kernel), List.mem_of_getElem? (i := 906) (by decide +kernel)⟩
theorem lw_p43 : lw_okq (⟨"PartingMapModel", "isFree", "(II)Z"⟩, 33) := ⟨⟨by decide +kernel, by decide +kernel⟩, List.mem_of_getElem? (i := 571) (by decide +kernel), List.mem_of_getElem? (i := 909) (by decide +kernel), List.mem_of_getElem? (i := 910) (by decide +kernel)⟩
theorem lw_p44 : lw_okq (⟨"PartingMapModel", "thinkOf", "(II)I"⟩, 33) := ⟨⟨by decide +kernel, by decide +kernel⟩, List.mem_of_getElem? (i := 571) (by decide +kernel), List.mem_of_getElem? (i := 920) (by decide +kernel), List.mem_of_getElem? (i := 921) (by decide +kernel)⟩
theorem lw_p45 : lw_okq (⟨"PartingMapModel", "restBy", "(I)I"⟩, 33) := ⟨⟨by decide +kernel, by decide +kernel⟩, List.mem_of_getElem? (i := 571) (by decide +kernel), List.mem_of_getElem? (i := 928) (by decide +kernel), List.mem_of_getElem? (i := 929) (by decide +kernel)⟩
theorem lw_p46 : lw_okq (⟨"PartingMapModel", "spareBy", "(I)I"⟩, 33) := ⟨⟨by decide +kernel, by decide +kernel⟩, List.mem_of_getElem? (i := 571) (by decide +kernel), List.mem_of_getElem? (i := 937) (by decide +kernel), List.mem_of_getElem? (i := 938) (by decide +kernel)⟩
theorem lw_p47 : lw_okq (⟨"PartingMapModel", "isSpared", "(I)Z"⟩, 33) := ⟨⟨by decide +kernel, by decide +kernel⟩, List.mem_of_getElem? (i := 571) (by decide +kernel), List.mem_of_getElem? (i := 941) (by decide +kernel), List.mem_of_getElem? (i := 942) (by decide +kernel)⟩
def lw_privs_3 : List (MethodName × Nat) := [(⟨"PartingMapModel", "agree", "(II)Z"⟩, 33), (⟨"PartingMapModel", "atBy", "(III)I"⟩, 33), (⟨"PartingMapModel", "houseOf", "(II)I"⟩, 33), (⟨"PartingMapModel", "pairsOf", "(II)I"⟩, 33), (⟨"PartingMapModel", "agreed", "(III)Z"⟩, 33), (⟨"PartingMapModel", "boredOf", "(I)I"⟩, 33), (⟨"PartingMapModel", "sumBy", "(I)I"⟩, 33), (⟨"PartingMapModel", "movesNow", "()I"⟩, 33), (⟨"PartingMapModel", "rootedNow", "()I"⟩, 33), (⟨"PartingMapModel", "friendsOf", "(I)I"⟩, 33), (⟨"PartingMapModel", "settleOf", "(II)I"⟩, 33), (⟨"PartingMapModel", "isFree", "(II)Z"⟩, 33), (⟨"PartingMapModel", "thinkOf", "(II)I"⟩, 33), (⟨"PartingMapModel", "restBy", "(I)I"⟩, 33), (⟨"PartingMapModel", "spareBy", "(I)I"⟩, 33), (⟨"PartingMapModel", "isSpared", "(I)Z"⟩, 33)]
theorem lw_r3 : ∀ q ∈ lw_privs_3, lw_okq q := List.forall_mem_cons.mpr ⟨lw_p32, List.forall_mem_cons.mpr ⟨lw_p33, List.forall_mem_cons.mpr ⟨lw_p34, List.forall_mem_cons.mpr ⟨lw_p35, List.forall_mem_cons.mpr ⟨lw_p36, List.forall_mem_cons.mpr ⟨lw_p37, List.forall_mem_cons.mpr ⟨lw_p38, List.forall_mem_cons.mpr ⟨lw_p39, List.forall_mem_cons.mpr ⟨lw_p40, List.forall_mem_cons.mpr ⟨lw_p41, List.forall_mem_cons.mpr ⟨lw_p42, List.forall_mem_cons.mpr ⟨lw_p43, List.forall_mem_cons.mpr ⟨lw_p44, List.forall_mem_cons.mpr ⟨lw_p45, List.forall_mem_cons.mpr ⟨lw_p46, List.forall_mem_cons.mpr ⟨lw_p47, fun _ h => absurd h List.not_mem_nil⟩⟩⟩⟩⟩⟩⟩⟩⟩⟩⟩⟩⟩⟩⟩⟩
theorem lw_p48 : lw_okq (⟨"PartingMapModel", "neverNow", "()I"⟩, 33) := ⟨⟨by decide +kernel, by decide +kernel⟩, List.mem_of_getElem? (i := 571) (by decide +kernel), List.mem_of_getElem? (i := 957) (by decide +kernel), List.mem_of_getElem? (i := 958) (by decide +kernel)⟩
theorem lw_p49 : lw_okq (⟨"PartingMapModel", "isSeen", "()Z"⟩, 33) := ⟨⟨by decide +kernel, by decide +kernel⟩, List.mem_of_getElem? (i := 571) (by decide +kernel), List.mem_of_getElem? (i := 961) (by decide +kernel), List.mem_of_getElem? (i := 962) (by decide +kernel)⟩
theorem lw_p50 : lw_okq (⟨"PartingMapModel", "wasOf", "(II)I"⟩, 33) := ⟨⟨by decide +kernel, by decide +kernel⟩, List.mem_of_getElem? (i := 571) (by decide +kernel), List.mem_of_getElem? (i := 969) (by decide +kernel), List.mem_of_getElem? (i := 970) (by decide +kernel)⟩
theorem lw_p51 : lw_okq (⟨"PartingMapModel", "thoughtOf", "(I)I"⟩, 33) := ⟨⟨by decide +kernel, by decide +kernel⟩, List.mem_of_getElem? (i := 571) (by decide +kernel), List.mem_of_getElem? (i := 973) (by decide +kernel), List.mem_of_getElem? (i := 974) (by decide +kernel)⟩
theorem lw_p52 : lw_okq (⟨"PartingMapModel", "sortOf", "(I)I"⟩, 33) := ⟨⟨by decide +kernel, by decide +kernel⟩, List.mem_of_getElem? (i := 571) (by decide +kernel), List.mem_of_getElem? (i := 977) (by decide +kernel), List.mem_of_getElem? (i := 978) (by decide +kernel)⟩
theorem lw_p53 : lw_okq (⟨"PartingMapModel", "askOf", "(I)I"⟩, 33) := ⟨⟨by decide +kernel, by decide +kernel⟩, List.mem_of_getElem? (i := 571) (by decide +kernel), List.mem_of_getElem? (i := 985) (by decide +kernel), List.mem_of_getElem? (i := 986) (by decide +kernel)⟩
theorem lw_p54 : lw_okq (⟨"PartingMapModel", "alike", "(II)I"⟩, 33) := ⟨⟨by decide +kernel, by decide +kernel⟩, List.mem_of_getElem? (i := 571) (by decide +kernel), List.mem_of_getElem? (i := 989) (by decide +kernel), List.mem_of_getElem? (i := 990) (by decide +kernel)⟩
theorem lw_p55 : lw_okq (⟨"PartingMapModel", "chanceOf", "(III)J"⟩, 33) := ⟨⟨by decide +kernel, by decide +kernel⟩, List.mem_of_getElem? (i := 571) (by decide +kernel), List.mem_of_getElem? (i := 1001) (by decide +kernel), List.mem_of_getElem? (i := 1002) (by decide +kernel)⟩
theorem lw_p56 : lw_okq (⟨"PartingMapModel", "decadesOf", "(III)I"⟩, 33) := ⟨⟨by decide +kernel, by decide +kernel⟩, List.mem_of_getElem? (i := 571) (by decide +kernel), List.mem_of_getElem? (i := 1017) (by decide +kernel), List.mem_of_getElem? (i := 1018) (by decide +kernel)⟩
theorem lw_p57 : lw_okq (⟨"PartingMapModel", "lot", "(I)I"⟩, 33) := ⟨⟨by decide +kernel, by decide +kernel⟩, List.mem_of_getElem? (i := 571) (by decide +kernel), List.mem_of_getElem? (i := 1021) (by decide +kernel), List.mem_of_getElem? (i := 1022) (by decide +kernel)⟩
theorem lw_p58 : lw_okq (⟨"PartingMapModel", "tellsPerson", "(JI)J"⟩, 33) := ⟨⟨by decide +kernel, by decide +kernel⟩, List.mem_of_getElem? (i := 571) (by decide +kernel), List.mem_of_getElem? (i := 1044) (by decide +kernel), List.mem_of_getElem? (i := 1045) (by decide +kernel)⟩
theorem lw_p59 : lw_okq (⟨"PartingMapModel", "tellsQuarter", "(JII)J"⟩, 33) := ⟨⟨by decide +kernel, by decide +kernel⟩, List.mem_of_getElem? (i := 571) (by decide +kernel), List.mem_of_getElem? (i := 1048) (by decide +kernel), List.mem_of_getElem? (i := 1049) (by decide +kernel)⟩
def lw_privs_4 : List (MethodName × Nat) := [(⟨"PartingMapModel", "neverNow", "()I"⟩, 33), (⟨"PartingMapModel", "isSeen", "()Z"⟩, 33), (⟨"PartingMapModel", "wasOf", "(II)I"⟩, 33), (⟨"PartingMapModel", "thoughtOf", "(I)I"⟩, 33), (⟨"PartingMapModel", "sortOf", "(I)I"⟩, 33), (⟨"PartingMapModel", "askOf", "(I)I"⟩, 33), (⟨"PartingMapModel", "alike", "(II)I"⟩, 33), (⟨"PartingMapModel", "chanceOf", "(III)J"⟩, 33), (⟨"PartingMapModel", "decadesOf", "(III)I"⟩, 33), (⟨"PartingMapModel", "lot", "(I)I"⟩, 33), (⟨"PartingMapModel", "tellsPerson", "(JI)J"⟩, 33), (⟨"PartingMapModel", "tellsQuarter", "(JII)J"⟩, 33)]
theorem lw_r4 : ∀ q ∈ lw_privs_4, lw_okq q := List.forall_mem_cons.mpr ⟨lw_p48, List.forall_mem_cons.mpr ⟨lw_p49, List.forall_mem_cons.mpr ⟨lw_p50, List.forall_mem_cons.mpr ⟨lw_p51, List.forall_mem_cons.mpr ⟨lw_p52, List.forall_mem_cons.mpr ⟨lw_p53, List.forall_mem_cons.mpr ⟨lw_p54, List.forall_mem_cons.mpr ⟨lw_p55, List.forall_mem_cons.mpr ⟨lw_p56, List.forall_mem_cons.mpr ⟨lw_p57, List.forall_mem_cons.mpr ⟨lw_p58, List.forall_mem_cons.mpr ⟨lw_p59, fun _ h => absurd h List.not_mem_nil⟩⟩⟩⟩⟩⟩⟩⟩⟩⟩⟩⟩
def lw_privs : List (MethodName × Nat) := lw_privs_1 ++ (lw_privs_2 ++ (lw_privs_3 ++ (lw_privs_4)))
def lw_tbl : List Cond := k2_sels lw_privs ++ tables_1
theorem lw_privs_ok : ∀ q ∈ lw_privs, lw_okq q := by
  show ∀ q ∈ lw_privs_1 ++ (lw_privs_2 ++ (lw_privs_3 ++ (lw_privs_4))), lw_okq q
  exact List.forall_mem_append.mpr ⟨lw_r1, List.forall_mem_append.mpr ⟨lw_r2, List.forall_mem_append.mpr ⟨lw_r3, lw_r4⟩⟩⟩
-- ===== end of PART A; then your names; then what follows =====
/-! THE CLAIM OUT OF ONE WALK OF THE LAW'S BODY. Your part is whole_start (and what it stands on); all else here is the same for every law, but numbers. -/
def R_law : String := "PartingMapLaw"
def lw_P (b : Addr) (xs : List Int32) (args : Array Value) (s : State) : Prop := args = #[.ref b] ∧ s.IntsAt b xs ∧ xs.length ≤ 3072 ∧ (Jvm.Cond.and given_1 narrow_1).before args s = true
def lw_Q (_ : Array Value) (s : State) (o : Outcome) (t : State) : Prop := o = .returned (some (.int 1)) ∧ Framed s o t [] 600000 7302250
def lw_Z (below : List Frame) (a : Array Value) (s : State) : State → Prop := fun t => ∃ o, t.status = .running ∧ Ended t below o ∧ lw_Q a s o t
/-- the law's own end, with 1 on the stack, nothing written that was there before, its room as the claim has it -/
theorem lw_ret {p : Program} {l : Launch} {e : Env} {s : State} {m : MethodId} {below : List Frame} {meth : Method} {c : Code} {b : Nat} (hx : p.tables.exec = Jvm.exec) (hb : c.code = code) (hr : meth.sig.returnType = ret) (hlocks : meth.locks = false) {pc : Nat} {H : Heap} {ls : Array Slot} (hdg : decode code pc = .ok (.ireturn, 1)) : W p l e room_1 s m #[Value.ref b] below meth c H [] 600000 7302250 (lw_Z below #[Value.ref b] s) (F0 m pc ls [.int 1]) := by
  intro T hT X
  obtain ⟨fs, hret, hrun, hended, hW, hframe⟩ := X.leave (v := some (.int 1)) (hlocks := hlocks) (fun h => by rw [hr] at h; cases h)
  have hmeth' : T.vm.method? m = some meth := X.method'
  refine ⟨T.setFrames fs, ?_, .returned (some (.int 1)), hrun, hended, rfl, ⟨_, rfl⟩, hW, hframe⟩
  jvm_step X.here [X.here.top, hx, hb, hdg, hmeth', hr, ret, narrow_b1]
  (try refine ⟨rfl, ?_⟩); (try refine ⟨rfl, ?_⟩)
  first | (intro acts; rw [hret _ acts rfl rfl rfl]) | rw [hret _ _ rfl rfl rfl]
  exact Steps.refl _
/-- what holds at the law's entry: the machine, the code, the tables' words (any of lw_tbl by 'hts w (by decide +kernel)'), the script of L ints xs at the cell b, what the Statement gives of the start (any of its parts by flat_of_before) -/
def lw_At (p : Program) (s : State) (m : MethodId) (meth : Method) (c : Code) (b L : Nat) (xs : Nat → Int32) : Prop :=
  p.tables.exec = Jvm.exec ∧ c.code = code ∧ meth.sig.returnType = ret ∧ c.maxLocals = 4 ∧ s.vm.findClass R_law = some m.cls ∧ (∀ w ∈ lw_tbl, w.before #[Value.ref b] s = true) ∧ va_X b L xs s s.heap ∧ b < s.heap.size ∧ meth.locks = false ∧ (Jvm.Cond.and given_1 narrow_1).before #[Value.ref b] s = true
def RX0 : String := "PartingMap$Choice"
def TX0 : u_T := fun k => match k with
  | 0 => ("PartingMap$Choice", "which", "I", false)
  | _ => ("PartingMap$Choice", "fewest", "I", false)
def tyX0 : Nat → FieldType := fun k => match k with
  | 0 => .int
  | _ => .int
theorem nmX0 : ∀ a, a < 2 → ∀ b, b < 2 → a ≠ b → (TX0 a).2.1 ≠ (TX0 b).2.1 := by decide +kernel
theorem tyX0_ok : ∀ k, k < 2 → parseFieldDescriptor (TX0 k).2.2.1 = some (tyX0 k) := by decide +kernel
abbrev cX0_init : ByteArray := prog_2_method_1_code
def yX0_init : MethodName := ⟨RX0, "<init>", "()V"⟩
abbrev cX0_clear : ByteArray := prog_2_method_2_code
def yX0_clear : MethodName := ⟨RX0, "clear", "()V"⟩
abbrev cX0_offer : ByteArray := prog_2_method_3_code
def yX0_offer : MethodName := ⟨RX0, "offer", "(II)V"⟩
def RX1 : String := "PartingMap$Course"
def TX1 : u_T := fun k => match k with
  | 0 => ("PartingMap$Course", "sorts", "[I", true)
  | 1 => ("PartingMap$Course", "views", "[I", true)
  | 2 => ("PartingMap$Course", "homes", "[I", true)
  | 3 => ("PartingMap$Course", "plans", "[I", true)
  | 4 => ("PartingMap$Course", "moved", "[I", true)
  | 5 => ("PartingMap$Course", "came", "[I", true)
  | 6 => ("PartingMap$Course", "who", "[I", true)
  | 7 => ("PartingMap$Course", "trace", "[I", true)
  | 8 => ("PartingMap$Course", "people", "I", false)
  | 9 => ("PartingMap$Course", "moves", "I", false)
  | 10 => ("PartingMap$Course", "tragedies", "I", false)
  | 11 => ("PartingMap$Course", "far", "I", false)
  | 12 => ("PartingMap$Course", "firstQuarter", "I", false)
  | 13 => ("PartingMap$Course", "firstPerson", "I", false)
  | _ => ("PartingMap$Course", "movers", "I", false)
def tyX1 : Nat → FieldType := fun k => match k with
  | 0 => .array .int
  | 1 => .array .int
  | 2 => .array .int
  | 3 => .array .int
  | 4 => .array .int
  | 5 => .array .int
  | 6 => .array .int
  | 7 => .array .int
  | 8 => .int
  | 9 => .int
  | 10 => .int
  | 11 => .int
  | 12 => .int
  | 13 => .int
  | _ => .int
theorem nmX1 : ∀ a, a < 15 → ∀ b, b < 15 → a ≠ b → (TX1 a).2.1 ≠ (TX1 b).2.1 := by decide +kernel
theorem tyX1_ok : ∀ k, k < 15 → parseFieldDescriptor (TX1 k).2.2.1 = some (tyX1 k) := by decide +kernel
abbrev cX1_init : ByteArray := prog_3_method_1_code
def yX1_init : MethodName := ⟨RX1, "<init>", "()V"⟩
abbrev cX1_load : ByteArray := prog_3_method_2_code
def yX1_load : MethodName := ⟨RX1, "load", "(LPartingMap$Text;LPartingMap$Triples;I)V"⟩
abbrev cX1_plan : ByteArray := prog_3_method_3_code
def yX1_plan : MethodName := ⟨RX1, "plan", "(III)V"⟩
abbrev cX1_run : ByteArray := prog_3_method_4_code
def yX1_run : MethodName := ⟨RX1, "run", "()V"⟩
abbrev cX1_begin : ByteArray := prog_3_method_5_code
def yX1_begin : MethodName := ⟨RX1, "begin", "()V"⟩
abbrev cX1_changeMinds : ByteArray := prog_3_method_6_code
def yX1_changeMinds : MethodName := ⟨RX1, "changeMinds", "(I)V"⟩
abbrev cX1_comeRound : ByteArray := prog_3_method_7_code
def yX1_comeRound : MethodName := ⟨RX1, "comeRound", "()V"⟩
abbrev cX1_differences : ByteArray := prog_3_method_8_code
def yX1_differences : MethodName := ⟨RX1, "differences", "(II)I"⟩
abbrev cX1_knock : ByteArray := prog_3_method_9_code
def yX1_knock : MethodName := ⟨RX1, "knock", "(I)V"⟩
abbrev cX1_refuge : ByteArray := prog_3_method_10_code
def yX1_refuge : MethodName := ⟨RX1, "refuge", "(I)I"⟩
abbrev cX1_wouldAgree : ByteArray := prog_3_method_11_code
def yX1_wouldAgree : MethodName := ⟨RX1, "wouldAgree", "(II)Z"⟩
abbrev cX1_keep : ByteArray := prog_3_method_12_code
def yX1_keep : MethodName := ⟨RX1, "keep", "(I)V"⟩
abbrev cX1_homeBehind : ByteArray := prog_3_method_13_code
def yX1_homeBehind : MethodName := ⟨RX1, "homeBehind", "(II)I"⟩
abbrev cX1_viewsBehind : ByteArray := prog_3_method_14_code
def yX1_viewsBehind : MethodName := ⟨RX1, "viewsBehind", "(II)I"⟩
abbrev cX1_movedBehind : ByteArray := prog_3_method_15_code
def yX1_movedBehind : MethodName := ⟨RX1, "movedBehind", "(II)I"⟩
abbrev cX1_cameBehind : ByteArray := prog_3_method_16_code
def yX1_cameBehind : MethodName := ⟨RX1, "cameBehind", "(II)I"⟩
abbrev cX1_agreeBehind : ByteArray := prog_3_method_17_code
def yX1_agreeBehind : MethodName := ⟨RX1, "agreeBehind", "(III)Z"⟩
abbrev cX1_nearBehind : ByteArray := prog_3_method_18_code
def yX1_nearBehind : MethodName := ⟨RX1, "nearBehind", "(III)Z"⟩
abbrev cX1_showsAll : ByteArray := prog_3_method_19_code
def yX1_showsAll : MethodName := ⟨RX1, "showsAll", "(LPartingMap$Triples;)Z"⟩
def RX2 : String := "PartingMap$Row"
def TX2 : u_T := fun k => match k with
  | 0 => ("PartingMap$Row", "items", "[I", true)
  | 1 => ("PartingMap$Row", "form", "I", false)
  | _ => ("PartingMap$Row", "size", "I", false)
def tyX2 : Nat → FieldType := fun k => match k with
  | 0 => .array .int
  | 1 => .int
  | _ => .int
theorem nmX2 : ∀ a, a < 3 → ∀ b, b < 3 → a ≠ b → (TX2 a).2.1 ≠ (TX2 b).2.1 := by decide +kernel
theorem tyX2_ok : ∀ k, k < 3 → parseFieldDescriptor (TX2 k).2.2.1 = some (tyX2 k) := by decide +kernel
abbrev cX2_init : ByteArray := prog_4_method_1_code
def yX2_init : MethodName := ⟨RX2, "<init>", "()V"⟩
abbrev cX2_troubleWith : ByteArray := prog_4_method_2_code
def yX2_troubleWith : MethodName := ⟨RX2, "troubleWith", "(II)I"⟩
abbrev cX2_hasStretch : ByteArray := prog_4_method_3_code
def yX2_hasStretch : MethodName := ⟨RX2, "hasStretch", "(II)Z"⟩
abbrev cX2_put : ByteArray := prog_4_method_4_code
def yX2_put : MethodName := ⟨RX2, "put", "(II)V"⟩
def RX3 : String := "PartingMap$Text"
def TX3 : u_T := fun k => match k with
  | 0 => ("PartingMap$Text", "bytes", "[I", true)
  | 1 => ("PartingMap$Text", "sorts", "[I", true)
  | 2 => ("PartingMap$Text", "views", "[I", true)
  | 3 => ("PartingMap$Text", "homes", "[I", true)
  | 4 => ("PartingMap$Text", "length", "I", false)
  | 5 => ("PartingMap$Text", "people", "I", false)
  | _ => ("PartingMap$Text", "faultPlace", "I", false)
def tyX3 : Nat → FieldType := fun k => match k with
  | 0 => .array .int
  | 1 => .array .int
  | 2 => .array .int
  | 3 => .array .int
  | 4 => .int
  | 5 => .int
  | _ => .int
theorem nmX3 : ∀ a, a < 7 → ∀ b, b < 7 → a ≠ b → (TX3 a).2.1 ≠ (TX3 b).2.1 := by decide +kernel
theorem tyX3_ok : ∀ k, k < 7 → parseFieldDescriptor (TX3 k).2.2.1 = some (tyX3 k) := by decide +kernel
abbrev cX3_init : ByteArray := prog_5_method_1_code
def yX3_init : MethodName := ⟨RX3, "<init>", "()V"⟩
abbrev cX3_parse : ByteArray := prog_5_method_2_code
def yX3_parse : MethodName := ⟨RX3, "parse", "()V"⟩
abbrev cX3_valueAt : ByteArray := prog_5_method_3_code
def yX3_valueAt : MethodName := ⟨RX3, "valueAt", "(I)I"⟩
abbrev cX3_sortOf : ByteArray := prog_5_method_4_code
def yX3_sortOf : MethodName := ⟨RX3, "sortOf", "(I)I"⟩
abbrev cX3_isFreeFor : ByteArray := prog_5_method_5_code
def yX3_isFreeFor : MethodName := ⟨RX3, "isFreeFor", "(II)Z"⟩
def RX4 : String := "PartingMap$Triples"
def TX4 : u_T := fun k => match k with
  | 0 => ("PartingMap$Triples", "a", "[I", true)
  | 1 => ("PartingMap$Triples", "b", "[I", true)
  | 2 => ("PartingMap$Triples", "c", "[I", true)
  | _ => ("PartingMap$Triples", "number", "I", false)
def tyX4 : Nat → FieldType := fun k => match k with
  | 0 => .array .int
  | 1 => .array .int
  | 2 => .array .int
  | _ => .int
theorem nmX4 : ∀ a, a < 4 → ∀ b, b < 4 → a ≠ b → (TX4 a).2.1 ≠ (TX4 b).2.1 := by decide +kernel
theorem tyX4_ok : ∀ k, k < 4 → parseFieldDescriptor (TX4 k).2.2.1 = some (tyX4 k) := by decide +kernel
abbrev cX4_init : ByteArray := prog_6_method_1_code
def yX4_init : MethodName := ⟨RX4, "<init>", "()V"⟩
abbrev cX4_append : ByteArray := prog_6_method_2_code
def yX4_append : MethodName := ⟨RX4, "append", "(III)V"⟩
def RX5 : String := "PartingMap"
def TX5 : u_T := fun k => match k with
  | 0 => ("PartingMap", "text", "LPartingMap$Text;", true)
  | 1 => ("PartingMap", "events", "LPartingMap$Triples;", true)
  | 2 => ("PartingMap", "sights", "LPartingMap$Triples;", true)
  | 3 => ("PartingMap", "told", "LPartingMap$Course;", true)
  | 4 => ("PartingMap", "trial", "LPartingMap$Course;", true)
  | 5 => ("PartingMap", "choice", "LPartingMap$Choice;", true)
  | 6 => ("PartingMap", "rows", "[LPartingMap$Row;", true)
  | 7 => ("PartingMap", "tally", "[I", true)
  | 8 => ("PartingMap", "moversBySubset", "[I", true)
  | 9 => ("PartingMap", "subsetsKnown", "Z", false)
  | _ => ("PartingMap", "finding", "I", false)
def tyX5 : Nat → FieldType := fun k => match k with
  | 0 => .object "PartingMap$Text"
  | 1 => .object "PartingMap$Triples"
  | 2 => .object "PartingMap$Triples"
  | 3 => .object "PartingMap$Course"
  | 4 => .object "PartingMap$Course"
  | 5 => .object "PartingMap$Choice"
  | 6 => .array (.object "PartingMap$Row")
  | 7 => .array .int
  | 8 => .array .int
  | 9 => .boolean
  | _ => .int
theorem nmX5 : ∀ a, a < 11 → ∀ b, b < 11 → a ≠ b → (TX5 a).2.1 ≠ (TX5 b).2.1 := by decide +kernel
theorem tyX5_ok : ∀ k, k < 11 → parseFieldDescriptor (TX5 k).2.2.1 = some (tyX5 k) := by decide +kernel
abbrev cX5_init : ByteArray := prog_1_method_1_code
def yX5_init : MethodName := ⟨RX5, "<init>", "()V"⟩
abbrev cX5_type : ByteArray := prog_1_method_2_code
def yX5_type : MethodName := ⟨RX5, "type", "(I)I"⟩
abbrev cX5_wipe : ByteArray := prog_1_method_3_code
def yX5_wipe : MethodName := ⟨RX5, "wipe", "()I"⟩
abbrev cX5_undo : ByteArray := prog_1_method_4_code
def yX5_undo : MethodName := ⟨RX5, "undo", "()I"⟩
abbrev cX5_fault : ByteArray := prog_1_method_5_code
def yX5_fault : MethodName := ⟨RX5, "fault", "()I"⟩
abbrev cX5_person : ByteArray := prog_1_method_6_code
def yX5_person : MethodName := ⟨RX5, "person", "(II)I"⟩
abbrev cX5_event : ByteArray := prog_1_method_7_code
def yX5_event : MethodName := ⟨RX5, "event", "(III)I"⟩
abbrev cX5_back : ByteArray := prog_1_method_8_code
def yX5_back : MethodName := ⟨RX5, "back", "()I"⟩
abbrev cX5_read : ByteArray := prog_1_method_9_code
def yX5_read : MethodName := ⟨RX5, "read", "(I)I"⟩
abbrev cX5_at : ByteArray := prog_1_method_10_code
def yX5_at : MethodName := ⟨RX5, "at", "(III)I"⟩
abbrev cX5_house : ByteArray := prog_1_method_11_code
def yX5_house : MethodName := ⟨RX5, "house", "(II)I"⟩
abbrev cX5_pairs : ByteArray := prog_1_method_12_code
def yX5_pairs : MethodName := ⟨RX5, "pairs", "(II)I"⟩
abbrev cX5_bored : ByteArray := prog_1_method_13_code
def yX5_bored : MethodName := ⟨RX5, "bored", "(I)I"⟩
abbrev cX5_sum : ByteArray := prog_1_method_14_code
def yX5_sum : MethodName := ⟨RX5, "sum", "(I)I"⟩
abbrev cX5_first : ByteArray := prog_1_method_15_code
def yX5_first : MethodName := ⟨RX5, "first", "(I)I"⟩
abbrev cX5_rooted : ByteArray := prog_1_method_16_code
def yX5_rooted : MethodName := ⟨RX5, "rooted", "()I"⟩
abbrev cX5_friends : ByteArray := prog_1_method_17_code
def yX5_friends : MethodName := ⟨RX5, "friends", "(I)I"⟩
abbrev cX5_settle : ByteArray := prog_1_method_18_code
def yX5_settle : MethodName := ⟨RX5, "settle", "(II)I"⟩
abbrev cX5_think : ByteArray := prog_1_method_19_code
def yX5_think : MethodName := ⟨RX5, "think", "(II)I"⟩
abbrev cX5_rest : ByteArray := prog_1_method_20_code
def yX5_rest : MethodName := ⟨RX5, "rest", "(I)I"⟩
abbrev cX5_spare : ByteArray := prog_1_method_21_code
def yX5_spare : MethodName := ⟨RX5, "spare", "(I)I"⟩
abbrev cX5_seen : ByteArray := prog_1_method_22_code
def yX5_seen : MethodName := ⟨RX5, "seen", "(III)I"⟩
abbrev cX5_forget : ByteArray := prog_1_method_23_code
def yX5_forget : MethodName := ⟨RX5, "forget", "()I"⟩
abbrev cX5_never : ByteArray := prog_1_method_24_code
def yX5_never : MethodName := ⟨RX5, "never", "()I"⟩
abbrev cX5_was : ByteArray := prog_1_method_25_code
def yX5_was : MethodName := ⟨RX5, "was", "(II)I"⟩
abbrev cX5_ask : ByteArray := prog_1_method_26_code
def yX5_ask : MethodName := ⟨RX5, "ask", "(I)I"⟩
abbrev cX5_chance : ByteArray := prog_1_method_27_code
def yX5_chance : MethodName := ⟨RX5, "chance", "(III)J"⟩
abbrev cX5_decades : ByteArray := prog_1_method_28_code
def yX5_decades : MethodName := ⟨RX5, "decades", "(III)I"⟩
abbrev cX5_sheet : ByteArray := prog_1_method_29_code
def yX5_sheet : MethodName := ⟨RX5, "sheet", "(III)I"⟩
abbrev cX5_lose : ByteArray := prog_1_method_30_code
def yX5_lose : MethodName := ⟨RX5, "lose", "(I)I"⟩
abbrev cX5_lay : ByteArray := prog_1_method_31_code
def yX5_lay : MethodName := ⟨RX5, "lay", "(IIII)I"⟩
abbrev cX5_get : ByteArray := prog_1_method_32_code
def yX5_get : MethodName := ⟨RX5, "get", "(III)I"⟩
abbrev cX5_copy : ByteArray := prog_1_method_33_code
def yX5_copy : MethodName := ⟨RX5, "copy", "(IIIII)I"⟩
abbrev cX5_write : ByteArray := prog_1_method_34_code
def yX5_write : MethodName := ⟨RX5, "write", "(II)I"⟩
abbrev cX5_count : ByteArray := prog_1_method_35_code
def yX5_count : MethodName := ⟨RX5, "count", "(I)I"⟩
abbrev cX5_digest : ByteArray := prog_1_method_36_code
def yX5_digest : MethodName := ⟨RX5, "digest", "()J"⟩
abbrev cX5_digestOfPerson : ByteArray := prog_1_method_37_code
def yX5_digestOfPerson : MethodName := ⟨RX5, "digestOfPerson", "(JI)J"⟩
abbrev cX5_retell : ByteArray := prog_1_method_38_code
def yX5_retell : MethodName := ⟨RX5, "retell", "()V"⟩
abbrev cX5_found : ByteArray := prog_1_method_39_code
def yX5_found : MethodName := ⟨RX5, "found", "(I)I"⟩
abbrev cX5_isPerson : ByteArray := prog_1_method_40_code
def yX5_isPerson : MethodName := ⟨RX5, "isPerson", "(I)Z"⟩
abbrev cX5_isBelow : ByteArray := prog_1_method_41_code
def yX5_isBelow : MethodName := ⟨RX5, "isBelow", "(II)Z"⟩
abbrev cX5_mayBeEvent : ByteArray := prog_1_method_42_code
def yX5_mayBeEvent : MethodName := ⟨RX5, "mayBeEvent", "(III)Z"⟩
abbrev cX5_hasBit : ByteArray := prog_1_method_43_code
def yX5_hasBit : MethodName := ⟨RX5, "hasBit", "(II)Z"⟩
abbrev cX5_placeOfBit : ByteArray := prog_1_method_44_code
def yX5_placeOfBit : MethodName := ⟨RX5, "placeOfBit", "(II)I"⟩
abbrev cX5_endsWellWithout : ByteArray := prog_1_method_45_code
def yX5_endsWellWithout : MethodName := ⟨RX5, "endsWellWithout", "(I)Z"⟩
abbrev cX5_tallyHomes : ByteArray := prog_1_method_46_code
def yX5_tallyHomes : MethodName := ⟨RX5, "tallyHomes", "(I)V"⟩
abbrev cX5_quarterOfLeastTally : ByteArray := prog_1_method_47_code
def yX5_quarterOfLeastTally : MethodName := ⟨RX5, "quarterOfLeastTally", "()I"⟩
abbrev cX5_power : ByteArray := prog_1_method_48_code
def yX5_power : MethodName := ⟨RX5, "power", "(JI)J"⟩
abbrev cX5_nextSeed : ByteArray := prog_1_method_49_code
def yX5_nextSeed : MethodName := ⟨RX5, "nextSeed", "(I)I"⟩
abbrev cX5_lot : ByteArray := prog_1_method_50_code
def yX5_lot : MethodName := ⟨RX5, "lot", "(II)I"⟩
def RX6 : String := "PartingMapModel"
def TX6 : u_T := fun k => match k with
  | 0 => ("PartingMapModel", "forms", "[I", true)
  | 1 => ("PartingMapModel", "sizes", "[I", true)
  | 2 => ("PartingMapModel", "items", "[I", true)
  | 3 => ("PartingMapModel", "moved", "[I", true)
  | 4 => ("PartingMapModel", "latest", "I", false)
  | 5 => ("PartingMapModel", "bytes", "[I", true)
  | 6 => ("PartingMapModel", "typed", "I", false)
  | 7 => ("PartingMapModel", "people", "I", false)
  | 8 => ("PartingMapModel", "person", "[I", true)
  | 9 => ("PartingMapModel", "events", "I", false)
  | 10 => ("PartingMapModel", "event", "[I", true)
  | 11 => ("PartingMapModel", "gone", "I", false)
  | 12 => ("PartingMapModel", "oddQuarter", "I", false)
  | 13 => ("PartingMapModel", "oddKind", "I", false)
  | 14 => ("PartingMapModel", "oddPerson", "I", false)
  | 15 => ("PartingMapModel", "house", "[I", true)
  | 16 => ("PartingMapModel", "views", "[I", true)
  | 17 => ("PartingMapModel", "moves", "[I", true)
  | 18 => ("PartingMapModel", "rounds", "[I", true)
  | 19 => ("PartingMapModel", "houseBy", "[I", true)
  | 20 => ("PartingMapModel", "viewsBy", "[I", true)
  | 21 => ("PartingMapModel", "movesBy", "[I", true)
  | 22 => ("PartingMapModel", "roundsBy", "[I", true)
  | 23 => ("PartingMapModel", "holiday", "Z", false)
  | 24 => ("PartingMapModel", "tragedies", "I", false)
  | 25 => ("PartingMapModel", "far", "I", false)
  | 26 => ("PartingMapModel", "firstQuarter", "I", false)
  | 27 => ("PartingMapModel", "firstPerson", "I", false)
  | 28 => ("PartingMapModel", "sights", "I", false)
  | 29 => ("PartingMapModel", "sight", "[I", true)
  | 30 => ("PartingMapModel", "houses", "[I", true)
  | 31 => ("PartingMapModel", "drawn", "I", false)
  | _ => ("PartingMapModel", "told", "[I", true)
def tyX6 : Nat → FieldType := fun k => match k with
  | 0 => .array .int
  | 1 => .array .int
  | 2 => .array .int
  | 3 => .array .int
  | 4 => .int
  | 5 => .array .int
  | 6 => .int
  | 7 => .int
  | 8 => .array .int
  | 9 => .int
  | 10 => .array .int
  | 11 => .int
  | 12 => .int
  | 13 => .int
  | 14 => .int
  | 15 => .array .int
  | 16 => .array .int
  | 17 => .array .int
  | 18 => .array .int
  | 19 => .array .int
  | 20 => .array .int
  | 21 => .array .int
  | 22 => .array .int
  | 23 => .boolean
  | 24 => .int
  | 25 => .int
  | 26 => .int
  | 27 => .int
  | 28 => .int
  | 29 => .array .int
  | 30 => .array .int
  | 31 => .int
  | _ => .array .int
theorem nmX6 : ∀ a, a < 33 → ∀ b, b < 33 → a ≠ b → (TX6 a).2.1 ≠ (TX6 b).2.1 := by decide +kernel
theorem tyX6_ok : ∀ k, k < 33 → parseFieldDescriptor (TX6 k).2.2.1 = some (tyX6 k) := by decide +kernel
abbrev cX6_init : ByteArray := prog_8_method_1_code
def yX6_init : MethodName := ⟨RX6, "<init>", "()V"⟩
abbrev cX6_in : ByteArray := prog_8_method_3_code
def yX6_in : MethodName := ⟨RX6, "in", "(JJJ)Z"⟩
abbrev cX6_no : ByteArray := prog_8_method_4_code
def yX6_no : MethodName := ⟨RX6, "no", "(I)J"⟩
abbrev cX6_isTwo : ByteArray := prog_8_method_5_code
def yX6_isTwo : MethodName := ⟨RX6, "isTwo", "(I)Z"⟩
abbrev cX6_isIn : ByteArray := prog_8_method_6_code
def yX6_isIn : MethodName := ⟨RX6, "isIn", "(II)Z"⟩
abbrev cX6_ones : ByteArray := prog_8_method_7_code
def yX6_ones : MethodName := ⟨RX6, "ones", "(I)I"⟩
abbrev cX6_lesser : ByteArray := prog_8_method_8_code
def yX6_lesser : MethodName := ⟨RX6, "lesser", "(II)I"⟩
abbrev cX6_greater : ByteArray := prog_8_method_9_code
def yX6_greater : MethodName := ⟨RX6, "greater", "(II)I"⟩
abbrev cX6_apart : ByteArray := prog_8_method_10_code
def yX6_apart : MethodName := ⟨RX6, "apart", "(II)I"⟩
abbrev cX6_part : ByteArray := prog_8_method_11_code
def yX6_part : MethodName := ⟨RX6, "part", "(JJI)J"⟩
abbrev cX6_finds : ByteArray := prog_8_method_12_code
def yX6_finds : MethodName := ⟨RX6, "finds", "(I)I"⟩
abbrev cX6_isSheet : ByteArray := prog_8_method_13_code
def yX6_isSheet : MethodName := ⟨RX6, "isSheet", "(I)Z"⟩
abbrev cX6_sheet : ByteArray := prog_8_method_14_code
def yX6_sheet : MethodName := ⟨RX6, "sheet", "(III)I"⟩
abbrev cX6_lose : ByteArray := prog_8_method_15_code
def yX6_lose : MethodName := ⟨RX6, "lose", "(I)I"⟩
abbrev cX6_lacks : ByteArray := prog_8_method_16_code
def yX6_lacks : MethodName := ⟨RX6, "lacks", "(III)I"⟩
abbrev cX6_cut : ByteArray := prog_8_method_17_code
def yX6_cut : MethodName := ⟨RX6, "cut", "(II)I"⟩
abbrev cX6_lay : ByteArray := prog_8_method_18_code
def yX6_lay : MethodName := ⟨RX6, "lay", "(IIII)I"⟩
abbrev cX6_get : ByteArray := prog_8_method_19_code
def yX6_get : MethodName := ⟨RX6, "get", "(III)I"⟩
abbrev cX6_copy : ByteArray := prog_8_method_20_code
def yX6_copy : MethodName := ⟨RX6, "copy", "(IIIII)I"⟩
abbrev cX6_type : ByteArray := prog_8_method_21_code
def yX6_type : MethodName := ⟨RX6, "type", "(I)I"⟩
abbrev cX6_wipe : ByteArray := prog_8_method_22_code
def yX6_wipe : MethodName := ⟨RX6, "wipe", "()I"⟩
abbrev cX6_undo : ByteArray := prog_8_method_23_code
def yX6_undo : MethodName := ⟨RX6, "undo", "()I"⟩
abbrev cX6_figureOf : ByteArray := prog_8_method_24_code
def yX6_figureOf : MethodName := ⟨RX6, "figureOf", "(II)I"⟩
abbrev cX6_isTaken : ByteArray := prog_8_method_25_code
def yX6_isTaken : MethodName := ⟨RX6, "isTaken", "(I)Z"⟩
abbrev cX6_byteOf : ByteArray := prog_8_method_26_code
def yX6_byteOf : MethodName := ⟨RX6, "byteOf", "(II)I"⟩
abbrev cX6_reads : ByteArray := prog_8_method_27_code
def yX6_reads : MethodName := ⟨RX6, "reads", "()I"⟩
abbrev cX6_fault : ByteArray := prog_8_method_28_code
def yX6_fault : MethodName := ⟨RX6, "fault", "()I"⟩
abbrev cX6_isPerson : ByteArray := prog_8_method_29_code
def yX6_isPerson : MethodName := ⟨RX6, "isPerson", "(I)Z"⟩
abbrev cX6_isQuarter : ByteArray := prog_8_method_30_code
def yX6_isQuarter : MethodName := ⟨RX6, "isQuarter", "(I)Z"⟩
abbrev cX6_isHouse : ByteArray := prog_8_method_31_code
def yX6_isHouse : MethodName := ⟨RX6, "isHouse", "(I)Z"⟩
abbrev cX6_person : ByteArray := prog_8_method_32_code
def yX6_person : MethodName := ⟨RX6, "person", "(II)I"⟩
abbrev cX6_keeps : ByteArray := prog_8_method_33_code
def yX6_keeps : MethodName := ⟨RX6, "keeps", "(III)V"⟩
abbrev cX6_event : ByteArray := prog_8_method_34_code
def yX6_event : MethodName := ⟨RX6, "event", "(III)I"⟩
abbrev cX6_back : ByteArray := prog_8_method_35_code
def yX6_back : MethodName := ⟨RX6, "back", "()I"⟩
abbrev cX6_read : ByteArray := prog_8_method_36_code
def yX6_read : MethodName := ⟨RX6, "read", "(I)I"⟩
abbrev cX6_happens : ByteArray := prog_8_method_37_code
def yX6_happens : MethodName := ⟨RX6, "happens", "(II)V"⟩
abbrev cX6_whoIn : ByteArray := prog_8_method_38_code
def yX6_whoIn : MethodName := ⟨RX6, "whoIn", "(I)I"⟩
abbrev cX6_agree : ByteArray := prog_8_method_39_code
def yX6_agree : MethodName := ⟨RX6, "agree", "(II)Z"⟩
abbrev cX6_isOther : ByteArray := prog_8_method_40_code
def yX6_isOther : MethodName := ⟨RX6, "isOther", "(II)Z"⟩
abbrev cX6_comes : ByteArray := prog_8_method_41_code
def yX6_comes : MethodName := ⟨RX6, "comes", "(I)V"⟩
abbrev cX6_isDead : ByteArray := prog_8_method_42_code
def yX6_isDead : MethodName := ⟨RX6, "isDead", "(II)Z"⟩
abbrev cX6_knocks : ByteArray := prog_8_method_43_code
def yX6_knocks : MethodName := ⟨RX6, "knocks", "(II)V"⟩
abbrev cX6_passes : ByteArray := prog_8_method_44_code
def yX6_passes : MethodName := ⟨RX6, "passes", "(I)V"⟩
abbrev cX6_lives : ByteArray := prog_8_method_45_code
def yX6_lives : MethodName := ⟨RX6, "lives", "()V"⟩
abbrev cX6_find : ByteArray := prog_8_method_46_code
def yX6_find : MethodName := ⟨RX6, "find", "()V"⟩
abbrev cX6_atBy : ByteArray := prog_8_method_47_code
def yX6_atBy : MethodName := ⟨RX6, "atBy", "(III)I"⟩
abbrev cX6_at : ByteArray := prog_8_method_48_code
def yX6_at : MethodName := ⟨RX6, "at", "(III)I"⟩
abbrev cX6_houseOf : ByteArray := prog_8_method_49_code
def yX6_houseOf : MethodName := ⟨RX6, "houseOf", "(II)I"⟩
abbrev cX6_house : ByteArray := prog_8_method_50_code
def yX6_house : MethodName := ⟨RX6, "house", "(II)I"⟩
abbrev cX6_agreed : ByteArray := prog_8_method_51_code
def yX6_agreed : MethodName := ⟨RX6, "agreed", "(III)Z"⟩
abbrev cX6_pairsOf : ByteArray := prog_8_method_52_code
def yX6_pairsOf : MethodName := ⟨RX6, "pairsOf", "(II)I"⟩
abbrev cX6_pairs : ByteArray := prog_8_method_53_code
def yX6_pairs : MethodName := ⟨RX6, "pairs", "(II)I"⟩
abbrev cX6_boredOf : ByteArray := prog_8_method_54_code
def yX6_boredOf : MethodName := ⟨RX6, "boredOf", "(I)I"⟩
abbrev cX6_bored : ByteArray := prog_8_method_55_code
def yX6_bored : MethodName := ⟨RX6, "bored", "(I)I"⟩
abbrev cX6_movesNow : ByteArray := prog_8_method_56_code
def yX6_movesNow : MethodName := ⟨RX6, "movesNow", "()I"⟩
abbrev cX6_sumBy : ByteArray := prog_8_method_57_code
def yX6_sumBy : MethodName := ⟨RX6, "sumBy", "(I)I"⟩
abbrev cX6_sum : ByteArray := prog_8_method_58_code
def yX6_sum : MethodName := ⟨RX6, "sum", "(I)I"⟩
abbrev cX6_first : ByteArray := prog_8_method_59_code
def yX6_first : MethodName := ⟨RX6, "first", "(I)I"⟩
abbrev cX6_rootedNow : ByteArray := prog_8_method_60_code
def yX6_rootedNow : MethodName := ⟨RX6, "rootedNow", "()I"⟩
abbrev cX6_rooted : ByteArray := prog_8_method_61_code
def yX6_rooted : MethodName := ⟨RX6, "rooted", "()I"⟩
abbrev cX6_friendsOf : ByteArray := prog_8_method_62_code
def yX6_friendsOf : MethodName := ⟨RX6, "friendsOf", "(I)I"⟩
abbrev cX6_friends : ByteArray := prog_8_method_63_code
def yX6_friends : MethodName := ⟨RX6, "friends", "(I)I"⟩
abbrev cX6_isFree : ByteArray := prog_8_method_64_code
def yX6_isFree : MethodName := ⟨RX6, "isFree", "(II)Z"⟩
abbrev cX6_settleOf : ByteArray := prog_8_method_65_code
def yX6_settleOf : MethodName := ⟨RX6, "settleOf", "(II)I"⟩
abbrev cX6_settle : ByteArray := prog_8_method_66_code
def yX6_settle : MethodName := ⟨RX6, "settle", "(II)I"⟩
abbrev cX6_thinkOf : ByteArray := prog_8_method_67_code
def yX6_thinkOf : MethodName := ⟨RX6, "thinkOf", "(II)I"⟩
abbrev cX6_think : ByteArray := prog_8_method_68_code
def yX6_think : MethodName := ⟨RX6, "think", "(II)I"⟩
abbrev cX6_restBy : ByteArray := prog_8_method_69_code
def yX6_restBy : MethodName := ⟨RX6, "restBy", "(I)I"⟩
abbrev cX6_rest : ByteArray := prog_8_method_70_code
def yX6_rest : MethodName := ⟨RX6, "rest", "(I)I"⟩
abbrev cX6_isSpared : ByteArray := prog_8_method_71_code
def yX6_isSpared : MethodName := ⟨RX6, "isSpared", "(I)Z"⟩
abbrev cX6_spareBy : ByteArray := prog_8_method_72_code
def yX6_spareBy : MethodName := ⟨RX6, "spareBy", "(I)I"⟩
abbrev cX6_spare : ByteArray := prog_8_method_73_code
def yX6_spare : MethodName := ⟨RX6, "spare", "(I)I"⟩
abbrev cX6_seen : ByteArray := prog_8_method_74_code
def yX6_seen : MethodName := ⟨RX6, "seen", "(III)I"⟩
abbrev cX6_forget : ByteArray := prog_8_method_75_code
def yX6_forget : MethodName := ⟨RX6, "forget", "()I"⟩
abbrev cX6_isSeen : ByteArray := prog_8_method_76_code
def yX6_isSeen : MethodName := ⟨RX6, "isSeen", "()Z"⟩
abbrev cX6_neverNow : ByteArray := prog_8_method_77_code
def yX6_neverNow : MethodName := ⟨RX6, "neverNow", "()I"⟩
abbrev cX6_never : ByteArray := prog_8_method_78_code
def yX6_never : MethodName := ⟨RX6, "never", "()I"⟩
abbrev cX6_thoughtOf : ByteArray := prog_8_method_79_code
def yX6_thoughtOf : MethodName := ⟨RX6, "thoughtOf", "(I)I"⟩
abbrev cX6_sortOf : ByteArray := prog_8_method_80_code
def yX6_sortOf : MethodName := ⟨RX6, "sortOf", "(I)I"⟩
abbrev cX6_wasOf : ByteArray := prog_8_method_81_code
def yX6_wasOf : MethodName := ⟨RX6, "wasOf", "(II)I"⟩
abbrev cX6_was : ByteArray := prog_8_method_82_code
def yX6_was : MethodName := ⟨RX6, "was", "(II)I"⟩
abbrev cX6_alike : ByteArray := prog_8_method_83_code
def yX6_alike : MethodName := ⟨RX6, "alike", "(II)I"⟩
abbrev cX6_askOf : ByteArray := prog_8_method_84_code
def yX6_askOf : MethodName := ⟨RX6, "askOf", "(I)I"⟩
abbrev cX6_ask : ByteArray := prog_8_method_85_code
def yX6_ask : MethodName := ⟨RX6, "ask", "(I)I"⟩
abbrev cX6_chanceOf : ByteArray := prog_8_method_86_code
def yX6_chanceOf : MethodName := ⟨RX6, "chanceOf", "(III)J"⟩
abbrev cX6_chance : ByteArray := prog_8_method_87_code
def yX6_chance : MethodName := ⟨RX6, "chance", "(III)J"⟩
abbrev cX6_lot : ByteArray := prog_8_method_88_code
def yX6_lot : MethodName := ⟨RX6, "lot", "(I)I"⟩
abbrev cX6_decadesOf : ByteArray := prog_8_method_89_code
def yX6_decadesOf : MethodName := ⟨RX6, "decadesOf", "(III)I"⟩
abbrev cX6_decades : ByteArray := prog_8_method_90_code
def yX6_decades : MethodName := ⟨RX6, "decades", "(III)I"⟩
abbrev cX6_write : ByteArray := prog_8_method_91_code
def yX6_write : MethodName := ⟨RX6, "write", "(II)I"⟩
abbrev cX6_count : ByteArray := prog_8_method_92_code
def yX6_count : MethodName := ⟨RX6, "count", "(I)I"⟩
abbrev cX6_tellsQuarter : ByteArray := prog_8_method_93_code
def yX6_tellsQuarter : MethodName := ⟨RX6, "tellsQuarter", "(JII)J"⟩
abbrev cX6_tellsPerson : ByteArray := prog_8_method_94_code
def yX6_tellsPerson : MethodName := ⟨RX6, "tellsPerson", "(JI)J"⟩
abbrev cX6_digest : ByteArray := prog_8_method_95_code
def yX6_digest : MethodName := ⟨RX6, "digest", "()J"⟩
def RJ6 : String := "java/lang/Integer"
abbrev cJ6_bitCount_0f7a4 : ByteArray := prog_9_method_49_code
def yJ6_bitCount_0f7a4 : MethodName := ⟨RJ6, "bitCount", "(I)I"⟩
def RJ9 : String := "java/lang/Math"
abbrev cJ9_abs_0f7a4 : ByteArray := prog_10_method_59_code
def yJ9_abs_0f7a4 : MethodName := ⟨RJ9, "abs", "(I)I"⟩
abbrev cJ9_max_7cf53 : ByteArray := prog_10_method_65_code
def yJ9_max_7cf53 : MethodName := ⟨RJ9, "max", "(II)I"⟩
abbrev cJ9_min_7cf53 : ByteArray := prog_10_method_69_code
def yJ9_min_7cf53 : MethodName := ⟨RJ9, "min", "(II)I"⟩
def RJ10 : String := "java/lang/System"
def RJ7 : String := "java/util/Arrays"
abbrev cJ7_fill_53178 : ByteArray := prog_12_method_103_code
def yJ7_fill_53178 : MethodName := ⟨RJ7, "fill", "([II)V"⟩
def RL : String := "PartingMapLaw"
abbrev cL_law : ByteArray := code
def yL_law : MethodName := ⟨RL, "law", "([I)Z"⟩
