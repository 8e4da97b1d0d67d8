-- ===== PART A: goes FIRST, ahead of the names: the tables' words, and 'selects' of the private methods out of them =====
/-- a private method of a class that the tables say can be made, by its rows of tables_1 -/
def lw_okq (q : MethodName × Nat) : Prop := (q.1.cls ≠ "java/lang/invoke/MethodHandle" ∧ q.1.cls ≠ "java/lang/invoke/VarHandle") ∧ Cond.instantiable q.1.cls q.2 ∈ tables_1 ∧ Cond.privateMethod q.1 ∈ tables_1 ∧ Cond.instanceMethod q.1 ∈ tables_1
theorem lw_p0 : lw_okq (⟨"BasinVotes", "finding", "(I)I"⟩, 8) := ⟨⟨by decide +kernel, by decide +kernel⟩, List.mem_of_getElem? (i := 16) (by decide +kernel), List.mem_of_getElem? (i := 180) (by decide +kernel), List.mem_of_getElem? (i := 181) (by decide +kernel)⟩
theorem lw_p1 : lw_okq (⟨"BasinVotes$Town", "ladySide", "(II)I"⟩, 10) := ⟨⟨by decide +kernel, by decide +kernel⟩, List.mem_of_getElem? (i := 24) (by decide +kernel), List.mem_of_getElem? (i := 230) (by decide +kernel), List.mem_of_getElem? (i := 231) (by decide +kernel)⟩
theorem lw_p2 : lw_okq (⟨"BasinVotes$Town", "throwerSide", "(II)I"⟩, 10) := ⟨⟨by decide +kernel, by decide +kernel⟩, List.mem_of_getElem? (i := 24) (by decide +kernel), List.mem_of_getElem? (i := 234) (by decide +kernel), List.mem_of_getElem? (i := 235) (by decide +kernel)⟩
theorem lw_p3 : lw_okq (⟨"BasinVotes", "isPerson", "(I)Z"⟩, 8) := ⟨⟨by decide +kernel, by decide +kernel⟩, List.mem_of_getElem? (i := 16) (by decide +kernel), List.mem_of_getElem? (i := 265) (by decide +kernel), List.mem_of_getElem? (i := 266) (by decide +kernel)⟩
theorem lw_p4 : lw_okq (⟨"BasinVotes$Town", "visit", "(II)V"⟩, 10) := ⟨⟨by decide +kernel, by decide +kernel⟩, List.mem_of_getElem? (i := 24) (by decide +kernel), List.mem_of_getElem? (i := 336) (by decide +kernel), List.mem_of_getElem? (i := 337) (by decide +kernel)⟩
theorem lw_p5 : lw_okq (⟨"BasinVotes$Town", "net", "(I)V"⟩, 10) := ⟨⟨by decide +kernel, by decide +kernel⟩, List.mem_of_getElem? (i := 24) (by decide +kernel), List.mem_of_getElem? (i := 345) (by decide +kernel), List.mem_of_getElem? (i := 346) (by decide +kernel)⟩
theorem lw_p6 : lw_okq (⟨"BasinVotes", "tryDays", "(I)V"⟩, 8) := ⟨⟨by decide +kernel, by decide +kernel⟩, List.mem_of_getElem? (i := 16) (by decide +kernel), List.mem_of_getElem? (i := 353) (by decide +kernel), List.mem_of_getElem? (i := 354) (by decide +kernel)⟩
theorem lw_p7 : lw_okq (⟨"BasinVotes", "heldIfBribed", "(II)I"⟩, 8) := ⟨⟨by decide +kernel, by decide +kernel⟩, List.mem_of_getElem? (i := 16) (by decide +kernel), List.mem_of_getElem? (i := 403) (by decide +kernel), List.mem_of_getElem? (i := 404) (by decide +kernel)⟩
theorem lw_p8 : lw_okq (⟨"BasinVotes$TextReader", "next", "()V"⟩, 6) := ⟨⟨by decide +kernel, by decide +kernel⟩, List.mem_of_getElem? (i := 92) (by decide +kernel), List.mem_of_getElem? (i := 435) (by decide +kernel), List.mem_of_getElem? (i := 436) (by decide +kernel)⟩
theorem lw_p9 : lw_okq (⟨"BasinVotes$TextReader", "byteAt", "(I)I"⟩, 6) := ⟨⟨by decide +kernel, by decide +kernel⟩, List.mem_of_getElem? (i := 92) (by decide +kernel), List.mem_of_getElem? (i := 439) (by decide +kernel), List.mem_of_getElem? (i := 440) (by decide +kernel)⟩
theorem lw_p10 : lw_okq (⟨"BasinVotes$TextReader", "nextWord", "()V"⟩, 6) := ⟨⟨by decide +kernel, by decide +kernel⟩, List.mem_of_getElem? (i := 92) (by decide +kernel), List.mem_of_getElem? (i := 446) (by decide +kernel), List.mem_of_getElem? (i := 447) (by decide +kernel)⟩
theorem lw_p11 : lw_okq (⟨"BasinVotes$TextReader", "nextNumber", "()V"⟩, 6) := ⟨⟨by decide +kernel, by decide +kernel⟩, List.mem_of_getElem? (i := 92) (by decide +kernel), List.mem_of_getElem? (i := 453) (by decide +kernel), List.mem_of_getElem? (i := 454) (by decide +kernel)⟩
theorem lw_p12 : lw_okq (⟨"BasinVotes$TextReader", "readItem", "()Z"⟩, 6) := ⟨⟨by decide +kernel, by decide +kernel⟩, List.mem_of_getElem? (i := 92) (by decide +kernel), List.mem_of_getElem? (i := 458) (by decide +kernel), List.mem_of_getElem? (i := 459) (by decide +kernel)⟩
theorem lw_p13 : lw_okq (⟨"BasinVotes$TextReader", "kindNamed", "()I"⟩, 6) := ⟨⟨by decide +kernel, by decide +kernel⟩, List.mem_of_getElem? (i := 92) (by decide +kernel), List.mem_of_getElem? (i := 462) (by decide +kernel), List.mem_of_getElem? (i := 463) (by decide +kernel)⟩
theorem lw_p14 : lw_okq (⟨"BasinVotes$TextReader", "isWord", "(Ljava/lang/String;)Z"⟩, 6) := ⟨⟨by decide +kernel, by decide +kernel⟩, List.mem_of_getElem? (i := 92) (by decide +kernel), List.mem_of_getElem? (i := 467) (by decide +kernel), List.mem_of_getElem? (i := 468) (by decide +kernel)⟩
theorem lw_p15 : lw_okq (⟨"BasinVotes$TextReader", "readPerson", "(I)Z"⟩, 6) := ⟨⟨by decide +kernel, by decide +kernel⟩, List.mem_of_getElem? (i := 92) (by decide +kernel), List.mem_of_getElem? (i := 525) (by decide +kernel), List.mem_of_getElem? (i := 526) (by decide +kernel)⟩
def lw_privs_1 : List (MethodName × Nat) := [(⟨"BasinVotes", "finding", "(I)I"⟩, 8), (⟨"BasinVotes$Town", "ladySide", "(II)I"⟩, 10), (⟨"BasinVotes$Town", "throwerSide", "(II)I"⟩, 10), (⟨"BasinVotes", "isPerson", "(I)Z"⟩, 8), (⟨"BasinVotes$Town", "visit", "(II)V"⟩, 10), (⟨"BasinVotes$Town", "net", "(I)V"⟩, 10), (⟨"BasinVotes", "tryDays", "(I)V"⟩, 8), (⟨"BasinVotes", "heldIfBribed", "(II)I"⟩, 8), (⟨"BasinVotes$TextReader", "next", "()V"⟩, 6), (⟨"BasinVotes$TextReader", "byteAt", "(I)I"⟩, 6), (⟨"BasinVotes$TextReader", "nextWord", "()V"⟩, 6), (⟨"BasinVotes$TextReader", "nextNumber", "()V"⟩, 6), (⟨"BasinVotes$TextReader", "readItem", "()Z"⟩, 6), (⟨"BasinVotes$TextReader", "kindNamed", "()I"⟩, 6), (⟨"BasinVotes$TextReader", "isWord", "(Ljava/lang/String;)Z"⟩, 6), (⟨"BasinVotes$TextReader", "readPerson", "(I)Z"⟩, 6)]
theorem lw_r1 : ∀ q ∈ lw_privs_1, lw_okq q := List.forall_mem_cons.mpr ⟨lw_p0, List.forall_mem_cons.mpr ⟨lw_p1, List.forall_mem_cons.mpr ⟨lw_p2, List.forall_mem_cons.mpr ⟨lw_p3, List.forall_mem_cons.mpr ⟨lw_p4, List.forall_mem_cons.mpr ⟨lw_p5, List.forall_mem_cons.mpr ⟨lw_p6, List.forall_mem_cons.mpr ⟨lw_p7, List.forall_mem_cons.mpr ⟨lw_p8, List.forall_mem_cons.mpr ⟨lw_p9, List.forall_mem_cons.mpr ⟨lw_p10, List.forall_mem_cons.mpr ⟨lw_p11, List.forall_mem_cons.mpr ⟨lw_p12, List.forall_mem_cons.mpr ⟨lw_p13, List.forall_mem_cons.mpr ⟨lw_p14, List.forall_mem_cons.mpr ⟨lw_p15, fun _ h => absurd h List.not_mem_nil⟩⟩⟩⟩⟩⟩⟩⟩⟩⟩⟩⟩⟩⟩⟩⟩
theorem lw_p16 : lw_okq (⟨"BasinVotes$TextReader", "isNumber", "(I)Z"⟩, 6) := ⟨⟨by decide +kernel, by decide +kernel⟩, List.mem_of_getElem? (i := 92) (by decide +kernel), List.mem_of_getElem? (i := 532) (by decide +kernel), List.mem_of_getElem? (i := 533) (by decide +kernel)⟩
theorem lw_p17 : lw_okq (⟨"BasinVotes$TextReader", "readLying", "(I)Z"⟩, 6) := ⟨⟨by decide +kernel, by decide +kernel⟩, List.mem_of_getElem? (i := 92) (by decide +kernel), List.mem_of_getElem? (i := 538) (by decide +kernel), List.mem_of_getElem? (i := 539) (by decide +kernel)⟩
theorem lw_p18 : lw_okq (⟨"BasinVotes$TextReader", "readBribe", "()Z"⟩, 6) := ⟨⟨by decide +kernel, by decide +kernel⟩, List.mem_of_getElem? (i := 92) (by decide +kernel), List.mem_of_getElem? (i := 545) (by decide +kernel), List.mem_of_getElem? (i := 546) (by decide +kernel)⟩
theorem lw_p19 : lw_okq (⟨"BasinVotes$TextReader", "readAway", "()Z"⟩, 6) := ⟨⟨by decide +kernel, by decide +kernel⟩, List.mem_of_getElem? (i := 92) (by decide +kernel), List.mem_of_getElem? (i := 550) (by decide +kernel), List.mem_of_getElem? (i := 551) (by decide +kernel)⟩
theorem lw_p20 : lw_okq (⟨"BasinVotes", "trialGoesAsBooked", "(II)Z"⟩, 8) := ⟨⟨by decide +kernel, by decide +kernel⟩, List.mem_of_getElem? (i := 16) (by decide +kernel), List.mem_of_getElem? (i := 603) (by decide +kernel), List.mem_of_getElem? (i := 604) (by decide +kernel)⟩
theorem lw_p21 : lw_okq (⟨"BasinVotesModel", "becomes", "(II)I"⟩, 16) := ⟨⟨by decide +kernel, by decide +kernel⟩, List.mem_of_getElem? (i := 627) (by decide +kernel), List.mem_of_getElem? (i := 697) (by decide +kernel), List.mem_of_getElem? (i := 698) (by decide +kernel)⟩
theorem lw_p22 : lw_okq (⟨"BasinVotesModel", "finds", "(I)I"⟩, 16) := ⟨⟨by decide +kernel, by decide +kernel⟩, List.mem_of_getElem? (i := 627) (by decide +kernel), List.mem_of_getElem? (i := 702) (by decide +kernel), List.mem_of_getElem? (i := 703) (by decide +kernel)⟩
theorem lw_p23 : lw_okq (⟨"BasinVotesModel", "heldIn", "(I)I"⟩, 16) := ⟨⟨by decide +kernel, by decide +kernel⟩, List.mem_of_getElem? (i := 627) (by decide +kernel), List.mem_of_getElem? (i := 711) (by decide +kernel), List.mem_of_getElem? (i := 712) (by decide +kernel)⟩
theorem lw_p24 : lw_okq (⟨"BasinVotesModel", "ofDay", "()I"⟩, 16) := ⟨⟨by decide +kernel, by decide +kernel⟩, List.mem_of_getElem? (i := 627) (by decide +kernel), List.mem_of_getElem? (i := 728) (by decide +kernel), List.mem_of_getElem? (i := 729) (by decide +kernel)⟩
theorem lw_p25 : lw_okq (⟨"BasinVotesModel", "leftOnes", "()I"⟩, 16) := ⟨⟨by decide +kernel, by decide +kernel⟩, List.mem_of_getElem? (i := 627) (by decide +kernel), List.mem_of_getElem? (i := 732) (by decide +kernel), List.mem_of_getElem? (i := 733) (by decide +kernel)⟩
theorem lw_p26 : lw_okq (⟨"BasinVotesModel", "its", "(II)I"⟩, 16) := ⟨⟨by decide +kernel, by decide +kernel⟩, List.mem_of_getElem? (i := 627) (by decide +kernel), List.mem_of_getElem? (i := 736) (by decide +kernel), List.mem_of_getElem? (i := 737) (by decide +kernel)⟩
theorem lw_p27 : lw_okq (⟨"BasinVotesModel", "sideOf", "(II)I"⟩, 16) := ⟨⟨by decide +kernel, by decide +kernel⟩, List.mem_of_getElem? (i := 627) (by decide +kernel), List.mem_of_getElem? (i := 743) (by decide +kernel), List.mem_of_getElem? (i := 744) (by decide +kernel)⟩
theorem lw_p28 : lw_okq (⟨"BasinVotesModel", "ladySide", "(II)I"⟩, 16) := ⟨⟨by decide +kernel, by decide +kernel⟩, List.mem_of_getElem? (i := 627) (by decide +kernel), List.mem_of_getElem? (i := 747) (by decide +kernel), List.mem_of_getElem? (i := 748) (by decide +kernel)⟩
theorem lw_p29 : lw_okq (⟨"BasinVotesModel", "pence", "()I"⟩, 16) := ⟨⟨by decide +kernel, by decide +kernel⟩, List.mem_of_getElem? (i := 627) (by decide +kernel), List.mem_of_getElem? (i := 751) (by decide +kernel), List.mem_of_getElem? (i := 752) (by decide +kernel)⟩
theorem lw_p30 : lw_okq (⟨"BasinVotesModel", "together", "(I)I"⟩, 16) := ⟨⟨by decide +kernel, by decide +kernel⟩, List.mem_of_getElem? (i := 627) (by decide +kernel), List.mem_of_getElem? (i := 755) (by decide +kernel), List.mem_of_getElem? (i := 756) (by decide +kernel)⟩
theorem lw_p31 : lw_okq (⟨"BasinVotesModel", "adds", "(I)I"⟩, 16) := ⟨⟨by decide +kernel, by decide +kernel⟩, List.mem_of_getElem? (i := 627) (by decide +kernel), List.mem_of_getElem? (i := 767) (by decide +kernel), List.mem_of_getElem? (i := 768) (by decide +kernel)⟩
def lw_privs_2 : List (MethodName × Nat) := [(⟨"BasinVotes$TextReader", "isNumber", "(I)Z"⟩, 6), (⟨"BasinVotes$TextReader", "readLying", "(I)Z"⟩, 6), (⟨"BasinVotes$TextReader", "readBribe", "()Z"⟩, 6), (⟨"BasinVotes$TextReader", "readAway", "()Z"⟩, 6), (⟨"BasinVotes", "trialGoesAsBooked", "(II)Z"⟩, 8), (⟨"BasinVotesModel", "becomes", "(II)I"⟩, 16), (⟨"BasinVotesModel", "finds", "(I)I"⟩, 16), (⟨"BasinVotesModel", "heldIn", "(I)I"⟩, 16), (⟨"BasinVotesModel", "ofDay", "()I"⟩, 16), (⟨"BasinVotesModel", "leftOnes", "()I"⟩, 16), (⟨"BasinVotesModel", "its", "(II)I"⟩, 16), (⟨"BasinVotesModel", "sideOf", "(II)I"⟩, 16), (⟨"BasinVotesModel", "ladySide", "(II)I"⟩, 16), (⟨"BasinVotesModel", "pence", "()I"⟩, 16), (⟨"BasinVotesModel", "together", "(I)I"⟩, 16), (⟨"BasinVotesModel", "adds", "(I)I"⟩, 16)]
theorem lw_r2 : ∀ q ∈ lw_privs_2, lw_okq q := List.forall_mem_cons.mpr ⟨lw_p16, List.forall_mem_cons.mpr ⟨lw_p17, List.forall_mem_cons.mpr ⟨lw_p18, List.forall_mem_cons.mpr ⟨lw_p19, List.forall_mem_cons.mpr ⟨lw_p20, List.forall_mem_cons.mpr ⟨lw_p21, List.forall_mem_cons.mpr ⟨lw_p22, List.forall_mem_cons.mpr ⟨lw_p23, List.forall_mem_cons.mpr ⟨lw_p24, List.forall_mem_cons.mpr ⟨lw_p25, List.forall_mem_cons.mpr ⟨lw_p26, List.forall_mem_cons.mpr ⟨lw_p27, List.forall_mem_cons.mpr ⟨lw_p28, List.forall_mem_cons.mpr ⟨lw_p29, List.forall_mem_cons.mpr ⟨lw_p30, List.forall_mem_cons.mpr ⟨lw_p31, fun _ h => absurd h List.not_mem_nil⟩⟩⟩⟩⟩⟩⟩⟩⟩⟩⟩⟩⟩⟩⟩⟩
theorem lw_p32 : lw_okq (⟨"BasinVotesModel", "isPerson", "(I)Z"⟩, 16) := ⟨⟨by decide +kernel, by decide +kernel⟩, List.mem_of_getElem? (i := 627) (by decide +kernel), List.mem_of_getElem? (i := 775) (by decide +kernel), List.mem_of_getElem? (i := 776) (by decide +kernel)⟩
theorem lw_p33 : lw_okq (⟨"BasinVotesModel", "throwsOf", "(I)I"⟩, 16) := ⟨⟨by decide +kernel, by decide +kernel⟩, List.mem_of_getElem? (i := 627) (by decide +kernel), List.mem_of_getElem? (i := 779) (by decide +kernel), List.mem_of_getElem? (i := 780) (by decide +kernel)⟩
theorem lw_p34 : lw_okq (⟨"BasinVotesModel", "earnsOf", "(I)I"⟩, 16) := ⟨⟨by decide +kernel, by decide +kernel⟩, List.mem_of_getElem? (i := 627) (by decide +kernel), List.mem_of_getElem? (i := 786) (by decide +kernel), List.mem_of_getElem? (i := 787) (by decide +kernel)⟩
theorem lw_p35 : lw_okq (⟨"BasinVotesModel", "divesOf", "(II)I"⟩, 16) := ⟨⟨by decide +kernel, by decide +kernel⟩, List.mem_of_getElem? (i := 627) (by decide +kernel), List.mem_of_getElem? (i := 794) (by decide +kernel), List.mem_of_getElem? (i := 795) (by decide +kernel)⟩
theorem lw_p36 : lw_okq (⟨"BasinVotesModel", "fuller", "(I)I"⟩, 16) := ⟨⟨by decide +kernel, by decide +kernel⟩, List.mem_of_getElem? (i := 627) (by decide +kernel), List.mem_of_getElem? (i := 798) (by decide +kernel), List.mem_of_getElem? (i := 799) (by decide +kernel)⟩
theorem lw_p37 : lw_okq (⟨"BasinVotesModel", "daysGo", "(I)V"⟩, 16) := ⟨⟨by decide +kernel, by decide +kernel⟩, List.mem_of_getElem? (i := 627) (by decide +kernel), List.mem_of_getElem? (i := 826) (by decide +kernel), List.mem_of_getElem? (i := 827) (by decide +kernel)⟩
theorem lw_p38 : lw_okq (⟨"BasinVotesModel", "day", "()V"⟩, 16) := ⟨⟨by decide +kernel, by decide +kernel⟩, List.mem_of_getElem? (i := 627) (by decide +kernel), List.mem_of_getElem? (i := 830) (by decide +kernel), List.mem_of_getElem? (i := 831) (by decide +kernel)⟩
theorem lw_p39 : lw_okq (⟨"BasinVotesModel", "comes", "(II)V"⟩, 16) := ⟨⟨by decide +kernel, by decide +kernel⟩, List.mem_of_getElem? (i := 627) (by decide +kernel), List.mem_of_getElem? (i := 834) (by decide +kernel), List.mem_of_getElem? (i := 835) (by decide +kernel)⟩
theorem lw_p40 : lw_okq (⟨"BasinVotesModel", "net", "(I)V"⟩, 16) := ⟨⟨by decide +kernel, by decide +kernel⟩, List.mem_of_getElem? (i := 627) (by decide +kernel), List.mem_of_getElem? (i := 838) (by decide +kernel), List.mem_of_getElem? (i := 839) (by decide +kernel)⟩
theorem lw_p41 : lw_okq (⟨"BasinVotesModel", "behind", "(II)I"⟩, 16) := ⟨⟨by decide +kernel, by decide +kernel⟩, List.mem_of_getElem? (i := 627) (by decide +kernel), List.mem_of_getElem? (i := 850) (by decide +kernel), List.mem_of_getElem? (i := 851) (by decide +kernel)⟩
theorem lw_p42 : lw_okq (⟨"BasinVotesModel", "laysAside", "()V"⟩, 16) := ⟨⟨by decide +kernel, by decide +kernel⟩, List.mem_of_getElem? (i := 627) (by decide +kernel), List.mem_of_getElem? (i := 854) (by decide +kernel), List.mem_of_getElem? (i := 855) (by decide +kernel)⟩
theorem lw_p43 : lw_okq (⟨"BasinVotesModel", "takesBack", "(I)I"⟩, 16) := ⟨⟨by decide +kernel, by decide +kernel⟩, List.mem_of_getElem? (i := 627) (by decide +kernel), List.mem_of_getElem? (i := 858) (by decide +kernel), List.mem_of_getElem? (i := 859) (by decide +kernel)⟩
theorem lw_p44 : lw_okq (⟨"BasinVotesModel", "toldAt", "(I)I"⟩, 16) := ⟨⟨by decide +kernel, by decide +kernel⟩, List.mem_of_getElem? (i := 627) (by decide +kernel), List.mem_of_getElem? (i := 870) (by decide +kernel), List.mem_of_getElem? (i := 871) (by decide +kernel)⟩
theorem lw_p45 : lw_okq (⟨"BasinVotesModel", "saves", "()V"⟩, 16) := ⟨⟨by decide +kernel, by decide +kernel⟩, List.mem_of_getElem? (i := 627) (by decide +kernel), List.mem_of_getElem? (i := 924) (by decide +kernel), List.mem_of_getElem? (i := 925) (by decide +kernel)⟩
theorem lw_p46 : lw_okq (⟨"BasinVotesModel", "token", "()V"⟩, 16) := ⟨⟨by decide +kernel, by decide +kernel⟩, List.mem_of_getElem? (i := 627) (by decide +kernel), List.mem_of_getElem? (i := 928) (by decide +kernel), List.mem_of_getElem? (i := 929) (by decide +kernel)⟩
theorem lw_p47 : lw_okq (⟨"BasinVotesModel", "byteAt", "(I)I"⟩, 16) := ⟨⟨by decide +kernel, by decide +kernel⟩, List.mem_of_getElem? (i := 627) (by decide +kernel), List.mem_of_getElem? (i := 932) (by decide +kernel), List.mem_of_getElem? (i := 933) (by decide +kernel)⟩
def lw_privs_3 : List (MethodName × Nat) := [(⟨"BasinVotesModel", "isPerson", "(I)Z"⟩, 16), (⟨"BasinVotesModel", "throwsOf", "(I)I"⟩, 16), (⟨"BasinVotesModel", "earnsOf", "(I)I"⟩, 16), (⟨"BasinVotesModel", "divesOf", "(II)I"⟩, 16), (⟨"BasinVotesModel", "fuller", "(I)I"⟩, 16), (⟨"BasinVotesModel", "daysGo", "(I)V"⟩, 16), (⟨"BasinVotesModel", "day", "()V"⟩, 16), (⟨"BasinVotesModel", "comes", "(II)V"⟩, 16), (⟨"BasinVotesModel", "net", "(I)V"⟩, 16), (⟨"BasinVotesModel", "behind", "(II)I"⟩, 16), (⟨"BasinVotesModel", "laysAside", "()V"⟩, 16), (⟨"BasinVotesModel", "takesBack", "(I)I"⟩, 16), (⟨"BasinVotesModel", "toldAt", "(I)I"⟩, 16), (⟨"BasinVotesModel", "saves", "()V"⟩, 16), (⟨"BasinVotesModel", "token", "()V"⟩, 16), (⟨"BasinVotesModel", "byteAt", "(I)I"⟩, 16)]
theorem lw_r3 : ∀ q ∈ lw_privs_3, lw_okq q := List.forall_mem_cons.mpr ⟨lw_p32, List.forall_mem_cons.mpr ⟨lw_p33, List.forall_mem_cons.mpr ⟨lw_p34, List.forall_mem_cons.mpr ⟨lw_p35, List.forall_mem_cons.mpr ⟨lw_p36, List.forall_mem_cons.mpr ⟨lw_p37, List.forall_mem_cons.mpr ⟨lw_p38, List.forall_mem_cons.mpr ⟨lw_p39, List.forall_mem_cons.mpr ⟨lw_p40, List.forall_mem_cons.mpr ⟨lw_p41, List.forall_mem_cons.mpr ⟨lw_p42, List.forall_mem_cons.mpr ⟨lw_p43, List.forall_mem_cons.mpr ⟨lw_p44, List.forall_mem_cons.mpr ⟨lw_p45, List.forall_mem_cons.mpr ⟨lw_p46, List.forall_mem_cons.mpr ⟨lw_p47, fun _ h => absurd h List.not_mem_nil⟩⟩⟩⟩⟩⟩⟩⟩⟩⟩⟩⟩⟩⟩⟩⟩
theorem lw_p48 : lw_okq (⟨"BasinVotesModel", "item", "()V"⟩, 16) := ⟨⟨by decide +kernel, by decide +kernel⟩, List.mem_of_getElem? (i := 627) (by decide +kernel), List.mem_of_getElem? (i := 946) (by decide +kernel), List.mem_of_getElem? (i := 947) (by decide +kernel)⟩
theorem lw_p49 : lw_okq (⟨"BasinVotesModel", "kindHere", "()I"⟩, 16) := ⟨⟨by decide +kernel, by decide +kernel⟩, List.mem_of_getElem? (i := 627) (by decide +kernel), List.mem_of_getElem? (i := 950) (by decide +kernel), List.mem_of_getElem? (i := 951) (by decide +kernel)⟩
theorem lw_p50 : lw_okq (⟨"BasinVotesModel", "word", "()J"⟩, 16) := ⟨⟨by decide +kernel, by decide +kernel⟩, List.mem_of_getElem? (i := 627) (by decide +kernel), List.mem_of_getElem? (i := 954) (by decide +kernel), List.mem_of_getElem? (i := 955) (by decide +kernel)⟩
theorem lw_p51 : lw_okq (⟨"BasinVotesModel", "sideHere", "()I"⟩, 16) := ⟨⟨by decide +kernel, by decide +kernel⟩, List.mem_of_getElem? (i := 627) (by decide +kernel), List.mem_of_getElem? (i := 966) (by decide +kernel), List.mem_of_getElem? (i := 967) (by decide +kernel)⟩
theorem lw_p52 : lw_okq (⟨"BasinVotesModel", "personItem", "(I)V"⟩, 16) := ⟨⟨by decide +kernel, by decide +kernel⟩, List.mem_of_getElem? (i := 627) (by decide +kernel), List.mem_of_getElem? (i := 972) (by decide +kernel), List.mem_of_getElem? (i := 973) (by decide +kernel)⟩
theorem lw_p53 : lw_okq (⟨"BasinVotesModel", "must", "(Z)V"⟩, 16) := ⟨⟨by decide +kernel, by decide +kernel⟩, List.mem_of_getElem? (i := 627) (by decide +kernel), List.mem_of_getElem? (i := 976) (by decide +kernel), List.mem_of_getElem? (i := 977) (by decide +kernel)⟩
theorem lw_p54 : lw_okq (⟨"BasinVotesModel", "partItem", "(JII)V"⟩, 16) := ⟨⟨by decide +kernel, by decide +kernel⟩, List.mem_of_getElem? (i := 627) (by decide +kernel), List.mem_of_getElem? (i := 981) (by decide +kernel), List.mem_of_getElem? (i := 982) (by decide +kernel)⟩
theorem lw_p55 : lw_okq (⟨"BasinVotesModel", "number", "(II)V"⟩, 16) := ⟨⟨by decide +kernel, by decide +kernel⟩, List.mem_of_getElem? (i := 627) (by decide +kernel), List.mem_of_getElem? (i := 985) (by decide +kernel), List.mem_of_getElem? (i := 986) (by decide +kernel)⟩
theorem lw_p56 : lw_okq (⟨"BasinVotesModel", "sideItem", "(I)V"⟩, 16) := ⟨⟨by decide +kernel, by decide +kernel⟩, List.mem_of_getElem? (i := 627) (by decide +kernel), List.mem_of_getElem? (i := 990) (by decide +kernel), List.mem_of_getElem? (i := 991) (by decide +kernel)⟩
theorem lw_p57 : lw_okq (⟨"BasinVotesModel", "bribeItem", "()V"⟩, 16) := ⟨⟨by decide +kernel, by decide +kernel⟩, List.mem_of_getElem? (i := 627) (by decide +kernel), List.mem_of_getElem? (i := 995) (by decide +kernel), List.mem_of_getElem? (i := 996) (by decide +kernel)⟩
theorem lw_p58 : lw_okq (⟨"BasinVotesModel", "awayItem", "()V"⟩, 16) := ⟨⟨by decide +kernel, by decide +kernel⟩, List.mem_of_getElem? (i := 627) (by decide +kernel), List.mem_of_getElem? (i := 1000) (by decide +kernel), List.mem_of_getElem? (i := 1001) (by decide +kernel)⟩
theorem lw_p59 : lw_okq (⟨"BasinVotesModel", "putsBack", "()V"⟩, 16) := ⟨⟨by decide +kernel, by decide +kernel⟩, List.mem_of_getElem? (i := 627) (by decide +kernel), List.mem_of_getElem? (i := 1004) (by decide +kernel), List.mem_of_getElem? (i := 1005) (by decide +kernel)⟩
theorem lw_p60 : lw_okq (⟨"BasinVotesModel", "wrongSheet", "(I)I"⟩, 16) := ⟨⟨by decide +kernel, by decide +kernel⟩, List.mem_of_getElem? (i := 627) (by decide +kernel), List.mem_of_getElem? (i := 1020) (by decide +kernel), List.mem_of_getElem? (i := 1021) (by decide +kernel)⟩
theorem lw_p61 : lw_okq (⟨"BasinVotesModel", "isBook", "(II)Z"⟩, 16) := ⟨⟨by decide +kernel, by decide +kernel⟩, List.mem_of_getElem? (i := 627) (by decide +kernel), List.mem_of_getElem? (i := 1044) (by decide +kernel), List.mem_of_getElem? (i := 1045) (by decide +kernel)⟩
def lw_privs_4 : List (MethodName × Nat) := [(⟨"BasinVotesModel", "item", "()V"⟩, 16), (⟨"BasinVotesModel", "kindHere", "()I"⟩, 16), (⟨"BasinVotesModel", "word", "()J"⟩, 16), (⟨"BasinVotesModel", "sideHere", "()I"⟩, 16), (⟨"BasinVotesModel", "personItem", "(I)V"⟩, 16), (⟨"BasinVotesModel", "must", "(Z)V"⟩, 16), (⟨"BasinVotesModel", "partItem", "(JII)V"⟩, 16), (⟨"BasinVotesModel", "number", "(II)V"⟩, 16), (⟨"BasinVotesModel", "sideItem", "(I)V"⟩, 16), (⟨"BasinVotesModel", "bribeItem", "()V"⟩, 16), (⟨"BasinVotesModel", "awayItem", "()V"⟩, 16), (⟨"BasinVotesModel", "putsBack", "()V"⟩, 16), (⟨"BasinVotesModel", "wrongSheet", "(I)I"⟩, 16), (⟨"BasinVotesModel", "isBook", "(II)Z"⟩, 16)]
theorem lw_r4 : ∀ q ∈ lw_privs_4, lw_okq q := List.forall_mem_cons.mpr ⟨lw_p48, List.forall_mem_cons.mpr ⟨lw_p49, List.forall_mem_cons.mpr ⟨lw_p50, List.forall_mem_cons.mpr ⟨lw_p51, List.forall_mem_cons.mpr ⟨lw_p52, List.forall_mem_cons.mpr ⟨lw_p53, List.forall_mem_cons.mpr ⟨lw_p54, List.forall_mem_cons.mpr ⟨lw_p55, List.forall_mem_cons.mpr ⟨lw_p56, List.forall_mem_cons.mpr ⟨lw_p57, List.forall_mem_cons.mpr ⟨lw_p58, List.forall_mem_cons.mpr ⟨lw_p59, List.forall_mem_cons.mpr ⟨lw_p60, List.forall_mem_cons.mpr ⟨lw_p61, fun _ h => absurd h List.not_mem_nil⟩⟩⟩⟩⟩⟩⟩⟩⟩⟩⟩⟩⟩⟩
def lw_privs : List (MethodName × Nat) := lw_privs_1 ++ (lw_privs_2 ++ (lw_privs_3 ++ (lw_privs_4)))
def lw_tbl : List Cond := k2_sels lw_privs ++ tables_1
theorem lw_privs_ok : ∀ q ∈ lw_privs, lw_okq q := by
  show ∀ q ∈ lw_privs_1 ++ (lw_privs_2 ++ (lw_privs_3 ++ (lw_privs_4))), lw_okq q
  exact List.forall_mem_append.mpr ⟨lw_r1, List.forall_mem_append.mpr ⟨lw_r2, List.forall_mem_append.mpr ⟨lw_r3, lw_r4⟩⟩⟩
/-! ===== BEGIN words of one list among another's, by their places ===== -/
theorem goodIn_r {big : List Cond} (ws : List Cond) (ps : List Nat) (hp : ws = ps.filterMap (fun i => big[i]?)) (h : ws.all goodWord = true) : GoodIn big ws := by
  intro w hw
  have h1 := List.all_eq_true.mp h w hw
  rw [hp] at hw
  obtain ⟨i, -, hi⟩ := List.mem_filterMap.mp hw
  have hm : w ∈ big := by first | exact List.mem_of_getElem? hi | exact List.getElem?_mem hi
  exact ⟨hm, good_of_word h1⟩
theorem goodIn_app {big a b : List Cond} (ha : GoodIn big a) (hb : GoodIn big b) : GoodIn big (a ++ b) := fun w h => (List.mem_append.mp h).elim (ha w) (hb w)
theorem goodIn_ca {big a b : List Cond} {c : Cond} (ha : GoodIn big (c :: a)) (hb : GoodIn big b) : GoodIn big (c :: (a ++ b)) := fun w h => (List.mem_cons.mp h).elim (fun e => ha w (List.mem_cons.mpr (Or.inl e))) (fun h => (List.mem_append.mp h).elim (fun h => ha w (List.mem_cons.mpr (Or.inr h))) (hb w))
theorem goodIn_sub {big ws : List Cond} (hm : ∀ w ∈ ws, w ∈ big) (h : ws.all goodWord = true) : GoodIn big ws := fun w hw => ⟨hm w hw, good_of_word (List.all_eq_true.mp h w hw)⟩
/-! ===== END ===== -/

/-! ===== BEGIN new T[n][m]: the outer array a place, the inner ones among the pooled ===== -/
/-- f, but v at every address of l -/
def vr_up {α : Type} (f : Nat → α) (l : List Nat) (v : α) : Nat → α := fun a => if a ∈ l then v else f a
theorem vr_up_in {α : Type} {f : Nat → α} {l : List Nat} {v : α} {a : Nat} (h : a ∈ l) : vr_up f l v a = v := if_pos h
theorem vr_up_ne {α : Type} {f : Nat → α} {l : List Nat} {v : α} {a : Nat} (h : a ∉ l) : vr_up f l v a = f a := if_neg h
theorem vr_rows {L l : List Nat} {f : Nat → va_E} {e : va_E} (h : ∀ a, a ∈ l → a ∉ L) : va_pl L f ++ l.map (fun a => (a, e)) = va_pl (L ++ l) (vr_up f l e) := by
  unfold va_pl
  rw [List.map_append]
  congr 1
  · apply List.map_congr_left
    intro a ha
    rw [vr_up_ne (fun q => h a q ha)]
  · apply List.map_congr_left
    intro a ha
    rw [vr_up_in ha]
theorem vr_lay {X rows : va_W} {x : Nat × va_E} {pl : va_W} {D : va_G} {cl : List vw_C} {H : Heap} (hP : va_P D cl (((X ++ pl) ++ [x]) ++ rows) H) : va_P D cl ((X ++ [x]) ++ (pl ++ rows)) H := by
  rw [List.append_assoc (X ++ pl)] at hP
  have h := va_P.swap hP
  rw [← List.append_assoc X] at h
  have h2 := va_P.swap h
  rw [List.append_assoc (X ++ [x])] at h2
  exact h2
theorem vr_layD {X rows : va_W} {x : Nat × va_E} {pl : va_W} {A : Nat → Prop} (hD : va_D A (((X ++ pl) ++ [x]) ++ rows)) : va_D A ((X ++ [x]) ++ (pl ++ rows)) := by
  rw [List.append_assoc (X ++ pl)] at hD
  have h := va_D.swap hD
  rw [← List.append_assoc X] at h
  have h2 := va_D.swap h
  rw [List.append_assoc (X ++ [x])] at h2
  exact h2
theorem vr_outer (c : ClassId) (N h0 : Nat) : ∀ i : Nat, Jvm.Free.Multi.outerC c N h0 i = arrV c N (fun j => va_rf (if j < i then some (h0 + 1 + j) else none))
  | 0 => by
    show ({ cls := c, slots := Array.replicate N .null, vm := .none } : Cell) = _
    rw [arrV_new]
    refine congrArg (arrV c N) (funext fun j => ?_)
    simp [va_rf]
  | i + 1 => by
    show (Jvm.Free.Multi.outerC c N h0 i).setSlot i (.ref (h0 + 1 + i)) = _
    rw [vr_outer c N h0 i, arrV_store]
    refine congrArg (arrV c N) (funext fun j => ?_)
    by_cases e : j = i
    · subst e
      simp [updV, va_rf]
    · by_cases h : j < i
      · simp [updV, e, h, Nat.lt_succ_of_lt h]
      · simp [updV, e, h, show ¬ j < i + 1 by omega]
/-! ===== END ===== -/

/-! ===== BEGIN printed: names, fields, word lists, decode rows ===== -/
def RX0 : String := "BasinVotes$Kinds"
def TX0 : u_T := fun k => match k with
  | _ => ("", "", "", false)
def tyX0 : Nat → FieldType := fun k => match k with
  | _ => .int
abbrev wsX00 : List Cond := u_ws RX0 TX0 0
theorem nmX0 : ∀ a, a < 0 → ∀ b, b < 0 → a ≠ b → (TX0 a).2.1 ≠ (TX0 b).2.1 := by decide +kernel
theorem tyX0_ok : ∀ k, k < 0 → parseFieldDescriptor (TX0 k).2.2.1 = some (tyX0 k) := by decide +kernel
abbrev cX0_isUnder : ByteArray := prog_2_method_2_code
def yX0_isUnder : MethodName := ⟨RX0, "isUnder", "(II)Z"⟩
abbrev cX0_earns : ByteArray := prog_2_method_3_code
def yX0_earns : MethodName := ⟨RX0, "earns", "(I)I"⟩
abbrev cX0_throwsWith : ByteArray := prog_2_method_4_code
def yX0_throwsWith : MethodName := ⟨RX0, "throwsWith", "(II)I"⟩
abbrev cX0_wouldThrow : ByteArray := prog_2_method_5_code
def yX0_wouldThrow : MethodName := ⟨RX0, "wouldThrow", "(II)I"⟩
abbrev cX0_dives : ByteArray := prog_2_method_6_code
def yX0_dives : MethodName := ⟨RX0, "dives", "(III)I"⟩
def RX1 : String := "BasinVotes$Sheets"
def TX1 : u_T := fun k => match k with
  | 0 => ("BasinVotes$Sheets", "numbers", "[[J", true)
  | 1 => ("BasinVotes$Sheets", "bits", "[I", true)
  | _ => ("BasinVotes$Sheets", "sizes", "[I", true)
def tyX1 : Nat → FieldType := fun k => match k with
  | 0 => .array (.array .long)
  | 1 => .array .int
  | _ => .array .int
abbrev wsX10 : List Cond := u_ws RX1 TX1 3
theorem nmX1 : ∀ a, a < 3 → ∀ b, b < 3 → a ≠ b → (TX1 a).2.1 ≠ (TX1 b).2.1 := by decide +kernel
theorem tyX1_ok : ∀ k, k < 3 → parseFieldDescriptor (TX1 k).2.2.1 = some (tyX1 k) := by decide +kernel
abbrev cX1_init : ByteArray := prog_3_method_1_code
def yX1_init : MethodName := ⟨RX1, "<init>", "()V"⟩
abbrev cX1_areBits : ByteArray := prog_3_method_2_code
def yX1_areBits : MethodName := ⟨RX1, "areBits", "(I)Z"⟩
abbrev cX1_isMissing : ByteArray := prog_3_method_3_code
def yX1_isMissing : MethodName := ⟨RX1, "isMissing", "(I)Z"⟩
abbrev cX1_make : ByteArray := prog_3_method_4_code
def yX1_make : MethodName := ⟨RX1, "make", "(III)V"⟩
abbrev cX1_hasPart : ByteArray := prog_3_method_5_code
def yX1_hasPart : MethodName := ⟨RX1, "hasPart", "(III)Z"⟩
abbrev cX1_put : ByteArray := prog_3_method_6_code
def yX1_put : MethodName := ⟨RX1, "put", "(IIJ)V"⟩
def RX2 : String := "BasinVotes$Tape"
def TX2 : u_T := fun k => match k with
  | 0 => ("BasinVotes$Tape", "bytes", "[B", true)
  | _ => ("BasinVotes$Tape", "length", "I", false)
def tyX2 : Nat → FieldType := fun k => match k with
  | 0 => .array .byte
  | _ => .int
abbrev wsX20 : List Cond := u_ws RX2 TX2 2
theorem nmX2 : ∀ a, a < 2 → ∀ b, b < 2 → a ≠ b → (TX2 a).2.1 ≠ (TX2 b).2.1 := by decide +kernel
theorem tyX2_ok : ∀ k, k < 2 → parseFieldDescriptor (TX2 k).2.2.1 = some (tyX2 k) := by decide +kernel
abbrev cX2_init : ByteArray := prog_4_method_1_code
def yX2_init : MethodName := ⟨RX2, "<init>", "()V"⟩
abbrev cX2_hasRoom : ByteArray := prog_4_method_2_code
def yX2_hasRoom : MethodName := ⟨RX2, "hasRoom", "(I)Z"⟩
abbrev cX2_add : ByteArray := prog_4_method_3_code
def yX2_add : MethodName := ⟨RX2, "add", "(B)V"⟩
def RX3 : String := "BasinVotes$TextReader"
def TX3 : u_T := fun k => match k with
  | 0 => ("BasinVotes$TextReader", "tape", "LBasinVotes$Tape;", true)
  | 1 => ("BasinVotes$TextReader", "target", "LBasinVotes$Town;", true)
  | 2 => ("BasinVotes$TextReader", "start", "I", false)
  | 3 => ("BasinVotes$TextReader", "end", "I", false)
  | 4 => ("BasinVotes$TextReader", "token", "I", false)
  | _ => ("BasinVotes$TextReader", "value", "I", false)
def tyX3 : Nat → FieldType := fun k => match k with
  | 0 => .object "BasinVotes$Tape"
  | 1 => .object "BasinVotes$Town"
  | 2 => .int
  | 3 => .int
  | 4 => .int
  | _ => .int
abbrev wsX30 : List Cond := u_ws RX3 TX3 6
theorem nmX3 : ∀ a, a < 6 → ∀ b, b < 6 → a ≠ b → (TX3 a).2.1 ≠ (TX3 b).2.1 := by decide +kernel
theorem tyX3_ok : ∀ k, k < 6 → parseFieldDescriptor (TX3 k).2.2.1 = some (tyX3 k) := by decide +kernel
abbrev cX3_init : ByteArray := prog_5_method_1_code
def yX3_init : MethodName := ⟨RX3, "<init>", "(LBasinVotes$Tape;LBasinVotes$Town;)V"⟩
abbrev cX3_items : ByteArray := prog_5_method_2_code
def yX3_items : MethodName := ⟨RX3, "items", "()I"⟩
abbrev cX3_readItem : ByteArray := prog_5_method_3_code
def yX3_readItem : MethodName := ⟨RX3, "readItem", "()Z"⟩
abbrev cX3_kindNamed : ByteArray := prog_5_method_4_code
def yX3_kindNamed : MethodName := ⟨RX3, "kindNamed", "()I"⟩
abbrev cX3_readPerson : ByteArray := prog_5_method_5_code
def yX3_readPerson : MethodName := ⟨RX3, "readPerson", "(I)Z"⟩
abbrev cX3_readLying : ByteArray := prog_5_method_6_code
def yX3_readLying : MethodName := ⟨RX3, "readLying", "(I)Z"⟩
abbrev cX3_readBribe : ByteArray := prog_5_method_7_code
def yX3_readBribe : MethodName := ⟨RX3, "readBribe", "()Z"⟩
abbrev cX3_readAway : ByteArray := prog_5_method_8_code
def yX3_readAway : MethodName := ⟨RX3, "readAway", "()Z"⟩
abbrev cX3_isNumber : ByteArray := prog_5_method_9_code
def yX3_isNumber : MethodName := ⟨RX3, "isNumber", "(I)Z"⟩
abbrev cX3_isWord : ByteArray := prog_5_method_10_code
def yX3_isWord : MethodName := ⟨RX3, "isWord", "(Ljava/lang/String;)Z"⟩
abbrev cX3_next : ByteArray := prog_5_method_11_code
def yX3_next : MethodName := ⟨RX3, "next", "()V"⟩
abbrev cX3_nextWord : ByteArray := prog_5_method_12_code
def yX3_nextWord : MethodName := ⟨RX3, "nextWord", "()V"⟩
abbrev cX3_nextNumber : ByteArray := prog_5_method_13_code
def yX3_nextNumber : MethodName := ⟨RX3, "nextNumber", "()V"⟩
abbrev cX3_byteAt : ByteArray := prog_5_method_14_code
def yX3_byteAt : MethodName := ⟨RX3, "byteAt", "(I)I"⟩
abbrev cX3_isLetter : ByteArray := prog_5_method_15_code
def yX3_isLetter : MethodName := ⟨RX3, "isLetter", "(I)Z"⟩
abbrev cX3_isDigit : ByteArray := prog_5_method_16_code
def yX3_isDigit : MethodName := ⟨RX3, "isDigit", "(I)Z"⟩
def RX4 : String := "BasinVotes$Town"
def TX4 : u_T := fun k => match k with
  | 0 => ("BasinVotes$Town", "day", "I", false)
  | 1 => ("BasinVotes$Town", "holds", "I", false)
  | 2 => ("BasinVotes$Town", "bribed", "I", false)
  | 3 => ("BasinVotes$Town", "people", "I", false)
  | 4 => ("BasinVotes$Town", "left", "[I", true)
  | 5 => ("BasinVotes$Town", "right", "[I", true)
  | 6 => ("BasinVotes$Town", "kinds", "[I", true)
  | 7 => ("BasinVotes$Town", "leans", "[I", true)
  | 8 => ("BasinVotes$Town", "pence", "[I", true)
  | _ => ("BasinVotes$Town", "away", "[I", true)
def tyX4 : Nat → FieldType := fun k => match k with
  | 0 => .int
  | 1 => .int
  | 2 => .int
  | 3 => .int
  | 4 => .array .int
  | 5 => .array .int
  | 6 => .array .int
  | 7 => .array .int
  | 8 => .array .int
  | _ => .array .int
abbrev wsX40 : List Cond := u_ws RX4 TX4 10
theorem nmX4 : ∀ a, a < 10 → ∀ b, b < 10 → a ≠ b → (TX4 a).2.1 ≠ (TX4 b).2.1 := by decide +kernel
theorem tyX4_ok : ∀ k, k < 10 → parseFieldDescriptor (TX4 k).2.2.1 = some (tyX4 k) := by decide +kernel
abbrev cX4_init : ByteArray := prog_6_method_1_code
def yX4_init : MethodName := ⟨RX4, "<init>", "()V"⟩
abbrev cX4_become : ByteArray := prog_6_method_2_code
def yX4_become : MethodName := ⟨RX4, "become", "(LBasinVotes$Town;)V"⟩
abbrev cX4_isFull : ByteArray := prog_6_method_3_code
def yX4_isFull : MethodName := ⟨RX4, "isFull", "()Z"⟩
abbrev cX4_add : ByteArray := prog_6_method_4_code
def yX4_add : MethodName := ⟨RX4, "add", "(I)I"⟩
abbrev cX4_questionOfDay : ByteArray := prog_6_method_5_code
def yX4_questionOfDay : MethodName := ⟨RX4, "questionOfDay", "()I"⟩
abbrev cX4_lying : ByteArray := prog_6_method_6_code
def yX4_lying : MethodName := ⟨RX4, "lying", "(II)I"⟩
abbrev cX4_lay : ByteArray := prog_6_method_7_code
def yX4_lay : MethodName := ⟨RX4, "lay", "(III)V"⟩
abbrev cX4_tell : ByteArray := prog_6_method_8_code
def yX4_tell : MethodName := ⟨RX4, "tell", "(II)I"⟩
abbrev cX4_allLying : ByteArray := prog_6_method_9_code
def yX4_allLying : MethodName := ⟨RX4, "allLying", "(I)I"⟩
abbrev cX4_allPence : ByteArray := prog_6_method_10_code
def yX4_allPence : MethodName := ⟨RX4, "allPence", "()I"⟩
abbrev cX4_thoseForLeft : ByteArray := prog_6_method_11_code
def yX4_thoseForLeft : MethodName := ⟨RX4, "thoseForLeft", "()I"⟩
abbrev cX4_sideOf : ByteArray := prog_6_method_12_code
def yX4_sideOf : MethodName := ⟨RX4, "sideOf", "(II)I"⟩
abbrev cX4_throwerSide : ByteArray := prog_6_method_13_code
def yX4_throwerSide : MethodName := ⟨RX4, "throwerSide", "(II)I"⟩
abbrev cX4_ladySide : ByteArray := prog_6_method_14_code
def yX4_ladySide : MethodName := ⟨RX4, "ladySide", "(II)I"⟩
abbrev cX4_throwsOf : ByteArray := prog_6_method_15_code
def yX4_throwsOf : MethodName := ⟨RX4, "throwsOf", "(I)I"⟩
abbrev cX4_divesOf : ByteArray := prog_6_method_16_code
def yX4_divesOf : MethodName := ⟨RX4, "divesOf", "(II)I"⟩
abbrev cX4_goDays : ByteArray := prog_6_method_17_code
def yX4_goDays : MethodName := ⟨RX4, "goDays", "(I)V"⟩
abbrev cX4_goDay : ByteArray := prog_6_method_18_code
def yX4_goDay : MethodName := ⟨RX4, "goDay", "()V"⟩
abbrev cX4_visit : ByteArray := prog_6_method_19_code
def yX4_visit : MethodName := ⟨RX4, "visit", "(II)V"⟩
abbrev cX4_net : ByteArray := prog_6_method_20_code
def yX4_net : MethodName := ⟨RX4, "net", "(I)V"⟩
def RX5 : String := "BasinVotes"
def TX5 : u_T := fun k => match k with
  | 0 => ("BasinVotes", "real", "LBasinVotes$Town;", true)
  | 1 => ("BasinVotes", "trial", "LBasinVotes$Town;", true)
  | 2 => ("BasinVotes", "kept", "LBasinVotes$Town;", true)
  | 3 => ("BasinVotes", "keeps", "Z", false)
  | 4 => ("BasinVotes", "tape", "LBasinVotes$Tape;", true)
  | 5 => ("BasinVotes", "reader", "LBasinVotes$TextReader;", true)
  | 6 => ("BasinVotes", "sheets", "LBasinVotes$Sheets;", true)
  | _ => ("BasinVotes", "findings", "[I", true)
def tyX5 : Nat → FieldType := fun k => match k with
  | 0 => .object "BasinVotes$Town"
  | 1 => .object "BasinVotes$Town"
  | 2 => .object "BasinVotes$Town"
  | 3 => .boolean
  | 4 => .object "BasinVotes$Tape"
  | 5 => .object "BasinVotes$TextReader"
  | 6 => .object "BasinVotes$Sheets"
  | _ => .array .int
abbrev wsX50 : List Cond := u_ws RX5 TX5 8
theorem nmX5 : ∀ a, a < 8 → ∀ b, b < 8 → a ≠ b → (TX5 a).2.1 ≠ (TX5 b).2.1 := by decide +kernel
theorem tyX5_ok : ∀ k, k < 8 → parseFieldDescriptor (TX5 k).2.2.1 = some (tyX5 k) := by decide +kernel
abbrev cX5_init : ByteArray := prog_1_method_1_code
def yX5_init : MethodName := ⟨RX5, "<init>", "()V"⟩
abbrev cX5_lies : ByteArray := prog_1_method_2_code
def yX5_lies : MethodName := ⟨RX5, "lies", "(III)I"⟩
abbrev cX5_basin : ByteArray := prog_1_method_3_code
def yX5_basin : MethodName := ⟨RX5, "basin", "(II)I"⟩
abbrev cX5_bribe : ByteArray := prog_1_method_4_code
def yX5_bribe : MethodName := ⟨RX5, "bribe", "(I)I"⟩
abbrev cX5_held : ByteArray := prog_1_method_5_code
def yX5_held : MethodName := ⟨RX5, "held", "(I)I"⟩
abbrev cX5_now : ByteArray := prog_1_method_6_code
def yX5_now : MethodName := ⟨RX5, "now", "(I)I"⟩
abbrev cX5_person : ByteArray := prog_1_method_7_code
def yX5_person : MethodName := ⟨RX5, "person", "(I)I"⟩
abbrev cX5_of : ByteArray := prog_1_method_8_code
def yX5_of : MethodName := ⟨RX5, "of", "(II)I"⟩
abbrev cX5_acts : ByteArray := prog_1_method_9_code
def yX5_acts : MethodName := ⟨RX5, "acts", "(III)I"⟩
abbrev cX5_set : ByteArray := prog_1_method_10_code
def yX5_set : MethodName := ⟨RX5, "set", "(III)I"⟩
abbrev cX5_turn : ByteArray := prog_1_method_11_code
def yX5_turn : MethodName := ⟨RX5, "turn", "(II)I"⟩
abbrev cX5_as : ByteArray := prog_1_method_12_code
def yX5_as : MethodName := ⟨RX5, "as", "(II)I"⟩
abbrev cX5_days : ByteArray := prog_1_method_13_code
def yX5_days : MethodName := ⟨RX5, "days", "(I)I"⟩
abbrev cX5_on : ByteArray := prog_1_method_14_code
def yX5_on : MethodName := ⟨RX5, "on", "(II)I"⟩
abbrev cX5_then : ByteArray := prog_1_method_15_code
def yX5_then : MethodName := ⟨RX5, "then", "(III)I"⟩
abbrev cX5_flips : ByteArray := prog_1_method_16_code
def yX5_flips : MethodName := ⟨RX5, "flips", "(I)I"⟩
abbrev cX5_rich : ByteArray := prog_1_method_17_code
def yX5_rich : MethodName := ⟨RX5, "rich", "(II)I"⟩
abbrev cX5_kind : ByteArray := prog_1_method_18_code
def yX5_kind : MethodName := ⟨RX5, "kind", "(II)I"⟩
abbrev cX5_lean : ByteArray := prog_1_method_19_code
def yX5_lean : MethodName := ⟨RX5, "lean", "(II)I"⟩
abbrev cX5_buys : ByteArray := prog_1_method_20_code
def yX5_buys : MethodName := ⟨RX5, "buys", "(III)I"⟩
abbrev cX5_swing : ByteArray := prog_1_method_21_code
def yX5_swing : MethodName := ⟨RX5, "swing", "(I)I"⟩
abbrev cX5_pays : ByteArray := prog_1_method_22_code
def yX5_pays : MethodName := ⟨RX5, "pays", "(I)I"⟩
abbrev cX5_richest : ByteArray := prog_1_method_23_code
def yX5_richest : MethodName := ⟨RX5, "richest", "(I)I"⟩
abbrev cX5_feed : ByteArray := prog_1_method_24_code
def yX5_feed : MethodName := ⟨RX5, "feed", "(II)I"⟩
abbrev cX5_wipe : ByteArray := prog_1_method_25_code
def yX5_wipe : MethodName := ⟨RX5, "wipe", "()I"⟩
abbrev cX5_town : ByteArray := prog_1_method_26_code
def yX5_town : MethodName := ⟨RX5, "town", "()I"⟩
abbrev cX5_sheet : ByteArray := prog_1_method_27_code
def yX5_sheet : MethodName := ⟨RX5, "sheet", "(III)I"⟩
abbrev cX5_write : ByteArray := prog_1_method_28_code
def yX5_write : MethodName := ⟨RX5, "write", "(IIJ)J"⟩
abbrev cX5_copy : ByteArray := prog_1_method_29_code
def yX5_copy : MethodName := ⟨RX5, "copy", "(IIIII)I"⟩
abbrev cX5_lays : ByteArray := prog_1_method_30_code
def yX5_lays : MethodName := ⟨RX5, "lays", "(I)I"⟩
abbrev cX5_book : ByteArray := prog_1_method_31_code
def yX5_book : MethodName := ⟨RX5, "book", "(II)I"⟩
abbrev cX5_read : ByteArray := prog_1_method_32_code
def yX5_read : MethodName := ⟨RX5, "read", "(III)I"⟩
abbrev cX5_image : ByteArray := prog_1_method_33_code
def yX5_image : MethodName := ⟨RX5, "image", "()I"⟩
abbrev cX5_undo : ByteArray := prog_1_method_34_code
def yX5_undo : MethodName := ⟨RX5, "undo", "()I"⟩
abbrev cX5_tear : ByteArray := prog_1_method_35_code
def yX5_tear : MethodName := ⟨RX5, "tear", "()I"⟩
abbrev cX5_count : ByteArray := prog_1_method_36_code
def yX5_count : MethodName := ⟨RX5, "count", "(I)I"⟩
abbrev cX5_status : ByteArray := prog_1_method_37_code
def yX5_status : MethodName := ⟨RX5, "status", "(I)I"⟩
abbrev cX5_finding : ByteArray := prog_1_method_38_code
def yX5_finding : MethodName := ⟨RX5, "finding", "(I)I"⟩
abbrev cX5_change : ByteArray := prog_1_method_39_code
def yX5_change : MethodName := ⟨RX5, "change", "([III)I"⟩
abbrev cX5_tryDays : ByteArray := prog_1_method_40_code
def yX5_tryDays : MethodName := ⟨RX5, "tryDays", "(I)V"⟩
abbrev cX5_heldIfBribed : ByteArray := prog_1_method_41_code
def yX5_heldIfBribed : MethodName := ⟨RX5, "heldIfBribed", "(II)I"⟩
abbrev cX5_trialGoesAsBooked : ByteArray := prog_1_method_42_code
def yX5_trialGoesAsBooked : MethodName := ⟨RX5, "trialGoesAsBooked", "(II)Z"⟩
abbrev cX5_isPerson : ByteArray := prog_1_method_43_code
def yX5_isPerson : MethodName := ⟨RX5, "isPerson", "(I)Z"⟩
abbrev cX5_isQuestion : ByteArray := prog_1_method_44_code
def yX5_isQuestion : MethodName := ⟨RX5, "isQuestion", "(I)Z"⟩
abbrev cX5_isSide : ByteArray := prog_1_method_45_code
def yX5_isSide : MethodName := ⟨RX5, "isSide", "(I)Z"⟩
abbrev cX5_isKind : ByteArray := prog_1_method_46_code
def yX5_isKind : MethodName := ⟨RX5, "isKind", "(I)Z"⟩
abbrev cX5_isSet : ByteArray := prog_1_method_47_code
def yX5_isSet : MethodName := ⟨RX5, "isSet", "(I)Z"⟩
abbrev cX5_isPence : ByteArray := prog_1_method_48_code
def yX5_isPence : MethodName := ⟨RX5, "isPence", "(I)Z"⟩
abbrev cX5_isSheet : ByteArray := prog_1_method_49_code
def yX5_isSheet : MethodName := ⟨RX5, "isSheet", "(I)Z"⟩
abbrev cX5_isWithin : ByteArray := prog_1_method_50_code
def yX5_isWithin : MethodName := ⟨RX5, "isWithin", "(III)Z"⟩
def RX6 : String := "BasinVotesModel"
def TX6 : u_T := fun k => match k with
  | 0 => ("BasinVotesModel", "s", "[I", true)
  | 1 => ("BasinVotesModel", "keptS", "[I", true)
  | 2 => ("BasinVotesModel", "other", "[I", true)
  | 3 => ("BasinVotesModel", "aside", "[I", true)
  | 4 => ("BasinVotesModel", "statuses", "[I", true)
  | 5 => ("BasinVotesModel", "isKept", "Z", false)
  | 6 => ("BasinVotesModel", "tape", "[I", true)
  | 7 => ("BasinVotesModel", "taped", "I", false)
  | 8 => ("BasinVotesModel", "from", "I", false)
  | 9 => ("BasinVotesModel", "to", "I", false)
  | 10 => ("BasinVotesModel", "value", "I", false)
  | 11 => ("BasinVotesModel", "isWrong", "Z", false)
  | 12 => ("BasinVotesModel", "bitsOf", "[I", true)
  | 13 => ("BasinVotesModel", "sizeOf", "[I", true)
  | 14 => ("BasinVotesModel", "numbers", "[J", true)
  | _ => ("BasinVotesModel", "moved", "[J", true)
def tyX6 : Nat → FieldType := fun k => match k with
  | 0 => .array .int
  | 1 => .array .int
  | 2 => .array .int
  | 3 => .array .int
  | 4 => .array .int
  | 5 => .boolean
  | 6 => .array .int
  | 7 => .int
  | 8 => .int
  | 9 => .int
  | 10 => .int
  | 11 => .boolean
  | 12 => .array .int
  | 13 => .array .int
  | 14 => .array .long
  | _ => .array .long
abbrev wsX60 : List Cond := u_ws RX6 TX6 16
theorem nmX6 : ∀ a, a < 16 → ∀ b, b < 16 → a ≠ b → (TX6 a).2.1 ≠ (TX6 b).2.1 := by decide +kernel
theorem tyX6_ok : ∀ k, k < 16 → parseFieldDescriptor (TX6 k).2.2.1 = some (tyX6 k) := by decide +kernel
abbrev cX6_init : ByteArray := prog_8_method_1_code
def yX6_init : MethodName := ⟨RX6, "<init>", "()V"⟩
abbrev cX6_in : ByteArray := prog_8_method_2_code
def yX6_in : MethodName := ⟨RX6, "in", "(JJJ)Z"⟩
abbrev cX6_finds : ByteArray := prog_8_method_3_code
def yX6_finds : MethodName := ⟨RX6, "finds", "(I)I"⟩
abbrev cX6_saves : ByteArray := prog_8_method_4_code
def yX6_saves : MethodName := ⟨RX6, "saves", "()V"⟩
abbrev cX6_putsBack : ByteArray := prog_8_method_5_code
def yX6_putsBack : MethodName := ⟨RX6, "putsBack", "()V"⟩
abbrev cX6_laysAside : ByteArray := prog_8_method_6_code
def yX6_laysAside : MethodName := ⟨RX6, "laysAside", "()V"⟩
abbrev cX6_takesBack : ByteArray := prog_8_method_7_code
def yX6_takesBack : MethodName := ⟨RX6, "takesBack", "(I)I"⟩
abbrev cX6_becomes : ByteArray := prog_8_method_8_code
def yX6_becomes : MethodName := ⟨RX6, "becomes", "(II)I"⟩
abbrev cX6_basinSpot : ByteArray := prog_8_method_9_code
def yX6_basinSpot : MethodName := ⟨RX6, "basinSpot", "(II)I"⟩
abbrev cX6_spot : ByteArray := prog_8_method_10_code
def yX6_spot : MethodName := ⟨RX6, "spot", "(II)I"⟩
abbrev cX6_its : ByteArray := prog_8_method_11_code
def yX6_its : MethodName := ⟨RX6, "its", "(II)I"⟩
abbrev cX6_isPerson : ByteArray := prog_8_method_12_code
def yX6_isPerson : MethodName := ⟨RX6, "isPerson", "(I)Z"⟩
abbrev cX6_isQuestion : ByteArray := prog_8_method_13_code
def yX6_isQuestion : MethodName := ⟨RX6, "isQuestion", "(I)Z"⟩
abbrev cX6_isKind : ByteArray := prog_8_method_14_code
def yX6_isKind : MethodName := ⟨RX6, "isKind", "(I)Z"⟩
abbrev cX6_heldTo : ByteArray := prog_8_method_15_code
def yX6_heldTo : MethodName := ⟨RX6, "heldTo", "(II)I"⟩
abbrev cX6_ofDay : ByteArray := prog_8_method_16_code
def yX6_ofDay : MethodName := ⟨RX6, "ofDay", "()I"⟩
abbrev cX6_together : ByteArray := prog_8_method_17_code
def yX6_together : MethodName := ⟨RX6, "together", "(I)I"⟩
abbrev cX6_pence : ByteArray := prog_8_method_18_code
def yX6_pence : MethodName := ⟨RX6, "pence", "()I"⟩
abbrev cX6_lies : ByteArray := prog_8_method_19_code
def yX6_lies : MethodName := ⟨RX6, "lies", "(III)I"⟩
abbrev cX6_heldIn : ByteArray := prog_8_method_20_code
def yX6_heldIn : MethodName := ⟨RX6, "heldIn", "(I)I"⟩
abbrev cX6_basin : ByteArray := prog_8_method_21_code
def yX6_basin : MethodName := ⟨RX6, "basin", "(II)I"⟩
abbrev cX6_bribe : ByteArray := prog_8_method_22_code
def yX6_bribe : MethodName := ⟨RX6, "bribe", "(I)I"⟩
abbrev cX6_held : ByteArray := prog_8_method_23_code
def yX6_held : MethodName := ⟨RX6, "held", "(I)I"⟩
abbrev cX6_leftOnes : ByteArray := prog_8_method_24_code
def yX6_leftOnes : MethodName := ⟨RX6, "leftOnes", "()I"⟩
abbrev cX6_now : ByteArray := prog_8_method_25_code
def yX6_now : MethodName := ⟨RX6, "now", "(I)I"⟩
abbrev cX6_ladySide : ByteArray := prog_8_method_26_code
def yX6_ladySide : MethodName := ⟨RX6, "ladySide", "(II)I"⟩
abbrev cX6_sideOf : ByteArray := prog_8_method_27_code
def yX6_sideOf : MethodName := ⟨RX6, "sideOf", "(II)I"⟩
abbrev cX6_throwsOf : ByteArray := prog_8_method_28_code
def yX6_throwsOf : MethodName := ⟨RX6, "throwsOf", "(I)I"⟩
abbrev cX6_fuller : ByteArray := prog_8_method_29_code
def yX6_fuller : MethodName := ⟨RX6, "fuller", "(I)I"⟩
abbrev cX6_divesOf : ByteArray := prog_8_method_30_code
def yX6_divesOf : MethodName := ⟨RX6, "divesOf", "(II)I"⟩
abbrev cX6_earnsOf : ByteArray := prog_8_method_31_code
def yX6_earnsOf : MethodName := ⟨RX6, "earnsOf", "(I)I"⟩
abbrev cX6_adds : ByteArray := prog_8_method_32_code
def yX6_adds : MethodName := ⟨RX6, "adds", "(I)I"⟩
abbrev cX6_person : ByteArray := prog_8_method_33_code
def yX6_person : MethodName := ⟨RX6, "person", "(I)I"⟩
abbrev cX6_of : ByteArray := prog_8_method_34_code
def yX6_of : MethodName := ⟨RX6, "of", "(II)I"⟩
abbrev cX6_acts : ByteArray := prog_8_method_35_code
def yX6_acts : MethodName := ⟨RX6, "acts", "(III)I"⟩
abbrev cX6_set : ByteArray := prog_8_method_36_code
def yX6_set : MethodName := ⟨RX6, "set", "(III)I"⟩
abbrev cX6_turn : ByteArray := prog_8_method_37_code
def yX6_turn : MethodName := ⟨RX6, "turn", "(II)I"⟩
abbrev cX6_isUnder : ByteArray := prog_8_method_38_code
def yX6_isUnder : MethodName := ⟨RX6, "isUnder", "(II)Z"⟩
abbrev cX6_as : ByteArray := prog_8_method_39_code
def yX6_as : MethodName := ⟨RX6, "as", "(II)I"⟩
abbrev cX6_comes : ByteArray := prog_8_method_40_code
def yX6_comes : MethodName := ⟨RX6, "comes", "(II)V"⟩
abbrev cX6_net : ByteArray := prog_8_method_41_code
def yX6_net : MethodName := ⟨RX6, "net", "(I)V"⟩
abbrev cX6_day : ByteArray := prog_8_method_42_code
def yX6_day : MethodName := ⟨RX6, "day", "()V"⟩
abbrev cX6_daysGo : ByteArray := prog_8_method_43_code
def yX6_daysGo : MethodName := ⟨RX6, "daysGo", "(I)V"⟩
abbrev cX6_days : ByteArray := prog_8_method_44_code
def yX6_days : MethodName := ⟨RX6, "days", "(I)I"⟩
abbrev cX6_isAhead : ByteArray := prog_8_method_45_code
def yX6_isAhead : MethodName := ⟨RX6, "isAhead", "(I)Z"⟩
abbrev cX6_behind : ByteArray := prog_8_method_46_code
def yX6_behind : MethodName := ⟨RX6, "behind", "(II)I"⟩
abbrev cX6_on : ByteArray := prog_8_method_47_code
def yX6_on : MethodName := ⟨RX6, "on", "(II)I"⟩
abbrev cX6_then : ByteArray := prog_8_method_48_code
def yX6_then : MethodName := ⟨RX6, "then", "(III)I"⟩
abbrev cX6_toldAt : ByteArray := prog_8_method_49_code
def yX6_toldAt : MethodName := ⟨RX6, "toldAt", "(I)I"⟩
abbrev cX6_flips : ByteArray := prog_8_method_50_code
def yX6_flips : MethodName := ⟨RX6, "flips", "(I)I"⟩
abbrev cX6_rich : ByteArray := prog_8_method_51_code
def yX6_rich : MethodName := ⟨RX6, "rich", "(II)I"⟩
abbrev cX6_isSoon : ByteArray := prog_8_method_52_code
def yX6_isSoon : MethodName := ⟨RX6, "isSoon", "(I)Z"⟩
abbrev cX6_ones : ByteArray := prog_8_method_53_code
def yX6_ones : MethodName := ⟨RX6, "ones", "(I)I"⟩
abbrev cX6_kind : ByteArray := prog_8_method_54_code
def yX6_kind : MethodName := ⟨RX6, "kind", "(II)I"⟩
abbrev cX6_lean : ByteArray := prog_8_method_55_code
def yX6_lean : MethodName := ⟨RX6, "lean", "(II)I"⟩
abbrev cX6_buys : ByteArray := prog_8_method_56_code
def yX6_buys : MethodName := ⟨RX6, "buys", "(III)I"⟩
abbrev cX6_swing : ByteArray := prog_8_method_57_code
def yX6_swing : MethodName := ⟨RX6, "swing", "(I)I"⟩
abbrev cX6_pays : ByteArray := prog_8_method_58_code
def yX6_pays : MethodName := ⟨RX6, "pays", "(I)I"⟩
abbrev cX6_richest : ByteArray := prog_8_method_59_code
def yX6_richest : MethodName := ⟨RX6, "richest", "(I)I"⟩
abbrev cX6_feed : ByteArray := prog_8_method_60_code
def yX6_feed : MethodName := ⟨RX6, "feed", "(II)I"⟩
abbrev cX6_wipe : ByteArray := prog_8_method_61_code
def yX6_wipe : MethodName := ⟨RX6, "wipe", "()I"⟩
abbrev cX6_byteAt : ByteArray := prog_8_method_62_code
def yX6_byteAt : MethodName := ⟨RX6, "byteAt", "(I)I"⟩
abbrev cX6_isLetter : ByteArray := prog_8_method_63_code
def yX6_isLetter : MethodName := ⟨RX6, "isLetter", "(I)Z"⟩
abbrev cX6_isDigit : ByteArray := prog_8_method_64_code
def yX6_isDigit : MethodName := ⟨RX6, "isDigit", "(I)Z"⟩
abbrev cX6_token : ByteArray := prog_8_method_65_code
def yX6_token : MethodName := ⟨RX6, "token", "()V"⟩
abbrev cX6_must : ByteArray := prog_8_method_66_code
def yX6_must : MethodName := ⟨RX6, "must", "(Z)V"⟩
abbrev cX6_word : ByteArray := prog_8_method_67_code
def yX6_word : MethodName := ⟨RX6, "word", "()J"⟩
abbrev cX6_number : ByteArray := prog_8_method_68_code
def yX6_number : MethodName := ⟨RX6, "number", "(II)V"⟩
abbrev cX6_kindHere : ByteArray := prog_8_method_69_code
def yX6_kindHere : MethodName := ⟨RX6, "kindHere", "()I"⟩
abbrev cX6_sideHere : ByteArray := prog_8_method_70_code
def yX6_sideHere : MethodName := ⟨RX6, "sideHere", "()I"⟩
abbrev cX6_partItem : ByteArray := prog_8_method_71_code
def yX6_partItem : MethodName := ⟨RX6, "partItem", "(JII)V"⟩
abbrev cX6_personItem : ByteArray := prog_8_method_72_code
def yX6_personItem : MethodName := ⟨RX6, "personItem", "(I)V"⟩
abbrev cX6_sideItem : ByteArray := prog_8_method_73_code
def yX6_sideItem : MethodName := ⟨RX6, "sideItem", "(I)V"⟩
abbrev cX6_bribeItem : ByteArray := prog_8_method_74_code
def yX6_bribeItem : MethodName := ⟨RX6, "bribeItem", "()V"⟩
abbrev cX6_awayItem : ByteArray := prog_8_method_75_code
def yX6_awayItem : MethodName := ⟨RX6, "awayItem", "()V"⟩
abbrev cX6_item : ByteArray := prog_8_method_76_code
def yX6_item : MethodName := ⟨RX6, "item", "()V"⟩
abbrev cX6_town : ByteArray := prog_8_method_77_code
def yX6_town : MethodName := ⟨RX6, "town", "()I"⟩
abbrev cX6_isOne : ByteArray := prog_8_method_78_code
def yX6_isOne : MethodName := ⟨RX6, "isOne", "(I)Z"⟩
abbrev cX6_sheet : ByteArray := prog_8_method_79_code
def yX6_sheet : MethodName := ⟨RX6, "sheet", "(III)I"⟩
abbrev cX6_narrowed : ByteArray := prog_8_method_80_code
def yX6_narrowed : MethodName := ⟨RX6, "narrowed", "(IJ)J"⟩
abbrev cX6_wrongSheet : ByteArray := prog_8_method_81_code
def yX6_wrongSheet : MethodName := ⟨RX6, "wrongSheet", "(I)I"⟩
abbrev cX6_write : ByteArray := prog_8_method_82_code
def yX6_write : MethodName := ⟨RX6, "write", "(IIJ)J"⟩
abbrev cX6_copy : ByteArray := prog_8_method_83_code
def yX6_copy : MethodName := ⟨RX6, "copy", "(IIIII)I"⟩
abbrev cX6_lays : ByteArray := prog_8_method_84_code
def yX6_lays : MethodName := ⟨RX6, "lays", "(I)I"⟩
abbrev cX6_book : ByteArray := prog_8_method_85_code
def yX6_book : MethodName := ⟨RX6, "book", "(II)I"⟩
abbrev cX6_isBook : ByteArray := prog_8_method_86_code
def yX6_isBook : MethodName := ⟨RX6, "isBook", "(II)Z"⟩
abbrev cX6_read : ByteArray := prog_8_method_87_code
def yX6_read : MethodName := ⟨RX6, "read", "(III)I"⟩
abbrev cX6_image : ByteArray := prog_8_method_88_code
def yX6_image : MethodName := ⟨RX6, "image", "()I"⟩
abbrev cX6_undo : ByteArray := prog_8_method_89_code
def yX6_undo : MethodName := ⟨RX6, "undo", "()I"⟩
abbrev cX6_tear : ByteArray := prog_8_method_90_code
def yX6_tear : MethodName := ⟨RX6, "tear", "()I"⟩
abbrev cX6_count : ByteArray := prog_8_method_91_code
def yX6_count : MethodName := ⟨RX6, "count", "(I)I"⟩
abbrev cX6_status : ByteArray := prog_8_method_92_code
def yX6_status : MethodName := ⟨RX6, "status", "(I)I"⟩
def RJ6 : String := "java/lang/Integer"
def TJ6 : u_T := fun k => match k with
  | _ => ("", "", "", false)
def tyJ6 : Nat → FieldType := fun k => match k with
  | _ => .int
abbrev wsJ60 : List Cond := u_ws RJ6 TJ6 0
theorem nmJ6 : ∀ a, a < 0 → ∀ b, b < 0 → a ≠ b → (TJ6 a).2.1 ≠ (TJ6 b).2.1 := by decide +kernel
theorem tyJ6_ok : ∀ k, k < 0 → parseFieldDescriptor (TJ6 k).2.2.1 = some (tyJ6 k) := by decide +kernel
abbrev cJ6_bitCount_0f7a4 : ByteArray := prog_9_method_49_code
def yJ6_bitCount_0f7a4 : MethodName := ⟨RJ6, "bitCount", "(I)I"⟩
def RJ9 : String := "java/lang/Math"
def TJ9 : u_T := fun k => match k with
  | _ => ("", "", "", false)
def tyJ9 : Nat → FieldType := fun k => match k with
  | _ => .int
abbrev wsJ90 : List Cond := u_ws RJ9 TJ9 0
theorem nmJ9 : ∀ a, a < 0 → ∀ b, b < 0 → a ≠ b → (TJ9 a).2.1 ≠ (TJ9 b).2.1 := by decide +kernel
theorem tyJ9_ok : ∀ k, k < 0 → parseFieldDescriptor (TJ9 k).2.2.1 = some (tyJ9 k) := by decide +kernel
abbrev cJ9_max_7cf53 : ByteArray := prog_10_method_65_code
def yJ9_max_7cf53 : MethodName := ⟨RJ9, "max", "(II)I"⟩
abbrev cJ9_min_7cf53 : ByteArray := prog_10_method_69_code
def yJ9_min_7cf53 : MethodName := ⟨RJ9, "min", "(II)I"⟩
def RJ0 : String := "java/lang/String"
def TJ0 : u_T := fun k => match k with
  | _ => ("", "", "", false)
def tyJ0 : Nat → FieldType := fun k => match k with
  | _ => .int
abbrev wsJ00 : List Cond := u_ws RJ0 TJ0 0
theorem nmJ0 : ∀ a, a < 0 → ∀ b, b < 0 → a ≠ b → (TJ0 a).2.1 ≠ (TJ0 b).2.1 := by decide +kernel
theorem tyJ0_ok : ∀ k, k < 0 → parseFieldDescriptor (TJ0 k).2.2.1 = some (tyJ0 k) := by decide +kernel
abbrev cJ0_length_8abf5 : ByteArray := prog_11_method_54_code
def yJ0_length_8abf5 : MethodName := ⟨RJ0, "length", "()I"⟩
abbrev cJ0_charAt_5068e : ByteArray := prog_11_method_56_code
def yJ0_charAt_5068e : MethodName := ⟨RJ0, "charAt", "(I)C"⟩
abbrev cJ0_coder_7d493 : ByteArray := prog_11_method_152_code
def yJ0_coder_7d493 : MethodName := ⟨RJ0, "coder", "()B"⟩
abbrev cJ0_isLatin1_aae02 : ByteArray := prog_11_method_154_code
def yJ0_isLatin1_aae02 : MethodName := ⟨RJ0, "isLatin1", "()Z"⟩
abbrev cJ0_checkIndex_df160 : ByteArray := prog_11_method_155_code
def yJ0_checkIndex_df160 : MethodName := ⟨RJ0, "checkIndex", "(II)V"⟩
def RJ1 : String := "java/lang/StringLatin1"
def TJ1 : u_T := fun k => match k with
  | _ => ("", "", "", false)
def tyJ1 : Nat → FieldType := fun k => match k with
  | _ => .int
abbrev wsJ10 : List Cond := u_ws RJ1 TJ1 0
theorem nmJ1 : ∀ a, a < 0 → ∀ b, b < 0 → a ≠ b → (TJ1 a).2.1 ≠ (TJ1 b).2.1 := by decide +kernel
theorem tyJ1_ok : ∀ k, k < 0 → parseFieldDescriptor (TJ1 k).2.2.1 = some (tyJ1 k) := by decide +kernel
abbrev cJ1_charAt_3b067 : ByteArray := prog_12_method_2_code
def yJ1_charAt_3b067 : MethodName := ⟨RJ1, "charAt", "([BI)C"⟩
def RJ2 : String := "java/lang/StringUTF16"
def TJ2 : u_T := fun k => match k with
  | _ => ("", "", "", false)
def tyJ2 : Nat → FieldType := fun k => match k with
  | _ => .int
abbrev wsJ20 : List Cond := u_ws RJ2 TJ2 0
theorem nmJ2 : ∀ a, a < 0 → ∀ b, b < 0 → a ≠ b → (TJ2 a).2.1 ≠ (TJ2 b).2.1 := by decide +kernel
theorem tyJ2_ok : ∀ k, k < 0 → parseFieldDescriptor (TJ2 k).2.2.1 = some (tyJ2 k) := by decide +kernel
abbrev cJ2_getChar_3b067 : ByteArray := prog_13_method_5_code
def yJ2_getChar_3b067 : MethodName := ⟨RJ2, "getChar", "([BI)C"⟩
abbrev cJ2_length_9d52b : ByteArray := prog_13_method_6_code
def yJ2_length_9d52b : MethodName := ⟨RJ2, "length", "([B)I"⟩
abbrev cJ2_charAt_3b067 : ByteArray := prog_13_method_83_code
def yJ2_charAt_3b067 : MethodName := ⟨RJ2, "charAt", "([BI)C"⟩
abbrev cJ2_checkIndex_2214a : ByteArray := prog_13_method_91_code
def yJ2_checkIndex_2214a : MethodName := ⟨RJ2, "checkIndex", "(I[B)V"⟩
def RJ10 : String := "java/lang/System"
def TJ10 : u_T := fun k => match k with
  | _ => ("", "", "", false)
def tyJ10 : Nat → FieldType := fun k => match k with
  | _ => .int
abbrev wsJ100 : List Cond := u_ws RJ10 TJ10 0
theorem nmJ10 : ∀ a, a < 0 → ∀ b, b < 0 → a ≠ b → (TJ10 a).2.1 ≠ (TJ10 b).2.1 := by decide +kernel
theorem tyJ10_ok : ∀ k, k < 0 → parseFieldDescriptor (TJ10 k).2.2.1 = some (tyJ10 k) := by decide +kernel
def RJ3 : String := "jdk/internal/util/Preconditions"
def TJ3 : u_T := fun k => match k with
  | _ => ("", "", "", false)
def tyJ3 : Nat → FieldType := fun k => match k with
  | _ => .int
abbrev wsJ30 : List Cond := u_ws RJ3 TJ3 0
theorem nmJ3 : ∀ a, a < 0 → ∀ b, b < 0 → a ≠ b → (TJ3 a).2.1 ≠ (TJ3 b).2.1 := by decide +kernel
theorem tyJ3_ok : ∀ k, k < 0 → parseFieldDescriptor (TJ3 k).2.2.1 = some (tyJ3 k) := by decide +kernel
abbrev cJ3_checkIndex_8e157 : ByteArray := prog_15_method_11_code
def yJ3_checkIndex_8e157 : MethodName := ⟨RJ3, "checkIndex", "(IILjava/util/function/BiFunction;)I"⟩
def RL : String := "BasinVotesLaw"
abbrev cL_law : ByteArray := code
def yL_law : MethodName := ⟨RL, "law", "([I)Z"⟩
abbrev vwCl : List vw_C := [(RX1, TX1, 3), (RX2, TX2, 2), (RX3, TX3, 6), (RX4, TX4, 10), (RX5, TX5, 8), (RX6, TX6, 16)]
