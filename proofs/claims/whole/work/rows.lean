section
-- ===== PART A: goes FIRST, ahead of the names: the tables' words, and 'selects' of the private methods out of them =====
/-- a private method of a class that the tables say can be made, by its rows of tables_1 -/
def lw_okq (q : MethodName × Nat) : Prop := (q.1.cls ≠ "java/lang/invoke/MethodHandle" ∧ q.1.cls ≠ "java/lang/invoke/VarHandle") ∧ Cond.instantiable q.1.cls q.2 ∈ tables_1 ∧ Cond.privateMethod q.1 ∈ tables_1 ∧ Cond.instanceMethod q.1 ∈ tables_1
theorem lw_p0 : lw_okq (⟨"BasinVotes", "finding", "(I)I"⟩, 8) := ⟨⟨by decide +kernel, by decide +kernel⟩, List.mem_of_getElem? (i := 16) (by decide +kernel), List.mem_of_getElem? (i := 180) (by decide +kernel), List.mem_of_getElem? (i := 181) (by decide +kernel)⟩
theorem lw_p1 : lw_okq (⟨"BasinVotes$Town", "ladySide", "(II)I"⟩, 10) := ⟨⟨by decide +kernel, by decide +kernel⟩, List.mem_of_getElem? (i := 24) (by decide +kernel), List.mem_of_getElem? (i := 230) (by decide +kernel), List.mem_of_getElem? (i := 231) (by decide +kernel)⟩
theorem lw_p2 : lw_okq (⟨"BasinVotes$Town", "throwerSide", "(II)I"⟩, 10) := ⟨⟨by decide +kernel, by decide +kernel⟩, List.mem_of_getElem? (i := 24) (by decide +kernel), List.mem_of_getElem? (i := 234) (by decide +kernel), List.mem_of_getElem? (i := 235) (by decide +kernel)⟩
theorem lw_p3 : lw_okq (⟨"BasinVotes", "isPerson", "(I)Z"⟩, 8) := ⟨⟨by decide +kernel, by decide +kernel⟩, List.mem_of_getElem? (i := 16) (by decide +kernel), List.mem_of_getElem? (i := 265) (by decide +kernel), List.mem_of_getElem? (i := 266) (by decide +kernel)⟩
theorem lw_p4 : lw_okq (⟨"BasinVotes$Town", "visit", "(II)V"⟩, 10) := ⟨⟨by decide +kernel, by decide +kernel⟩, List.mem_of_getElem? (i := 24) (by decide +kernel), List.mem_of_getElem? (i := 336) (by decide +kernel), List.mem_of_getElem? (i := 337) (by decide +kernel)⟩
theorem lw_p5 : lw_okq (⟨"BasinVotes$Town", "net", "(I)V"⟩, 10) := ⟨⟨by decide +kernel, by decide +kernel⟩, List.mem_of_getElem? (i := 24) (by decide +kernel), List.mem_of_getElem? (i := 345) (by decide +kernel), List.mem_of_getElem? (i := 346) (by decide +kernel)⟩
theorem lw_p6 : lw_okq (⟨"BasinVotes", "tryDays", "(I)V"⟩, 8) := ⟨⟨by decide +kernel, by decide +kernel⟩, List.mem_of_getElem? (i := 16) (by decide +kernel), List.mem_of_getElem? (i := 353) (by decide +kernel), List.mem_of_getElem? (i := 354) (by decide +kernel)⟩
theorem lw_p7 : lw_okq (⟨"BasinVotes", "heldIfBribed", "(II)I"⟩, 8) := ⟨⟨by decide +kernel, by decide +kernel⟩, List.mem_of_getElem? (i := 16) (by decide +kernel), List.mem_of_getElem? (i := 403) (by decide +kernel), List.mem_of_getElem? (i := 404) (by decide +kernel)⟩
theorem lw_p8 : lw_okq (⟨"BasinVotes$TextReader", "next", "()V"⟩, 6) := ⟨⟨by decide +kernel, by decide +kernel⟩, List.mem_of_getElem? (i := 92) (by decide +kernel), List.mem_of_getElem? (i := 435) (by decide +kernel), List.mem_of_getElem? (i := 436) (by decide +kernel)⟩
theorem lw_p9 : lw_okq (⟨"BasinVotes$TextReader", "byteAt", "(I)I"⟩, 6) := ⟨⟨by decide +kernel, by decide +kernel⟩, List.mem_of_getElem? (i := 92) (by decide +kernel), List.mem_of_getElem? (i := 439) (by decide +kernel), List.mem_of_getElem? (i := 440) (by decide +kernel)⟩
theorem lw_p10 : lw_okq (⟨"BasinVotes$TextReader", "nextWord", "()V"⟩, 6) := ⟨⟨by decide +kernel, by decide +kernel⟩, List.mem_of_getElem? (i := 92) (by decide +kernel), List.mem_of_getElem? (i := 446) (by decide +kernel), List.mem_of_getElem? (i := 447) (by decide +kernel)⟩
theorem lw_p11 : lw_okq (⟨"BasinVotes$TextReader", "nextNumber", "()V"⟩, 6) := ⟨⟨by decide +kernel, by decide +kernel⟩, List.mem_of_getElem? (i := 92) (by decide +kernel), List.mem_of_getElem? (i := 453) (by decide +kernel), List.mem_of_getElem? (i := 454) (by decide +kernel)⟩
theorem lw_p12 : lw_okq (⟨"BasinVotes$TextReader", "readItem", "()Z"⟩, 6) := ⟨⟨by decide +kernel, by decide +kernel⟩, List.mem_of_getElem? (i := 92) (by decide +kernel), List.mem_of_getElem? (i := 458) (by decide +kernel), List.mem_of_getElem? (i := 459) (by decide +kernel)⟩
theorem lw_p13 : lw_okq (⟨"BasinVotes$TextReader", "kindNamed", "()I"⟩, 6) := ⟨⟨by decide +kernel, by decide +kernel⟩, List.mem_of_getElem? (i := 92) (by decide +kernel), List.mem_of_getElem? (i := 462) (by decide +kernel), List.mem_of_getElem? (i := 463) (by decide +kernel)⟩
theorem lw_p14 : lw_okq (⟨"BasinVotes$TextReader", "isWord", "(Ljava/lang/String;)Z"⟩, 6) := ⟨⟨by decide +kernel, by decide +kernel⟩, List.mem_of_getElem? (i := 92) (by decide +kernel), List.mem_of_getElem? (i := 467) (by decide +kernel), List.mem_of_getElem? (i := 468) (by decide +kernel)⟩
theorem lw_p15 : lw_okq (⟨"BasinVotes$TextReader", "readPerson", "(I)Z"⟩, 6) := ⟨⟨by decide +kernel, by decide +kernel⟩, List.mem_of_getElem? (i := 92) (by decide +kernel), List.mem_of_getElem? (i := 525) (by decide +kernel), List.mem_of_getElem? (i := 526) (by decide +kernel)⟩
def lw_privs_1 : List (MethodName × Nat) := [(⟨"BasinVotes", "finding", "(I)I"⟩, 8), (⟨"BasinVotes$Town", "ladySide", "(II)I"⟩, 10), (⟨"BasinVotes$Town", "throwerSide", "(II)I"⟩, 10), (⟨"BasinVotes", "isPerson", "(I)Z"⟩, 8), (⟨"BasinVotes$Town", "visit", "(II)V"⟩, 10), (⟨"BasinVotes$Town", "net", "(I)V"⟩, 10), (⟨"BasinVotes", "tryDays", "(I)V"⟩, 8), (⟨"BasinVotes", "heldIfBribed", "(II)I"⟩, 8), (⟨"BasinVotes$TextReader", "next", "()V"⟩, 6), (⟨"BasinVotes$TextReader", "byteAt", "(I)I"⟩, 6), (⟨"BasinVotes$TextReader", "nextWord", "()V"⟩, 6), (⟨"BasinVotes$TextReader", "nextNumber", "()V"⟩, 6), (⟨"BasinVotes$TextReader", "readItem", "()Z"⟩, 6), (⟨"BasinVotes$TextReader", "kindNamed", "()I"⟩, 6), (⟨"BasinVotes$TextReader", "isWord", "(Ljava/lang/String;)Z"⟩, 6), (⟨"BasinVotes$TextReader", "readPerson", "(I)Z"⟩, 6)]
theorem lw_r1 : ∀ q ∈ lw_privs_1, lw_okq q := List.forall_mem_cons.mpr ⟨lw_p0, List.forall_mem_cons.mpr ⟨lw_p1, List.forall_mem_cons.mpr ⟨lw_p2, List.forall_mem_cons.mpr ⟨lw_p3, List.forall_mem_cons.mpr ⟨lw_p4, List.forall_mem_cons.mpr ⟨lw_p5, List.forall_mem_cons.mpr ⟨lw_p6, List.forall_mem_cons.mpr ⟨lw_p7, List.forall_mem_cons.mpr ⟨lw_p8, List.forall_mem_cons.mpr ⟨lw_p9, List.forall_mem_cons.mpr ⟨lw_p10, List.forall_mem_cons.mpr ⟨lw_p11, List.forall_mem_cons.mpr ⟨lw_p12, List.forall_mem_cons.mpr ⟨lw_p13, List.forall_mem_cons.mpr ⟨lw_p14, List.forall_mem_cons.mpr ⟨lw_p15, fun _ h => absurd h List.not_mem_nil⟩⟩⟩⟩⟩⟩⟩⟩⟩⟩⟩⟩⟩⟩⟩⟩
theorem lw_p16 : lw_okq (⟨"BasinVotes$TextReader", "isNumber", "(I)Z"⟩, 6) := ⟨⟨by decide +kernel, by decide +kernel⟩, List.mem_of_getElem? (i := 92) (by decide +kernel), List.mem_of_getElem? (i := 532) (by decide +kernel), List.mem_of_getElem? (i := 533) (by decide +kernel)⟩
theorem lw_p17 : lw_okq (⟨"BasinVotes$TextReader", "readLying", "(I)Z"⟩, 6) := ⟨⟨by decide +kernel, by decide +kernel⟩, List.mem_of_getElem? (i := 92) (by decide +kernel), List.mem_of_getElem? (i := 538) (by decide +kernel), List.mem_of_getElem? (i := 539) (by decide +kernel)⟩
theorem lw_p18 : lw_okq (⟨"BasinVotes$TextReader", "readBribe", "()Z"⟩, 6) := ⟨⟨by decide +kernel, by decide +kernel⟩, List.mem_of_getElem? (i := 92) (by decide +kernel), List.mem_of_getElem? (i := 545) (by decide +kernel), List.mem_of_getElem? (i := 546) (by decide +kernel)⟩
theorem lw_p19 : lw_okq (⟨"BasinVotes$TextReader", "readAway", "()Z"⟩, 6) := ⟨⟨by decide +kernel, by decide +kernel⟩, List.mem_of_getElem? (i := 92) (by decide +kernel), List.mem_of_getElem? (i := 550) (by decide +kernel), List.mem_of_getElem? (i := 551) (by decide +kernel)⟩
theorem lw_p20 : lw_okq (⟨"BasinVotes", "trialGoesAsBooked", "(II)Z"⟩, 8) := ⟨⟨by decide +kernel, by decide +kernel⟩, List.mem_of_getElem? (i := 16) (by decide +kernel), List.mem_of_getElem? (i := 603) (by decide +kernel), List.mem_of_getElem? (i := 604) (by decide +kernel)⟩
theorem lw_p21 : lw_okq (⟨"BasinVotesModel", "becomes", "(II)I"⟩, 16) := ⟨⟨by decide +kernel, by decide +kernel⟩, List.mem_of_getElem? (i := 627) (by decide +kernel), List.mem_of_getElem? (i := 697) (by decide +kernel), List.mem_of_getElem? (i := 698) (by decide +kernel)⟩
theorem lw_p22 : lw_okq (⟨"BasinVotesModel", "finds", "(I)I"⟩, 16) := ⟨⟨by decide +kernel, by decide +kernel⟩, List.mem_of_getElem? (i := 627) (by decide +kernel), List.mem_of_getElem? (i := 702) (by decide +kernel), List.mem_of_getElem? (i := 703) (by decide +kernel)⟩
theorem lw_p23 : lw_okq (⟨"BasinVotesModel", "heldIn", "(I)I"⟩, 16) := ⟨⟨by decide +kernel, by decide +kernel⟩, List.mem_of_getElem? (i := 627) (by decide +kernel), List.mem_of_getElem? (i := 711) (by decide +kernel), List.mem_of_getElem? (i := 712) (by decide +kernel)⟩
theorem lw_p24 : lw_okq (⟨"BasinVotesModel", "ofDay", "()I"⟩, 16) := ⟨⟨by decide +kernel, by decide +kernel⟩, List.mem_of_getElem? (i := 627) (by decide +kernel), List.mem_of_getElem? (i := 728) (by decide +kernel), List.mem_of_getElem? (i := 729) (by decide +kernel)⟩
theorem lw_p25 : lw_okq (⟨"BasinVotesModel", "leftOnes", "()I"⟩, 16) := ⟨⟨by decide +kernel, by decide +kernel⟩, List.mem_of_getElem? (i := 627) (by decide +kernel), List.mem_of_getElem? (i := 732) (by decide +kernel), List.mem_of_getElem? (i := 733) (by decide +kernel)⟩
theorem lw_p26 : lw_okq (⟨"BasinVotesModel", "its", "(II)I"⟩, 16) := ⟨⟨by decide +kernel, by decide +kernel⟩, List.mem_of_getElem? (i := 627) (by decide +kernel), List.mem_of_getElem? (i := 736) (by decide +kernel), List.mem_of_getElem? (i := 737) (by decide +kernel)⟩
theorem lw_p27 : lw_okq (⟨"BasinVotesModel", "sideOf", "(II)I"⟩, 16) := ⟨⟨by decide +kernel, by decide +kernel⟩, List.mem_of_getElem? (i := 627) (by decide +kernel), List.mem_of_getElem? (i := 743) (by decide +kernel), List.mem_of_getElem? (i := 744) (by decide +kernel)⟩
theorem lw_p28 : lw_okq (⟨"BasinVotesModel", "ladySide", "(II)I"⟩, 16) := ⟨⟨by decide +kernel, by decide +kernel⟩, List.mem_of_getElem? (i := 627) (by decide +kernel), List.mem_of_getElem? (i := 747) (by decide +kernel), List.mem_of_getElem? (i := 748) (by decide +kernel)⟩
theorem lw_p29 : lw_okq (⟨"BasinVotesModel", "pence", "()I"⟩, 16) := ⟨⟨by decide +kernel, by decide +kernel⟩, List.mem_of_getElem? (i := 627) (by decide +kernel), List.mem_of_getElem? (i := 751) (by decide +kernel), List.mem_of_getElem? (i := 752) (by decide +kernel)⟩
theorem lw_p30 : lw_okq (⟨"BasinVotesModel", "together", "(I)I"⟩, 16) := ⟨⟨by decide +kernel, by decide +kernel⟩, List.mem_of_getElem? (i := 627) (by decide +kernel), List.mem_of_getElem? (i := 755) (by decide +kernel), List.mem_of_getElem? (i := 756) (by decide +kernel)⟩
theorem lw_p31 : lw_okq (⟨"BasinVotesModel", "adds", "(I)I"⟩, 16) := ⟨⟨by decide +kernel, by decide +kernel⟩, List.mem_of_getElem? (i := 627) (by decide +kernel), List.mem_of_getElem? (i := 767) (by decide +kernel), List.mem_of_getElem? (i := 768) (by decide +kernel)⟩
def lw_privs_2 : List (MethodName × Nat) := [(⟨"BasinVotes$TextReader", "isNumber", "(I)Z"⟩, 6), (⟨"BasinVotes$TextReader", "readLying", "(I)Z"⟩, 6), (⟨"BasinVotes$TextReader", "readBribe", "()Z"⟩, 6), (⟨"BasinVotes$TextReader", "readAway", "()Z"⟩, 6), (⟨"BasinVotes", "trialGoesAsBooked", "(II)Z"⟩, 8), (⟨"BasinVotesModel", "becomes", "(II)I"⟩, 16), (⟨"BasinVotesModel", "finds", "(I)I"⟩, 16), (⟨"BasinVotesModel", "heldIn", "(I)I"⟩, 16), (⟨"BasinVotesModel", "ofDay", "()I"⟩, 16), (⟨"BasinVotesModel", "leftOnes", "()I"⟩, 16), (⟨"BasinVotesModel", "its", "(II)I"⟩, 16), (⟨"BasinVotesModel", "sideOf", "(II)I"⟩, 16), (⟨"BasinVotesModel", "ladySide", "(II)I"⟩, 16), (⟨"BasinVotesModel", "pence", "()I"⟩, 16), (⟨"BasinVotesModel", "together", "(I)I"⟩, 16), (⟨"BasinVotesModel", "adds", "(I)I"⟩, 16)]
theorem lw_r2 : ∀ q ∈ lw_privs_2, lw_okq q := List.forall_mem_cons.mpr ⟨lw_p16, List.forall_mem_cons.mpr ⟨lw_p17, List.forall_mem_cons.mpr ⟨lw_p18, List.forall_mem_cons.mpr ⟨lw_p19, List.forall_mem_cons.mpr ⟨lw_p20, List.forall_mem_cons.mpr ⟨lw_p21, List.forall_mem_cons.mpr ⟨lw_p22, List.forall_mem_cons.mpr ⟨lw_p23, List.forall_mem_cons.mpr ⟨lw_p24, List.forall_mem_cons.mpr ⟨lw_p25, List.forall_mem_cons.mpr ⟨lw_p26, List.forall_mem_cons.mpr ⟨lw_p27, List.forall_mem_cons.mpr ⟨lw_p28, List.forall_mem_cons.mpr ⟨lw_p29, List.forall_mem_cons.mpr ⟨lw_p30, List.forall_mem_cons.mpr ⟨lw_p31, fun _ h => absurd h List.not_mem_nil⟩⟩⟩⟩⟩⟩⟩⟩⟩⟩⟩⟩⟩⟩⟩⟩
theorem lw_p32 : lw_okq (⟨"BasinVotesModel", "isPerson", "(I)Z"⟩, 16) := ⟨⟨by decide +kernel, by decide +kernel⟩, List.mem_of_getElem? (i := 627) (by decide +kernel), List.mem_of_getElem? (i := 775) (by decide +kernel), List.mem_of_getElem? (i := 776) (by decide +kernel)⟩
theorem lw_p33 : lw_okq (⟨"BasinVotesModel", "throwsOf", "(I)I"⟩, 16) := ⟨⟨by decide +kernel, by decide +kernel⟩, List.mem_of_getElem? (i := 627) (by decide +kernel), List.mem_of_getElem? (i := 779) (by decide +kernel), List.mem_of_getElem? (i := 780) (by decide +kernel)⟩
theorem lw_p34 : lw_okq (⟨"BasinVotesModel", "earnsOf", "(I)I"⟩, 16) := ⟨⟨by decide +kernel, by decide +kernel⟩, List.mem_of_getElem? (i := 627) (by decide +kernel), List.mem_of_getElem? (i := 786) (by decide +kernel), List.mem_of_getElem? (i := 787) (by decide +kernel)⟩
theorem lw_p35 : lw_okq (⟨"BasinVotesModel", "divesOf", "(II)I"⟩, 16) := ⟨⟨by decide +kernel, by decide +kernel⟩, List.mem_of_getElem? (i := 627) (by decide +kernel), List.mem_of_getElem? (i := 794) (by decide +kernel), List.mem_of_getElem? (i := 795) (by decide +kernel)⟩
theorem lw_p36 : lw_okq (⟨"BasinVotesModel", "fuller", "(I)I"⟩, 16) := ⟨⟨by decide +kernel, by decide +kernel⟩, List.mem_of_getElem? (i := 627) (by decide +kernel), List.mem_of_getElem? (i := 798) (by decide +kernel), List.mem_of_getElem? (i := 799) (by decide +kernel)⟩
theorem lw_p37 : lw_okq (⟨"BasinVotesModel", "daysGo", "(I)V"⟩, 16) := ⟨⟨by decide +kernel, by decide +kernel⟩, List.mem_of_getElem? (i := 627) (by decide +kernel), List.mem_of_getElem? (i := 826) (by decide +kernel), List.mem_of_getElem? (i := 827) (by decide +kernel)⟩
theorem lw_p38 : lw_okq (⟨"BasinVotesModel", "day", "()V"⟩, 16) := ⟨⟨by decide +kernel, by decide +kernel⟩, List.mem_of_getElem? (i := 627) (by decide +kernel), List.mem_of_getElem? (i := 830) (by decide +kernel), List.mem_of_getElem? (i := 831) (by decide +kernel)⟩
theorem lw_p39 : lw_okq (⟨"BasinVotesModel", "comes", "(II)V"⟩, 16) := ⟨⟨by decide +kernel, by decide +kernel⟩, List.mem_of_getElem? (i := 627) (by decide +kernel), List.mem_of_getElem? (i := 834) (by decide +kernel), List.mem_of_getElem? (i := 835) (by decide +kernel)⟩
theorem lw_p40 : lw_okq (⟨"BasinVotesModel", "net", "(I)V"⟩, 16) := ⟨⟨by decide +kernel, by decide +kernel⟩, List.mem_of_getElem? (i := 627) (by decide +kernel), List.mem_of_getElem? (i := 838) (by decide +kernel), List.mem_of_getElem? (i := 839) (by decide +kernel)⟩
theorem lw_p41 : lw_okq (⟨"BasinVotesModel", "behind", "(II)I"⟩, 16) := ⟨⟨by decide +kernel, by decide +kernel⟩, List.mem_of_getElem? (i := 627) (by decide +kernel), List.mem_of_getElem? (i := 850) (by decide +kernel), List.mem_of_getElem? (i := 851) (by decide +kernel)⟩
theorem lw_p42 : lw_okq (⟨"BasinVotesModel", "laysAside", "()V"⟩, 16) := ⟨⟨by decide +kernel, by decide +kernel⟩, List.mem_of_getElem? (i := 627) (by decide +kernel), List.mem_of_getElem? (i := 854) (by decide +kernel), List.mem_of_getElem? (i := 855) (by decide +kernel)⟩
theorem lw_p43 : lw_okq (⟨"BasinVotesModel", "takesBack", "(I)I"⟩, 16) := ⟨⟨by decide +kernel, by decide +kernel⟩, List.mem_of_getElem? (i := 627) (by decide +kernel), List.mem_of_getElem? (i := 858) (by decide +kernel), List.mem_of_getElem? (i := 859) (by decide +kernel)⟩
theorem lw_p44 : lw_okq (⟨"BasinVotesModel", "toldAt", "(I)I"⟩, 16) := ⟨⟨by decide +kernel, by decide +kernel⟩, List.mem_of_getElem? (i := 627) (by decide +kernel), List.mem_of_getElem? (i := 870) (by decide +kernel), List.mem_of_getElem? (i := 871) (by decide +kernel)⟩
theorem lw_p45 : lw_okq (⟨"BasinVotesModel", "saves", "()V"⟩, 16) := ⟨⟨by decide +kernel, by decide +kernel⟩, List.mem_of_getElem? (i := 627) (by decide +kernel), List.mem_of_getElem? (i := 924) (by decide +kernel), List.mem_of_getElem? (i := 925) (by decide +kernel)⟩
theorem lw_p46 : lw_okq (⟨"BasinVotesModel", "token", "()V"⟩, 16) := ⟨⟨by decide +kernel, by decide +kernel⟩, List.mem_of_getElem? (i := 627) (by decide +kernel), List.mem_of_getElem? (i := 928) (by decide +kernel), List.mem_of_getElem? (i := 929) (by decide +kernel)⟩
theorem lw_p47 : lw_okq (⟨"BasinVotesModel", "byteAt", "(I)I"⟩, 16) := ⟨⟨by decide +kernel, by decide +kernel⟩, List.mem_of_getElem? (i := 627) (by decide +kernel), List.mem_of_getElem? (i := 932) (by decide +kernel), List.mem_of_getElem? (i := 933) (by decide +kernel)⟩
def lw_privs_3 : List (MethodName × Nat) := [(⟨"BasinVotesModel", "isPerson", "(I)Z"⟩, 16), (⟨"BasinVotesModel", "throwsOf", "(I)I"⟩, 16), (⟨"BasinVotesModel", "earnsOf", "(I)I"⟩, 16), (⟨"BasinVotesModel", "divesOf", "(II)I"⟩, 16), (⟨"BasinVotesModel", "fuller", "(I)I"⟩, 16), (⟨"BasinVotesModel", "daysGo", "(I)V"⟩, 16), (⟨"BasinVotesModel", "day", "()V"⟩, 16), (⟨"BasinVotesModel", "comes", "(II)V"⟩, 16), (⟨"BasinVotesModel", "net", "(I)V"⟩, 16), (⟨"BasinVotesModel", "behind", "(II)I"⟩, 16), (⟨"BasinVotesModel", "laysAside", "()V"⟩, 16), (⟨"BasinVotesModel", "takesBack", "(I)I"⟩, 16), (⟨"BasinVotesModel", "toldAt", "(I)I"⟩, 16), (⟨"BasinVotesModel", "saves", "()V"⟩, 16), (⟨"BasinVotesModel", "token", "()V"⟩, 16), (⟨"BasinVotesModel", "byteAt", "(I)I"⟩, 16)]
theorem lw_r3 : ∀ q ∈ lw_privs_3, lw_okq q := List.forall_mem_cons.mpr ⟨lw_p32, List.forall_mem_cons.mpr ⟨lw_p33, List.forall_mem_cons.mpr ⟨lw_p34, List.forall_mem_cons.mpr ⟨lw_p35, List.forall_mem_cons.mpr ⟨lw_p36, List.forall_mem_cons.mpr ⟨lw_p37, List.forall_mem_cons.mpr ⟨lw_p38, List.forall_mem_cons.mpr ⟨lw_p39, List.forall_mem_cons.mpr ⟨lw_p40, List.forall_mem_cons.mpr ⟨lw_p41, List.forall_mem_cons.mpr ⟨lw_p42, List.forall_mem_cons.mpr ⟨lw_p43, List.forall_mem_cons.mpr ⟨lw_p44, List.forall_mem_cons.mpr ⟨lw_p45, List.forall_mem_cons.mpr ⟨lw_p46, List.forall_mem_cons.mpr ⟨lw_p47, fun _ h => absurd h List.not_mem_nil⟩⟩⟩⟩⟩⟩⟩⟩⟩⟩⟩⟩⟩⟩⟩⟩
theorem lw_p48 : lw_okq (⟨"BasinVotesModel", "item", "()V"⟩, 16) := ⟨⟨by decide +kernel, by decide +kernel⟩, List.mem_of_getElem? (i := 627) (by decide +kernel), List.mem_of_getElem? (i := 946) (by decide +kernel), List.mem_of_getElem? (i := 947) (by decide +kernel)⟩
theorem lw_p49 : lw_okq (⟨"BasinVotesModel", "kindHere", "()I"⟩, 16) := ⟨⟨by decide +kernel, by decide +kernel⟩, List.mem_of_getElem? (i := 627) (by decide +kernel), List.mem_of_getElem? (i := 950) (by decide +kernel), List.mem_of_getElem? (i := 951) (by decide +kernel)⟩
theorem lw_p50 : lw_okq (⟨"BasinVotesModel", "word", "()J"⟩, 16) := ⟨⟨by decide +kernel, by decide +kernel⟩, List.mem_of_getElem? (i := 627) (by decide +kernel), List.mem_of_getElem? (i := 954) (by decide +kernel), List.mem_of_getElem? (i := 955) (by decide +kernel)⟩
theorem lw_p51 : lw_okq (⟨"BasinVotesModel", "sideHere", "()I"⟩, 16) := ⟨⟨by decide +kernel, by decide +kernel⟩, List.mem_of_getElem? (i := 627) (by decide +kernel), List.mem_of_getElem? (i := 966) (by decide +kernel), List.mem_of_getElem? (i := 967) (by decide +kernel)⟩
theorem lw_p52 : lw_okq (⟨"BasinVotesModel", "personItem", "(I)V"⟩, 16) := ⟨⟨by decide +kernel, by decide +kernel⟩, List.mem_of_getElem? (i := 627) (by decide +kernel), List.mem_of_getElem? (i := 972) (by decide +kernel), List.mem_of_getElem? (i := 973) (by decide +kernel)⟩
theorem lw_p53 : lw_okq (⟨"BasinVotesModel", "must", "(Z)V"⟩, 16) := ⟨⟨by decide +kernel, by decide +kernel⟩, List.mem_of_getElem? (i := 627) (by decide +kernel), List.mem_of_getElem? (i := 976) (by decide +kernel), List.mem_of_getElem? (i := 977) (by decide +kernel)⟩
theorem lw_p54 : lw_okq (⟨"BasinVotesModel", "partItem", "(JII)V"⟩, 16) := ⟨⟨by decide +kernel, by decide +kernel⟩, List.mem_of_getElem? (i := 627) (by decide +kernel), List.mem_of_getElem? (i := 981) (by decide +kernel), List.mem_of_getElem? (i := 982) (by decide +kernel)⟩
theorem lw_p55 : lw_okq (⟨"BasinVotesModel", "number", "(II)V"⟩, 16) := ⟨⟨by decide +kernel, by decide +kernel⟩, List.mem_of_getElem? (i := 627) (by decide +kernel), List.mem_of_getElem? (i := 985) (by decide +kernel), List.mem_of_getElem? (i := 986) (by decide +kernel)⟩
theorem lw_p56 : lw_okq (⟨"BasinVotesModel", "sideItem", "(I)V"⟩, 16) := ⟨⟨by decide +kernel, by decide +kernel⟩, List.mem_of_getElem? (i := 627) (by decide +kernel), List.mem_of_getElem? (i := 990) (by decide +kernel), List.mem_of_getElem? (i := 991) (by decide +kernel)⟩
theorem lw_p57 : lw_okq (⟨"BasinVotesModel", "bribeItem", "()V"⟩, 16) := ⟨⟨by decide +kernel, by decide +kernel⟩, List.mem_of_getElem? (i := 627) (by decide +kernel), List.mem_of_getElem? (i := 995) (by decide +kernel), List.mem_of_getElem? (i := 996) (by decide +kernel)⟩
theorem lw_p58 : lw_okq (⟨"BasinVotesModel", "awayItem", "()V"⟩, 16) := ⟨⟨by decide +kernel, by decide +kernel⟩, List.mem_of_getElem? (i := 627) (by decide +kernel), List.mem_of_getElem? (i := 1000) (by decide +kernel), List.mem_of_getElem? (i := 1001) (by decide +kernel)⟩
theorem lw_p59 : lw_okq (⟨"BasinVotesModel", "putsBack", "()V"⟩, 16) := ⟨⟨by decide +kernel, by decide +kernel⟩, List.mem_of_getElem? (i := 627) (by decide +kernel), List.mem_of_getElem? (i := 1004) (by decide +kernel), List.mem_of_getElem? (i := 1005) (by decide +kernel)⟩
theorem lw_p60 : lw_okq (⟨"BasinVotesModel", "wrongSheet", "(I)I"⟩, 16) := ⟨⟨by decide +kernel, by decide +kernel⟩, List.mem_of_getElem? (i := 627) (by decide +kernel), List.mem_of_getElem? (i := 1020) (by decide +kernel), List.mem_of_getElem? (i := 1021) (by decide +kernel)⟩
theorem lw_p61 : lw_okq (⟨"BasinVotesModel", "isBook", "(II)Z"⟩, 16) := ⟨⟨by decide +kernel, by decide +kernel⟩, List.mem_of_getElem? (i := 627) (by decide +kernel), List.mem_of_getElem? (i := 1044) (by decide +kernel), List.mem_of_getElem? (i := 1045) (by decide +kernel)⟩
def lw_privs_4 : List (MethodName × Nat) := [(⟨"BasinVotesModel", "item", "()V"⟩, 16), (⟨"BasinVotesModel", "kindHere", "()I"⟩, 16), (⟨"BasinVotesModel", "word", "()J"⟩, 16), (⟨"BasinVotesModel", "sideHere", "()I"⟩, 16), (⟨"BasinVotesModel", "personItem", "(I)V"⟩, 16), (⟨"BasinVotesModel", "must", "(Z)V"⟩, 16), (⟨"BasinVotesModel", "partItem", "(JII)V"⟩, 16), (⟨"BasinVotesModel", "number", "(II)V"⟩, 16), (⟨"BasinVotesModel", "sideItem", "(I)V"⟩, 16), (⟨"BasinVotesModel", "bribeItem", "()V"⟩, 16), (⟨"BasinVotesModel", "awayItem", "()V"⟩, 16), (⟨"BasinVotesModel", "putsBack", "()V"⟩, 16), (⟨"BasinVotesModel", "wrongSheet", "(I)I"⟩, 16), (⟨"BasinVotesModel", "isBook", "(II)Z"⟩, 16)]
theorem lw_r4 : ∀ q ∈ lw_privs_4, lw_okq q := List.forall_mem_cons.mpr ⟨lw_p48, List.forall_mem_cons.mpr ⟨lw_p49, List.forall_mem_cons.mpr ⟨lw_p50, List.forall_mem_cons.mpr ⟨lw_p51, List.forall_mem_cons.mpr ⟨lw_p52, List.forall_mem_cons.mpr ⟨lw_p53, List.forall_mem_cons.mpr ⟨lw_p54, List.forall_mem_cons.mpr ⟨lw_p55, List.forall_mem_cons.mpr ⟨lw_p56, List.forall_mem_cons.mpr ⟨lw_p57, List.forall_mem_cons.mpr ⟨lw_p58, List.forall_mem_cons.mpr ⟨lw_p59, List.forall_mem_cons.mpr ⟨lw_p60, List.forall_mem_cons.mpr ⟨lw_p61, fun _ h => absurd h List.not_mem_nil⟩⟩⟩⟩⟩⟩⟩⟩⟩⟩⟩⟩⟩⟩
def lw_privs : List (MethodName × Nat) := lw_privs_1 ++ (lw_privs_2 ++ (lw_privs_3 ++ (lw_privs_4)))
def lw_tbl : List Cond := k2_sels lw_privs ++ tables_1
theorem lw_privs_ok : ∀ q ∈ lw_privs, lw_okq q := by
  show ∀ q ∈ lw_privs_1 ++ (lw_privs_2 ++ (lw_privs_3 ++ (lw_privs_4))), lw_okq q
  exact List.forall_mem_append.mpr ⟨lw_r1, List.forall_mem_append.mpr ⟨lw_r2, List.forall_mem_append.mpr ⟨lw_r3, lw_r4⟩⟩⟩
/-! ===== BEGIN words of one list among another's, by their places ===== -/
theorem goodIn_r {big : List Cond} (ws : List Cond) (ps : List Nat) (hp : ws = ps.filterMap (fun i => big[i]?)) (h : ws.all goodWord = true) : GoodIn big ws := by
  intro w hw
  have h1 := List.all_eq_true.mp h w hw
  rw [hp] at hw
  obtain ⟨i, -, hi⟩ := List.mem_filterMap.mp hw
  have hm : w ∈ big := by first | exact List.mem_of_getElem? hi | exact List.getElem?_mem hi
  exact ⟨hm, good_of_word h1⟩
theorem goodIn_app {big a b : List Cond} (ha : GoodIn big a) (hb : GoodIn big b) : GoodIn big (a ++ b) := fun w h => (List.mem_append.mp h).elim (ha w) (hb w)
theorem goodIn_ca {big a b : List Cond} {c : Cond} (ha : GoodIn big (c :: a)) (hb : GoodIn big b) : GoodIn big (c :: (a ++ b)) := fun w h => (List.mem_cons.mp h).elim (fun e => ha w (List.mem_cons.mpr (Or.inl e))) (fun h => (List.mem_append.mp h).elim (fun h => ha w (List.mem_cons.mpr (Or.inr h))) (hb w))
theorem goodIn_sub {big ws : List Cond} (hm : ∀ w ∈ ws, w ∈ big) (h : ws.all goodWord = true) : GoodIn big ws := fun w hw => ⟨hm w hw, good_of_word (List.all_eq_true.mp h w hw)⟩
/-! ===== END ===== -/

/-! ===== BEGIN new T[n][m]: the outer array a place, the inner ones among the pooled ===== -/
/-- f, but v at every address of l -/
def vr_up {α : Type} (f : Nat → α) (l : List Nat) (v : α) : Nat → α := fun a => if a ∈ l then v else f a
theorem vr_up_in {α : Type} {f : Nat → α} {l : List Nat} {v : α} {a : Nat} (h : a ∈ l) : vr_up f l v a = v := if_pos h
theorem vr_up_ne {α : Type} {f : Nat → α} {l : List Nat} {v : α} {a : Nat} (h : a ∉ l) : vr_up f l v a = f a := if_neg h
theorem vr_rows {L l : List Nat} {f : Nat → va_E} {e : va_E} (h : ∀ a, a ∈ l → a ∉ L) : va_pl L f ++ l.map (fun a => (a, e)) = va_pl (L ++ l) (vr_up f l e) := by
  unfold va_pl
  rw [List.map_append]
  congr 1
  · apply List.map_congr_left
    intro a ha
    rw [vr_up_ne (fun q => h a q ha)]
  · apply List.map_congr_left
    intro a ha
    rw [vr_up_in ha]
theorem vr_lay {X rows : va_W} {x : Nat × va_E} {pl : va_W} {D : va_G} {cl : List vw_C} {H : Heap} (hP : va_P D cl (((X ++ pl) ++ [x]) ++ rows) H) : va_P D cl ((X ++ [x]) ++ (pl ++ rows)) H := by
  rw [List.append_assoc (X ++ pl)] at hP
  have h := va_P.swap hP
  rw [← List.append_assoc X] at h
  have h2 := va_P.swap h
  rw [List.append_assoc (X ++ [x])] at h2
  exact h2
theorem vr_layD {X rows : va_W} {x : Nat × va_E} {pl : va_W} {A : Nat → Prop} (hD : va_D A (((X ++ pl) ++ [x]) ++ rows)) : va_D A ((X ++ [x]) ++ (pl ++ rows)) := by
  rw [List.append_assoc (X ++ pl)] at hD
  have h := va_D.swap hD
  rw [← List.append_assoc X] at h
  have h2 := va_D.swap h
  rw [List.append_assoc (X ++ [x])] at h2
  exact h2
theorem vr_outer (c : ClassId) (N h0 : Nat) : ∀ i : Nat, Jvm.Free.Multi.outerC c N h0 i = arrV c N (fun j => va_rf (if j < i then some (h0 + 1 + j) else none))
  | 0 => by
    show ({ cls := c, slots := Array.replicate N .null, vm := .none } : Cell) = _
    rw [arrV_new]
    refine congrArg (arrV c N) (funext fun j => ?_)
    simp [va_rf]
  | i + 1 => by
    show (Jvm.Free.Multi.outerC c N h0 i).setSlot i (.ref (h0 + 1 + i)) = _
    rw [vr_outer c N h0 i, arrV_store]
    refine congrArg (arrV c N) (funext fun j => ?_)
    by_cases e : j = i
    · subst e
      simp [updV, va_rf]
    · by_cases h : j < i
      · simp [updV, e, h, Nat.lt_succ_of_lt h]
      · simp [updV, e, h, show ¬ j < i + 1 by omega]
/-! ===== END ===== -/

/-! ===== BEGIN printed: names, fields, word lists, decode rows ===== -/
def RX0 : String := "BasinVotes$Kinds"
def TX0 : u_T := fun k => match k with
  | _ => ("", "", "", false)
def tyX0 : Nat → FieldType := fun k => match k with
  | _ => .int
abbrev wsX00 : List Cond := u_ws RX0 TX0 0
theorem nmX0 : ∀ a, a < 0 → ∀ b, b < 0 → a ≠ b → (TX0 a).2.1 ≠ (TX0 b).2.1 := by decide +kernel
theorem tyX0_ok : ∀ k, k < 0 → parseFieldDescriptor (TX0 k).2.2.1 = some (tyX0 k) := by decide +kernel
abbrev cX0_isUnder : ByteArray := prog_2_method_2_code
def yX0_isUnder : MethodName := ⟨RX0, "isUnder", "(II)Z"⟩
abbrev cX0_earns : ByteArray := prog_2_method_3_code
def yX0_earns : MethodName := ⟨RX0, "earns", "(I)I"⟩
abbrev cX0_throwsWith : ByteArray := prog_2_method_4_code
def yX0_throwsWith : MethodName := ⟨RX0, "throwsWith", "(II)I"⟩
abbrev cX0_wouldThrow : ByteArray := prog_2_method_5_code
def yX0_wouldThrow : MethodName := ⟨RX0, "wouldThrow", "(II)I"⟩
abbrev cX0_dives : ByteArray := prog_2_method_6_code
def yX0_dives : MethodName := ⟨RX0, "dives", "(III)I"⟩
def RX1 : String := "BasinVotes$Sheets"
def TX1 : u_T := fun k => match k with
  | 0 => ("BasinVotes$Sheets", "numbers", "[[J", true)
  | 1 => ("BasinVotes$Sheets", "bits", "[I", true)
  | _ => ("BasinVotes$Sheets", "sizes", "[I", true)
def tyX1 : Nat → FieldType := fun k => match k with
  | 0 => .array (.array .long)
  | 1 => .array .int
  | _ => .array .int
abbrev wsX10 : List Cond := u_ws RX1 TX1 3
theorem nmX1 : ∀ a, a < 3 → ∀ b, b < 3 → a ≠ b → (TX1 a).2.1 ≠ (TX1 b).2.1 := by decide +kernel
theorem tyX1_ok : ∀ k, k < 3 → parseFieldDescriptor (TX1 k).2.2.1 = some (tyX1 k) := by decide +kernel
abbrev cX1_init : ByteArray := prog_3_method_1_code
def yX1_init : MethodName := ⟨RX1, "<init>", "()V"⟩
abbrev cX1_areBits : ByteArray := prog_3_method_2_code
def yX1_areBits : MethodName := ⟨RX1, "areBits", "(I)Z"⟩
abbrev cX1_isMissing : ByteArray := prog_3_method_3_code
def yX1_isMissing : MethodName := ⟨RX1, "isMissing", "(I)Z"⟩
abbrev cX1_make : ByteArray := prog_3_method_4_code
def yX1_make : MethodName := ⟨RX1, "make", "(III)V"⟩
abbrev cX1_hasPart : ByteArray := prog_3_method_5_code
def yX1_hasPart : MethodName := ⟨RX1, "hasPart", "(III)Z"⟩
abbrev cX1_put : ByteArray := prog_3_method_6_code
def yX1_put : MethodName := ⟨RX1, "put", "(IIJ)V"⟩
def RX2 : String := "BasinVotes$Tape"
def TX2 : u_T := fun k => match k with
  | 0 => ("BasinVotes$Tape", "bytes", "[B", true)
  | _ => ("BasinVotes$Tape", "length", "I", false)
def tyX2 : Nat → FieldType := fun k => match k with
  | 0 => .array .byte
  | _ => .int
abbrev wsX20 : List Cond := u_ws RX2 TX2 2
theorem nmX2 : ∀ a, a < 2 → ∀ b, b < 2 → a ≠ b → (TX2 a).2.1 ≠ (TX2 b).2.1 := by decide +kernel
theorem tyX2_ok : ∀ k, k < 2 → parseFieldDescriptor (TX2 k).2.2.1 = some (tyX2 k) := by decide +kernel
abbrev cX2_init : ByteArray := prog_4_method_1_code
def yX2_init : MethodName := ⟨RX2, "<init>", "()V"⟩
abbrev cX2_hasRoom : ByteArray := prog_4_method_2_code
def yX2_hasRoom : MethodName := ⟨RX2, "hasRoom", "(I)Z"⟩
abbrev cX2_add : ByteArray := prog_4_method_3_code
def yX2_add : MethodName := ⟨RX2, "add", "(B)V"⟩
def RX3 : String := "BasinVotes$TextReader"
def TX3 : u_T := fun k => match k with
  | 0 => ("BasinVotes$TextReader", "tape", "LBasinVotes$Tape;", true)
  | 1 => ("BasinVotes$TextReader", "target", "LBasinVotes$Town;", true)
  | 2 => ("BasinVotes$TextReader", "start", "I", false)
  | 3 => ("BasinVotes$TextReader", "end", "I", false)
  | 4 => ("BasinVotes$TextReader", "token", "I", false)
  | _ => ("BasinVotes$TextReader", "value", "I", false)
def tyX3 : Nat → FieldType := fun k => match k with
  | 0 => .object "BasinVotes$Tape"
  | 1 => .object "BasinVotes$Town"
  | 2 => .int
  | 3 => .int
  | 4 => .int
  | _ => .int
abbrev wsX30 : List Cond := u_ws RX3 TX3 6
theorem nmX3 : ∀ a, a < 6 → ∀ b, b < 6 → a ≠ b → (TX3 a).2.1 ≠ (TX3 b).2.1 := by decide +kernel
theorem tyX3_ok : ∀ k, k < 6 → parseFieldDescriptor (TX3 k).2.2.1 = some (tyX3 k) := by decide +kernel
abbrev cX3_init : ByteArray := prog_5_method_1_code
def yX3_init : MethodName := ⟨RX3, "<init>", "(LBasinVotes$Tape;LBasinVotes$Town;)V"⟩
abbrev cX3_items : ByteArray := prog_5_method_2_code
def yX3_items : MethodName := ⟨RX3, "items", "()I"⟩
abbrev cX3_readItem : ByteArray := prog_5_method_3_code
def yX3_readItem : MethodName := ⟨RX3, "readItem", "()Z"⟩
abbrev cX3_kindNamed : ByteArray := prog_5_method_4_code
def yX3_kindNamed : MethodName := ⟨RX3, "kindNamed", "()I"⟩
abbrev cX3_readPerson : ByteArray := prog_5_method_5_code
def yX3_readPerson : MethodName := ⟨RX3, "readPerson", "(I)Z"⟩
abbrev cX3_readLying : ByteArray := prog_5_method_6_code
def yX3_readLying : MethodName := ⟨RX3, "readLying", "(I)Z"⟩
abbrev cX3_readBribe : ByteArray := prog_5_method_7_code
def yX3_readBribe : MethodName := ⟨RX3, "readBribe", "()Z"⟩
abbrev cX3_readAway : ByteArray := prog_5_method_8_code
def yX3_readAway : MethodName := ⟨RX3, "readAway", "()Z"⟩
abbrev cX3_isNumber : ByteArray := prog_5_method_9_code
def yX3_isNumber : MethodName := ⟨RX3, "isNumber", "(I)Z"⟩
abbrev cX3_isWord : ByteArray := prog_5_method_10_code
def yX3_isWord : MethodName := ⟨RX3, "isWord", "(Ljava/lang/String;)Z"⟩
abbrev cX3_next : ByteArray := prog_5_method_11_code
def yX3_next : MethodName := ⟨RX3, "next", "()V"⟩
abbrev cX3_nextWord : ByteArray := prog_5_method_12_code
def yX3_nextWord : MethodName := ⟨RX3, "nextWord", "()V"⟩
abbrev cX3_nextNumber : ByteArray := prog_5_method_13_code
def yX3_nextNumber : MethodName := ⟨RX3, "nextNumber", "()V"⟩
abbrev cX3_byteAt : ByteArray := prog_5_method_14_code
def yX3_byteAt : MethodName := ⟨RX3, "byteAt", "(I)I"⟩
abbrev cX3_isLetter : ByteArray := prog_5_method_15_code
def yX3_isLetter : MethodName := ⟨RX3, "isLetter", "(I)Z"⟩
abbrev cX3_isDigit : ByteArray := prog_5_method_16_code
def yX3_isDigit : MethodName := ⟨RX3, "isDigit", "(I)Z"⟩
def RX4 : String := "BasinVotes$Town"
def TX4 : u_T := fun k => match k with
  | 0 => ("BasinVotes$Town", "day", "I", false)
  | 1 => ("BasinVotes$Town", "holds", "I", false)
  | 2 => ("BasinVotes$Town", "bribed", "I", false)
  | 3 => ("BasinVotes$Town", "people", "I", false)
  | 4 => ("BasinVotes$Town", "left", "[I", true)
  | 5 => ("BasinVotes$Town", "right", "[I", true)
  | 6 => ("BasinVotes$Town", "kinds", "[I", true)
  | 7 => ("BasinVotes$Town", "leans", "[I", true)
  | 8 => ("BasinVotes$Town", "pence", "[I", true)
  | _ => ("BasinVotes$Town", "away", "[I", true)
def tyX4 : Nat → FieldType := fun k => match k with
  | 0 => .int
  | 1 => .int
  | 2 => .int
  | 3 => .int
  | 4 => .array .int
  | 5 => .array .int
  | 6 => .array .int
  | 7 => .array .int
  | 8 => .array .int
  | _ => .array .int
abbrev wsX40 : List Cond := u_ws RX4 TX4 10
theorem nmX4 : ∀ a, a < 10 → ∀ b, b < 10 → a ≠ b → (TX4 a).2.1 ≠ (TX4 b).2.1 := by decide +kernel
theorem tyX4_ok : ∀ k, k < 10 → parseFieldDescriptor (TX4 k).2.2.1 = some (tyX4 k) := by decide +kernel
abbrev cX4_init : ByteArray := prog_6_method_1_code
def yX4_init : MethodName := ⟨RX4, "<init>", "()V"⟩
abbrev cX4_become : ByteArray := prog_6_method_2_code
def yX4_become : MethodName := ⟨RX4, "become", "(LBasinVotes$Town;)V"⟩
abbrev cX4_isFull : ByteArray := prog_6_method_3_code
def yX4_isFull : MethodName := ⟨RX4, "isFull", "()Z"⟩
abbrev cX4_add : ByteArray := prog_6_method_4_code
def yX4_add : MethodName := ⟨RX4, "add", "(I)I"⟩
abbrev cX4_questionOfDay : ByteArray := prog_6_method_5_code
def yX4_questionOfDay : MethodName := ⟨RX4, "questionOfDay", "()I"⟩
abbrev cX4_lying : ByteArray := prog_6_method_6_code
def yX4_lying : MethodName := ⟨RX4, "lying", "(II)I"⟩
abbrev cX4_lay : ByteArray := prog_6_method_7_code
def yX4_lay : MethodName := ⟨RX4, "lay", "(III)V"⟩
abbrev cX4_tell : ByteArray := prog_6_method_8_code
def yX4_tell : MethodName := ⟨RX4, "tell", "(II)I"⟩
abbrev cX4_allLying : ByteArray := prog_6_method_9_code
def yX4_allLying : MethodName := ⟨RX4, "allLying", "(I)I"⟩
abbrev cX4_allPence : ByteArray := prog_6_method_10_code
def yX4_allPence : MethodName := ⟨RX4, "allPence", "()I"⟩
abbrev cX4_thoseForLeft : ByteArray := prog_6_method_11_code
def yX4_thoseForLeft : MethodName := ⟨RX4, "thoseForLeft", "()I"⟩
abbrev cX4_sideOf : ByteArray := prog_6_method_12_code
def yX4_sideOf : MethodName := ⟨RX4, "sideOf", "(II)I"⟩
abbrev cX4_throwerSide : ByteArray := prog_6_method_13_code
def yX4_throwerSide : MethodName := ⟨RX4, "throwerSide", "(II)I"⟩
abbrev cX4_ladySide : ByteArray := prog_6_method_14_code
def yX4_ladySide : MethodName := ⟨RX4, "ladySide", "(II)I"⟩
abbrev cX4_throwsOf : ByteArray := prog_6_method_15_code
def yX4_throwsOf : MethodName := ⟨RX4, "throwsOf", "(I)I"⟩
abbrev cX4_divesOf : ByteArray := prog_6_method_16_code
def yX4_divesOf : MethodName := ⟨RX4, "divesOf", "(II)I"⟩
abbrev cX4_goDays : ByteArray := prog_6_method_17_code
def yX4_goDays : MethodName := ⟨RX4, "goDays", "(I)V"⟩
abbrev cX4_goDay : ByteArray := prog_6_method_18_code
def yX4_goDay : MethodName := ⟨RX4, "goDay", "()V"⟩
abbrev cX4_visit : ByteArray := prog_6_method_19_code
def yX4_visit : MethodName := ⟨RX4, "visit", "(II)V"⟩
abbrev cX4_net : ByteArray := prog_6_method_20_code
def yX4_net : MethodName := ⟨RX4, "net", "(I)V"⟩
def RX5 : String := "BasinVotes"
def TX5 : u_T := fun k => match k with
  | 0 => ("BasinVotes", "real", "LBasinVotes$Town;", true)
  | 1 => ("BasinVotes", "trial", "LBasinVotes$Town;", true)
  | 2 => ("BasinVotes", "kept", "LBasinVotes$Town;", true)
  | 3 => ("BasinVotes", "keeps", "Z", false)
  | 4 => ("BasinVotes", "tape", "LBasinVotes$Tape;", true)
  | 5 => ("BasinVotes", "reader", "LBasinVotes$TextReader;", true)
  | 6 => ("BasinVotes", "sheets", "LBasinVotes$Sheets;", true)
  | _ => ("BasinVotes", "findings", "[I", true)
def tyX5 : Nat → FieldType := fun k => match k with
  | 0 => .object "BasinVotes$Town"
  | 1 => .object "BasinVotes$Town"
  | 2 => .object "BasinVotes$Town"
  | 3 => .boolean
  | 4 => .object "BasinVotes$Tape"
  | 5 => .object "BasinVotes$TextReader"
  | 6 => .object "BasinVotes$Sheets"
  | _ => .array .int
abbrev wsX50 : List Cond := u_ws RX5 TX5 8
theorem nmX5 : ∀ a, a < 8 → ∀ b, b < 8 → a ≠ b → (TX5 a).2.1 ≠ (TX5 b).2.1 := by decide +kernel
theorem tyX5_ok : ∀ k, k < 8 → parseFieldDescriptor (TX5 k).2.2.1 = some (tyX5 k) := by decide +kernel
abbrev cX5_init : ByteArray := prog_1_method_1_code
def yX5_init : MethodName := ⟨RX5, "<init>", "()V"⟩
abbrev cX5_lies : ByteArray := prog_1_method_2_code
def yX5_lies : MethodName := ⟨RX5, "lies", "(III)I"⟩
abbrev cX5_basin : ByteArray := prog_1_method_3_code
def yX5_basin : MethodName := ⟨RX5, "basin", "(II)I"⟩
abbrev cX5_bribe : ByteArray := prog_1_method_4_code
def yX5_bribe : MethodName := ⟨RX5, "bribe", "(I)I"⟩
abbrev cX5_held : ByteArray := prog_1_method_5_code
def yX5_held : MethodName := ⟨RX5, "held", "(I)I"⟩
abbrev cX5_now : ByteArray := prog_1_method_6_code
def yX5_now : MethodName := ⟨RX5, "now", "(I)I"⟩
abbrev cX5_person : ByteArray := prog_1_method_7_code
def yX5_person : MethodName := ⟨RX5, "person", "(I)I"⟩
abbrev cX5_of : ByteArray := prog_1_method_8_code
def yX5_of : MethodName := ⟨RX5, "of", "(II)I"⟩
abbrev cX5_acts : ByteArray := prog_1_method_9_code
def yX5_acts : MethodName := ⟨RX5, "acts", "(III)I"⟩
abbrev cX5_set : ByteArray := prog_1_method_10_code
def yX5_set : MethodName := ⟨RX5, "set", "(III)I"⟩
abbrev cX5_turn : ByteArray := prog_1_method_11_code
def yX5_turn : MethodName := ⟨RX5, "turn", "(II)I"⟩
abbrev cX5_as : ByteArray := prog_1_method_12_code
def yX5_as : MethodName := ⟨RX5, "as", "(II)I"⟩
abbrev cX5_days : ByteArray := prog_1_method_13_code
def yX5_days : MethodName := ⟨RX5, "days", "(I)I"⟩
abbrev cX5_on : ByteArray := prog_1_method_14_code
def yX5_on : MethodName := ⟨RX5, "on", "(II)I"⟩
abbrev cX5_then : ByteArray := prog_1_method_15_code
def yX5_then : MethodName := ⟨RX5, "then", "(III)I"⟩
abbrev cX5_flips : ByteArray := prog_1_method_16_code
def yX5_flips : MethodName := ⟨RX5, "flips", "(I)I"⟩
abbrev cX5_rich : ByteArray := prog_1_method_17_code
def yX5_rich : MethodName := ⟨RX5, "rich", "(II)I"⟩
abbrev cX5_kind : ByteArray := prog_1_method_18_code
def yX5_kind : MethodName := ⟨RX5, "kind", "(II)I"⟩
abbrev cX5_lean : ByteArray := prog_1_method_19_code
def yX5_lean : MethodName := ⟨RX5, "lean", "(II)I"⟩
abbrev cX5_buys : ByteArray := prog_1_method_20_code
def yX5_buys : MethodName := ⟨RX5, "buys", "(III)I"⟩
abbrev cX5_swing : ByteArray := prog_1_method_21_code
def yX5_swing : MethodName := ⟨RX5, "swing", "(I)I"⟩
abbrev cX5_pays : ByteArray := prog_1_method_22_code
def yX5_pays : MethodName := ⟨RX5, "pays", "(I)I"⟩
abbrev cX5_richest : ByteArray := prog_1_method_23_code
def yX5_richest : MethodName := ⟨RX5, "richest", "(I)I"⟩
abbrev cX5_feed : ByteArray := prog_1_method_24_code
def yX5_feed : MethodName := ⟨RX5, "feed", "(II)I"⟩
abbrev cX5_wipe : ByteArray := prog_1_method_25_code
def yX5_wipe : MethodName := ⟨RX5, "wipe", "()I"⟩
abbrev cX5_town : ByteArray := prog_1_method_26_code
def yX5_town : MethodName := ⟨RX5, "town", "()I"⟩
abbrev cX5_sheet : ByteArray := prog_1_method_27_code
def yX5_sheet : MethodName := ⟨RX5, "sheet", "(III)I"⟩
abbrev cX5_write : ByteArray := prog_1_method_28_code
def yX5_write : MethodName := ⟨RX5, "write", "(IIJ)J"⟩
abbrev cX5_copy : ByteArray := prog_1_method_29_code
def yX5_copy : MethodName := ⟨RX5, "copy", "(IIIII)I"⟩
abbrev cX5_lays : ByteArray := prog_1_method_30_code
def yX5_lays : MethodName := ⟨RX5, "lays", "(I)I"⟩
abbrev cX5_book : ByteArray := prog_1_method_31_code
def yX5_book : MethodName := ⟨RX5, "book", "(II)I"⟩
abbrev cX5_read : ByteArray := prog_1_method_32_code
def yX5_read : MethodName := ⟨RX5, "read", "(III)I"⟩
abbrev cX5_image : ByteArray := prog_1_method_33_code
def yX5_image : MethodName := ⟨RX5, "image", "()I"⟩
abbrev cX5_undo : ByteArray := prog_1_method_34_code
def yX5_undo : MethodName := ⟨RX5, "undo", "()I"⟩
abbrev cX5_tear : ByteArray := prog_1_method_35_code
def yX5_tear : MethodName := ⟨RX5, "tear", "()I"⟩
abbrev cX5_count : ByteArray := prog_1_method_36_code
def yX5_count : MethodName := ⟨RX5, "count", "(I)I"⟩
abbrev cX5_status : ByteArray := prog_1_method_37_code
def yX5_status : MethodName := ⟨RX5, "status", "(I)I"⟩
abbrev cX5_finding : ByteArray := prog_1_method_38_code
def yX5_finding : MethodName := ⟨RX5, "finding", "(I)I"⟩
abbrev cX5_change : ByteArray := prog_1_method_39_code
def yX5_change : MethodName := ⟨RX5, "change", "([III)I"⟩
abbrev cX5_tryDays : ByteArray := prog_1_method_40_code
def yX5_tryDays : MethodName := ⟨RX5, "tryDays", "(I)V"⟩
abbrev cX5_heldIfBribed : ByteArray := prog_1_method_41_code
def yX5_heldIfBribed : MethodName := ⟨RX5, "heldIfBribed", "(II)I"⟩
abbrev cX5_trialGoesAsBooked : ByteArray := prog_1_method_42_code
def yX5_trialGoesAsBooked : MethodName := ⟨RX5, "trialGoesAsBooked", "(II)Z"⟩
abbrev cX5_isPerson : ByteArray := prog_1_method_43_code
def yX5_isPerson : MethodName := ⟨RX5, "isPerson", "(I)Z"⟩
abbrev cX5_isQuestion : ByteArray := prog_1_method_44_code
def yX5_isQuestion : MethodName := ⟨RX5, "isQuestion", "(I)Z"⟩
abbrev cX5_isSide : ByteArray := prog_1_method_45_code
def yX5_isSide : MethodName := ⟨RX5, "isSide", "(I)Z"⟩
abbrev cX5_isKind : ByteArray := prog_1_method_46_code
def yX5_isKind : MethodName := ⟨RX5, "isKind", "(I)Z"⟩
abbrev cX5_isSet : ByteArray := prog_1_method_47_code
def yX5_isSet : MethodName := ⟨RX5, "isSet", "(I)Z"⟩
abbrev cX5_isPence : ByteArray := prog_1_method_48_code
def yX5_isPence : MethodName := ⟨RX5, "isPence", "(I)Z"⟩
abbrev cX5_isSheet : ByteArray := prog_1_method_49_code
def yX5_isSheet : MethodName := ⟨RX5, "isSheet", "(I)Z"⟩
abbrev cX5_isWithin : ByteArray := prog_1_method_50_code
def yX5_isWithin : MethodName := ⟨RX5, "isWithin", "(III)Z"⟩
def RX6 : String := "BasinVotesModel"
def TX6 : u_T := fun k => match k with
  | 0 => ("BasinVotesModel", "s", "[I", true)
  | 1 => ("BasinVotesModel", "keptS", "[I", true)
  | 2 => ("BasinVotesModel", "other", "[I", true)
  | 3 => ("BasinVotesModel", "aside", "[I", true)
  | 4 => ("BasinVotesModel", "statuses", "[I", true)
  | 5 => ("BasinVotesModel", "isKept", "Z", false)
  | 6 => ("BasinVotesModel", "tape", "[I", true)
  | 7 => ("BasinVotesModel", "taped", "I", false)
  | 8 => ("BasinVotesModel", "from", "I", false)
  | 9 => ("BasinVotesModel", "to", "I", false)
  | 10 => ("BasinVotesModel", "value", "I", false)
  | 11 => ("BasinVotesModel", "isWrong", "Z", false)
  | 12 => ("BasinVotesModel", "bitsOf", "[I", true)
  | 13 => ("BasinVotesModel", "sizeOf", "[I", true)
  | 14 => ("BasinVotesModel", "numbers", "[J", true)
  | _ => ("BasinVotesModel", "moved", "[J", true)
def tyX6 : Nat → FieldType := fun k => match k with
  | 0 => .array .int
  | 1 => .array .int
  | 2 => .array .int
  | 3 => .array .int
  | 4 => .array .int
  | 5 => .boolean
  | 6 => .array .int
  | 7 => .int
  | 8 => .int
  | 9 => .int
  | 10 => .int
  | 11 => .boolean
  | 12 => .array .int
  | 13 => .array .int
  | 14 => .array .long
  | _ => .array .long
abbrev wsX60 : List Cond := u_ws RX6 TX6 16
theorem nmX6 : ∀ a, a < 16 → ∀ b, b < 16 → a ≠ b → (TX6 a).2.1 ≠ (TX6 b).2.1 := by decide +kernel
theorem tyX6_ok : ∀ k, k < 16 → parseFieldDescriptor (TX6 k).2.2.1 = some (tyX6 k) := by decide +kernel
abbrev cX6_init : ByteArray := prog_8_method_1_code
def yX6_init : MethodName := ⟨RX6, "<init>", "()V"⟩
abbrev cX6_in : ByteArray := prog_8_method_2_code
def yX6_in : MethodName := ⟨RX6, "in", "(JJJ)Z"⟩
abbrev cX6_finds : ByteArray := prog_8_method_3_code
def yX6_finds : MethodName := ⟨RX6, "finds", "(I)I"⟩
abbrev cX6_saves : ByteArray := prog_8_method_4_code
def yX6_saves : MethodName := ⟨RX6, "saves", "()V"⟩
abbrev cX6_putsBack : ByteArray := prog_8_method_5_code
def yX6_putsBack : MethodName := ⟨RX6, "putsBack", "()V"⟩
abbrev cX6_laysAside : ByteArray := prog_8_method_6_code
def yX6_laysAside : MethodName := ⟨RX6, "laysAside", "()V"⟩
abbrev cX6_takesBack : ByteArray := prog_8_method_7_code
def yX6_takesBack : MethodName := ⟨RX6, "takesBack", "(I)I"⟩
abbrev cX6_becomes : ByteArray := prog_8_method_8_code
def yX6_becomes : MethodName := ⟨RX6, "becomes", "(II)I"⟩
abbrev cX6_basinSpot : ByteArray := prog_8_method_9_code
def yX6_basinSpot : MethodName := ⟨RX6, "basinSpot", "(II)I"⟩
abbrev cX6_spot : ByteArray := prog_8_method_10_code
def yX6_spot : MethodName := ⟨RX6, "spot", "(II)I"⟩
abbrev cX6_its : ByteArray := prog_8_method_11_code
def yX6_its : MethodName := ⟨RX6, "its", "(II)I"⟩
abbrev cX6_isPerson : ByteArray := prog_8_method_12_code
def yX6_isPerson : MethodName := ⟨RX6, "isPerson", "(I)Z"⟩
abbrev cX6_isQuestion : ByteArray := prog_8_method_13_code
def yX6_isQuestion : MethodName := ⟨RX6, "isQuestion", "(I)Z"⟩
abbrev cX6_isKind : ByteArray := prog_8_method_14_code
def yX6_isKind : MethodName := ⟨RX6, "isKind", "(I)Z"⟩
abbrev cX6_heldTo : ByteArray := prog_8_method_15_code
def yX6_heldTo : MethodName := ⟨RX6, "heldTo", "(II)I"⟩
abbrev cX6_ofDay : ByteArray := prog_8_method_16_code
def yX6_ofDay : MethodName := ⟨RX6, "ofDay", "()I"⟩
abbrev cX6_together : ByteArray := prog_8_method_17_code
def yX6_together : MethodName := ⟨RX6, "together", "(I)I"⟩
abbrev cX6_pence : ByteArray := prog_8_method_18_code
def yX6_pence : MethodName := ⟨RX6, "pence", "()I"⟩
abbrev cX6_lies : ByteArray := prog_8_method_19_code
def yX6_lies : MethodName := ⟨RX6, "lies", "(III)I"⟩
abbrev cX6_heldIn : ByteArray := prog_8_method_20_code
def yX6_heldIn : MethodName := ⟨RX6, "heldIn", "(I)I"⟩
abbrev cX6_basin : ByteArray := prog_8_method_21_code
def yX6_basin : MethodName := ⟨RX6, "basin", "(II)I"⟩
abbrev cX6_bribe : ByteArray := prog_8_method_22_code
def yX6_bribe : MethodName := ⟨RX6, "bribe", "(I)I"⟩
abbrev cX6_held : ByteArray := prog_8_method_23_code
def yX6_held : MethodName := ⟨RX6, "held", "(I)I"⟩
abbrev cX6_leftOnes : ByteArray := prog_8_method_24_code
def yX6_leftOnes : MethodName := ⟨RX6, "leftOnes", "()I"⟩
abbrev cX6_now : ByteArray := prog_8_method_25_code
def yX6_now : MethodName := ⟨RX6, "now", "(I)I"⟩
abbrev cX6_ladySide : ByteArray := prog_8_method_26_code
def yX6_ladySide : MethodName := ⟨RX6, "ladySide", "(II)I"⟩
abbrev cX6_sideOf : ByteArray := prog_8_method_27_code
def yX6_sideOf : MethodName := ⟨RX6, "sideOf", "(II)I"⟩
abbrev cX6_throwsOf : ByteArray := prog_8_method_28_code
def yX6_throwsOf : MethodName := ⟨RX6, "throwsOf", "(I)I"⟩
abbrev cX6_fuller : ByteArray := prog_8_method_29_code
def yX6_fuller : MethodName := ⟨RX6, "fuller", "(I)I"⟩
abbrev cX6_divesOf : ByteArray := prog_8_method_30_code
def yX6_divesOf : MethodName := ⟨RX6, "divesOf", "(II)I"⟩
abbrev cX6_earnsOf : ByteArray := prog_8_method_31_code
def yX6_earnsOf : MethodName := ⟨RX6, "earnsOf", "(I)I"⟩
abbrev cX6_adds : ByteArray := prog_8_method_32_code
def yX6_adds : MethodName := ⟨RX6, "adds", "(I)I"⟩
abbrev cX6_person : ByteArray := prog_8_method_33_code
def yX6_person : MethodName := ⟨RX6, "person", "(I)I"⟩
abbrev cX6_of : ByteArray := prog_8_method_34_code
def yX6_of : MethodName := ⟨RX6, "of", "(II)I"⟩
abbrev cX6_acts : ByteArray := prog_8_method_35_code
def yX6_acts : MethodName := ⟨RX6, "acts", "(III)I"⟩
abbrev cX6_set : ByteArray := prog_8_method_36_code
def yX6_set : MethodName := ⟨RX6, "set", "(III)I"⟩
abbrev cX6_turn : ByteArray := prog_8_method_37_code
def yX6_turn : MethodName := ⟨RX6, "turn", "(II)I"⟩
abbrev cX6_isUnder : ByteArray := prog_8_method_38_code
def yX6_isUnder : MethodName := ⟨RX6, "isUnder", "(II)Z"⟩
abbrev cX6_as : ByteArray := prog_8_method_39_code
def yX6_as : MethodName := ⟨RX6, "as", "(II)I"⟩
abbrev cX6_comes : ByteArray := prog_8_method_40_code
def yX6_comes : MethodName := ⟨RX6, "comes", "(II)V"⟩
abbrev cX6_net : ByteArray := prog_8_method_41_code
def yX6_net : MethodName := ⟨RX6, "net", "(I)V"⟩
abbrev cX6_day : ByteArray := prog_8_method_42_code
def yX6_day : MethodName := ⟨RX6, "day", "()V"⟩
abbrev cX6_daysGo : ByteArray := prog_8_method_43_code
def yX6_daysGo : MethodName := ⟨RX6, "daysGo", "(I)V"⟩
abbrev cX6_days : ByteArray := prog_8_method_44_code
def yX6_days : MethodName := ⟨RX6, "days", "(I)I"⟩
abbrev cX6_isAhead : ByteArray := prog_8_method_45_code
def yX6_isAhead : MethodName := ⟨RX6, "isAhead", "(I)Z"⟩
abbrev cX6_behind : ByteArray := prog_8_method_46_code
def yX6_behind : MethodName := ⟨RX6, "behind", "(II)I"⟩
abbrev cX6_on : ByteArray := prog_8_method_47_code
def yX6_on : MethodName := ⟨RX6, "on", "(II)I"⟩
abbrev cX6_then : ByteArray := prog_8_method_48_code
def yX6_then : MethodName := ⟨RX6, "then", "(III)I"⟩
abbrev cX6_toldAt : ByteArray := prog_8_method_49_code
def yX6_toldAt : MethodName := ⟨RX6, "toldAt", "(I)I"⟩
abbrev cX6_flips : ByteArray := prog_8_method_50_code
def yX6_flips : MethodName := ⟨RX6, "flips", "(I)I"⟩
abbrev cX6_rich : ByteArray := prog_8_method_51_code
def yX6_rich : MethodName := ⟨RX6, "rich", "(II)I"⟩
abbrev cX6_isSoon : ByteArray := prog_8_method_52_code
def yX6_isSoon : MethodName := ⟨RX6, "isSoon", "(I)Z"⟩
abbrev cX6_ones : ByteArray := prog_8_method_53_code
def yX6_ones : MethodName := ⟨RX6, "ones", "(I)I"⟩
abbrev cX6_kind : ByteArray := prog_8_method_54_code
def yX6_kind : MethodName := ⟨RX6, "kind", "(II)I"⟩
abbrev cX6_lean : ByteArray := prog_8_method_55_code
def yX6_lean : MethodName := ⟨RX6, "lean", "(II)I"⟩
abbrev cX6_buys : ByteArray := prog_8_method_56_code
def yX6_buys : MethodName := ⟨RX6, "buys", "(III)I"⟩
abbrev cX6_swing : ByteArray := prog_8_method_57_code
def yX6_swing : MethodName := ⟨RX6, "swing", "(I)I"⟩
abbrev cX6_pays : ByteArray := prog_8_method_58_code
def yX6_pays : MethodName := ⟨RX6, "pays", "(I)I"⟩
abbrev cX6_richest : ByteArray := prog_8_method_59_code
def yX6_richest : MethodName := ⟨RX6, "richest", "(I)I"⟩
abbrev cX6_feed : ByteArray := prog_8_method_60_code
def yX6_feed : MethodName := ⟨RX6, "feed", "(II)I"⟩
abbrev cX6_wipe : ByteArray := prog_8_method_61_code
def yX6_wipe : MethodName := ⟨RX6, "wipe", "()I"⟩
abbrev cX6_byteAt : ByteArray := prog_8_method_62_code
def yX6_byteAt : MethodName := ⟨RX6, "byteAt", "(I)I"⟩
abbrev cX6_isLetter : ByteArray := prog_8_method_63_code
def yX6_isLetter : MethodName := ⟨RX6, "isLetter", "(I)Z"⟩
abbrev cX6_isDigit : ByteArray := prog_8_method_64_code
def yX6_isDigit : MethodName := ⟨RX6, "isDigit", "(I)Z"⟩
abbrev cX6_token : ByteArray := prog_8_method_65_code
def yX6_token : MethodName := ⟨RX6, "token", "()V"⟩
abbrev cX6_must : ByteArray := prog_8_method_66_code
def yX6_must : MethodName := ⟨RX6, "must", "(Z)V"⟩
abbrev cX6_word : ByteArray := prog_8_method_67_code
def yX6_word : MethodName := ⟨RX6, "word", "()J"⟩
abbrev cX6_number : ByteArray := prog_8_method_68_code
def yX6_number : MethodName := ⟨RX6, "number", "(II)V"⟩
abbrev cX6_kindHere : ByteArray := prog_8_method_69_code
def yX6_kindHere : MethodName := ⟨RX6, "kindHere", "()I"⟩
abbrev cX6_sideHere : ByteArray := prog_8_method_70_code
def yX6_sideHere : MethodName := ⟨RX6, "sideHere", "()I"⟩
abbrev cX6_partItem : ByteArray := prog_8_method_71_code
def yX6_partItem : MethodName := ⟨RX6, "partItem", "(JII)V"⟩
abbrev cX6_personItem : ByteArray := prog_8_method_72_code
def yX6_personItem : MethodName := ⟨RX6, "personItem", "(I)V"⟩
abbrev cX6_sideItem : ByteArray := prog_8_method_73_code
def yX6_sideItem : MethodName := ⟨RX6, "sideItem", "(I)V"⟩
abbrev cX6_bribeItem : ByteArray := prog_8_method_74_code
def yX6_bribeItem : MethodName := ⟨RX6, "bribeItem", "()V"⟩
abbrev cX6_awayItem : ByteArray := prog_8_method_75_code
def yX6_awayItem : MethodName := ⟨RX6, "awayItem", "()V"⟩
abbrev cX6_item : ByteArray := prog_8_method_76_code
def yX6_item : MethodName := ⟨RX6, "item", "()V"⟩
abbrev cX6_town : ByteArray := prog_8_method_77_code
def yX6_town : MethodName := ⟨RX6, "town", "()I"⟩
abbrev cX6_isOne : ByteArray := prog_8_method_78_code
def yX6_isOne : MethodName := ⟨RX6, "isOne", "(I)Z"⟩
abbrev cX6_sheet : ByteArray := prog_8_method_79_code
def yX6_sheet : MethodName := ⟨RX6, "sheet", "(III)I"⟩
abbrev cX6_narrowed : ByteArray := prog_8_method_80_code
def yX6_narrowed : MethodName := ⟨RX6, "narrowed", "(IJ)J"⟩
abbrev cX6_wrongSheet : ByteArray := prog_8_method_81_code
def yX6_wrongSheet : MethodName := ⟨RX6, "wrongSheet", "(I)I"⟩
abbrev cX6_write : ByteArray := prog_8_method_82_code
def yX6_write : MethodName := ⟨RX6, "write", "(IIJ)J"⟩
abbrev cX6_copy : ByteArray := prog_8_method_83_code
def yX6_copy : MethodName := ⟨RX6, "copy", "(IIIII)I"⟩
abbrev cX6_lays : ByteArray := prog_8_method_84_code
def yX6_lays : MethodName := ⟨RX6, "lays", "(I)I"⟩
abbrev cX6_book : ByteArray := prog_8_method_85_code
def yX6_book : MethodName := ⟨RX6, "book", "(II)I"⟩
abbrev cX6_isBook : ByteArray := prog_8_method_86_code
def yX6_isBook : MethodName := ⟨RX6, "isBook", "(II)Z"⟩
abbrev cX6_read : ByteArray := prog_8_method_87_code
def yX6_read : MethodName := ⟨RX6, "read", "(III)I"⟩
abbrev cX6_image : ByteArray := prog_8_method_88_code
def yX6_image : MethodName := ⟨RX6, "image", "()I"⟩
abbrev cX6_undo : ByteArray := prog_8_method_89_code
def yX6_undo : MethodName := ⟨RX6, "undo", "()I"⟩
abbrev cX6_tear : ByteArray := prog_8_method_90_code
def yX6_tear : MethodName := ⟨RX6, "tear", "()I"⟩
abbrev cX6_count : ByteArray := prog_8_method_91_code
def yX6_count : MethodName := ⟨RX6, "count", "(I)I"⟩
abbrev cX6_status : ByteArray := prog_8_method_92_code
def yX6_status : MethodName := ⟨RX6, "status", "(I)I"⟩
def RJ6 : String := "java/lang/Integer"
def TJ6 : u_T := fun k => match k with
  | _ => ("", "", "", false)
def tyJ6 : Nat → FieldType := fun k => match k with
  | _ => .int
abbrev wsJ60 : List Cond := u_ws RJ6 TJ6 0
theorem nmJ6 : ∀ a, a < 0 → ∀ b, b < 0 → a ≠ b → (TJ6 a).2.1 ≠ (TJ6 b).2.1 := by decide +kernel
theorem tyJ6_ok : ∀ k, k < 0 → parseFieldDescriptor (TJ6 k).2.2.1 = some (tyJ6 k) := by decide +kernel
abbrev cJ6_bitCount_0f7a4 : ByteArray := prog_9_method_49_code
def yJ6_bitCount_0f7a4 : MethodName := ⟨RJ6, "bitCount", "(I)I"⟩
def RJ9 : String := "java/lang/Math"
def TJ9 : u_T := fun k => match k with
  | _ => ("", "", "", false)
def tyJ9 : Nat → FieldType := fun k => match k with
  | _ => .int
abbrev wsJ90 : List Cond := u_ws RJ9 TJ9 0
theorem nmJ9 : ∀ a, a < 0 → ∀ b, b < 0 → a ≠ b → (TJ9 a).2.1 ≠ (TJ9 b).2.1 := by decide +kernel
theorem tyJ9_ok : ∀ k, k < 0 → parseFieldDescriptor (TJ9 k).2.2.1 = some (tyJ9 k) := by decide +kernel
abbrev cJ9_max_7cf53 : ByteArray := prog_10_method_65_code
def yJ9_max_7cf53 : MethodName := ⟨RJ9, "max", "(II)I"⟩
abbrev cJ9_min_7cf53 : ByteArray := prog_10_method_69_code
def yJ9_min_7cf53 : MethodName := ⟨RJ9, "min", "(II)I"⟩
def RJ0 : String := "java/lang/String"
def TJ0 : u_T := fun k => match k with
  | _ => ("", "", "", false)
def tyJ0 : Nat → FieldType := fun k => match k with
  | _ => .int
abbrev wsJ00 : List Cond := u_ws RJ0 TJ0 0
theorem nmJ0 : ∀ a, a < 0 → ∀ b, b < 0 → a ≠ b → (TJ0 a).2.1 ≠ (TJ0 b).2.1 := by decide +kernel
theorem tyJ0_ok : ∀ k, k < 0 → parseFieldDescriptor (TJ0 k).2.2.1 = some (tyJ0 k) := by decide +kernel
abbrev cJ0_length_8abf5 : ByteArray := prog_11_method_54_code
def yJ0_length_8abf5 : MethodName := ⟨RJ0, "length", "()I"⟩
abbrev cJ0_charAt_5068e : ByteArray := prog_11_method_56_code
def yJ0_charAt_5068e : MethodName := ⟨RJ0, "charAt", "(I)C"⟩
abbrev cJ0_coder_7d493 : ByteArray := prog_11_method_152_code
def yJ0_coder_7d493 : MethodName := ⟨RJ0, "coder", "()B"⟩
abbrev cJ0_isLatin1_aae02 : ByteArray := prog_11_method_154_code
def yJ0_isLatin1_aae02 : MethodName := ⟨RJ0, "isLatin1", "()Z"⟩
abbrev cJ0_checkIndex_df160 : ByteArray := prog_11_method_155_code
def yJ0_checkIndex_df160 : MethodName := ⟨RJ0, "checkIndex", "(II)V"⟩
def RJ1 : String := "java/lang/StringLatin1"
def TJ1 : u_T := fun k => match k with
  | _ => ("", "", "", false)
def tyJ1 : Nat → FieldType := fun k => match k with
  | _ => .int
abbrev wsJ10 : List Cond := u_ws RJ1 TJ1 0
theorem nmJ1 : ∀ a, a < 0 → ∀ b, b < 0 → a ≠ b → (TJ1 a).2.1 ≠ (TJ1 b).2.1 := by decide +kernel
theorem tyJ1_ok : ∀ k, k < 0 → parseFieldDescriptor (TJ1 k).2.2.1 = some (tyJ1 k) := by decide +kernel
abbrev cJ1_charAt_3b067 : ByteArray := prog_12_method_2_code
def yJ1_charAt_3b067 : MethodName := ⟨RJ1, "charAt", "([BI)C"⟩
def RJ2 : String := "java/lang/StringUTF16"
def TJ2 : u_T := fun k => match k with
  | _ => ("", "", "", false)
def tyJ2 : Nat → FieldType := fun k => match k with
  | _ => .int
abbrev wsJ20 : List Cond := u_ws RJ2 TJ2 0
theorem nmJ2 : ∀ a, a < 0 → ∀ b, b < 0 → a ≠ b → (TJ2 a).2.1 ≠ (TJ2 b).2.1 := by decide +kernel
theorem tyJ2_ok : ∀ k, k < 0 → parseFieldDescriptor (TJ2 k).2.2.1 = some (tyJ2 k) := by decide +kernel
abbrev cJ2_getChar_3b067 : ByteArray := prog_13_method_5_code
def yJ2_getChar_3b067 : MethodName := ⟨RJ2, "getChar", "([BI)C"⟩
abbrev cJ2_length_9d52b : ByteArray := prog_13_method_6_code
def yJ2_length_9d52b : MethodName := ⟨RJ2, "length", "([B)I"⟩
abbrev cJ2_charAt_3b067 : ByteArray := prog_13_method_83_code
def yJ2_charAt_3b067 : MethodName := ⟨RJ2, "charAt", "([BI)C"⟩
abbrev cJ2_checkIndex_2214a : ByteArray := prog_13_method_91_code
def yJ2_checkIndex_2214a : MethodName := ⟨RJ2, "checkIndex", "(I[B)V"⟩
def RJ10 : String := "java/lang/System"
def TJ10 : u_T := fun k => match k with
  | _ => ("", "", "", false)
def tyJ10 : Nat → FieldType := fun k => match k with
  | _ => .int
abbrev wsJ100 : List Cond := u_ws RJ10 TJ10 0
theorem nmJ10 : ∀ a, a < 0 → ∀ b, b < 0 → a ≠ b → (TJ10 a).2.1 ≠ (TJ10 b).2.1 := by decide +kernel
theorem tyJ10_ok : ∀ k, k < 0 → parseFieldDescriptor (TJ10 k).2.2.1 = some (tyJ10 k) := by decide +kernel
def RJ3 : String := "jdk/internal/util/Preconditions"
def TJ3 : u_T := fun k => match k with
  | _ => ("", "", "", false)
def tyJ3 : Nat → FieldType := fun k => match k with
  | _ => .int
abbrev wsJ30 : List Cond := u_ws RJ3 TJ3 0
theorem nmJ3 : ∀ a, a < 0 → ∀ b, b < 0 → a ≠ b → (TJ3 a).2.1 ≠ (TJ3 b).2.1 := by decide +kernel
theorem tyJ3_ok : ∀ k, k < 0 → parseFieldDescriptor (TJ3 k).2.2.1 = some (tyJ3 k) := by decide +kernel
abbrev cJ3_checkIndex_8e157 : ByteArray := prog_15_method_11_code
def yJ3_checkIndex_8e157 : MethodName := ⟨RJ3, "checkIndex", "(IILjava/util/function/BiFunction;)I"⟩
def RL : String := "BasinVotesLaw"
abbrev cL_law : ByteArray := code
def yL_law : MethodName := ⟨RL, "law", "([I)Z"⟩
abbrev vwCl : List vw_C := [(RX1, TX1, 3), (RX2, TX2, 2), (RX3, TX3, 6), (RX4, TX4, 10), (RX5, TX5, 8), (RX6, TX6, 16)]
end
section
theorem dX0_isUnder_0 : decode cX0_isUnder 0 = .ok (.iload_n 0, 1) := by decide +kernel
theorem dX0_isUnder_1 : decode cX0_isUnder 1 = .ok (.istore_n 2, 1) := by decide +kernel
theorem dX0_isUnder_2 : decode cX0_isUnder 2 = .ok (.iconst 0, 1) := by decide +kernel
theorem dX0_isUnder_3 : decode cX0_isUnder 3 = .ok (.istore_n 3, 1) := by decide +kernel
theorem dX0_isUnder_4 : decode cX0_isUnder 4 = .ok (.iload_n 3, 1) := by decide +kernel
theorem dX0_isUnder_5 : decode cX0_isUnder 5 = .ok (.bipush 6, 2) := by decide +kernel
theorem dX0_isUnder_7 : decode cX0_isUnder 7 = .ok (.if_icmp .ge 29, 3) := by decide +kernel
theorem dX0_isUnder_10 : decode cX0_isUnder 10 = .ok (.iload_n 2, 1) := by decide +kernel
theorem dX0_isUnder_11 : decode cX0_isUnder 11 = .ok (.invokestatic 9, 3) := by decide +kernel
theorem dX0_isUnder_14 : decode cX0_isUnder 14 = .ok (.ifCond .eq 22, 3) := by decide +kernel
theorem dX0_isUnder_17 : decode cX0_isUnder 17 = .ok (.iload_n 2, 1) := by decide +kernel
theorem dX0_isUnder_18 : decode cX0_isUnder 18 = .ok (.iload_n 1, 1) := by decide +kernel
theorem dX0_isUnder_19 : decode cX0_isUnder 19 = .ok (.if_icmp .ne 5, 3) := by decide +kernel
theorem dX0_isUnder_22 : decode cX0_isUnder 22 = .ok (.iconst 1, 1) := by decide +kernel
theorem dX0_isUnder_23 : decode cX0_isUnder 23 = .ok (.ireturn, 1) := by decide +kernel
theorem dX0_isUnder_24 : decode cX0_isUnder 24 = .ok (.getstatic 13, 3) := by decide +kernel
theorem dX0_isUnder_27 : decode cX0_isUnder 27 = .ok (.iload_n 2, 1) := by decide +kernel
theorem dX0_isUnder_28 : decode cX0_isUnder 28 = .ok (.iaload, 1) := by decide +kernel
theorem dX0_isUnder_29 : decode cX0_isUnder 29 = .ok (.istore_n 2, 1) := by decide +kernel
theorem dX0_isUnder_30 : decode cX0_isUnder 30 = .ok (.iinc 3 1, 3) := by decide +kernel
theorem dX0_isUnder_33 : decode cX0_isUnder 33 = .ok (.goto (-29), 3) := by decide +kernel
theorem dX0_isUnder_36 : decode cX0_isUnder 36 = .ok (.iconst 0, 1) := by decide +kernel
theorem dX0_isUnder_37 : decode cX0_isUnder 37 = .ok (.ireturn, 1) := by decide +kernel
theorem dX0_earns_0 : decode cX0_earns 0 = .ok (.iload_n 0, 1) := by decide +kernel
theorem dX0_earns_1 : decode cX0_earns 1 = .ok (.invokestatic 9, 3) := by decide +kernel
theorem dX0_earns_4 : decode cX0_earns 4 = .ok (.ifCond .eq 11, 3) := by decide +kernel
theorem dX0_earns_7 : decode cX0_earns 7 = .ok (.getstatic 19, 3) := by decide +kernel
theorem dX0_earns_10 : decode cX0_earns 10 = .ok (.iload_n 0, 1) := by decide +kernel
theorem dX0_earns_11 : decode cX0_earns 11 = .ok (.iaload, 1) := by decide +kernel
theorem dX0_earns_12 : decode cX0_earns 12 = .ok (.goto 4, 3) := by decide +kernel
theorem dX0_earns_15 : decode cX0_earns 15 = .ok (.iconst 0, 1) := by decide +kernel
theorem dX0_earns_16 : decode cX0_earns 16 = .ok (.ireturn, 1) := by decide +kernel
theorem dX0_throwsWith_0 : decode cX0_throwsWith 0 = .ok (.iload_n 0, 1) := by decide +kernel
theorem dX0_throwsWith_1 : decode cX0_throwsWith 1 = .ok (.iload_n 1, 1) := by decide +kernel
theorem dX0_throwsWith_2 : decode cX0_throwsWith 2 = .ok (.invokestatic 22, 3) := by decide +kernel
theorem dX0_throwsWith_5 : decode cX0_throwsWith 5 = .ok (.iload_n 1, 1) := by decide +kernel
theorem dX0_throwsWith_6 : decode cX0_throwsWith 6 = .ok (.invokestatic 26, 3) := by decide +kernel
theorem dX0_throwsWith_9 : decode cX0_throwsWith 9 = .ok (.ireturn, 1) := by decide +kernel
theorem dX0_wouldThrow_0 : decode cX0_wouldThrow 0 = .ok (.iload_n 0, 1) := by decide +kernel
theorem dX0_wouldThrow_1 : decode cX0_wouldThrow 1 = .ok (.tableswitch 55 1 5 #[35, 42, 44, 46, 42], 35) := by decide +kernel
theorem dX0_wouldThrow_36 : decode cX0_wouldThrow 36 = .ok (.iconst 1, 1) := by decide +kernel
theorem dX0_wouldThrow_37 : decode cX0_wouldThrow 37 = .ok (.iload_n 1, 1) := by decide +kernel
theorem dX0_wouldThrow_38 : decode cX0_wouldThrow 38 = .ok (.bipush 20, 2) := by decide +kernel
theorem dX0_wouldThrow_40 : decode cX0_wouldThrow 40 = .ok (.idiv, 1) := by decide +kernel
theorem dX0_wouldThrow_41 : decode cX0_wouldThrow 41 = .ok (.iadd, 1) := by decide +kernel
theorem dX0_wouldThrow_42 : decode cX0_wouldThrow 42 = .ok (.ireturn, 1) := by decide +kernel
theorem dX0_wouldThrow_43 : decode cX0_wouldThrow 43 = .ok (.iconst 0, 1) := by decide +kernel
theorem dX0_wouldThrow_44 : decode cX0_wouldThrow 44 = .ok (.ireturn, 1) := by decide +kernel
theorem dX0_wouldThrow_45 : decode cX0_wouldThrow 45 = .ok (.iconst 3, 1) := by decide +kernel
theorem dX0_wouldThrow_46 : decode cX0_wouldThrow 46 = .ok (.ireturn, 1) := by decide +kernel
theorem dX0_wouldThrow_47 : decode cX0_wouldThrow 47 = .ok (.iconst 2, 1) := by decide +kernel
theorem dX0_wouldThrow_48 : decode cX0_wouldThrow 48 = .ok (.iconst 1, 1) := by decide +kernel
theorem dX0_wouldThrow_49 : decode cX0_wouldThrow 49 = .ok (.iload_n 1, 1) := by decide +kernel
theorem dX0_wouldThrow_50 : decode cX0_wouldThrow 50 = .ok (.bipush 20, 2) := by decide +kernel
theorem dX0_wouldThrow_52 : decode cX0_wouldThrow 52 = .ok (.idiv, 1) := by decide +kernel
theorem dX0_wouldThrow_53 : decode cX0_wouldThrow 53 = .ok (.iadd, 1) := by decide +kernel
theorem dX0_wouldThrow_54 : decode cX0_wouldThrow 54 = .ok (.imul, 1) := by decide +kernel
theorem dX0_wouldThrow_55 : decode cX0_wouldThrow 55 = .ok (.ireturn, 1) := by decide +kernel
theorem dX0_wouldThrow_56 : decode cX0_wouldThrow 56 = .ok (.iconst 1, 1) := by decide +kernel
theorem dX0_wouldThrow_57 : decode cX0_wouldThrow 57 = .ok (.ireturn, 1) := by decide +kernel
theorem dX0_dives_0 : decode cX0_dives 0 = .ok (.iload_n 0, 1) := by decide +kernel
theorem dX0_dives_1 : decode cX0_dives 1 = .ok (.lookupswitch 54 #[(2, 27), (5, 37)], 27) := by decide +kernel
theorem dX0_dives_28 : decode cX0_dives 28 = .ok (.iconst 2, 1) := by decide +kernel
theorem dX0_dives_29 : decode cX0_dives 29 = .ok (.iload_n 1, 1) := by decide +kernel
theorem dX0_dives_30 : decode cX0_dives 30 = .ok (.iload_n 2, 1) := by decide +kernel
theorem dX0_dives_31 : decode cX0_dives 31 = .ok (.invokestatic 31, 3) := by decide +kernel
theorem dX0_dives_34 : decode cX0_dives 34 = .ok (.invokestatic 26, 3) := by decide +kernel
theorem dX0_dives_37 : decode cX0_dives 37 = .ok (.ireturn, 1) := by decide +kernel
theorem dX0_dives_38 : decode cX0_dives 38 = .ok (.iconst 2, 1) := by decide +kernel
theorem dX0_dives_39 : decode cX0_dives 39 = .ok (.iload_n 1, 1) := by decide +kernel
theorem dX0_dives_40 : decode cX0_dives 40 = .ok (.iload_n 2, 1) := by decide +kernel
theorem dX0_dives_41 : decode cX0_dives 41 = .ok (.iadd, 1) := by decide +kernel
theorem dX0_dives_42 : decode cX0_dives 42 = .ok (.bipush 10, 2) := by decide +kernel
theorem dX0_dives_44 : decode cX0_dives 44 = .ok (.idiv, 1) := by decide +kernel
theorem dX0_dives_45 : decode cX0_dives 45 = .ok (.iadd, 1) := by decide +kernel
theorem dX0_dives_46 : decode cX0_dives 46 = .ok (.iload_n 1, 1) := by decide +kernel
theorem dX0_dives_47 : decode cX0_dives 47 = .ok (.iload_n 2, 1) := by decide +kernel
theorem dX0_dives_48 : decode cX0_dives 48 = .ok (.invokestatic 31, 3) := by decide +kernel
theorem dX0_dives_51 : decode cX0_dives 51 = .ok (.invokestatic 26, 3) := by decide +kernel
theorem dX0_dives_54 : decode cX0_dives 54 = .ok (.ireturn, 1) := by decide +kernel
theorem dX0_dives_55 : decode cX0_dives 55 = .ok (.iconst 0, 1) := by decide +kernel
theorem dX0_dives_56 : decode cX0_dives 56 = .ok (.ireturn, 1) := by decide +kernel
theorem dX1_init_0 : decode cX1_init 0 = .ok (.aload_n 0, 1) := by decide +kernel
theorem dX1_init_1 : decode cX1_init 1 = .ok (.invokespecial 1, 3) := by decide +kernel
theorem dX1_init_4 : decode cX1_init 4 = .ok (.aload_n 0, 1) := by decide +kernel
theorem dX1_init_5 : decode cX1_init 5 = .ok (.iconst 4, 1) := by decide +kernel
theorem dX1_init_6 : decode cX1_init 6 = .ok (.bipush 40, 2) := by decide +kernel
theorem dX1_init_8 : decode cX1_init 8 = .ok (.multianewarray 9 2, 4) := by decide +kernel
theorem dX1_init_12 : decode cX1_init 12 = .ok (.putfield 11, 3) := by decide +kernel
theorem dX1_init_15 : decode cX1_init 15 = .ok (.aload_n 0, 1) := by decide +kernel
theorem dX1_init_16 : decode cX1_init 16 = .ok (.iconst 4, 1) := by decide +kernel
theorem dX1_init_17 : decode cX1_init 17 = .ok (.newarray .int, 2) := by decide +kernel
theorem dX1_init_19 : decode cX1_init 19 = .ok (.putfield 14, 3) := by decide +kernel
theorem dX1_init_22 : decode cX1_init 22 = .ok (.aload_n 0, 1) := by decide +kernel
theorem dX1_init_23 : decode cX1_init 23 = .ok (.iconst 4, 1) := by decide +kernel
theorem dX1_init_24 : decode cX1_init 24 = .ok (.newarray .int, 2) := by decide +kernel
theorem dX1_init_26 : decode cX1_init 26 = .ok (.putfield 18, 3) := by decide +kernel
theorem dX1_init_29 : decode cX1_init 29 = .ok (.return_, 1) := by decide +kernel
theorem dX1_areBits_0 : decode cX1_areBits 0 = .ok (.iload_n 0, 1) := by decide +kernel
theorem dX1_areBits_1 : decode cX1_areBits 1 = .ok (.ifCond .eq 21, 3) := by decide +kernel
theorem dX1_areBits_4 : decode cX1_areBits 4 = .ok (.iload_n 0, 1) := by decide +kernel
theorem dX1_areBits_5 : decode cX1_areBits 5 = .ok (.bipush 8, 2) := by decide +kernel
theorem dX1_areBits_7 : decode cX1_areBits 7 = .ok (.if_icmp .eq 15, 3) := by decide +kernel
theorem dX1_areBits_10 : decode cX1_areBits 10 = .ok (.iload_n 0, 1) := by decide +kernel
theorem dX1_areBits_11 : decode cX1_areBits 11 = .ok (.bipush 16, 2) := by decide +kernel
theorem dX1_areBits_13 : decode cX1_areBits 13 = .ok (.if_icmp .eq 9, 3) := by decide +kernel
theorem dX1_areBits_16 : decode cX1_areBits 16 = .ok (.iload_n 0, 1) := by decide +kernel
theorem dX1_areBits_17 : decode cX1_areBits 17 = .ok (.bipush 64, 2) := by decide +kernel
theorem dX1_areBits_19 : decode cX1_areBits 19 = .ok (.if_icmp .ne 7, 3) := by decide +kernel
theorem dX1_areBits_22 : decode cX1_areBits 22 = .ok (.iconst 1, 1) := by decide +kernel
theorem dX1_areBits_23 : decode cX1_areBits 23 = .ok (.goto 4, 3) := by decide +kernel
theorem dX1_areBits_26 : decode cX1_areBits 26 = .ok (.iconst 0, 1) := by decide +kernel
theorem dX1_areBits_27 : decode cX1_areBits 27 = .ok (.ireturn, 1) := by decide +kernel
theorem dX1_isMissing_0 : decode cX1_isMissing 0 = .ok (.aload_n 0, 1) := by decide +kernel
theorem dX1_isMissing_1 : decode cX1_isMissing 1 = .ok (.getfield 14, 3) := by decide +kernel
theorem dX1_isMissing_4 : decode cX1_isMissing 4 = .ok (.iload_n 1, 1) := by decide +kernel
theorem dX1_isMissing_5 : decode cX1_isMissing 5 = .ok (.iaload, 1) := by decide +kernel
theorem dX1_isMissing_6 : decode cX1_isMissing 6 = .ok (.ifCond .ne 7, 3) := by decide +kernel
theorem dX1_isMissing_9 : decode cX1_isMissing 9 = .ok (.iconst 1, 1) := by decide +kernel
theorem dX1_isMissing_10 : decode cX1_isMissing 10 = .ok (.goto 4, 3) := by decide +kernel
theorem dX1_isMissing_13 : decode cX1_isMissing 13 = .ok (.iconst 0, 1) := by decide +kernel
theorem dX1_isMissing_14 : decode cX1_isMissing 14 = .ok (.ireturn, 1) := by decide +kernel
theorem dX1_make_0 : decode cX1_make 0 = .ok (.aload_n 0, 1) := by decide +kernel
theorem dX1_make_1 : decode cX1_make 1 = .ok (.getfield 14, 3) := by decide +kernel
theorem dX1_make_4 : decode cX1_make 4 = .ok (.iload_n 1, 1) := by decide +kernel
theorem dX1_make_5 : decode cX1_make 5 = .ok (.iload_n 2, 1) := by decide +kernel
theorem dX1_make_6 : decode cX1_make 6 = .ok (.iastore, 1) := by decide +kernel
theorem dX1_make_7 : decode cX1_make 7 = .ok (.aload_n 0, 1) := by decide +kernel
theorem dX1_make_8 : decode cX1_make 8 = .ok (.getfield 18, 3) := by decide +kernel
theorem dX1_make_11 : decode cX1_make 11 = .ok (.iload_n 1, 1) := by decide +kernel
theorem dX1_make_12 : decode cX1_make 12 = .ok (.iload_n 2, 1) := by decide +kernel
theorem dX1_make_13 : decode cX1_make 13 = .ok (.ifCond .ne 7, 3) := by decide +kernel
theorem dX1_make_16 : decode cX1_make 16 = .ok (.iconst 0, 1) := by decide +kernel
theorem dX1_make_17 : decode cX1_make 17 = .ok (.goto 4, 3) := by decide +kernel
theorem dX1_make_20 : decode cX1_make 20 = .ok (.iload_n 3, 1) := by decide +kernel
theorem dX1_make_21 : decode cX1_make 21 = .ok (.iastore, 1) := by decide +kernel
theorem dX1_make_22 : decode cX1_make 22 = .ok (.iconst 0, 1) := by decide +kernel
theorem dX1_make_23 : decode cX1_make 23 = .ok (.istore 4, 2) := by decide +kernel
theorem dX1_make_25 : decode cX1_make 25 = .ok (.iload 4, 2) := by decide +kernel
theorem dX1_make_27 : decode cX1_make 27 = .ok (.bipush 40, 2) := by decide +kernel
theorem dX1_make_29 : decode cX1_make 29 = .ok (.if_icmp .ge 19, 3) := by decide +kernel
theorem dX1_make_32 : decode cX1_make 32 = .ok (.aload_n 0, 1) := by decide +kernel
theorem dX1_make_33 : decode cX1_make 33 = .ok (.getfield 11, 3) := by decide +kernel
theorem dX1_make_36 : decode cX1_make 36 = .ok (.iload_n 1, 1) := by decide +kernel
theorem dX1_make_37 : decode cX1_make 37 = .ok (.aaload, 1) := by decide +kernel
theorem dX1_make_38 : decode cX1_make 38 = .ok (.iload 4, 2) := by decide +kernel
theorem dX1_make_40 : decode cX1_make 40 = .ok (.lconst 0, 1) := by decide +kernel
theorem dX1_make_41 : decode cX1_make 41 = .ok (.lastore, 1) := by decide +kernel
theorem dX1_make_42 : decode cX1_make 42 = .ok (.iinc 4 1, 3) := by decide +kernel
theorem dX1_make_45 : decode cX1_make 45 = .ok (.goto (-20), 3) := by decide +kernel
theorem dX1_make_48 : decode cX1_make 48 = .ok (.return_, 1) := by decide +kernel
theorem dX1_hasPart_0 : decode cX1_hasPart 0 = .ok (.iload_n 2, 1) := by decide +kernel
theorem dX1_hasPart_1 : decode cX1_hasPart 1 = .ok (.ifCond .lt 33, 3) := by decide +kernel
theorem dX1_hasPart_4 : decode cX1_hasPart 4 = .ok (.iload_n 3, 1) := by decide +kernel
theorem dX1_hasPart_5 : decode cX1_hasPart 5 = .ok (.ifCond .lt 29, 3) := by decide +kernel
theorem dX1_hasPart_8 : decode cX1_hasPart 8 = .ok (.iload_n 2, 1) := by decide +kernel
theorem dX1_hasPart_9 : decode cX1_hasPart 9 = .ok (.aload_n 0, 1) := by decide +kernel
theorem dX1_hasPart_10 : decode cX1_hasPart 10 = .ok (.getfield 18, 3) := by decide +kernel
theorem dX1_hasPart_13 : decode cX1_hasPart 13 = .ok (.iload_n 1, 1) := by decide +kernel
theorem dX1_hasPart_14 : decode cX1_hasPart 14 = .ok (.iaload, 1) := by decide +kernel
theorem dX1_hasPart_15 : decode cX1_hasPart 15 = .ok (.if_icmp .gt 19, 3) := by decide +kernel
theorem dX1_hasPart_18 : decode cX1_hasPart 18 = .ok (.iload_n 3, 1) := by decide +kernel
theorem dX1_hasPart_19 : decode cX1_hasPart 19 = .ok (.aload_n 0, 1) := by decide +kernel
theorem dX1_hasPart_20 : decode cX1_hasPart 20 = .ok (.getfield 18, 3) := by decide +kernel
theorem dX1_hasPart_23 : decode cX1_hasPart 23 = .ok (.iload_n 1, 1) := by decide +kernel
theorem dX1_hasPart_24 : decode cX1_hasPart 24 = .ok (.iaload, 1) := by decide +kernel
theorem dX1_hasPart_25 : decode cX1_hasPart 25 = .ok (.iload_n 2, 1) := by decide +kernel
theorem dX1_hasPart_26 : decode cX1_hasPart 26 = .ok (.isub, 1) := by decide +kernel
theorem dX1_hasPart_27 : decode cX1_hasPart 27 = .ok (.if_icmp .gt 7, 3) := by decide +kernel
theorem dX1_hasPart_30 : decode cX1_hasPart 30 = .ok (.iconst 1, 1) := by decide +kernel
theorem dX1_hasPart_31 : decode cX1_hasPart 31 = .ok (.goto 4, 3) := by decide +kernel
theorem dX1_hasPart_34 : decode cX1_hasPart 34 = .ok (.iconst 0, 1) := by decide +kernel
theorem dX1_hasPart_35 : decode cX1_hasPart 35 = .ok (.ireturn, 1) := by decide +kernel
theorem dX1_put_0 : decode cX1_put 0 = .ok (.aload_n 0, 1) := by decide +kernel
theorem dX1_put_1 : decode cX1_put 1 = .ok (.getfield 14, 3) := by decide +kernel
theorem dX1_put_4 : decode cX1_put 4 = .ok (.iload_n 1, 1) := by decide +kernel
theorem dX1_put_5 : decode cX1_put 5 = .ok (.iaload, 1) := by decide +kernel
theorem dX1_put_6 : decode cX1_put 6 = .ok (.bipush 8, 2) := by decide +kernel
theorem dX1_put_8 : decode cX1_put 8 = .ok (.if_icmp .ne 18, 3) := by decide +kernel
theorem dX1_put_11 : decode cX1_put 11 = .ok (.aload_n 0, 1) := by decide +kernel
theorem dX1_put_12 : decode cX1_put 12 = .ok (.getfield 11, 3) := by decide +kernel
theorem dX1_put_15 : decode cX1_put 15 = .ok (.iload_n 1, 1) := by decide +kernel
theorem dX1_put_16 : decode cX1_put 16 = .ok (.aaload, 1) := by decide +kernel
theorem dX1_put_17 : decode cX1_put 17 = .ok (.iload_n 2, 1) := by decide +kernel
theorem dX1_put_18 : decode cX1_put 18 = .ok (.lload_n 3, 1) := by decide +kernel
theorem dX1_put_19 : decode cX1_put 19 = .ok (.l2i, 1) := by decide +kernel
theorem dX1_put_20 : decode cX1_put 20 = .ok (.i2b, 1) := by decide +kernel
theorem dX1_put_21 : decode cX1_put 21 = .ok (.i2l, 1) := by decide +kernel
theorem dX1_put_22 : decode cX1_put 22 = .ok (.lastore, 1) := by decide +kernel
theorem dX1_put_23 : decode cX1_put 23 = .ok (.goto 38, 3) := by decide +kernel
theorem dX1_put_26 : decode cX1_put 26 = .ok (.aload_n 0, 1) := by decide +kernel
theorem dX1_put_27 : decode cX1_put 27 = .ok (.getfield 14, 3) := by decide +kernel
theorem dX1_put_30 : decode cX1_put 30 = .ok (.iload_n 1, 1) := by decide +kernel
theorem dX1_put_31 : decode cX1_put 31 = .ok (.iaload, 1) := by decide +kernel
theorem dX1_put_32 : decode cX1_put 32 = .ok (.bipush 16, 2) := by decide +kernel
theorem dX1_put_34 : decode cX1_put 34 = .ok (.if_icmp .ne 18, 3) := by decide +kernel
theorem dX1_put_37 : decode cX1_put 37 = .ok (.aload_n 0, 1) := by decide +kernel
theorem dX1_put_38 : decode cX1_put 38 = .ok (.getfield 11, 3) := by decide +kernel
theorem dX1_put_41 : decode cX1_put 41 = .ok (.iload_n 1, 1) := by decide +kernel
theorem dX1_put_42 : decode cX1_put 42 = .ok (.aaload, 1) := by decide +kernel
theorem dX1_put_43 : decode cX1_put 43 = .ok (.iload_n 2, 1) := by decide +kernel
theorem dX1_put_44 : decode cX1_put 44 = .ok (.lload_n 3, 1) := by decide +kernel
theorem dX1_put_45 : decode cX1_put 45 = .ok (.l2i, 1) := by decide +kernel
theorem dX1_put_46 : decode cX1_put 46 = .ok (.i2s, 1) := by decide +kernel
theorem dX1_put_47 : decode cX1_put 47 = .ok (.i2l, 1) := by decide +kernel
theorem dX1_put_48 : decode cX1_put 48 = .ok (.lastore, 1) := by decide +kernel
theorem dX1_put_49 : decode cX1_put 49 = .ok (.goto 12, 3) := by decide +kernel
theorem dX1_put_52 : decode cX1_put 52 = .ok (.aload_n 0, 1) := by decide +kernel
theorem dX1_put_53 : decode cX1_put 53 = .ok (.getfield 11, 3) := by decide +kernel
theorem dX1_put_56 : decode cX1_put 56 = .ok (.iload_n 1, 1) := by decide +kernel
theorem dX1_put_57 : decode cX1_put 57 = .ok (.aaload, 1) := by decide +kernel
theorem dX1_put_58 : decode cX1_put 58 = .ok (.iload_n 2, 1) := by decide +kernel
theorem dX1_put_59 : decode cX1_put 59 = .ok (.lload_n 3, 1) := by decide +kernel
theorem dX1_put_60 : decode cX1_put 60 = .ok (.lastore, 1) := by decide +kernel
theorem dX1_put_61 : decode cX1_put 61 = .ok (.return_, 1) := by decide +kernel
theorem dX2_init_0 : decode cX2_init 0 = .ok (.aload_n 0, 1) := by decide +kernel
theorem dX2_init_1 : decode cX2_init 1 = .ok (.invokespecial 1, 3) := by decide +kernel
theorem dX2_init_4 : decode cX2_init 4 = .ok (.aload_n 0, 1) := by decide +kernel
theorem dX2_init_5 : decode cX2_init 5 = .ok (.bipush 120, 2) := by decide +kernel
theorem dX2_init_7 : decode cX2_init 7 = .ok (.newarray .byte, 2) := by decide +kernel
theorem dX2_init_9 : decode cX2_init 9 = .ok (.putfield 9, 3) := by decide +kernel
theorem dX2_init_12 : decode cX2_init 12 = .ok (.aload_n 0, 1) := by decide +kernel
theorem dX2_init_13 : decode cX2_init 13 = .ok (.iconst 0, 1) := by decide +kernel
theorem dX2_init_14 : decode cX2_init 14 = .ok (.putfield 13, 3) := by decide +kernel
theorem dX2_init_17 : decode cX2_init 17 = .ok (.return_, 1) := by decide +kernel
theorem dX2_hasRoom_0 : decode cX2_hasRoom 0 = .ok (.aload_n 0, 1) := by decide +kernel
theorem dX2_hasRoom_1 : decode cX2_hasRoom 1 = .ok (.getfield 13, 3) := by decide +kernel
theorem dX2_hasRoom_4 : decode cX2_hasRoom 4 = .ok (.iload_n 1, 1) := by decide +kernel
theorem dX2_hasRoom_5 : decode cX2_hasRoom 5 = .ok (.iadd, 1) := by decide +kernel
theorem dX2_hasRoom_6 : decode cX2_hasRoom 6 = .ok (.bipush 120, 2) := by decide +kernel
theorem dX2_hasRoom_8 : decode cX2_hasRoom 8 = .ok (.if_icmp .gt 7, 3) := by decide +kernel
theorem dX2_hasRoom_11 : decode cX2_hasRoom 11 = .ok (.iconst 1, 1) := by decide +kernel
theorem dX2_hasRoom_12 : decode cX2_hasRoom 12 = .ok (.goto 4, 3) := by decide +kernel
theorem dX2_hasRoom_15 : decode cX2_hasRoom 15 = .ok (.iconst 0, 1) := by decide +kernel
theorem dX2_hasRoom_16 : decode cX2_hasRoom 16 = .ok (.ireturn, 1) := by decide +kernel
theorem dX2_add_0 : decode cX2_add 0 = .ok (.aload_n 0, 1) := by decide +kernel
theorem dX2_add_1 : decode cX2_add 1 = .ok (.getfield 13, 3) := by decide +kernel
theorem dX2_add_4 : decode cX2_add 4 = .ok (.bipush 120, 2) := by decide +kernel
theorem dX2_add_6 : decode cX2_add 6 = .ok (.if_icmp .ge 23, 3) := by decide +kernel
theorem dX2_add_9 : decode cX2_add 9 = .ok (.aload_n 0, 1) := by decide +kernel
theorem dX2_add_10 : decode cX2_add 10 = .ok (.getfield 9, 3) := by decide +kernel
theorem dX2_add_13 : decode cX2_add 13 = .ok (.aload_n 0, 1) := by decide +kernel
theorem dX2_add_14 : decode cX2_add 14 = .ok (.getfield 13, 3) := by decide +kernel
theorem dX2_add_17 : decode cX2_add 17 = .ok (.iload_n 1, 1) := by decide +kernel
theorem dX2_add_18 : decode cX2_add 18 = .ok (.bastore, 1) := by decide +kernel
theorem dX2_add_19 : decode cX2_add 19 = .ok (.aload_n 0, 1) := by decide +kernel
theorem dX2_add_20 : decode cX2_add 20 = .ok (.dup, 1) := by decide +kernel
theorem dX2_add_21 : decode cX2_add 21 = .ok (.getfield 13, 3) := by decide +kernel
theorem dX2_add_24 : decode cX2_add 24 = .ok (.iconst 1, 1) := by decide +kernel
theorem dX2_add_25 : decode cX2_add 25 = .ok (.iadd, 1) := by decide +kernel
theorem dX2_add_26 : decode cX2_add 26 = .ok (.putfield 13, 3) := by decide +kernel
theorem dX2_add_29 : decode cX2_add 29 = .ok (.return_, 1) := by decide +kernel
theorem dX3_init_0 : decode cX3_init 0 = .ok (.aload_n 0, 1) := by decide +kernel
theorem dX3_init_1 : decode cX3_init 1 = .ok (.invokespecial 3, 3) := by decide +kernel
theorem dX3_init_4 : decode cX3_init 4 = .ok (.aload_n 0, 1) := by decide +kernel
theorem dX3_init_5 : decode cX3_init 5 = .ok (.aload_n 1, 1) := by decide +kernel
theorem dX3_init_6 : decode cX3_init 6 = .ok (.putfield 9, 3) := by decide +kernel
theorem dX3_init_9 : decode cX3_init 9 = .ok (.aload_n 0, 1) := by decide +kernel
theorem dX3_init_10 : decode cX3_init 10 = .ok (.aload_n 2, 1) := by decide +kernel
theorem dX3_init_11 : decode cX3_init 11 = .ok (.putfield 15, 3) := by decide +kernel
theorem dX3_init_14 : decode cX3_init 14 = .ok (.return_, 1) := by decide +kernel
theorem dX3_items_0 : decode cX3_items 0 = .ok (.aload_n 0, 1) := by decide +kernel
theorem dX3_items_1 : decode cX3_items 1 = .ok (.iconst 0, 1) := by decide +kernel
theorem dX3_items_2 : decode cX3_items 2 = .ok (.putfield 19, 3) := by decide +kernel
theorem dX3_items_5 : decode cX3_items 5 = .ok (.iconst 1, 1) := by decide +kernel
theorem dX3_items_6 : decode cX3_items 6 = .ok (.istore_n 1, 1) := by decide +kernel
theorem dX3_items_7 : decode cX3_items 7 = .ok (.iload_n 1, 1) := by decide +kernel
theorem dX3_items_8 : decode cX3_items 8 = .ok (.bipush 120, 2) := by decide +kernel
theorem dX3_items_10 : decode cX3_items 10 = .ok (.if_icmp .gt 43, 3) := by decide +kernel
theorem dX3_items_13 : decode cX3_items 13 = .ok (.aload_n 0, 1) := by decide +kernel
theorem dX3_items_14 : decode cX3_items 14 = .ok (.invokevirtual 25, 3) := by decide +kernel
theorem dX3_items_17 : decode cX3_items 17 = .ok (.aload_n 0, 1) := by decide +kernel
theorem dX3_items_18 : decode cX3_items 18 = .ok (.invokevirtual 28, 3) := by decide +kernel
theorem dX3_items_21 : decode cX3_items 21 = .ok (.ifCond .ne 6, 3) := by decide +kernel
theorem dX3_items_24 : decode cX3_items 24 = .ok (.goto 29, 3) := by decide +kernel
theorem dX3_items_27 : decode cX3_items 27 = .ok (.aload_n 0, 1) := by decide +kernel
theorem dX3_items_28 : decode cX3_items 28 = .ok (.getfield 32, 3) := by decide +kernel
theorem dX3_items_31 : decode cX3_items 31 = .ok (.ifCond .ne 5, 3) := by decide +kernel
theorem dX3_items_34 : decode cX3_items 34 = .ok (.iload_n 1, 1) := by decide +kernel
theorem dX3_items_35 : decode cX3_items 35 = .ok (.ireturn, 1) := by decide +kernel
theorem dX3_items_36 : decode cX3_items 36 = .ok (.aload_n 0, 1) := by decide +kernel
theorem dX3_items_37 : decode cX3_items 37 = .ok (.getfield 32, 3) := by decide +kernel
theorem dX3_items_40 : decode cX3_items 40 = .ok (.iconst 3, 1) := by decide +kernel
theorem dX3_items_41 : decode cX3_items 41 = .ok (.if_icmp .eq 6, 3) := by decide +kernel
theorem dX3_items_44 : decode cX3_items 44 = .ok (.goto 9, 3) := by decide +kernel
theorem dX3_items_47 : decode cX3_items 47 = .ok (.iinc 1 1, 3) := by decide +kernel
theorem dX3_items_50 : decode cX3_items 50 = .ok (.goto (-43), 3) := by decide +kernel
theorem dX3_items_53 : decode cX3_items 53 = .ok (.iconst (-1), 1) := by decide +kernel
theorem dX3_items_54 : decode cX3_items 54 = .ok (.aload_n 0, 1) := by decide +kernel
theorem dX3_items_55 : decode cX3_items 55 = .ok (.getfield 35, 3) := by decide +kernel
theorem dX3_items_58 : decode cX3_items 58 = .ok (.isub, 1) := by decide +kernel
theorem dX3_items_59 : decode cX3_items 59 = .ok (.ireturn, 1) := by decide +kernel
theorem dX3_readItem_0 : decode cX3_readItem 0 = .ok (.aload_n 0, 1) := by decide +kernel
theorem dX3_readItem_1 : decode cX3_readItem 1 = .ok (.invokevirtual 38, 3) := by decide +kernel
theorem dX3_readItem_4 : decode cX3_readItem 4 = .ok (.istore_n 1, 1) := by decide +kernel
theorem dX3_readItem_5 : decode cX3_readItem 5 = .ok (.iload_n 1, 1) := by decide +kernel
theorem dX3_readItem_6 : decode cX3_readItem 6 = .ok (.invokestatic 42, 3) := by decide +kernel
theorem dX3_readItem_9 : decode cX3_readItem 9 = .ok (.ifCond .eq 9, 3) := by decide +kernel
theorem dX3_readItem_12 : decode cX3_readItem 12 = .ok (.aload_n 0, 1) := by decide +kernel
theorem dX3_readItem_13 : decode cX3_readItem 13 = .ok (.iload_n 1, 1) := by decide +kernel
theorem dX3_readItem_14 : decode cX3_readItem 14 = .ok (.invokevirtual 46, 3) := by decide +kernel
theorem dX3_readItem_17 : decode cX3_readItem 17 = .ok (.ireturn, 1) := by decide +kernel
theorem dX3_readItem_18 : decode cX3_readItem 18 = .ok (.aload_n 0, 1) := by decide +kernel
theorem dX3_readItem_19 : decode cX3_readItem 19 = .ok (.ldc 49, 2) := by decide +kernel
theorem dX3_readItem_21 : decode cX3_readItem 21 = .ok (.invokevirtual 51, 3) := by decide +kernel
theorem dX3_readItem_24 : decode cX3_readItem 24 = .ok (.ifCond .eq 9, 3) := by decide +kernel
theorem dX3_readItem_27 : decode cX3_readItem 27 = .ok (.aload_n 0, 1) := by decide +kernel
theorem dX3_readItem_28 : decode cX3_readItem 28 = .ok (.iconst 0, 1) := by decide +kernel
theorem dX3_readItem_29 : decode cX3_readItem 29 = .ok (.invokevirtual 55, 3) := by decide +kernel
theorem dX3_readItem_32 : decode cX3_readItem 32 = .ok (.ireturn, 1) := by decide +kernel
theorem dX3_readItem_33 : decode cX3_readItem 33 = .ok (.aload_n 0, 1) := by decide +kernel
theorem dX3_readItem_34 : decode cX3_readItem 34 = .ok (.ldc 58, 2) := by decide +kernel
theorem dX3_readItem_36 : decode cX3_readItem 36 = .ok (.invokevirtual 51, 3) := by decide +kernel
theorem dX3_readItem_39 : decode cX3_readItem 39 = .ok (.ifCond .eq 9, 3) := by decide +kernel
theorem dX3_readItem_42 : decode cX3_readItem 42 = .ok (.aload_n 0, 1) := by decide +kernel
theorem dX3_readItem_43 : decode cX3_readItem 43 = .ok (.iconst 1, 1) := by decide +kernel
theorem dX3_readItem_44 : decode cX3_readItem 44 = .ok (.invokevirtual 55, 3) := by decide +kernel
theorem dX3_readItem_47 : decode cX3_readItem 47 = .ok (.ireturn, 1) := by decide +kernel
theorem dX3_readItem_48 : decode cX3_readItem 48 = .ok (.aload_n 0, 1) := by decide +kernel
theorem dX3_readItem_49 : decode cX3_readItem 49 = .ok (.ldc 60, 2) := by decide +kernel
theorem dX3_readItem_51 : decode cX3_readItem 51 = .ok (.invokevirtual 51, 3) := by decide +kernel
theorem dX3_readItem_54 : decode cX3_readItem 54 = .ok (.ifCond .eq 8, 3) := by decide +kernel
theorem dX3_readItem_57 : decode cX3_readItem 57 = .ok (.aload_n 0, 1) := by decide +kernel
theorem dX3_readItem_58 : decode cX3_readItem 58 = .ok (.invokevirtual 62, 3) := by decide +kernel
theorem dX3_readItem_61 : decode cX3_readItem 61 = .ok (.ireturn, 1) := by decide +kernel
theorem dX3_readItem_62 : decode cX3_readItem 62 = .ok (.aload_n 0, 1) := by decide +kernel
theorem dX3_readItem_63 : decode cX3_readItem 63 = .ok (.ldc 65, 2) := by decide +kernel
theorem dX3_readItem_65 : decode cX3_readItem 65 = .ok (.invokevirtual 51, 3) := by decide +kernel
theorem dX3_readItem_68 : decode cX3_readItem 68 = .ok (.ifCond .eq 14, 3) := by decide +kernel
theorem dX3_readItem_71 : decode cX3_readItem 71 = .ok (.aload_n 0, 1) := by decide +kernel
theorem dX3_readItem_72 : decode cX3_readItem 72 = .ok (.invokevirtual 67, 3) := by decide +kernel
theorem dX3_readItem_75 : decode cX3_readItem 75 = .ok (.ifCond .eq 7, 3) := by decide +kernel
theorem dX3_readItem_78 : decode cX3_readItem 78 = .ok (.iconst 1, 1) := by decide +kernel
theorem dX3_readItem_79 : decode cX3_readItem 79 = .ok (.goto 4, 3) := by decide +kernel
theorem dX3_readItem_82 : decode cX3_readItem 82 = .ok (.iconst 0, 1) := by decide +kernel
theorem dX3_readItem_83 : decode cX3_readItem 83 = .ok (.ireturn, 1) := by decide +kernel
theorem dX3_kindNamed_0 : decode cX3_kindNamed 0 = .ok (.aload_n 0, 1) := by decide +kernel
theorem dX3_kindNamed_1 : decode cX3_kindNamed 1 = .ok (.ldc 70, 2) := by decide +kernel
theorem dX3_kindNamed_3 : decode cX3_kindNamed 3 = .ok (.invokevirtual 51, 3) := by decide +kernel
theorem dX3_kindNamed_6 : decode cX3_kindNamed 6 = .ok (.ifCond .eq 5, 3) := by decide +kernel
theorem dX3_kindNamed_9 : decode cX3_kindNamed 9 = .ok (.iconst 0, 1) := by decide +kernel
theorem dX3_kindNamed_10 : decode cX3_kindNamed 10 = .ok (.ireturn, 1) := by decide +kernel
theorem dX3_kindNamed_11 : decode cX3_kindNamed 11 = .ok (.aload_n 0, 1) := by decide +kernel
theorem dX3_kindNamed_12 : decode cX3_kindNamed 12 = .ok (.ldc 72, 2) := by decide +kernel
theorem dX3_kindNamed_14 : decode cX3_kindNamed 14 = .ok (.invokevirtual 51, 3) := by decide +kernel
theorem dX3_kindNamed_17 : decode cX3_kindNamed 17 = .ok (.ifCond .eq 5, 3) := by decide +kernel
theorem dX3_kindNamed_20 : decode cX3_kindNamed 20 = .ok (.iconst 1, 1) := by decide +kernel
theorem dX3_kindNamed_21 : decode cX3_kindNamed 21 = .ok (.ireturn, 1) := by decide +kernel
theorem dX3_kindNamed_22 : decode cX3_kindNamed 22 = .ok (.aload_n 0, 1) := by decide +kernel
theorem dX3_kindNamed_23 : decode cX3_kindNamed 23 = .ok (.ldc 74, 2) := by decide +kernel
theorem dX3_kindNamed_25 : decode cX3_kindNamed 25 = .ok (.invokevirtual 51, 3) := by decide +kernel
theorem dX3_kindNamed_28 : decode cX3_kindNamed 28 = .ok (.ifCond .eq 5, 3) := by decide +kernel
theorem dX3_kindNamed_31 : decode cX3_kindNamed 31 = .ok (.iconst 2, 1) := by decide +kernel
theorem dX3_kindNamed_32 : decode cX3_kindNamed 32 = .ok (.ireturn, 1) := by decide +kernel
theorem dX3_kindNamed_33 : decode cX3_kindNamed 33 = .ok (.aload_n 0, 1) := by decide +kernel
theorem dX3_kindNamed_34 : decode cX3_kindNamed 34 = .ok (.ldc 76, 2) := by decide +kernel
theorem dX3_kindNamed_36 : decode cX3_kindNamed 36 = .ok (.invokevirtual 51, 3) := by decide +kernel
theorem dX3_kindNamed_39 : decode cX3_kindNamed 39 = .ok (.ifCond .eq 5, 3) := by decide +kernel
theorem dX3_kindNamed_42 : decode cX3_kindNamed 42 = .ok (.iconst 3, 1) := by decide +kernel
theorem dX3_kindNamed_43 : decode cX3_kindNamed 43 = .ok (.ireturn, 1) := by decide +kernel
theorem dX3_kindNamed_44 : decode cX3_kindNamed 44 = .ok (.aload_n 0, 1) := by decide +kernel
theorem dX3_kindNamed_45 : decode cX3_kindNamed 45 = .ok (.ldc 78, 2) := by decide +kernel
theorem dX3_kindNamed_47 : decode cX3_kindNamed 47 = .ok (.invokevirtual 51, 3) := by decide +kernel
theorem dX3_kindNamed_50 : decode cX3_kindNamed 50 = .ok (.ifCond .eq 5, 3) := by decide +kernel
theorem dX3_kindNamed_53 : decode cX3_kindNamed 53 = .ok (.iconst 4, 1) := by decide +kernel
theorem dX3_kindNamed_54 : decode cX3_kindNamed 54 = .ok (.ireturn, 1) := by decide +kernel
theorem dX3_kindNamed_55 : decode cX3_kindNamed 55 = .ok (.aload_n 0, 1) := by decide +kernel
theorem dX3_kindNamed_56 : decode cX3_kindNamed 56 = .ok (.ldc 80, 2) := by decide +kernel
theorem dX3_kindNamed_58 : decode cX3_kindNamed 58 = .ok (.invokevirtual 51, 3) := by decide +kernel
theorem dX3_kindNamed_61 : decode cX3_kindNamed 61 = .ok (.ifCond .eq 7, 3) := by decide +kernel
theorem dX3_kindNamed_64 : decode cX3_kindNamed 64 = .ok (.iconst 5, 1) := by decide +kernel
theorem dX3_kindNamed_65 : decode cX3_kindNamed 65 = .ok (.goto 4, 3) := by decide +kernel
theorem dX3_kindNamed_68 : decode cX3_kindNamed 68 = .ok (.iconst (-1), 1) := by decide +kernel
theorem dX3_kindNamed_69 : decode cX3_kindNamed 69 = .ok (.ireturn, 1) := by decide +kernel
theorem dX3_readPerson_0 : decode cX3_readPerson 0 = .ok (.aload_n 0, 1) := by decide +kernel
theorem dX3_readPerson_1 : decode cX3_readPerson 1 = .ok (.getfield 15, 3) := by decide +kernel
theorem dX3_readPerson_4 : decode cX3_readPerson 4 = .ok (.invokevirtual 82, 3) := by decide +kernel
theorem dX3_readPerson_7 : decode cX3_readPerson 7 = .ok (.ifCond .eq 5, 3) := by decide +kernel
theorem dX3_readPerson_10 : decode cX3_readPerson 10 = .ok (.iconst 0, 1) := by decide +kernel
theorem dX3_readPerson_11 : decode cX3_readPerson 11 = .ok (.ireturn, 1) := by decide +kernel
theorem dX3_readPerson_12 : decode cX3_readPerson 12 = .ok (.aload_n 0, 1) := by decide +kernel
theorem dX3_readPerson_13 : decode cX3_readPerson 13 = .ok (.getfield 15, 3) := by decide +kernel
theorem dX3_readPerson_16 : decode cX3_readPerson 16 = .ok (.iload_n 1, 1) := by decide +kernel
theorem dX3_readPerson_17 : decode cX3_readPerson 17 = .ok (.invokevirtual 87, 3) := by decide +kernel
theorem dX3_readPerson_20 : decode cX3_readPerson 20 = .ok (.istore_n 2, 1) := by decide +kernel
theorem dX3_readPerson_21 : decode cX3_readPerson 21 = .ok (.aload_n 0, 1) := by decide +kernel
theorem dX3_readPerson_22 : decode cX3_readPerson 22 = .ok (.invokevirtual 25, 3) := by decide +kernel
theorem dX3_readPerson_25 : decode cX3_readPerson 25 = .ok (.aload_n 0, 1) := by decide +kernel
theorem dX3_readPerson_26 : decode cX3_readPerson 26 = .ok (.ldc 91, 2) := by decide +kernel
theorem dX3_readPerson_28 : decode cX3_readPerson 28 = .ok (.invokevirtual 51, 3) := by decide +kernel
theorem dX3_readPerson_31 : decode cX3_readPerson 31 = .ok (.ifCond .eq 35, 3) := by decide +kernel
theorem dX3_readPerson_34 : decode cX3_readPerson 34 = .ok (.aload_n 0, 1) := by decide +kernel
theorem dX3_readPerson_35 : decode cX3_readPerson 35 = .ok (.invokevirtual 25, 3) := by decide +kernel
theorem dX3_readPerson_38 : decode cX3_readPerson 38 = .ok (.aload_n 0, 1) := by decide +kernel
theorem dX3_readPerson_39 : decode cX3_readPerson 39 = .ok (.bipush 63, 2) := by decide +kernel
theorem dX3_readPerson_41 : decode cX3_readPerson 41 = .ok (.invokevirtual 93, 3) := by decide +kernel
theorem dX3_readPerson_44 : decode cX3_readPerson 44 = .ok (.ifCond .ne 5, 3) := by decide +kernel
theorem dX3_readPerson_47 : decode cX3_readPerson 47 = .ok (.iconst 0, 1) := by decide +kernel
theorem dX3_readPerson_48 : decode cX3_readPerson 48 = .ok (.ireturn, 1) := by decide +kernel
theorem dX3_readPerson_49 : decode cX3_readPerson 49 = .ok (.aload_n 0, 1) := by decide +kernel
theorem dX3_readPerson_50 : decode cX3_readPerson 50 = .ok (.getfield 15, 3) := by decide +kernel
theorem dX3_readPerson_53 : decode cX3_readPerson 53 = .ok (.getfield 96, 3) := by decide +kernel
theorem dX3_readPerson_56 : decode cX3_readPerson 56 = .ok (.iload_n 2, 1) := by decide +kernel
theorem dX3_readPerson_57 : decode cX3_readPerson 57 = .ok (.aload_n 0, 1) := by decide +kernel
theorem dX3_readPerson_58 : decode cX3_readPerson 58 = .ok (.getfield 99, 3) := by decide +kernel
theorem dX3_readPerson_61 : decode cX3_readPerson 61 = .ok (.iastore, 1) := by decide +kernel
theorem dX3_readPerson_62 : decode cX3_readPerson 62 = .ok (.aload_n 0, 1) := by decide +kernel
theorem dX3_readPerson_63 : decode cX3_readPerson 63 = .ok (.invokevirtual 25, 3) := by decide +kernel
theorem dX3_readPerson_66 : decode cX3_readPerson 66 = .ok (.aload_n 0, 1) := by decide +kernel
theorem dX3_readPerson_67 : decode cX3_readPerson 67 = .ok (.ldc 102, 2) := by decide +kernel
theorem dX3_readPerson_69 : decode cX3_readPerson 69 = .ok (.invokevirtual 51, 3) := by decide +kernel
theorem dX3_readPerson_72 : decode cX3_readPerson 72 = .ok (.ifCond .eq 36, 3) := by decide +kernel
theorem dX3_readPerson_75 : decode cX3_readPerson 75 = .ok (.aload_n 0, 1) := by decide +kernel
theorem dX3_readPerson_76 : decode cX3_readPerson 76 = .ok (.invokevirtual 25, 3) := by decide +kernel
theorem dX3_readPerson_79 : decode cX3_readPerson 79 = .ok (.aload_n 0, 1) := by decide +kernel
theorem dX3_readPerson_80 : decode cX3_readPerson 80 = .ok (.sipush 9999, 3) := by decide +kernel
theorem dX3_readPerson_83 : decode cX3_readPerson 83 = .ok (.invokevirtual 93, 3) := by decide +kernel
theorem dX3_readPerson_86 : decode cX3_readPerson 86 = .ok (.ifCond .ne 5, 3) := by decide +kernel
theorem dX3_readPerson_89 : decode cX3_readPerson 89 = .ok (.iconst 0, 1) := by decide +kernel
theorem dX3_readPerson_90 : decode cX3_readPerson 90 = .ok (.ireturn, 1) := by decide +kernel
theorem dX3_readPerson_91 : decode cX3_readPerson 91 = .ok (.aload_n 0, 1) := by decide +kernel
theorem dX3_readPerson_92 : decode cX3_readPerson 92 = .ok (.getfield 15, 3) := by decide +kernel
theorem dX3_readPerson_95 : decode cX3_readPerson 95 = .ok (.getfield 104, 3) := by decide +kernel
theorem dX3_readPerson_98 : decode cX3_readPerson 98 = .ok (.iload_n 2, 1) := by decide +kernel
theorem dX3_readPerson_99 : decode cX3_readPerson 99 = .ok (.aload_n 0, 1) := by decide +kernel
theorem dX3_readPerson_100 : decode cX3_readPerson 100 = .ok (.getfield 99, 3) := by decide +kernel
theorem dX3_readPerson_103 : decode cX3_readPerson 103 = .ok (.iastore, 1) := by decide +kernel
theorem dX3_readPerson_104 : decode cX3_readPerson 104 = .ok (.aload_n 0, 1) := by decide +kernel
theorem dX3_readPerson_105 : decode cX3_readPerson 105 = .ok (.invokevirtual 25, 3) := by decide +kernel
theorem dX3_readPerson_108 : decode cX3_readPerson 108 = .ok (.iconst 1, 1) := by decide +kernel
theorem dX3_readPerson_109 : decode cX3_readPerson 109 = .ok (.ireturn, 1) := by decide +kernel
theorem dX3_readLying_0 : decode cX3_readLying 0 = .ok (.aload_n 0, 1) := by decide +kernel
theorem dX3_readLying_1 : decode cX3_readLying 1 = .ok (.invokevirtual 25, 3) := by decide +kernel
theorem dX3_readLying_4 : decode cX3_readLying 4 = .ok (.aload_n 0, 1) := by decide +kernel
theorem dX3_readLying_5 : decode cX3_readLying 5 = .ok (.iconst 5, 1) := by decide +kernel
theorem dX3_readLying_6 : decode cX3_readLying 6 = .ok (.invokevirtual 93, 3) := by decide +kernel
theorem dX3_readLying_9 : decode cX3_readLying 9 = .ok (.ifCond .ne 5, 3) := by decide +kernel
theorem dX3_readLying_12 : decode cX3_readLying 12 = .ok (.iconst 0, 1) := by decide +kernel
theorem dX3_readLying_13 : decode cX3_readLying 13 = .ok (.ireturn, 1) := by decide +kernel
theorem dX3_readLying_14 : decode cX3_readLying 14 = .ok (.aload_n 0, 1) := by decide +kernel
theorem dX3_readLying_15 : decode cX3_readLying 15 = .ok (.getfield 99, 3) := by decide +kernel
theorem dX3_readLying_18 : decode cX3_readLying 18 = .ok (.istore_n 2, 1) := by decide +kernel
theorem dX3_readLying_19 : decode cX3_readLying 19 = .ok (.aload_n 0, 1) := by decide +kernel
theorem dX3_readLying_20 : decode cX3_readLying 20 = .ok (.invokevirtual 25, 3) := by decide +kernel
theorem dX3_readLying_23 : decode cX3_readLying 23 = .ok (.aload_n 0, 1) := by decide +kernel
theorem dX3_readLying_24 : decode cX3_readLying 24 = .ok (.sipush 9999, 3) := by decide +kernel
theorem dX3_readLying_27 : decode cX3_readLying 27 = .ok (.invokevirtual 93, 3) := by decide +kernel
theorem dX3_readLying_30 : decode cX3_readLying 30 = .ok (.ifCond .ne 5, 3) := by decide +kernel
theorem dX3_readLying_33 : decode cX3_readLying 33 = .ok (.iconst 0, 1) := by decide +kernel
theorem dX3_readLying_34 : decode cX3_readLying 34 = .ok (.ireturn, 1) := by decide +kernel
theorem dX3_readLying_35 : decode cX3_readLying 35 = .ok (.aload_n 0, 1) := by decide +kernel
theorem dX3_readLying_36 : decode cX3_readLying 36 = .ok (.getfield 15, 3) := by decide +kernel
theorem dX3_readLying_39 : decode cX3_readLying 39 = .ok (.iload_n 2, 1) := by decide +kernel
theorem dX3_readLying_40 : decode cX3_readLying 40 = .ok (.iload_n 1, 1) := by decide +kernel
theorem dX3_readLying_41 : decode cX3_readLying 41 = .ok (.aload_n 0, 1) := by decide +kernel
theorem dX3_readLying_42 : decode cX3_readLying 42 = .ok (.getfield 99, 3) := by decide +kernel
theorem dX3_readLying_45 : decode cX3_readLying 45 = .ok (.invokevirtual 106, 3) := by decide +kernel
theorem dX3_readLying_48 : decode cX3_readLying 48 = .ok (.aload_n 0, 1) := by decide +kernel
theorem dX3_readLying_49 : decode cX3_readLying 49 = .ok (.invokevirtual 25, 3) := by decide +kernel
theorem dX3_readLying_52 : decode cX3_readLying 52 = .ok (.iconst 1, 1) := by decide +kernel
theorem dX3_readLying_53 : decode cX3_readLying 53 = .ok (.ireturn, 1) := by decide +kernel
theorem dX3_readBribe_0 : decode cX3_readBribe 0 = .ok (.aload_n 0, 1) := by decide +kernel
theorem dX3_readBribe_1 : decode cX3_readBribe 1 = .ok (.invokevirtual 25, 3) := by decide +kernel
theorem dX3_readBribe_4 : decode cX3_readBribe 4 = .ok (.aload_n 0, 1) := by decide +kernel
theorem dX3_readBribe_5 : decode cX3_readBribe 5 = .ok (.ldc 49, 2) := by decide +kernel
theorem dX3_readBribe_7 : decode cX3_readBribe 7 = .ok (.invokevirtual 51, 3) := by decide +kernel
theorem dX3_readBribe_10 : decode cX3_readBribe 10 = .ok (.ifCond .eq 14, 3) := by decide +kernel
theorem dX3_readBribe_13 : decode cX3_readBribe 13 = .ok (.aload_n 0, 1) := by decide +kernel
theorem dX3_readBribe_14 : decode cX3_readBribe 14 = .ok (.getfield 15, 3) := by decide +kernel
theorem dX3_readBribe_17 : decode cX3_readBribe 17 = .ok (.iconst 0, 1) := by decide +kernel
theorem dX3_readBribe_18 : decode cX3_readBribe 18 = .ok (.putfield 110, 3) := by decide +kernel
theorem dX3_readBribe_21 : decode cX3_readBribe 21 = .ok (.goto 25, 3) := by decide +kernel
theorem dX3_readBribe_24 : decode cX3_readBribe 24 = .ok (.aload_n 0, 1) := by decide +kernel
theorem dX3_readBribe_25 : decode cX3_readBribe 25 = .ok (.ldc 58, 2) := by decide +kernel
theorem dX3_readBribe_27 : decode cX3_readBribe 27 = .ok (.invokevirtual 51, 3) := by decide +kernel
theorem dX3_readBribe_30 : decode cX3_readBribe 30 = .ok (.ifCond .eq 14, 3) := by decide +kernel
theorem dX3_readBribe_33 : decode cX3_readBribe 33 = .ok (.aload_n 0, 1) := by decide +kernel
theorem dX3_readBribe_34 : decode cX3_readBribe 34 = .ok (.getfield 15, 3) := by decide +kernel
theorem dX3_readBribe_37 : decode cX3_readBribe 37 = .ok (.iconst 1, 1) := by decide +kernel
theorem dX3_readBribe_38 : decode cX3_readBribe 38 = .ok (.putfield 110, 3) := by decide +kernel
theorem dX3_readBribe_41 : decode cX3_readBribe 41 = .ok (.goto 5, 3) := by decide +kernel
theorem dX3_readBribe_44 : decode cX3_readBribe 44 = .ok (.iconst 0, 1) := by decide +kernel
theorem dX3_readBribe_45 : decode cX3_readBribe 45 = .ok (.ireturn, 1) := by decide +kernel
theorem dX3_readBribe_46 : decode cX3_readBribe 46 = .ok (.aload_n 0, 1) := by decide +kernel
theorem dX3_readBribe_47 : decode cX3_readBribe 47 = .ok (.invokevirtual 25, 3) := by decide +kernel
theorem dX3_readBribe_50 : decode cX3_readBribe 50 = .ok (.iconst 1, 1) := by decide +kernel
theorem dX3_readBribe_51 : decode cX3_readBribe 51 = .ok (.ireturn, 1) := by decide +kernel
theorem dX3_readAway_0 : decode cX3_readAway 0 = .ok (.aload_n 0, 1) := by decide +kernel
theorem dX3_readAway_1 : decode cX3_readAway 1 = .ok (.invokevirtual 25, 3) := by decide +kernel
theorem dX3_readAway_4 : decode cX3_readAway 4 = .ok (.aload_n 0, 1) := by decide +kernel
theorem dX3_readAway_5 : decode cX3_readAway 5 = .ok (.aload_n 0, 1) := by decide +kernel
theorem dX3_readAway_6 : decode cX3_readAway 6 = .ok (.getfield 15, 3) := by decide +kernel
theorem dX3_readAway_9 : decode cX3_readAway 9 = .ok (.getfield 113, 3) := by decide +kernel
theorem dX3_readAway_12 : decode cX3_readAway 12 = .ok (.iconst 1, 1) := by decide +kernel
theorem dX3_readAway_13 : decode cX3_readAway 13 = .ok (.isub, 1) := by decide +kernel
theorem dX3_readAway_14 : decode cX3_readAway 14 = .ok (.invokevirtual 93, 3) := by decide +kernel
theorem dX3_readAway_17 : decode cX3_readAway 17 = .ok (.ifCond .ne 5, 3) := by decide +kernel
theorem dX3_readAway_20 : decode cX3_readAway 20 = .ok (.iconst 0, 1) := by decide +kernel
theorem dX3_readAway_21 : decode cX3_readAway 21 = .ok (.ireturn, 1) := by decide +kernel
theorem dX3_readAway_22 : decode cX3_readAway 22 = .ok (.aload_n 0, 1) := by decide +kernel
theorem dX3_readAway_23 : decode cX3_readAway 23 = .ok (.getfield 15, 3) := by decide +kernel
theorem dX3_readAway_26 : decode cX3_readAway 26 = .ok (.getfield 116, 3) := by decide +kernel
theorem dX3_readAway_29 : decode cX3_readAway 29 = .ok (.aload_n 0, 1) := by decide +kernel
theorem dX3_readAway_30 : decode cX3_readAway 30 = .ok (.getfield 99, 3) := by decide +kernel
theorem dX3_readAway_33 : decode cX3_readAway 33 = .ok (.iconst 1, 1) := by decide +kernel
theorem dX3_readAway_34 : decode cX3_readAway 34 = .ok (.iastore, 1) := by decide +kernel
theorem dX3_readAway_35 : decode cX3_readAway 35 = .ok (.aload_n 0, 1) := by decide +kernel
theorem dX3_readAway_36 : decode cX3_readAway 36 = .ok (.invokevirtual 25, 3) := by decide +kernel
theorem dX3_readAway_39 : decode cX3_readAway 39 = .ok (.iconst 1, 1) := by decide +kernel
theorem dX3_readAway_40 : decode cX3_readAway 40 = .ok (.ireturn, 1) := by decide +kernel
theorem dX3_isNumber_0 : decode cX3_isNumber 0 = .ok (.aload_n 0, 1) := by decide +kernel
theorem dX3_isNumber_1 : decode cX3_isNumber 1 = .ok (.getfield 32, 3) := by decide +kernel
theorem dX3_isNumber_4 : decode cX3_isNumber 4 = .ok (.iconst 2, 1) := by decide +kernel
theorem dX3_isNumber_5 : decode cX3_isNumber 5 = .ok (.if_icmp .ne 15, 3) := by decide +kernel
theorem dX3_isNumber_8 : decode cX3_isNumber 8 = .ok (.aload_n 0, 1) := by decide +kernel
theorem dX3_isNumber_9 : decode cX3_isNumber 9 = .ok (.getfield 99, 3) := by decide +kernel
theorem dX3_isNumber_12 : decode cX3_isNumber 12 = .ok (.iload_n 1, 1) := by decide +kernel
theorem dX3_isNumber_13 : decode cX3_isNumber 13 = .ok (.if_icmp .gt 7, 3) := by decide +kernel
theorem dX3_isNumber_16 : decode cX3_isNumber 16 = .ok (.iconst 1, 1) := by decide +kernel
theorem dX3_isNumber_17 : decode cX3_isNumber 17 = .ok (.goto 4, 3) := by decide +kernel
theorem dX3_isNumber_20 : decode cX3_isNumber 20 = .ok (.iconst 0, 1) := by decide +kernel
theorem dX3_isNumber_21 : decode cX3_isNumber 21 = .ok (.ireturn, 1) := by decide +kernel
theorem dX3_isWord_0 : decode cX3_isWord 0 = .ok (.aload_n 0, 1) := by decide +kernel
theorem dX3_isWord_1 : decode cX3_isWord 1 = .ok (.getfield 32, 3) := by decide +kernel
theorem dX3_isWord_4 : decode cX3_isWord 4 = .ok (.iconst 1, 1) := by decide +kernel
theorem dX3_isWord_5 : decode cX3_isWord 5 = .ok (.if_icmp .ne 19, 3) := by decide +kernel
theorem dX3_isWord_8 : decode cX3_isWord 8 = .ok (.aload_n 0, 1) := by decide +kernel
theorem dX3_isWord_9 : decode cX3_isWord 9 = .ok (.getfield 19, 3) := by decide +kernel
theorem dX3_isWord_12 : decode cX3_isWord 12 = .ok (.aload_n 0, 1) := by decide +kernel
theorem dX3_isWord_13 : decode cX3_isWord 13 = .ok (.getfield 35, 3) := by decide +kernel
theorem dX3_isWord_16 : decode cX3_isWord 16 = .ok (.isub, 1) := by decide +kernel
theorem dX3_isWord_17 : decode cX3_isWord 17 = .ok (.aload_n 1, 1) := by decide +kernel
theorem dX3_isWord_18 : decode cX3_isWord 18 = .ok (.invokevirtual 118, 3) := by decide +kernel
theorem dX3_isWord_21 : decode cX3_isWord 21 = .ok (.if_icmp .eq 5, 3) := by decide +kernel
theorem dX3_isWord_24 : decode cX3_isWord 24 = .ok (.iconst 0, 1) := by decide +kernel
theorem dX3_isWord_25 : decode cX3_isWord 25 = .ok (.ireturn, 1) := by decide +kernel
theorem dX3_isWord_26 : decode cX3_isWord 26 = .ok (.iconst 0, 1) := by decide +kernel
theorem dX3_isWord_27 : decode cX3_isWord 27 = .ok (.istore_n 2, 1) := by decide +kernel
theorem dX3_isWord_28 : decode cX3_isWord 28 = .ok (.iload_n 2, 1) := by decide +kernel
theorem dX3_isWord_29 : decode cX3_isWord 29 = .ok (.aload_n 1, 1) := by decide +kernel
theorem dX3_isWord_30 : decode cX3_isWord 30 = .ok (.invokevirtual 118, 3) := by decide +kernel
theorem dX3_isWord_33 : decode cX3_isWord 33 = .ok (.if_icmp .ge 29, 3) := by decide +kernel
theorem dX3_isWord_36 : decode cX3_isWord 36 = .ok (.aload_n 0, 1) := by decide +kernel
theorem dX3_isWord_37 : decode cX3_isWord 37 = .ok (.aload_n 0, 1) := by decide +kernel
theorem dX3_isWord_38 : decode cX3_isWord 38 = .ok (.getfield 35, 3) := by decide +kernel
theorem dX3_isWord_41 : decode cX3_isWord 41 = .ok (.iload_n 2, 1) := by decide +kernel
theorem dX3_isWord_42 : decode cX3_isWord 42 = .ok (.iadd, 1) := by decide +kernel
theorem dX3_isWord_43 : decode cX3_isWord 43 = .ok (.invokevirtual 123, 3) := by decide +kernel
theorem dX3_isWord_46 : decode cX3_isWord 46 = .ok (.aload_n 1, 1) := by decide +kernel
theorem dX3_isWord_47 : decode cX3_isWord 47 = .ok (.iload_n 2, 1) := by decide +kernel
theorem dX3_isWord_48 : decode cX3_isWord 48 = .ok (.invokevirtual 126, 3) := by decide +kernel
theorem dX3_isWord_51 : decode cX3_isWord 51 = .ok (.if_icmp .eq 5, 3) := by decide +kernel
theorem dX3_isWord_54 : decode cX3_isWord 54 = .ok (.iconst 0, 1) := by decide +kernel
theorem dX3_isWord_55 : decode cX3_isWord 55 = .ok (.ireturn, 1) := by decide +kernel
theorem dX3_isWord_56 : decode cX3_isWord 56 = .ok (.iinc 2 1, 3) := by decide +kernel
theorem dX3_isWord_59 : decode cX3_isWord 59 = .ok (.goto (-31), 3) := by decide +kernel
theorem dX3_isWord_62 : decode cX3_isWord 62 = .ok (.iconst 1, 1) := by decide +kernel
theorem dX3_isWord_63 : decode cX3_isWord 63 = .ok (.ireturn, 1) := by decide +kernel
theorem dX3_next_0 : decode cX3_next 0 = .ok (.aload_n 0, 1) := by decide +kernel
theorem dX3_next_1 : decode cX3_next 1 = .ok (.getfield 19, 3) := by decide +kernel
theorem dX3_next_4 : decode cX3_next 4 = .ok (.aload_n 0, 1) := by decide +kernel
theorem dX3_next_5 : decode cX3_next 5 = .ok (.getfield 9, 3) := by decide +kernel
theorem dX3_next_8 : decode cX3_next 8 = .ok (.getfield 130, 3) := by decide +kernel
theorem dX3_next_11 : decode cX3_next 11 = .ok (.if_icmp .ge 29, 3) := by decide +kernel
theorem dX3_next_14 : decode cX3_next 14 = .ok (.aload_n 0, 1) := by decide +kernel
theorem dX3_next_15 : decode cX3_next 15 = .ok (.aload_n 0, 1) := by decide +kernel
theorem dX3_next_16 : decode cX3_next 16 = .ok (.getfield 19, 3) := by decide +kernel
theorem dX3_next_19 : decode cX3_next 19 = .ok (.invokevirtual 123, 3) := by decide +kernel
theorem dX3_next_22 : decode cX3_next 22 = .ok (.bipush 32, 2) := by decide +kernel
theorem dX3_next_24 : decode cX3_next 24 = .ok (.if_icmp .ne 16, 3) := by decide +kernel
theorem dX3_next_27 : decode cX3_next 27 = .ok (.aload_n 0, 1) := by decide +kernel
theorem dX3_next_28 : decode cX3_next 28 = .ok (.dup, 1) := by decide +kernel
theorem dX3_next_29 : decode cX3_next 29 = .ok (.getfield 19, 3) := by decide +kernel
theorem dX3_next_32 : decode cX3_next 32 = .ok (.iconst 1, 1) := by decide +kernel
theorem dX3_next_33 : decode cX3_next 33 = .ok (.iadd, 1) := by decide +kernel
theorem dX3_next_34 : decode cX3_next 34 = .ok (.putfield 19, 3) := by decide +kernel
theorem dX3_next_37 : decode cX3_next 37 = .ok (.goto (-37), 3) := by decide +kernel
theorem dX3_next_40 : decode cX3_next 40 = .ok (.aload_n 0, 1) := by decide +kernel
theorem dX3_next_41 : decode cX3_next 41 = .ok (.aload_n 0, 1) := by decide +kernel
theorem dX3_next_42 : decode cX3_next 42 = .ok (.getfield 19, 3) := by decide +kernel
theorem dX3_next_45 : decode cX3_next 45 = .ok (.putfield 35, 3) := by decide +kernel
theorem dX3_next_48 : decode cX3_next 48 = .ok (.aload_n 0, 1) := by decide +kernel
theorem dX3_next_49 : decode cX3_next 49 = .ok (.getfield 35, 3) := by decide +kernel
theorem dX3_next_52 : decode cX3_next 52 = .ok (.aload_n 0, 1) := by decide +kernel
theorem dX3_next_53 : decode cX3_next 53 = .ok (.getfield 9, 3) := by decide +kernel
theorem dX3_next_56 : decode cX3_next 56 = .ok (.getfield 130, 3) := by decide +kernel
theorem dX3_next_59 : decode cX3_next 59 = .ok (.if_icmp .lt 11, 3) := by decide +kernel
theorem dX3_next_62 : decode cX3_next 62 = .ok (.aload_n 0, 1) := by decide +kernel
theorem dX3_next_63 : decode cX3_next 63 = .ok (.iconst 0, 1) := by decide +kernel
theorem dX3_next_64 : decode cX3_next 64 = .ok (.putfield 32, 3) := by decide +kernel
theorem dX3_next_67 : decode cX3_next 67 = .ok (.goto 77, 3) := by decide +kernel
theorem dX3_next_70 : decode cX3_next 70 = .ok (.aload_n 0, 1) := by decide +kernel
theorem dX3_next_71 : decode cX3_next 71 = .ok (.aload_n 0, 1) := by decide +kernel
theorem dX3_next_72 : decode cX3_next 72 = .ok (.getfield 35, 3) := by decide +kernel
theorem dX3_next_75 : decode cX3_next 75 = .ok (.invokevirtual 123, 3) := by decide +kernel
theorem dX3_next_78 : decode cX3_next 78 = .ok (.invokestatic 132, 3) := by decide +kernel
theorem dX3_next_81 : decode cX3_next 81 = .ok (.ifCond .eq 10, 3) := by decide +kernel
theorem dX3_next_84 : decode cX3_next 84 = .ok (.aload_n 0, 1) := by decide +kernel
theorem dX3_next_85 : decode cX3_next 85 = .ok (.invokevirtual 135, 3) := by decide +kernel
theorem dX3_next_88 : decode cX3_next 88 = .ok (.goto 56, 3) := by decide +kernel
theorem dX3_next_91 : decode cX3_next 91 = .ok (.aload_n 0, 1) := by decide +kernel
theorem dX3_next_92 : decode cX3_next 92 = .ok (.aload_n 0, 1) := by decide +kernel
theorem dX3_next_93 : decode cX3_next 93 = .ok (.getfield 35, 3) := by decide +kernel
theorem dX3_next_96 : decode cX3_next 96 = .ok (.invokevirtual 123, 3) := by decide +kernel
theorem dX3_next_99 : decode cX3_next 99 = .ok (.invokestatic 138, 3) := by decide +kernel
theorem dX3_next_102 : decode cX3_next 102 = .ok (.ifCond .eq 10, 3) := by decide +kernel
theorem dX3_next_105 : decode cX3_next 105 = .ok (.aload_n 0, 1) := by decide +kernel
theorem dX3_next_106 : decode cX3_next 106 = .ok (.invokevirtual 141, 3) := by decide +kernel
theorem dX3_next_109 : decode cX3_next 109 = .ok (.goto 35, 3) := by decide +kernel
theorem dX3_next_112 : decode cX3_next 112 = .ok (.aload_n 0, 1) := by decide +kernel
theorem dX3_next_113 : decode cX3_next 113 = .ok (.aload_n 0, 1) := by decide +kernel
theorem dX3_next_114 : decode cX3_next 114 = .ok (.aload_n 0, 1) := by decide +kernel
theorem dX3_next_115 : decode cX3_next 115 = .ok (.getfield 35, 3) := by decide +kernel
theorem dX3_next_118 : decode cX3_next 118 = .ok (.invokevirtual 123, 3) := by decide +kernel
theorem dX3_next_121 : decode cX3_next 121 = .ok (.bipush 59, 2) := by decide +kernel
theorem dX3_next_123 : decode cX3_next 123 = .ok (.if_icmp .ne 7, 3) := by decide +kernel
theorem dX3_next_126 : decode cX3_next 126 = .ok (.iconst 3, 1) := by decide +kernel
theorem dX3_next_127 : decode cX3_next 127 = .ok (.goto 4, 3) := by decide +kernel
theorem dX3_next_130 : decode cX3_next 130 = .ok (.iconst 4, 1) := by decide +kernel
theorem dX3_next_131 : decode cX3_next 131 = .ok (.putfield 32, 3) := by decide +kernel
theorem dX3_next_134 : decode cX3_next 134 = .ok (.aload_n 0, 1) := by decide +kernel
theorem dX3_next_135 : decode cX3_next 135 = .ok (.dup, 1) := by decide +kernel
theorem dX3_next_136 : decode cX3_next 136 = .ok (.getfield 19, 3) := by decide +kernel
theorem dX3_next_139 : decode cX3_next 139 = .ok (.iconst 1, 1) := by decide +kernel
theorem dX3_next_140 : decode cX3_next 140 = .ok (.iadd, 1) := by decide +kernel
theorem dX3_next_141 : decode cX3_next 141 = .ok (.putfield 19, 3) := by decide +kernel
theorem dX3_next_144 : decode cX3_next 144 = .ok (.return_, 1) := by decide +kernel
theorem dX3_nextWord_0 : decode cX3_nextWord 0 = .ok (.aload_n 0, 1) := by decide +kernel
theorem dX3_nextWord_1 : decode cX3_nextWord 1 = .ok (.iconst 1, 1) := by decide +kernel
theorem dX3_nextWord_2 : decode cX3_nextWord 2 = .ok (.putfield 32, 3) := by decide +kernel
theorem dX3_nextWord_5 : decode cX3_nextWord 5 = .ok (.aload_n 0, 1) := by decide +kernel
theorem dX3_nextWord_6 : decode cX3_nextWord 6 = .ok (.getfield 19, 3) := by decide +kernel
theorem dX3_nextWord_9 : decode cX3_nextWord 9 = .ok (.aload_n 0, 1) := by decide +kernel
theorem dX3_nextWord_10 : decode cX3_nextWord 10 = .ok (.getfield 9, 3) := by decide +kernel
theorem dX3_nextWord_13 : decode cX3_nextWord 13 = .ok (.getfield 130, 3) := by decide +kernel
theorem dX3_nextWord_16 : decode cX3_nextWord 16 = .ok (.if_icmp .ge 30, 3) := by decide +kernel
theorem dX3_nextWord_19 : decode cX3_nextWord 19 = .ok (.aload_n 0, 1) := by decide +kernel
theorem dX3_nextWord_20 : decode cX3_nextWord 20 = .ok (.aload_n 0, 1) := by decide +kernel
theorem dX3_nextWord_21 : decode cX3_nextWord 21 = .ok (.getfield 19, 3) := by decide +kernel
theorem dX3_nextWord_24 : decode cX3_nextWord 24 = .ok (.invokevirtual 123, 3) := by decide +kernel
theorem dX3_nextWord_27 : decode cX3_nextWord 27 = .ok (.invokestatic 132, 3) := by decide +kernel
theorem dX3_nextWord_30 : decode cX3_nextWord 30 = .ok (.ifCond .eq 16, 3) := by decide +kernel
theorem dX3_nextWord_33 : decode cX3_nextWord 33 = .ok (.aload_n 0, 1) := by decide +kernel
theorem dX3_nextWord_34 : decode cX3_nextWord 34 = .ok (.dup, 1) := by decide +kernel
theorem dX3_nextWord_35 : decode cX3_nextWord 35 = .ok (.getfield 19, 3) := by decide +kernel
theorem dX3_nextWord_38 : decode cX3_nextWord 38 = .ok (.iconst 1, 1) := by decide +kernel
theorem dX3_nextWord_39 : decode cX3_nextWord 39 = .ok (.iadd, 1) := by decide +kernel
theorem dX3_nextWord_40 : decode cX3_nextWord 40 = .ok (.putfield 19, 3) := by decide +kernel
theorem dX3_nextWord_43 : decode cX3_nextWord 43 = .ok (.goto (-38), 3) := by decide +kernel
theorem dX3_nextWord_46 : decode cX3_nextWord 46 = .ok (.return_, 1) := by decide +kernel
theorem dX3_nextNumber_0 : decode cX3_nextNumber 0 = .ok (.aload_n 0, 1) := by decide +kernel
theorem dX3_nextNumber_1 : decode cX3_nextNumber 1 = .ok (.iconst 2, 1) := by decide +kernel
theorem dX3_nextNumber_2 : decode cX3_nextNumber 2 = .ok (.putfield 32, 3) := by decide +kernel
theorem dX3_nextNumber_5 : decode cX3_nextNumber 5 = .ok (.aload_n 0, 1) := by decide +kernel
theorem dX3_nextNumber_6 : decode cX3_nextNumber 6 = .ok (.iconst 0, 1) := by decide +kernel
theorem dX3_nextNumber_7 : decode cX3_nextNumber 7 = .ok (.putfield 99, 3) := by decide +kernel
theorem dX3_nextNumber_10 : decode cX3_nextNumber 10 = .ok (.aload_n 0, 1) := by decide +kernel
theorem dX3_nextNumber_11 : decode cX3_nextNumber 11 = .ok (.getfield 19, 3) := by decide +kernel
theorem dX3_nextNumber_14 : decode cX3_nextNumber 14 = .ok (.aload_n 0, 1) := by decide +kernel
theorem dX3_nextNumber_15 : decode cX3_nextNumber 15 = .ok (.getfield 9, 3) := by decide +kernel
theorem dX3_nextNumber_18 : decode cX3_nextNumber 18 = .ok (.getfield 130, 3) := by decide +kernel
theorem dX3_nextNumber_21 : decode cX3_nextNumber 21 = .ok (.if_icmp .ge 59, 3) := by decide +kernel
theorem dX3_nextNumber_24 : decode cX3_nextNumber 24 = .ok (.aload_n 0, 1) := by decide +kernel
theorem dX3_nextNumber_25 : decode cX3_nextNumber 25 = .ok (.aload_n 0, 1) := by decide +kernel
theorem dX3_nextNumber_26 : decode cX3_nextNumber 26 = .ok (.getfield 19, 3) := by decide +kernel
theorem dX3_nextNumber_29 : decode cX3_nextNumber 29 = .ok (.invokevirtual 123, 3) := by decide +kernel
theorem dX3_nextNumber_32 : decode cX3_nextNumber 32 = .ok (.invokestatic 138, 3) := by decide +kernel
theorem dX3_nextNumber_35 : decode cX3_nextNumber 35 = .ok (.ifCond .eq 45, 3) := by decide +kernel
theorem dX3_nextNumber_38 : decode cX3_nextNumber 38 = .ok (.aload_n 0, 1) := by decide +kernel
theorem dX3_nextNumber_39 : decode cX3_nextNumber 39 = .ok (.aload_n 0, 1) := by decide +kernel
theorem dX3_nextNumber_40 : decode cX3_nextNumber 40 = .ok (.getfield 99, 3) := by decide +kernel
theorem dX3_nextNumber_43 : decode cX3_nextNumber 43 = .ok (.bipush 10, 2) := by decide +kernel
theorem dX3_nextNumber_45 : decode cX3_nextNumber 45 = .ok (.imul, 1) := by decide +kernel
theorem dX3_nextNumber_46 : decode cX3_nextNumber 46 = .ok (.aload_n 0, 1) := by decide +kernel
theorem dX3_nextNumber_47 : decode cX3_nextNumber 47 = .ok (.aload_n 0, 1) := by decide +kernel
theorem dX3_nextNumber_48 : decode cX3_nextNumber 48 = .ok (.getfield 19, 3) := by decide +kernel
theorem dX3_nextNumber_51 : decode cX3_nextNumber 51 = .ok (.invokevirtual 123, 3) := by decide +kernel
theorem dX3_nextNumber_54 : decode cX3_nextNumber 54 = .ok (.iadd, 1) := by decide +kernel
theorem dX3_nextNumber_55 : decode cX3_nextNumber 55 = .ok (.bipush 48, 2) := by decide +kernel
theorem dX3_nextNumber_57 : decode cX3_nextNumber 57 = .ok (.isub, 1) := by decide +kernel
theorem dX3_nextNumber_58 : decode cX3_nextNumber 58 = .ok (.sipush 10000, 3) := by decide +kernel
theorem dX3_nextNumber_61 : decode cX3_nextNumber 61 = .ok (.invokestatic 144, 3) := by decide +kernel
theorem dX3_nextNumber_64 : decode cX3_nextNumber 64 = .ok (.putfield 99, 3) := by decide +kernel
theorem dX3_nextNumber_67 : decode cX3_nextNumber 67 = .ok (.aload_n 0, 1) := by decide +kernel
theorem dX3_nextNumber_68 : decode cX3_nextNumber 68 = .ok (.dup, 1) := by decide +kernel
theorem dX3_nextNumber_69 : decode cX3_nextNumber 69 = .ok (.getfield 19, 3) := by decide +kernel
theorem dX3_nextNumber_72 : decode cX3_nextNumber 72 = .ok (.iconst 1, 1) := by decide +kernel
theorem dX3_nextNumber_73 : decode cX3_nextNumber 73 = .ok (.iadd, 1) := by decide +kernel
theorem dX3_nextNumber_74 : decode cX3_nextNumber 74 = .ok (.putfield 19, 3) := by decide +kernel
theorem dX3_nextNumber_77 : decode cX3_nextNumber 77 = .ok (.goto (-67), 3) := by decide +kernel
theorem dX3_nextNumber_80 : decode cX3_nextNumber 80 = .ok (.return_, 1) := by decide +kernel
theorem dX3_byteAt_0 : decode cX3_byteAt 0 = .ok (.iload_n 1, 1) := by decide +kernel
theorem dX3_byteAt_1 : decode cX3_byteAt 1 = .ok (.ifCond .lt 21, 3) := by decide +kernel
theorem dX3_byteAt_4 : decode cX3_byteAt 4 = .ok (.iload_n 1, 1) := by decide +kernel
theorem dX3_byteAt_5 : decode cX3_byteAt 5 = .ok (.bipush 120, 2) := by decide +kernel
theorem dX3_byteAt_7 : decode cX3_byteAt 7 = .ok (.if_icmp .ge 15, 3) := by decide +kernel
theorem dX3_byteAt_10 : decode cX3_byteAt 10 = .ok (.aload_n 0, 1) := by decide +kernel
theorem dX3_byteAt_11 : decode cX3_byteAt 11 = .ok (.getfield 9, 3) := by decide +kernel
theorem dX3_byteAt_14 : decode cX3_byteAt 14 = .ok (.getfield 150, 3) := by decide +kernel
theorem dX3_byteAt_17 : decode cX3_byteAt 17 = .ok (.iload_n 1, 1) := by decide +kernel
theorem dX3_byteAt_18 : decode cX3_byteAt 18 = .ok (.baload, 1) := by decide +kernel
theorem dX3_byteAt_19 : decode cX3_byteAt 19 = .ok (.goto 4, 3) := by decide +kernel
theorem dX3_byteAt_22 : decode cX3_byteAt 22 = .ok (.iconst 0, 1) := by decide +kernel
theorem dX3_byteAt_23 : decode cX3_byteAt 23 = .ok (.ireturn, 1) := by decide +kernel
theorem dX3_isLetter_0 : decode cX3_isLetter 0 = .ok (.iload_n 0, 1) := by decide +kernel
theorem dX3_isLetter_1 : decode cX3_isLetter 1 = .ok (.bipush 97, 2) := by decide +kernel
theorem dX3_isLetter_3 : decode cX3_isLetter 3 = .ok (.if_icmp .lt 13, 3) := by decide +kernel
theorem dX3_isLetter_6 : decode cX3_isLetter 6 = .ok (.iload_n 0, 1) := by decide +kernel
theorem dX3_isLetter_7 : decode cX3_isLetter 7 = .ok (.bipush 122, 2) := by decide +kernel
theorem dX3_isLetter_9 : decode cX3_isLetter 9 = .ok (.if_icmp .gt 7, 3) := by decide +kernel
theorem dX3_isLetter_12 : decode cX3_isLetter 12 = .ok (.iconst 1, 1) := by decide +kernel
theorem dX3_isLetter_13 : decode cX3_isLetter 13 = .ok (.goto 4, 3) := by decide +kernel
theorem dX3_isLetter_16 : decode cX3_isLetter 16 = .ok (.iconst 0, 1) := by decide +kernel
theorem dX3_isLetter_17 : decode cX3_isLetter 17 = .ok (.ireturn, 1) := by decide +kernel
theorem dX3_isDigit_0 : decode cX3_isDigit 0 = .ok (.iload_n 0, 1) := by decide +kernel
theorem dX3_isDigit_1 : decode cX3_isDigit 1 = .ok (.bipush 48, 2) := by decide +kernel
theorem dX3_isDigit_3 : decode cX3_isDigit 3 = .ok (.if_icmp .lt 13, 3) := by decide +kernel
theorem dX3_isDigit_6 : decode cX3_isDigit 6 = .ok (.iload_n 0, 1) := by decide +kernel
theorem dX3_isDigit_7 : decode cX3_isDigit 7 = .ok (.bipush 57, 2) := by decide +kernel
theorem dX3_isDigit_9 : decode cX3_isDigit 9 = .ok (.if_icmp .gt 7, 3) := by decide +kernel
theorem dX3_isDigit_12 : decode cX3_isDigit 12 = .ok (.iconst 1, 1) := by decide +kernel
theorem dX3_isDigit_13 : decode cX3_isDigit 13 = .ok (.goto 4, 3) := by decide +kernel
theorem dX3_isDigit_16 : decode cX3_isDigit 16 = .ok (.iconst 0, 1) := by decide +kernel
theorem dX3_isDigit_17 : decode cX3_isDigit 17 = .ok (.ireturn, 1) := by decide +kernel
theorem dX4_init_0 : decode cX4_init 0 = .ok (.aload_n 0, 1) := by decide +kernel
theorem dX4_init_1 : decode cX4_init 1 = .ok (.invokespecial 3, 3) := by decide +kernel
theorem dX4_init_4 : decode cX4_init 4 = .ok (.aload_n 0, 1) := by decide +kernel
theorem dX4_init_5 : decode cX4_init 5 = .ok (.iconst 0, 1) := by decide +kernel
theorem dX4_init_6 : decode cX4_init 6 = .ok (.putfield 9, 3) := by decide +kernel
theorem dX4_init_9 : decode cX4_init 9 = .ok (.aload_n 0, 1) := by decide +kernel
theorem dX4_init_10 : decode cX4_init 10 = .ok (.iconst 0, 1) := by decide +kernel
theorem dX4_init_11 : decode cX4_init 11 = .ok (.putfield 15, 3) := by decide +kernel
theorem dX4_init_14 : decode cX4_init 14 = .ok (.aload_n 0, 1) := by decide +kernel
theorem dX4_init_15 : decode cX4_init 15 = .ok (.iconst 0, 1) := by decide +kernel
theorem dX4_init_16 : decode cX4_init 16 = .ok (.putfield 18, 3) := by decide +kernel
theorem dX4_init_19 : decode cX4_init 19 = .ok (.aload_n 0, 1) := by decide +kernel
theorem dX4_init_20 : decode cX4_init 20 = .ok (.iconst 0, 1) := by decide +kernel
theorem dX4_init_21 : decode cX4_init 21 = .ok (.putfield 21, 3) := by decide +kernel
theorem dX4_init_24 : decode cX4_init 24 = .ok (.aload_n 0, 1) := by decide +kernel
theorem dX4_init_25 : decode cX4_init 25 = .ok (.bipush 6, 2) := by decide +kernel
theorem dX4_init_27 : decode cX4_init 27 = .ok (.newarray .int, 2) := by decide +kernel
theorem dX4_init_29 : decode cX4_init 29 = .ok (.putfield 24, 3) := by decide +kernel
theorem dX4_init_32 : decode cX4_init 32 = .ok (.aload_n 0, 1) := by decide +kernel
theorem dX4_init_33 : decode cX4_init 33 = .ok (.bipush 6, 2) := by decide +kernel
theorem dX4_init_35 : decode cX4_init 35 = .ok (.newarray .int, 2) := by decide +kernel
theorem dX4_init_37 : decode cX4_init 37 = .ok (.putfield 28, 3) := by decide +kernel
theorem dX4_init_40 : decode cX4_init 40 = .ok (.aload_n 0, 1) := by decide +kernel
theorem dX4_init_41 : decode cX4_init 41 = .ok (.bipush 8, 2) := by decide +kernel
theorem dX4_init_43 : decode cX4_init 43 = .ok (.newarray .int, 2) := by decide +kernel
theorem dX4_init_45 : decode cX4_init 45 = .ok (.putfield 31, 3) := by decide +kernel
theorem dX4_init_48 : decode cX4_init 48 = .ok (.aload_n 0, 1) := by decide +kernel
theorem dX4_init_49 : decode cX4_init 49 = .ok (.bipush 8, 2) := by decide +kernel
theorem dX4_init_51 : decode cX4_init 51 = .ok (.newarray .int, 2) := by decide +kernel
theorem dX4_init_53 : decode cX4_init 53 = .ok (.putfield 34, 3) := by decide +kernel
theorem dX4_init_56 : decode cX4_init 56 = .ok (.aload_n 0, 1) := by decide +kernel
theorem dX4_init_57 : decode cX4_init 57 = .ok (.bipush 8, 2) := by decide +kernel
theorem dX4_init_59 : decode cX4_init 59 = .ok (.newarray .int, 2) := by decide +kernel
theorem dX4_init_61 : decode cX4_init 61 = .ok (.putfield 37, 3) := by decide +kernel
theorem dX4_init_64 : decode cX4_init 64 = .ok (.aload_n 0, 1) := by decide +kernel
theorem dX4_init_65 : decode cX4_init 65 = .ok (.bipush 8, 2) := by decide +kernel
theorem dX4_init_67 : decode cX4_init 67 = .ok (.newarray .int, 2) := by decide +kernel
theorem dX4_init_69 : decode cX4_init 69 = .ok (.putfield 40, 3) := by decide +kernel
theorem dX4_init_72 : decode cX4_init 72 = .ok (.return_, 1) := by decide +kernel
theorem dX4_become_0 : decode cX4_become 0 = .ok (.aload_n 0, 1) := by decide +kernel
theorem dX4_become_1 : decode cX4_become 1 = .ok (.aload_n 1, 1) := by decide +kernel
theorem dX4_become_2 : decode cX4_become 2 = .ok (.getfield 9, 3) := by decide +kernel
theorem dX4_become_5 : decode cX4_become 5 = .ok (.putfield 9, 3) := by decide +kernel
theorem dX4_become_8 : decode cX4_become 8 = .ok (.aload_n 0, 1) := by decide +kernel
theorem dX4_become_9 : decode cX4_become 9 = .ok (.aload_n 1, 1) := by decide +kernel
theorem dX4_become_10 : decode cX4_become 10 = .ok (.getfield 15, 3) := by decide +kernel
theorem dX4_become_13 : decode cX4_become 13 = .ok (.putfield 15, 3) := by decide +kernel
theorem dX4_become_16 : decode cX4_become 16 = .ok (.aload_n 0, 1) := by decide +kernel
theorem dX4_become_17 : decode cX4_become 17 = .ok (.aload_n 1, 1) := by decide +kernel
theorem dX4_become_18 : decode cX4_become 18 = .ok (.getfield 18, 3) := by decide +kernel
theorem dX4_become_21 : decode cX4_become 21 = .ok (.putfield 18, 3) := by decide +kernel
theorem dX4_become_24 : decode cX4_become 24 = .ok (.aload_n 0, 1) := by decide +kernel
theorem dX4_become_25 : decode cX4_become 25 = .ok (.aload_n 1, 1) := by decide +kernel
theorem dX4_become_26 : decode cX4_become 26 = .ok (.getfield 21, 3) := by decide +kernel
theorem dX4_become_29 : decode cX4_become 29 = .ok (.putfield 21, 3) := by decide +kernel
theorem dX4_become_32 : decode cX4_become 32 = .ok (.aload_n 1, 1) := by decide +kernel
theorem dX4_become_33 : decode cX4_become 33 = .ok (.getfield 24, 3) := by decide +kernel
theorem dX4_become_36 : decode cX4_become 36 = .ok (.iconst 0, 1) := by decide +kernel
theorem dX4_become_37 : decode cX4_become 37 = .ok (.aload_n 0, 1) := by decide +kernel
theorem dX4_become_38 : decode cX4_become 38 = .ok (.getfield 24, 3) := by decide +kernel
theorem dX4_become_41 : decode cX4_become 41 = .ok (.iconst 0, 1) := by decide +kernel
theorem dX4_become_42 : decode cX4_become 42 = .ok (.bipush 6, 2) := by decide +kernel
theorem dX4_become_44 : decode cX4_become 44 = .ok (.invokestatic 43, 3) := by decide +kernel
theorem dX4_become_47 : decode cX4_become 47 = .ok (.aload_n 1, 1) := by decide +kernel
theorem dX4_become_48 : decode cX4_become 48 = .ok (.getfield 28, 3) := by decide +kernel
theorem dX4_become_51 : decode cX4_become 51 = .ok (.iconst 0, 1) := by decide +kernel
theorem dX4_become_52 : decode cX4_become 52 = .ok (.aload_n 0, 1) := by decide +kernel
theorem dX4_become_53 : decode cX4_become 53 = .ok (.getfield 28, 3) := by decide +kernel
theorem dX4_become_56 : decode cX4_become 56 = .ok (.iconst 0, 1) := by decide +kernel
theorem dX4_become_57 : decode cX4_become 57 = .ok (.bipush 6, 2) := by decide +kernel
theorem dX4_become_59 : decode cX4_become 59 = .ok (.invokestatic 43, 3) := by decide +kernel
theorem dX4_become_62 : decode cX4_become 62 = .ok (.aload_n 1, 1) := by decide +kernel
theorem dX4_become_63 : decode cX4_become 63 = .ok (.getfield 31, 3) := by decide +kernel
theorem dX4_become_66 : decode cX4_become 66 = .ok (.iconst 0, 1) := by decide +kernel
theorem dX4_become_67 : decode cX4_become 67 = .ok (.aload_n 0, 1) := by decide +kernel
theorem dX4_become_68 : decode cX4_become 68 = .ok (.getfield 31, 3) := by decide +kernel
theorem dX4_become_71 : decode cX4_become 71 = .ok (.iconst 0, 1) := by decide +kernel
theorem dX4_become_72 : decode cX4_become 72 = .ok (.bipush 8, 2) := by decide +kernel
theorem dX4_become_74 : decode cX4_become 74 = .ok (.invokestatic 43, 3) := by decide +kernel
theorem dX4_become_77 : decode cX4_become 77 = .ok (.aload_n 1, 1) := by decide +kernel
theorem dX4_become_78 : decode cX4_become 78 = .ok (.getfield 34, 3) := by decide +kernel
theorem dX4_become_81 : decode cX4_become 81 = .ok (.iconst 0, 1) := by decide +kernel
theorem dX4_become_82 : decode cX4_become 82 = .ok (.aload_n 0, 1) := by decide +kernel
theorem dX4_become_83 : decode cX4_become 83 = .ok (.getfield 34, 3) := by decide +kernel
theorem dX4_become_86 : decode cX4_become 86 = .ok (.iconst 0, 1) := by decide +kernel
theorem dX4_become_87 : decode cX4_become 87 = .ok (.bipush 8, 2) := by decide +kernel
theorem dX4_become_89 : decode cX4_become 89 = .ok (.invokestatic 43, 3) := by decide +kernel
theorem dX4_become_92 : decode cX4_become 92 = .ok (.aload_n 1, 1) := by decide +kernel
theorem dX4_become_93 : decode cX4_become 93 = .ok (.getfield 37, 3) := by decide +kernel
theorem dX4_become_96 : decode cX4_become 96 = .ok (.iconst 0, 1) := by decide +kernel
theorem dX4_become_97 : decode cX4_become 97 = .ok (.aload_n 0, 1) := by decide +kernel
theorem dX4_become_98 : decode cX4_become 98 = .ok (.getfield 37, 3) := by decide +kernel
theorem dX4_become_101 : decode cX4_become 101 = .ok (.iconst 0, 1) := by decide +kernel
theorem dX4_become_102 : decode cX4_become 102 = .ok (.bipush 8, 2) := by decide +kernel
theorem dX4_become_104 : decode cX4_become 104 = .ok (.invokestatic 43, 3) := by decide +kernel
theorem dX4_become_107 : decode cX4_become 107 = .ok (.aload_n 1, 1) := by decide +kernel
theorem dX4_become_108 : decode cX4_become 108 = .ok (.getfield 40, 3) := by decide +kernel
theorem dX4_become_111 : decode cX4_become 111 = .ok (.iconst 0, 1) := by decide +kernel
theorem dX4_become_112 : decode cX4_become 112 = .ok (.aload_n 0, 1) := by decide +kernel
theorem dX4_become_113 : decode cX4_become 113 = .ok (.getfield 40, 3) := by decide +kernel
theorem dX4_become_116 : decode cX4_become 116 = .ok (.iconst 0, 1) := by decide +kernel
theorem dX4_become_117 : decode cX4_become 117 = .ok (.bipush 8, 2) := by decide +kernel
theorem dX4_become_119 : decode cX4_become 119 = .ok (.invokestatic 43, 3) := by decide +kernel
theorem dX4_become_122 : decode cX4_become 122 = .ok (.return_, 1) := by decide +kernel
theorem dX4_isFull_0 : decode cX4_isFull 0 = .ok (.aload_n 0, 1) := by decide +kernel
theorem dX4_isFull_1 : decode cX4_isFull 1 = .ok (.getfield 21, 3) := by decide +kernel
theorem dX4_isFull_4 : decode cX4_isFull 4 = .ok (.bipush 8, 2) := by decide +kernel
theorem dX4_isFull_6 : decode cX4_isFull 6 = .ok (.if_icmp .lt 7, 3) := by decide +kernel
theorem dX4_isFull_9 : decode cX4_isFull 9 = .ok (.iconst 1, 1) := by decide +kernel
theorem dX4_isFull_10 : decode cX4_isFull 10 = .ok (.goto 4, 3) := by decide +kernel
theorem dX4_isFull_13 : decode cX4_isFull 13 = .ok (.iconst 0, 1) := by decide +kernel
theorem dX4_isFull_14 : decode cX4_isFull 14 = .ok (.ireturn, 1) := by decide +kernel
theorem dX4_add_0 : decode cX4_add 0 = .ok (.aload_n 0, 1) := by decide +kernel
theorem dX4_add_1 : decode cX4_add 1 = .ok (.getfield 21, 3) := by decide +kernel
theorem dX4_add_4 : decode cX4_add 4 = .ok (.istore_n 2, 1) := by decide +kernel
theorem dX4_add_5 : decode cX4_add 5 = .ok (.aload_n 0, 1) := by decide +kernel
theorem dX4_add_6 : decode cX4_add 6 = .ok (.getfield 31, 3) := by decide +kernel
theorem dX4_add_9 : decode cX4_add 9 = .ok (.iload_n 2, 1) := by decide +kernel
theorem dX4_add_10 : decode cX4_add 10 = .ok (.iload_n 1, 1) := by decide +kernel
theorem dX4_add_11 : decode cX4_add 11 = .ok (.iastore, 1) := by decide +kernel
theorem dX4_add_12 : decode cX4_add 12 = .ok (.aload_n 0, 1) := by decide +kernel
theorem dX4_add_13 : decode cX4_add 13 = .ok (.getfield 34, 3) := by decide +kernel
theorem dX4_add_16 : decode cX4_add 16 = .ok (.iload_n 2, 1) := by decide +kernel
theorem dX4_add_17 : decode cX4_add 17 = .ok (.iconst 0, 1) := by decide +kernel
theorem dX4_add_18 : decode cX4_add 18 = .ok (.iastore, 1) := by decide +kernel
theorem dX4_add_19 : decode cX4_add 19 = .ok (.aload_n 0, 1) := by decide +kernel
theorem dX4_add_20 : decode cX4_add 20 = .ok (.getfield 37, 3) := by decide +kernel
theorem dX4_add_23 : decode cX4_add 23 = .ok (.iload_n 2, 1) := by decide +kernel
theorem dX4_add_24 : decode cX4_add 24 = .ok (.bipush 20, 2) := by decide +kernel
theorem dX4_add_26 : decode cX4_add 26 = .ok (.iastore, 1) := by decide +kernel
theorem dX4_add_27 : decode cX4_add 27 = .ok (.aload_n 0, 1) := by decide +kernel
theorem dX4_add_28 : decode cX4_add 28 = .ok (.getfield 40, 3) := by decide +kernel
theorem dX4_add_31 : decode cX4_add 31 = .ok (.iload_n 2, 1) := by decide +kernel
theorem dX4_add_32 : decode cX4_add 32 = .ok (.iconst 0, 1) := by decide +kernel
theorem dX4_add_33 : decode cX4_add 33 = .ok (.iastore, 1) := by decide +kernel
theorem dX4_add_34 : decode cX4_add 34 = .ok (.aload_n 0, 1) := by decide +kernel
theorem dX4_add_35 : decode cX4_add 35 = .ok (.dup, 1) := by decide +kernel
theorem dX4_add_36 : decode cX4_add 36 = .ok (.getfield 21, 3) := by decide +kernel
theorem dX4_add_39 : decode cX4_add 39 = .ok (.iconst 1, 1) := by decide +kernel
theorem dX4_add_40 : decode cX4_add 40 = .ok (.iadd, 1) := by decide +kernel
theorem dX4_add_41 : decode cX4_add 41 = .ok (.putfield 21, 3) := by decide +kernel
theorem dX4_add_44 : decode cX4_add 44 = .ok (.iload_n 2, 1) := by decide +kernel
theorem dX4_add_45 : decode cX4_add 45 = .ok (.ireturn, 1) := by decide +kernel
theorem dX4_questionOfDay_0 : decode cX4_questionOfDay 0 = .ok (.aload_n 0, 1) := by decide +kernel
theorem dX4_questionOfDay_1 : decode cX4_questionOfDay 1 = .ok (.getfield 9, 3) := by decide +kernel
theorem dX4_questionOfDay_4 : decode cX4_questionOfDay 4 = .ok (.bipush 6, 2) := by decide +kernel
theorem dX4_questionOfDay_6 : decode cX4_questionOfDay 6 = .ok (.irem, 1) := by decide +kernel
theorem dX4_questionOfDay_7 : decode cX4_questionOfDay 7 = .ok (.ireturn, 1) := by decide +kernel
theorem dX4_lying_0 : decode cX4_lying 0 = .ok (.iload_n 2, 1) := by decide +kernel
theorem dX4_lying_1 : decode cX4_lying 1 = .ok (.ifCond .ne 12, 3) := by decide +kernel
theorem dX4_lying_4 : decode cX4_lying 4 = .ok (.aload_n 0, 1) := by decide +kernel
theorem dX4_lying_5 : decode cX4_lying 5 = .ok (.getfield 24, 3) := by decide +kernel
theorem dX4_lying_8 : decode cX4_lying 8 = .ok (.iload_n 1, 1) := by decide +kernel
theorem dX4_lying_9 : decode cX4_lying 9 = .ok (.iaload, 1) := by decide +kernel
theorem dX4_lying_10 : decode cX4_lying 10 = .ok (.goto 9, 3) := by decide +kernel
theorem dX4_lying_13 : decode cX4_lying 13 = .ok (.aload_n 0, 1) := by decide +kernel
theorem dX4_lying_14 : decode cX4_lying 14 = .ok (.getfield 28, 3) := by decide +kernel
theorem dX4_lying_17 : decode cX4_lying 17 = .ok (.iload_n 1, 1) := by decide +kernel
theorem dX4_lying_18 : decode cX4_lying 18 = .ok (.iaload, 1) := by decide +kernel
theorem dX4_lying_19 : decode cX4_lying 19 = .ok (.ireturn, 1) := by decide +kernel
theorem dX4_lay_0 : decode cX4_lay 0 = .ok (.iload_n 2, 1) := by decide +kernel
theorem dX4_lay_1 : decode cX4_lay 1 = .ok (.ifCond .ne 13, 3) := by decide +kernel
theorem dX4_lay_4 : decode cX4_lay 4 = .ok (.aload_n 0, 1) := by decide +kernel
theorem dX4_lay_5 : decode cX4_lay 5 = .ok (.getfield 24, 3) := by decide +kernel
theorem dX4_lay_8 : decode cX4_lay 8 = .ok (.iload_n 1, 1) := by decide +kernel
theorem dX4_lay_9 : decode cX4_lay 9 = .ok (.iload_n 3, 1) := by decide +kernel
theorem dX4_lay_10 : decode cX4_lay 10 = .ok (.iastore, 1) := by decide +kernel
theorem dX4_lay_11 : decode cX4_lay 11 = .ok (.goto 10, 3) := by decide +kernel
theorem dX4_lay_14 : decode cX4_lay 14 = .ok (.aload_n 0, 1) := by decide +kernel
theorem dX4_lay_15 : decode cX4_lay 15 = .ok (.getfield 28, 3) := by decide +kernel
theorem dX4_lay_18 : decode cX4_lay 18 = .ok (.iload_n 1, 1) := by decide +kernel
theorem dX4_lay_19 : decode cX4_lay 19 = .ok (.iload_n 3, 1) := by decide +kernel
theorem dX4_lay_20 : decode cX4_lay 20 = .ok (.iastore, 1) := by decide +kernel
theorem dX4_lay_21 : decode cX4_lay 21 = .ok (.return_, 1) := by decide +kernel
theorem dX4_tell_0 : decode cX4_tell 0 = .ok (.iload_n 2, 1) := by decide +kernel
theorem dX4_tell_1 : decode cX4_tell 1 = .ok (.iconst 2, 1) := by decide +kernel
theorem dX4_tell_2 : decode cX4_tell 2 = .ok (.if_icmp .ne 14, 3) := by decide +kernel
theorem dX4_tell_5 : decode cX4_tell 5 = .ok (.aload_n 0, 1) := by decide +kernel
theorem dX4_tell_6 : decode cX4_tell 6 = .ok (.getfield 15, 3) := by decide +kernel
theorem dX4_tell_9 : decode cX4_tell 9 = .ok (.iload_n 1, 1) := by decide +kernel
theorem dX4_tell_10 : decode cX4_tell 10 = .ok (.ishr, 1) := by decide +kernel
theorem dX4_tell_11 : decode cX4_tell 11 = .ok (.iconst 1, 1) := by decide +kernel
theorem dX4_tell_12 : decode cX4_tell 12 = .ok (.iand, 1) := by decide +kernel
theorem dX4_tell_13 : decode cX4_tell 13 = .ok (.goto 9, 3) := by decide +kernel
theorem dX4_tell_16 : decode cX4_tell 16 = .ok (.aload_n 0, 1) := by decide +kernel
theorem dX4_tell_17 : decode cX4_tell 17 = .ok (.iload_n 1, 1) := by decide +kernel
theorem dX4_tell_18 : decode cX4_tell 18 = .ok (.iload_n 2, 1) := by decide +kernel
theorem dX4_tell_19 : decode cX4_tell 19 = .ok (.invokevirtual 49, 3) := by decide +kernel
theorem dX4_tell_22 : decode cX4_tell 22 = .ok (.ireturn, 1) := by decide +kernel
theorem dX4_allLying_0 : decode cX4_allLying 0 = .ok (.iconst 0, 1) := by decide +kernel
theorem dX4_allLying_1 : decode cX4_allLying 1 = .ok (.istore_n 2, 1) := by decide +kernel
theorem dX4_allLying_2 : decode cX4_allLying 2 = .ok (.iconst 0, 1) := by decide +kernel
theorem dX4_allLying_3 : decode cX4_allLying 3 = .ok (.istore_n 3, 1) := by decide +kernel
theorem dX4_allLying_4 : decode cX4_allLying 4 = .ok (.iload_n 3, 1) := by decide +kernel
theorem dX4_allLying_5 : decode cX4_allLying 5 = .ok (.bipush 6, 2) := by decide +kernel
theorem dX4_allLying_7 : decode cX4_allLying 7 = .ok (.if_icmp .ge 18, 3) := by decide +kernel
theorem dX4_allLying_10 : decode cX4_allLying 10 = .ok (.iload_n 2, 1) := by decide +kernel
theorem dX4_allLying_11 : decode cX4_allLying 11 = .ok (.aload_n 0, 1) := by decide +kernel
theorem dX4_allLying_12 : decode cX4_allLying 12 = .ok (.iload_n 3, 1) := by decide +kernel
theorem dX4_allLying_13 : decode cX4_allLying 13 = .ok (.iload_n 1, 1) := by decide +kernel
theorem dX4_allLying_14 : decode cX4_allLying 14 = .ok (.invokevirtual 49, 3) := by decide +kernel
theorem dX4_allLying_17 : decode cX4_allLying 17 = .ok (.iadd, 1) := by decide +kernel
theorem dX4_allLying_18 : decode cX4_allLying 18 = .ok (.istore_n 2, 1) := by decide +kernel
theorem dX4_allLying_19 : decode cX4_allLying 19 = .ok (.iinc 3 1, 3) := by decide +kernel
theorem dX4_allLying_22 : decode cX4_allLying 22 = .ok (.goto (-18), 3) := by decide +kernel
theorem dX4_allLying_25 : decode cX4_allLying 25 = .ok (.iload_n 2, 1) := by decide +kernel
theorem dX4_allLying_26 : decode cX4_allLying 26 = .ok (.ireturn, 1) := by decide +kernel
theorem dX4_allPence_0 : decode cX4_allPence 0 = .ok (.iconst 0, 1) := by decide +kernel
theorem dX4_allPence_1 : decode cX4_allPence 1 = .ok (.istore_n 1, 1) := by decide +kernel
theorem dX4_allPence_2 : decode cX4_allPence 2 = .ok (.iconst 0, 1) := by decide +kernel
theorem dX4_allPence_3 : decode cX4_allPence 3 = .ok (.istore_n 2, 1) := by decide +kernel
theorem dX4_allPence_4 : decode cX4_allPence 4 = .ok (.iload_n 2, 1) := by decide +kernel
theorem dX4_allPence_5 : decode cX4_allPence 5 = .ok (.aload_n 0, 1) := by decide +kernel
theorem dX4_allPence_6 : decode cX4_allPence 6 = .ok (.getfield 21, 3) := by decide +kernel
theorem dX4_allPence_9 : decode cX4_allPence 9 = .ok (.if_icmp .ge 18, 3) := by decide +kernel
theorem dX4_allPence_12 : decode cX4_allPence 12 = .ok (.iload_n 1, 1) := by decide +kernel
theorem dX4_allPence_13 : decode cX4_allPence 13 = .ok (.aload_n 0, 1) := by decide +kernel
theorem dX4_allPence_14 : decode cX4_allPence 14 = .ok (.getfield 37, 3) := by decide +kernel
theorem dX4_allPence_17 : decode cX4_allPence 17 = .ok (.iload_n 2, 1) := by decide +kernel
theorem dX4_allPence_18 : decode cX4_allPence 18 = .ok (.iaload, 1) := by decide +kernel
theorem dX4_allPence_19 : decode cX4_allPence 19 = .ok (.iadd, 1) := by decide +kernel
theorem dX4_allPence_20 : decode cX4_allPence 20 = .ok (.istore_n 1, 1) := by decide +kernel
theorem dX4_allPence_21 : decode cX4_allPence 21 = .ok (.iinc 2 1, 3) := by decide +kernel
theorem dX4_allPence_24 : decode cX4_allPence 24 = .ok (.goto (-20), 3) := by decide +kernel
theorem dX4_allPence_27 : decode cX4_allPence 27 = .ok (.iload_n 1, 1) := by decide +kernel
theorem dX4_allPence_28 : decode cX4_allPence 28 = .ok (.ireturn, 1) := by decide +kernel
theorem dX4_thoseForLeft_0 : decode cX4_thoseForLeft 0 = .ok (.iconst 0, 1) := by decide +kernel
theorem dX4_thoseForLeft_1 : decode cX4_thoseForLeft 1 = .ok (.istore_n 1, 1) := by decide +kernel
theorem dX4_thoseForLeft_2 : decode cX4_thoseForLeft 2 = .ok (.iconst 0, 1) := by decide +kernel
theorem dX4_thoseForLeft_3 : decode cX4_thoseForLeft 3 = .ok (.istore_n 2, 1) := by decide +kernel
theorem dX4_thoseForLeft_4 : decode cX4_thoseForLeft 4 = .ok (.iload_n 2, 1) := by decide +kernel
theorem dX4_thoseForLeft_5 : decode cX4_thoseForLeft 5 = .ok (.aload_n 0, 1) := by decide +kernel
theorem dX4_thoseForLeft_6 : decode cX4_thoseForLeft 6 = .ok (.getfield 21, 3) := by decide +kernel
theorem dX4_thoseForLeft_9 : decode cX4_thoseForLeft 9 = .ok (.if_icmp .ge 36, 3) := by decide +kernel
theorem dX4_thoseForLeft_12 : decode cX4_thoseForLeft 12 = .ok (.aload_n 0, 1) := by decide +kernel
theorem dX4_thoseForLeft_13 : decode cX4_thoseForLeft 13 = .ok (.getfield 40, 3) := by decide +kernel
theorem dX4_thoseForLeft_16 : decode cX4_thoseForLeft 16 = .ok (.iload_n 2, 1) := by decide +kernel
theorem dX4_thoseForLeft_17 : decode cX4_thoseForLeft 17 = .ok (.iaload, 1) := by decide +kernel
theorem dX4_thoseForLeft_18 : decode cX4_thoseForLeft 18 = .ok (.ifCond .ne 21, 3) := by decide +kernel
theorem dX4_thoseForLeft_21 : decode cX4_thoseForLeft 21 = .ok (.aload_n 0, 1) := by decide +kernel
theorem dX4_thoseForLeft_22 : decode cX4_thoseForLeft 22 = .ok (.iload_n 2, 1) := by decide +kernel
theorem dX4_thoseForLeft_23 : decode cX4_thoseForLeft 23 = .ok (.aload_n 0, 1) := by decide +kernel
theorem dX4_thoseForLeft_24 : decode cX4_thoseForLeft 24 = .ok (.invokevirtual 53, 3) := by decide +kernel
theorem dX4_thoseForLeft_27 : decode cX4_thoseForLeft 27 = .ok (.invokevirtual 57, 3) := by decide +kernel
theorem dX4_thoseForLeft_30 : decode cX4_thoseForLeft 30 = .ok (.ifCond .ne 9, 3) := by decide +kernel
theorem dX4_thoseForLeft_33 : decode cX4_thoseForLeft 33 = .ok (.iload_n 1, 1) := by decide +kernel
theorem dX4_thoseForLeft_34 : decode cX4_thoseForLeft 34 = .ok (.iconst 1, 1) := by decide +kernel
theorem dX4_thoseForLeft_35 : decode cX4_thoseForLeft 35 = .ok (.iload_n 2, 1) := by decide +kernel
theorem dX4_thoseForLeft_36 : decode cX4_thoseForLeft 36 = .ok (.ishl, 1) := by decide +kernel
theorem dX4_thoseForLeft_37 : decode cX4_thoseForLeft 37 = .ok (.ior, 1) := by decide +kernel
theorem dX4_thoseForLeft_38 : decode cX4_thoseForLeft 38 = .ok (.istore_n 1, 1) := by decide +kernel
theorem dX4_thoseForLeft_39 : decode cX4_thoseForLeft 39 = .ok (.iinc 2 1, 3) := by decide +kernel
theorem dX4_thoseForLeft_42 : decode cX4_thoseForLeft 42 = .ok (.goto (-38), 3) := by decide +kernel
theorem dX4_thoseForLeft_45 : decode cX4_thoseForLeft 45 = .ok (.iload_n 1, 1) := by decide +kernel
theorem dX4_thoseForLeft_46 : decode cX4_thoseForLeft 46 = .ok (.ireturn, 1) := by decide +kernel
theorem dX4_sideOf_0 : decode cX4_sideOf 0 = .ok (.aload_n 0, 1) := by decide +kernel
theorem dX4_sideOf_1 : decode cX4_sideOf 1 = .ok (.getfield 31, 3) := by decide +kernel
theorem dX4_sideOf_4 : decode cX4_sideOf 4 = .ok (.iload_n 1, 1) := by decide +kernel
theorem dX4_sideOf_5 : decode cX4_sideOf 5 = .ok (.iaload, 1) := by decide +kernel
theorem dX4_sideOf_6 : decode cX4_sideOf 6 = .ok (.tableswitch 74 1 5 #[34, 41, 62, 69, 41], 34) := by decide +kernel
theorem dX4_sideOf_40 : decode cX4_sideOf 40 = .ok (.aload_n 0, 1) := by decide +kernel
theorem dX4_sideOf_41 : decode cX4_sideOf 41 = .ok (.iload_n 1, 1) := by decide +kernel
theorem dX4_sideOf_42 : decode cX4_sideOf 42 = .ok (.iload_n 2, 1) := by decide +kernel
theorem dX4_sideOf_43 : decode cX4_sideOf 43 = .ok (.invokevirtual 60, 3) := by decide +kernel
theorem dX4_sideOf_46 : decode cX4_sideOf 46 = .ok (.ireturn, 1) := by decide +kernel
theorem dX4_sideOf_47 : decode cX4_sideOf 47 = .ok (.aload_n 0, 1) := by decide +kernel
theorem dX4_sideOf_48 : decode cX4_sideOf 48 = .ok (.getfield 24, 3) := by decide +kernel
theorem dX4_sideOf_51 : decode cX4_sideOf 51 = .ok (.iload_n 2, 1) := by decide +kernel
theorem dX4_sideOf_52 : decode cX4_sideOf 52 = .ok (.iaload, 1) := by decide +kernel
theorem dX4_sideOf_53 : decode cX4_sideOf 53 = .ok (.aload_n 0, 1) := by decide +kernel
theorem dX4_sideOf_54 : decode cX4_sideOf 54 = .ok (.getfield 28, 3) := by decide +kernel
theorem dX4_sideOf_57 : decode cX4_sideOf 57 = .ok (.iload_n 2, 1) := by decide +kernel
theorem dX4_sideOf_58 : decode cX4_sideOf 58 = .ok (.iaload, 1) := by decide +kernel
theorem dX4_sideOf_59 : decode cX4_sideOf 59 = .ok (.if_icmp .gt 7, 3) := by decide +kernel
theorem dX4_sideOf_62 : decode cX4_sideOf 62 = .ok (.iconst 0, 1) := by decide +kernel
theorem dX4_sideOf_63 : decode cX4_sideOf 63 = .ok (.goto 4, 3) := by decide +kernel
theorem dX4_sideOf_66 : decode cX4_sideOf 66 = .ok (.iconst 1, 1) := by decide +kernel
theorem dX4_sideOf_67 : decode cX4_sideOf 67 = .ok (.ireturn, 1) := by decide +kernel
theorem dX4_sideOf_68 : decode cX4_sideOf 68 = .ok (.aload_n 0, 1) := by decide +kernel
theorem dX4_sideOf_69 : decode cX4_sideOf 69 = .ok (.getfield 9, 3) := by decide +kernel
theorem dX4_sideOf_72 : decode cX4_sideOf 72 = .ok (.iconst 2, 1) := by decide +kernel
theorem dX4_sideOf_73 : decode cX4_sideOf 73 = .ok (.irem, 1) := by decide +kernel
theorem dX4_sideOf_74 : decode cX4_sideOf 74 = .ok (.ireturn, 1) := by decide +kernel
theorem dX4_sideOf_75 : decode cX4_sideOf 75 = .ok (.aload_n 0, 1) := by decide +kernel
theorem dX4_sideOf_76 : decode cX4_sideOf 76 = .ok (.getfield 18, 3) := by decide +kernel
theorem dX4_sideOf_79 : decode cX4_sideOf 79 = .ok (.ireturn, 1) := by decide +kernel
theorem dX4_sideOf_80 : decode cX4_sideOf 80 = .ok (.aload_n 0, 1) := by decide +kernel
theorem dX4_sideOf_81 : decode cX4_sideOf 81 = .ok (.iload_n 1, 1) := by decide +kernel
theorem dX4_sideOf_82 : decode cX4_sideOf 82 = .ok (.iload_n 2, 1) := by decide +kernel
theorem dX4_sideOf_83 : decode cX4_sideOf 83 = .ok (.invokevirtual 63, 3) := by decide +kernel
theorem dX4_sideOf_86 : decode cX4_sideOf 86 = .ok (.ireturn, 1) := by decide +kernel
theorem dX4_throwerSide_0 : decode cX4_throwerSide 0 = .ok (.aload_n 0, 1) := by decide +kernel
theorem dX4_throwerSide_1 : decode cX4_throwerSide 1 = .ok (.getfield 34, 3) := by decide +kernel
theorem dX4_throwerSide_4 : decode cX4_throwerSide 4 = .ok (.iload_n 1, 1) := by decide +kernel
theorem dX4_throwerSide_5 : decode cX4_throwerSide 5 = .ok (.iaload, 1) := by decide +kernel
theorem dX4_throwerSide_6 : decode cX4_throwerSide 6 = .ok (.iload_n 2, 1) := by decide +kernel
theorem dX4_throwerSide_7 : decode cX4_throwerSide 7 = .ok (.ishr, 1) := by decide +kernel
theorem dX4_throwerSide_8 : decode cX4_throwerSide 8 = .ok (.iconst 1, 1) := by decide +kernel
theorem dX4_throwerSide_9 : decode cX4_throwerSide 9 = .ok (.iand, 1) := by decide +kernel
theorem dX4_throwerSide_10 : decode cX4_throwerSide 10 = .ok (.iconst 1, 1) := by decide +kernel
theorem dX4_throwerSide_11 : decode cX4_throwerSide 11 = .ok (.if_icmp .ne 7, 3) := by decide +kernel
theorem dX4_throwerSide_14 : decode cX4_throwerSide 14 = .ok (.iconst 0, 1) := by decide +kernel
theorem dX4_throwerSide_15 : decode cX4_throwerSide 15 = .ok (.goto 4, 3) := by decide +kernel
theorem dX4_throwerSide_18 : decode cX4_throwerSide 18 = .ok (.iconst 1, 1) := by decide +kernel
theorem dX4_throwerSide_19 : decode cX4_throwerSide 19 = .ok (.ireturn, 1) := by decide +kernel
theorem dX4_ladySide_0 : decode cX4_ladySide 0 = .ok (.aload_n 0, 1) := by decide +kernel
theorem dX4_ladySide_1 : decode cX4_ladySide 1 = .ok (.iload_n 1, 1) := by decide +kernel
theorem dX4_ladySide_2 : decode cX4_ladySide 2 = .ok (.iload_n 2, 1) := by decide +kernel
theorem dX4_ladySide_3 : decode cX4_ladySide 3 = .ok (.invokevirtual 63, 3) := by decide +kernel
theorem dX4_ladySide_6 : decode cX4_ladySide 6 = .ok (.istore_n 3, 1) := by decide +kernel
theorem dX4_ladySide_7 : decode cX4_ladySide 7 = .ok (.iconst 1, 1) := by decide +kernel
theorem dX4_ladySide_8 : decode cX4_ladySide 8 = .ok (.iload_n 3, 1) := by decide +kernel
theorem dX4_ladySide_9 : decode cX4_ladySide 9 = .ok (.isub, 1) := by decide +kernel
theorem dX4_ladySide_10 : decode cX4_ladySide 10 = .ok (.istore 4, 2) := by decide +kernel
theorem dX4_ladySide_12 : decode cX4_ladySide 12 = .ok (.aload_n 0, 1) := by decide +kernel
theorem dX4_ladySide_13 : decode cX4_ladySide 13 = .ok (.iload_n 2, 1) := by decide +kernel
theorem dX4_ladySide_14 : decode cX4_ladySide 14 = .ok (.iload_n 3, 1) := by decide +kernel
theorem dX4_ladySide_15 : decode cX4_ladySide 15 = .ok (.invokevirtual 49, 3) := by decide +kernel
theorem dX4_ladySide_18 : decode cX4_ladySide 18 = .ok (.aload_n 0, 1) := by decide +kernel
theorem dX4_ladySide_19 : decode cX4_ladySide 19 = .ok (.iload_n 2, 1) := by decide +kernel
theorem dX4_ladySide_20 : decode cX4_ladySide 20 = .ok (.iload 4, 2) := by decide +kernel
theorem dX4_ladySide_22 : decode cX4_ladySide 22 = .ok (.invokevirtual 49, 3) := by decide +kernel
theorem dX4_ladySide_25 : decode cX4_ladySide 25 = .ok (.isub, 1) := by decide +kernel
theorem dX4_ladySide_26 : decode cX4_ladySide 26 = .ok (.bipush 20, 2) := by decide +kernel
theorem dX4_ladySide_28 : decode cX4_ladySide 28 = .ok (.if_icmp .le 8, 3) := by decide +kernel
theorem dX4_ladySide_31 : decode cX4_ladySide 31 = .ok (.iload 4, 2) := by decide +kernel
theorem dX4_ladySide_33 : decode cX4_ladySide 33 = .ok (.goto 4, 3) := by decide +kernel
theorem dX4_ladySide_36 : decode cX4_ladySide 36 = .ok (.iload_n 3, 1) := by decide +kernel
theorem dX4_ladySide_37 : decode cX4_ladySide 37 = .ok (.ireturn, 1) := by decide +kernel
theorem dX4_throwsOf_0 : decode cX4_throwsOf 0 = .ok (.aload_n 0, 1) := by decide +kernel
theorem dX4_throwsOf_1 : decode cX4_throwsOf 1 = .ok (.getfield 31, 3) := by decide +kernel
theorem dX4_throwsOf_4 : decode cX4_throwsOf 4 = .ok (.iload_n 1, 1) := by decide +kernel
theorem dX4_throwsOf_5 : decode cX4_throwsOf 5 = .ok (.iaload, 1) := by decide +kernel
theorem dX4_throwsOf_6 : decode cX4_throwsOf 6 = .ok (.aload_n 0, 1) := by decide +kernel
theorem dX4_throwsOf_7 : decode cX4_throwsOf 7 = .ok (.getfield 37, 3) := by decide +kernel
theorem dX4_throwsOf_10 : decode cX4_throwsOf 10 = .ok (.iload_n 1, 1) := by decide +kernel
theorem dX4_throwsOf_11 : decode cX4_throwsOf 11 = .ok (.iaload, 1) := by decide +kernel
theorem dX4_throwsOf_12 : decode cX4_throwsOf 12 = .ok (.invokestatic 66, 3) := by decide +kernel
theorem dX4_throwsOf_15 : decode cX4_throwsOf 15 = .ok (.ireturn, 1) := by decide +kernel
theorem dX4_divesOf_0 : decode cX4_divesOf 0 = .ok (.aload_n 0, 1) := by decide +kernel
theorem dX4_divesOf_1 : decode cX4_divesOf 1 = .ok (.getfield 31, 3) := by decide +kernel
theorem dX4_divesOf_4 : decode cX4_divesOf 4 = .ok (.iload_n 1, 1) := by decide +kernel
theorem dX4_divesOf_5 : decode cX4_divesOf 5 = .ok (.iaload, 1) := by decide +kernel
theorem dX4_divesOf_6 : decode cX4_divesOf 6 = .ok (.aload_n 0, 1) := by decide +kernel
theorem dX4_divesOf_7 : decode cX4_divesOf 7 = .ok (.getfield 24, 3) := by decide +kernel
theorem dX4_divesOf_10 : decode cX4_divesOf 10 = .ok (.iload_n 2, 1) := by decide +kernel
theorem dX4_divesOf_11 : decode cX4_divesOf 11 = .ok (.iaload, 1) := by decide +kernel
theorem dX4_divesOf_12 : decode cX4_divesOf 12 = .ok (.aload_n 0, 1) := by decide +kernel
theorem dX4_divesOf_13 : decode cX4_divesOf 13 = .ok (.getfield 28, 3) := by decide +kernel
theorem dX4_divesOf_16 : decode cX4_divesOf 16 = .ok (.iload_n 2, 1) := by decide +kernel
theorem dX4_divesOf_17 : decode cX4_divesOf 17 = .ok (.iaload, 1) := by decide +kernel
theorem dX4_divesOf_18 : decode cX4_divesOf 18 = .ok (.invokestatic 71, 3) := by decide +kernel
theorem dX4_divesOf_21 : decode cX4_divesOf 21 = .ok (.ireturn, 1) := by decide +kernel
theorem dX4_goDays_0 : decode cX4_goDays 0 = .ok (.iconst 0, 1) := by decide +kernel
theorem dX4_goDays_1 : decode cX4_goDays 1 = .ok (.istore_n 2, 1) := by decide +kernel
theorem dX4_goDays_2 : decode cX4_goDays 2 = .ok (.iload_n 2, 1) := by decide +kernel
theorem dX4_goDays_3 : decode cX4_goDays 3 = .ok (.iload_n 1, 1) := by decide +kernel
theorem dX4_goDays_4 : decode cX4_goDays 4 = .ok (.if_icmp .ge 13, 3) := by decide +kernel
theorem dX4_goDays_7 : decode cX4_goDays 7 = .ok (.aload_n 0, 1) := by decide +kernel
theorem dX4_goDays_8 : decode cX4_goDays 8 = .ok (.invokevirtual 75, 3) := by decide +kernel
theorem dX4_goDays_11 : decode cX4_goDays 11 = .ok (.iinc 2 1, 3) := by decide +kernel
theorem dX4_goDays_14 : decode cX4_goDays 14 = .ok (.goto (-12), 3) := by decide +kernel
theorem dX4_goDays_17 : decode cX4_goDays 17 = .ok (.return_, 1) := by decide +kernel
theorem dX4_goDay_0 : decode cX4_goDay 0 = .ok (.aload_n 0, 1) := by decide +kernel
theorem dX4_goDay_1 : decode cX4_goDay 1 = .ok (.invokevirtual 53, 3) := by decide +kernel
theorem dX4_goDay_4 : decode cX4_goDay 4 = .ok (.istore_n 1, 1) := by decide +kernel
theorem dX4_goDay_5 : decode cX4_goDay 5 = .ok (.iconst 0, 1) := by decide +kernel
theorem dX4_goDay_6 : decode cX4_goDay 6 = .ok (.istore_n 2, 1) := by decide +kernel
theorem dX4_goDay_7 : decode cX4_goDay 7 = .ok (.iload_n 2, 1) := by decide +kernel
theorem dX4_goDay_8 : decode cX4_goDay 8 = .ok (.aload_n 0, 1) := by decide +kernel
theorem dX4_goDay_9 : decode cX4_goDay 9 = .ok (.getfield 21, 3) := by decide +kernel
theorem dX4_goDay_12 : decode cX4_goDay 12 = .ok (.if_icmp .ge 24, 3) := by decide +kernel
theorem dX4_goDay_15 : decode cX4_goDay 15 = .ok (.aload_n 0, 1) := by decide +kernel
theorem dX4_goDay_16 : decode cX4_goDay 16 = .ok (.getfield 40, 3) := by decide +kernel
theorem dX4_goDay_19 : decode cX4_goDay 19 = .ok (.iload_n 2, 1) := by decide +kernel
theorem dX4_goDay_20 : decode cX4_goDay 20 = .ok (.iaload, 1) := by decide +kernel
theorem dX4_goDay_21 : decode cX4_goDay 21 = .ok (.ifCond .ne 9, 3) := by decide +kernel
theorem dX4_goDay_24 : decode cX4_goDay 24 = .ok (.aload_n 0, 1) := by decide +kernel
theorem dX4_goDay_25 : decode cX4_goDay 25 = .ok (.iload_n 2, 1) := by decide +kernel
theorem dX4_goDay_26 : decode cX4_goDay 26 = .ok (.iload_n 1, 1) := by decide +kernel
theorem dX4_goDay_27 : decode cX4_goDay 27 = .ok (.invokevirtual 78, 3) := by decide +kernel
theorem dX4_goDay_30 : decode cX4_goDay 30 = .ok (.iinc 2 1, 3) := by decide +kernel
theorem dX4_goDay_33 : decode cX4_goDay 33 = .ok (.goto (-26), 3) := by decide +kernel
theorem dX4_goDay_36 : decode cX4_goDay 36 = .ok (.aload_n 0, 1) := by decide +kernel
theorem dX4_goDay_37 : decode cX4_goDay 37 = .ok (.iload_n 1, 1) := by decide +kernel
theorem dX4_goDay_38 : decode cX4_goDay 38 = .ok (.invokevirtual 82, 3) := by decide +kernel
theorem dX4_goDay_41 : decode cX4_goDay 41 = .ok (.aload_n 0, 1) := by decide +kernel
theorem dX4_goDay_42 : decode cX4_goDay 42 = .ok (.dup, 1) := by decide +kernel
theorem dX4_goDay_43 : decode cX4_goDay 43 = .ok (.getfield 9, 3) := by decide +kernel
theorem dX4_goDay_46 : decode cX4_goDay 46 = .ok (.iconst 1, 1) := by decide +kernel
theorem dX4_goDay_47 : decode cX4_goDay 47 = .ok (.iadd, 1) := by decide +kernel
theorem dX4_goDay_48 : decode cX4_goDay 48 = .ok (.putfield 9, 3) := by decide +kernel
theorem dX4_goDay_51 : decode cX4_goDay 51 = .ok (.return_, 1) := by decide +kernel
theorem dX4_visit_0 : decode cX4_visit 0 = .ok (.aload_n 0, 1) := by decide +kernel
theorem dX4_visit_1 : decode cX4_visit 1 = .ok (.getfield 37, 3) := by decide +kernel
theorem dX4_visit_4 : decode cX4_visit 4 = .ok (.iload_n 1, 1) := by decide +kernel
theorem dX4_visit_5 : decode cX4_visit 5 = .ok (.aload_n 0, 1) := by decide +kernel
theorem dX4_visit_6 : decode cX4_visit 6 = .ok (.getfield 37, 3) := by decide +kernel
theorem dX4_visit_9 : decode cX4_visit 9 = .ok (.iload_n 1, 1) := by decide +kernel
theorem dX4_visit_10 : decode cX4_visit 10 = .ok (.iaload, 1) := by decide +kernel
theorem dX4_visit_11 : decode cX4_visit 11 = .ok (.aload_n 0, 1) := by decide +kernel
theorem dX4_visit_12 : decode cX4_visit 12 = .ok (.getfield 31, 3) := by decide +kernel
theorem dX4_visit_15 : decode cX4_visit 15 = .ok (.iload_n 1, 1) := by decide +kernel
theorem dX4_visit_16 : decode cX4_visit 16 = .ok (.iaload, 1) := by decide +kernel
theorem dX4_visit_17 : decode cX4_visit 17 = .ok (.invokestatic 86, 3) := by decide +kernel
theorem dX4_visit_20 : decode cX4_visit 20 = .ok (.iadd, 1) := by decide +kernel
theorem dX4_visit_21 : decode cX4_visit 21 = .ok (.sipush 9999, 3) := by decide +kernel
theorem dX4_visit_24 : decode cX4_visit 24 = .ok (.invokestatic 90, 3) := by decide +kernel
theorem dX4_visit_27 : decode cX4_visit 27 = .ok (.iastore, 1) := by decide +kernel
theorem dX4_visit_28 : decode cX4_visit 28 = .ok (.aload_n 0, 1) := by decide +kernel
theorem dX4_visit_29 : decode cX4_visit 29 = .ok (.iload_n 1, 1) := by decide +kernel
theorem dX4_visit_30 : decode cX4_visit 30 = .ok (.invokevirtual 95, 3) := by decide +kernel
theorem dX4_visit_33 : decode cX4_visit 33 = .ok (.istore_n 3, 1) := by decide +kernel
theorem dX4_visit_34 : decode cX4_visit 34 = .ok (.aload_n 0, 1) := by decide +kernel
theorem dX4_visit_35 : decode cX4_visit 35 = .ok (.iload_n 1, 1) := by decide +kernel
theorem dX4_visit_36 : decode cX4_visit 36 = .ok (.iload_n 2, 1) := by decide +kernel
theorem dX4_visit_37 : decode cX4_visit 37 = .ok (.invokevirtual 57, 3) := by decide +kernel
theorem dX4_visit_40 : decode cX4_visit 40 = .ok (.istore 4, 2) := by decide +kernel
theorem dX4_visit_42 : decode cX4_visit 42 = .ok (.aload_n 0, 1) := by decide +kernel
theorem dX4_visit_43 : decode cX4_visit 43 = .ok (.iload_n 2, 1) := by decide +kernel
theorem dX4_visit_44 : decode cX4_visit 44 = .ok (.iload 4, 2) := by decide +kernel
theorem dX4_visit_46 : decode cX4_visit 46 = .ok (.aload_n 0, 1) := by decide +kernel
theorem dX4_visit_47 : decode cX4_visit 47 = .ok (.iload_n 2, 1) := by decide +kernel
theorem dX4_visit_48 : decode cX4_visit 48 = .ok (.iload 4, 2) := by decide +kernel
theorem dX4_visit_50 : decode cX4_visit 50 = .ok (.invokevirtual 49, 3) := by decide +kernel
theorem dX4_visit_53 : decode cX4_visit 53 = .ok (.iload_n 3, 1) := by decide +kernel
theorem dX4_visit_54 : decode cX4_visit 54 = .ok (.iadd, 1) := by decide +kernel
theorem dX4_visit_55 : decode cX4_visit 55 = .ok (.sipush 9999, 3) := by decide +kernel
theorem dX4_visit_58 : decode cX4_visit 58 = .ok (.invokestatic 90, 3) := by decide +kernel
theorem dX4_visit_61 : decode cX4_visit 61 = .ok (.invokevirtual 98, 3) := by decide +kernel
theorem dX4_visit_64 : decode cX4_visit 64 = .ok (.aload_n 0, 1) := by decide +kernel
theorem dX4_visit_65 : decode cX4_visit 65 = .ok (.getfield 37, 3) := by decide +kernel
theorem dX4_visit_68 : decode cX4_visit 68 = .ok (.iload_n 1, 1) := by decide +kernel
theorem dX4_visit_69 : decode cX4_visit 69 = .ok (.dup2, 1) := by decide +kernel
theorem dX4_visit_70 : decode cX4_visit 70 = .ok (.iaload, 1) := by decide +kernel
theorem dX4_visit_71 : decode cX4_visit 71 = .ok (.iload_n 3, 1) := by decide +kernel
theorem dX4_visit_72 : decode cX4_visit 72 = .ok (.isub, 1) := by decide +kernel
theorem dX4_visit_73 : decode cX4_visit 73 = .ok (.iastore, 1) := by decide +kernel
theorem dX4_visit_74 : decode cX4_visit 74 = .ok (.aload_n 0, 1) := by decide +kernel
theorem dX4_visit_75 : decode cX4_visit 75 = .ok (.iload_n 1, 1) := by decide +kernel
theorem dX4_visit_76 : decode cX4_visit 76 = .ok (.iload_n 2, 1) := by decide +kernel
theorem dX4_visit_77 : decode cX4_visit 77 = .ok (.invokevirtual 102, 3) := by decide +kernel
theorem dX4_visit_80 : decode cX4_visit 80 = .ok (.istore 5, 2) := by decide +kernel
theorem dX4_visit_82 : decode cX4_visit 82 = .ok (.aload_n 0, 1) := by decide +kernel
theorem dX4_visit_83 : decode cX4_visit 83 = .ok (.getfield 24, 3) := by decide +kernel
theorem dX4_visit_86 : decode cX4_visit 86 = .ok (.iload_n 2, 1) := by decide +kernel
theorem dX4_visit_87 : decode cX4_visit 87 = .ok (.iaload, 1) := by decide +kernel
theorem dX4_visit_88 : decode cX4_visit 88 = .ok (.aload_n 0, 1) := by decide +kernel
theorem dX4_visit_89 : decode cX4_visit 89 = .ok (.getfield 28, 3) := by decide +kernel
theorem dX4_visit_92 : decode cX4_visit 92 = .ok (.iload_n 2, 1) := by decide +kernel
theorem dX4_visit_93 : decode cX4_visit 93 = .ok (.iaload, 1) := by decide +kernel
theorem dX4_visit_94 : decode cX4_visit 94 = .ok (.if_icmp .lt 7, 3) := by decide +kernel
theorem dX4_visit_97 : decode cX4_visit 97 = .ok (.iconst 0, 1) := by decide +kernel
theorem dX4_visit_98 : decode cX4_visit 98 = .ok (.goto 4, 3) := by decide +kernel
theorem dX4_visit_101 : decode cX4_visit 101 = .ok (.iconst 1, 1) := by decide +kernel
theorem dX4_visit_102 : decode cX4_visit 102 = .ok (.istore 6, 2) := by decide +kernel
theorem dX4_visit_104 : decode cX4_visit 104 = .ok (.aload_n 0, 1) := by decide +kernel
theorem dX4_visit_105 : decode cX4_visit 105 = .ok (.iload_n 2, 1) := by decide +kernel
theorem dX4_visit_106 : decode cX4_visit 106 = .ok (.iload 6, 2) := by decide +kernel
theorem dX4_visit_108 : decode cX4_visit 108 = .ok (.aload_n 0, 1) := by decide +kernel
theorem dX4_visit_109 : decode cX4_visit 109 = .ok (.iload_n 2, 1) := by decide +kernel
theorem dX4_visit_110 : decode cX4_visit 110 = .ok (.iload 6, 2) := by decide +kernel
theorem dX4_visit_112 : decode cX4_visit 112 = .ok (.invokevirtual 49, 3) := by decide +kernel
theorem dX4_visit_115 : decode cX4_visit 115 = .ok (.iload 5, 2) := by decide +kernel
theorem dX4_visit_117 : decode cX4_visit 117 = .ok (.isub, 1) := by decide +kernel
theorem dX4_visit_118 : decode cX4_visit 118 = .ok (.invokevirtual 98, 3) := by decide +kernel
theorem dX4_visit_121 : decode cX4_visit 121 = .ok (.aload_n 0, 1) := by decide +kernel
theorem dX4_visit_122 : decode cX4_visit 122 = .ok (.getfield 37, 3) := by decide +kernel
theorem dX4_visit_125 : decode cX4_visit 125 = .ok (.iload_n 1, 1) := by decide +kernel
theorem dX4_visit_126 : decode cX4_visit 126 = .ok (.aload_n 0, 1) := by decide +kernel
theorem dX4_visit_127 : decode cX4_visit 127 = .ok (.getfield 37, 3) := by decide +kernel
theorem dX4_visit_130 : decode cX4_visit 130 = .ok (.iload_n 1, 1) := by decide +kernel
theorem dX4_visit_131 : decode cX4_visit 131 = .ok (.iaload, 1) := by decide +kernel
theorem dX4_visit_132 : decode cX4_visit 132 = .ok (.iload 5, 2) := by decide +kernel
theorem dX4_visit_134 : decode cX4_visit 134 = .ok (.iadd, 1) := by decide +kernel
theorem dX4_visit_135 : decode cX4_visit 135 = .ok (.sipush 9999, 3) := by decide +kernel
theorem dX4_visit_138 : decode cX4_visit 138 = .ok (.invokestatic 90, 3) := by decide +kernel
theorem dX4_visit_141 : decode cX4_visit 141 = .ok (.iastore, 1) := by decide +kernel
theorem dX4_visit_142 : decode cX4_visit 142 = .ok (.return_, 1) := by decide +kernel
theorem dX4_net_0 : decode cX4_net 0 = .ok (.aload_n 0, 1) := by decide +kernel
theorem dX4_net_1 : decode cX4_net 1 = .ok (.getfield 24, 3) := by decide +kernel
theorem dX4_net_4 : decode cX4_net 4 = .ok (.iload_n 1, 1) := by decide +kernel
theorem dX4_net_5 : decode cX4_net 5 = .ok (.iaload, 1) := by decide +kernel
theorem dX4_net_6 : decode cX4_net 6 = .ok (.aload_n 0, 1) := by decide +kernel
theorem dX4_net_7 : decode cX4_net 7 = .ok (.getfield 28, 3) := by decide +kernel
theorem dX4_net_10 : decode cX4_net 10 = .ok (.iload_n 1, 1) := by decide +kernel
theorem dX4_net_11 : decode cX4_net 11 = .ok (.iaload, 1) := by decide +kernel
theorem dX4_net_12 : decode cX4_net 12 = .ok (.if_icmp .le 18, 3) := by decide +kernel
theorem dX4_net_15 : decode cX4_net 15 = .ok (.aload_n 0, 1) := by decide +kernel
theorem dX4_net_16 : decode cX4_net 16 = .ok (.dup, 1) := by decide +kernel
theorem dX4_net_17 : decode cX4_net 17 = .ok (.getfield 15, 3) := by decide +kernel
theorem dX4_net_20 : decode cX4_net 20 = .ok (.iconst 1, 1) := by decide +kernel
theorem dX4_net_21 : decode cX4_net 21 = .ok (.iload_n 1, 1) := by decide +kernel
theorem dX4_net_22 : decode cX4_net 22 = .ok (.ishl, 1) := by decide +kernel
theorem dX4_net_23 : decode cX4_net 23 = .ok (.ior, 1) := by decide +kernel
theorem dX4_net_24 : decode cX4_net 24 = .ok (.putfield 15, 3) := by decide +kernel
theorem dX4_net_27 : decode cX4_net 27 = .ok (.goto 32, 3) := by decide +kernel
theorem dX4_net_30 : decode cX4_net 30 = .ok (.aload_n 0, 1) := by decide +kernel
theorem dX4_net_31 : decode cX4_net 31 = .ok (.getfield 24, 3) := by decide +kernel
theorem dX4_net_34 : decode cX4_net 34 = .ok (.iload_n 1, 1) := by decide +kernel
theorem dX4_net_35 : decode cX4_net 35 = .ok (.iaload, 1) := by decide +kernel
theorem dX4_net_36 : decode cX4_net 36 = .ok (.aload_n 0, 1) := by decide +kernel
theorem dX4_net_37 : decode cX4_net 37 = .ok (.getfield 28, 3) := by decide +kernel
theorem dX4_net_40 : decode cX4_net 40 = .ok (.iload_n 1, 1) := by decide +kernel
theorem dX4_net_41 : decode cX4_net 41 = .ok (.iaload, 1) := by decide +kernel
theorem dX4_net_42 : decode cX4_net 42 = .ok (.if_icmp .ge 17, 3) := by decide +kernel
theorem dX4_net_45 : decode cX4_net 45 = .ok (.aload_n 0, 1) := by decide +kernel
theorem dX4_net_46 : decode cX4_net 46 = .ok (.dup, 1) := by decide +kernel
theorem dX4_net_47 : decode cX4_net 47 = .ok (.getfield 15, 3) := by decide +kernel
theorem dX4_net_50 : decode cX4_net 50 = .ok (.iconst 1, 1) := by decide +kernel
theorem dX4_net_51 : decode cX4_net 51 = .ok (.iload_n 1, 1) := by decide +kernel
theorem dX4_net_52 : decode cX4_net 52 = .ok (.ishl, 1) := by decide +kernel
theorem dX4_net_53 : decode cX4_net 53 = .ok (.iconst (-1), 1) := by decide +kernel
theorem dX4_net_54 : decode cX4_net 54 = .ok (.ixor, 1) := by decide +kernel
theorem dX4_net_55 : decode cX4_net 55 = .ok (.iand, 1) := by decide +kernel
theorem dX4_net_56 : decode cX4_net 56 = .ok (.putfield 15, 3) := by decide +kernel
theorem dX4_net_59 : decode cX4_net 59 = .ok (.aload_n 0, 1) := by decide +kernel
theorem dX4_net_60 : decode cX4_net 60 = .ok (.getfield 24, 3) := by decide +kernel
theorem dX4_net_63 : decode cX4_net 63 = .ok (.iload_n 1, 1) := by decide +kernel
theorem dX4_net_64 : decode cX4_net 64 = .ok (.dup2, 1) := by decide +kernel
theorem dX4_net_65 : decode cX4_net 65 = .ok (.iaload, 1) := by decide +kernel
theorem dX4_net_66 : decode cX4_net 66 = .ok (.iconst 2, 1) := by decide +kernel
theorem dX4_net_67 : decode cX4_net 67 = .ok (.idiv, 1) := by decide +kernel
theorem dX4_net_68 : decode cX4_net 68 = .ok (.iastore, 1) := by decide +kernel
theorem dX4_net_69 : decode cX4_net 69 = .ok (.aload_n 0, 1) := by decide +kernel
theorem dX4_net_70 : decode cX4_net 70 = .ok (.getfield 28, 3) := by decide +kernel
theorem dX4_net_73 : decode cX4_net 73 = .ok (.iload_n 1, 1) := by decide +kernel
theorem dX4_net_74 : decode cX4_net 74 = .ok (.dup2, 1) := by decide +kernel
theorem dX4_net_75 : decode cX4_net 75 = .ok (.iaload, 1) := by decide +kernel
theorem dX4_net_76 : decode cX4_net 76 = .ok (.iconst 2, 1) := by decide +kernel
theorem dX4_net_77 : decode cX4_net 77 = .ok (.idiv, 1) := by decide +kernel
theorem dX4_net_78 : decode cX4_net 78 = .ok (.iastore, 1) := by decide +kernel
theorem dX4_net_79 : decode cX4_net 79 = .ok (.return_, 1) := by decide +kernel
end
section
theorem dX5_init_0 : decode cX5_init 0 = .ok (.aload_n 0, 1) := by decide +kernel
theorem dX5_init_1 : decode cX5_init 1 = .ok (.invokespecial 1, 3) := by decide +kernel
theorem dX5_init_4 : decode cX5_init 4 = .ok (.aload_n 0, 1) := by decide +kernel
theorem dX5_init_5 : decode cX5_init 5 = .ok (.new 7, 3) := by decide +kernel
theorem dX5_init_8 : decode cX5_init 8 = .ok (.dup, 1) := by decide +kernel
theorem dX5_init_9 : decode cX5_init 9 = .ok (.invokespecial 9, 3) := by decide +kernel
theorem dX5_init_12 : decode cX5_init 12 = .ok (.putfield 10, 3) := by decide +kernel
theorem dX5_init_15 : decode cX5_init 15 = .ok (.aload_n 0, 1) := by decide +kernel
theorem dX5_init_16 : decode cX5_init 16 = .ok (.new 7, 3) := by decide +kernel
theorem dX5_init_19 : decode cX5_init 19 = .ok (.dup, 1) := by decide +kernel
theorem dX5_init_20 : decode cX5_init 20 = .ok (.invokespecial 9, 3) := by decide +kernel
theorem dX5_init_23 : decode cX5_init 23 = .ok (.putfield 16, 3) := by decide +kernel
theorem dX5_init_26 : decode cX5_init 26 = .ok (.aload_n 0, 1) := by decide +kernel
theorem dX5_init_27 : decode cX5_init 27 = .ok (.new 7, 3) := by decide +kernel
theorem dX5_init_30 : decode cX5_init 30 = .ok (.dup, 1) := by decide +kernel
theorem dX5_init_31 : decode cX5_init 31 = .ok (.invokespecial 9, 3) := by decide +kernel
theorem dX5_init_34 : decode cX5_init 34 = .ok (.putfield 19, 3) := by decide +kernel
theorem dX5_init_37 : decode cX5_init 37 = .ok (.aload_n 0, 1) := by decide +kernel
theorem dX5_init_38 : decode cX5_init 38 = .ok (.iconst 0, 1) := by decide +kernel
theorem dX5_init_39 : decode cX5_init 39 = .ok (.putfield 22, 3) := by decide +kernel
theorem dX5_init_42 : decode cX5_init 42 = .ok (.aload_n 0, 1) := by decide +kernel
theorem dX5_init_43 : decode cX5_init 43 = .ok (.new 26, 3) := by decide +kernel
theorem dX5_init_46 : decode cX5_init 46 = .ok (.dup, 1) := by decide +kernel
theorem dX5_init_47 : decode cX5_init 47 = .ok (.invokespecial 28, 3) := by decide +kernel
theorem dX5_init_50 : decode cX5_init 50 = .ok (.putfield 29, 3) := by decide +kernel
theorem dX5_init_53 : decode cX5_init 53 = .ok (.aload_n 0, 1) := by decide +kernel
theorem dX5_init_54 : decode cX5_init 54 = .ok (.new 33, 3) := by decide +kernel
theorem dX5_init_57 : decode cX5_init 57 = .ok (.dup, 1) := by decide +kernel
theorem dX5_init_58 : decode cX5_init 58 = .ok (.aload_n 0, 1) := by decide +kernel
theorem dX5_init_59 : decode cX5_init 59 = .ok (.getfield 29, 3) := by decide +kernel
theorem dX5_init_62 : decode cX5_init 62 = .ok (.aload_n 0, 1) := by decide +kernel
theorem dX5_init_63 : decode cX5_init 63 = .ok (.getfield 16, 3) := by decide +kernel
theorem dX5_init_66 : decode cX5_init 66 = .ok (.invokespecial 35, 3) := by decide +kernel
theorem dX5_init_69 : decode cX5_init 69 = .ok (.putfield 38, 3) := by decide +kernel
theorem dX5_init_72 : decode cX5_init 72 = .ok (.aload_n 0, 1) := by decide +kernel
theorem dX5_init_73 : decode cX5_init 73 = .ok (.new 42, 3) := by decide +kernel
theorem dX5_init_76 : decode cX5_init 76 = .ok (.dup, 1) := by decide +kernel
theorem dX5_init_77 : decode cX5_init 77 = .ok (.invokespecial 44, 3) := by decide +kernel
theorem dX5_init_80 : decode cX5_init 80 = .ok (.putfield 45, 3) := by decide +kernel
theorem dX5_init_83 : decode cX5_init 83 = .ok (.aload_n 0, 1) := by decide +kernel
theorem dX5_init_84 : decode cX5_init 84 = .ok (.bipush 7, 2) := by decide +kernel
theorem dX5_init_86 : decode cX5_init 86 = .ok (.newarray .int, 2) := by decide +kernel
theorem dX5_init_88 : decode cX5_init 88 = .ok (.putfield 49, 3) := by decide +kernel
theorem dX5_init_91 : decode cX5_init 91 = .ok (.return_, 1) := by decide +kernel
theorem dX5_lies_0 : decode cX5_lies 0 = .ok (.iload_n 1, 1) := by decide +kernel
theorem dX5_lies_1 : decode cX5_lies 1 = .ok (.invokestatic 53, 3) := by decide +kernel
theorem dX5_lies_4 : decode cX5_lies 4 = .ok (.ifCond .eq 17, 3) := by decide +kernel
theorem dX5_lies_7 : decode cX5_lies 7 = .ok (.iload_n 2, 1) := by decide +kernel
theorem dX5_lies_8 : decode cX5_lies 8 = .ok (.invokestatic 57, 3) := by decide +kernel
theorem dX5_lies_11 : decode cX5_lies 11 = .ok (.ifCond .eq 10, 3) := by decide +kernel
theorem dX5_lies_14 : decode cX5_lies 14 = .ok (.iload_n 3, 1) := by decide +kernel
theorem dX5_lies_15 : decode cX5_lies 15 = .ok (.invokestatic 60, 3) := by decide +kernel
theorem dX5_lies_18 : decode cX5_lies 18 = .ok (.ifCond .ne 9, 3) := by decide +kernel
theorem dX5_lies_21 : decode cX5_lies 21 = .ok (.aload_n 0, 1) := by decide +kernel
theorem dX5_lies_22 : decode cX5_lies 22 = .ok (.iconst 0, 1) := by decide +kernel
theorem dX5_lies_23 : decode cX5_lies 23 = .ok (.invokevirtual 63, 3) := by decide +kernel
theorem dX5_lies_26 : decode cX5_lies 26 = .ok (.ireturn, 1) := by decide +kernel
theorem dX5_lies_27 : decode cX5_lies 27 = .ok (.aload_n 0, 1) := by decide +kernel
theorem dX5_lies_28 : decode cX5_lies 28 = .ok (.getfield 10, 3) := by decide +kernel
theorem dX5_lies_31 : decode cX5_lies 31 = .ok (.iload_n 1, 1) := by decide +kernel
theorem dX5_lies_32 : decode cX5_lies 32 = .ok (.iload_n 2, 1) := by decide +kernel
theorem dX5_lies_33 : decode cX5_lies 33 = .ok (.invokevirtual 67, 3) := by decide +kernel
theorem dX5_lies_36 : decode cX5_lies 36 = .ok (.istore 4, 2) := by decide +kernel
theorem dX5_lies_38 : decode cX5_lies 38 = .ok (.aload_n 0, 1) := by decide +kernel
theorem dX5_lies_39 : decode cX5_lies 39 = .ok (.getfield 10, 3) := by decide +kernel
theorem dX5_lies_42 : decode cX5_lies 42 = .ok (.iload_n 1, 1) := by decide +kernel
theorem dX5_lies_43 : decode cX5_lies 43 = .ok (.iload_n 2, 1) := by decide +kernel
theorem dX5_lies_44 : decode cX5_lies 44 = .ok (.iload_n 3, 1) := by decide +kernel
theorem dX5_lies_45 : decode cX5_lies 45 = .ok (.invokevirtual 71, 3) := by decide +kernel
theorem dX5_lies_48 : decode cX5_lies 48 = .ok (.iload 4, 2) := by decide +kernel
theorem dX5_lies_50 : decode cX5_lies 50 = .ok (.ireturn, 1) := by decide +kernel
theorem dX5_basin_0 : decode cX5_basin 0 = .ok (.iload_n 1, 1) := by decide +kernel
theorem dX5_basin_1 : decode cX5_basin 1 = .ok (.invokestatic 53, 3) := by decide +kernel
theorem dX5_basin_4 : decode cX5_basin 4 = .ok (.ifCond .eq 12, 3) := by decide +kernel
theorem dX5_basin_7 : decode cX5_basin 7 = .ok (.iload_n 2, 1) := by decide +kernel
theorem dX5_basin_8 : decode cX5_basin 8 = .ok (.iconst 0, 1) := by decide +kernel
theorem dX5_basin_9 : decode cX5_basin 9 = .ok (.iconst 2, 1) := by decide +kernel
theorem dX5_basin_10 : decode cX5_basin 10 = .ok (.invokestatic 75, 3) := by decide +kernel
theorem dX5_basin_13 : decode cX5_basin 13 = .ok (.ifCond .ne 9, 3) := by decide +kernel
theorem dX5_basin_16 : decode cX5_basin 16 = .ok (.aload_n 0, 1) := by decide +kernel
theorem dX5_basin_17 : decode cX5_basin 17 = .ok (.iconst 0, 1) := by decide +kernel
theorem dX5_basin_18 : decode cX5_basin 18 = .ok (.invokevirtual 63, 3) := by decide +kernel
theorem dX5_basin_21 : decode cX5_basin 21 = .ok (.ireturn, 1) := by decide +kernel
theorem dX5_basin_22 : decode cX5_basin 22 = .ok (.aload_n 0, 1) := by decide +kernel
theorem dX5_basin_23 : decode cX5_basin 23 = .ok (.getfield 10, 3) := by decide +kernel
theorem dX5_basin_26 : decode cX5_basin 26 = .ok (.iload_n 1, 1) := by decide +kernel
theorem dX5_basin_27 : decode cX5_basin 27 = .ok (.iload_n 2, 1) := by decide +kernel
theorem dX5_basin_28 : decode cX5_basin 28 = .ok (.invokevirtual 79, 3) := by decide +kernel
theorem dX5_basin_31 : decode cX5_basin 31 = .ok (.ireturn, 1) := by decide +kernel
theorem dX5_bribe_0 : decode cX5_bribe 0 = .ok (.iload_n 1, 1) := by decide +kernel
theorem dX5_bribe_1 : decode cX5_bribe 1 = .ok (.invokestatic 57, 3) := by decide +kernel
theorem dX5_bribe_4 : decode cX5_bribe 4 = .ok (.ifCond .ne 9, 3) := by decide +kernel
theorem dX5_bribe_7 : decode cX5_bribe 7 = .ok (.aload_n 0, 1) := by decide +kernel
theorem dX5_bribe_8 : decode cX5_bribe 8 = .ok (.iconst 0, 1) := by decide +kernel
theorem dX5_bribe_9 : decode cX5_bribe 9 = .ok (.invokevirtual 63, 3) := by decide +kernel
theorem dX5_bribe_12 : decode cX5_bribe 12 = .ok (.ireturn, 1) := by decide +kernel
theorem dX5_bribe_13 : decode cX5_bribe 13 = .ok (.aload_n 0, 1) := by decide +kernel
theorem dX5_bribe_14 : decode cX5_bribe 14 = .ok (.getfield 10, 3) := by decide +kernel
theorem dX5_bribe_17 : decode cX5_bribe 17 = .ok (.getfield 82, 3) := by decide +kernel
theorem dX5_bribe_20 : decode cX5_bribe 20 = .ok (.istore_n 2, 1) := by decide +kernel
theorem dX5_bribe_21 : decode cX5_bribe 21 = .ok (.aload_n 0, 1) := by decide +kernel
theorem dX5_bribe_22 : decode cX5_bribe 22 = .ok (.getfield 10, 3) := by decide +kernel
theorem dX5_bribe_25 : decode cX5_bribe 25 = .ok (.iload_n 1, 1) := by decide +kernel
theorem dX5_bribe_26 : decode cX5_bribe 26 = .ok (.putfield 82, 3) := by decide +kernel
theorem dX5_bribe_29 : decode cX5_bribe 29 = .ok (.iload_n 2, 1) := by decide +kernel
theorem dX5_bribe_30 : decode cX5_bribe 30 = .ok (.ireturn, 1) := by decide +kernel
theorem dX5_held_0 : decode cX5_held 0 = .ok (.iload_n 1, 1) := by decide +kernel
theorem dX5_held_1 : decode cX5_held 1 = .ok (.invokestatic 86, 3) := by decide +kernel
theorem dX5_held_4 : decode cX5_held 4 = .ok (.ifCond .ne 9, 3) := by decide +kernel
theorem dX5_held_7 : decode cX5_held 7 = .ok (.aload_n 0, 1) := by decide +kernel
theorem dX5_held_8 : decode cX5_held 8 = .ok (.iconst 0, 1) := by decide +kernel
theorem dX5_held_9 : decode cX5_held 9 = .ok (.invokevirtual 63, 3) := by decide +kernel
theorem dX5_held_12 : decode cX5_held 12 = .ok (.ireturn, 1) := by decide +kernel
theorem dX5_held_13 : decode cX5_held 13 = .ok (.aload_n 0, 1) := by decide +kernel
theorem dX5_held_14 : decode cX5_held 14 = .ok (.getfield 10, 3) := by decide +kernel
theorem dX5_held_17 : decode cX5_held 17 = .ok (.getfield 89, 3) := by decide +kernel
theorem dX5_held_20 : decode cX5_held 20 = .ok (.istore_n 2, 1) := by decide +kernel
theorem dX5_held_21 : decode cX5_held 21 = .ok (.aload_n 0, 1) := by decide +kernel
theorem dX5_held_22 : decode cX5_held 22 = .ok (.getfield 10, 3) := by decide +kernel
theorem dX5_held_25 : decode cX5_held 25 = .ok (.iload_n 1, 1) := by decide +kernel
theorem dX5_held_26 : decode cX5_held 26 = .ok (.putfield 89, 3) := by decide +kernel
theorem dX5_held_29 : decode cX5_held 29 = .ok (.iload_n 2, 1) := by decide +kernel
theorem dX5_held_30 : decode cX5_held 30 = .ok (.ireturn, 1) := by decide +kernel
theorem dX5_now_0 : decode cX5_now 0 = .ok (.iload_n 1, 1) := by decide +kernel
theorem dX5_now_1 : decode cX5_now 1 = .ok (.tableswitch 109 0 6 #[43, 51, 59, 67, 75, 83, 91], 43) := by decide +kernel
theorem dX5_now_44 : decode cX5_now 44 = .ok (.aload_n 0, 1) := by decide +kernel
theorem dX5_now_45 : decode cX5_now 45 = .ok (.getfield 10, 3) := by decide +kernel
theorem dX5_now_48 : decode cX5_now 48 = .ok (.getfield 92, 3) := by decide +kernel
theorem dX5_now_51 : decode cX5_now 51 = .ok (.ireturn, 1) := by decide +kernel
theorem dX5_now_52 : decode cX5_now 52 = .ok (.aload_n 0, 1) := by decide +kernel
theorem dX5_now_53 : decode cX5_now 53 = .ok (.getfield 10, 3) := by decide +kernel
theorem dX5_now_56 : decode cX5_now 56 = .ok (.invokevirtual 95, 3) := by decide +kernel
theorem dX5_now_59 : decode cX5_now 59 = .ok (.ireturn, 1) := by decide +kernel
theorem dX5_now_60 : decode cX5_now 60 = .ok (.aload_n 0, 1) := by decide +kernel
theorem dX5_now_61 : decode cX5_now 61 = .ok (.getfield 10, 3) := by decide +kernel
theorem dX5_now_64 : decode cX5_now 64 = .ok (.getfield 89, 3) := by decide +kernel
theorem dX5_now_67 : decode cX5_now 67 = .ok (.ireturn, 1) := by decide +kernel
theorem dX5_now_68 : decode cX5_now 68 = .ok (.aload_n 0, 1) := by decide +kernel
theorem dX5_now_69 : decode cX5_now 69 = .ok (.getfield 10, 3) := by decide +kernel
theorem dX5_now_72 : decode cX5_now 72 = .ok (.getfield 82, 3) := by decide +kernel
theorem dX5_now_75 : decode cX5_now 75 = .ok (.ireturn, 1) := by decide +kernel
theorem dX5_now_76 : decode cX5_now 76 = .ok (.aload_n 0, 1) := by decide +kernel
theorem dX5_now_77 : decode cX5_now 77 = .ok (.getfield 10, 3) := by decide +kernel
theorem dX5_now_80 : decode cX5_now 80 = .ok (.invokevirtual 99, 3) := by decide +kernel
theorem dX5_now_83 : decode cX5_now 83 = .ok (.ireturn, 1) := by decide +kernel
theorem dX5_now_84 : decode cX5_now 84 = .ok (.aload_n 0, 1) := by decide +kernel
theorem dX5_now_85 : decode cX5_now 85 = .ok (.getfield 10, 3) := by decide +kernel
theorem dX5_now_88 : decode cX5_now 88 = .ok (.invokevirtual 102, 3) := by decide +kernel
theorem dX5_now_91 : decode cX5_now 91 = .ok (.ireturn, 1) := by decide +kernel
theorem dX5_now_92 : decode cX5_now 92 = .ok (.aload_n 0, 1) := by decide +kernel
theorem dX5_now_93 : decode cX5_now 93 = .ok (.getfield 10, 3) := by decide +kernel
theorem dX5_now_96 : decode cX5_now 96 = .ok (.iconst 0, 1) := by decide +kernel
theorem dX5_now_97 : decode cX5_now 97 = .ok (.invokevirtual 105, 3) := by decide +kernel
theorem dX5_now_100 : decode cX5_now 100 = .ok (.aload_n 0, 1) := by decide +kernel
theorem dX5_now_101 : decode cX5_now 101 = .ok (.getfield 10, 3) := by decide +kernel
theorem dX5_now_104 : decode cX5_now 104 = .ok (.iconst 1, 1) := by decide +kernel
theorem dX5_now_105 : decode cX5_now 105 = .ok (.invokevirtual 105, 3) := by decide +kernel
theorem dX5_now_108 : decode cX5_now 108 = .ok (.iadd, 1) := by decide +kernel
theorem dX5_now_109 : decode cX5_now 109 = .ok (.ireturn, 1) := by decide +kernel
theorem dX5_now_110 : decode cX5_now 110 = .ok (.aload_n 0, 1) := by decide +kernel
theorem dX5_now_111 : decode cX5_now 111 = .ok (.iconst 0, 1) := by decide +kernel
theorem dX5_now_112 : decode cX5_now 112 = .ok (.invokevirtual 63, 3) := by decide +kernel
theorem dX5_now_115 : decode cX5_now 115 = .ok (.ireturn, 1) := by decide +kernel
theorem dX5_person_0 : decode cX5_person 0 = .ok (.iload_n 1, 1) := by decide +kernel
theorem dX5_person_1 : decode cX5_person 1 = .ok (.invokestatic 108, 3) := by decide +kernel
theorem dX5_person_4 : decode cX5_person 4 = .ok (.ifCond .ne 9, 3) := by decide +kernel
theorem dX5_person_7 : decode cX5_person 7 = .ok (.aload_n 0, 1) := by decide +kernel
theorem dX5_person_8 : decode cX5_person 8 = .ok (.iconst 0, 1) := by decide +kernel
theorem dX5_person_9 : decode cX5_person 9 = .ok (.invokevirtual 63, 3) := by decide +kernel
theorem dX5_person_12 : decode cX5_person 12 = .ok (.ireturn, 1) := by decide +kernel
theorem dX5_person_13 : decode cX5_person 13 = .ok (.aload_n 0, 1) := by decide +kernel
theorem dX5_person_14 : decode cX5_person 14 = .ok (.getfield 10, 3) := by decide +kernel
theorem dX5_person_17 : decode cX5_person 17 = .ok (.invokevirtual 111, 3) := by decide +kernel
theorem dX5_person_20 : decode cX5_person 20 = .ok (.ifCond .eq 9, 3) := by decide +kernel
theorem dX5_person_23 : decode cX5_person 23 = .ok (.aload_n 0, 1) := by decide +kernel
theorem dX5_person_24 : decode cX5_person 24 = .ok (.iconst 1, 1) := by decide +kernel
theorem dX5_person_25 : decode cX5_person 25 = .ok (.invokevirtual 63, 3) := by decide +kernel
theorem dX5_person_28 : decode cX5_person 28 = .ok (.ireturn, 1) := by decide +kernel
theorem dX5_person_29 : decode cX5_person 29 = .ok (.aload_n 0, 1) := by decide +kernel
theorem dX5_person_30 : decode cX5_person 30 = .ok (.getfield 10, 3) := by decide +kernel
theorem dX5_person_33 : decode cX5_person 33 = .ok (.iload_n 1, 1) := by decide +kernel
theorem dX5_person_34 : decode cX5_person 34 = .ok (.invokevirtual 115, 3) := by decide +kernel
theorem dX5_person_37 : decode cX5_person 37 = .ok (.ireturn, 1) := by decide +kernel
theorem dX5_of_0 : decode cX5_of 0 = .ok (.aload_n 0, 1) := by decide +kernel
theorem dX5_of_1 : decode cX5_of 1 = .ok (.iload_n 1, 1) := by decide +kernel
theorem dX5_of_2 : decode cX5_of 2 = .ok (.invokevirtual 118, 3) := by decide +kernel
theorem dX5_of_5 : decode cX5_of 5 = .ok (.ifCond .ne 9, 3) := by decide +kernel
theorem dX5_of_8 : decode cX5_of 8 = .ok (.aload_n 0, 1) := by decide +kernel
theorem dX5_of_9 : decode cX5_of 9 = .ok (.iconst 0, 1) := by decide +kernel
theorem dX5_of_10 : decode cX5_of 10 = .ok (.invokevirtual 63, 3) := by decide +kernel
theorem dX5_of_13 : decode cX5_of 13 = .ok (.ireturn, 1) := by decide +kernel
theorem dX5_of_14 : decode cX5_of 14 = .ok (.iload_n 2, 1) := by decide +kernel
theorem dX5_of_15 : decode cX5_of 15 = .ok (.tableswitch 99 0 5 #[37, 47, 57, 67, 77, 86], 37) := by decide +kernel
theorem dX5_of_52 : decode cX5_of 52 = .ok (.aload_n 0, 1) := by decide +kernel
theorem dX5_of_53 : decode cX5_of 53 = .ok (.getfield 10, 3) := by decide +kernel
theorem dX5_of_56 : decode cX5_of 56 = .ok (.getfield 121, 3) := by decide +kernel
theorem dX5_of_59 : decode cX5_of 59 = .ok (.iload_n 1, 1) := by decide +kernel
theorem dX5_of_60 : decode cX5_of 60 = .ok (.iaload, 1) := by decide +kernel
theorem dX5_of_61 : decode cX5_of 61 = .ok (.ireturn, 1) := by decide +kernel
theorem dX5_of_62 : decode cX5_of 62 = .ok (.aload_n 0, 1) := by decide +kernel
theorem dX5_of_63 : decode cX5_of 63 = .ok (.getfield 10, 3) := by decide +kernel
theorem dX5_of_66 : decode cX5_of 66 = .ok (.getfield 124, 3) := by decide +kernel
theorem dX5_of_69 : decode cX5_of 69 = .ok (.iload_n 1, 1) := by decide +kernel
theorem dX5_of_70 : decode cX5_of 70 = .ok (.iaload, 1) := by decide +kernel
theorem dX5_of_71 : decode cX5_of 71 = .ok (.ireturn, 1) := by decide +kernel
theorem dX5_of_72 : decode cX5_of 72 = .ok (.aload_n 0, 1) := by decide +kernel
theorem dX5_of_73 : decode cX5_of 73 = .ok (.getfield 10, 3) := by decide +kernel
theorem dX5_of_76 : decode cX5_of 76 = .ok (.getfield 127, 3) := by decide +kernel
theorem dX5_of_79 : decode cX5_of 79 = .ok (.iload_n 1, 1) := by decide +kernel
theorem dX5_of_80 : decode cX5_of 80 = .ok (.iaload, 1) := by decide +kernel
theorem dX5_of_81 : decode cX5_of 81 = .ok (.ireturn, 1) := by decide +kernel
theorem dX5_of_82 : decode cX5_of 82 = .ok (.aload_n 0, 1) := by decide +kernel
theorem dX5_of_83 : decode cX5_of 83 = .ok (.getfield 10, 3) := by decide +kernel
theorem dX5_of_86 : decode cX5_of 86 = .ok (.getfield 130, 3) := by decide +kernel
theorem dX5_of_89 : decode cX5_of 89 = .ok (.iload_n 1, 1) := by decide +kernel
theorem dX5_of_90 : decode cX5_of 90 = .ok (.iaload, 1) := by decide +kernel
theorem dX5_of_91 : decode cX5_of 91 = .ok (.ireturn, 1) := by decide +kernel
theorem dX5_of_92 : decode cX5_of 92 = .ok (.aload_n 0, 1) := by decide +kernel
theorem dX5_of_93 : decode cX5_of 93 = .ok (.getfield 10, 3) := by decide +kernel
theorem dX5_of_96 : decode cX5_of 96 = .ok (.iload_n 1, 1) := by decide +kernel
theorem dX5_of_97 : decode cX5_of 97 = .ok (.invokevirtual 133, 3) := by decide +kernel
theorem dX5_of_100 : decode cX5_of 100 = .ok (.ireturn, 1) := by decide +kernel
theorem dX5_of_101 : decode cX5_of 101 = .ok (.aload_n 0, 1) := by decide +kernel
theorem dX5_of_102 : decode cX5_of 102 = .ok (.getfield 10, 3) := by decide +kernel
theorem dX5_of_105 : decode cX5_of 105 = .ok (.getfield 121, 3) := by decide +kernel
theorem dX5_of_108 : decode cX5_of 108 = .ok (.iload_n 1, 1) := by decide +kernel
theorem dX5_of_109 : decode cX5_of 109 = .ok (.iaload, 1) := by decide +kernel
theorem dX5_of_110 : decode cX5_of 110 = .ok (.invokestatic 136, 3) := by decide +kernel
theorem dX5_of_113 : decode cX5_of 113 = .ok (.ireturn, 1) := by decide +kernel
theorem dX5_of_114 : decode cX5_of 114 = .ok (.aload_n 0, 1) := by decide +kernel
theorem dX5_of_115 : decode cX5_of 115 = .ok (.iconst 0, 1) := by decide +kernel
theorem dX5_of_116 : decode cX5_of 116 = .ok (.invokevirtual 63, 3) := by decide +kernel
theorem dX5_of_119 : decode cX5_of 119 = .ok (.ireturn, 1) := by decide +kernel
theorem dX5_acts_0 : decode cX5_acts 0 = .ok (.aload_n 0, 1) := by decide +kernel
theorem dX5_acts_1 : decode cX5_acts 1 = .ok (.iload_n 1, 1) := by decide +kernel
theorem dX5_acts_2 : decode cX5_acts 2 = .ok (.invokevirtual 118, 3) := by decide +kernel
theorem dX5_acts_5 : decode cX5_acts 5 = .ok (.ifCond .eq 19, 3) := by decide +kernel
theorem dX5_acts_8 : decode cX5_acts 8 = .ok (.iload_n 2, 1) := by decide +kernel
theorem dX5_acts_9 : decode cX5_acts 9 = .ok (.invokestatic 53, 3) := by decide +kernel
theorem dX5_acts_12 : decode cX5_acts 12 = .ok (.ifCond .eq 12, 3) := by decide +kernel
theorem dX5_acts_15 : decode cX5_acts 15 = .ok (.iload_n 3, 1) := by decide +kernel
theorem dX5_acts_16 : decode cX5_acts 16 = .ok (.iconst 0, 1) := by decide +kernel
theorem dX5_acts_17 : decode cX5_acts 17 = .ok (.iconst 1, 1) := by decide +kernel
theorem dX5_acts_18 : decode cX5_acts 18 = .ok (.invokestatic 75, 3) := by decide +kernel
theorem dX5_acts_21 : decode cX5_acts 21 = .ok (.ifCond .ne 9, 3) := by decide +kernel
theorem dX5_acts_24 : decode cX5_acts 24 = .ok (.aload_n 0, 1) := by decide +kernel
theorem dX5_acts_25 : decode cX5_acts 25 = .ok (.iconst 0, 1) := by decide +kernel
theorem dX5_acts_26 : decode cX5_acts 26 = .ok (.invokevirtual 63, 3) := by decide +kernel
theorem dX5_acts_29 : decode cX5_acts 29 = .ok (.ireturn, 1) := by decide +kernel
theorem dX5_acts_30 : decode cX5_acts 30 = .ok (.iload_n 3, 1) := by decide +kernel
theorem dX5_acts_31 : decode cX5_acts 31 = .ok (.ifCond .ne 15, 3) := by decide +kernel
theorem dX5_acts_34 : decode cX5_acts 34 = .ok (.aload_n 0, 1) := by decide +kernel
theorem dX5_acts_35 : decode cX5_acts 35 = .ok (.getfield 10, 3) := by decide +kernel
theorem dX5_acts_38 : decode cX5_acts 38 = .ok (.iload_n 1, 1) := by decide +kernel
theorem dX5_acts_39 : decode cX5_acts 39 = .ok (.iload_n 2, 1) := by decide +kernel
theorem dX5_acts_40 : decode cX5_acts 40 = .ok (.invokevirtual 141, 3) := by decide +kernel
theorem dX5_acts_43 : decode cX5_acts 43 = .ok (.goto 12, 3) := by decide +kernel
theorem dX5_acts_46 : decode cX5_acts 46 = .ok (.aload_n 0, 1) := by decide +kernel
theorem dX5_acts_47 : decode cX5_acts 47 = .ok (.getfield 10, 3) := by decide +kernel
theorem dX5_acts_50 : decode cX5_acts 50 = .ok (.iload_n 1, 1) := by decide +kernel
theorem dX5_acts_51 : decode cX5_acts 51 = .ok (.iload_n 2, 1) := by decide +kernel
theorem dX5_acts_52 : decode cX5_acts 52 = .ok (.invokevirtual 144, 3) := by decide +kernel
theorem dX5_acts_55 : decode cX5_acts 55 = .ok (.ireturn, 1) := by decide +kernel
theorem dX5_set_0 : decode cX5_set 0 = .ok (.aload_n 0, 1) := by decide +kernel
theorem dX5_set_1 : decode cX5_set 1 = .ok (.iload_n 1, 1) := by decide +kernel
theorem dX5_set_2 : decode cX5_set 2 = .ok (.invokevirtual 118, 3) := by decide +kernel
theorem dX5_set_5 : decode cX5_set 5 = .ok (.ifCond .ne 9, 3) := by decide +kernel
theorem dX5_set_8 : decode cX5_set 8 = .ok (.aload_n 0, 1) := by decide +kernel
theorem dX5_set_9 : decode cX5_set 9 = .ok (.iconst 0, 1) := by decide +kernel
theorem dX5_set_10 : decode cX5_set 10 = .ok (.invokevirtual 63, 3) := by decide +kernel
theorem dX5_set_13 : decode cX5_set 13 = .ok (.ireturn, 1) := by decide +kernel
theorem dX5_set_14 : decode cX5_set 14 = .ok (.iload_n 2, 1) := by decide +kernel
theorem dX5_set_15 : decode cX5_set 15 = .ok (.iconst 1, 1) := by decide +kernel
theorem dX5_set_16 : decode cX5_set 16 = .ok (.if_icmp .ne 23, 3) := by decide +kernel
theorem dX5_set_19 : decode cX5_set 19 = .ok (.iload_n 3, 1) := by decide +kernel
theorem dX5_set_20 : decode cX5_set 20 = .ok (.invokestatic 86, 3) := by decide +kernel
theorem dX5_set_23 : decode cX5_set 23 = .ok (.ifCond .eq 16, 3) := by decide +kernel
theorem dX5_set_26 : decode cX5_set 26 = .ok (.aload_n 0, 1) := by decide +kernel
theorem dX5_set_27 : decode cX5_set 27 = .ok (.getfield 10, 3) := by decide +kernel
theorem dX5_set_30 : decode cX5_set 30 = .ok (.getfield 124, 3) := by decide +kernel
theorem dX5_set_33 : decode cX5_set 33 = .ok (.iload_n 1, 1) := by decide +kernel
theorem dX5_set_34 : decode cX5_set 34 = .ok (.iload_n 3, 1) := by decide +kernel
theorem dX5_set_35 : decode cX5_set 35 = .ok (.invokestatic 147, 3) := by decide +kernel
theorem dX5_set_38 : decode cX5_set 38 = .ok (.ireturn, 1) := by decide +kernel
theorem dX5_set_39 : decode cX5_set 39 = .ok (.iload_n 2, 1) := by decide +kernel
theorem dX5_set_40 : decode cX5_set 40 = .ok (.iconst 2, 1) := by decide +kernel
theorem dX5_set_41 : decode cX5_set 41 = .ok (.if_icmp .ne 23, 3) := by decide +kernel
theorem dX5_set_44 : decode cX5_set 44 = .ok (.iload_n 3, 1) := by decide +kernel
theorem dX5_set_45 : decode cX5_set 45 = .ok (.invokestatic 60, 3) := by decide +kernel
theorem dX5_set_48 : decode cX5_set 48 = .ok (.ifCond .eq 16, 3) := by decide +kernel
theorem dX5_set_51 : decode cX5_set 51 = .ok (.aload_n 0, 1) := by decide +kernel
theorem dX5_set_52 : decode cX5_set 52 = .ok (.getfield 10, 3) := by decide +kernel
theorem dX5_set_55 : decode cX5_set 55 = .ok (.getfield 127, 3) := by decide +kernel
theorem dX5_set_58 : decode cX5_set 58 = .ok (.iload_n 1, 1) := by decide +kernel
theorem dX5_set_59 : decode cX5_set 59 = .ok (.iload_n 3, 1) := by decide +kernel
theorem dX5_set_60 : decode cX5_set 60 = .ok (.invokestatic 147, 3) := by decide +kernel
theorem dX5_set_63 : decode cX5_set 63 = .ok (.ireturn, 1) := by decide +kernel
theorem dX5_set_64 : decode cX5_set 64 = .ok (.iload_n 2, 1) := by decide +kernel
theorem dX5_set_65 : decode cX5_set 65 = .ok (.iconst 3, 1) := by decide +kernel
theorem dX5_set_66 : decode cX5_set 66 = .ok (.if_icmp .ne 25, 3) := by decide +kernel
theorem dX5_set_69 : decode cX5_set 69 = .ok (.iload_n 3, 1) := by decide +kernel
theorem dX5_set_70 : decode cX5_set 70 = .ok (.iconst 0, 1) := by decide +kernel
theorem dX5_set_71 : decode cX5_set 71 = .ok (.iconst 1, 1) := by decide +kernel
theorem dX5_set_72 : decode cX5_set 72 = .ok (.invokestatic 75, 3) := by decide +kernel
theorem dX5_set_75 : decode cX5_set 75 = .ok (.ifCond .eq 16, 3) := by decide +kernel
theorem dX5_set_78 : decode cX5_set 78 = .ok (.aload_n 0, 1) := by decide +kernel
theorem dX5_set_79 : decode cX5_set 79 = .ok (.getfield 10, 3) := by decide +kernel
theorem dX5_set_82 : decode cX5_set 82 = .ok (.getfield 130, 3) := by decide +kernel
theorem dX5_set_85 : decode cX5_set 85 = .ok (.iload_n 1, 1) := by decide +kernel
theorem dX5_set_86 : decode cX5_set 86 = .ok (.iload_n 3, 1) := by decide +kernel
theorem dX5_set_87 : decode cX5_set 87 = .ok (.invokestatic 147, 3) := by decide +kernel
theorem dX5_set_90 : decode cX5_set 90 = .ok (.ireturn, 1) := by decide +kernel
theorem dX5_set_91 : decode cX5_set 91 = .ok (.aload_n 0, 1) := by decide +kernel
theorem dX5_set_92 : decode cX5_set 92 = .ok (.iconst 0, 1) := by decide +kernel
theorem dX5_set_93 : decode cX5_set 93 = .ok (.invokevirtual 63, 3) := by decide +kernel
theorem dX5_set_96 : decode cX5_set 96 = .ok (.ireturn, 1) := by decide +kernel
theorem dX5_turn_0 : decode cX5_turn 0 = .ok (.aload_n 0, 1) := by decide +kernel
theorem dX5_turn_1 : decode cX5_turn 1 = .ok (.iload_n 1, 1) := by decide +kernel
theorem dX5_turn_2 : decode cX5_turn 2 = .ok (.invokevirtual 118, 3) := by decide +kernel
theorem dX5_turn_5 : decode cX5_turn 5 = .ok (.ifCond .eq 10, 3) := by decide +kernel
theorem dX5_turn_8 : decode cX5_turn 8 = .ok (.iload_n 2, 1) := by decide +kernel
theorem dX5_turn_9 : decode cX5_turn 9 = .ok (.invokestatic 108, 3) := by decide +kernel
theorem dX5_turn_12 : decode cX5_turn 12 = .ok (.ifCond .ne 9, 3) := by decide +kernel
theorem dX5_turn_15 : decode cX5_turn 15 = .ok (.aload_n 0, 1) := by decide +kernel
theorem dX5_turn_16 : decode cX5_turn 16 = .ok (.iconst 0, 1) := by decide +kernel
theorem dX5_turn_17 : decode cX5_turn 17 = .ok (.invokevirtual 63, 3) := by decide +kernel
theorem dX5_turn_20 : decode cX5_turn 20 = .ok (.ireturn, 1) := by decide +kernel
theorem dX5_turn_21 : decode cX5_turn 21 = .ok (.aload_n 0, 1) := by decide +kernel
theorem dX5_turn_22 : decode cX5_turn 22 = .ok (.getfield 10, 3) := by decide +kernel
theorem dX5_turn_25 : decode cX5_turn 25 = .ok (.getfield 121, 3) := by decide +kernel
theorem dX5_turn_28 : decode cX5_turn 28 = .ok (.iload_n 1, 1) := by decide +kernel
theorem dX5_turn_29 : decode cX5_turn 29 = .ok (.iload_n 2, 1) := by decide +kernel
theorem dX5_turn_30 : decode cX5_turn 30 = .ok (.invokestatic 147, 3) := by decide +kernel
theorem dX5_turn_33 : decode cX5_turn 33 = .ok (.ireturn, 1) := by decide +kernel
theorem dX5_as_0 : decode cX5_as 0 = .ok (.aload_n 0, 1) := by decide +kernel
theorem dX5_as_1 : decode cX5_as 1 = .ok (.iload_n 1, 1) := by decide +kernel
theorem dX5_as_2 : decode cX5_as 2 = .ok (.invokevirtual 118, 3) := by decide +kernel
theorem dX5_as_5 : decode cX5_as 5 = .ok (.ifCond .eq 10, 3) := by decide +kernel
theorem dX5_as_8 : decode cX5_as 8 = .ok (.iload_n 2, 1) := by decide +kernel
theorem dX5_as_9 : decode cX5_as 9 = .ok (.invokestatic 108, 3) := by decide +kernel
theorem dX5_as_12 : decode cX5_as 12 = .ok (.ifCond .ne 9, 3) := by decide +kernel
theorem dX5_as_15 : decode cX5_as 15 = .ok (.aload_n 0, 1) := by decide +kernel
theorem dX5_as_16 : decode cX5_as 16 = .ok (.iconst 0, 1) := by decide +kernel
theorem dX5_as_17 : decode cX5_as 17 = .ok (.invokevirtual 63, 3) := by decide +kernel
theorem dX5_as_20 : decode cX5_as 20 = .ok (.ireturn, 1) := by decide +kernel
theorem dX5_as_21 : decode cX5_as 21 = .ok (.aload_n 0, 1) := by decide +kernel
theorem dX5_as_22 : decode cX5_as 22 = .ok (.getfield 10, 3) := by decide +kernel
theorem dX5_as_25 : decode cX5_as 25 = .ok (.getfield 121, 3) := by decide +kernel
theorem dX5_as_28 : decode cX5_as 28 = .ok (.iload_n 1, 1) := by decide +kernel
theorem dX5_as_29 : decode cX5_as 29 = .ok (.iaload, 1) := by decide +kernel
theorem dX5_as_30 : decode cX5_as 30 = .ok (.iload_n 2, 1) := by decide +kernel
theorem dX5_as_31 : decode cX5_as 31 = .ok (.invokestatic 151, 3) := by decide +kernel
theorem dX5_as_34 : decode cX5_as 34 = .ok (.ifCond .ne 9, 3) := by decide +kernel
theorem dX5_as_37 : decode cX5_as 37 = .ok (.aload_n 0, 1) := by decide +kernel
theorem dX5_as_38 : decode cX5_as 38 = .ok (.iconst 2, 1) := by decide +kernel
theorem dX5_as_39 : decode cX5_as 39 = .ok (.invokevirtual 63, 3) := by decide +kernel
theorem dX5_as_42 : decode cX5_as 42 = .ok (.ireturn, 1) := by decide +kernel
theorem dX5_as_43 : decode cX5_as 43 = .ok (.aload_n 0, 1) := by decide +kernel
theorem dX5_as_44 : decode cX5_as 44 = .ok (.getfield 10, 3) := by decide +kernel
theorem dX5_as_47 : decode cX5_as 47 = .ok (.getfield 127, 3) := by decide +kernel
theorem dX5_as_50 : decode cX5_as 50 = .ok (.iload_n 1, 1) := by decide +kernel
theorem dX5_as_51 : decode cX5_as 51 = .ok (.iaload, 1) := by decide +kernel
theorem dX5_as_52 : decode cX5_as 52 = .ok (.ireturn, 1) := by decide +kernel
theorem dX5_days_0 : decode cX5_days 0 = .ok (.iload_n 1, 1) := by decide +kernel
theorem dX5_days_1 : decode cX5_days 1 = .ok (.iconst 1, 1) := by decide +kernel
theorem dX5_days_2 : decode cX5_days 2 = .ok (.bipush 100, 2) := by decide +kernel
theorem dX5_days_4 : decode cX5_days 4 = .ok (.invokestatic 75, 3) := by decide +kernel
theorem dX5_days_7 : decode cX5_days 7 = .ok (.ifCond .ne 9, 3) := by decide +kernel
theorem dX5_days_10 : decode cX5_days 10 = .ok (.aload_n 0, 1) := by decide +kernel
theorem dX5_days_11 : decode cX5_days 11 = .ok (.iconst 0, 1) := by decide +kernel
theorem dX5_days_12 : decode cX5_days 12 = .ok (.invokevirtual 63, 3) := by decide +kernel
theorem dX5_days_15 : decode cX5_days 15 = .ok (.ireturn, 1) := by decide +kernel
theorem dX5_days_16 : decode cX5_days 16 = .ok (.aload_n 0, 1) := by decide +kernel
theorem dX5_days_17 : decode cX5_days 17 = .ok (.getfield 10, 3) := by decide +kernel
theorem dX5_days_20 : decode cX5_days 20 = .ok (.getfield 92, 3) := by decide +kernel
theorem dX5_days_23 : decode cX5_days 23 = .ok (.iload_n 1, 1) := by decide +kernel
theorem dX5_days_24 : decode cX5_days 24 = .ok (.iadd, 1) := by decide +kernel
theorem dX5_days_25 : decode cX5_days 25 = .ok (.ldc 155, 2) := by decide +kernel
theorem dX5_days_27 : decode cX5_days 27 = .ok (.if_icmp .le 9, 3) := by decide +kernel
theorem dX5_days_30 : decode cX5_days 30 = .ok (.aload_n 0, 1) := by decide +kernel
theorem dX5_days_31 : decode cX5_days 31 = .ok (.iconst 4, 1) := by decide +kernel
theorem dX5_days_32 : decode cX5_days 32 = .ok (.invokevirtual 63, 3) := by decide +kernel
theorem dX5_days_35 : decode cX5_days 35 = .ok (.ireturn, 1) := by decide +kernel
theorem dX5_days_36 : decode cX5_days 36 = .ok (.aload_n 0, 1) := by decide +kernel
theorem dX5_days_37 : decode cX5_days 37 = .ok (.getfield 10, 3) := by decide +kernel
theorem dX5_days_40 : decode cX5_days 40 = .ok (.iload_n 1, 1) := by decide +kernel
theorem dX5_days_41 : decode cX5_days 41 = .ok (.invokevirtual 156, 3) := by decide +kernel
theorem dX5_days_44 : decode cX5_days 44 = .ok (.aload_n 0, 1) := by decide +kernel
theorem dX5_days_45 : decode cX5_days 45 = .ok (.getfield 10, 3) := by decide +kernel
theorem dX5_days_48 : decode cX5_days 48 = .ok (.getfield 89, 3) := by decide +kernel
theorem dX5_days_51 : decode cX5_days 51 = .ok (.ireturn, 1) := by decide +kernel
theorem dX5_on_0 : decode cX5_on 0 = .ok (.aload_n 0, 1) := by decide +kernel
theorem dX5_on_1 : decode cX5_on 1 = .ok (.iload_n 1, 1) := by decide +kernel
theorem dX5_on_2 : decode cX5_on 2 = .ok (.invokevirtual 118, 3) := by decide +kernel
theorem dX5_on_5 : decode cX5_on 5 = .ok (.ifCond .eq 14, 3) := by decide +kernel
theorem dX5_on_8 : decode cX5_on 8 = .ok (.iload_n 2, 1) := by decide +kernel
theorem dX5_on_9 : decode cX5_on 9 = .ok (.iconst 0, 1) := by decide +kernel
theorem dX5_on_10 : decode cX5_on 10 = .ok (.sipush 200, 3) := by decide +kernel
theorem dX5_on_13 : decode cX5_on 13 = .ok (.invokestatic 75, 3) := by decide +kernel
theorem dX5_on_16 : decode cX5_on 16 = .ok (.ifCond .ne 9, 3) := by decide +kernel
theorem dX5_on_19 : decode cX5_on 19 = .ok (.aload_n 0, 1) := by decide +kernel
theorem dX5_on_20 : decode cX5_on 20 = .ok (.iconst 0, 1) := by decide +kernel
theorem dX5_on_21 : decode cX5_on 21 = .ok (.invokevirtual 63, 3) := by decide +kernel
theorem dX5_on_24 : decode cX5_on 24 = .ok (.ireturn, 1) := by decide +kernel
theorem dX5_on_25 : decode cX5_on 25 = .ok (.aload_n 0, 1) := by decide +kernel
theorem dX5_on_26 : decode cX5_on 26 = .ok (.iload_n 2, 1) := by decide +kernel
theorem dX5_on_27 : decode cX5_on 27 = .ok (.invokevirtual 160, 3) := by decide +kernel
theorem dX5_on_30 : decode cX5_on 30 = .ok (.aload_n 0, 1) := by decide +kernel
theorem dX5_on_31 : decode cX5_on 31 = .ok (.getfield 16, 3) := by decide +kernel
theorem dX5_on_34 : decode cX5_on 34 = .ok (.getfield 127, 3) := by decide +kernel
theorem dX5_on_37 : decode cX5_on 37 = .ok (.iload_n 1, 1) := by decide +kernel
theorem dX5_on_38 : decode cX5_on 38 = .ok (.iaload, 1) := by decide +kernel
theorem dX5_on_39 : decode cX5_on 39 = .ok (.ireturn, 1) := by decide +kernel
theorem dX5_then_0 : decode cX5_then 0 = .ok (.iload_n 1, 1) := by decide +kernel
theorem dX5_then_1 : decode cX5_then 1 = .ok (.invokestatic 53, 3) := by decide +kernel
theorem dX5_then_4 : decode cX5_then 4 = .ok (.ifCond .eq 23, 3) := by decide +kernel
theorem dX5_then_7 : decode cX5_then 7 = .ok (.iload_n 2, 1) := by decide +kernel
theorem dX5_then_8 : decode cX5_then 8 = .ok (.iconst 0, 1) := by decide +kernel
theorem dX5_then_9 : decode cX5_then 9 = .ok (.sipush 200, 3) := by decide +kernel
theorem dX5_then_12 : decode cX5_then 12 = .ok (.invokestatic 75, 3) := by decide +kernel
theorem dX5_then_15 : decode cX5_then 15 = .ok (.ifCond .eq 12, 3) := by decide +kernel
theorem dX5_then_18 : decode cX5_then 18 = .ok (.iload_n 3, 1) := by decide +kernel
theorem dX5_then_19 : decode cX5_then 19 = .ok (.iconst 0, 1) := by decide +kernel
theorem dX5_then_20 : decode cX5_then 20 = .ok (.iconst 2, 1) := by decide +kernel
theorem dX5_then_21 : decode cX5_then 21 = .ok (.invokestatic 75, 3) := by decide +kernel
theorem dX5_then_24 : decode cX5_then 24 = .ok (.ifCond .ne 9, 3) := by decide +kernel
theorem dX5_then_27 : decode cX5_then 27 = .ok (.aload_n 0, 1) := by decide +kernel
theorem dX5_then_28 : decode cX5_then 28 = .ok (.iconst 0, 1) := by decide +kernel
theorem dX5_then_29 : decode cX5_then 29 = .ok (.invokevirtual 63, 3) := by decide +kernel
theorem dX5_then_32 : decode cX5_then 32 = .ok (.ireturn, 1) := by decide +kernel
theorem dX5_then_33 : decode cX5_then 33 = .ok (.aload_n 0, 1) := by decide +kernel
theorem dX5_then_34 : decode cX5_then 34 = .ok (.iload_n 2, 1) := by decide +kernel
theorem dX5_then_35 : decode cX5_then 35 = .ok (.invokevirtual 160, 3) := by decide +kernel
theorem dX5_then_38 : decode cX5_then 38 = .ok (.aload_n 0, 1) := by decide +kernel
theorem dX5_then_39 : decode cX5_then 39 = .ok (.getfield 16, 3) := by decide +kernel
theorem dX5_then_42 : decode cX5_then 42 = .ok (.iload_n 1, 1) := by decide +kernel
theorem dX5_then_43 : decode cX5_then 43 = .ok (.iload_n 3, 1) := by decide +kernel
theorem dX5_then_44 : decode cX5_then 44 = .ok (.invokevirtual 79, 3) := by decide +kernel
theorem dX5_then_47 : decode cX5_then 47 = .ok (.ireturn, 1) := by decide +kernel
theorem dX5_flips_0 : decode cX5_flips 0 = .ok (.iload_n 1, 1) := by decide +kernel
theorem dX5_flips_1 : decode cX5_flips 1 = .ok (.invokestatic 53, 3) := by decide +kernel
theorem dX5_flips_4 : decode cX5_flips 4 = .ok (.ifCond .ne 9, 3) := by decide +kernel
theorem dX5_flips_7 : decode cX5_flips 7 = .ok (.aload_n 0, 1) := by decide +kernel
theorem dX5_flips_8 : decode cX5_flips 8 = .ok (.iconst 0, 1) := by decide +kernel
theorem dX5_flips_9 : decode cX5_flips 9 = .ok (.invokevirtual 63, 3) := by decide +kernel
theorem dX5_flips_12 : decode cX5_flips 12 = .ok (.ireturn, 1) := by decide +kernel
theorem dX5_flips_13 : decode cX5_flips 13 = .ok (.aload_n 0, 1) := by decide +kernel
theorem dX5_flips_14 : decode cX5_flips 14 = .ok (.getfield 10, 3) := by decide +kernel
theorem dX5_flips_17 : decode cX5_flips 17 = .ok (.iload_n 1, 1) := by decide +kernel
theorem dX5_flips_18 : decode cX5_flips 18 = .ok (.iconst 2, 1) := by decide +kernel
theorem dX5_flips_19 : decode cX5_flips 19 = .ok (.invokevirtual 79, 3) := by decide +kernel
theorem dX5_flips_22 : decode cX5_flips 22 = .ok (.istore_n 2, 1) := by decide +kernel
theorem dX5_flips_23 : decode cX5_flips 23 = .ok (.aload_n 0, 1) := by decide +kernel
theorem dX5_flips_24 : decode cX5_flips 24 = .ok (.getfield 16, 3) := by decide +kernel
theorem dX5_flips_27 : decode cX5_flips 27 = .ok (.aload_n 0, 1) := by decide +kernel
theorem dX5_flips_28 : decode cX5_flips 28 = .ok (.getfield 10, 3) := by decide +kernel
theorem dX5_flips_31 : decode cX5_flips 31 = .ok (.invokevirtual 163, 3) := by decide +kernel
theorem dX5_flips_34 : decode cX5_flips 34 = .ok (.iconst 1, 1) := by decide +kernel
theorem dX5_flips_35 : decode cX5_flips 35 = .ok (.istore_n 3, 1) := by decide +kernel
theorem dX5_flips_36 : decode cX5_flips 36 = .ok (.iload_n 3, 1) := by decide +kernel
theorem dX5_flips_37 : decode cX5_flips 37 = .ok (.sipush 200, 3) := by decide +kernel
theorem dX5_flips_40 : decode cX5_flips 40 = .ok (.if_icmp .gt 31, 3) := by decide +kernel
theorem dX5_flips_43 : decode cX5_flips 43 = .ok (.aload_n 0, 1) := by decide +kernel
theorem dX5_flips_44 : decode cX5_flips 44 = .ok (.getfield 16, 3) := by decide +kernel
theorem dX5_flips_47 : decode cX5_flips 47 = .ok (.invokevirtual 167, 3) := by decide +kernel
theorem dX5_flips_50 : decode cX5_flips 50 = .ok (.aload_n 0, 1) := by decide +kernel
theorem dX5_flips_51 : decode cX5_flips 51 = .ok (.getfield 16, 3) := by decide +kernel
theorem dX5_flips_54 : decode cX5_flips 54 = .ok (.iload_n 1, 1) := by decide +kernel
theorem dX5_flips_55 : decode cX5_flips 55 = .ok (.iconst 2, 1) := by decide +kernel
theorem dX5_flips_56 : decode cX5_flips 56 = .ok (.invokevirtual 79, 3) := by decide +kernel
theorem dX5_flips_59 : decode cX5_flips 59 = .ok (.iload_n 2, 1) := by decide +kernel
theorem dX5_flips_60 : decode cX5_flips 60 = .ok (.if_icmp .eq 5, 3) := by decide +kernel
theorem dX5_flips_63 : decode cX5_flips 63 = .ok (.iload_n 3, 1) := by decide +kernel
theorem dX5_flips_64 : decode cX5_flips 64 = .ok (.ireturn, 1) := by decide +kernel
theorem dX5_flips_65 : decode cX5_flips 65 = .ok (.iinc 3 1, 3) := by decide +kernel
theorem dX5_flips_68 : decode cX5_flips 68 = .ok (.goto (-32), 3) := by decide +kernel
theorem dX5_flips_71 : decode cX5_flips 71 = .ok (.aload_n 0, 1) := by decide +kernel
theorem dX5_flips_72 : decode cX5_flips 72 = .ok (.iconst 3, 1) := by decide +kernel
theorem dX5_flips_73 : decode cX5_flips 73 = .ok (.invokevirtual 63, 3) := by decide +kernel
theorem dX5_flips_76 : decode cX5_flips 76 = .ok (.ireturn, 1) := by decide +kernel
theorem dX5_rich_0 : decode cX5_rich 0 = .ok (.aload_n 0, 1) := by decide +kernel
theorem dX5_rich_1 : decode cX5_rich 1 = .ok (.iload_n 1, 1) := by decide +kernel
theorem dX5_rich_2 : decode cX5_rich 2 = .ok (.invokevirtual 118, 3) := by decide +kernel
theorem dX5_rich_5 : decode cX5_rich 5 = .ok (.ifCond .eq 10, 3) := by decide +kernel
theorem dX5_rich_8 : decode cX5_rich 8 = .ok (.iload_n 2, 1) := by decide +kernel
theorem dX5_rich_9 : decode cX5_rich 9 = .ok (.invokestatic 60, 3) := by decide +kernel
theorem dX5_rich_12 : decode cX5_rich 12 = .ok (.ifCond .ne 9, 3) := by decide +kernel
theorem dX5_rich_15 : decode cX5_rich 15 = .ok (.aload_n 0, 1) := by decide +kernel
theorem dX5_rich_16 : decode cX5_rich 16 = .ok (.iconst 0, 1) := by decide +kernel
theorem dX5_rich_17 : decode cX5_rich 17 = .ok (.invokevirtual 63, 3) := by decide +kernel
theorem dX5_rich_20 : decode cX5_rich 20 = .ok (.ireturn, 1) := by decide +kernel
theorem dX5_rich_21 : decode cX5_rich 21 = .ok (.aload_n 0, 1) := by decide +kernel
theorem dX5_rich_22 : decode cX5_rich 22 = .ok (.getfield 16, 3) := by decide +kernel
theorem dX5_rich_25 : decode cX5_rich 25 = .ok (.aload_n 0, 1) := by decide +kernel
theorem dX5_rich_26 : decode cX5_rich 26 = .ok (.getfield 10, 3) := by decide +kernel
theorem dX5_rich_29 : decode cX5_rich 29 = .ok (.invokevirtual 163, 3) := by decide +kernel
theorem dX5_rich_32 : decode cX5_rich 32 = .ok (.iconst 0, 1) := by decide +kernel
theorem dX5_rich_33 : decode cX5_rich 33 = .ok (.istore_n 3, 1) := by decide +kernel
theorem dX5_rich_34 : decode cX5_rich 34 = .ok (.iload_n 3, 1) := by decide +kernel
theorem dX5_rich_35 : decode cX5_rich 35 = .ok (.sipush 200, 3) := by decide +kernel
theorem dX5_rich_38 : decode cX5_rich 38 = .ok (.if_icmp .gt 31, 3) := by decide +kernel
theorem dX5_rich_41 : decode cX5_rich 41 = .ok (.aload_n 0, 1) := by decide +kernel
theorem dX5_rich_42 : decode cX5_rich 42 = .ok (.getfield 16, 3) := by decide +kernel
theorem dX5_rich_45 : decode cX5_rich 45 = .ok (.getfield 127, 3) := by decide +kernel
theorem dX5_rich_48 : decode cX5_rich 48 = .ok (.iload_n 1, 1) := by decide +kernel
theorem dX5_rich_49 : decode cX5_rich 49 = .ok (.iaload, 1) := by decide +kernel
theorem dX5_rich_50 : decode cX5_rich 50 = .ok (.iload_n 2, 1) := by decide +kernel
theorem dX5_rich_51 : decode cX5_rich 51 = .ok (.if_icmp .lt 5, 3) := by decide +kernel
theorem dX5_rich_54 : decode cX5_rich 54 = .ok (.iload_n 3, 1) := by decide +kernel
theorem dX5_rich_55 : decode cX5_rich 55 = .ok (.ireturn, 1) := by decide +kernel
theorem dX5_rich_56 : decode cX5_rich 56 = .ok (.aload_n 0, 1) := by decide +kernel
theorem dX5_rich_57 : decode cX5_rich 57 = .ok (.getfield 16, 3) := by decide +kernel
theorem dX5_rich_60 : decode cX5_rich 60 = .ok (.invokevirtual 167, 3) := by decide +kernel
theorem dX5_rich_63 : decode cX5_rich 63 = .ok (.iinc 3 1, 3) := by decide +kernel
theorem dX5_rich_66 : decode cX5_rich 66 = .ok (.goto (-32), 3) := by decide +kernel
theorem dX5_rich_69 : decode cX5_rich 69 = .ok (.aload_n 0, 1) := by decide +kernel
theorem dX5_rich_70 : decode cX5_rich 70 = .ok (.iconst 3, 1) := by decide +kernel
theorem dX5_rich_71 : decode cX5_rich 71 = .ok (.invokevirtual 63, 3) := by decide +kernel
theorem dX5_rich_74 : decode cX5_rich 74 = .ok (.ireturn, 1) := by decide +kernel
theorem dX5_kind_0 : decode cX5_kind 0 = .ok (.aload_n 0, 1) := by decide +kernel
theorem dX5_kind_1 : decode cX5_kind 1 = .ok (.iload_n 1, 1) := by decide +kernel
theorem dX5_kind_2 : decode cX5_kind 2 = .ok (.invokevirtual 118, 3) := by decide +kernel
theorem dX5_kind_5 : decode cX5_kind 5 = .ok (.ifCond .eq 13, 3) := by decide +kernel
theorem dX5_kind_8 : decode cX5_kind 8 = .ok (.iload_n 2, 1) := by decide +kernel
theorem dX5_kind_9 : decode cX5_kind 9 = .ok (.iconst 1, 1) := by decide +kernel
theorem dX5_kind_10 : decode cX5_kind 10 = .ok (.bipush 60, 2) := by decide +kernel
theorem dX5_kind_12 : decode cX5_kind 12 = .ok (.invokestatic 75, 3) := by decide +kernel
theorem dX5_kind_15 : decode cX5_kind 15 = .ok (.ifCond .ne 9, 3) := by decide +kernel
theorem dX5_kind_18 : decode cX5_kind 18 = .ok (.aload_n 0, 1) := by decide +kernel
theorem dX5_kind_19 : decode cX5_kind 19 = .ok (.iconst 0, 1) := by decide +kernel
theorem dX5_kind_20 : decode cX5_kind 20 = .ok (.invokevirtual 63, 3) := by decide +kernel
theorem dX5_kind_23 : decode cX5_kind 23 = .ok (.ireturn, 1) := by decide +kernel
theorem dX5_kind_24 : decode cX5_kind 24 = .ok (.iconst 0, 1) := by decide +kernel
theorem dX5_kind_25 : decode cX5_kind 25 = .ok (.istore_n 3, 1) := by decide +kernel
theorem dX5_kind_26 : decode cX5_kind 26 = .ok (.iconst (-1), 1) := by decide +kernel
theorem dX5_kind_27 : decode cX5_kind 27 = .ok (.istore 4, 2) := by decide +kernel
theorem dX5_kind_29 : decode cX5_kind 29 = .ok (.iconst 0, 1) := by decide +kernel
theorem dX5_kind_30 : decode cX5_kind 30 = .ok (.istore 5, 2) := by decide +kernel
theorem dX5_kind_32 : decode cX5_kind 32 = .ok (.iload 5, 2) := by decide +kernel
theorem dX5_kind_34 : decode cX5_kind 34 = .ok (.bipush 6, 2) := by decide +kernel
theorem dX5_kind_36 : decode cX5_kind 36 = .ok (.if_icmp .ge 67, 3) := by decide +kernel
theorem dX5_kind_39 : decode cX5_kind 39 = .ok (.aload_n 0, 1) := by decide +kernel
theorem dX5_kind_40 : decode cX5_kind 40 = .ok (.getfield 16, 3) := by decide +kernel
theorem dX5_kind_43 : decode cX5_kind 43 = .ok (.aload_n 0, 1) := by decide +kernel
theorem dX5_kind_44 : decode cX5_kind 44 = .ok (.getfield 10, 3) := by decide +kernel
theorem dX5_kind_47 : decode cX5_kind 47 = .ok (.invokevirtual 163, 3) := by decide +kernel
theorem dX5_kind_50 : decode cX5_kind 50 = .ok (.aload_n 0, 1) := by decide +kernel
theorem dX5_kind_51 : decode cX5_kind 51 = .ok (.getfield 16, 3) := by decide +kernel
theorem dX5_kind_54 : decode cX5_kind 54 = .ok (.getfield 121, 3) := by decide +kernel
theorem dX5_kind_57 : decode cX5_kind 57 = .ok (.iload_n 1, 1) := by decide +kernel
theorem dX5_kind_58 : decode cX5_kind 58 = .ok (.iload 5, 2) := by decide +kernel
theorem dX5_kind_60 : decode cX5_kind 60 = .ok (.iastore, 1) := by decide +kernel
theorem dX5_kind_61 : decode cX5_kind 61 = .ok (.aload_n 0, 1) := by decide +kernel
theorem dX5_kind_62 : decode cX5_kind 62 = .ok (.getfield 16, 3) := by decide +kernel
theorem dX5_kind_65 : decode cX5_kind 65 = .ok (.iload_n 2, 1) := by decide +kernel
theorem dX5_kind_66 : decode cX5_kind 66 = .ok (.invokevirtual 156, 3) := by decide +kernel
theorem dX5_kind_69 : decode cX5_kind 69 = .ok (.aload_n 0, 1) := by decide +kernel
theorem dX5_kind_70 : decode cX5_kind 70 = .ok (.getfield 16, 3) := by decide +kernel
theorem dX5_kind_73 : decode cX5_kind 73 = .ok (.getfield 127, 3) := by decide +kernel
theorem dX5_kind_76 : decode cX5_kind 76 = .ok (.iload_n 1, 1) := by decide +kernel
theorem dX5_kind_77 : decode cX5_kind 77 = .ok (.iaload, 1) := by decide +kernel
theorem dX5_kind_78 : decode cX5_kind 78 = .ok (.iload 4, 2) := by decide +kernel
theorem dX5_kind_80 : decode cX5_kind 80 = .ok (.if_icmp .le 17, 3) := by decide +kernel
theorem dX5_kind_83 : decode cX5_kind 83 = .ok (.aload_n 0, 1) := by decide +kernel
theorem dX5_kind_84 : decode cX5_kind 84 = .ok (.getfield 16, 3) := by decide +kernel
theorem dX5_kind_87 : decode cX5_kind 87 = .ok (.getfield 127, 3) := by decide +kernel
theorem dX5_kind_90 : decode cX5_kind 90 = .ok (.iload_n 1, 1) := by decide +kernel
theorem dX5_kind_91 : decode cX5_kind 91 = .ok (.iaload, 1) := by decide +kernel
theorem dX5_kind_92 : decode cX5_kind 92 = .ok (.istore 4, 2) := by decide +kernel
theorem dX5_kind_94 : decode cX5_kind 94 = .ok (.iload 5, 2) := by decide +kernel
theorem dX5_kind_96 : decode cX5_kind 96 = .ok (.istore_n 3, 1) := by decide +kernel
theorem dX5_kind_97 : decode cX5_kind 97 = .ok (.iinc 5 1, 3) := by decide +kernel
theorem dX5_kind_100 : decode cX5_kind 100 = .ok (.goto (-68), 3) := by decide +kernel
theorem dX5_kind_103 : decode cX5_kind 103 = .ok (.iload_n 3, 1) := by decide +kernel
theorem dX5_kind_104 : decode cX5_kind 104 = .ok (.ireturn, 1) := by decide +kernel
theorem dX5_lean_0 : decode cX5_lean 0 = .ok (.aload_n 0, 1) := by decide +kernel
theorem dX5_lean_1 : decode cX5_lean 1 = .ok (.iload_n 1, 1) := by decide +kernel
theorem dX5_lean_2 : decode cX5_lean 2 = .ok (.invokevirtual 118, 3) := by decide +kernel
theorem dX5_lean_5 : decode cX5_lean 5 = .ok (.ifCond .eq 13, 3) := by decide +kernel
theorem dX5_lean_8 : decode cX5_lean 8 = .ok (.iload_n 2, 1) := by decide +kernel
theorem dX5_lean_9 : decode cX5_lean 9 = .ok (.iconst 1, 1) := by decide +kernel
theorem dX5_lean_10 : decode cX5_lean 10 = .ok (.bipush 40, 2) := by decide +kernel
theorem dX5_lean_12 : decode cX5_lean 12 = .ok (.invokestatic 75, 3) := by decide +kernel
theorem dX5_lean_15 : decode cX5_lean 15 = .ok (.ifCond .ne 9, 3) := by decide +kernel
theorem dX5_lean_18 : decode cX5_lean 18 = .ok (.aload_n 0, 1) := by decide +kernel
theorem dX5_lean_19 : decode cX5_lean 19 = .ok (.iconst 0, 1) := by decide +kernel
theorem dX5_lean_20 : decode cX5_lean 20 = .ok (.invokevirtual 63, 3) := by decide +kernel
theorem dX5_lean_23 : decode cX5_lean 23 = .ok (.ireturn, 1) := by decide +kernel
theorem dX5_lean_24 : decode cX5_lean 24 = .ok (.iconst 0, 1) := by decide +kernel
theorem dX5_lean_25 : decode cX5_lean 25 = .ok (.istore_n 3, 1) := by decide +kernel
theorem dX5_lean_26 : decode cX5_lean 26 = .ok (.iconst (-1), 1) := by decide +kernel
theorem dX5_lean_27 : decode cX5_lean 27 = .ok (.istore 4, 2) := by decide +kernel
theorem dX5_lean_29 : decode cX5_lean 29 = .ok (.iconst 0, 1) := by decide +kernel
theorem dX5_lean_30 : decode cX5_lean 30 = .ok (.istore 5, 2) := by decide +kernel
theorem dX5_lean_32 : decode cX5_lean 32 = .ok (.iload 5, 2) := by decide +kernel
theorem dX5_lean_34 : decode cX5_lean 34 = .ok (.bipush 63, 2) := by decide +kernel
theorem dX5_lean_36 : decode cX5_lean 36 = .ok (.if_icmp .gt 73, 3) := by decide +kernel
theorem dX5_lean_39 : decode cX5_lean 39 = .ok (.aload_n 0, 1) := by decide +kernel
theorem dX5_lean_40 : decode cX5_lean 40 = .ok (.getfield 16, 3) := by decide +kernel
theorem dX5_lean_43 : decode cX5_lean 43 = .ok (.aload_n 0, 1) := by decide +kernel
theorem dX5_lean_44 : decode cX5_lean 44 = .ok (.getfield 10, 3) := by decide +kernel
theorem dX5_lean_47 : decode cX5_lean 47 = .ok (.invokevirtual 163, 3) := by decide +kernel
theorem dX5_lean_50 : decode cX5_lean 50 = .ok (.aload_n 0, 1) := by decide +kernel
theorem dX5_lean_51 : decode cX5_lean 51 = .ok (.getfield 16, 3) := by decide +kernel
theorem dX5_lean_54 : decode cX5_lean 54 = .ok (.getfield 124, 3) := by decide +kernel
theorem dX5_lean_57 : decode cX5_lean 57 = .ok (.iload_n 1, 1) := by decide +kernel
theorem dX5_lean_58 : decode cX5_lean 58 = .ok (.iload 5, 2) := by decide +kernel
theorem dX5_lean_60 : decode cX5_lean 60 = .ok (.iastore, 1) := by decide +kernel
theorem dX5_lean_61 : decode cX5_lean 61 = .ok (.aload_n 0, 1) := by decide +kernel
theorem dX5_lean_62 : decode cX5_lean 62 = .ok (.getfield 16, 3) := by decide +kernel
theorem dX5_lean_65 : decode cX5_lean 65 = .ok (.iload_n 2, 1) := by decide +kernel
theorem dX5_lean_66 : decode cX5_lean 66 = .ok (.invokevirtual 156, 3) := by decide +kernel
theorem dX5_lean_69 : decode cX5_lean 69 = .ok (.aload_n 0, 1) := by decide +kernel
theorem dX5_lean_70 : decode cX5_lean 70 = .ok (.getfield 16, 3) := by decide +kernel
theorem dX5_lean_73 : decode cX5_lean 73 = .ok (.getfield 89, 3) := by decide +kernel
theorem dX5_lean_76 : decode cX5_lean 76 = .ok (.aload_n 0, 1) := by decide +kernel
theorem dX5_lean_77 : decode cX5_lean 77 = .ok (.getfield 10, 3) := by decide +kernel
theorem dX5_lean_80 : decode cX5_lean 80 = .ok (.getfield 89, 3) := by decide +kernel
theorem dX5_lean_83 : decode cX5_lean 83 = .ok (.ixor, 1) := by decide +kernel
theorem dX5_lean_84 : decode cX5_lean 84 = .ok (.invokestatic 170, 3) := by decide +kernel
theorem dX5_lean_87 : decode cX5_lean 87 = .ok (.istore 6, 2) := by decide +kernel
theorem dX5_lean_89 : decode cX5_lean 89 = .ok (.iload 6, 2) := by decide +kernel
theorem dX5_lean_91 : decode cX5_lean 91 = .ok (.iload 4, 2) := by decide +kernel
theorem dX5_lean_93 : decode cX5_lean 93 = .ok (.if_icmp .le 10, 3) := by decide +kernel
theorem dX5_lean_96 : decode cX5_lean 96 = .ok (.iload 6, 2) := by decide +kernel
theorem dX5_lean_98 : decode cX5_lean 98 = .ok (.istore 4, 2) := by decide +kernel
theorem dX5_lean_100 : decode cX5_lean 100 = .ok (.iload 5, 2) := by decide +kernel
theorem dX5_lean_102 : decode cX5_lean 102 = .ok (.istore_n 3, 1) := by decide +kernel
theorem dX5_lean_103 : decode cX5_lean 103 = .ok (.iinc 5 1, 3) := by decide +kernel
theorem dX5_lean_106 : decode cX5_lean 106 = .ok (.goto (-74), 3) := by decide +kernel
theorem dX5_lean_109 : decode cX5_lean 109 = .ok (.iload_n 3, 1) := by decide +kernel
theorem dX5_lean_110 : decode cX5_lean 110 = .ok (.ireturn, 1) := by decide +kernel
theorem dX5_buys_0 : decode cX5_buys 0 = .ok (.aload_n 0, 1) := by decide +kernel
theorem dX5_buys_1 : decode cX5_buys 1 = .ok (.iload_n 1, 1) := by decide +kernel
theorem dX5_buys_2 : decode cX5_buys 2 = .ok (.invokevirtual 118, 3) := by decide +kernel
theorem dX5_buys_5 : decode cX5_buys 5 = .ok (.ifCond .eq 20, 3) := by decide +kernel
theorem dX5_buys_8 : decode cX5_buys 8 = .ok (.iload_n 2, 1) := by decide +kernel
theorem dX5_buys_9 : decode cX5_buys 9 = .ok (.invokestatic 53, 3) := by decide +kernel
theorem dX5_buys_12 : decode cX5_buys 12 = .ok (.ifCond .eq 13, 3) := by decide +kernel
theorem dX5_buys_15 : decode cX5_buys 15 = .ok (.iload_n 3, 1) := by decide +kernel
theorem dX5_buys_16 : decode cX5_buys 16 = .ok (.iconst 1, 1) := by decide +kernel
theorem dX5_buys_17 : decode cX5_buys 17 = .ok (.bipush 60, 2) := by decide +kernel
theorem dX5_buys_19 : decode cX5_buys 19 = .ok (.invokestatic 75, 3) := by decide +kernel
theorem dX5_buys_22 : decode cX5_buys 22 = .ok (.ifCond .ne 9, 3) := by decide +kernel
theorem dX5_buys_25 : decode cX5_buys 25 = .ok (.aload_n 0, 1) := by decide +kernel
theorem dX5_buys_26 : decode cX5_buys 26 = .ok (.iconst 0, 1) := by decide +kernel
theorem dX5_buys_27 : decode cX5_buys 27 = .ok (.invokevirtual 63, 3) := by decide +kernel
theorem dX5_buys_30 : decode cX5_buys 30 = .ok (.ireturn, 1) := by decide +kernel
theorem dX5_buys_31 : decode cX5_buys 31 = .ok (.aload_n 0, 1) := by decide +kernel
theorem dX5_buys_32 : decode cX5_buys 32 = .ok (.getfield 10, 3) := by decide +kernel
theorem dX5_buys_35 : decode cX5_buys 35 = .ok (.iload_n 2, 1) := by decide +kernel
theorem dX5_buys_36 : decode cX5_buys 36 = .ok (.iconst 2, 1) := by decide +kernel
theorem dX5_buys_37 : decode cX5_buys 37 = .ok (.invokevirtual 79, 3) := by decide +kernel
theorem dX5_buys_40 : decode cX5_buys 40 = .ok (.istore 4, 2) := by decide +kernel
theorem dX5_buys_42 : decode cX5_buys 42 = .ok (.iconst 0, 1) := by decide +kernel
theorem dX5_buys_43 : decode cX5_buys 43 = .ok (.istore 5, 2) := by decide +kernel
theorem dX5_buys_45 : decode cX5_buys 45 = .ok (.iload 5, 2) := by decide +kernel
theorem dX5_buys_47 : decode cX5_buys 47 = .ok (.sipush 1000, 3) := by decide +kernel
theorem dX5_buys_50 : decode cX5_buys 50 = .ok (.if_icmp .gt 56, 3) := by decide +kernel
theorem dX5_buys_53 : decode cX5_buys 53 = .ok (.aload_n 0, 1) := by decide +kernel
theorem dX5_buys_54 : decode cX5_buys 54 = .ok (.getfield 16, 3) := by decide +kernel
theorem dX5_buys_57 : decode cX5_buys 57 = .ok (.aload_n 0, 1) := by decide +kernel
theorem dX5_buys_58 : decode cX5_buys 58 = .ok (.getfield 10, 3) := by decide +kernel
theorem dX5_buys_61 : decode cX5_buys 61 = .ok (.invokevirtual 163, 3) := by decide +kernel
theorem dX5_buys_64 : decode cX5_buys 64 = .ok (.aload_n 0, 1) := by decide +kernel
theorem dX5_buys_65 : decode cX5_buys 65 = .ok (.getfield 16, 3) := by decide +kernel
theorem dX5_buys_68 : decode cX5_buys 68 = .ok (.getfield 127, 3) := by decide +kernel
theorem dX5_buys_71 : decode cX5_buys 71 = .ok (.iload_n 1, 1) := by decide +kernel
theorem dX5_buys_72 : decode cX5_buys 72 = .ok (.iload 5, 2) := by decide +kernel
theorem dX5_buys_74 : decode cX5_buys 74 = .ok (.iastore, 1) := by decide +kernel
theorem dX5_buys_75 : decode cX5_buys 75 = .ok (.aload_n 0, 1) := by decide +kernel
theorem dX5_buys_76 : decode cX5_buys 76 = .ok (.getfield 16, 3) := by decide +kernel
theorem dX5_buys_79 : decode cX5_buys 79 = .ok (.iload_n 3, 1) := by decide +kernel
theorem dX5_buys_80 : decode cX5_buys 80 = .ok (.invokevirtual 156, 3) := by decide +kernel
theorem dX5_buys_83 : decode cX5_buys 83 = .ok (.aload_n 0, 1) := by decide +kernel
theorem dX5_buys_84 : decode cX5_buys 84 = .ok (.getfield 16, 3) := by decide +kernel
theorem dX5_buys_87 : decode cX5_buys 87 = .ok (.iload_n 2, 1) := by decide +kernel
theorem dX5_buys_88 : decode cX5_buys 88 = .ok (.iconst 2, 1) := by decide +kernel
theorem dX5_buys_89 : decode cX5_buys 89 = .ok (.invokevirtual 79, 3) := by decide +kernel
theorem dX5_buys_92 : decode cX5_buys 92 = .ok (.iload 4, 2) := by decide +kernel
theorem dX5_buys_94 : decode cX5_buys 94 = .ok (.if_icmp .eq 6, 3) := by decide +kernel
theorem dX5_buys_97 : decode cX5_buys 97 = .ok (.iload 5, 2) := by decide +kernel
theorem dX5_buys_99 : decode cX5_buys 99 = .ok (.ireturn, 1) := by decide +kernel
theorem dX5_buys_100 : decode cX5_buys 100 = .ok (.iinc 5 10, 3) := by decide +kernel
theorem dX5_buys_103 : decode cX5_buys 103 = .ok (.goto (-58), 3) := by decide +kernel
theorem dX5_buys_106 : decode cX5_buys 106 = .ok (.aload_n 0, 1) := by decide +kernel
theorem dX5_buys_107 : decode cX5_buys 107 = .ok (.iconst 3, 1) := by decide +kernel
theorem dX5_buys_108 : decode cX5_buys 108 = .ok (.invokevirtual 63, 3) := by decide +kernel
theorem dX5_buys_111 : decode cX5_buys 111 = .ok (.ireturn, 1) := by decide +kernel
theorem dX5_swing_0 : decode cX5_swing 0 = .ok (.iload_n 1, 1) := by decide +kernel
theorem dX5_swing_1 : decode cX5_swing 1 = .ok (.iconst 1, 1) := by decide +kernel
theorem dX5_swing_2 : decode cX5_swing 2 = .ok (.bipush 60, 2) := by decide +kernel
theorem dX5_swing_4 : decode cX5_swing 4 = .ok (.invokestatic 75, 3) := by decide +kernel
theorem dX5_swing_7 : decode cX5_swing 7 = .ok (.ifCond .ne 9, 3) := by decide +kernel
theorem dX5_swing_10 : decode cX5_swing 10 = .ok (.aload_n 0, 1) := by decide +kernel
theorem dX5_swing_11 : decode cX5_swing 11 = .ok (.iconst 0, 1) := by decide +kernel
theorem dX5_swing_12 : decode cX5_swing 12 = .ok (.invokevirtual 63, 3) := by decide +kernel
theorem dX5_swing_15 : decode cX5_swing 15 = .ok (.ireturn, 1) := by decide +kernel
theorem dX5_swing_16 : decode cX5_swing 16 = .ok (.aload_n 0, 1) := by decide +kernel
theorem dX5_swing_17 : decode cX5_swing 17 = .ok (.iload_n 1, 1) := by decide +kernel
theorem dX5_swing_18 : decode cX5_swing 18 = .ok (.invokevirtual 160, 3) := by decide +kernel
theorem dX5_swing_21 : decode cX5_swing 21 = .ok (.aload_n 0, 1) := by decide +kernel
theorem dX5_swing_22 : decode cX5_swing 22 = .ok (.getfield 16, 3) := by decide +kernel
theorem dX5_swing_25 : decode cX5_swing 25 = .ok (.getfield 89, 3) := by decide +kernel
theorem dX5_swing_28 : decode cX5_swing 28 = .ok (.istore_n 2, 1) := by decide +kernel
theorem dX5_swing_29 : decode cX5_swing 29 = .ok (.iconst (-1), 1) := by decide +kernel
theorem dX5_swing_30 : decode cX5_swing 30 = .ok (.istore_n 3, 1) := by decide +kernel
theorem dX5_swing_31 : decode cX5_swing 31 = .ok (.iconst 0, 1) := by decide +kernel
theorem dX5_swing_32 : decode cX5_swing 32 = .ok (.istore 4, 2) := by decide +kernel
theorem dX5_swing_34 : decode cX5_swing 34 = .ok (.iconst 0, 1) := by decide +kernel
theorem dX5_swing_35 : decode cX5_swing 35 = .ok (.istore 5, 2) := by decide +kernel
theorem dX5_swing_37 : decode cX5_swing 37 = .ok (.iload 5, 2) := by decide +kernel
theorem dX5_swing_39 : decode cX5_swing 39 = .ok (.aload_n 0, 1) := by decide +kernel
theorem dX5_swing_40 : decode cX5_swing 40 = .ok (.getfield 10, 3) := by decide +kernel
theorem dX5_swing_43 : decode cX5_swing 43 = .ok (.getfield 175, 3) := by decide +kernel
theorem dX5_swing_46 : decode cX5_swing 46 = .ok (.if_icmp .ge 80, 3) := by decide +kernel
theorem dX5_swing_49 : decode cX5_swing 49 = .ok (.aload_n 0, 1) := by decide +kernel
theorem dX5_swing_50 : decode cX5_swing 50 = .ok (.getfield 10, 3) := by decide +kernel
theorem dX5_swing_53 : decode cX5_swing 53 = .ok (.getfield 130, 3) := by decide +kernel
theorem dX5_swing_56 : decode cX5_swing 56 = .ok (.iload 5, 2) := by decide +kernel
theorem dX5_swing_58 : decode cX5_swing 58 = .ok (.iaload, 1) := by decide +kernel
theorem dX5_swing_59 : decode cX5_swing 59 = .ok (.ifCond .ne 61, 3) := by decide +kernel
theorem dX5_swing_62 : decode cX5_swing 62 = .ok (.aload_n 0, 1) := by decide +kernel
theorem dX5_swing_63 : decode cX5_swing 63 = .ok (.getfield 16, 3) := by decide +kernel
theorem dX5_swing_66 : decode cX5_swing 66 = .ok (.aload_n 0, 1) := by decide +kernel
theorem dX5_swing_67 : decode cX5_swing 67 = .ok (.getfield 10, 3) := by decide +kernel
theorem dX5_swing_70 : decode cX5_swing 70 = .ok (.invokevirtual 163, 3) := by decide +kernel
theorem dX5_swing_73 : decode cX5_swing 73 = .ok (.aload_n 0, 1) := by decide +kernel
theorem dX5_swing_74 : decode cX5_swing 74 = .ok (.getfield 16, 3) := by decide +kernel
theorem dX5_swing_77 : decode cX5_swing 77 = .ok (.getfield 130, 3) := by decide +kernel
theorem dX5_swing_80 : decode cX5_swing 80 = .ok (.iload 5, 2) := by decide +kernel
theorem dX5_swing_82 : decode cX5_swing 82 = .ok (.iconst 1, 1) := by decide +kernel
theorem dX5_swing_83 : decode cX5_swing 83 = .ok (.iastore, 1) := by decide +kernel
theorem dX5_swing_84 : decode cX5_swing 84 = .ok (.aload_n 0, 1) := by decide +kernel
theorem dX5_swing_85 : decode cX5_swing 85 = .ok (.getfield 16, 3) := by decide +kernel
theorem dX5_swing_88 : decode cX5_swing 88 = .ok (.iload_n 1, 1) := by decide +kernel
theorem dX5_swing_89 : decode cX5_swing 89 = .ok (.invokevirtual 156, 3) := by decide +kernel
theorem dX5_swing_92 : decode cX5_swing 92 = .ok (.aload_n 0, 1) := by decide +kernel
theorem dX5_swing_93 : decode cX5_swing 93 = .ok (.getfield 16, 3) := by decide +kernel
theorem dX5_swing_96 : decode cX5_swing 96 = .ok (.getfield 89, 3) := by decide +kernel
theorem dX5_swing_99 : decode cX5_swing 99 = .ok (.iload_n 2, 1) := by decide +kernel
theorem dX5_swing_100 : decode cX5_swing 100 = .ok (.ixor, 1) := by decide +kernel
theorem dX5_swing_101 : decode cX5_swing 101 = .ok (.invokestatic 170, 3) := by decide +kernel
theorem dX5_swing_104 : decode cX5_swing 104 = .ok (.istore 6, 2) := by decide +kernel
theorem dX5_swing_106 : decode cX5_swing 106 = .ok (.iload 6, 2) := by decide +kernel
theorem dX5_swing_108 : decode cX5_swing 108 = .ok (.iload 4, 2) := by decide +kernel
theorem dX5_swing_110 : decode cX5_swing 110 = .ok (.if_icmp .le 10, 3) := by decide +kernel
theorem dX5_swing_113 : decode cX5_swing 113 = .ok (.iload 6, 2) := by decide +kernel
theorem dX5_swing_115 : decode cX5_swing 115 = .ok (.istore 4, 2) := by decide +kernel
theorem dX5_swing_117 : decode cX5_swing 117 = .ok (.iload 5, 2) := by decide +kernel
theorem dX5_swing_119 : decode cX5_swing 119 = .ok (.istore_n 3, 1) := by decide +kernel
theorem dX5_swing_120 : decode cX5_swing 120 = .ok (.iinc 5 1, 3) := by decide +kernel
theorem dX5_swing_123 : decode cX5_swing 123 = .ok (.goto (-86), 3) := by decide +kernel
theorem dX5_swing_126 : decode cX5_swing 126 = .ok (.iload_n 3, 1) := by decide +kernel
theorem dX5_swing_127 : decode cX5_swing 127 = .ok (.ifCond .ge 11, 3) := by decide +kernel
theorem dX5_swing_130 : decode cX5_swing 130 = .ok (.aload_n 0, 1) := by decide +kernel
theorem dX5_swing_131 : decode cX5_swing 131 = .ok (.iconst 3, 1) := by decide +kernel
theorem dX5_swing_132 : decode cX5_swing 132 = .ok (.invokevirtual 63, 3) := by decide +kernel
theorem dX5_swing_135 : decode cX5_swing 135 = .ok (.goto 4, 3) := by decide +kernel
theorem dX5_swing_138 : decode cX5_swing 138 = .ok (.iload_n 3, 1) := by decide +kernel
theorem dX5_swing_139 : decode cX5_swing 139 = .ok (.ireturn, 1) := by decide +kernel
theorem dX5_pays_0 : decode cX5_pays 0 = .ok (.iload_n 1, 1) := by decide +kernel
theorem dX5_pays_1 : decode cX5_pays 1 = .ok (.iconst 1, 1) := by decide +kernel
theorem dX5_pays_2 : decode cX5_pays 2 = .ok (.bipush 60, 2) := by decide +kernel
theorem dX5_pays_4 : decode cX5_pays 4 = .ok (.invokestatic 75, 3) := by decide +kernel
theorem dX5_pays_7 : decode cX5_pays 7 = .ok (.ifCond .ne 9, 3) := by decide +kernel
theorem dX5_pays_10 : decode cX5_pays 10 = .ok (.aload_n 0, 1) := by decide +kernel
theorem dX5_pays_11 : decode cX5_pays 11 = .ok (.iconst 0, 1) := by decide +kernel
theorem dX5_pays_12 : decode cX5_pays 12 = .ok (.invokevirtual 63, 3) := by decide +kernel
theorem dX5_pays_15 : decode cX5_pays 15 = .ok (.ireturn, 1) := by decide +kernel
theorem dX5_pays_16 : decode cX5_pays 16 = .ok (.aload_n 0, 1) := by decide +kernel
theorem dX5_pays_17 : decode cX5_pays 17 = .ok (.iconst 1, 1) := by decide +kernel
theorem dX5_pays_18 : decode cX5_pays 18 = .ok (.iload_n 1, 1) := by decide +kernel
theorem dX5_pays_19 : decode cX5_pays 19 = .ok (.invokevirtual 178, 3) := by decide +kernel
theorem dX5_pays_22 : decode cX5_pays 22 = .ok (.aload_n 0, 1) := by decide +kernel
theorem dX5_pays_23 : decode cX5_pays 23 = .ok (.iconst 0, 1) := by decide +kernel
theorem dX5_pays_24 : decode cX5_pays 24 = .ok (.iload_n 1, 1) := by decide +kernel
theorem dX5_pays_25 : decode cX5_pays 25 = .ok (.invokevirtual 178, 3) := by decide +kernel
theorem dX5_pays_28 : decode cX5_pays 28 = .ok (.if_icmp .le 7, 3) := by decide +kernel
theorem dX5_pays_31 : decode cX5_pays 31 = .ok (.iconst 1, 1) := by decide +kernel
theorem dX5_pays_32 : decode cX5_pays 32 = .ok (.goto 4, 3) := by decide +kernel
theorem dX5_pays_35 : decode cX5_pays 35 = .ok (.iconst 0, 1) := by decide +kernel
theorem dX5_pays_36 : decode cX5_pays 36 = .ok (.ireturn, 1) := by decide +kernel
theorem dX5_richest_0 : decode cX5_richest 0 = .ok (.iload_n 1, 1) := by decide +kernel
theorem dX5_richest_1 : decode cX5_richest 1 = .ok (.iconst 0, 1) := by decide +kernel
theorem dX5_richest_2 : decode cX5_richest 2 = .ok (.sipush 200, 3) := by decide +kernel
theorem dX5_richest_5 : decode cX5_richest 5 = .ok (.invokestatic 75, 3) := by decide +kernel
theorem dX5_richest_8 : decode cX5_richest 8 = .ok (.ifCond .ne 9, 3) := by decide +kernel
theorem dX5_richest_11 : decode cX5_richest 11 = .ok (.aload_n 0, 1) := by decide +kernel
theorem dX5_richest_12 : decode cX5_richest 12 = .ok (.iconst 0, 1) := by decide +kernel
theorem dX5_richest_13 : decode cX5_richest 13 = .ok (.invokevirtual 63, 3) := by decide +kernel
theorem dX5_richest_16 : decode cX5_richest 16 = .ok (.ireturn, 1) := by decide +kernel
theorem dX5_richest_17 : decode cX5_richest 17 = .ok (.aload_n 0, 1) := by decide +kernel
theorem dX5_richest_18 : decode cX5_richest 18 = .ok (.getfield 10, 3) := by decide +kernel
theorem dX5_richest_21 : decode cX5_richest 21 = .ok (.getfield 175, 3) := by decide +kernel
theorem dX5_richest_24 : decode cX5_richest 24 = .ok (.ifCond .ne 9, 3) := by decide +kernel
theorem dX5_richest_27 : decode cX5_richest 27 = .ok (.aload_n 0, 1) := by decide +kernel
theorem dX5_richest_28 : decode cX5_richest 28 = .ok (.iconst 3, 1) := by decide +kernel
theorem dX5_richest_29 : decode cX5_richest 29 = .ok (.invokevirtual 63, 3) := by decide +kernel
theorem dX5_richest_32 : decode cX5_richest 32 = .ok (.ireturn, 1) := by decide +kernel
theorem dX5_richest_33 : decode cX5_richest 33 = .ok (.aload_n 0, 1) := by decide +kernel
theorem dX5_richest_34 : decode cX5_richest 34 = .ok (.iload_n 1, 1) := by decide +kernel
theorem dX5_richest_35 : decode cX5_richest 35 = .ok (.invokevirtual 160, 3) := by decide +kernel
theorem dX5_richest_38 : decode cX5_richest 38 = .ok (.iconst 0, 1) := by decide +kernel
theorem dX5_richest_39 : decode cX5_richest 39 = .ok (.istore_n 2, 1) := by decide +kernel
theorem dX5_richest_40 : decode cX5_richest 40 = .ok (.iconst 1, 1) := by decide +kernel
theorem dX5_richest_41 : decode cX5_richest 41 = .ok (.istore_n 3, 1) := by decide +kernel
theorem dX5_richest_42 : decode cX5_richest 42 = .ok (.iload_n 3, 1) := by decide +kernel
theorem dX5_richest_43 : decode cX5_richest 43 = .ok (.aload_n 0, 1) := by decide +kernel
theorem dX5_richest_44 : decode cX5_richest 44 = .ok (.getfield 16, 3) := by decide +kernel
theorem dX5_richest_47 : decode cX5_richest 47 = .ok (.getfield 175, 3) := by decide +kernel
theorem dX5_richest_50 : decode cX5_richest 50 = .ok (.if_icmp .ge 32, 3) := by decide +kernel
theorem dX5_richest_53 : decode cX5_richest 53 = .ok (.aload_n 0, 1) := by decide +kernel
theorem dX5_richest_54 : decode cX5_richest 54 = .ok (.getfield 16, 3) := by decide +kernel
theorem dX5_richest_57 : decode cX5_richest 57 = .ok (.getfield 127, 3) := by decide +kernel
theorem dX5_richest_60 : decode cX5_richest 60 = .ok (.iload_n 3, 1) := by decide +kernel
theorem dX5_richest_61 : decode cX5_richest 61 = .ok (.iaload, 1) := by decide +kernel
theorem dX5_richest_62 : decode cX5_richest 62 = .ok (.aload_n 0, 1) := by decide +kernel
theorem dX5_richest_63 : decode cX5_richest 63 = .ok (.getfield 16, 3) := by decide +kernel
theorem dX5_richest_66 : decode cX5_richest 66 = .ok (.getfield 127, 3) := by decide +kernel
theorem dX5_richest_69 : decode cX5_richest 69 = .ok (.iload_n 2, 1) := by decide +kernel
theorem dX5_richest_70 : decode cX5_richest 70 = .ok (.iaload, 1) := by decide +kernel
theorem dX5_richest_71 : decode cX5_richest 71 = .ok (.if_icmp .le 5, 3) := by decide +kernel
theorem dX5_richest_74 : decode cX5_richest 74 = .ok (.iload_n 3, 1) := by decide +kernel
theorem dX5_richest_75 : decode cX5_richest 75 = .ok (.istore_n 2, 1) := by decide +kernel
theorem dX5_richest_76 : decode cX5_richest 76 = .ok (.iinc 3 1, 3) := by decide +kernel
theorem dX5_richest_79 : decode cX5_richest 79 = .ok (.goto (-37), 3) := by decide +kernel
theorem dX5_richest_82 : decode cX5_richest 82 = .ok (.iload_n 2, 1) := by decide +kernel
theorem dX5_richest_83 : decode cX5_richest 83 = .ok (.ireturn, 1) := by decide +kernel
theorem dX5_feed_0 : decode cX5_feed 0 = .ok (.iload_n 2, 1) := by decide +kernel
theorem dX5_feed_1 : decode cX5_feed 1 = .ok (.iconst 1, 1) := by decide +kernel
theorem dX5_feed_2 : decode cX5_feed 2 = .ok (.iconst 4, 1) := by decide +kernel
theorem dX5_feed_3 : decode cX5_feed 3 = .ok (.invokestatic 75, 3) := by decide +kernel
theorem dX5_feed_6 : decode cX5_feed 6 = .ok (.ifCond .ne 9, 3) := by decide +kernel
theorem dX5_feed_9 : decode cX5_feed 9 = .ok (.aload_n 0, 1) := by decide +kernel
theorem dX5_feed_10 : decode cX5_feed 10 = .ok (.iconst 0, 1) := by decide +kernel
theorem dX5_feed_11 : decode cX5_feed 11 = .ok (.invokevirtual 63, 3) := by decide +kernel
theorem dX5_feed_14 : decode cX5_feed 14 = .ok (.ireturn, 1) := by decide +kernel
theorem dX5_feed_15 : decode cX5_feed 15 = .ok (.aload_n 0, 1) := by decide +kernel
theorem dX5_feed_16 : decode cX5_feed 16 = .ok (.getfield 29, 3) := by decide +kernel
theorem dX5_feed_19 : decode cX5_feed 19 = .ok (.iload_n 2, 1) := by decide +kernel
theorem dX5_feed_20 : decode cX5_feed 20 = .ok (.invokevirtual 181, 3) := by decide +kernel
theorem dX5_feed_23 : decode cX5_feed 23 = .ok (.ifCond .ne 9, 3) := by decide +kernel
theorem dX5_feed_26 : decode cX5_feed 26 = .ok (.aload_n 0, 1) := by decide +kernel
theorem dX5_feed_27 : decode cX5_feed 27 = .ok (.iconst 1, 1) := by decide +kernel
theorem dX5_feed_28 : decode cX5_feed 28 = .ok (.invokevirtual 63, 3) := by decide +kernel
theorem dX5_feed_31 : decode cX5_feed 31 = .ok (.ireturn, 1) := by decide +kernel
theorem dX5_feed_32 : decode cX5_feed 32 = .ok (.iload_n 2, 1) := by decide +kernel
theorem dX5_feed_33 : decode cX5_feed 33 = .ok (.iconst 1, 1) := by decide +kernel
theorem dX5_feed_34 : decode cX5_feed 34 = .ok (.isub, 1) := by decide +kernel
theorem dX5_feed_35 : decode cX5_feed 35 = .ok (.istore_n 3, 1) := by decide +kernel
theorem dX5_feed_36 : decode cX5_feed 36 = .ok (.iload_n 3, 1) := by decide +kernel
theorem dX5_feed_37 : decode cX5_feed 37 = .ok (.ifCond .lt 23, 3) := by decide +kernel
theorem dX5_feed_40 : decode cX5_feed 40 = .ok (.aload_n 0, 1) := by decide +kernel
theorem dX5_feed_41 : decode cX5_feed 41 = .ok (.getfield 29, 3) := by decide +kernel
theorem dX5_feed_44 : decode cX5_feed 44 = .ok (.iload_n 1, 1) := by decide +kernel
theorem dX5_feed_45 : decode cX5_feed 45 = .ok (.bipush 8, 2) := by decide +kernel
theorem dX5_feed_47 : decode cX5_feed 47 = .ok (.iload_n 3, 1) := by decide +kernel
theorem dX5_feed_48 : decode cX5_feed 48 = .ok (.imul, 1) := by decide +kernel
theorem dX5_feed_49 : decode cX5_feed 49 = .ok (.ishr, 1) := by decide +kernel
theorem dX5_feed_50 : decode cX5_feed 50 = .ok (.i2b, 1) := by decide +kernel
theorem dX5_feed_51 : decode cX5_feed 51 = .ok (.invokevirtual 184, 3) := by decide +kernel
theorem dX5_feed_54 : decode cX5_feed 54 = .ok (.iinc 3 (-1), 3) := by decide +kernel
theorem dX5_feed_57 : decode cX5_feed 57 = .ok (.goto (-21), 3) := by decide +kernel
theorem dX5_feed_60 : decode cX5_feed 60 = .ok (.aload_n 0, 1) := by decide +kernel
theorem dX5_feed_61 : decode cX5_feed 61 = .ok (.getfield 29, 3) := by decide +kernel
theorem dX5_feed_64 : decode cX5_feed 64 = .ok (.getfield 187, 3) := by decide +kernel
theorem dX5_feed_67 : decode cX5_feed 67 = .ok (.ireturn, 1) := by decide +kernel
theorem dX5_wipe_0 : decode cX5_wipe 0 = .ok (.aload_n 0, 1) := by decide +kernel
theorem dX5_wipe_1 : decode cX5_wipe 1 = .ok (.getfield 29, 3) := by decide +kernel
theorem dX5_wipe_4 : decode cX5_wipe 4 = .ok (.getfield 187, 3) := by decide +kernel
theorem dX5_wipe_7 : decode cX5_wipe 7 = .ok (.istore_n 1, 1) := by decide +kernel
theorem dX5_wipe_8 : decode cX5_wipe 8 = .ok (.aload_n 0, 1) := by decide +kernel
theorem dX5_wipe_9 : decode cX5_wipe 9 = .ok (.getfield 29, 3) := by decide +kernel
theorem dX5_wipe_12 : decode cX5_wipe 12 = .ok (.iconst 0, 1) := by decide +kernel
theorem dX5_wipe_13 : decode cX5_wipe 13 = .ok (.putfield 187, 3) := by decide +kernel
theorem dX5_wipe_16 : decode cX5_wipe 16 = .ok (.iload_n 1, 1) := by decide +kernel
theorem dX5_wipe_17 : decode cX5_wipe 17 = .ok (.ireturn, 1) := by decide +kernel
theorem dX5_town_0 : decode cX5_town 0 = .ok (.aload_n 0, 1) := by decide +kernel
theorem dX5_town_1 : decode cX5_town 1 = .ok (.getfield 16, 3) := by decide +kernel
theorem dX5_town_4 : decode cX5_town 4 = .ok (.aload_n 0, 1) := by decide +kernel
theorem dX5_town_5 : decode cX5_town 5 = .ok (.getfield 10, 3) := by decide +kernel
theorem dX5_town_8 : decode cX5_town 8 = .ok (.invokevirtual 163, 3) := by decide +kernel
theorem dX5_town_11 : decode cX5_town 11 = .ok (.aload_n 0, 1) := by decide +kernel
theorem dX5_town_12 : decode cX5_town 12 = .ok (.getfield 38, 3) := by decide +kernel
theorem dX5_town_15 : decode cX5_town 15 = .ok (.invokevirtual 190, 3) := by decide +kernel
theorem dX5_town_18 : decode cX5_town 18 = .ok (.istore_n 1, 1) := by decide +kernel
theorem dX5_town_19 : decode cX5_town 19 = .ok (.iload_n 1, 1) := by decide +kernel
theorem dX5_town_20 : decode cX5_town 20 = .ok (.ifCond .le 14, 3) := by decide +kernel
theorem dX5_town_23 : decode cX5_town 23 = .ok (.aload_n 0, 1) := by decide +kernel
theorem dX5_town_24 : decode cX5_town 24 = .ok (.getfield 10, 3) := by decide +kernel
theorem dX5_town_27 : decode cX5_town 27 = .ok (.aload_n 0, 1) := by decide +kernel
theorem dX5_town_28 : decode cX5_town 28 = .ok (.getfield 16, 3) := by decide +kernel
theorem dX5_town_31 : decode cX5_town 31 = .ok (.invokevirtual 163, 3) := by decide +kernel
theorem dX5_town_34 : decode cX5_town 34 = .ok (.aload_n 0, 1) := by decide +kernel
theorem dX5_town_35 : decode cX5_town 35 = .ok (.getfield 29, 3) := by decide +kernel
theorem dX5_town_38 : decode cX5_town 38 = .ok (.iconst 0, 1) := by decide +kernel
theorem dX5_town_39 : decode cX5_town 39 = .ok (.putfield 187, 3) := by decide +kernel
theorem dX5_town_42 : decode cX5_town 42 = .ok (.iload_n 1, 1) := by decide +kernel
theorem dX5_town_43 : decode cX5_town 43 = .ok (.ireturn, 1) := by decide +kernel
theorem dX5_sheet_0 : decode cX5_sheet 0 = .ok (.iload_n 1, 1) := by decide +kernel
theorem dX5_sheet_1 : decode cX5_sheet 1 = .ok (.invokestatic 193, 3) := by decide +kernel
theorem dX5_sheet_4 : decode cX5_sheet 4 = .ok (.ifCond .eq 10, 3) := by decide +kernel
theorem dX5_sheet_7 : decode cX5_sheet 7 = .ok (.iload_n 2, 1) := by decide +kernel
theorem dX5_sheet_8 : decode cX5_sheet 8 = .ok (.invokestatic 196, 3) := by decide +kernel
theorem dX5_sheet_11 : decode cX5_sheet 11 = .ok (.ifCond .ne 9, 3) := by decide +kernel
theorem dX5_sheet_14 : decode cX5_sheet 14 = .ok (.aload_n 0, 1) := by decide +kernel
theorem dX5_sheet_15 : decode cX5_sheet 15 = .ok (.iconst 0, 1) := by decide +kernel
theorem dX5_sheet_16 : decode cX5_sheet 16 = .ok (.invokevirtual 63, 3) := by decide +kernel
theorem dX5_sheet_19 : decode cX5_sheet 19 = .ok (.ireturn, 1) := by decide +kernel
theorem dX5_sheet_20 : decode cX5_sheet 20 = .ok (.iload_n 3, 1) := by decide +kernel
theorem dX5_sheet_21 : decode cX5_sheet 21 = .ok (.ifCond .ge 10, 3) := by decide +kernel
theorem dX5_sheet_24 : decode cX5_sheet 24 = .ok (.aload_n 0, 1) := by decide +kernel
theorem dX5_sheet_25 : decode cX5_sheet 25 = .ok (.bipush 6, 2) := by decide +kernel
theorem dX5_sheet_27 : decode cX5_sheet 27 = .ok (.invokevirtual 63, 3) := by decide +kernel
theorem dX5_sheet_30 : decode cX5_sheet 30 = .ok (.ireturn, 1) := by decide +kernel
theorem dX5_sheet_31 : decode cX5_sheet 31 = .ok (.iload_n 3, 1) := by decide +kernel
theorem dX5_sheet_32 : decode cX5_sheet 32 = .ok (.bipush 40, 2) := by decide +kernel
theorem dX5_sheet_34 : decode cX5_sheet 34 = .ok (.if_icmp .le 9, 3) := by decide +kernel
theorem dX5_sheet_37 : decode cX5_sheet 37 = .ok (.aload_n 0, 1) := by decide +kernel
theorem dX5_sheet_38 : decode cX5_sheet 38 = .ok (.iconst 0, 1) := by decide +kernel
theorem dX5_sheet_39 : decode cX5_sheet 39 = .ok (.invokevirtual 63, 3) := by decide +kernel
theorem dX5_sheet_42 : decode cX5_sheet 42 = .ok (.ireturn, 1) := by decide +kernel
theorem dX5_sheet_43 : decode cX5_sheet 43 = .ok (.aload_n 0, 1) := by decide +kernel
theorem dX5_sheet_44 : decode cX5_sheet 44 = .ok (.getfield 45, 3) := by decide +kernel
theorem dX5_sheet_47 : decode cX5_sheet 47 = .ok (.iload_n 1, 1) := by decide +kernel
theorem dX5_sheet_48 : decode cX5_sheet 48 = .ok (.iload_n 2, 1) := by decide +kernel
theorem dX5_sheet_49 : decode cX5_sheet 49 = .ok (.iload_n 3, 1) := by decide +kernel
theorem dX5_sheet_50 : decode cX5_sheet 50 = .ok (.invokevirtual 199, 3) := by decide +kernel
theorem dX5_sheet_53 : decode cX5_sheet 53 = .ok (.aload_n 0, 1) := by decide +kernel
theorem dX5_sheet_54 : decode cX5_sheet 54 = .ok (.getfield 45, 3) := by decide +kernel
theorem dX5_sheet_57 : decode cX5_sheet 57 = .ok (.getfield 202, 3) := by decide +kernel
theorem dX5_sheet_60 : decode cX5_sheet 60 = .ok (.iload_n 1, 1) := by decide +kernel
theorem dX5_sheet_61 : decode cX5_sheet 61 = .ok (.iaload, 1) := by decide +kernel
theorem dX5_sheet_62 : decode cX5_sheet 62 = .ok (.ireturn, 1) := by decide +kernel
theorem dX5_write_0 : decode cX5_write 0 = .ok (.iload_n 1, 1) := by decide +kernel
theorem dX5_write_1 : decode cX5_write 1 = .ok (.invokestatic 193, 3) := by decide +kernel
theorem dX5_write_4 : decode cX5_write 4 = .ok (.ifCond .ne 10, 3) := by decide +kernel
theorem dX5_write_7 : decode cX5_write 7 = .ok (.aload_n 0, 1) := by decide +kernel
theorem dX5_write_8 : decode cX5_write 8 = .ok (.iconst 0, 1) := by decide +kernel
theorem dX5_write_9 : decode cX5_write 9 = .ok (.invokevirtual 63, 3) := by decide +kernel
theorem dX5_write_12 : decode cX5_write 12 = .ok (.i2l, 1) := by decide +kernel
theorem dX5_write_13 : decode cX5_write 13 = .ok (.lreturn, 1) := by decide +kernel
theorem dX5_write_14 : decode cX5_write 14 = .ok (.aload_n 0, 1) := by decide +kernel
theorem dX5_write_15 : decode cX5_write 15 = .ok (.getfield 45, 3) := by decide +kernel
theorem dX5_write_18 : decode cX5_write 18 = .ok (.iload_n 1, 1) := by decide +kernel
theorem dX5_write_19 : decode cX5_write 19 = .ok (.invokevirtual 205, 3) := by decide +kernel
theorem dX5_write_22 : decode cX5_write 22 = .ok (.ifCond .eq 10, 3) := by decide +kernel
theorem dX5_write_25 : decode cX5_write 25 = .ok (.aload_n 0, 1) := by decide +kernel
theorem dX5_write_26 : decode cX5_write 26 = .ok (.iconst 5, 1) := by decide +kernel
theorem dX5_write_27 : decode cX5_write 27 = .ok (.invokevirtual 63, 3) := by decide +kernel
theorem dX5_write_30 : decode cX5_write 30 = .ok (.i2l, 1) := by decide +kernel
theorem dX5_write_31 : decode cX5_write 31 = .ok (.lreturn, 1) := by decide +kernel
theorem dX5_write_32 : decode cX5_write 32 = .ok (.iload_n 2, 1) := by decide +kernel
theorem dX5_write_33 : decode cX5_write 33 = .ok (.iconst 0, 1) := by decide +kernel
theorem dX5_write_34 : decode cX5_write 34 = .ok (.aload_n 0, 1) := by decide +kernel
theorem dX5_write_35 : decode cX5_write 35 = .ok (.getfield 45, 3) := by decide +kernel
theorem dX5_write_38 : decode cX5_write 38 = .ok (.getfield 202, 3) := by decide +kernel
theorem dX5_write_41 : decode cX5_write 41 = .ok (.iload_n 1, 1) := by decide +kernel
theorem dX5_write_42 : decode cX5_write 42 = .ok (.iaload, 1) := by decide +kernel
theorem dX5_write_43 : decode cX5_write 43 = .ok (.iconst 1, 1) := by decide +kernel
theorem dX5_write_44 : decode cX5_write 44 = .ok (.isub, 1) := by decide +kernel
theorem dX5_write_45 : decode cX5_write 45 = .ok (.invokestatic 75, 3) := by decide +kernel
theorem dX5_write_48 : decode cX5_write 48 = .ok (.ifCond .ne 10, 3) := by decide +kernel
theorem dX5_write_51 : decode cX5_write 51 = .ok (.aload_n 0, 1) := by decide +kernel
theorem dX5_write_52 : decode cX5_write 52 = .ok (.iconst 0, 1) := by decide +kernel
theorem dX5_write_53 : decode cX5_write 53 = .ok (.invokevirtual 63, 3) := by decide +kernel
theorem dX5_write_56 : decode cX5_write 56 = .ok (.i2l, 1) := by decide +kernel
theorem dX5_write_57 : decode cX5_write 57 = .ok (.lreturn, 1) := by decide +kernel
theorem dX5_write_58 : decode cX5_write 58 = .ok (.aload_n 0, 1) := by decide +kernel
theorem dX5_write_59 : decode cX5_write 59 = .ok (.getfield 45, 3) := by decide +kernel
theorem dX5_write_62 : decode cX5_write 62 = .ok (.getfield 208, 3) := by decide +kernel
theorem dX5_write_65 : decode cX5_write 65 = .ok (.iload_n 1, 1) := by decide +kernel
theorem dX5_write_66 : decode cX5_write 66 = .ok (.aaload, 1) := by decide +kernel
theorem dX5_write_67 : decode cX5_write 67 = .ok (.iload_n 2, 1) := by decide +kernel
theorem dX5_write_68 : decode cX5_write 68 = .ok (.laload, 1) := by decide +kernel
theorem dX5_write_69 : decode cX5_write 69 = .ok (.lstore 5, 2) := by decide +kernel
theorem dX5_write_71 : decode cX5_write 71 = .ok (.aload_n 0, 1) := by decide +kernel
theorem dX5_write_72 : decode cX5_write 72 = .ok (.getfield 45, 3) := by decide +kernel
theorem dX5_write_75 : decode cX5_write 75 = .ok (.iload_n 1, 1) := by decide +kernel
theorem dX5_write_76 : decode cX5_write 76 = .ok (.iload_n 2, 1) := by decide +kernel
theorem dX5_write_77 : decode cX5_write 77 = .ok (.lload_n 3, 1) := by decide +kernel
theorem dX5_write_78 : decode cX5_write 78 = .ok (.invokevirtual 212, 3) := by decide +kernel
theorem dX5_write_81 : decode cX5_write 81 = .ok (.lload 5, 2) := by decide +kernel
theorem dX5_write_83 : decode cX5_write 83 = .ok (.lreturn, 1) := by decide +kernel
theorem dX5_copy_0 : decode cX5_copy 0 = .ok (.iload_n 1, 1) := by decide +kernel
theorem dX5_copy_1 : decode cX5_copy 1 = .ok (.invokestatic 193, 3) := by decide +kernel
theorem dX5_copy_4 : decode cX5_copy 4 = .ok (.ifCond .eq 10, 3) := by decide +kernel
theorem dX5_copy_7 : decode cX5_copy 7 = .ok (.iload_n 3, 1) := by decide +kernel
theorem dX5_copy_8 : decode cX5_copy 8 = .ok (.invokestatic 193, 3) := by decide +kernel
theorem dX5_copy_11 : decode cX5_copy 11 = .ok (.ifCond .ne 9, 3) := by decide +kernel
theorem dX5_copy_14 : decode cX5_copy 14 = .ok (.aload_n 0, 1) := by decide +kernel
theorem dX5_copy_15 : decode cX5_copy 15 = .ok (.iconst 0, 1) := by decide +kernel
theorem dX5_copy_16 : decode cX5_copy 16 = .ok (.invokevirtual 63, 3) := by decide +kernel
theorem dX5_copy_19 : decode cX5_copy 19 = .ok (.ireturn, 1) := by decide +kernel
theorem dX5_copy_20 : decode cX5_copy 20 = .ok (.aload_n 0, 1) := by decide +kernel
theorem dX5_copy_21 : decode cX5_copy 21 = .ok (.getfield 45, 3) := by decide +kernel
theorem dX5_copy_24 : decode cX5_copy 24 = .ok (.iload_n 1, 1) := by decide +kernel
theorem dX5_copy_25 : decode cX5_copy 25 = .ok (.invokevirtual 205, 3) := by decide +kernel
theorem dX5_copy_28 : decode cX5_copy 28 = .ok (.ifCond .ne 14, 3) := by decide +kernel
theorem dX5_copy_31 : decode cX5_copy 31 = .ok (.aload_n 0, 1) := by decide +kernel
theorem dX5_copy_32 : decode cX5_copy 32 = .ok (.getfield 45, 3) := by decide +kernel
theorem dX5_copy_35 : decode cX5_copy 35 = .ok (.iload_n 3, 1) := by decide +kernel
theorem dX5_copy_36 : decode cX5_copy 36 = .ok (.invokevirtual 205, 3) := by decide +kernel
theorem dX5_copy_39 : decode cX5_copy 39 = .ok (.ifCond .eq 9, 3) := by decide +kernel
theorem dX5_copy_42 : decode cX5_copy 42 = .ok (.aload_n 0, 1) := by decide +kernel
theorem dX5_copy_43 : decode cX5_copy 43 = .ok (.iconst 5, 1) := by decide +kernel
theorem dX5_copy_44 : decode cX5_copy 44 = .ok (.invokevirtual 63, 3) := by decide +kernel
theorem dX5_copy_47 : decode cX5_copy 47 = .ok (.ireturn, 1) := by decide +kernel
theorem dX5_copy_48 : decode cX5_copy 48 = .ok (.aload_n 0, 1) := by decide +kernel
theorem dX5_copy_49 : decode cX5_copy 49 = .ok (.getfield 45, 3) := by decide +kernel
theorem dX5_copy_52 : decode cX5_copy 52 = .ok (.getfield 216, 3) := by decide +kernel
theorem dX5_copy_55 : decode cX5_copy 55 = .ok (.iload_n 1, 1) := by decide +kernel
theorem dX5_copy_56 : decode cX5_copy 56 = .ok (.iaload, 1) := by decide +kernel
theorem dX5_copy_57 : decode cX5_copy 57 = .ok (.aload_n 0, 1) := by decide +kernel
theorem dX5_copy_58 : decode cX5_copy 58 = .ok (.getfield 45, 3) := by decide +kernel
theorem dX5_copy_61 : decode cX5_copy 61 = .ok (.getfield 216, 3) := by decide +kernel
theorem dX5_copy_64 : decode cX5_copy 64 = .ok (.iload_n 3, 1) := by decide +kernel
theorem dX5_copy_65 : decode cX5_copy 65 = .ok (.iaload, 1) := by decide +kernel
theorem dX5_copy_66 : decode cX5_copy 66 = .ok (.if_icmp .eq 9, 3) := by decide +kernel
theorem dX5_copy_69 : decode cX5_copy 69 = .ok (.aload_n 0, 1) := by decide +kernel
theorem dX5_copy_70 : decode cX5_copy 70 = .ok (.iconst 2, 1) := by decide +kernel
theorem dX5_copy_71 : decode cX5_copy 71 = .ok (.invokevirtual 63, 3) := by decide +kernel
theorem dX5_copy_74 : decode cX5_copy 74 = .ok (.ireturn, 1) := by decide +kernel
theorem dX5_copy_75 : decode cX5_copy 75 = .ok (.aload_n 0, 1) := by decide +kernel
theorem dX5_copy_76 : decode cX5_copy 76 = .ok (.getfield 45, 3) := by decide +kernel
theorem dX5_copy_79 : decode cX5_copy 79 = .ok (.iload_n 1, 1) := by decide +kernel
theorem dX5_copy_80 : decode cX5_copy 80 = .ok (.iload_n 2, 1) := by decide +kernel
theorem dX5_copy_81 : decode cX5_copy 81 = .ok (.iload 5, 2) := by decide +kernel
theorem dX5_copy_83 : decode cX5_copy 83 = .ok (.invokevirtual 219, 3) := by decide +kernel
theorem dX5_copy_86 : decode cX5_copy 86 = .ok (.ifCond .eq 18, 3) := by decide +kernel
theorem dX5_copy_89 : decode cX5_copy 89 = .ok (.aload_n 0, 1) := by decide +kernel
theorem dX5_copy_90 : decode cX5_copy 90 = .ok (.getfield 45, 3) := by decide +kernel
theorem dX5_copy_93 : decode cX5_copy 93 = .ok (.iload_n 3, 1) := by decide +kernel
theorem dX5_copy_94 : decode cX5_copy 94 = .ok (.iload 4, 2) := by decide +kernel
theorem dX5_copy_96 : decode cX5_copy 96 = .ok (.iload 5, 2) := by decide +kernel
theorem dX5_copy_98 : decode cX5_copy 98 = .ok (.invokevirtual 219, 3) := by decide +kernel
theorem dX5_copy_101 : decode cX5_copy 101 = .ok (.ifCond .ne 9, 3) := by decide +kernel
theorem dX5_copy_104 : decode cX5_copy 104 = .ok (.aload_n 0, 1) := by decide +kernel
theorem dX5_copy_105 : decode cX5_copy 105 = .ok (.iconst 0, 1) := by decide +kernel
theorem dX5_copy_106 : decode cX5_copy 106 = .ok (.invokevirtual 63, 3) := by decide +kernel
theorem dX5_copy_109 : decode cX5_copy 109 = .ok (.ireturn, 1) := by decide +kernel
theorem dX5_copy_110 : decode cX5_copy 110 = .ok (.aload_n 0, 1) := by decide +kernel
theorem dX5_copy_111 : decode cX5_copy 111 = .ok (.getfield 45, 3) := by decide +kernel
theorem dX5_copy_114 : decode cX5_copy 114 = .ok (.getfield 208, 3) := by decide +kernel
theorem dX5_copy_117 : decode cX5_copy 117 = .ok (.iload_n 1, 1) := by decide +kernel
theorem dX5_copy_118 : decode cX5_copy 118 = .ok (.aaload, 1) := by decide +kernel
theorem dX5_copy_119 : decode cX5_copy 119 = .ok (.iload_n 2, 1) := by decide +kernel
theorem dX5_copy_120 : decode cX5_copy 120 = .ok (.aload_n 0, 1) := by decide +kernel
theorem dX5_copy_121 : decode cX5_copy 121 = .ok (.getfield 45, 3) := by decide +kernel
theorem dX5_copy_124 : decode cX5_copy 124 = .ok (.getfield 208, 3) := by decide +kernel
theorem dX5_copy_127 : decode cX5_copy 127 = .ok (.iload_n 3, 1) := by decide +kernel
theorem dX5_copy_128 : decode cX5_copy 128 = .ok (.aaload, 1) := by decide +kernel
theorem dX5_copy_129 : decode cX5_copy 129 = .ok (.iload 4, 2) := by decide +kernel
theorem dX5_copy_131 : decode cX5_copy 131 = .ok (.iload 5, 2) := by decide +kernel
theorem dX5_copy_133 : decode cX5_copy 133 = .ok (.invokestatic 222, 3) := by decide +kernel
theorem dX5_copy_136 : decode cX5_copy 136 = .ok (.iload 5, 2) := by decide +kernel
theorem dX5_copy_138 : decode cX5_copy 138 = .ok (.ireturn, 1) := by decide +kernel
theorem dX5_lays_0 : decode cX5_lays 0 = .ok (.iload_n 1, 1) := by decide +kernel
theorem dX5_lays_1 : decode cX5_lays 1 = .ok (.invokestatic 193, 3) := by decide +kernel
theorem dX5_lays_4 : decode cX5_lays 4 = .ok (.ifCond .ne 9, 3) := by decide +kernel
theorem dX5_lays_7 : decode cX5_lays 7 = .ok (.aload_n 0, 1) := by decide +kernel
theorem dX5_lays_8 : decode cX5_lays 8 = .ok (.iconst 0, 1) := by decide +kernel
theorem dX5_lays_9 : decode cX5_lays 9 = .ok (.invokevirtual 63, 3) := by decide +kernel
theorem dX5_lays_12 : decode cX5_lays 12 = .ok (.ireturn, 1) := by decide +kernel
theorem dX5_lays_13 : decode cX5_lays 13 = .ok (.aload_n 0, 1) := by decide +kernel
theorem dX5_lays_14 : decode cX5_lays 14 = .ok (.getfield 45, 3) := by decide +kernel
theorem dX5_lays_17 : decode cX5_lays 17 = .ok (.iload_n 1, 1) := by decide +kernel
theorem dX5_lays_18 : decode cX5_lays 18 = .ok (.invokevirtual 205, 3) := by decide +kernel
theorem dX5_lays_21 : decode cX5_lays 21 = .ok (.ifCond .eq 9, 3) := by decide +kernel
theorem dX5_lays_24 : decode cX5_lays 24 = .ok (.aload_n 0, 1) := by decide +kernel
theorem dX5_lays_25 : decode cX5_lays 25 = .ok (.iconst 5, 1) := by decide +kernel
theorem dX5_lays_26 : decode cX5_lays 26 = .ok (.invokevirtual 63, 3) := by decide +kernel
theorem dX5_lays_29 : decode cX5_lays 29 = .ok (.ireturn, 1) := by decide +kernel
theorem dX5_lays_30 : decode cX5_lays 30 = .ok (.iconst 0, 1) := by decide +kernel
theorem dX5_lays_31 : decode cX5_lays 31 = .ok (.istore_n 2, 1) := by decide +kernel
theorem dX5_lays_32 : decode cX5_lays 32 = .ok (.aload_n 0, 1) := by decide +kernel
theorem dX5_lays_33 : decode cX5_lays 33 = .ok (.getfield 45, 3) := by decide +kernel
theorem dX5_lays_36 : decode cX5_lays 36 = .ok (.getfield 202, 3) := by decide +kernel
theorem dX5_lays_39 : decode cX5_lays 39 = .ok (.iload_n 1, 1) := by decide +kernel
theorem dX5_lays_40 : decode cX5_lays 40 = .ok (.iaload, 1) := by decide +kernel
theorem dX5_lays_41 : decode cX5_lays 41 = .ok (.aload_n 0, 1) := by decide +kernel
theorem dX5_lays_42 : decode cX5_lays 42 = .ok (.getfield 10, 3) := by decide +kernel
theorem dX5_lays_45 : decode cX5_lays 45 = .ok (.getfield 175, 3) := by decide +kernel
theorem dX5_lays_48 : decode cX5_lays 48 = .ok (.invokestatic 228, 3) := by decide +kernel
theorem dX5_lays_51 : decode cX5_lays 51 = .ok (.istore_n 3, 1) := by decide +kernel
theorem dX5_lays_52 : decode cX5_lays 52 = .ok (.iconst 0, 1) := by decide +kernel
theorem dX5_lays_53 : decode cX5_lays 53 = .ok (.istore 4, 2) := by decide +kernel
theorem dX5_lays_55 : decode cX5_lays 55 = .ok (.iload 4, 2) := by decide +kernel
theorem dX5_lays_57 : decode cX5_lays 57 = .ok (.iload_n 3, 1) := by decide +kernel
theorem dX5_lays_58 : decode cX5_lays 58 = .ok (.if_icmp .ge 55, 3) := by decide +kernel
theorem dX5_lays_61 : decode cX5_lays 61 = .ok (.aload_n 0, 1) := by decide +kernel
theorem dX5_lays_62 : decode cX5_lays 62 = .ok (.getfield 45, 3) := by decide +kernel
theorem dX5_lays_65 : decode cX5_lays 65 = .ok (.getfield 208, 3) := by decide +kernel
theorem dX5_lays_68 : decode cX5_lays 68 = .ok (.iload_n 1, 1) := by decide +kernel
theorem dX5_lays_69 : decode cX5_lays 69 = .ok (.aaload, 1) := by decide +kernel
theorem dX5_lays_70 : decode cX5_lays 70 = .ok (.iload 4, 2) := by decide +kernel
theorem dX5_lays_72 : decode cX5_lays 72 = .ok (.laload, 1) := by decide +kernel
theorem dX5_lays_73 : decode cX5_lays 73 = .ok (.lstore 5, 2) := by decide +kernel
theorem dX5_lays_75 : decode cX5_lays 75 = .ok (.lload 5, 2) := by decide +kernel
theorem dX5_lays_77 : decode cX5_lays 77 = .ok (.lconst 0, 1) := by decide +kernel
theorem dX5_lays_78 : decode cX5_lays 78 = .ok (.lcmp, 1) := by decide +kernel
theorem dX5_lays_79 : decode cX5_lays 79 = .ok (.ifCond .lt 28, 3) := by decide +kernel
theorem dX5_lays_82 : decode cX5_lays 82 = .ok (.lload 5, 2) := by decide +kernel
theorem dX5_lays_84 : decode cX5_lays 84 = .ok (.ldc2_w 233, 3) := by decide +kernel
theorem dX5_lays_87 : decode cX5_lays 87 = .ok (.lcmp, 1) := by decide +kernel
theorem dX5_lays_88 : decode cX5_lays 88 = .ok (.ifCond .gt 19, 3) := by decide +kernel
theorem dX5_lays_91 : decode cX5_lays 91 = .ok (.aload_n 0, 1) := by decide +kernel
theorem dX5_lays_92 : decode cX5_lays 92 = .ok (.getfield 10, 3) := by decide +kernel
theorem dX5_lays_95 : decode cX5_lays 95 = .ok (.getfield 127, 3) := by decide +kernel
theorem dX5_lays_98 : decode cX5_lays 98 = .ok (.iload 4, 2) := by decide +kernel
theorem dX5_lays_100 : decode cX5_lays 100 = .ok (.lload 5, 2) := by decide +kernel
theorem dX5_lays_102 : decode cX5_lays 102 = .ok (.l2i, 1) := by decide +kernel
theorem dX5_lays_103 : decode cX5_lays 103 = .ok (.iastore, 1) := by decide +kernel
theorem dX5_lays_104 : decode cX5_lays 104 = .ok (.iinc 2 1, 3) := by decide +kernel
theorem dX5_lays_107 : decode cX5_lays 107 = .ok (.iinc 4 1, 3) := by decide +kernel
theorem dX5_lays_110 : decode cX5_lays 110 = .ok (.goto (-55), 3) := by decide +kernel
theorem dX5_lays_113 : decode cX5_lays 113 = .ok (.iload_n 2, 1) := by decide +kernel
theorem dX5_lays_114 : decode cX5_lays 114 = .ok (.ireturn, 1) := by decide +kernel
theorem dX5_book_0 : decode cX5_book 0 = .ok (.iload_n 1, 1) := by decide +kernel
theorem dX5_book_1 : decode cX5_book 1 = .ok (.invokestatic 193, 3) := by decide +kernel
theorem dX5_book_4 : decode cX5_book 4 = .ok (.ifCond .ne 9, 3) := by decide +kernel
theorem dX5_book_7 : decode cX5_book 7 = .ok (.aload_n 0, 1) := by decide +kernel
theorem dX5_book_8 : decode cX5_book 8 = .ok (.iconst 0, 1) := by decide +kernel
theorem dX5_book_9 : decode cX5_book 9 = .ok (.invokevirtual 63, 3) := by decide +kernel
theorem dX5_book_12 : decode cX5_book 12 = .ok (.ireturn, 1) := by decide +kernel
theorem dX5_book_13 : decode cX5_book 13 = .ok (.aload_n 0, 1) := by decide +kernel
theorem dX5_book_14 : decode cX5_book 14 = .ok (.getfield 45, 3) := by decide +kernel
theorem dX5_book_17 : decode cX5_book 17 = .ok (.iload_n 1, 1) := by decide +kernel
theorem dX5_book_18 : decode cX5_book 18 = .ok (.invokevirtual 205, 3) := by decide +kernel
theorem dX5_book_21 : decode cX5_book 21 = .ok (.ifCond .eq 9, 3) := by decide +kernel
theorem dX5_book_24 : decode cX5_book 24 = .ok (.aload_n 0, 1) := by decide +kernel
theorem dX5_book_25 : decode cX5_book 25 = .ok (.iconst 5, 1) := by decide +kernel
theorem dX5_book_26 : decode cX5_book 26 = .ok (.invokevirtual 63, 3) := by decide +kernel
theorem dX5_book_29 : decode cX5_book 29 = .ok (.ireturn, 1) := by decide +kernel
theorem dX5_book_30 : decode cX5_book 30 = .ok (.aload_n 0, 1) := by decide +kernel
theorem dX5_book_31 : decode cX5_book 31 = .ok (.iload_n 2, 1) := by decide +kernel
theorem dX5_book_32 : decode cX5_book 32 = .ok (.invokevirtual 118, 3) := by decide +kernel
theorem dX5_book_35 : decode cX5_book 35 = .ok (.ifCond .ne 9, 3) := by decide +kernel
theorem dX5_book_38 : decode cX5_book 38 = .ok (.aload_n 0, 1) := by decide +kernel
theorem dX5_book_39 : decode cX5_book 39 = .ok (.iconst 0, 1) := by decide +kernel
theorem dX5_book_40 : decode cX5_book 40 = .ok (.invokevirtual 63, 3) := by decide +kernel
theorem dX5_book_43 : decode cX5_book 43 = .ok (.ireturn, 1) := by decide +kernel
theorem dX5_book_44 : decode cX5_book 44 = .ok (.aload_n 0, 1) := by decide +kernel
theorem dX5_book_45 : decode cX5_book 45 = .ok (.getfield 16, 3) := by decide +kernel
theorem dX5_book_48 : decode cX5_book 48 = .ok (.aload_n 0, 1) := by decide +kernel
theorem dX5_book_49 : decode cX5_book 49 = .ok (.getfield 10, 3) := by decide +kernel
theorem dX5_book_52 : decode cX5_book 52 = .ok (.invokevirtual 163, 3) := by decide +kernel
theorem dX5_book_55 : decode cX5_book 55 = .ok (.iconst 0, 1) := by decide +kernel
theorem dX5_book_56 : decode cX5_book 56 = .ok (.istore_n 3, 1) := by decide +kernel
theorem dX5_book_57 : decode cX5_book 57 = .ok (.iload_n 3, 1) := by decide +kernel
theorem dX5_book_58 : decode cX5_book 58 = .ok (.aload_n 0, 1) := by decide +kernel
theorem dX5_book_59 : decode cX5_book 59 = .ok (.getfield 45, 3) := by decide +kernel
theorem dX5_book_62 : decode cX5_book 62 = .ok (.getfield 202, 3) := by decide +kernel
theorem dX5_book_65 : decode cX5_book 65 = .ok (.iload_n 1, 1) := by decide +kernel
theorem dX5_book_66 : decode cX5_book 66 = .ok (.iaload, 1) := by decide +kernel
theorem dX5_book_67 : decode cX5_book 67 = .ok (.if_icmp .ge 35, 3) := by decide +kernel
theorem dX5_book_70 : decode cX5_book 70 = .ok (.aload_n 0, 1) := by decide +kernel
theorem dX5_book_71 : decode cX5_book 71 = .ok (.getfield 45, 3) := by decide +kernel
theorem dX5_book_74 : decode cX5_book 74 = .ok (.iload_n 1, 1) := by decide +kernel
theorem dX5_book_75 : decode cX5_book 75 = .ok (.iload_n 3, 1) := by decide +kernel
theorem dX5_book_76 : decode cX5_book 76 = .ok (.aload_n 0, 1) := by decide +kernel
theorem dX5_book_77 : decode cX5_book 77 = .ok (.getfield 16, 3) := by decide +kernel
theorem dX5_book_80 : decode cX5_book 80 = .ok (.getfield 127, 3) := by decide +kernel
theorem dX5_book_83 : decode cX5_book 83 = .ok (.iload_n 2, 1) := by decide +kernel
theorem dX5_book_84 : decode cX5_book 84 = .ok (.iaload, 1) := by decide +kernel
theorem dX5_book_85 : decode cX5_book 85 = .ok (.i2l, 1) := by decide +kernel
theorem dX5_book_86 : decode cX5_book 86 = .ok (.invokevirtual 212, 3) := by decide +kernel
theorem dX5_book_89 : decode cX5_book 89 = .ok (.aload_n 0, 1) := by decide +kernel
theorem dX5_book_90 : decode cX5_book 90 = .ok (.getfield 16, 3) := by decide +kernel
theorem dX5_book_93 : decode cX5_book 93 = .ok (.invokevirtual 167, 3) := by decide +kernel
theorem dX5_book_96 : decode cX5_book 96 = .ok (.iinc 3 1, 3) := by decide +kernel
theorem dX5_book_99 : decode cX5_book 99 = .ok (.goto (-42), 3) := by decide +kernel
theorem dX5_book_102 : decode cX5_book 102 = .ok (.aload_n 0, 1) := by decide +kernel
theorem dX5_book_103 : decode cX5_book 103 = .ok (.getfield 45, 3) := by decide +kernel
theorem dX5_book_106 : decode cX5_book 106 = .ok (.getfield 202, 3) := by decide +kernel
theorem dX5_book_109 : decode cX5_book 109 = .ok (.iload_n 1, 1) := by decide +kernel
theorem dX5_book_110 : decode cX5_book 110 = .ok (.iaload, 1) := by decide +kernel
theorem dX5_book_111 : decode cX5_book 111 = .ok (.ireturn, 1) := by decide +kernel
theorem dX5_read_0 : decode cX5_read 0 = .ok (.iload_n 1, 1) := by decide +kernel
theorem dX5_read_1 : decode cX5_read 1 = .ok (.invokestatic 193, 3) := by decide +kernel
theorem dX5_read_4 : decode cX5_read 4 = .ok (.ifCond .ne 9, 3) := by decide +kernel
theorem dX5_read_7 : decode cX5_read 7 = .ok (.aload_n 0, 1) := by decide +kernel
theorem dX5_read_8 : decode cX5_read 8 = .ok (.iconst 0, 1) := by decide +kernel
theorem dX5_read_9 : decode cX5_read 9 = .ok (.invokevirtual 63, 3) := by decide +kernel
theorem dX5_read_12 : decode cX5_read 12 = .ok (.ireturn, 1) := by decide +kernel
theorem dX5_read_13 : decode cX5_read 13 = .ok (.aload_n 0, 1) := by decide +kernel
theorem dX5_read_14 : decode cX5_read 14 = .ok (.getfield 45, 3) := by decide +kernel
theorem dX5_read_17 : decode cX5_read 17 = .ok (.iload_n 1, 1) := by decide +kernel
theorem dX5_read_18 : decode cX5_read 18 = .ok (.invokevirtual 205, 3) := by decide +kernel
theorem dX5_read_21 : decode cX5_read 21 = .ok (.ifCond .eq 9, 3) := by decide +kernel
theorem dX5_read_24 : decode cX5_read 24 = .ok (.aload_n 0, 1) := by decide +kernel
theorem dX5_read_25 : decode cX5_read 25 = .ok (.iconst 5, 1) := by decide +kernel
theorem dX5_read_26 : decode cX5_read 26 = .ok (.invokevirtual 63, 3) := by decide +kernel
theorem dX5_read_29 : decode cX5_read 29 = .ok (.ireturn, 1) := by decide +kernel
theorem dX5_read_30 : decode cX5_read 30 = .ok (.aload_n 0, 1) := by decide +kernel
theorem dX5_read_31 : decode cX5_read 31 = .ok (.iload_n 2, 1) := by decide +kernel
theorem dX5_read_32 : decode cX5_read 32 = .ok (.invokevirtual 118, 3) := by decide +kernel
theorem dX5_read_35 : decode cX5_read 35 = .ok (.ifCond .eq 16, 3) := by decide +kernel
theorem dX5_read_38 : decode cX5_read 38 = .ok (.aload_n 0, 1) := by decide +kernel
theorem dX5_read_39 : decode cX5_read 39 = .ok (.iload_n 3, 1) := by decide +kernel
theorem dX5_read_40 : decode cX5_read 40 = .ok (.invokevirtual 118, 3) := by decide +kernel
theorem dX5_read_43 : decode cX5_read 43 = .ok (.ifCond .eq 8, 3) := by decide +kernel
theorem dX5_read_46 : decode cX5_read 46 = .ok (.iload_n 2, 1) := by decide +kernel
theorem dX5_read_47 : decode cX5_read 47 = .ok (.iload_n 3, 1) := by decide +kernel
theorem dX5_read_48 : decode cX5_read 48 = .ok (.if_icmp .ne 9, 3) := by decide +kernel
theorem dX5_read_51 : decode cX5_read 51 = .ok (.aload_n 0, 1) := by decide +kernel
theorem dX5_read_52 : decode cX5_read 52 = .ok (.iconst 0, 1) := by decide +kernel
theorem dX5_read_53 : decode cX5_read 53 = .ok (.invokevirtual 63, 3) := by decide +kernel
theorem dX5_read_56 : decode cX5_read 56 = .ok (.ireturn, 1) := by decide +kernel
theorem dX5_read_57 : decode cX5_read 57 = .ok (.iconst 0, 1) := by decide +kernel
theorem dX5_read_58 : decode cX5_read 58 = .ok (.istore 4, 2) := by decide +kernel
theorem dX5_read_60 : decode cX5_read 60 = .ok (.iconst 0, 1) := by decide +kernel
theorem dX5_read_61 : decode cX5_read 61 = .ok (.istore 5, 2) := by decide +kernel
theorem dX5_read_63 : decode cX5_read 63 = .ok (.iload 5, 2) := by decide +kernel
theorem dX5_read_65 : decode cX5_read 65 = .ok (.bipush 6, 2) := by decide +kernel
theorem dX5_read_67 : decode cX5_read 67 = .ok (.if_icmp .ge 70, 3) := by decide +kernel
theorem dX5_read_70 : decode cX5_read 70 = .ok (.iconst 0, 1) := by decide +kernel
theorem dX5_read_71 : decode cX5_read 71 = .ok (.istore 6, 2) := by decide +kernel
theorem dX5_read_73 : decode cX5_read 73 = .ok (.iload 6, 2) := by decide +kernel
theorem dX5_read_75 : decode cX5_read 75 = .ok (.bipush 6, 2) := by decide +kernel
theorem dX5_read_77 : decode cX5_read 77 = .ok (.if_icmp .ge 54, 3) := by decide +kernel
theorem dX5_read_80 : decode cX5_read 80 = .ok (.aload_n 0, 1) := by decide +kernel
theorem dX5_read_81 : decode cX5_read 81 = .ok (.getfield 16, 3) := by decide +kernel
theorem dX5_read_84 : decode cX5_read 84 = .ok (.aload_n 0, 1) := by decide +kernel
theorem dX5_read_85 : decode cX5_read 85 = .ok (.getfield 10, 3) := by decide +kernel
theorem dX5_read_88 : decode cX5_read 88 = .ok (.invokevirtual 163, 3) := by decide +kernel
theorem dX5_read_91 : decode cX5_read 91 = .ok (.aload_n 0, 1) := by decide +kernel
theorem dX5_read_92 : decode cX5_read 92 = .ok (.getfield 16, 3) := by decide +kernel
theorem dX5_read_95 : decode cX5_read 95 = .ok (.getfield 121, 3) := by decide +kernel
theorem dX5_read_98 : decode cX5_read 98 = .ok (.iload_n 2, 1) := by decide +kernel
theorem dX5_read_99 : decode cX5_read 99 = .ok (.iload 5, 2) := by decide +kernel
theorem dX5_read_101 : decode cX5_read 101 = .ok (.iastore, 1) := by decide +kernel
theorem dX5_read_102 : decode cX5_read 102 = .ok (.aload_n 0, 1) := by decide +kernel
theorem dX5_read_103 : decode cX5_read 103 = .ok (.getfield 16, 3) := by decide +kernel
theorem dX5_read_106 : decode cX5_read 106 = .ok (.getfield 121, 3) := by decide +kernel
theorem dX5_read_109 : decode cX5_read 109 = .ok (.iload_n 3, 1) := by decide +kernel
theorem dX5_read_110 : decode cX5_read 110 = .ok (.iload 6, 2) := by decide +kernel
theorem dX5_read_112 : decode cX5_read 112 = .ok (.iastore, 1) := by decide +kernel
theorem dX5_read_113 : decode cX5_read 113 = .ok (.aload_n 0, 1) := by decide +kernel
theorem dX5_read_114 : decode cX5_read 114 = .ok (.iload_n 1, 1) := by decide +kernel
theorem dX5_read_115 : decode cX5_read 115 = .ok (.iload_n 2, 1) := by decide +kernel
theorem dX5_read_116 : decode cX5_read 116 = .ok (.invokevirtual 235, 3) := by decide +kernel
theorem dX5_read_119 : decode cX5_read 119 = .ok (.ifCond .eq 6, 3) := by decide +kernel
theorem dX5_read_122 : decode cX5_read 122 = .ok (.iinc 4 1, 3) := by decide +kernel
theorem dX5_read_125 : decode cX5_read 125 = .ok (.iinc 6 1, 3) := by decide +kernel
theorem dX5_read_128 : decode cX5_read 128 = .ok (.goto (-55), 3) := by decide +kernel
theorem dX5_read_131 : decode cX5_read 131 = .ok (.iinc 5 1, 3) := by decide +kernel
theorem dX5_read_134 : decode cX5_read 134 = .ok (.goto (-71), 3) := by decide +kernel
theorem dX5_read_137 : decode cX5_read 137 = .ok (.iload 4, 2) := by decide +kernel
theorem dX5_read_139 : decode cX5_read 139 = .ok (.ireturn, 1) := by decide +kernel
theorem dX5_image_0 : decode cX5_image 0 = .ok (.aload_n 0, 1) := by decide +kernel
theorem dX5_image_1 : decode cX5_image 1 = .ok (.getfield 19, 3) := by decide +kernel
theorem dX5_image_4 : decode cX5_image 4 = .ok (.aload_n 0, 1) := by decide +kernel
theorem dX5_image_5 : decode cX5_image 5 = .ok (.getfield 10, 3) := by decide +kernel
theorem dX5_image_8 : decode cX5_image 8 = .ok (.invokevirtual 163, 3) := by decide +kernel
theorem dX5_image_11 : decode cX5_image 11 = .ok (.aload_n 0, 1) := by decide +kernel
theorem dX5_image_12 : decode cX5_image 12 = .ok (.iconst 1, 1) := by decide +kernel
theorem dX5_image_13 : decode cX5_image 13 = .ok (.putfield 22, 3) := by decide +kernel
theorem dX5_image_16 : decode cX5_image 16 = .ok (.iconst 1, 1) := by decide +kernel
theorem dX5_image_17 : decode cX5_image 17 = .ok (.ireturn, 1) := by decide +kernel
theorem dX5_undo_0 : decode cX5_undo 0 = .ok (.aload_n 0, 1) := by decide +kernel
theorem dX5_undo_1 : decode cX5_undo 1 = .ok (.getfield 22, 3) := by decide +kernel
theorem dX5_undo_4 : decode cX5_undo 4 = .ok (.ifCond .ne 9, 3) := by decide +kernel
theorem dX5_undo_7 : decode cX5_undo 7 = .ok (.aload_n 0, 1) := by decide +kernel
theorem dX5_undo_8 : decode cX5_undo 8 = .ok (.iconst 3, 1) := by decide +kernel
theorem dX5_undo_9 : decode cX5_undo 9 = .ok (.invokevirtual 63, 3) := by decide +kernel
theorem dX5_undo_12 : decode cX5_undo 12 = .ok (.ireturn, 1) := by decide +kernel
theorem dX5_undo_13 : decode cX5_undo 13 = .ok (.aload_n 0, 1) := by decide +kernel
theorem dX5_undo_14 : decode cX5_undo 14 = .ok (.getfield 10, 3) := by decide +kernel
theorem dX5_undo_17 : decode cX5_undo 17 = .ok (.aload_n 0, 1) := by decide +kernel
theorem dX5_undo_18 : decode cX5_undo 18 = .ok (.getfield 19, 3) := by decide +kernel
theorem dX5_undo_21 : decode cX5_undo 21 = .ok (.invokevirtual 163, 3) := by decide +kernel
theorem dX5_undo_24 : decode cX5_undo 24 = .ok (.aload_n 0, 1) := by decide +kernel
theorem dX5_undo_25 : decode cX5_undo 25 = .ok (.getfield 10, 3) := by decide +kernel
theorem dX5_undo_28 : decode cX5_undo 28 = .ok (.getfield 175, 3) := by decide +kernel
theorem dX5_undo_31 : decode cX5_undo 31 = .ok (.ireturn, 1) := by decide +kernel
theorem dX5_tear_0 : decode cX5_tear 0 = .ok (.aload_n 0, 1) := by decide +kernel
theorem dX5_tear_1 : decode cX5_tear 1 = .ok (.getfield 22, 3) := by decide +kernel
theorem dX5_tear_4 : decode cX5_tear 4 = .ok (.ifCond .eq 7, 3) := by decide +kernel
theorem dX5_tear_7 : decode cX5_tear 7 = .ok (.iconst 1, 1) := by decide +kernel
theorem dX5_tear_8 : decode cX5_tear 8 = .ok (.goto 4, 3) := by decide +kernel
theorem dX5_tear_11 : decode cX5_tear 11 = .ok (.iconst 0, 1) := by decide +kernel
theorem dX5_tear_12 : decode cX5_tear 12 = .ok (.istore_n 1, 1) := by decide +kernel
theorem dX5_tear_13 : decode cX5_tear 13 = .ok (.aload_n 0, 1) := by decide +kernel
theorem dX5_tear_14 : decode cX5_tear 14 = .ok (.iconst 0, 1) := by decide +kernel
theorem dX5_tear_15 : decode cX5_tear 15 = .ok (.putfield 22, 3) := by decide +kernel
theorem dX5_tear_18 : decode cX5_tear 18 = .ok (.iload_n 1, 1) := by decide +kernel
theorem dX5_tear_19 : decode cX5_tear 19 = .ok (.ireturn, 1) := by decide +kernel
theorem dX5_count_0 : decode cX5_count 0 = .ok (.iload_n 1, 1) := by decide +kernel
theorem dX5_count_1 : decode cX5_count 1 = .ok (.tableswitch 65 0 3 #[31, 39, 47, 56], 31) := by decide +kernel
theorem dX5_count_32 : decode cX5_count 32 = .ok (.aload_n 0, 1) := by decide +kernel
theorem dX5_count_33 : decode cX5_count 33 = .ok (.getfield 10, 3) := by decide +kernel
theorem dX5_count_36 : decode cX5_count 36 = .ok (.getfield 175, 3) := by decide +kernel
theorem dX5_count_39 : decode cX5_count 39 = .ok (.ireturn, 1) := by decide +kernel
theorem dX5_count_40 : decode cX5_count 40 = .ok (.aload_n 0, 1) := by decide +kernel
theorem dX5_count_41 : decode cX5_count 41 = .ok (.getfield 29, 3) := by decide +kernel
theorem dX5_count_44 : decode cX5_count 44 = .ok (.getfield 187, 3) := by decide +kernel
theorem dX5_count_47 : decode cX5_count 47 = .ok (.ireturn, 1) := by decide +kernel
theorem dX5_count_48 : decode cX5_count 48 = .ok (.aload_n 0, 1) := by decide +kernel
theorem dX5_count_49 : decode cX5_count 49 = .ok (.getfield 10, 3) := by decide +kernel
theorem dX5_count_52 : decode cX5_count 52 = .ok (.iconst 0, 1) := by decide +kernel
theorem dX5_count_53 : decode cX5_count 53 = .ok (.invokevirtual 105, 3) := by decide +kernel
theorem dX5_count_56 : decode cX5_count 56 = .ok (.ireturn, 1) := by decide +kernel
theorem dX5_count_57 : decode cX5_count 57 = .ok (.aload_n 0, 1) := by decide +kernel
theorem dX5_count_58 : decode cX5_count 58 = .ok (.getfield 10, 3) := by decide +kernel
theorem dX5_count_61 : decode cX5_count 61 = .ok (.iconst 1, 1) := by decide +kernel
theorem dX5_count_62 : decode cX5_count 62 = .ok (.invokevirtual 105, 3) := by decide +kernel
theorem dX5_count_65 : decode cX5_count 65 = .ok (.ireturn, 1) := by decide +kernel
theorem dX5_count_66 : decode cX5_count 66 = .ok (.aload_n 0, 1) := by decide +kernel
theorem dX5_count_67 : decode cX5_count 67 = .ok (.iconst 0, 1) := by decide +kernel
theorem dX5_count_68 : decode cX5_count 68 = .ok (.invokevirtual 63, 3) := by decide +kernel
theorem dX5_count_71 : decode cX5_count 71 = .ok (.ireturn, 1) := by decide +kernel
theorem dX5_status_0 : decode cX5_status 0 = .ok (.iload_n 1, 1) := by decide +kernel
theorem dX5_status_1 : decode cX5_status 1 = .ok (.iconst (-1), 1) := by decide +kernel
theorem dX5_status_2 : decode cX5_status 2 = .ok (.if_icmp .ne 30, 3) := by decide +kernel
theorem dX5_status_5 : decode cX5_status 5 = .ok (.iconst 0, 1) := by decide +kernel
theorem dX5_status_6 : decode cX5_status 6 = .ok (.istore_n 2, 1) := by decide +kernel
theorem dX5_status_7 : decode cX5_status 7 = .ok (.iconst 0, 1) := by decide +kernel
theorem dX5_status_8 : decode cX5_status 8 = .ok (.istore_n 3, 1) := by decide +kernel
theorem dX5_status_9 : decode cX5_status 9 = .ok (.iload_n 3, 1) := by decide +kernel
theorem dX5_status_10 : decode cX5_status 10 = .ok (.bipush 7, 2) := by decide +kernel
theorem dX5_status_12 : decode cX5_status 12 = .ok (.if_icmp .ge 18, 3) := by decide +kernel
theorem dX5_status_15 : decode cX5_status 15 = .ok (.iload_n 2, 1) := by decide +kernel
theorem dX5_status_16 : decode cX5_status 16 = .ok (.aload_n 0, 1) := by decide +kernel
theorem dX5_status_17 : decode cX5_status 17 = .ok (.getfield 49, 3) := by decide +kernel
theorem dX5_status_20 : decode cX5_status 20 = .ok (.iload_n 3, 1) := by decide +kernel
theorem dX5_status_21 : decode cX5_status 21 = .ok (.iaload, 1) := by decide +kernel
theorem dX5_status_22 : decode cX5_status 22 = .ok (.iadd, 1) := by decide +kernel
theorem dX5_status_23 : decode cX5_status 23 = .ok (.istore_n 2, 1) := by decide +kernel
theorem dX5_status_24 : decode cX5_status 24 = .ok (.iinc 3 1, 3) := by decide +kernel
theorem dX5_status_27 : decode cX5_status 27 = .ok (.goto (-18), 3) := by decide +kernel
theorem dX5_status_30 : decode cX5_status 30 = .ok (.iload_n 2, 1) := by decide +kernel
theorem dX5_status_31 : decode cX5_status 31 = .ok (.ireturn, 1) := by decide +kernel
theorem dX5_status_32 : decode cX5_status 32 = .ok (.iload_n 1, 1) := by decide +kernel
theorem dX5_status_33 : decode cX5_status 33 = .ok (.iconst 0, 1) := by decide +kernel
theorem dX5_status_34 : decode cX5_status 34 = .ok (.bipush 6, 2) := by decide +kernel
theorem dX5_status_36 : decode cX5_status 36 = .ok (.invokestatic 75, 3) := by decide +kernel
theorem dX5_status_39 : decode cX5_status 39 = .ok (.ifCond .ne 9, 3) := by decide +kernel
theorem dX5_status_42 : decode cX5_status 42 = .ok (.aload_n 0, 1) := by decide +kernel
theorem dX5_status_43 : decode cX5_status 43 = .ok (.iconst 0, 1) := by decide +kernel
theorem dX5_status_44 : decode cX5_status 44 = .ok (.invokevirtual 63, 3) := by decide +kernel
theorem dX5_status_47 : decode cX5_status 47 = .ok (.ireturn, 1) := by decide +kernel
theorem dX5_status_48 : decode cX5_status 48 = .ok (.aload_n 0, 1) := by decide +kernel
theorem dX5_status_49 : decode cX5_status 49 = .ok (.getfield 49, 3) := by decide +kernel
theorem dX5_status_52 : decode cX5_status 52 = .ok (.iload_n 1, 1) := by decide +kernel
theorem dX5_status_53 : decode cX5_status 53 = .ok (.iaload, 1) := by decide +kernel
theorem dX5_status_54 : decode cX5_status 54 = .ok (.ireturn, 1) := by decide +kernel
theorem dX5_finding_0 : decode cX5_finding 0 = .ok (.iload_n 1, 1) := by decide +kernel
theorem dX5_finding_1 : decode cX5_finding 1 = .ok (.iconst 0, 1) := by decide +kernel
theorem dX5_finding_2 : decode cX5_finding 2 = .ok (.bipush 6, 2) := by decide +kernel
theorem dX5_finding_4 : decode cX5_finding 4 = .ok (.invokestatic 75, 3) := by decide +kernel
theorem dX5_finding_7 : decode cX5_finding 7 = .ok (.ifCond .eq 13, 3) := by decide +kernel
theorem dX5_finding_10 : decode cX5_finding 10 = .ok (.aload_n 0, 1) := by decide +kernel
theorem dX5_finding_11 : decode cX5_finding 11 = .ok (.getfield 49, 3) := by decide +kernel
theorem dX5_finding_14 : decode cX5_finding 14 = .ok (.iload_n 1, 1) := by decide +kernel
theorem dX5_finding_15 : decode cX5_finding 15 = .ok (.dup2, 1) := by decide +kernel
theorem dX5_finding_16 : decode cX5_finding 16 = .ok (.iaload, 1) := by decide +kernel
theorem dX5_finding_17 : decode cX5_finding 17 = .ok (.iconst 1, 1) := by decide +kernel
theorem dX5_finding_18 : decode cX5_finding 18 = .ok (.iadd, 1) := by decide +kernel
theorem dX5_finding_19 : decode cX5_finding 19 = .ok (.iastore, 1) := by decide +kernel
theorem dX5_finding_20 : decode cX5_finding 20 = .ok (.ldc 238, 2) := by decide +kernel
theorem dX5_finding_22 : decode cX5_finding 22 = .ok (.iload_n 1, 1) := by decide +kernel
theorem dX5_finding_23 : decode cX5_finding 23 = .ok (.isub, 1) := by decide +kernel
theorem dX5_finding_24 : decode cX5_finding 24 = .ok (.ireturn, 1) := by decide +kernel
theorem dX5_change_0 : decode cX5_change 0 = .ok (.aload_n 0, 1) := by decide +kernel
theorem dX5_change_1 : decode cX5_change 1 = .ok (.iload_n 1, 1) := by decide +kernel
theorem dX5_change_2 : decode cX5_change 2 = .ok (.iaload, 1) := by decide +kernel
theorem dX5_change_3 : decode cX5_change 3 = .ok (.istore_n 3, 1) := by decide +kernel
theorem dX5_change_4 : decode cX5_change 4 = .ok (.aload_n 0, 1) := by decide +kernel
theorem dX5_change_5 : decode cX5_change 5 = .ok (.iload_n 1, 1) := by decide +kernel
theorem dX5_change_6 : decode cX5_change 6 = .ok (.iload_n 2, 1) := by decide +kernel
theorem dX5_change_7 : decode cX5_change 7 = .ok (.iastore, 1) := by decide +kernel
theorem dX5_change_8 : decode cX5_change 8 = .ok (.iload_n 3, 1) := by decide +kernel
theorem dX5_change_9 : decode cX5_change 9 = .ok (.ireturn, 1) := by decide +kernel
theorem dX5_tryDays_0 : decode cX5_tryDays 0 = .ok (.aload_n 0, 1) := by decide +kernel
theorem dX5_tryDays_1 : decode cX5_tryDays 1 = .ok (.getfield 16, 3) := by decide +kernel
theorem dX5_tryDays_4 : decode cX5_tryDays 4 = .ok (.aload_n 0, 1) := by decide +kernel
theorem dX5_tryDays_5 : decode cX5_tryDays 5 = .ok (.getfield 10, 3) := by decide +kernel
theorem dX5_tryDays_8 : decode cX5_tryDays 8 = .ok (.invokevirtual 163, 3) := by decide +kernel
theorem dX5_tryDays_11 : decode cX5_tryDays 11 = .ok (.aload_n 0, 1) := by decide +kernel
theorem dX5_tryDays_12 : decode cX5_tryDays 12 = .ok (.getfield 16, 3) := by decide +kernel
theorem dX5_tryDays_15 : decode cX5_tryDays 15 = .ok (.iload_n 1, 1) := by decide +kernel
theorem dX5_tryDays_16 : decode cX5_tryDays 16 = .ok (.invokevirtual 156, 3) := by decide +kernel
theorem dX5_tryDays_19 : decode cX5_tryDays 19 = .ok (.return_, 1) := by decide +kernel
theorem dX5_heldIfBribed_0 : decode cX5_heldIfBribed 0 = .ok (.aload_n 0, 1) := by decide +kernel
theorem dX5_heldIfBribed_1 : decode cX5_heldIfBribed 1 = .ok (.getfield 16, 3) := by decide +kernel
theorem dX5_heldIfBribed_4 : decode cX5_heldIfBribed 4 = .ok (.aload_n 0, 1) := by decide +kernel
theorem dX5_heldIfBribed_5 : decode cX5_heldIfBribed 5 = .ok (.getfield 10, 3) := by decide +kernel
theorem dX5_heldIfBribed_8 : decode cX5_heldIfBribed 8 = .ok (.invokevirtual 163, 3) := by decide +kernel
theorem dX5_heldIfBribed_11 : decode cX5_heldIfBribed 11 = .ok (.aload_n 0, 1) := by decide +kernel
theorem dX5_heldIfBribed_12 : decode cX5_heldIfBribed 12 = .ok (.getfield 16, 3) := by decide +kernel
theorem dX5_heldIfBribed_15 : decode cX5_heldIfBribed 15 = .ok (.iload_n 1, 1) := by decide +kernel
theorem dX5_heldIfBribed_16 : decode cX5_heldIfBribed 16 = .ok (.putfield 82, 3) := by decide +kernel
theorem dX5_heldIfBribed_19 : decode cX5_heldIfBribed 19 = .ok (.aload_n 0, 1) := by decide +kernel
theorem dX5_heldIfBribed_20 : decode cX5_heldIfBribed 20 = .ok (.getfield 16, 3) := by decide +kernel
theorem dX5_heldIfBribed_23 : decode cX5_heldIfBribed 23 = .ok (.iload_n 2, 1) := by decide +kernel
theorem dX5_heldIfBribed_24 : decode cX5_heldIfBribed 24 = .ok (.invokevirtual 156, 3) := by decide +kernel
theorem dX5_heldIfBribed_27 : decode cX5_heldIfBribed 27 = .ok (.aload_n 0, 1) := by decide +kernel
theorem dX5_heldIfBribed_28 : decode cX5_heldIfBribed 28 = .ok (.getfield 16, 3) := by decide +kernel
theorem dX5_heldIfBribed_31 : decode cX5_heldIfBribed 31 = .ok (.getfield 89, 3) := by decide +kernel
theorem dX5_heldIfBribed_34 : decode cX5_heldIfBribed 34 = .ok (.invokestatic 170, 3) := by decide +kernel
theorem dX5_heldIfBribed_37 : decode cX5_heldIfBribed 37 = .ok (.ireturn, 1) := by decide +kernel
theorem dX5_trialGoesAsBooked_0 : decode cX5_trialGoesAsBooked 0 = .ok (.iconst 0, 1) := by decide +kernel
theorem dX5_trialGoesAsBooked_1 : decode cX5_trialGoesAsBooked 1 = .ok (.istore_n 3, 1) := by decide +kernel
theorem dX5_trialGoesAsBooked_2 : decode cX5_trialGoesAsBooked 2 = .ok (.iload_n 3, 1) := by decide +kernel
theorem dX5_trialGoesAsBooked_3 : decode cX5_trialGoesAsBooked 3 = .ok (.aload_n 0, 1) := by decide +kernel
theorem dX5_trialGoesAsBooked_4 : decode cX5_trialGoesAsBooked 4 = .ok (.getfield 45, 3) := by decide +kernel
theorem dX5_trialGoesAsBooked_7 : decode cX5_trialGoesAsBooked 7 = .ok (.getfield 202, 3) := by decide +kernel
theorem dX5_trialGoesAsBooked_10 : decode cX5_trialGoesAsBooked 10 = .ok (.iload_n 1, 1) := by decide +kernel
theorem dX5_trialGoesAsBooked_11 : decode cX5_trialGoesAsBooked 11 = .ok (.iaload, 1) := by decide +kernel
theorem dX5_trialGoesAsBooked_12 : decode cX5_trialGoesAsBooked 12 = .ok (.if_icmp .ge 43, 3) := by decide +kernel
theorem dX5_trialGoesAsBooked_15 : decode cX5_trialGoesAsBooked 15 = .ok (.aload_n 0, 1) := by decide +kernel
theorem dX5_trialGoesAsBooked_16 : decode cX5_trialGoesAsBooked 16 = .ok (.getfield 45, 3) := by decide +kernel
theorem dX5_trialGoesAsBooked_19 : decode cX5_trialGoesAsBooked 19 = .ok (.getfield 208, 3) := by decide +kernel
theorem dX5_trialGoesAsBooked_22 : decode cX5_trialGoesAsBooked 22 = .ok (.iload_n 1, 1) := by decide +kernel
theorem dX5_trialGoesAsBooked_23 : decode cX5_trialGoesAsBooked 23 = .ok (.aaload, 1) := by decide +kernel
theorem dX5_trialGoesAsBooked_24 : decode cX5_trialGoesAsBooked 24 = .ok (.iload_n 3, 1) := by decide +kernel
theorem dX5_trialGoesAsBooked_25 : decode cX5_trialGoesAsBooked 25 = .ok (.laload, 1) := by decide +kernel
theorem dX5_trialGoesAsBooked_26 : decode cX5_trialGoesAsBooked 26 = .ok (.aload_n 0, 1) := by decide +kernel
theorem dX5_trialGoesAsBooked_27 : decode cX5_trialGoesAsBooked 27 = .ok (.getfield 16, 3) := by decide +kernel
theorem dX5_trialGoesAsBooked_30 : decode cX5_trialGoesAsBooked 30 = .ok (.getfield 127, 3) := by decide +kernel
theorem dX5_trialGoesAsBooked_33 : decode cX5_trialGoesAsBooked 33 = .ok (.iload_n 2, 1) := by decide +kernel
theorem dX5_trialGoesAsBooked_34 : decode cX5_trialGoesAsBooked 34 = .ok (.iaload, 1) := by decide +kernel
theorem dX5_trialGoesAsBooked_35 : decode cX5_trialGoesAsBooked 35 = .ok (.i2l, 1) := by decide +kernel
theorem dX5_trialGoesAsBooked_36 : decode cX5_trialGoesAsBooked 36 = .ok (.lcmp, 1) := by decide +kernel
theorem dX5_trialGoesAsBooked_37 : decode cX5_trialGoesAsBooked 37 = .ok (.ifCond .eq 5, 3) := by decide +kernel
theorem dX5_trialGoesAsBooked_40 : decode cX5_trialGoesAsBooked 40 = .ok (.iconst 0, 1) := by decide +kernel
theorem dX5_trialGoesAsBooked_41 : decode cX5_trialGoesAsBooked 41 = .ok (.ireturn, 1) := by decide +kernel
theorem dX5_trialGoesAsBooked_42 : decode cX5_trialGoesAsBooked 42 = .ok (.aload_n 0, 1) := by decide +kernel
theorem dX5_trialGoesAsBooked_43 : decode cX5_trialGoesAsBooked 43 = .ok (.getfield 16, 3) := by decide +kernel
theorem dX5_trialGoesAsBooked_46 : decode cX5_trialGoesAsBooked 46 = .ok (.invokevirtual 167, 3) := by decide +kernel
theorem dX5_trialGoesAsBooked_49 : decode cX5_trialGoesAsBooked 49 = .ok (.iinc 3 1, 3) := by decide +kernel
theorem dX5_trialGoesAsBooked_52 : decode cX5_trialGoesAsBooked 52 = .ok (.goto (-50), 3) := by decide +kernel
theorem dX5_trialGoesAsBooked_55 : decode cX5_trialGoesAsBooked 55 = .ok (.iconst 1, 1) := by decide +kernel
theorem dX5_trialGoesAsBooked_56 : decode cX5_trialGoesAsBooked 56 = .ok (.ireturn, 1) := by decide +kernel
theorem dX5_isPerson_0 : decode cX5_isPerson 0 = .ok (.iload_n 1, 1) := by decide +kernel
theorem dX5_isPerson_1 : decode cX5_isPerson 1 = .ok (.iconst 0, 1) := by decide +kernel
theorem dX5_isPerson_2 : decode cX5_isPerson 2 = .ok (.aload_n 0, 1) := by decide +kernel
theorem dX5_isPerson_3 : decode cX5_isPerson 3 = .ok (.getfield 10, 3) := by decide +kernel
theorem dX5_isPerson_6 : decode cX5_isPerson 6 = .ok (.getfield 175, 3) := by decide +kernel
theorem dX5_isPerson_9 : decode cX5_isPerson 9 = .ok (.iconst 1, 1) := by decide +kernel
theorem dX5_isPerson_10 : decode cX5_isPerson 10 = .ok (.isub, 1) := by decide +kernel
theorem dX5_isPerson_11 : decode cX5_isPerson 11 = .ok (.invokestatic 75, 3) := by decide +kernel
theorem dX5_isPerson_14 : decode cX5_isPerson 14 = .ok (.ireturn, 1) := by decide +kernel
theorem dX5_isQuestion_0 : decode cX5_isQuestion 0 = .ok (.iload_n 0, 1) := by decide +kernel
theorem dX5_isQuestion_1 : decode cX5_isQuestion 1 = .ok (.iconst 0, 1) := by decide +kernel
theorem dX5_isQuestion_2 : decode cX5_isQuestion 2 = .ok (.iconst 5, 1) := by decide +kernel
theorem dX5_isQuestion_3 : decode cX5_isQuestion 3 = .ok (.invokestatic 75, 3) := by decide +kernel
theorem dX5_isQuestion_6 : decode cX5_isQuestion 6 = .ok (.ireturn, 1) := by decide +kernel
theorem dX5_isSide_0 : decode cX5_isSide 0 = .ok (.iload_n 0, 1) := by decide +kernel
theorem dX5_isSide_1 : decode cX5_isSide 1 = .ok (.iconst 0, 1) := by decide +kernel
theorem dX5_isSide_2 : decode cX5_isSide 2 = .ok (.iconst 1, 1) := by decide +kernel
theorem dX5_isSide_3 : decode cX5_isSide 3 = .ok (.invokestatic 75, 3) := by decide +kernel
theorem dX5_isSide_6 : decode cX5_isSide 6 = .ok (.ireturn, 1) := by decide +kernel
theorem dX5_isKind_0 : decode cX5_isKind 0 = .ok (.iload_n 0, 1) := by decide +kernel
theorem dX5_isKind_1 : decode cX5_isKind 1 = .ok (.iconst 0, 1) := by decide +kernel
theorem dX5_isKind_2 : decode cX5_isKind 2 = .ok (.iconst 5, 1) := by decide +kernel
theorem dX5_isKind_3 : decode cX5_isKind 3 = .ok (.invokestatic 75, 3) := by decide +kernel
theorem dX5_isKind_6 : decode cX5_isKind 6 = .ok (.ireturn, 1) := by decide +kernel
theorem dX5_isSet_0 : decode cX5_isSet 0 = .ok (.iload_n 0, 1) := by decide +kernel
theorem dX5_isSet_1 : decode cX5_isSet 1 = .ok (.iconst 0, 1) := by decide +kernel
theorem dX5_isSet_2 : decode cX5_isSet 2 = .ok (.bipush 63, 2) := by decide +kernel
theorem dX5_isSet_4 : decode cX5_isSet 4 = .ok (.invokestatic 75, 3) := by decide +kernel
theorem dX5_isSet_7 : decode cX5_isSet 7 = .ok (.ireturn, 1) := by decide +kernel
theorem dX5_isPence_0 : decode cX5_isPence 0 = .ok (.iload_n 0, 1) := by decide +kernel
theorem dX5_isPence_1 : decode cX5_isPence 1 = .ok (.iconst 0, 1) := by decide +kernel
theorem dX5_isPence_2 : decode cX5_isPence 2 = .ok (.sipush 9999, 3) := by decide +kernel
theorem dX5_isPence_5 : decode cX5_isPence 5 = .ok (.invokestatic 75, 3) := by decide +kernel
theorem dX5_isPence_8 : decode cX5_isPence 8 = .ok (.ireturn, 1) := by decide +kernel
theorem dX5_isSheet_0 : decode cX5_isSheet 0 = .ok (.iload_n 0, 1) := by decide +kernel
theorem dX5_isSheet_1 : decode cX5_isSheet 1 = .ok (.iconst 0, 1) := by decide +kernel
theorem dX5_isSheet_2 : decode cX5_isSheet 2 = .ok (.iconst 3, 1) := by decide +kernel
theorem dX5_isSheet_3 : decode cX5_isSheet 3 = .ok (.invokestatic 75, 3) := by decide +kernel
theorem dX5_isSheet_6 : decode cX5_isSheet 6 = .ok (.ireturn, 1) := by decide +kernel
theorem dX5_isWithin_0 : decode cX5_isWithin 0 = .ok (.iload_n 0, 1) := by decide +kernel
theorem dX5_isWithin_1 : decode cX5_isWithin 1 = .ok (.iload_n 1, 1) := by decide +kernel
theorem dX5_isWithin_2 : decode cX5_isWithin 2 = .ok (.if_icmp .lt 12, 3) := by decide +kernel
theorem dX5_isWithin_5 : decode cX5_isWithin 5 = .ok (.iload_n 0, 1) := by decide +kernel
theorem dX5_isWithin_6 : decode cX5_isWithin 6 = .ok (.iload_n 2, 1) := by decide +kernel
theorem dX5_isWithin_7 : decode cX5_isWithin 7 = .ok (.if_icmp .gt 7, 3) := by decide +kernel
theorem dX5_isWithin_10 : decode cX5_isWithin 10 = .ok (.iconst 1, 1) := by decide +kernel
theorem dX5_isWithin_11 : decode cX5_isWithin 11 = .ok (.goto 4, 3) := by decide +kernel
theorem dX5_isWithin_14 : decode cX5_isWithin 14 = .ok (.iconst 0, 1) := by decide +kernel
theorem dX5_isWithin_15 : decode cX5_isWithin 15 = .ok (.ireturn, 1) := by decide +kernel
end
section
theorem dX6_init_0 : decode cX6_init 0 = .ok (.aload_n 0, 1) := by decide +kernel
theorem dX6_init_1 : decode cX6_init 1 = .ok (.invokespecial 1, 3) := by decide +kernel
theorem dX6_init_4 : decode cX6_init 4 = .ok (.aload_n 0, 1) := by decide +kernel
theorem dX6_init_5 : decode cX6_init 5 = .ok (.bipush 48, 2) := by decide +kernel
theorem dX6_init_7 : decode cX6_init 7 = .ok (.newarray .int, 2) := by decide +kernel
theorem dX6_init_9 : decode cX6_init 9 = .ok (.putfield 7, 3) := by decide +kernel
theorem dX6_init_12 : decode cX6_init 12 = .ok (.aload_n 0, 1) := by decide +kernel
theorem dX6_init_13 : decode cX6_init 13 = .ok (.bipush 48, 2) := by decide +kernel
theorem dX6_init_15 : decode cX6_init 15 = .ok (.newarray .int, 2) := by decide +kernel
theorem dX6_init_17 : decode cX6_init 17 = .ok (.putfield 13, 3) := by decide +kernel
theorem dX6_init_20 : decode cX6_init 20 = .ok (.aload_n 0, 1) := by decide +kernel
theorem dX6_init_21 : decode cX6_init 21 = .ok (.bipush 48, 2) := by decide +kernel
theorem dX6_init_23 : decode cX6_init 23 = .ok (.newarray .int, 2) := by decide +kernel
theorem dX6_init_25 : decode cX6_init 25 = .ok (.putfield 16, 3) := by decide +kernel
theorem dX6_init_28 : decode cX6_init 28 = .ok (.aload_n 0, 1) := by decide +kernel
theorem dX6_init_29 : decode cX6_init 29 = .ok (.bipush 48, 2) := by decide +kernel
theorem dX6_init_31 : decode cX6_init 31 = .ok (.newarray .int, 2) := by decide +kernel
theorem dX6_init_33 : decode cX6_init 33 = .ok (.putfield 19, 3) := by decide +kernel
theorem dX6_init_36 : decode cX6_init 36 = .ok (.aload_n 0, 1) := by decide +kernel
theorem dX6_init_37 : decode cX6_init 37 = .ok (.bipush 7, 2) := by decide +kernel
theorem dX6_init_39 : decode cX6_init 39 = .ok (.newarray .int, 2) := by decide +kernel
theorem dX6_init_41 : decode cX6_init 41 = .ok (.putfield 22, 3) := by decide +kernel
theorem dX6_init_44 : decode cX6_init 44 = .ok (.aload_n 0, 1) := by decide +kernel
theorem dX6_init_45 : decode cX6_init 45 = .ok (.bipush 120, 2) := by decide +kernel
theorem dX6_init_47 : decode cX6_init 47 = .ok (.newarray .int, 2) := by decide +kernel
theorem dX6_init_49 : decode cX6_init 49 = .ok (.putfield 25, 3) := by decide +kernel
theorem dX6_init_52 : decode cX6_init 52 = .ok (.aload_n 0, 1) := by decide +kernel
theorem dX6_init_53 : decode cX6_init 53 = .ok (.iconst 4, 1) := by decide +kernel
theorem dX6_init_54 : decode cX6_init 54 = .ok (.newarray .int, 2) := by decide +kernel
theorem dX6_init_56 : decode cX6_init 56 = .ok (.putfield 28, 3) := by decide +kernel
theorem dX6_init_59 : decode cX6_init 59 = .ok (.aload_n 0, 1) := by decide +kernel
theorem dX6_init_60 : decode cX6_init 60 = .ok (.iconst 4, 1) := by decide +kernel
theorem dX6_init_61 : decode cX6_init 61 = .ok (.newarray .int, 2) := by decide +kernel
theorem dX6_init_63 : decode cX6_init 63 = .ok (.putfield 31, 3) := by decide +kernel
theorem dX6_init_66 : decode cX6_init 66 = .ok (.aload_n 0, 1) := by decide +kernel
theorem dX6_init_67 : decode cX6_init 67 = .ok (.sipush 160, 3) := by decide +kernel
theorem dX6_init_70 : decode cX6_init 70 = .ok (.newarray .long, 2) := by decide +kernel
theorem dX6_init_72 : decode cX6_init 72 = .ok (.putfield 34, 3) := by decide +kernel
theorem dX6_init_75 : decode cX6_init 75 = .ok (.aload_n 0, 1) := by decide +kernel
theorem dX6_init_76 : decode cX6_init 76 = .ok (.bipush 40, 2) := by decide +kernel
theorem dX6_init_78 : decode cX6_init 78 = .ok (.newarray .long, 2) := by decide +kernel
theorem dX6_init_80 : decode cX6_init 80 = .ok (.putfield 38, 3) := by decide +kernel
theorem dX6_init_83 : decode cX6_init 83 = .ok (.return_, 1) := by decide +kernel
theorem dX6_in_0 : decode cX6_in 0 = .ok (.lload_n 0, 1) := by decide +kernel
theorem dX6_in_1 : decode cX6_in 1 = .ok (.lload_n 2, 1) := by decide +kernel
theorem dX6_in_2 : decode cX6_in 2 = .ok (.lcmp, 1) := by decide +kernel
theorem dX6_in_3 : decode cX6_in 3 = .ok (.ifCond .lt 14, 3) := by decide +kernel
theorem dX6_in_6 : decode cX6_in 6 = .ok (.lload_n 0, 1) := by decide +kernel
theorem dX6_in_7 : decode cX6_in 7 = .ok (.lload 4, 2) := by decide +kernel
theorem dX6_in_9 : decode cX6_in 9 = .ok (.lcmp, 1) := by decide +kernel
theorem dX6_in_10 : decode cX6_in 10 = .ok (.ifCond .gt 7, 3) := by decide +kernel
theorem dX6_in_13 : decode cX6_in 13 = .ok (.iconst 1, 1) := by decide +kernel
theorem dX6_in_14 : decode cX6_in 14 = .ok (.goto 4, 3) := by decide +kernel
theorem dX6_in_17 : decode cX6_in 17 = .ok (.iconst 0, 1) := by decide +kernel
theorem dX6_in_18 : decode cX6_in 18 = .ok (.ireturn, 1) := by decide +kernel
theorem dX6_finds_0 : decode cX6_finds 0 = .ok (.aload_n 0, 1) := by decide +kernel
theorem dX6_finds_1 : decode cX6_finds 1 = .ok (.getfield 22, 3) := by decide +kernel
theorem dX6_finds_4 : decode cX6_finds 4 = .ok (.ldc 41, 2) := by decide +kernel
theorem dX6_finds_6 : decode cX6_finds 6 = .ok (.iload_n 1, 1) := by decide +kernel
theorem dX6_finds_7 : decode cX6_finds 7 = .ok (.isub, 1) := by decide +kernel
theorem dX6_finds_8 : decode cX6_finds 8 = .ok (.dup2, 1) := by decide +kernel
theorem dX6_finds_9 : decode cX6_finds 9 = .ok (.iaload, 1) := by decide +kernel
theorem dX6_finds_10 : decode cX6_finds 10 = .ok (.iconst 1, 1) := by decide +kernel
theorem dX6_finds_11 : decode cX6_finds 11 = .ok (.iadd, 1) := by decide +kernel
theorem dX6_finds_12 : decode cX6_finds 12 = .ok (.iastore, 1) := by decide +kernel
theorem dX6_finds_13 : decode cX6_finds 13 = .ok (.iload_n 1, 1) := by decide +kernel
theorem dX6_finds_14 : decode cX6_finds 14 = .ok (.ireturn, 1) := by decide +kernel
theorem dX6_saves_0 : decode cX6_saves 0 = .ok (.iconst 0, 1) := by decide +kernel
theorem dX6_saves_1 : decode cX6_saves 1 = .ok (.istore_n 1, 1) := by decide +kernel
theorem dX6_saves_2 : decode cX6_saves 2 = .ok (.iload_n 1, 1) := by decide +kernel
theorem dX6_saves_3 : decode cX6_saves 3 = .ok (.bipush 48, 2) := by decide +kernel
theorem dX6_saves_5 : decode cX6_saves 5 = .ok (.if_icmp .ge 21, 3) := by decide +kernel
theorem dX6_saves_8 : decode cX6_saves 8 = .ok (.aload_n 0, 1) := by decide +kernel
theorem dX6_saves_9 : decode cX6_saves 9 = .ok (.getfield 16, 3) := by decide +kernel
theorem dX6_saves_12 : decode cX6_saves 12 = .ok (.iload_n 1, 1) := by decide +kernel
theorem dX6_saves_13 : decode cX6_saves 13 = .ok (.aload_n 0, 1) := by decide +kernel
theorem dX6_saves_14 : decode cX6_saves 14 = .ok (.getfield 7, 3) := by decide +kernel
theorem dX6_saves_17 : decode cX6_saves 17 = .ok (.iload_n 1, 1) := by decide +kernel
theorem dX6_saves_18 : decode cX6_saves 18 = .ok (.iaload, 1) := by decide +kernel
theorem dX6_saves_19 : decode cX6_saves 19 = .ok (.iastore, 1) := by decide +kernel
theorem dX6_saves_20 : decode cX6_saves 20 = .ok (.iinc 1 1, 3) := by decide +kernel
theorem dX6_saves_23 : decode cX6_saves 23 = .ok (.goto (-21), 3) := by decide +kernel
theorem dX6_saves_26 : decode cX6_saves 26 = .ok (.return_, 1) := by decide +kernel
theorem dX6_putsBack_0 : decode cX6_putsBack 0 = .ok (.iconst 0, 1) := by decide +kernel
theorem dX6_putsBack_1 : decode cX6_putsBack 1 = .ok (.istore_n 1, 1) := by decide +kernel
theorem dX6_putsBack_2 : decode cX6_putsBack 2 = .ok (.iload_n 1, 1) := by decide +kernel
theorem dX6_putsBack_3 : decode cX6_putsBack 3 = .ok (.bipush 48, 2) := by decide +kernel
theorem dX6_putsBack_5 : decode cX6_putsBack 5 = .ok (.if_icmp .ge 21, 3) := by decide +kernel
theorem dX6_putsBack_8 : decode cX6_putsBack 8 = .ok (.aload_n 0, 1) := by decide +kernel
theorem dX6_putsBack_9 : decode cX6_putsBack 9 = .ok (.getfield 7, 3) := by decide +kernel
theorem dX6_putsBack_12 : decode cX6_putsBack 12 = .ok (.iload_n 1, 1) := by decide +kernel
theorem dX6_putsBack_13 : decode cX6_putsBack 13 = .ok (.aload_n 0, 1) := by decide +kernel
theorem dX6_putsBack_14 : decode cX6_putsBack 14 = .ok (.getfield 16, 3) := by decide +kernel
theorem dX6_putsBack_17 : decode cX6_putsBack 17 = .ok (.iload_n 1, 1) := by decide +kernel
theorem dX6_putsBack_18 : decode cX6_putsBack 18 = .ok (.iaload, 1) := by decide +kernel
theorem dX6_putsBack_19 : decode cX6_putsBack 19 = .ok (.iastore, 1) := by decide +kernel
theorem dX6_putsBack_20 : decode cX6_putsBack 20 = .ok (.iinc 1 1, 3) := by decide +kernel
theorem dX6_putsBack_23 : decode cX6_putsBack 23 = .ok (.goto (-21), 3) := by decide +kernel
theorem dX6_putsBack_26 : decode cX6_putsBack 26 = .ok (.return_, 1) := by decide +kernel
theorem dX6_laysAside_0 : decode cX6_laysAside 0 = .ok (.iconst 0, 1) := by decide +kernel
theorem dX6_laysAside_1 : decode cX6_laysAside 1 = .ok (.istore_n 1, 1) := by decide +kernel
theorem dX6_laysAside_2 : decode cX6_laysAside 2 = .ok (.iload_n 1, 1) := by decide +kernel
theorem dX6_laysAside_3 : decode cX6_laysAside 3 = .ok (.bipush 48, 2) := by decide +kernel
theorem dX6_laysAside_5 : decode cX6_laysAside 5 = .ok (.if_icmp .ge 21, 3) := by decide +kernel
theorem dX6_laysAside_8 : decode cX6_laysAside 8 = .ok (.aload_n 0, 1) := by decide +kernel
theorem dX6_laysAside_9 : decode cX6_laysAside 9 = .ok (.getfield 19, 3) := by decide +kernel
theorem dX6_laysAside_12 : decode cX6_laysAside 12 = .ok (.iload_n 1, 1) := by decide +kernel
theorem dX6_laysAside_13 : decode cX6_laysAside 13 = .ok (.aload_n 0, 1) := by decide +kernel
theorem dX6_laysAside_14 : decode cX6_laysAside 14 = .ok (.getfield 7, 3) := by decide +kernel
theorem dX6_laysAside_17 : decode cX6_laysAside 17 = .ok (.iload_n 1, 1) := by decide +kernel
theorem dX6_laysAside_18 : decode cX6_laysAside 18 = .ok (.iaload, 1) := by decide +kernel
theorem dX6_laysAside_19 : decode cX6_laysAside 19 = .ok (.iastore, 1) := by decide +kernel
theorem dX6_laysAside_20 : decode cX6_laysAside 20 = .ok (.iinc 1 1, 3) := by decide +kernel
theorem dX6_laysAside_23 : decode cX6_laysAside 23 = .ok (.goto (-21), 3) := by decide +kernel
theorem dX6_laysAside_26 : decode cX6_laysAside 26 = .ok (.return_, 1) := by decide +kernel
theorem dX6_takesBack_0 : decode cX6_takesBack 0 = .ok (.iconst 0, 1) := by decide +kernel
theorem dX6_takesBack_1 : decode cX6_takesBack 1 = .ok (.istore_n 2, 1) := by decide +kernel
theorem dX6_takesBack_2 : decode cX6_takesBack 2 = .ok (.iload_n 2, 1) := by decide +kernel
theorem dX6_takesBack_3 : decode cX6_takesBack 3 = .ok (.bipush 48, 2) := by decide +kernel
theorem dX6_takesBack_5 : decode cX6_takesBack 5 = .ok (.if_icmp .ge 21, 3) := by decide +kernel
theorem dX6_takesBack_8 : decode cX6_takesBack 8 = .ok (.aload_n 0, 1) := by decide +kernel
theorem dX6_takesBack_9 : decode cX6_takesBack 9 = .ok (.getfield 7, 3) := by decide +kernel
theorem dX6_takesBack_12 : decode cX6_takesBack 12 = .ok (.iload_n 2, 1) := by decide +kernel
theorem dX6_takesBack_13 : decode cX6_takesBack 13 = .ok (.aload_n 0, 1) := by decide +kernel
theorem dX6_takesBack_14 : decode cX6_takesBack 14 = .ok (.getfield 19, 3) := by decide +kernel
theorem dX6_takesBack_17 : decode cX6_takesBack 17 = .ok (.iload_n 2, 1) := by decide +kernel
theorem dX6_takesBack_18 : decode cX6_takesBack 18 = .ok (.iaload, 1) := by decide +kernel
theorem dX6_takesBack_19 : decode cX6_takesBack 19 = .ok (.iastore, 1) := by decide +kernel
theorem dX6_takesBack_20 : decode cX6_takesBack 20 = .ok (.iinc 2 1, 3) := by decide +kernel
theorem dX6_takesBack_23 : decode cX6_takesBack 23 = .ok (.goto (-21), 3) := by decide +kernel
theorem dX6_takesBack_26 : decode cX6_takesBack 26 = .ok (.iload_n 1, 1) := by decide +kernel
theorem dX6_takesBack_27 : decode cX6_takesBack 27 = .ok (.ireturn, 1) := by decide +kernel
theorem dX6_becomes_0 : decode cX6_becomes 0 = .ok (.aload_n 0, 1) := by decide +kernel
theorem dX6_becomes_1 : decode cX6_becomes 1 = .ok (.getfield 7, 3) := by decide +kernel
theorem dX6_becomes_4 : decode cX6_becomes 4 = .ok (.iload_n 1, 1) := by decide +kernel
theorem dX6_becomes_5 : decode cX6_becomes 5 = .ok (.iaload, 1) := by decide +kernel
theorem dX6_becomes_6 : decode cX6_becomes 6 = .ok (.istore_n 3, 1) := by decide +kernel
theorem dX6_becomes_7 : decode cX6_becomes 7 = .ok (.aload_n 0, 1) := by decide +kernel
theorem dX6_becomes_8 : decode cX6_becomes 8 = .ok (.getfield 7, 3) := by decide +kernel
theorem dX6_becomes_11 : decode cX6_becomes 11 = .ok (.iload_n 1, 1) := by decide +kernel
theorem dX6_becomes_12 : decode cX6_becomes 12 = .ok (.iload_n 2, 1) := by decide +kernel
theorem dX6_becomes_13 : decode cX6_becomes 13 = .ok (.iastore, 1) := by decide +kernel
theorem dX6_becomes_14 : decode cX6_becomes 14 = .ok (.iload_n 3, 1) := by decide +kernel
theorem dX6_becomes_15 : decode cX6_becomes 15 = .ok (.ireturn, 1) := by decide +kernel
theorem dX6_basinSpot_0 : decode cX6_basinSpot 0 = .ok (.iconst 4, 1) := by decide +kernel
theorem dX6_basinSpot_1 : decode cX6_basinSpot 1 = .ok (.iconst 2, 1) := by decide +kernel
theorem dX6_basinSpot_2 : decode cX6_basinSpot 2 = .ok (.iload_n 0, 1) := by decide +kernel
theorem dX6_basinSpot_3 : decode cX6_basinSpot 3 = .ok (.imul, 1) := by decide +kernel
theorem dX6_basinSpot_4 : decode cX6_basinSpot 4 = .ok (.iadd, 1) := by decide +kernel
theorem dX6_basinSpot_5 : decode cX6_basinSpot 5 = .ok (.iload_n 1, 1) := by decide +kernel
theorem dX6_basinSpot_6 : decode cX6_basinSpot 6 = .ok (.iadd, 1) := by decide +kernel
theorem dX6_basinSpot_7 : decode cX6_basinSpot 7 = .ok (.ireturn, 1) := by decide +kernel
theorem dX6_spot_0 : decode cX6_spot 0 = .ok (.bipush 16, 2) := by decide +kernel
theorem dX6_spot_2 : decode cX6_spot 2 = .ok (.iconst 4, 1) := by decide +kernel
theorem dX6_spot_3 : decode cX6_spot 3 = .ok (.iload_n 0, 1) := by decide +kernel
theorem dX6_spot_4 : decode cX6_spot 4 = .ok (.imul, 1) := by decide +kernel
theorem dX6_spot_5 : decode cX6_spot 5 = .ok (.iadd, 1) := by decide +kernel
theorem dX6_spot_6 : decode cX6_spot 6 = .ok (.iload_n 1, 1) := by decide +kernel
theorem dX6_spot_7 : decode cX6_spot 7 = .ok (.iadd, 1) := by decide +kernel
theorem dX6_spot_8 : decode cX6_spot 8 = .ok (.ireturn, 1) := by decide +kernel
theorem dX6_its_0 : decode cX6_its 0 = .ok (.aload_n 0, 1) := by decide +kernel
theorem dX6_its_1 : decode cX6_its 1 = .ok (.getfield 7, 3) := by decide +kernel
theorem dX6_its_4 : decode cX6_its 4 = .ok (.iload_n 1, 1) := by decide +kernel
theorem dX6_its_5 : decode cX6_its 5 = .ok (.iload_n 2, 1) := by decide +kernel
theorem dX6_its_6 : decode cX6_its 6 = .ok (.invokestatic 42, 3) := by decide +kernel
theorem dX6_its_9 : decode cX6_its 9 = .ok (.iaload, 1) := by decide +kernel
theorem dX6_its_10 : decode cX6_its 10 = .ok (.ireturn, 1) := by decide +kernel
theorem dX6_isPerson_0 : decode cX6_isPerson 0 = .ok (.iload_n 1, 1) := by decide +kernel
theorem dX6_isPerson_1 : decode cX6_isPerson 1 = .ok (.i2l, 1) := by decide +kernel
theorem dX6_isPerson_2 : decode cX6_isPerson 2 = .ok (.lconst 0, 1) := by decide +kernel
theorem dX6_isPerson_3 : decode cX6_isPerson 3 = .ok (.aload_n 0, 1) := by decide +kernel
theorem dX6_isPerson_4 : decode cX6_isPerson 4 = .ok (.getfield 7, 3) := by decide +kernel
theorem dX6_isPerson_7 : decode cX6_isPerson 7 = .ok (.iconst 1, 1) := by decide +kernel
theorem dX6_isPerson_8 : decode cX6_isPerson 8 = .ok (.iaload, 1) := by decide +kernel
theorem dX6_isPerson_9 : decode cX6_isPerson 9 = .ok (.iconst 1, 1) := by decide +kernel
theorem dX6_isPerson_10 : decode cX6_isPerson 10 = .ok (.isub, 1) := by decide +kernel
theorem dX6_isPerson_11 : decode cX6_isPerson 11 = .ok (.i2l, 1) := by decide +kernel
theorem dX6_isPerson_12 : decode cX6_isPerson 12 = .ok (.invokestatic 46, 3) := by decide +kernel
theorem dX6_isPerson_15 : decode cX6_isPerson 15 = .ok (.ireturn, 1) := by decide +kernel
theorem dX6_isQuestion_0 : decode cX6_isQuestion 0 = .ok (.iload_n 0, 1) := by decide +kernel
theorem dX6_isQuestion_1 : decode cX6_isQuestion 1 = .ok (.i2l, 1) := by decide +kernel
theorem dX6_isQuestion_2 : decode cX6_isQuestion 2 = .ok (.lconst 0, 1) := by decide +kernel
theorem dX6_isQuestion_3 : decode cX6_isQuestion 3 = .ok (.ldc2_w 50, 3) := by decide +kernel
theorem dX6_isQuestion_6 : decode cX6_isQuestion 6 = .ok (.invokestatic 46, 3) := by decide +kernel
theorem dX6_isQuestion_9 : decode cX6_isQuestion 9 = .ok (.ireturn, 1) := by decide +kernel
theorem dX6_isKind_0 : decode cX6_isKind 0 = .ok (.iload_n 0, 1) := by decide +kernel
theorem dX6_isKind_1 : decode cX6_isKind 1 = .ok (.i2l, 1) := by decide +kernel
theorem dX6_isKind_2 : decode cX6_isKind 2 = .ok (.lconst 0, 1) := by decide +kernel
theorem dX6_isKind_3 : decode cX6_isKind 3 = .ok (.ldc2_w 50, 3) := by decide +kernel
theorem dX6_isKind_6 : decode cX6_isKind 6 = .ok (.invokestatic 46, 3) := by decide +kernel
theorem dX6_isKind_9 : decode cX6_isKind 9 = .ok (.ireturn, 1) := by decide +kernel
theorem dX6_heldTo_0 : decode cX6_heldTo 0 = .ok (.iload_n 0, 1) := by decide +kernel
theorem dX6_heldTo_1 : decode cX6_heldTo 1 = .ok (.iload_n 1, 1) := by decide +kernel
theorem dX6_heldTo_2 : decode cX6_heldTo 2 = .ok (.if_icmp .le 7, 3) := by decide +kernel
theorem dX6_heldTo_5 : decode cX6_heldTo 5 = .ok (.iload_n 1, 1) := by decide +kernel
theorem dX6_heldTo_6 : decode cX6_heldTo 6 = .ok (.goto 4, 3) := by decide +kernel
theorem dX6_heldTo_9 : decode cX6_heldTo 9 = .ok (.iload_n 0, 1) := by decide +kernel
theorem dX6_heldTo_10 : decode cX6_heldTo 10 = .ok (.ireturn, 1) := by decide +kernel
theorem dX6_ofDay_0 : decode cX6_ofDay 0 = .ok (.aload_n 0, 1) := by decide +kernel
theorem dX6_ofDay_1 : decode cX6_ofDay 1 = .ok (.getfield 7, 3) := by decide +kernel
theorem dX6_ofDay_4 : decode cX6_ofDay 4 = .ok (.iconst 0, 1) := by decide +kernel
theorem dX6_ofDay_5 : decode cX6_ofDay 5 = .ok (.iaload, 1) := by decide +kernel
theorem dX6_ofDay_6 : decode cX6_ofDay 6 = .ok (.bipush 6, 2) := by decide +kernel
theorem dX6_ofDay_8 : decode cX6_ofDay 8 = .ok (.irem, 1) := by decide +kernel
theorem dX6_ofDay_9 : decode cX6_ofDay 9 = .ok (.ireturn, 1) := by decide +kernel
theorem dX6_together_0 : decode cX6_together 0 = .ok (.iconst 0, 1) := by decide +kernel
theorem dX6_together_1 : decode cX6_together 1 = .ok (.istore_n 2, 1) := by decide +kernel
theorem dX6_together_2 : decode cX6_together 2 = .ok (.iconst 0, 1) := by decide +kernel
theorem dX6_together_3 : decode cX6_together 3 = .ok (.istore_n 3, 1) := by decide +kernel
theorem dX6_together_4 : decode cX6_together 4 = .ok (.iload_n 3, 1) := by decide +kernel
theorem dX6_together_5 : decode cX6_together 5 = .ok (.bipush 6, 2) := by decide +kernel
theorem dX6_together_7 : decode cX6_together 7 = .ok (.if_icmp .ge 22, 3) := by decide +kernel
theorem dX6_together_10 : decode cX6_together 10 = .ok (.iload_n 2, 1) := by decide +kernel
theorem dX6_together_11 : decode cX6_together 11 = .ok (.aload_n 0, 1) := by decide +kernel
theorem dX6_together_12 : decode cX6_together 12 = .ok (.getfield 7, 3) := by decide +kernel
theorem dX6_together_15 : decode cX6_together 15 = .ok (.iload_n 3, 1) := by decide +kernel
theorem dX6_together_16 : decode cX6_together 16 = .ok (.iload_n 1, 1) := by decide +kernel
theorem dX6_together_17 : decode cX6_together 17 = .ok (.invokestatic 52, 3) := by decide +kernel
theorem dX6_together_20 : decode cX6_together 20 = .ok (.iaload, 1) := by decide +kernel
theorem dX6_together_21 : decode cX6_together 21 = .ok (.iadd, 1) := by decide +kernel
theorem dX6_together_22 : decode cX6_together 22 = .ok (.istore_n 2, 1) := by decide +kernel
theorem dX6_together_23 : decode cX6_together 23 = .ok (.iinc 3 1, 3) := by decide +kernel
theorem dX6_together_26 : decode cX6_together 26 = .ok (.goto (-22), 3) := by decide +kernel
theorem dX6_together_29 : decode cX6_together 29 = .ok (.iload_n 2, 1) := by decide +kernel
theorem dX6_together_30 : decode cX6_together 30 = .ok (.ireturn, 1) := by decide +kernel
theorem dX6_pence_0 : decode cX6_pence 0 = .ok (.iconst 0, 1) := by decide +kernel
theorem dX6_pence_1 : decode cX6_pence 1 = .ok (.istore_n 1, 1) := by decide +kernel
theorem dX6_pence_2 : decode cX6_pence 2 = .ok (.iconst 0, 1) := by decide +kernel
theorem dX6_pence_3 : decode cX6_pence 3 = .ok (.istore_n 2, 1) := by decide +kernel
theorem dX6_pence_4 : decode cX6_pence 4 = .ok (.iload_n 2, 1) := by decide +kernel
theorem dX6_pence_5 : decode cX6_pence 5 = .ok (.aload_n 0, 1) := by decide +kernel
theorem dX6_pence_6 : decode cX6_pence 6 = .ok (.getfield 7, 3) := by decide +kernel
theorem dX6_pence_9 : decode cX6_pence 9 = .ok (.iconst 1, 1) := by decide +kernel
theorem dX6_pence_10 : decode cX6_pence 10 = .ok (.iaload, 1) := by decide +kernel
theorem dX6_pence_11 : decode cX6_pence 11 = .ok (.if_icmp .ge 18, 3) := by decide +kernel
theorem dX6_pence_14 : decode cX6_pence 14 = .ok (.iload_n 1, 1) := by decide +kernel
theorem dX6_pence_15 : decode cX6_pence 15 = .ok (.aload_n 0, 1) := by decide +kernel
theorem dX6_pence_16 : decode cX6_pence 16 = .ok (.iload_n 2, 1) := by decide +kernel
theorem dX6_pence_17 : decode cX6_pence 17 = .ok (.iconst 2, 1) := by decide +kernel
theorem dX6_pence_18 : decode cX6_pence 18 = .ok (.invokevirtual 55, 3) := by decide +kernel
theorem dX6_pence_21 : decode cX6_pence 21 = .ok (.iadd, 1) := by decide +kernel
theorem dX6_pence_22 : decode cX6_pence 22 = .ok (.istore_n 1, 1) := by decide +kernel
theorem dX6_pence_23 : decode cX6_pence 23 = .ok (.iinc 2 1, 3) := by decide +kernel
theorem dX6_pence_26 : decode cX6_pence 26 = .ok (.goto (-22), 3) := by decide +kernel
theorem dX6_pence_29 : decode cX6_pence 29 = .ok (.iload_n 1, 1) := by decide +kernel
theorem dX6_pence_30 : decode cX6_pence 30 = .ok (.ireturn, 1) := by decide +kernel
theorem dX6_lies_0 : decode cX6_lies 0 = .ok (.iload_n 2, 1) := by decide +kernel
theorem dX6_lies_1 : decode cX6_lies 1 = .ok (.i2l, 1) := by decide +kernel
theorem dX6_lies_2 : decode cX6_lies 2 = .ok (.lconst 0, 1) := by decide +kernel
theorem dX6_lies_3 : decode cX6_lies 3 = .ok (.lconst 1, 1) := by decide +kernel
theorem dX6_lies_4 : decode cX6_lies 4 = .ok (.invokestatic 46, 3) := by decide +kernel
theorem dX6_lies_7 : decode cX6_lies 7 = .ok (.ifCond .eq 19, 3) := by decide +kernel
theorem dX6_lies_10 : decode cX6_lies 10 = .ok (.iload_n 3, 1) := by decide +kernel
theorem dX6_lies_11 : decode cX6_lies 11 = .ok (.i2l, 1) := by decide +kernel
theorem dX6_lies_12 : decode cX6_lies 12 = .ok (.lconst 0, 1) := by decide +kernel
theorem dX6_lies_13 : decode cX6_lies 13 = .ok (.ldc2_w 58, 3) := by decide +kernel
theorem dX6_lies_16 : decode cX6_lies 16 = .ok (.invokestatic 46, 3) := by decide +kernel
theorem dX6_lies_19 : decode cX6_lies 19 = .ok (.ifCond .eq 7, 3) := by decide +kernel
theorem dX6_lies_22 : decode cX6_lies 22 = .ok (.iconst 1, 1) := by decide +kernel
theorem dX6_lies_23 : decode cX6_lies 23 = .ok (.goto 4, 3) := by decide +kernel
theorem dX6_lies_26 : decode cX6_lies 26 = .ok (.iconst 0, 1) := by decide +kernel
theorem dX6_lies_27 : decode cX6_lies 27 = .ok (.istore 4, 2) := by decide +kernel
theorem dX6_lies_29 : decode cX6_lies 29 = .ok (.iload_n 1, 1) := by decide +kernel
theorem dX6_lies_30 : decode cX6_lies 30 = .ok (.invokestatic 60, 3) := by decide +kernel
theorem dX6_lies_33 : decode cX6_lies 33 = .ok (.ifCond .eq 21, 3) := by decide +kernel
theorem dX6_lies_36 : decode cX6_lies 36 = .ok (.iload 4, 2) := by decide +kernel
theorem dX6_lies_38 : decode cX6_lies 38 = .ok (.ifCond .eq 16, 3) := by decide +kernel
theorem dX6_lies_41 : decode cX6_lies 41 = .ok (.aload_n 0, 1) := by decide +kernel
theorem dX6_lies_42 : decode cX6_lies 42 = .ok (.iload_n 1, 1) := by decide +kernel
theorem dX6_lies_43 : decode cX6_lies 43 = .ok (.iload_n 2, 1) := by decide +kernel
theorem dX6_lies_44 : decode cX6_lies 44 = .ok (.invokestatic 52, 3) := by decide +kernel
theorem dX6_lies_47 : decode cX6_lies 47 = .ok (.iload_n 3, 1) := by decide +kernel
theorem dX6_lies_48 : decode cX6_lies 48 = .ok (.invokevirtual 64, 3) := by decide +kernel
theorem dX6_lies_51 : decode cX6_lies 51 = .ok (.goto 9, 3) := by decide +kernel
theorem dX6_lies_54 : decode cX6_lies 54 = .ok (.aload_n 0, 1) := by decide +kernel
theorem dX6_lies_55 : decode cX6_lies 55 = .ok (.ldc 41, 2) := by decide +kernel
theorem dX6_lies_57 : decode cX6_lies 57 = .ok (.invokevirtual 67, 3) := by decide +kernel
theorem dX6_lies_60 : decode cX6_lies 60 = .ok (.ireturn, 1) := by decide +kernel
theorem dX6_heldIn_0 : decode cX6_heldIn 0 = .ok (.aload_n 0, 1) := by decide +kernel
theorem dX6_heldIn_1 : decode cX6_heldIn 1 = .ok (.getfield 7, 3) := by decide +kernel
theorem dX6_heldIn_4 : decode cX6_heldIn 4 = .ok (.iconst 2, 1) := by decide +kernel
theorem dX6_heldIn_5 : decode cX6_heldIn 5 = .ok (.iaload, 1) := by decide +kernel
theorem dX6_heldIn_6 : decode cX6_heldIn 6 = .ok (.iload_n 1, 1) := by decide +kernel
theorem dX6_heldIn_7 : decode cX6_heldIn 7 = .ok (.ishr, 1) := by decide +kernel
theorem dX6_heldIn_8 : decode cX6_heldIn 8 = .ok (.iconst 1, 1) := by decide +kernel
theorem dX6_heldIn_9 : decode cX6_heldIn 9 = .ok (.iand, 1) := by decide +kernel
theorem dX6_heldIn_10 : decode cX6_heldIn 10 = .ok (.ireturn, 1) := by decide +kernel
theorem dX6_basin_0 : decode cX6_basin 0 = .ok (.iload_n 1, 1) := by decide +kernel
theorem dX6_basin_1 : decode cX6_basin 1 = .ok (.invokestatic 60, 3) := by decide +kernel
theorem dX6_basin_4 : decode cX6_basin 4 = .ok (.ifCond .eq 15, 3) := by decide +kernel
theorem dX6_basin_7 : decode cX6_basin 7 = .ok (.iload_n 2, 1) := by decide +kernel
theorem dX6_basin_8 : decode cX6_basin 8 = .ok (.i2l, 1) := by decide +kernel
theorem dX6_basin_9 : decode cX6_basin 9 = .ok (.lconst 0, 1) := by decide +kernel
theorem dX6_basin_10 : decode cX6_basin 10 = .ok (.ldc2_w 71, 3) := by decide +kernel
theorem dX6_basin_13 : decode cX6_basin 13 = .ok (.invokestatic 46, 3) := by decide +kernel
theorem dX6_basin_16 : decode cX6_basin 16 = .ok (.ifCond .ne 10, 3) := by decide +kernel
theorem dX6_basin_19 : decode cX6_basin 19 = .ok (.aload_n 0, 1) := by decide +kernel
theorem dX6_basin_20 : decode cX6_basin 20 = .ok (.ldc 41, 2) := by decide +kernel
theorem dX6_basin_22 : decode cX6_basin 22 = .ok (.invokevirtual 67, 3) := by decide +kernel
theorem dX6_basin_25 : decode cX6_basin 25 = .ok (.ireturn, 1) := by decide +kernel
theorem dX6_basin_26 : decode cX6_basin 26 = .ok (.iload_n 2, 1) := by decide +kernel
theorem dX6_basin_27 : decode cX6_basin 27 = .ok (.iconst 2, 1) := by decide +kernel
theorem dX6_basin_28 : decode cX6_basin 28 = .ok (.if_icmp .ne 11, 3) := by decide +kernel
theorem dX6_basin_31 : decode cX6_basin 31 = .ok (.aload_n 0, 1) := by decide +kernel
theorem dX6_basin_32 : decode cX6_basin 32 = .ok (.iload_n 1, 1) := by decide +kernel
theorem dX6_basin_33 : decode cX6_basin 33 = .ok (.invokevirtual 73, 3) := by decide +kernel
theorem dX6_basin_36 : decode cX6_basin 36 = .ok (.goto 13, 3) := by decide +kernel
theorem dX6_basin_39 : decode cX6_basin 39 = .ok (.aload_n 0, 1) := by decide +kernel
theorem dX6_basin_40 : decode cX6_basin 40 = .ok (.getfield 7, 3) := by decide +kernel
theorem dX6_basin_43 : decode cX6_basin 43 = .ok (.iload_n 1, 1) := by decide +kernel
theorem dX6_basin_44 : decode cX6_basin 44 = .ok (.iload_n 2, 1) := by decide +kernel
theorem dX6_basin_45 : decode cX6_basin 45 = .ok (.invokestatic 52, 3) := by decide +kernel
theorem dX6_basin_48 : decode cX6_basin 48 = .ok (.iaload, 1) := by decide +kernel
theorem dX6_basin_49 : decode cX6_basin 49 = .ok (.ireturn, 1) := by decide +kernel
theorem dX6_bribe_0 : decode cX6_bribe 0 = .ok (.iload_n 1, 1) := by decide +kernel
theorem dX6_bribe_1 : decode cX6_bribe 1 = .ok (.i2l, 1) := by decide +kernel
theorem dX6_bribe_2 : decode cX6_bribe 2 = .ok (.lconst 0, 1) := by decide +kernel
theorem dX6_bribe_3 : decode cX6_bribe 3 = .ok (.lconst 1, 1) := by decide +kernel
theorem dX6_bribe_4 : decode cX6_bribe 4 = .ok (.invokestatic 46, 3) := by decide +kernel
theorem dX6_bribe_7 : decode cX6_bribe 7 = .ok (.ifCond .eq 12, 3) := by decide +kernel
theorem dX6_bribe_10 : decode cX6_bribe 10 = .ok (.aload_n 0, 1) := by decide +kernel
theorem dX6_bribe_11 : decode cX6_bribe 11 = .ok (.iconst 3, 1) := by decide +kernel
theorem dX6_bribe_12 : decode cX6_bribe 12 = .ok (.iload_n 1, 1) := by decide +kernel
theorem dX6_bribe_13 : decode cX6_bribe 13 = .ok (.invokevirtual 64, 3) := by decide +kernel
theorem dX6_bribe_16 : decode cX6_bribe 16 = .ok (.goto 9, 3) := by decide +kernel
theorem dX6_bribe_19 : decode cX6_bribe 19 = .ok (.aload_n 0, 1) := by decide +kernel
theorem dX6_bribe_20 : decode cX6_bribe 20 = .ok (.ldc 41, 2) := by decide +kernel
theorem dX6_bribe_22 : decode cX6_bribe 22 = .ok (.invokevirtual 67, 3) := by decide +kernel
theorem dX6_bribe_25 : decode cX6_bribe 25 = .ok (.ireturn, 1) := by decide +kernel
theorem dX6_held_0 : decode cX6_held 0 = .ok (.iload_n 1, 1) := by decide +kernel
theorem dX6_held_1 : decode cX6_held 1 = .ok (.i2l, 1) := by decide +kernel
theorem dX6_held_2 : decode cX6_held 2 = .ok (.lconst 0, 1) := by decide +kernel
theorem dX6_held_3 : decode cX6_held 3 = .ok (.ldc2_w 76, 3) := by decide +kernel
theorem dX6_held_6 : decode cX6_held 6 = .ok (.invokestatic 46, 3) := by decide +kernel
theorem dX6_held_9 : decode cX6_held 9 = .ok (.ifCond .eq 12, 3) := by decide +kernel
theorem dX6_held_12 : decode cX6_held 12 = .ok (.aload_n 0, 1) := by decide +kernel
theorem dX6_held_13 : decode cX6_held 13 = .ok (.iconst 2, 1) := by decide +kernel
theorem dX6_held_14 : decode cX6_held 14 = .ok (.iload_n 1, 1) := by decide +kernel
theorem dX6_held_15 : decode cX6_held 15 = .ok (.invokevirtual 64, 3) := by decide +kernel
theorem dX6_held_18 : decode cX6_held 18 = .ok (.goto 9, 3) := by decide +kernel
theorem dX6_held_21 : decode cX6_held 21 = .ok (.aload_n 0, 1) := by decide +kernel
theorem dX6_held_22 : decode cX6_held 22 = .ok (.ldc 41, 2) := by decide +kernel
theorem dX6_held_24 : decode cX6_held 24 = .ok (.invokevirtual 67, 3) := by decide +kernel
theorem dX6_held_27 : decode cX6_held 27 = .ok (.ireturn, 1) := by decide +kernel
theorem dX6_leftOnes_0 : decode cX6_leftOnes 0 = .ok (.iconst 0, 1) := by decide +kernel
theorem dX6_leftOnes_1 : decode cX6_leftOnes 1 = .ok (.istore_n 1, 1) := by decide +kernel
theorem dX6_leftOnes_2 : decode cX6_leftOnes 2 = .ok (.iconst 0, 1) := by decide +kernel
theorem dX6_leftOnes_3 : decode cX6_leftOnes 3 = .ok (.istore_n 2, 1) := by decide +kernel
theorem dX6_leftOnes_4 : decode cX6_leftOnes 4 = .ok (.iload_n 2, 1) := by decide +kernel
theorem dX6_leftOnes_5 : decode cX6_leftOnes 5 = .ok (.aload_n 0, 1) := by decide +kernel
theorem dX6_leftOnes_6 : decode cX6_leftOnes 6 = .ok (.getfield 7, 3) := by decide +kernel
theorem dX6_leftOnes_9 : decode cX6_leftOnes 9 = .ok (.iconst 1, 1) := by decide +kernel
theorem dX6_leftOnes_10 : decode cX6_leftOnes 10 = .ok (.iaload, 1) := by decide +kernel
theorem dX6_leftOnes_11 : decode cX6_leftOnes 11 = .ok (.if_icmp .ge 40, 3) := by decide +kernel
theorem dX6_leftOnes_14 : decode cX6_leftOnes 14 = .ok (.iload_n 1, 1) := by decide +kernel
theorem dX6_leftOnes_15 : decode cX6_leftOnes 15 = .ok (.aload_n 0, 1) := by decide +kernel
theorem dX6_leftOnes_16 : decode cX6_leftOnes 16 = .ok (.iload_n 2, 1) := by decide +kernel
theorem dX6_leftOnes_17 : decode cX6_leftOnes 17 = .ok (.iconst 3, 1) := by decide +kernel
theorem dX6_leftOnes_18 : decode cX6_leftOnes 18 = .ok (.invokevirtual 55, 3) := by decide +kernel
theorem dX6_leftOnes_21 : decode cX6_leftOnes 21 = .ok (.ifCond .ne 21, 3) := by decide +kernel
theorem dX6_leftOnes_24 : decode cX6_leftOnes 24 = .ok (.aload_n 0, 1) := by decide +kernel
theorem dX6_leftOnes_25 : decode cX6_leftOnes 25 = .ok (.iload_n 2, 1) := by decide +kernel
theorem dX6_leftOnes_26 : decode cX6_leftOnes 26 = .ok (.aload_n 0, 1) := by decide +kernel
theorem dX6_leftOnes_27 : decode cX6_leftOnes 27 = .ok (.invokevirtual 78, 3) := by decide +kernel
theorem dX6_leftOnes_30 : decode cX6_leftOnes 30 = .ok (.invokevirtual 82, 3) := by decide +kernel
theorem dX6_leftOnes_33 : decode cX6_leftOnes 33 = .ok (.ifCond .ne 9, 3) := by decide +kernel
theorem dX6_leftOnes_36 : decode cX6_leftOnes 36 = .ok (.iconst 1, 1) := by decide +kernel
theorem dX6_leftOnes_37 : decode cX6_leftOnes 37 = .ok (.iload_n 2, 1) := by decide +kernel
theorem dX6_leftOnes_38 : decode cX6_leftOnes 38 = .ok (.ishl, 1) := by decide +kernel
theorem dX6_leftOnes_39 : decode cX6_leftOnes 39 = .ok (.goto 4, 3) := by decide +kernel
theorem dX6_leftOnes_42 : decode cX6_leftOnes 42 = .ok (.iconst 0, 1) := by decide +kernel
theorem dX6_leftOnes_43 : decode cX6_leftOnes 43 = .ok (.ior, 1) := by decide +kernel
theorem dX6_leftOnes_44 : decode cX6_leftOnes 44 = .ok (.istore_n 1, 1) := by decide +kernel
theorem dX6_leftOnes_45 : decode cX6_leftOnes 45 = .ok (.iinc 2 1, 3) := by decide +kernel
theorem dX6_leftOnes_48 : decode cX6_leftOnes 48 = .ok (.goto (-44), 3) := by decide +kernel
theorem dX6_leftOnes_51 : decode cX6_leftOnes 51 = .ok (.iload_n 1, 1) := by decide +kernel
theorem dX6_leftOnes_52 : decode cX6_leftOnes 52 = .ok (.ireturn, 1) := by decide +kernel
theorem dX6_now_0 : decode cX6_now 0 = .ok (.iload_n 1, 1) := by decide +kernel
theorem dX6_now_1 : decode cX6_now 1 = .ok (.tableswitch 91 0 6 #[43, 50, 55, 62, 69, 74, 79], 43) := by decide +kernel
theorem dX6_now_44 : decode cX6_now 44 = .ok (.aload_n 0, 1) := by decide +kernel
theorem dX6_now_45 : decode cX6_now 45 = .ok (.getfield 7, 3) := by decide +kernel
theorem dX6_now_48 : decode cX6_now 48 = .ok (.iconst 0, 1) := by decide +kernel
theorem dX6_now_49 : decode cX6_now 49 = .ok (.iaload, 1) := by decide +kernel
theorem dX6_now_50 : decode cX6_now 50 = .ok (.ireturn, 1) := by decide +kernel
theorem dX6_now_51 : decode cX6_now 51 = .ok (.aload_n 0, 1) := by decide +kernel
theorem dX6_now_52 : decode cX6_now 52 = .ok (.invokevirtual 78, 3) := by decide +kernel
theorem dX6_now_55 : decode cX6_now 55 = .ok (.ireturn, 1) := by decide +kernel
theorem dX6_now_56 : decode cX6_now 56 = .ok (.aload_n 0, 1) := by decide +kernel
theorem dX6_now_57 : decode cX6_now 57 = .ok (.getfield 7, 3) := by decide +kernel
theorem dX6_now_60 : decode cX6_now 60 = .ok (.iconst 2, 1) := by decide +kernel
theorem dX6_now_61 : decode cX6_now 61 = .ok (.iaload, 1) := by decide +kernel
theorem dX6_now_62 : decode cX6_now 62 = .ok (.ireturn, 1) := by decide +kernel
theorem dX6_now_63 : decode cX6_now 63 = .ok (.aload_n 0, 1) := by decide +kernel
theorem dX6_now_64 : decode cX6_now 64 = .ok (.getfield 7, 3) := by decide +kernel
theorem dX6_now_67 : decode cX6_now 67 = .ok (.iconst 3, 1) := by decide +kernel
theorem dX6_now_68 : decode cX6_now 68 = .ok (.iaload, 1) := by decide +kernel
theorem dX6_now_69 : decode cX6_now 69 = .ok (.ireturn, 1) := by decide +kernel
theorem dX6_now_70 : decode cX6_now 70 = .ok (.aload_n 0, 1) := by decide +kernel
theorem dX6_now_71 : decode cX6_now 71 = .ok (.invokevirtual 85, 3) := by decide +kernel
theorem dX6_now_74 : decode cX6_now 74 = .ok (.ireturn, 1) := by decide +kernel
theorem dX6_now_75 : decode cX6_now 75 = .ok (.aload_n 0, 1) := by decide +kernel
theorem dX6_now_76 : decode cX6_now 76 = .ok (.invokevirtual 88, 3) := by decide +kernel
theorem dX6_now_79 : decode cX6_now 79 = .ok (.ireturn, 1) := by decide +kernel
theorem dX6_now_80 : decode cX6_now 80 = .ok (.aload_n 0, 1) := by decide +kernel
theorem dX6_now_81 : decode cX6_now 81 = .ok (.iconst 0, 1) := by decide +kernel
theorem dX6_now_82 : decode cX6_now 82 = .ok (.invokevirtual 91, 3) := by decide +kernel
theorem dX6_now_85 : decode cX6_now 85 = .ok (.aload_n 0, 1) := by decide +kernel
theorem dX6_now_86 : decode cX6_now 86 = .ok (.iconst 1, 1) := by decide +kernel
theorem dX6_now_87 : decode cX6_now 87 = .ok (.invokevirtual 91, 3) := by decide +kernel
theorem dX6_now_90 : decode cX6_now 90 = .ok (.iadd, 1) := by decide +kernel
theorem dX6_now_91 : decode cX6_now 91 = .ok (.ireturn, 1) := by decide +kernel
theorem dX6_now_92 : decode cX6_now 92 = .ok (.aload_n 0, 1) := by decide +kernel
theorem dX6_now_93 : decode cX6_now 93 = .ok (.ldc 41, 2) := by decide +kernel
theorem dX6_now_95 : decode cX6_now 95 = .ok (.invokevirtual 67, 3) := by decide +kernel
theorem dX6_now_98 : decode cX6_now 98 = .ok (.ireturn, 1) := by decide +kernel
theorem dX6_ladySide_0 : decode cX6_ladySide 0 = .ok (.iconst 1, 1) := by decide +kernel
theorem dX6_ladySide_1 : decode cX6_ladySide 1 = .ok (.aload_n 0, 1) := by decide +kernel
theorem dX6_ladySide_2 : decode cX6_ladySide 2 = .ok (.iload_n 1, 1) := by decide +kernel
theorem dX6_ladySide_3 : decode cX6_ladySide 3 = .ok (.iconst 1, 1) := by decide +kernel
theorem dX6_ladySide_4 : decode cX6_ladySide 4 = .ok (.invokevirtual 55, 3) := by decide +kernel
theorem dX6_ladySide_7 : decode cX6_ladySide 7 = .ok (.iload_n 2, 1) := by decide +kernel
theorem dX6_ladySide_8 : decode cX6_ladySide 8 = .ok (.ishr, 1) := by decide +kernel
theorem dX6_ladySide_9 : decode cX6_ladySide 9 = .ok (.iconst 1, 1) := by decide +kernel
theorem dX6_ladySide_10 : decode cX6_ladySide 10 = .ok (.iand, 1) := by decide +kernel
theorem dX6_ladySide_11 : decode cX6_ladySide 11 = .ok (.isub, 1) := by decide +kernel
theorem dX6_ladySide_12 : decode cX6_ladySide 12 = .ok (.istore_n 3, 1) := by decide +kernel
theorem dX6_ladySide_13 : decode cX6_ladySide 13 = .ok (.aload_n 0, 1) := by decide +kernel
theorem dX6_ladySide_14 : decode cX6_ladySide 14 = .ok (.getfield 7, 3) := by decide +kernel
theorem dX6_ladySide_17 : decode cX6_ladySide 17 = .ok (.iload_n 2, 1) := by decide +kernel
theorem dX6_ladySide_18 : decode cX6_ladySide 18 = .ok (.iload_n 3, 1) := by decide +kernel
theorem dX6_ladySide_19 : decode cX6_ladySide 19 = .ok (.invokestatic 52, 3) := by decide +kernel
theorem dX6_ladySide_22 : decode cX6_ladySide 22 = .ok (.iaload, 1) := by decide +kernel
theorem dX6_ladySide_23 : decode cX6_ladySide 23 = .ok (.aload_n 0, 1) := by decide +kernel
theorem dX6_ladySide_24 : decode cX6_ladySide 24 = .ok (.getfield 7, 3) := by decide +kernel
theorem dX6_ladySide_27 : decode cX6_ladySide 27 = .ok (.iload_n 2, 1) := by decide +kernel
theorem dX6_ladySide_28 : decode cX6_ladySide 28 = .ok (.iconst 1, 1) := by decide +kernel
theorem dX6_ladySide_29 : decode cX6_ladySide 29 = .ok (.iload_n 3, 1) := by decide +kernel
theorem dX6_ladySide_30 : decode cX6_ladySide 30 = .ok (.isub, 1) := by decide +kernel
theorem dX6_ladySide_31 : decode cX6_ladySide 31 = .ok (.invokestatic 52, 3) := by decide +kernel
theorem dX6_ladySide_34 : decode cX6_ladySide 34 = .ok (.iaload, 1) := by decide +kernel
theorem dX6_ladySide_35 : decode cX6_ladySide 35 = .ok (.isub, 1) := by decide +kernel
theorem dX6_ladySide_36 : decode cX6_ladySide 36 = .ok (.istore 4, 2) := by decide +kernel
theorem dX6_ladySide_38 : decode cX6_ladySide 38 = .ok (.iload 4, 2) := by decide +kernel
theorem dX6_ladySide_40 : decode cX6_ladySide 40 = .ok (.bipush 20, 2) := by decide +kernel
theorem dX6_ladySide_42 : decode cX6_ladySide 42 = .ok (.if_icmp .le 9, 3) := by decide +kernel
theorem dX6_ladySide_45 : decode cX6_ladySide 45 = .ok (.iconst 1, 1) := by decide +kernel
theorem dX6_ladySide_46 : decode cX6_ladySide 46 = .ok (.iload_n 3, 1) := by decide +kernel
theorem dX6_ladySide_47 : decode cX6_ladySide 47 = .ok (.isub, 1) := by decide +kernel
theorem dX6_ladySide_48 : decode cX6_ladySide 48 = .ok (.goto 4, 3) := by decide +kernel
theorem dX6_ladySide_51 : decode cX6_ladySide 51 = .ok (.iload_n 3, 1) := by decide +kernel
theorem dX6_ladySide_52 : decode cX6_ladySide 52 = .ok (.ireturn, 1) := by decide +kernel
theorem dX6_sideOf_0 : decode cX6_sideOf 0 = .ok (.aload_n 0, 1) := by decide +kernel
theorem dX6_sideOf_1 : decode cX6_sideOf 1 = .ok (.getfield 7, 3) := by decide +kernel
theorem dX6_sideOf_4 : decode cX6_sideOf 4 = .ok (.iload_n 2, 1) := by decide +kernel
theorem dX6_sideOf_5 : decode cX6_sideOf 5 = .ok (.iconst 0, 1) := by decide +kernel
theorem dX6_sideOf_6 : decode cX6_sideOf 6 = .ok (.invokestatic 52, 3) := by decide +kernel
theorem dX6_sideOf_9 : decode cX6_sideOf 9 = .ok (.iaload, 1) := by decide +kernel
theorem dX6_sideOf_10 : decode cX6_sideOf 10 = .ok (.aload_n 0, 1) := by decide +kernel
theorem dX6_sideOf_11 : decode cX6_sideOf 11 = .ok (.getfield 7, 3) := by decide +kernel
theorem dX6_sideOf_14 : decode cX6_sideOf 14 = .ok (.iload_n 2, 1) := by decide +kernel
theorem dX6_sideOf_15 : decode cX6_sideOf 15 = .ok (.iconst 1, 1) := by decide +kernel
theorem dX6_sideOf_16 : decode cX6_sideOf 16 = .ok (.invokestatic 52, 3) := by decide +kernel
theorem dX6_sideOf_19 : decode cX6_sideOf 19 = .ok (.iaload, 1) := by decide +kernel
theorem dX6_sideOf_20 : decode cX6_sideOf 20 = .ok (.if_icmp .gt 7, 3) := by decide +kernel
theorem dX6_sideOf_23 : decode cX6_sideOf 23 = .ok (.iconst 1, 1) := by decide +kernel
theorem dX6_sideOf_24 : decode cX6_sideOf 24 = .ok (.goto 4, 3) := by decide +kernel
theorem dX6_sideOf_27 : decode cX6_sideOf 27 = .ok (.iconst 0, 1) := by decide +kernel
theorem dX6_sideOf_28 : decode cX6_sideOf 28 = .ok (.istore_n 3, 1) := by decide +kernel
theorem dX6_sideOf_29 : decode cX6_sideOf 29 = .ok (.aload_n 0, 1) := by decide +kernel
theorem dX6_sideOf_30 : decode cX6_sideOf 30 = .ok (.iload_n 1, 1) := by decide +kernel
theorem dX6_sideOf_31 : decode cX6_sideOf 31 = .ok (.iconst 0, 1) := by decide +kernel
theorem dX6_sideOf_32 : decode cX6_sideOf 32 = .ok (.invokevirtual 55, 3) := by decide +kernel
theorem dX6_sideOf_35 : decode cX6_sideOf 35 = .ok (.tableswitch 66 1 5 #[33, 40, 50, 59, 40], 33) := by decide +kernel
theorem dX6_sideOf_68 : decode cX6_sideOf 68 = .ok (.aload_n 0, 1) := by decide +kernel
theorem dX6_sideOf_69 : decode cX6_sideOf 69 = .ok (.iload_n 1, 1) := by decide +kernel
theorem dX6_sideOf_70 : decode cX6_sideOf 70 = .ok (.iload_n 2, 1) := by decide +kernel
theorem dX6_sideOf_71 : decode cX6_sideOf 71 = .ok (.invokevirtual 94, 3) := by decide +kernel
theorem dX6_sideOf_74 : decode cX6_sideOf 74 = .ok (.ireturn, 1) := by decide +kernel
theorem dX6_sideOf_75 : decode cX6_sideOf 75 = .ok (.iload_n 3, 1) := by decide +kernel
theorem dX6_sideOf_76 : decode cX6_sideOf 76 = .ok (.ifCond .eq 7, 3) := by decide +kernel
theorem dX6_sideOf_79 : decode cX6_sideOf 79 = .ok (.iconst 0, 1) := by decide +kernel
theorem dX6_sideOf_80 : decode cX6_sideOf 80 = .ok (.goto 4, 3) := by decide +kernel
theorem dX6_sideOf_83 : decode cX6_sideOf 83 = .ok (.iconst 1, 1) := by decide +kernel
theorem dX6_sideOf_84 : decode cX6_sideOf 84 = .ok (.ireturn, 1) := by decide +kernel
theorem dX6_sideOf_85 : decode cX6_sideOf 85 = .ok (.aload_n 0, 1) := by decide +kernel
theorem dX6_sideOf_86 : decode cX6_sideOf 86 = .ok (.getfield 7, 3) := by decide +kernel
theorem dX6_sideOf_89 : decode cX6_sideOf 89 = .ok (.iconst 0, 1) := by decide +kernel
theorem dX6_sideOf_90 : decode cX6_sideOf 90 = .ok (.iaload, 1) := by decide +kernel
theorem dX6_sideOf_91 : decode cX6_sideOf 91 = .ok (.iconst 2, 1) := by decide +kernel
theorem dX6_sideOf_92 : decode cX6_sideOf 92 = .ok (.irem, 1) := by decide +kernel
theorem dX6_sideOf_93 : decode cX6_sideOf 93 = .ok (.ireturn, 1) := by decide +kernel
theorem dX6_sideOf_94 : decode cX6_sideOf 94 = .ok (.aload_n 0, 1) := by decide +kernel
theorem dX6_sideOf_95 : decode cX6_sideOf 95 = .ok (.getfield 7, 3) := by decide +kernel
theorem dX6_sideOf_98 : decode cX6_sideOf 98 = .ok (.iconst 3, 1) := by decide +kernel
theorem dX6_sideOf_99 : decode cX6_sideOf 99 = .ok (.iaload, 1) := by decide +kernel
theorem dX6_sideOf_100 : decode cX6_sideOf 100 = .ok (.ireturn, 1) := by decide +kernel
theorem dX6_sideOf_101 : decode cX6_sideOf 101 = .ok (.iconst 1, 1) := by decide +kernel
theorem dX6_sideOf_102 : decode cX6_sideOf 102 = .ok (.aload_n 0, 1) := by decide +kernel
theorem dX6_sideOf_103 : decode cX6_sideOf 103 = .ok (.iload_n 1, 1) := by decide +kernel
theorem dX6_sideOf_104 : decode cX6_sideOf 104 = .ok (.iconst 1, 1) := by decide +kernel
theorem dX6_sideOf_105 : decode cX6_sideOf 105 = .ok (.invokevirtual 55, 3) := by decide +kernel
theorem dX6_sideOf_108 : decode cX6_sideOf 108 = .ok (.iload_n 2, 1) := by decide +kernel
theorem dX6_sideOf_109 : decode cX6_sideOf 109 = .ok (.ishr, 1) := by decide +kernel
theorem dX6_sideOf_110 : decode cX6_sideOf 110 = .ok (.iconst 1, 1) := by decide +kernel
theorem dX6_sideOf_111 : decode cX6_sideOf 111 = .ok (.iand, 1) := by decide +kernel
theorem dX6_sideOf_112 : decode cX6_sideOf 112 = .ok (.isub, 1) := by decide +kernel
theorem dX6_sideOf_113 : decode cX6_sideOf 113 = .ok (.ireturn, 1) := by decide +kernel
theorem dX6_throwsOf_0 : decode cX6_throwsOf 0 = .ok (.aload_n 0, 1) := by decide +kernel
theorem dX6_throwsOf_1 : decode cX6_throwsOf 1 = .ok (.iload_n 1, 1) := by decide +kernel
theorem dX6_throwsOf_2 : decode cX6_throwsOf 2 = .ok (.iconst 2, 1) := by decide +kernel
theorem dX6_throwsOf_3 : decode cX6_throwsOf 3 = .ok (.invokevirtual 55, 3) := by decide +kernel
theorem dX6_throwsOf_6 : decode cX6_throwsOf 6 = .ok (.istore_n 2, 1) := by decide +kernel
theorem dX6_throwsOf_7 : decode cX6_throwsOf 7 = .ok (.iconst 1, 1) := by decide +kernel
theorem dX6_throwsOf_8 : decode cX6_throwsOf 8 = .ok (.iload_n 2, 1) := by decide +kernel
theorem dX6_throwsOf_9 : decode cX6_throwsOf 9 = .ok (.bipush 20, 2) := by decide +kernel
theorem dX6_throwsOf_11 : decode cX6_throwsOf 11 = .ok (.idiv, 1) := by decide +kernel
theorem dX6_throwsOf_12 : decode cX6_throwsOf 12 = .ok (.iadd, 1) := by decide +kernel
theorem dX6_throwsOf_13 : decode cX6_throwsOf 13 = .ok (.istore_n 3, 1) := by decide +kernel
theorem dX6_throwsOf_14 : decode cX6_throwsOf 14 = .ok (.aload_n 0, 1) := by decide +kernel
theorem dX6_throwsOf_15 : decode cX6_throwsOf 15 = .ok (.iload_n 1, 1) := by decide +kernel
theorem dX6_throwsOf_16 : decode cX6_throwsOf 16 = .ok (.iconst 0, 1) := by decide +kernel
theorem dX6_throwsOf_17 : decode cX6_throwsOf 17 = .ok (.invokevirtual 55, 3) := by decide +kernel
theorem dX6_throwsOf_20 : decode cX6_throwsOf 20 = .ok (.tableswitch 58 1 5 #[36, 42, 44, 50, 42], 36) := by decide +kernel
theorem dX6_throwsOf_56 : decode cX6_throwsOf 56 = .ok (.iload_n 3, 1) := by decide +kernel
theorem dX6_throwsOf_57 : decode cX6_throwsOf 57 = .ok (.iload_n 2, 1) := by decide +kernel
theorem dX6_throwsOf_58 : decode cX6_throwsOf 58 = .ok (.invokestatic 97, 3) := by decide +kernel
theorem dX6_throwsOf_61 : decode cX6_throwsOf 61 = .ok (.ireturn, 1) := by decide +kernel
theorem dX6_throwsOf_62 : decode cX6_throwsOf 62 = .ok (.iconst 0, 1) := by decide +kernel
theorem dX6_throwsOf_63 : decode cX6_throwsOf 63 = .ok (.ireturn, 1) := by decide +kernel
theorem dX6_throwsOf_64 : decode cX6_throwsOf 64 = .ok (.iconst 3, 1) := by decide +kernel
theorem dX6_throwsOf_65 : decode cX6_throwsOf 65 = .ok (.iload_n 2, 1) := by decide +kernel
theorem dX6_throwsOf_66 : decode cX6_throwsOf 66 = .ok (.invokestatic 97, 3) := by decide +kernel
theorem dX6_throwsOf_69 : decode cX6_throwsOf 69 = .ok (.ireturn, 1) := by decide +kernel
theorem dX6_throwsOf_70 : decode cX6_throwsOf 70 = .ok (.iconst 2, 1) := by decide +kernel
theorem dX6_throwsOf_71 : decode cX6_throwsOf 71 = .ok (.iload_n 3, 1) := by decide +kernel
theorem dX6_throwsOf_72 : decode cX6_throwsOf 72 = .ok (.imul, 1) := by decide +kernel
theorem dX6_throwsOf_73 : decode cX6_throwsOf 73 = .ok (.iload_n 2, 1) := by decide +kernel
theorem dX6_throwsOf_74 : decode cX6_throwsOf 74 = .ok (.invokestatic 97, 3) := by decide +kernel
theorem dX6_throwsOf_77 : decode cX6_throwsOf 77 = .ok (.ireturn, 1) := by decide +kernel
theorem dX6_throwsOf_78 : decode cX6_throwsOf 78 = .ok (.iconst 1, 1) := by decide +kernel
theorem dX6_throwsOf_79 : decode cX6_throwsOf 79 = .ok (.iload_n 2, 1) := by decide +kernel
theorem dX6_throwsOf_80 : decode cX6_throwsOf 80 = .ok (.invokestatic 97, 3) := by decide +kernel
theorem dX6_throwsOf_83 : decode cX6_throwsOf 83 = .ok (.ireturn, 1) := by decide +kernel
theorem dX6_fuller_0 : decode cX6_fuller 0 = .ok (.aload_n 0, 1) := by decide +kernel
theorem dX6_fuller_1 : decode cX6_fuller 1 = .ok (.getfield 7, 3) := by decide +kernel
theorem dX6_fuller_4 : decode cX6_fuller 4 = .ok (.iload_n 1, 1) := by decide +kernel
theorem dX6_fuller_5 : decode cX6_fuller 5 = .ok (.iconst 1, 1) := by decide +kernel
theorem dX6_fuller_6 : decode cX6_fuller 6 = .ok (.invokestatic 52, 3) := by decide +kernel
theorem dX6_fuller_9 : decode cX6_fuller 9 = .ok (.iaload, 1) := by decide +kernel
theorem dX6_fuller_10 : decode cX6_fuller 10 = .ok (.aload_n 0, 1) := by decide +kernel
theorem dX6_fuller_11 : decode cX6_fuller 11 = .ok (.getfield 7, 3) := by decide +kernel
theorem dX6_fuller_14 : decode cX6_fuller 14 = .ok (.iload_n 1, 1) := by decide +kernel
theorem dX6_fuller_15 : decode cX6_fuller 15 = .ok (.iconst 0, 1) := by decide +kernel
theorem dX6_fuller_16 : decode cX6_fuller 16 = .ok (.invokestatic 52, 3) := by decide +kernel
theorem dX6_fuller_19 : decode cX6_fuller 19 = .ok (.iaload, 1) := by decide +kernel
theorem dX6_fuller_20 : decode cX6_fuller 20 = .ok (.if_icmp .le 7, 3) := by decide +kernel
theorem dX6_fuller_23 : decode cX6_fuller 23 = .ok (.iconst 1, 1) := by decide +kernel
theorem dX6_fuller_24 : decode cX6_fuller 24 = .ok (.goto 4, 3) := by decide +kernel
theorem dX6_fuller_27 : decode cX6_fuller 27 = .ok (.iconst 0, 1) := by decide +kernel
theorem dX6_fuller_28 : decode cX6_fuller 28 = .ok (.ireturn, 1) := by decide +kernel
theorem dX6_divesOf_0 : decode cX6_divesOf 0 = .ok (.aload_n 0, 1) := by decide +kernel
theorem dX6_divesOf_1 : decode cX6_divesOf 1 = .ok (.getfield 7, 3) := by decide +kernel
theorem dX6_divesOf_4 : decode cX6_divesOf 4 = .ok (.iload_n 2, 1) := by decide +kernel
theorem dX6_divesOf_5 : decode cX6_divesOf 5 = .ok (.iconst 0, 1) := by decide +kernel
theorem dX6_divesOf_6 : decode cX6_divesOf 6 = .ok (.invokestatic 52, 3) := by decide +kernel
theorem dX6_divesOf_9 : decode cX6_divesOf 9 = .ok (.iaload, 1) := by decide +kernel
theorem dX6_divesOf_10 : decode cX6_divesOf 10 = .ok (.istore_n 3, 1) := by decide +kernel
theorem dX6_divesOf_11 : decode cX6_divesOf 11 = .ok (.aload_n 0, 1) := by decide +kernel
theorem dX6_divesOf_12 : decode cX6_divesOf 12 = .ok (.getfield 7, 3) := by decide +kernel
theorem dX6_divesOf_15 : decode cX6_divesOf 15 = .ok (.iload_n 2, 1) := by decide +kernel
theorem dX6_divesOf_16 : decode cX6_divesOf 16 = .ok (.iconst 1, 1) := by decide +kernel
theorem dX6_divesOf_17 : decode cX6_divesOf 17 = .ok (.invokestatic 52, 3) := by decide +kernel
theorem dX6_divesOf_20 : decode cX6_divesOf 20 = .ok (.iaload, 1) := by decide +kernel
theorem dX6_divesOf_21 : decode cX6_divesOf 21 = .ok (.istore 4, 2) := by decide +kernel
theorem dX6_divesOf_23 : decode cX6_divesOf 23 = .ok (.aload_n 0, 1) := by decide +kernel
theorem dX6_divesOf_24 : decode cX6_divesOf 24 = .ok (.getfield 7, 3) := by decide +kernel
theorem dX6_divesOf_27 : decode cX6_divesOf 27 = .ok (.iload_n 2, 1) := by decide +kernel
theorem dX6_divesOf_28 : decode cX6_divesOf 28 = .ok (.aload_n 0, 1) := by decide +kernel
theorem dX6_divesOf_29 : decode cX6_divesOf 29 = .ok (.iload_n 2, 1) := by decide +kernel
theorem dX6_divesOf_30 : decode cX6_divesOf 30 = .ok (.invokevirtual 100, 3) := by decide +kernel
theorem dX6_divesOf_33 : decode cX6_divesOf 33 = .ok (.invokestatic 52, 3) := by decide +kernel
theorem dX6_divesOf_36 : decode cX6_divesOf 36 = .ok (.iaload, 1) := by decide +kernel
theorem dX6_divesOf_37 : decode cX6_divesOf 37 = .ok (.istore 5, 2) := by decide +kernel
theorem dX6_divesOf_39 : decode cX6_divesOf 39 = .ok (.aload_n 0, 1) := by decide +kernel
theorem dX6_divesOf_40 : decode cX6_divesOf 40 = .ok (.iload_n 1, 1) := by decide +kernel
theorem dX6_divesOf_41 : decode cX6_divesOf 41 = .ok (.iconst 0, 1) := by decide +kernel
theorem dX6_divesOf_42 : decode cX6_divesOf 42 = .ok (.invokevirtual 55, 3) := by decide +kernel
theorem dX6_divesOf_45 : decode cX6_divesOf 45 = .ok (.lookupswitch 49 #[(2, 27), (5, 34)], 27) := by decide +kernel
theorem dX6_divesOf_72 : decode cX6_divesOf 72 = .ok (.iconst 2, 1) := by decide +kernel
theorem dX6_divesOf_73 : decode cX6_divesOf 73 = .ok (.iload 5, 2) := by decide +kernel
theorem dX6_divesOf_75 : decode cX6_divesOf 75 = .ok (.invokestatic 97, 3) := by decide +kernel
theorem dX6_divesOf_78 : decode cX6_divesOf 78 = .ok (.ireturn, 1) := by decide +kernel
theorem dX6_divesOf_79 : decode cX6_divesOf 79 = .ok (.iconst 2, 1) := by decide +kernel
theorem dX6_divesOf_80 : decode cX6_divesOf 80 = .ok (.iload_n 3, 1) := by decide +kernel
theorem dX6_divesOf_81 : decode cX6_divesOf 81 = .ok (.iload 4, 2) := by decide +kernel
theorem dX6_divesOf_83 : decode cX6_divesOf 83 = .ok (.iadd, 1) := by decide +kernel
theorem dX6_divesOf_84 : decode cX6_divesOf 84 = .ok (.bipush 10, 2) := by decide +kernel
theorem dX6_divesOf_86 : decode cX6_divesOf 86 = .ok (.idiv, 1) := by decide +kernel
theorem dX6_divesOf_87 : decode cX6_divesOf 87 = .ok (.iadd, 1) := by decide +kernel
theorem dX6_divesOf_88 : decode cX6_divesOf 88 = .ok (.iload 5, 2) := by decide +kernel
theorem dX6_divesOf_90 : decode cX6_divesOf 90 = .ok (.invokestatic 97, 3) := by decide +kernel
theorem dX6_divesOf_93 : decode cX6_divesOf 93 = .ok (.ireturn, 1) := by decide +kernel
theorem dX6_divesOf_94 : decode cX6_divesOf 94 = .ok (.iconst 0, 1) := by decide +kernel
theorem dX6_divesOf_95 : decode cX6_divesOf 95 = .ok (.ireturn, 1) := by decide +kernel
theorem dX6_earnsOf_0 : decode cX6_earnsOf 0 = .ok (.aload_n 0, 1) := by decide +kernel
theorem dX6_earnsOf_1 : decode cX6_earnsOf 1 = .ok (.iload_n 1, 1) := by decide +kernel
theorem dX6_earnsOf_2 : decode cX6_earnsOf 2 = .ok (.iconst 0, 1) := by decide +kernel
theorem dX6_earnsOf_3 : decode cX6_earnsOf 3 = .ok (.invokevirtual 55, 3) := by decide +kernel
theorem dX6_earnsOf_6 : decode cX6_earnsOf 6 = .ok (.tableswitch 40 1 5 #[34, 38, 36, 38, 38], 34) := by decide +kernel
theorem dX6_earnsOf_40 : decode cX6_earnsOf 40 = .ok (.iconst 3, 1) := by decide +kernel
theorem dX6_earnsOf_41 : decode cX6_earnsOf 41 = .ok (.ireturn, 1) := by decide +kernel
theorem dX6_earnsOf_42 : decode cX6_earnsOf 42 = .ok (.iconst 4, 1) := by decide +kernel
theorem dX6_earnsOf_43 : decode cX6_earnsOf 43 = .ok (.ireturn, 1) := by decide +kernel
theorem dX6_earnsOf_44 : decode cX6_earnsOf 44 = .ok (.iconst 0, 1) := by decide +kernel
theorem dX6_earnsOf_45 : decode cX6_earnsOf 45 = .ok (.ireturn, 1) := by decide +kernel
theorem dX6_earnsOf_46 : decode cX6_earnsOf 46 = .ok (.iconst 2, 1) := by decide +kernel
theorem dX6_earnsOf_47 : decode cX6_earnsOf 47 = .ok (.ireturn, 1) := by decide +kernel
theorem dX6_adds_0 : decode cX6_adds 0 = .ok (.aload_n 0, 1) := by decide +kernel
theorem dX6_adds_1 : decode cX6_adds 1 = .ok (.getfield 7, 3) := by decide +kernel
theorem dX6_adds_4 : decode cX6_adds 4 = .ok (.iconst 1, 1) := by decide +kernel
theorem dX6_adds_5 : decode cX6_adds 5 = .ok (.iaload, 1) := by decide +kernel
theorem dX6_adds_6 : decode cX6_adds 6 = .ok (.istore_n 2, 1) := by decide +kernel
theorem dX6_adds_7 : decode cX6_adds 7 = .ok (.aload_n 0, 1) := by decide +kernel
theorem dX6_adds_8 : decode cX6_adds 8 = .ok (.getfield 7, 3) := by decide +kernel
theorem dX6_adds_11 : decode cX6_adds 11 = .ok (.iconst 1, 1) := by decide +kernel
theorem dX6_adds_12 : decode cX6_adds 12 = .ok (.dup2, 1) := by decide +kernel
theorem dX6_adds_13 : decode cX6_adds 13 = .ok (.iaload, 1) := by decide +kernel
theorem dX6_adds_14 : decode cX6_adds 14 = .ok (.iconst 1, 1) := by decide +kernel
theorem dX6_adds_15 : decode cX6_adds 15 = .ok (.iadd, 1) := by decide +kernel
theorem dX6_adds_16 : decode cX6_adds 16 = .ok (.iastore, 1) := by decide +kernel
theorem dX6_adds_17 : decode cX6_adds 17 = .ok (.aload_n 0, 1) := by decide +kernel
theorem dX6_adds_18 : decode cX6_adds 18 = .ok (.getfield 7, 3) := by decide +kernel
theorem dX6_adds_21 : decode cX6_adds 21 = .ok (.iload_n 2, 1) := by decide +kernel
theorem dX6_adds_22 : decode cX6_adds 22 = .ok (.iconst 0, 1) := by decide +kernel
theorem dX6_adds_23 : decode cX6_adds 23 = .ok (.invokestatic 42, 3) := by decide +kernel
theorem dX6_adds_26 : decode cX6_adds 26 = .ok (.iload_n 1, 1) := by decide +kernel
theorem dX6_adds_27 : decode cX6_adds 27 = .ok (.iastore, 1) := by decide +kernel
theorem dX6_adds_28 : decode cX6_adds 28 = .ok (.aload_n 0, 1) := by decide +kernel
theorem dX6_adds_29 : decode cX6_adds 29 = .ok (.getfield 7, 3) := by decide +kernel
theorem dX6_adds_32 : decode cX6_adds 32 = .ok (.iload_n 2, 1) := by decide +kernel
theorem dX6_adds_33 : decode cX6_adds 33 = .ok (.iconst 1, 1) := by decide +kernel
theorem dX6_adds_34 : decode cX6_adds 34 = .ok (.invokestatic 42, 3) := by decide +kernel
theorem dX6_adds_37 : decode cX6_adds 37 = .ok (.iconst 0, 1) := by decide +kernel
theorem dX6_adds_38 : decode cX6_adds 38 = .ok (.iastore, 1) := by decide +kernel
theorem dX6_adds_39 : decode cX6_adds 39 = .ok (.aload_n 0, 1) := by decide +kernel
theorem dX6_adds_40 : decode cX6_adds 40 = .ok (.getfield 7, 3) := by decide +kernel
theorem dX6_adds_43 : decode cX6_adds 43 = .ok (.iload_n 2, 1) := by decide +kernel
theorem dX6_adds_44 : decode cX6_adds 44 = .ok (.iconst 2, 1) := by decide +kernel
theorem dX6_adds_45 : decode cX6_adds 45 = .ok (.invokestatic 42, 3) := by decide +kernel
theorem dX6_adds_48 : decode cX6_adds 48 = .ok (.bipush 20, 2) := by decide +kernel
theorem dX6_adds_50 : decode cX6_adds 50 = .ok (.iastore, 1) := by decide +kernel
theorem dX6_adds_51 : decode cX6_adds 51 = .ok (.aload_n 0, 1) := by decide +kernel
theorem dX6_adds_52 : decode cX6_adds 52 = .ok (.getfield 7, 3) := by decide +kernel
theorem dX6_adds_55 : decode cX6_adds 55 = .ok (.iload_n 2, 1) := by decide +kernel
theorem dX6_adds_56 : decode cX6_adds 56 = .ok (.iconst 3, 1) := by decide +kernel
theorem dX6_adds_57 : decode cX6_adds 57 = .ok (.invokestatic 42, 3) := by decide +kernel
theorem dX6_adds_60 : decode cX6_adds 60 = .ok (.iconst 0, 1) := by decide +kernel
theorem dX6_adds_61 : decode cX6_adds 61 = .ok (.iastore, 1) := by decide +kernel
theorem dX6_adds_62 : decode cX6_adds 62 = .ok (.iload_n 2, 1) := by decide +kernel
theorem dX6_adds_63 : decode cX6_adds 63 = .ok (.ireturn, 1) := by decide +kernel
theorem dX6_person_0 : decode cX6_person 0 = .ok (.iload_n 1, 1) := by decide +kernel
theorem dX6_person_1 : decode cX6_person 1 = .ok (.invokestatic 103, 3) := by decide +kernel
theorem dX6_person_4 : decode cX6_person 4 = .ok (.ifCond .ne 10, 3) := by decide +kernel
theorem dX6_person_7 : decode cX6_person 7 = .ok (.aload_n 0, 1) := by decide +kernel
theorem dX6_person_8 : decode cX6_person 8 = .ok (.ldc 41, 2) := by decide +kernel
theorem dX6_person_10 : decode cX6_person 10 = .ok (.invokevirtual 67, 3) := by decide +kernel
theorem dX6_person_13 : decode cX6_person 13 = .ok (.ireturn, 1) := by decide +kernel
theorem dX6_person_14 : decode cX6_person 14 = .ok (.aload_n 0, 1) := by decide +kernel
theorem dX6_person_15 : decode cX6_person 15 = .ok (.getfield 7, 3) := by decide +kernel
theorem dX6_person_18 : decode cX6_person 18 = .ok (.iconst 1, 1) := by decide +kernel
theorem dX6_person_19 : decode cX6_person 19 = .ok (.iaload, 1) := by decide +kernel
theorem dX6_person_20 : decode cX6_person 20 = .ok (.bipush 8, 2) := by decide +kernel
theorem dX6_person_22 : decode cX6_person 22 = .ok (.if_icmp .ne 12, 3) := by decide +kernel
theorem dX6_person_25 : decode cX6_person 25 = .ok (.aload_n 0, 1) := by decide +kernel
theorem dX6_person_26 : decode cX6_person 26 = .ok (.ldc 106, 2) := by decide +kernel
theorem dX6_person_28 : decode cX6_person 28 = .ok (.invokevirtual 67, 3) := by decide +kernel
theorem dX6_person_31 : decode cX6_person 31 = .ok (.goto 8, 3) := by decide +kernel
theorem dX6_person_34 : decode cX6_person 34 = .ok (.aload_n 0, 1) := by decide +kernel
theorem dX6_person_35 : decode cX6_person 35 = .ok (.iload_n 1, 1) := by decide +kernel
theorem dX6_person_36 : decode cX6_person 36 = .ok (.invokevirtual 107, 3) := by decide +kernel
theorem dX6_person_39 : decode cX6_person 39 = .ok (.ireturn, 1) := by decide +kernel
theorem dX6_of_0 : decode cX6_of 0 = .ok (.aload_n 0, 1) := by decide +kernel
theorem dX6_of_1 : decode cX6_of 1 = .ok (.iload_n 1, 1) := by decide +kernel
theorem dX6_of_2 : decode cX6_of 2 = .ok (.invokevirtual 110, 3) := by decide +kernel
theorem dX6_of_5 : decode cX6_of 5 = .ok (.ifCond .eq 15, 3) := by decide +kernel
theorem dX6_of_8 : decode cX6_of 8 = .ok (.iload_n 2, 1) := by decide +kernel
theorem dX6_of_9 : decode cX6_of 9 = .ok (.i2l, 1) := by decide +kernel
theorem dX6_of_10 : decode cX6_of 10 = .ok (.lconst 0, 1) := by decide +kernel
theorem dX6_of_11 : decode cX6_of 11 = .ok (.ldc2_w 50, 3) := by decide +kernel
theorem dX6_of_14 : decode cX6_of 14 = .ok (.invokestatic 46, 3) := by decide +kernel
theorem dX6_of_17 : decode cX6_of 17 = .ok (.ifCond .ne 10, 3) := by decide +kernel
theorem dX6_of_20 : decode cX6_of 20 = .ok (.aload_n 0, 1) := by decide +kernel
theorem dX6_of_21 : decode cX6_of 21 = .ok (.ldc 41, 2) := by decide +kernel
theorem dX6_of_23 : decode cX6_of 23 = .ok (.invokevirtual 67, 3) := by decide +kernel
theorem dX6_of_26 : decode cX6_of 26 = .ok (.ireturn, 1) := by decide +kernel
theorem dX6_of_27 : decode cX6_of 27 = .ok (.iload_n 2, 1) := by decide +kernel
theorem dX6_of_28 : decode cX6_of 28 = .ok (.iconst 3, 1) := by decide +kernel
theorem dX6_of_29 : decode cX6_of 29 = .ok (.if_icmp .gt 12, 3) := by decide +kernel
theorem dX6_of_32 : decode cX6_of 32 = .ok (.aload_n 0, 1) := by decide +kernel
theorem dX6_of_33 : decode cX6_of 33 = .ok (.iload_n 1, 1) := by decide +kernel
theorem dX6_of_34 : decode cX6_of 34 = .ok (.iload_n 2, 1) := by decide +kernel
theorem dX6_of_35 : decode cX6_of 35 = .ok (.invokevirtual 55, 3) := by decide +kernel
theorem dX6_of_38 : decode cX6_of 38 = .ok (.goto 21, 3) := by decide +kernel
theorem dX6_of_41 : decode cX6_of 41 = .ok (.iload_n 2, 1) := by decide +kernel
theorem dX6_of_42 : decode cX6_of 42 = .ok (.iconst 4, 1) := by decide +kernel
theorem dX6_of_43 : decode cX6_of 43 = .ok (.if_icmp .ne 11, 3) := by decide +kernel
theorem dX6_of_46 : decode cX6_of 46 = .ok (.aload_n 0, 1) := by decide +kernel
theorem dX6_of_47 : decode cX6_of 47 = .ok (.iload_n 1, 1) := by decide +kernel
theorem dX6_of_48 : decode cX6_of 48 = .ok (.invokevirtual 113, 3) := by decide +kernel
theorem dX6_of_51 : decode cX6_of 51 = .ok (.goto 8, 3) := by decide +kernel
theorem dX6_of_54 : decode cX6_of 54 = .ok (.aload_n 0, 1) := by decide +kernel
theorem dX6_of_55 : decode cX6_of 55 = .ok (.iload_n 1, 1) := by decide +kernel
theorem dX6_of_56 : decode cX6_of 56 = .ok (.invokevirtual 116, 3) := by decide +kernel
theorem dX6_of_59 : decode cX6_of 59 = .ok (.ireturn, 1) := by decide +kernel
theorem dX6_acts_0 : decode cX6_acts 0 = .ok (.aload_n 0, 1) := by decide +kernel
theorem dX6_acts_1 : decode cX6_acts 1 = .ok (.iload_n 1, 1) := by decide +kernel
theorem dX6_acts_2 : decode cX6_acts 2 = .ok (.invokevirtual 110, 3) := by decide +kernel
theorem dX6_acts_5 : decode cX6_acts 5 = .ok (.ifCond .eq 20, 3) := by decide +kernel
theorem dX6_acts_8 : decode cX6_acts 8 = .ok (.iload_n 2, 1) := by decide +kernel
theorem dX6_acts_9 : decode cX6_acts 9 = .ok (.invokestatic 60, 3) := by decide +kernel
theorem dX6_acts_12 : decode cX6_acts 12 = .ok (.ifCond .eq 13, 3) := by decide +kernel
theorem dX6_acts_15 : decode cX6_acts 15 = .ok (.iload_n 3, 1) := by decide +kernel
theorem dX6_acts_16 : decode cX6_acts 16 = .ok (.i2l, 1) := by decide +kernel
theorem dX6_acts_17 : decode cX6_acts 17 = .ok (.lconst 0, 1) := by decide +kernel
theorem dX6_acts_18 : decode cX6_acts 18 = .ok (.lconst 1, 1) := by decide +kernel
theorem dX6_acts_19 : decode cX6_acts 19 = .ok (.invokestatic 46, 3) := by decide +kernel
theorem dX6_acts_22 : decode cX6_acts 22 = .ok (.ifCond .ne 10, 3) := by decide +kernel
theorem dX6_acts_25 : decode cX6_acts 25 = .ok (.aload_n 0, 1) := by decide +kernel
theorem dX6_acts_26 : decode cX6_acts 26 = .ok (.ldc 41, 2) := by decide +kernel
theorem dX6_acts_28 : decode cX6_acts 28 = .ok (.invokevirtual 67, 3) := by decide +kernel
theorem dX6_acts_31 : decode cX6_acts 31 = .ok (.ireturn, 1) := by decide +kernel
theorem dX6_acts_32 : decode cX6_acts 32 = .ok (.iload_n 3, 1) := by decide +kernel
theorem dX6_acts_33 : decode cX6_acts 33 = .ok (.ifCond .ne 12, 3) := by decide +kernel
theorem dX6_acts_36 : decode cX6_acts 36 = .ok (.aload_n 0, 1) := by decide +kernel
theorem dX6_acts_37 : decode cX6_acts 37 = .ok (.iload_n 1, 1) := by decide +kernel
theorem dX6_acts_38 : decode cX6_acts 38 = .ok (.iload_n 2, 1) := by decide +kernel
theorem dX6_acts_39 : decode cX6_acts 39 = .ok (.invokevirtual 82, 3) := by decide +kernel
theorem dX6_acts_42 : decode cX6_acts 42 = .ok (.goto 9, 3) := by decide +kernel
theorem dX6_acts_45 : decode cX6_acts 45 = .ok (.aload_n 0, 1) := by decide +kernel
theorem dX6_acts_46 : decode cX6_acts 46 = .ok (.iload_n 1, 1) := by decide +kernel
theorem dX6_acts_47 : decode cX6_acts 47 = .ok (.iload_n 2, 1) := by decide +kernel
theorem dX6_acts_48 : decode cX6_acts 48 = .ok (.invokevirtual 119, 3) := by decide +kernel
theorem dX6_acts_51 : decode cX6_acts 51 = .ok (.ireturn, 1) := by decide +kernel
theorem dX6_set_0 : decode cX6_set 0 = .ok (.iload_n 2, 1) := by decide +kernel
theorem dX6_set_1 : decode cX6_set 1 = .ok (.i2l, 1) := by decide +kernel
theorem dX6_set_2 : decode cX6_set 2 = .ok (.lconst 1, 1) := by decide +kernel
theorem dX6_set_3 : decode cX6_set 3 = .ok (.ldc2_w 122, 3) := by decide +kernel
theorem dX6_set_6 : decode cX6_set 6 = .ok (.invokestatic 46, 3) := by decide +kernel
theorem dX6_set_9 : decode cX6_set 9 = .ok (.ifCond .eq 39, 3) := by decide +kernel
theorem dX6_set_12 : decode cX6_set 12 = .ok (.iload_n 3, 1) := by decide +kernel
theorem dX6_set_13 : decode cX6_set 13 = .ok (.i2l, 1) := by decide +kernel
theorem dX6_set_14 : decode cX6_set 14 = .ok (.lconst 0, 1) := by decide +kernel
theorem dX6_set_15 : decode cX6_set 15 = .ok (.iload_n 2, 1) := by decide +kernel
theorem dX6_set_16 : decode cX6_set 16 = .ok (.iconst 1, 1) := by decide +kernel
theorem dX6_set_17 : decode cX6_set 17 = .ok (.if_icmp .ne 9, 3) := by decide +kernel
theorem dX6_set_20 : decode cX6_set 20 = .ok (.ldc2_w 76, 3) := by decide +kernel
theorem dX6_set_23 : decode cX6_set 23 = .ok (.goto 15, 3) := by decide +kernel
theorem dX6_set_26 : decode cX6_set 26 = .ok (.iload_n 2, 1) := by decide +kernel
theorem dX6_set_27 : decode cX6_set 27 = .ok (.iconst 2, 1) := by decide +kernel
theorem dX6_set_28 : decode cX6_set 28 = .ok (.if_icmp .ne 9, 3) := by decide +kernel
theorem dX6_set_31 : decode cX6_set 31 = .ok (.ldc2_w 58, 3) := by decide +kernel
theorem dX6_set_34 : decode cX6_set 34 = .ok (.goto 4, 3) := by decide +kernel
theorem dX6_set_37 : decode cX6_set 37 = .ok (.lconst 1, 1) := by decide +kernel
theorem dX6_set_38 : decode cX6_set 38 = .ok (.invokestatic 46, 3) := by decide +kernel
theorem dX6_set_41 : decode cX6_set 41 = .ok (.ifCond .eq 7, 3) := by decide +kernel
theorem dX6_set_44 : decode cX6_set 44 = .ok (.iconst 1, 1) := by decide +kernel
theorem dX6_set_45 : decode cX6_set 45 = .ok (.goto 4, 3) := by decide +kernel
theorem dX6_set_48 : decode cX6_set 48 = .ok (.iconst 0, 1) := by decide +kernel
theorem dX6_set_49 : decode cX6_set 49 = .ok (.istore 4, 2) := by decide +kernel
theorem dX6_set_51 : decode cX6_set 51 = .ok (.aload_n 0, 1) := by decide +kernel
theorem dX6_set_52 : decode cX6_set 52 = .ok (.iload_n 1, 1) := by decide +kernel
theorem dX6_set_53 : decode cX6_set 53 = .ok (.invokevirtual 110, 3) := by decide +kernel
theorem dX6_set_56 : decode cX6_set 56 = .ok (.ifCond .eq 21, 3) := by decide +kernel
theorem dX6_set_59 : decode cX6_set 59 = .ok (.iload 4, 2) := by decide +kernel
theorem dX6_set_61 : decode cX6_set 61 = .ok (.ifCond .eq 16, 3) := by decide +kernel
theorem dX6_set_64 : decode cX6_set 64 = .ok (.aload_n 0, 1) := by decide +kernel
theorem dX6_set_65 : decode cX6_set 65 = .ok (.iload_n 1, 1) := by decide +kernel
theorem dX6_set_66 : decode cX6_set 66 = .ok (.iload_n 2, 1) := by decide +kernel
theorem dX6_set_67 : decode cX6_set 67 = .ok (.invokestatic 42, 3) := by decide +kernel
theorem dX6_set_70 : decode cX6_set 70 = .ok (.iload_n 3, 1) := by decide +kernel
theorem dX6_set_71 : decode cX6_set 71 = .ok (.invokevirtual 64, 3) := by decide +kernel
theorem dX6_set_74 : decode cX6_set 74 = .ok (.goto 9, 3) := by decide +kernel
theorem dX6_set_77 : decode cX6_set 77 = .ok (.aload_n 0, 1) := by decide +kernel
theorem dX6_set_78 : decode cX6_set 78 = .ok (.ldc 41, 2) := by decide +kernel
theorem dX6_set_80 : decode cX6_set 80 = .ok (.invokevirtual 67, 3) := by decide +kernel
theorem dX6_set_83 : decode cX6_set 83 = .ok (.ireturn, 1) := by decide +kernel
theorem dX6_turn_0 : decode cX6_turn 0 = .ok (.aload_n 0, 1) := by decide +kernel
theorem dX6_turn_1 : decode cX6_turn 1 = .ok (.iload_n 1, 1) := by decide +kernel
theorem dX6_turn_2 : decode cX6_turn 2 = .ok (.invokevirtual 110, 3) := by decide +kernel
theorem dX6_turn_5 : decode cX6_turn 5 = .ok (.ifCond .eq 23, 3) := by decide +kernel
theorem dX6_turn_8 : decode cX6_turn 8 = .ok (.iload_n 2, 1) := by decide +kernel
theorem dX6_turn_9 : decode cX6_turn 9 = .ok (.invokestatic 103, 3) := by decide +kernel
theorem dX6_turn_12 : decode cX6_turn 12 = .ok (.ifCond .eq 16, 3) := by decide +kernel
theorem dX6_turn_15 : decode cX6_turn 15 = .ok (.aload_n 0, 1) := by decide +kernel
theorem dX6_turn_16 : decode cX6_turn 16 = .ok (.iload_n 1, 1) := by decide +kernel
theorem dX6_turn_17 : decode cX6_turn 17 = .ok (.iconst 0, 1) := by decide +kernel
theorem dX6_turn_18 : decode cX6_turn 18 = .ok (.invokestatic 42, 3) := by decide +kernel
theorem dX6_turn_21 : decode cX6_turn 21 = .ok (.iload_n 2, 1) := by decide +kernel
theorem dX6_turn_22 : decode cX6_turn 22 = .ok (.invokevirtual 64, 3) := by decide +kernel
theorem dX6_turn_25 : decode cX6_turn 25 = .ok (.goto 9, 3) := by decide +kernel
theorem dX6_turn_28 : decode cX6_turn 28 = .ok (.aload_n 0, 1) := by decide +kernel
theorem dX6_turn_29 : decode cX6_turn 29 = .ok (.ldc 41, 2) := by decide +kernel
theorem dX6_turn_31 : decode cX6_turn 31 = .ok (.invokevirtual 67, 3) := by decide +kernel
theorem dX6_turn_34 : decode cX6_turn 34 = .ok (.ireturn, 1) := by decide +kernel
theorem dX6_isUnder_0 : decode cX6_isUnder 0 = .ok (.iload_n 1, 1) := by decide +kernel
theorem dX6_isUnder_1 : decode cX6_isUnder 1 = .ok (.ifCond .eq 28, 3) := by decide +kernel
theorem dX6_isUnder_4 : decode cX6_isUnder 4 = .ok (.iload_n 0, 1) := by decide +kernel
theorem dX6_isUnder_5 : decode cX6_isUnder 5 = .ok (.iload_n 1, 1) := by decide +kernel
theorem dX6_isUnder_6 : decode cX6_isUnder 6 = .ok (.if_icmp .eq 23, 3) := by decide +kernel
theorem dX6_isUnder_9 : decode cX6_isUnder 9 = .ok (.iload_n 0, 1) := by decide +kernel
theorem dX6_isUnder_10 : decode cX6_isUnder 10 = .ok (.iconst 4, 1) := by decide +kernel
theorem dX6_isUnder_11 : decode cX6_isUnder 11 = .ok (.if_icmp .ne 8, 3) := by decide +kernel
theorem dX6_isUnder_14 : decode cX6_isUnder 14 = .ok (.iload_n 1, 1) := by decide +kernel
theorem dX6_isUnder_15 : decode cX6_isUnder 15 = .ok (.iconst 1, 1) := by decide +kernel
theorem dX6_isUnder_16 : decode cX6_isUnder 16 = .ok (.if_icmp .eq 13, 3) := by decide +kernel
theorem dX6_isUnder_19 : decode cX6_isUnder 19 = .ok (.iload_n 0, 1) := by decide +kernel
theorem dX6_isUnder_20 : decode cX6_isUnder 20 = .ok (.iconst 5, 1) := by decide +kernel
theorem dX6_isUnder_21 : decode cX6_isUnder 21 = .ok (.if_icmp .ne 12, 3) := by decide +kernel
theorem dX6_isUnder_24 : decode cX6_isUnder 24 = .ok (.iload_n 1, 1) := by decide +kernel
theorem dX6_isUnder_25 : decode cX6_isUnder 25 = .ok (.iconst 2, 1) := by decide +kernel
theorem dX6_isUnder_26 : decode cX6_isUnder 26 = .ok (.if_icmp .ne 7, 3) := by decide +kernel
theorem dX6_isUnder_29 : decode cX6_isUnder 29 = .ok (.iconst 1, 1) := by decide +kernel
theorem dX6_isUnder_30 : decode cX6_isUnder 30 = .ok (.goto 4, 3) := by decide +kernel
theorem dX6_isUnder_33 : decode cX6_isUnder 33 = .ok (.iconst 0, 1) := by decide +kernel
theorem dX6_isUnder_34 : decode cX6_isUnder 34 = .ok (.ireturn, 1) := by decide +kernel
theorem dX6_as_0 : decode cX6_as 0 = .ok (.aload_n 0, 1) := by decide +kernel
theorem dX6_as_1 : decode cX6_as 1 = .ok (.iload_n 1, 1) := by decide +kernel
theorem dX6_as_2 : decode cX6_as 2 = .ok (.invokevirtual 110, 3) := by decide +kernel
theorem dX6_as_5 : decode cX6_as 5 = .ok (.ifCond .eq 10, 3) := by decide +kernel
theorem dX6_as_8 : decode cX6_as 8 = .ok (.iload_n 2, 1) := by decide +kernel
theorem dX6_as_9 : decode cX6_as 9 = .ok (.invokestatic 103, 3) := by decide +kernel
theorem dX6_as_12 : decode cX6_as 12 = .ok (.ifCond .ne 10, 3) := by decide +kernel
theorem dX6_as_15 : decode cX6_as 15 = .ok (.aload_n 0, 1) := by decide +kernel
theorem dX6_as_16 : decode cX6_as 16 = .ok (.ldc 41, 2) := by decide +kernel
theorem dX6_as_18 : decode cX6_as 18 = .ok (.invokevirtual 67, 3) := by decide +kernel
theorem dX6_as_21 : decode cX6_as 21 = .ok (.ireturn, 1) := by decide +kernel
theorem dX6_as_22 : decode cX6_as 22 = .ok (.aload_n 0, 1) := by decide +kernel
theorem dX6_as_23 : decode cX6_as 23 = .ok (.iload_n 1, 1) := by decide +kernel
theorem dX6_as_24 : decode cX6_as 24 = .ok (.iconst 0, 1) := by decide +kernel
theorem dX6_as_25 : decode cX6_as 25 = .ok (.invokevirtual 55, 3) := by decide +kernel
theorem dX6_as_28 : decode cX6_as 28 = .ok (.iload_n 2, 1) := by decide +kernel
theorem dX6_as_29 : decode cX6_as 29 = .ok (.invokestatic 124, 3) := by decide +kernel
theorem dX6_as_32 : decode cX6_as 32 = .ok (.ifCond .eq 12, 3) := by decide +kernel
theorem dX6_as_35 : decode cX6_as 35 = .ok (.aload_n 0, 1) := by decide +kernel
theorem dX6_as_36 : decode cX6_as 36 = .ok (.iload_n 1, 1) := by decide +kernel
theorem dX6_as_37 : decode cX6_as 37 = .ok (.iconst 2, 1) := by decide +kernel
theorem dX6_as_38 : decode cX6_as 38 = .ok (.invokevirtual 55, 3) := by decide +kernel
theorem dX6_as_41 : decode cX6_as 41 = .ok (.goto 9, 3) := by decide +kernel
theorem dX6_as_44 : decode cX6_as 44 = .ok (.aload_n 0, 1) := by decide +kernel
theorem dX6_as_45 : decode cX6_as 45 = .ok (.ldc 128, 2) := by decide +kernel
theorem dX6_as_47 : decode cX6_as 47 = .ok (.invokevirtual 67, 3) := by decide +kernel
theorem dX6_as_50 : decode cX6_as 50 = .ok (.ireturn, 1) := by decide +kernel
theorem dX6_comes_0 : decode cX6_comes 0 = .ok (.aload_n 0, 1) := by decide +kernel
theorem dX6_comes_1 : decode cX6_comes 1 = .ok (.getfield 7, 3) := by decide +kernel
theorem dX6_comes_4 : decode cX6_comes 4 = .ok (.iload_n 1, 1) := by decide +kernel
theorem dX6_comes_5 : decode cX6_comes 5 = .ok (.iconst 2, 1) := by decide +kernel
theorem dX6_comes_6 : decode cX6_comes 6 = .ok (.invokestatic 42, 3) := by decide +kernel
theorem dX6_comes_9 : decode cX6_comes 9 = .ok (.aload_n 0, 1) := by decide +kernel
theorem dX6_comes_10 : decode cX6_comes 10 = .ok (.iload_n 1, 1) := by decide +kernel
theorem dX6_comes_11 : decode cX6_comes 11 = .ok (.iconst 2, 1) := by decide +kernel
theorem dX6_comes_12 : decode cX6_comes 12 = .ok (.invokevirtual 55, 3) := by decide +kernel
theorem dX6_comes_15 : decode cX6_comes 15 = .ok (.aload_n 0, 1) := by decide +kernel
theorem dX6_comes_16 : decode cX6_comes 16 = .ok (.iload_n 1, 1) := by decide +kernel
theorem dX6_comes_17 : decode cX6_comes 17 = .ok (.invokevirtual 116, 3) := by decide +kernel
theorem dX6_comes_20 : decode cX6_comes 20 = .ok (.iadd, 1) := by decide +kernel
theorem dX6_comes_21 : decode cX6_comes 21 = .ok (.sipush 9999, 3) := by decide +kernel
theorem dX6_comes_24 : decode cX6_comes 24 = .ok (.invokestatic 97, 3) := by decide +kernel
theorem dX6_comes_27 : decode cX6_comes 27 = .ok (.iastore, 1) := by decide +kernel
theorem dX6_comes_28 : decode cX6_comes 28 = .ok (.aload_n 0, 1) := by decide +kernel
theorem dX6_comes_29 : decode cX6_comes 29 = .ok (.iload_n 1, 1) := by decide +kernel
theorem dX6_comes_30 : decode cX6_comes 30 = .ok (.invokevirtual 113, 3) := by decide +kernel
theorem dX6_comes_33 : decode cX6_comes 33 = .ok (.istore_n 3, 1) := by decide +kernel
theorem dX6_comes_34 : decode cX6_comes 34 = .ok (.iload_n 2, 1) := by decide +kernel
theorem dX6_comes_35 : decode cX6_comes 35 = .ok (.aload_n 0, 1) := by decide +kernel
theorem dX6_comes_36 : decode cX6_comes 36 = .ok (.iload_n 1, 1) := by decide +kernel
theorem dX6_comes_37 : decode cX6_comes 37 = .ok (.iload_n 2, 1) := by decide +kernel
theorem dX6_comes_38 : decode cX6_comes 38 = .ok (.invokevirtual 82, 3) := by decide +kernel
theorem dX6_comes_41 : decode cX6_comes 41 = .ok (.invokestatic 52, 3) := by decide +kernel
theorem dX6_comes_44 : decode cX6_comes 44 = .ok (.istore 4, 2) := by decide +kernel
theorem dX6_comes_46 : decode cX6_comes 46 = .ok (.aload_n 0, 1) := by decide +kernel
theorem dX6_comes_47 : decode cX6_comes 47 = .ok (.getfield 7, 3) := by decide +kernel
theorem dX6_comes_50 : decode cX6_comes 50 = .ok (.iload_n 1, 1) := by decide +kernel
theorem dX6_comes_51 : decode cX6_comes 51 = .ok (.iconst 2, 1) := by decide +kernel
theorem dX6_comes_52 : decode cX6_comes 52 = .ok (.invokestatic 42, 3) := by decide +kernel
theorem dX6_comes_55 : decode cX6_comes 55 = .ok (.dup2, 1) := by decide +kernel
theorem dX6_comes_56 : decode cX6_comes 56 = .ok (.iaload, 1) := by decide +kernel
theorem dX6_comes_57 : decode cX6_comes 57 = .ok (.iload_n 3, 1) := by decide +kernel
theorem dX6_comes_58 : decode cX6_comes 58 = .ok (.isub, 1) := by decide +kernel
theorem dX6_comes_59 : decode cX6_comes 59 = .ok (.iastore, 1) := by decide +kernel
theorem dX6_comes_60 : decode cX6_comes 60 = .ok (.aload_n 0, 1) := by decide +kernel
theorem dX6_comes_61 : decode cX6_comes 61 = .ok (.getfield 7, 3) := by decide +kernel
theorem dX6_comes_64 : decode cX6_comes 64 = .ok (.iload 4, 2) := by decide +kernel
theorem dX6_comes_66 : decode cX6_comes 66 = .ok (.aload_n 0, 1) := by decide +kernel
theorem dX6_comes_67 : decode cX6_comes 67 = .ok (.getfield 7, 3) := by decide +kernel
theorem dX6_comes_70 : decode cX6_comes 70 = .ok (.iload 4, 2) := by decide +kernel
theorem dX6_comes_72 : decode cX6_comes 72 = .ok (.iaload, 1) := by decide +kernel
theorem dX6_comes_73 : decode cX6_comes 73 = .ok (.iload_n 3, 1) := by decide +kernel
theorem dX6_comes_74 : decode cX6_comes 74 = .ok (.iadd, 1) := by decide +kernel
theorem dX6_comes_75 : decode cX6_comes 75 = .ok (.sipush 9999, 3) := by decide +kernel
theorem dX6_comes_78 : decode cX6_comes 78 = .ok (.invokestatic 97, 3) := by decide +kernel
theorem dX6_comes_81 : decode cX6_comes 81 = .ok (.iastore, 1) := by decide +kernel
theorem dX6_comes_82 : decode cX6_comes 82 = .ok (.aload_n 0, 1) := by decide +kernel
theorem dX6_comes_83 : decode cX6_comes 83 = .ok (.iload_n 1, 1) := by decide +kernel
theorem dX6_comes_84 : decode cX6_comes 84 = .ok (.iload_n 2, 1) := by decide +kernel
theorem dX6_comes_85 : decode cX6_comes 85 = .ok (.invokevirtual 119, 3) := by decide +kernel
theorem dX6_comes_88 : decode cX6_comes 88 = .ok (.istore 5, 2) := by decide +kernel
theorem dX6_comes_90 : decode cX6_comes 90 = .ok (.aload_n 0, 1) := by decide +kernel
theorem dX6_comes_91 : decode cX6_comes 91 = .ok (.getfield 7, 3) := by decide +kernel
theorem dX6_comes_94 : decode cX6_comes 94 = .ok (.iload_n 2, 1) := by decide +kernel
theorem dX6_comes_95 : decode cX6_comes 95 = .ok (.aload_n 0, 1) := by decide +kernel
theorem dX6_comes_96 : decode cX6_comes 96 = .ok (.iload_n 2, 1) := by decide +kernel
theorem dX6_comes_97 : decode cX6_comes 97 = .ok (.invokevirtual 100, 3) := by decide +kernel
theorem dX6_comes_100 : decode cX6_comes 100 = .ok (.invokestatic 52, 3) := by decide +kernel
theorem dX6_comes_103 : decode cX6_comes 103 = .ok (.dup2, 1) := by decide +kernel
theorem dX6_comes_104 : decode cX6_comes 104 = .ok (.iaload, 1) := by decide +kernel
theorem dX6_comes_105 : decode cX6_comes 105 = .ok (.iload 5, 2) := by decide +kernel
theorem dX6_comes_107 : decode cX6_comes 107 = .ok (.isub, 1) := by decide +kernel
theorem dX6_comes_108 : decode cX6_comes 108 = .ok (.iastore, 1) := by decide +kernel
theorem dX6_comes_109 : decode cX6_comes 109 = .ok (.aload_n 0, 1) := by decide +kernel
theorem dX6_comes_110 : decode cX6_comes 110 = .ok (.getfield 7, 3) := by decide +kernel
theorem dX6_comes_113 : decode cX6_comes 113 = .ok (.iload_n 1, 1) := by decide +kernel
theorem dX6_comes_114 : decode cX6_comes 114 = .ok (.iconst 2, 1) := by decide +kernel
theorem dX6_comes_115 : decode cX6_comes 115 = .ok (.invokestatic 42, 3) := by decide +kernel
theorem dX6_comes_118 : decode cX6_comes 118 = .ok (.aload_n 0, 1) := by decide +kernel
theorem dX6_comes_119 : decode cX6_comes 119 = .ok (.iload_n 1, 1) := by decide +kernel
theorem dX6_comes_120 : decode cX6_comes 120 = .ok (.iconst 2, 1) := by decide +kernel
theorem dX6_comes_121 : decode cX6_comes 121 = .ok (.invokevirtual 55, 3) := by decide +kernel
theorem dX6_comes_124 : decode cX6_comes 124 = .ok (.iload 5, 2) := by decide +kernel
theorem dX6_comes_126 : decode cX6_comes 126 = .ok (.iadd, 1) := by decide +kernel
theorem dX6_comes_127 : decode cX6_comes 127 = .ok (.sipush 9999, 3) := by decide +kernel
theorem dX6_comes_130 : decode cX6_comes 130 = .ok (.invokestatic 97, 3) := by decide +kernel
theorem dX6_comes_133 : decode cX6_comes 133 = .ok (.iastore, 1) := by decide +kernel
theorem dX6_comes_134 : decode cX6_comes 134 = .ok (.return_, 1) := by decide +kernel
theorem dX6_net_0 : decode cX6_net 0 = .ok (.aload_n 0, 1) := by decide +kernel
theorem dX6_net_1 : decode cX6_net 1 = .ok (.getfield 7, 3) := by decide +kernel
theorem dX6_net_4 : decode cX6_net 4 = .ok (.iload_n 1, 1) := by decide +kernel
theorem dX6_net_5 : decode cX6_net 5 = .ok (.iconst 0, 1) := by decide +kernel
theorem dX6_net_6 : decode cX6_net 6 = .ok (.invokestatic 52, 3) := by decide +kernel
theorem dX6_net_9 : decode cX6_net 9 = .ok (.iaload, 1) := by decide +kernel
theorem dX6_net_10 : decode cX6_net 10 = .ok (.istore_n 2, 1) := by decide +kernel
theorem dX6_net_11 : decode cX6_net 11 = .ok (.aload_n 0, 1) := by decide +kernel
theorem dX6_net_12 : decode cX6_net 12 = .ok (.getfield 7, 3) := by decide +kernel
theorem dX6_net_15 : decode cX6_net 15 = .ok (.iload_n 1, 1) := by decide +kernel
theorem dX6_net_16 : decode cX6_net 16 = .ok (.iconst 1, 1) := by decide +kernel
theorem dX6_net_17 : decode cX6_net 17 = .ok (.invokestatic 52, 3) := by decide +kernel
theorem dX6_net_20 : decode cX6_net 20 = .ok (.iaload, 1) := by decide +kernel
theorem dX6_net_21 : decode cX6_net 21 = .ok (.istore_n 3, 1) := by decide +kernel
theorem dX6_net_22 : decode cX6_net 22 = .ok (.aload_n 0, 1) := by decide +kernel
theorem dX6_net_23 : decode cX6_net 23 = .ok (.getfield 7, 3) := by decide +kernel
theorem dX6_net_26 : decode cX6_net 26 = .ok (.iconst 2, 1) := by decide +kernel
theorem dX6_net_27 : decode cX6_net 27 = .ok (.iaload, 1) := by decide +kernel
theorem dX6_net_28 : decode cX6_net 28 = .ok (.iconst 1, 1) := by decide +kernel
theorem dX6_net_29 : decode cX6_net 29 = .ok (.iload_n 1, 1) := by decide +kernel
theorem dX6_net_30 : decode cX6_net 30 = .ok (.ishl, 1) := by decide +kernel
theorem dX6_net_31 : decode cX6_net 31 = .ok (.iconst (-1), 1) := by decide +kernel
theorem dX6_net_32 : decode cX6_net 32 = .ok (.ixor, 1) := by decide +kernel
theorem dX6_net_33 : decode cX6_net 33 = .ok (.iand, 1) := by decide +kernel
theorem dX6_net_34 : decode cX6_net 34 = .ok (.istore 4, 2) := by decide +kernel
theorem dX6_net_36 : decode cX6_net 36 = .ok (.aload_n 0, 1) := by decide +kernel
theorem dX6_net_37 : decode cX6_net 37 = .ok (.getfield 7, 3) := by decide +kernel
theorem dX6_net_40 : decode cX6_net 40 = .ok (.iconst 2, 1) := by decide +kernel
theorem dX6_net_41 : decode cX6_net 41 = .ok (.iload_n 2, 1) := by decide +kernel
theorem dX6_net_42 : decode cX6_net 42 = .ok (.iload_n 3, 1) := by decide +kernel
theorem dX6_net_43 : decode cX6_net 43 = .ok (.if_icmp .le 12, 3) := by decide +kernel
theorem dX6_net_46 : decode cX6_net 46 = .ok (.iload 4, 2) := by decide +kernel
theorem dX6_net_48 : decode cX6_net 48 = .ok (.iconst 1, 1) := by decide +kernel
theorem dX6_net_49 : decode cX6_net 49 = .ok (.iload_n 1, 1) := by decide +kernel
theorem dX6_net_50 : decode cX6_net 50 = .ok (.ishl, 1) := by decide +kernel
theorem dX6_net_51 : decode cX6_net 51 = .ok (.ior, 1) := by decide +kernel
theorem dX6_net_52 : decode cX6_net 52 = .ok (.goto 19, 3) := by decide +kernel
theorem dX6_net_55 : decode cX6_net 55 = .ok (.iload_n 3, 1) := by decide +kernel
theorem dX6_net_56 : decode cX6_net 56 = .ok (.iload_n 2, 1) := by decide +kernel
theorem dX6_net_57 : decode cX6_net 57 = .ok (.if_icmp .le 8, 3) := by decide +kernel
theorem dX6_net_60 : decode cX6_net 60 = .ok (.iload 4, 2) := by decide +kernel
theorem dX6_net_62 : decode cX6_net 62 = .ok (.goto 9, 3) := by decide +kernel
theorem dX6_net_65 : decode cX6_net 65 = .ok (.aload_n 0, 1) := by decide +kernel
theorem dX6_net_66 : decode cX6_net 66 = .ok (.getfield 7, 3) := by decide +kernel
theorem dX6_net_69 : decode cX6_net 69 = .ok (.iconst 2, 1) := by decide +kernel
theorem dX6_net_70 : decode cX6_net 70 = .ok (.iaload, 1) := by decide +kernel
theorem dX6_net_71 : decode cX6_net 71 = .ok (.iastore, 1) := by decide +kernel
theorem dX6_net_72 : decode cX6_net 72 = .ok (.aload_n 0, 1) := by decide +kernel
theorem dX6_net_73 : decode cX6_net 73 = .ok (.getfield 7, 3) := by decide +kernel
theorem dX6_net_76 : decode cX6_net 76 = .ok (.iload_n 1, 1) := by decide +kernel
theorem dX6_net_77 : decode cX6_net 77 = .ok (.iconst 0, 1) := by decide +kernel
theorem dX6_net_78 : decode cX6_net 78 = .ok (.invokestatic 52, 3) := by decide +kernel
theorem dX6_net_81 : decode cX6_net 81 = .ok (.iload_n 2, 1) := by decide +kernel
theorem dX6_net_82 : decode cX6_net 82 = .ok (.iconst 2, 1) := by decide +kernel
theorem dX6_net_83 : decode cX6_net 83 = .ok (.idiv, 1) := by decide +kernel
theorem dX6_net_84 : decode cX6_net 84 = .ok (.iastore, 1) := by decide +kernel
theorem dX6_net_85 : decode cX6_net 85 = .ok (.aload_n 0, 1) := by decide +kernel
theorem dX6_net_86 : decode cX6_net 86 = .ok (.getfield 7, 3) := by decide +kernel
theorem dX6_net_89 : decode cX6_net 89 = .ok (.iload_n 1, 1) := by decide +kernel
theorem dX6_net_90 : decode cX6_net 90 = .ok (.iconst 1, 1) := by decide +kernel
theorem dX6_net_91 : decode cX6_net 91 = .ok (.invokestatic 52, 3) := by decide +kernel
theorem dX6_net_94 : decode cX6_net 94 = .ok (.iload_n 3, 1) := by decide +kernel
theorem dX6_net_95 : decode cX6_net 95 = .ok (.iconst 2, 1) := by decide +kernel
theorem dX6_net_96 : decode cX6_net 96 = .ok (.idiv, 1) := by decide +kernel
theorem dX6_net_97 : decode cX6_net 97 = .ok (.iastore, 1) := by decide +kernel
theorem dX6_net_98 : decode cX6_net 98 = .ok (.return_, 1) := by decide +kernel
theorem dX6_day_0 : decode cX6_day 0 = .ok (.aload_n 0, 1) := by decide +kernel
theorem dX6_day_1 : decode cX6_day 1 = .ok (.invokevirtual 78, 3) := by decide +kernel
theorem dX6_day_4 : decode cX6_day 4 = .ok (.istore_n 1, 1) := by decide +kernel
theorem dX6_day_5 : decode cX6_day 5 = .ok (.iconst 0, 1) := by decide +kernel
theorem dX6_day_6 : decode cX6_day 6 = .ok (.istore_n 2, 1) := by decide +kernel
theorem dX6_day_7 : decode cX6_day 7 = .ok (.iload_n 2, 1) := by decide +kernel
theorem dX6_day_8 : decode cX6_day 8 = .ok (.aload_n 0, 1) := by decide +kernel
theorem dX6_day_9 : decode cX6_day 9 = .ok (.getfield 7, 3) := by decide +kernel
theorem dX6_day_12 : decode cX6_day 12 = .ok (.iconst 1, 1) := by decide +kernel
theorem dX6_day_13 : decode cX6_day 13 = .ok (.iaload, 1) := by decide +kernel
theorem dX6_day_14 : decode cX6_day 14 = .ok (.if_icmp .ge 24, 3) := by decide +kernel
theorem dX6_day_17 : decode cX6_day 17 = .ok (.aload_n 0, 1) := by decide +kernel
theorem dX6_day_18 : decode cX6_day 18 = .ok (.iload_n 2, 1) := by decide +kernel
theorem dX6_day_19 : decode cX6_day 19 = .ok (.iconst 3, 1) := by decide +kernel
theorem dX6_day_20 : decode cX6_day 20 = .ok (.invokevirtual 55, 3) := by decide +kernel
theorem dX6_day_23 : decode cX6_day 23 = .ok (.ifCond .ne 9, 3) := by decide +kernel
theorem dX6_day_26 : decode cX6_day 26 = .ok (.aload_n 0, 1) := by decide +kernel
theorem dX6_day_27 : decode cX6_day 27 = .ok (.iload_n 2, 1) := by decide +kernel
theorem dX6_day_28 : decode cX6_day 28 = .ok (.iload_n 1, 1) := by decide +kernel
theorem dX6_day_29 : decode cX6_day 29 = .ok (.invokevirtual 129, 3) := by decide +kernel
theorem dX6_day_32 : decode cX6_day 32 = .ok (.iinc 2 1, 3) := by decide +kernel
theorem dX6_day_35 : decode cX6_day 35 = .ok (.goto (-28), 3) := by decide +kernel
theorem dX6_day_38 : decode cX6_day 38 = .ok (.aload_n 0, 1) := by decide +kernel
theorem dX6_day_39 : decode cX6_day 39 = .ok (.iload_n 1, 1) := by decide +kernel
theorem dX6_day_40 : decode cX6_day 40 = .ok (.invokevirtual 133, 3) := by decide +kernel
theorem dX6_day_43 : decode cX6_day 43 = .ok (.aload_n 0, 1) := by decide +kernel
theorem dX6_day_44 : decode cX6_day 44 = .ok (.getfield 7, 3) := by decide +kernel
theorem dX6_day_47 : decode cX6_day 47 = .ok (.iconst 0, 1) := by decide +kernel
theorem dX6_day_48 : decode cX6_day 48 = .ok (.dup2, 1) := by decide +kernel
theorem dX6_day_49 : decode cX6_day 49 = .ok (.iaload, 1) := by decide +kernel
theorem dX6_day_50 : decode cX6_day 50 = .ok (.iconst 1, 1) := by decide +kernel
theorem dX6_day_51 : decode cX6_day 51 = .ok (.iadd, 1) := by decide +kernel
theorem dX6_day_52 : decode cX6_day 52 = .ok (.iastore, 1) := by decide +kernel
theorem dX6_day_53 : decode cX6_day 53 = .ok (.return_, 1) := by decide +kernel
theorem dX6_daysGo_0 : decode cX6_daysGo 0 = .ok (.iconst 0, 1) := by decide +kernel
theorem dX6_daysGo_1 : decode cX6_daysGo 1 = .ok (.istore_n 2, 1) := by decide +kernel
theorem dX6_daysGo_2 : decode cX6_daysGo 2 = .ok (.iload_n 2, 1) := by decide +kernel
theorem dX6_daysGo_3 : decode cX6_daysGo 3 = .ok (.iload_n 1, 1) := by decide +kernel
theorem dX6_daysGo_4 : decode cX6_daysGo 4 = .ok (.if_icmp .ge 13, 3) := by decide +kernel
theorem dX6_daysGo_7 : decode cX6_daysGo 7 = .ok (.aload_n 0, 1) := by decide +kernel
theorem dX6_daysGo_8 : decode cX6_daysGo 8 = .ok (.invokevirtual 137, 3) := by decide +kernel
theorem dX6_daysGo_11 : decode cX6_daysGo 11 = .ok (.iinc 2 1, 3) := by decide +kernel
theorem dX6_daysGo_14 : decode cX6_daysGo 14 = .ok (.goto (-12), 3) := by decide +kernel
theorem dX6_daysGo_17 : decode cX6_daysGo 17 = .ok (.return_, 1) := by decide +kernel
theorem dX6_days_0 : decode cX6_days 0 = .ok (.iload_n 1, 1) := by decide +kernel
theorem dX6_days_1 : decode cX6_days 1 = .ok (.i2l, 1) := by decide +kernel
theorem dX6_days_2 : decode cX6_days 2 = .ok (.lconst 1, 1) := by decide +kernel
theorem dX6_days_3 : decode cX6_days 3 = .ok (.ldc2_w 140, 3) := by decide +kernel
theorem dX6_days_6 : decode cX6_days 6 = .ok (.invokestatic 46, 3) := by decide +kernel
theorem dX6_days_9 : decode cX6_days 9 = .ok (.ifCond .ne 10, 3) := by decide +kernel
theorem dX6_days_12 : decode cX6_days 12 = .ok (.aload_n 0, 1) := by decide +kernel
theorem dX6_days_13 : decode cX6_days 13 = .ok (.ldc 41, 2) := by decide +kernel
theorem dX6_days_15 : decode cX6_days 15 = .ok (.invokevirtual 67, 3) := by decide +kernel
theorem dX6_days_18 : decode cX6_days 18 = .ok (.ireturn, 1) := by decide +kernel
theorem dX6_days_19 : decode cX6_days 19 = .ok (.aload_n 0, 1) := by decide +kernel
theorem dX6_days_20 : decode cX6_days 20 = .ok (.getfield 7, 3) := by decide +kernel
theorem dX6_days_23 : decode cX6_days 23 = .ok (.iconst 0, 1) := by decide +kernel
theorem dX6_days_24 : decode cX6_days 24 = .ok (.iaload, 1) := by decide +kernel
theorem dX6_days_25 : decode cX6_days 25 = .ok (.iload_n 1, 1) := by decide +kernel
theorem dX6_days_26 : decode cX6_days 26 = .ok (.iadd, 1) := by decide +kernel
theorem dX6_days_27 : decode cX6_days 27 = .ok (.ldc 142, 2) := by decide +kernel
theorem dX6_days_29 : decode cX6_days 29 = .ok (.if_icmp .le 10, 3) := by decide +kernel
theorem dX6_days_32 : decode cX6_days 32 = .ok (.aload_n 0, 1) := by decide +kernel
theorem dX6_days_33 : decode cX6_days 33 = .ok (.ldc 143, 2) := by decide +kernel
theorem dX6_days_35 : decode cX6_days 35 = .ok (.invokevirtual 67, 3) := by decide +kernel
theorem dX6_days_38 : decode cX6_days 38 = .ok (.ireturn, 1) := by decide +kernel
theorem dX6_days_39 : decode cX6_days 39 = .ok (.aload_n 0, 1) := by decide +kernel
theorem dX6_days_40 : decode cX6_days 40 = .ok (.iload_n 1, 1) := by decide +kernel
theorem dX6_days_41 : decode cX6_days 41 = .ok (.invokevirtual 144, 3) := by decide +kernel
theorem dX6_days_44 : decode cX6_days 44 = .ok (.aload_n 0, 1) := by decide +kernel
theorem dX6_days_45 : decode cX6_days 45 = .ok (.getfield 7, 3) := by decide +kernel
theorem dX6_days_48 : decode cX6_days 48 = .ok (.iconst 2, 1) := by decide +kernel
theorem dX6_days_49 : decode cX6_days 49 = .ok (.iaload, 1) := by decide +kernel
theorem dX6_days_50 : decode cX6_days 50 = .ok (.ireturn, 1) := by decide +kernel
theorem dX6_isAhead_0 : decode cX6_isAhead 0 = .ok (.iload_n 0, 1) := by decide +kernel
theorem dX6_isAhead_1 : decode cX6_isAhead 1 = .ok (.i2l, 1) := by decide +kernel
theorem dX6_isAhead_2 : decode cX6_isAhead 2 = .ok (.lconst 0, 1) := by decide +kernel
theorem dX6_isAhead_3 : decode cX6_isAhead 3 = .ok (.ldc2_w 147, 3) := by decide +kernel
theorem dX6_isAhead_6 : decode cX6_isAhead 6 = .ok (.invokestatic 46, 3) := by decide +kernel
theorem dX6_isAhead_9 : decode cX6_isAhead 9 = .ok (.ireturn, 1) := by decide +kernel
theorem dX6_behind_0 : decode cX6_behind 0 = .ok (.aload_n 0, 1) := by decide +kernel
theorem dX6_behind_1 : decode cX6_behind 1 = .ok (.invokevirtual 149, 3) := by decide +kernel
theorem dX6_behind_4 : decode cX6_behind 4 = .ok (.aload_n 0, 1) := by decide +kernel
theorem dX6_behind_5 : decode cX6_behind 5 = .ok (.iload_n 2, 1) := by decide +kernel
theorem dX6_behind_6 : decode cX6_behind 6 = .ok (.invokevirtual 144, 3) := by decide +kernel
theorem dX6_behind_9 : decode cX6_behind 9 = .ok (.aload_n 0, 1) := by decide +kernel
theorem dX6_behind_10 : decode cX6_behind 10 = .ok (.aload_n 0, 1) := by decide +kernel
theorem dX6_behind_11 : decode cX6_behind 11 = .ok (.getfield 7, 3) := by decide +kernel
theorem dX6_behind_14 : decode cX6_behind 14 = .ok (.iload_n 1, 1) := by decide +kernel
theorem dX6_behind_15 : decode cX6_behind 15 = .ok (.iaload, 1) := by decide +kernel
theorem dX6_behind_16 : decode cX6_behind 16 = .ok (.invokevirtual 152, 3) := by decide +kernel
theorem dX6_behind_19 : decode cX6_behind 19 = .ok (.ireturn, 1) := by decide +kernel
theorem dX6_on_0 : decode cX6_on 0 = .ok (.aload_n 0, 1) := by decide +kernel
theorem dX6_on_1 : decode cX6_on 1 = .ok (.iload_n 1, 1) := by decide +kernel
theorem dX6_on_2 : decode cX6_on 2 = .ok (.invokevirtual 110, 3) := by decide +kernel
theorem dX6_on_5 : decode cX6_on 5 = .ok (.ifCond .eq 23, 3) := by decide +kernel
theorem dX6_on_8 : decode cX6_on 8 = .ok (.iload_n 2, 1) := by decide +kernel
theorem dX6_on_9 : decode cX6_on 9 = .ok (.invokestatic 155, 3) := by decide +kernel
theorem dX6_on_12 : decode cX6_on 12 = .ok (.ifCond .eq 16, 3) := by decide +kernel
theorem dX6_on_15 : decode cX6_on 15 = .ok (.aload_n 0, 1) := by decide +kernel
theorem dX6_on_16 : decode cX6_on 16 = .ok (.iload_n 1, 1) := by decide +kernel
theorem dX6_on_17 : decode cX6_on 17 = .ok (.iconst 2, 1) := by decide +kernel
theorem dX6_on_18 : decode cX6_on 18 = .ok (.invokestatic 42, 3) := by decide +kernel
theorem dX6_on_21 : decode cX6_on 21 = .ok (.iload_n 2, 1) := by decide +kernel
theorem dX6_on_22 : decode cX6_on 22 = .ok (.invokevirtual 158, 3) := by decide +kernel
theorem dX6_on_25 : decode cX6_on 25 = .ok (.goto 9, 3) := by decide +kernel
theorem dX6_on_28 : decode cX6_on 28 = .ok (.aload_n 0, 1) := by decide +kernel
theorem dX6_on_29 : decode cX6_on 29 = .ok (.ldc 41, 2) := by decide +kernel
theorem dX6_on_31 : decode cX6_on 31 = .ok (.invokevirtual 67, 3) := by decide +kernel
theorem dX6_on_34 : decode cX6_on 34 = .ok (.ireturn, 1) := by decide +kernel
theorem dX6_then_0 : decode cX6_then 0 = .ok (.iload_n 1, 1) := by decide +kernel
theorem dX6_then_1 : decode cX6_then 1 = .ok (.invokestatic 60, 3) := by decide +kernel
theorem dX6_then_4 : decode cX6_then 4 = .ok (.ifCond .eq 22, 3) := by decide +kernel
theorem dX6_then_7 : decode cX6_then 7 = .ok (.iload_n 2, 1) := by decide +kernel
theorem dX6_then_8 : decode cX6_then 8 = .ok (.invokestatic 155, 3) := by decide +kernel
theorem dX6_then_11 : decode cX6_then 11 = .ok (.ifCond .eq 15, 3) := by decide +kernel
theorem dX6_then_14 : decode cX6_then 14 = .ok (.iload_n 3, 1) := by decide +kernel
theorem dX6_then_15 : decode cX6_then 15 = .ok (.i2l, 1) := by decide +kernel
theorem dX6_then_16 : decode cX6_then 16 = .ok (.lconst 0, 1) := by decide +kernel
theorem dX6_then_17 : decode cX6_then 17 = .ok (.ldc2_w 71, 3) := by decide +kernel
theorem dX6_then_20 : decode cX6_then 20 = .ok (.invokestatic 46, 3) := by decide +kernel
theorem dX6_then_23 : decode cX6_then 23 = .ok (.ifCond .ne 10, 3) := by decide +kernel
theorem dX6_then_26 : decode cX6_then 26 = .ok (.aload_n 0, 1) := by decide +kernel
theorem dX6_then_27 : decode cX6_then 27 = .ok (.ldc 41, 2) := by decide +kernel
theorem dX6_then_29 : decode cX6_then 29 = .ok (.invokevirtual 67, 3) := by decide +kernel
theorem dX6_then_32 : decode cX6_then 32 = .ok (.ireturn, 1) := by decide +kernel
theorem dX6_then_33 : decode cX6_then 33 = .ok (.iload_n 3, 1) := by decide +kernel
theorem dX6_then_34 : decode cX6_then 34 = .ok (.iconst 2, 1) := by decide +kernel
theorem dX6_then_35 : decode cX6_then 35 = .ok (.if_icmp .ne 16, 3) := by decide +kernel
theorem dX6_then_38 : decode cX6_then 38 = .ok (.aload_n 0, 1) := by decide +kernel
theorem dX6_then_39 : decode cX6_then 39 = .ok (.iconst 2, 1) := by decide +kernel
theorem dX6_then_40 : decode cX6_then 40 = .ok (.iload_n 2, 1) := by decide +kernel
theorem dX6_then_41 : decode cX6_then 41 = .ok (.invokevirtual 158, 3) := by decide +kernel
theorem dX6_then_44 : decode cX6_then 44 = .ok (.iload_n 1, 1) := by decide +kernel
theorem dX6_then_45 : decode cX6_then 45 = .ok (.ishr, 1) := by decide +kernel
theorem dX6_then_46 : decode cX6_then 46 = .ok (.iconst 1, 1) := by decide +kernel
theorem dX6_then_47 : decode cX6_then 47 = .ok (.iand, 1) := by decide +kernel
theorem dX6_then_48 : decode cX6_then 48 = .ok (.goto 13, 3) := by decide +kernel
theorem dX6_then_51 : decode cX6_then 51 = .ok (.aload_n 0, 1) := by decide +kernel
theorem dX6_then_52 : decode cX6_then 52 = .ok (.iload_n 1, 1) := by decide +kernel
theorem dX6_then_53 : decode cX6_then 53 = .ok (.iload_n 3, 1) := by decide +kernel
theorem dX6_then_54 : decode cX6_then 54 = .ok (.invokestatic 52, 3) := by decide +kernel
theorem dX6_then_57 : decode cX6_then 57 = .ok (.iload_n 2, 1) := by decide +kernel
theorem dX6_then_58 : decode cX6_then 58 = .ok (.invokevirtual 158, 3) := by decide +kernel
theorem dX6_then_61 : decode cX6_then 61 = .ok (.ireturn, 1) := by decide +kernel
theorem dX6_toldAt_0 : decode cX6_toldAt 0 = .ok (.aload_n 0, 1) := by decide +kernel
theorem dX6_toldAt_1 : decode cX6_toldAt 1 = .ok (.iload_n 1, 1) := by decide +kernel
theorem dX6_toldAt_2 : decode cX6_toldAt 2 = .ok (.invokevirtual 152, 3) := by decide +kernel
theorem dX6_toldAt_5 : decode cX6_toldAt 5 = .ok (.istore_n 2, 1) := by decide +kernel
theorem dX6_toldAt_6 : decode cX6_toldAt 6 = .ok (.iload_n 2, 1) := by decide +kernel
theorem dX6_toldAt_7 : decode cX6_toldAt 7 = .ok (.sipush 200, 3) := by decide +kernel
theorem dX6_toldAt_10 : decode cX6_toldAt 10 = .ok (.if_icmp .le 12, 3) := by decide +kernel
theorem dX6_toldAt_13 : decode cX6_toldAt 13 = .ok (.aload_n 0, 1) := by decide +kernel
theorem dX6_toldAt_14 : decode cX6_toldAt 14 = .ok (.ldc 161, 2) := by decide +kernel
theorem dX6_toldAt_16 : decode cX6_toldAt 16 = .ok (.invokevirtual 67, 3) := by decide +kernel
theorem dX6_toldAt_19 : decode cX6_toldAt 19 = .ok (.goto 4, 3) := by decide +kernel
theorem dX6_toldAt_22 : decode cX6_toldAt 22 = .ok (.iload_n 2, 1) := by decide +kernel
theorem dX6_toldAt_23 : decode cX6_toldAt 23 = .ok (.ireturn, 1) := by decide +kernel
theorem dX6_flips_0 : decode cX6_flips 0 = .ok (.iload_n 1, 1) := by decide +kernel
theorem dX6_flips_1 : decode cX6_flips 1 = .ok (.invokestatic 60, 3) := by decide +kernel
theorem dX6_flips_4 : decode cX6_flips 4 = .ok (.ifCond .ne 10, 3) := by decide +kernel
theorem dX6_flips_7 : decode cX6_flips 7 = .ok (.aload_n 0, 1) := by decide +kernel
theorem dX6_flips_8 : decode cX6_flips 8 = .ok (.ldc 41, 2) := by decide +kernel
theorem dX6_flips_10 : decode cX6_flips 10 = .ok (.invokevirtual 67, 3) := by decide +kernel
theorem dX6_flips_13 : decode cX6_flips 13 = .ok (.ireturn, 1) := by decide +kernel
theorem dX6_flips_14 : decode cX6_flips 14 = .ok (.aload_n 0, 1) := by decide +kernel
theorem dX6_flips_15 : decode cX6_flips 15 = .ok (.invokevirtual 149, 3) := by decide +kernel
theorem dX6_flips_18 : decode cX6_flips 18 = .ok (.aload_n 0, 1) := by decide +kernel
theorem dX6_flips_19 : decode cX6_flips 19 = .ok (.iload_n 1, 1) := by decide +kernel
theorem dX6_flips_20 : decode cX6_flips 20 = .ok (.invokevirtual 73, 3) := by decide +kernel
theorem dX6_flips_23 : decode cX6_flips 23 = .ok (.istore_n 2, 1) := by decide +kernel
theorem dX6_flips_24 : decode cX6_flips 24 = .ok (.iconst 0, 1) := by decide +kernel
theorem dX6_flips_25 : decode cX6_flips 25 = .ok (.istore_n 3, 1) := by decide +kernel
theorem dX6_flips_26 : decode cX6_flips 26 = .ok (.iload_n 3, 1) := by decide +kernel
theorem dX6_flips_27 : decode cX6_flips 27 = .ok (.sipush 200, 3) := by decide +kernel
theorem dX6_flips_30 : decode cX6_flips 30 = .ok (.if_icmp .gt 22, 3) := by decide +kernel
theorem dX6_flips_33 : decode cX6_flips 33 = .ok (.aload_n 0, 1) := by decide +kernel
theorem dX6_flips_34 : decode cX6_flips 34 = .ok (.iload_n 1, 1) := by decide +kernel
theorem dX6_flips_35 : decode cX6_flips 35 = .ok (.invokevirtual 73, 3) := by decide +kernel
theorem dX6_flips_38 : decode cX6_flips 38 = .ok (.iload_n 2, 1) := by decide +kernel
theorem dX6_flips_39 : decode cX6_flips 39 = .ok (.if_icmp .ne 13, 3) := by decide +kernel
theorem dX6_flips_42 : decode cX6_flips 42 = .ok (.aload_n 0, 1) := by decide +kernel
theorem dX6_flips_43 : decode cX6_flips 43 = .ok (.invokevirtual 137, 3) := by decide +kernel
theorem dX6_flips_46 : decode cX6_flips 46 = .ok (.iinc 3 1, 3) := by decide +kernel
theorem dX6_flips_49 : decode cX6_flips 49 = .ok (.goto (-23), 3) := by decide +kernel
theorem dX6_flips_52 : decode cX6_flips 52 = .ok (.aload_n 0, 1) := by decide +kernel
theorem dX6_flips_53 : decode cX6_flips 53 = .ok (.iload_n 3, 1) := by decide +kernel
theorem dX6_flips_54 : decode cX6_flips 54 = .ok (.invokevirtual 162, 3) := by decide +kernel
theorem dX6_flips_57 : decode cX6_flips 57 = .ok (.ireturn, 1) := by decide +kernel
theorem dX6_rich_0 : decode cX6_rich 0 = .ok (.aload_n 0, 1) := by decide +kernel
theorem dX6_rich_1 : decode cX6_rich 1 = .ok (.iload_n 1, 1) := by decide +kernel
theorem dX6_rich_2 : decode cX6_rich 2 = .ok (.invokevirtual 110, 3) := by decide +kernel
theorem dX6_rich_5 : decode cX6_rich 5 = .ok (.ifCond .eq 15, 3) := by decide +kernel
theorem dX6_rich_8 : decode cX6_rich 8 = .ok (.iload_n 2, 1) := by decide +kernel
theorem dX6_rich_9 : decode cX6_rich 9 = .ok (.i2l, 1) := by decide +kernel
theorem dX6_rich_10 : decode cX6_rich 10 = .ok (.lconst 0, 1) := by decide +kernel
theorem dX6_rich_11 : decode cX6_rich 11 = .ok (.ldc2_w 58, 3) := by decide +kernel
theorem dX6_rich_14 : decode cX6_rich 14 = .ok (.invokestatic 46, 3) := by decide +kernel
theorem dX6_rich_17 : decode cX6_rich 17 = .ok (.ifCond .ne 10, 3) := by decide +kernel
theorem dX6_rich_20 : decode cX6_rich 20 = .ok (.aload_n 0, 1) := by decide +kernel
theorem dX6_rich_21 : decode cX6_rich 21 = .ok (.ldc 41, 2) := by decide +kernel
theorem dX6_rich_23 : decode cX6_rich 23 = .ok (.invokevirtual 67, 3) := by decide +kernel
theorem dX6_rich_26 : decode cX6_rich 26 = .ok (.ireturn, 1) := by decide +kernel
theorem dX6_rich_27 : decode cX6_rich 27 = .ok (.aload_n 0, 1) := by decide +kernel
theorem dX6_rich_28 : decode cX6_rich 28 = .ok (.invokevirtual 149, 3) := by decide +kernel
theorem dX6_rich_31 : decode cX6_rich 31 = .ok (.iconst 0, 1) := by decide +kernel
theorem dX6_rich_32 : decode cX6_rich 32 = .ok (.istore_n 3, 1) := by decide +kernel
theorem dX6_rich_33 : decode cX6_rich 33 = .ok (.iload_n 3, 1) := by decide +kernel
theorem dX6_rich_34 : decode cX6_rich 34 = .ok (.sipush 200, 3) := by decide +kernel
theorem dX6_rich_37 : decode cX6_rich 37 = .ok (.if_icmp .gt 23, 3) := by decide +kernel
theorem dX6_rich_40 : decode cX6_rich 40 = .ok (.aload_n 0, 1) := by decide +kernel
theorem dX6_rich_41 : decode cX6_rich 41 = .ok (.iload_n 1, 1) := by decide +kernel
theorem dX6_rich_42 : decode cX6_rich 42 = .ok (.iconst 2, 1) := by decide +kernel
theorem dX6_rich_43 : decode cX6_rich 43 = .ok (.invokevirtual 55, 3) := by decide +kernel
theorem dX6_rich_46 : decode cX6_rich 46 = .ok (.iload_n 2, 1) := by decide +kernel
theorem dX6_rich_47 : decode cX6_rich 47 = .ok (.if_icmp .ge 13, 3) := by decide +kernel
theorem dX6_rich_50 : decode cX6_rich 50 = .ok (.aload_n 0, 1) := by decide +kernel
theorem dX6_rich_51 : decode cX6_rich 51 = .ok (.invokevirtual 137, 3) := by decide +kernel
theorem dX6_rich_54 : decode cX6_rich 54 = .ok (.iinc 3 1, 3) := by decide +kernel
theorem dX6_rich_57 : decode cX6_rich 57 = .ok (.goto (-24), 3) := by decide +kernel
theorem dX6_rich_60 : decode cX6_rich 60 = .ok (.aload_n 0, 1) := by decide +kernel
theorem dX6_rich_61 : decode cX6_rich 61 = .ok (.iload_n 3, 1) := by decide +kernel
theorem dX6_rich_62 : decode cX6_rich 62 = .ok (.invokevirtual 162, 3) := by decide +kernel
theorem dX6_rich_65 : decode cX6_rich 65 = .ok (.ireturn, 1) := by decide +kernel
theorem dX6_isSoon_0 : decode cX6_isSoon 0 = .ok (.iload_n 0, 1) := by decide +kernel
theorem dX6_isSoon_1 : decode cX6_isSoon 1 = .ok (.i2l, 1) := by decide +kernel
theorem dX6_isSoon_2 : decode cX6_isSoon 2 = .ok (.lconst 1, 1) := by decide +kernel
theorem dX6_isSoon_3 : decode cX6_isSoon 3 = .ok (.ldc2_w 165, 3) := by decide +kernel
theorem dX6_isSoon_6 : decode cX6_isSoon 6 = .ok (.invokestatic 46, 3) := by decide +kernel
theorem dX6_isSoon_9 : decode cX6_isSoon 9 = .ok (.ireturn, 1) := by decide +kernel
theorem dX6_ones_0 : decode cX6_ones 0 = .ok (.iconst 0, 1) := by decide +kernel
theorem dX6_ones_1 : decode cX6_ones 1 = .ok (.istore_n 1, 1) := by decide +kernel
theorem dX6_ones_2 : decode cX6_ones 2 = .ok (.iconst 0, 1) := by decide +kernel
theorem dX6_ones_3 : decode cX6_ones 3 = .ok (.istore_n 2, 1) := by decide +kernel
theorem dX6_ones_4 : decode cX6_ones 4 = .ok (.iload_n 2, 1) := by decide +kernel
theorem dX6_ones_5 : decode cX6_ones 5 = .ok (.bipush 6, 2) := by decide +kernel
theorem dX6_ones_7 : decode cX6_ones 7 = .ok (.if_icmp .ge 17, 3) := by decide +kernel
theorem dX6_ones_10 : decode cX6_ones 10 = .ok (.iload_n 1, 1) := by decide +kernel
theorem dX6_ones_11 : decode cX6_ones 11 = .ok (.iload_n 0, 1) := by decide +kernel
theorem dX6_ones_12 : decode cX6_ones 12 = .ok (.iload_n 2, 1) := by decide +kernel
theorem dX6_ones_13 : decode cX6_ones 13 = .ok (.ishr, 1) := by decide +kernel
theorem dX6_ones_14 : decode cX6_ones 14 = .ok (.iconst 1, 1) := by decide +kernel
theorem dX6_ones_15 : decode cX6_ones 15 = .ok (.iand, 1) := by decide +kernel
theorem dX6_ones_16 : decode cX6_ones 16 = .ok (.iadd, 1) := by decide +kernel
theorem dX6_ones_17 : decode cX6_ones 17 = .ok (.istore_n 1, 1) := by decide +kernel
theorem dX6_ones_18 : decode cX6_ones 18 = .ok (.iinc 2 1, 3) := by decide +kernel
theorem dX6_ones_21 : decode cX6_ones 21 = .ok (.goto (-17), 3) := by decide +kernel
theorem dX6_ones_24 : decode cX6_ones 24 = .ok (.iload_n 1, 1) := by decide +kernel
theorem dX6_ones_25 : decode cX6_ones 25 = .ok (.ireturn, 1) := by decide +kernel
theorem dX6_kind_0 : decode cX6_kind 0 = .ok (.aload_n 0, 1) := by decide +kernel
theorem dX6_kind_1 : decode cX6_kind 1 = .ok (.iload_n 1, 1) := by decide +kernel
theorem dX6_kind_2 : decode cX6_kind 2 = .ok (.invokevirtual 110, 3) := by decide +kernel
theorem dX6_kind_5 : decode cX6_kind 5 = .ok (.ifCond .eq 10, 3) := by decide +kernel
theorem dX6_kind_8 : decode cX6_kind 8 = .ok (.iload_n 2, 1) := by decide +kernel
theorem dX6_kind_9 : decode cX6_kind 9 = .ok (.invokestatic 167, 3) := by decide +kernel
theorem dX6_kind_12 : decode cX6_kind 12 = .ok (.ifCond .ne 10, 3) := by decide +kernel
theorem dX6_kind_15 : decode cX6_kind 15 = .ok (.aload_n 0, 1) := by decide +kernel
theorem dX6_kind_16 : decode cX6_kind 16 = .ok (.ldc 41, 2) := by decide +kernel
theorem dX6_kind_18 : decode cX6_kind 18 = .ok (.invokevirtual 67, 3) := by decide +kernel
theorem dX6_kind_21 : decode cX6_kind 21 = .ok (.ireturn, 1) := by decide +kernel
theorem dX6_kind_22 : decode cX6_kind 22 = .ok (.aload_n 0, 1) := by decide +kernel
theorem dX6_kind_23 : decode cX6_kind 23 = .ok (.iload_n 1, 1) := by decide +kernel
theorem dX6_kind_24 : decode cX6_kind 24 = .ok (.iconst 0, 1) := by decide +kernel
theorem dX6_kind_25 : decode cX6_kind 25 = .ok (.invokevirtual 55, 3) := by decide +kernel
theorem dX6_kind_28 : decode cX6_kind 28 = .ok (.istore_n 3, 1) := by decide +kernel
theorem dX6_kind_29 : decode cX6_kind 29 = .ok (.iconst 0, 1) := by decide +kernel
theorem dX6_kind_30 : decode cX6_kind 30 = .ok (.istore 4, 2) := by decide +kernel
theorem dX6_kind_32 : decode cX6_kind 32 = .ok (.iconst (-1), 1) := by decide +kernel
theorem dX6_kind_33 : decode cX6_kind 33 = .ok (.istore 5, 2) := by decide +kernel
theorem dX6_kind_35 : decode cX6_kind 35 = .ok (.iconst 0, 1) := by decide +kernel
theorem dX6_kind_36 : decode cX6_kind 36 = .ok (.istore 6, 2) := by decide +kernel
theorem dX6_kind_38 : decode cX6_kind 38 = .ok (.iload 6, 2) := by decide +kernel
theorem dX6_kind_40 : decode cX6_kind 40 = .ok (.iconst 5, 1) := by decide +kernel
theorem dX6_kind_41 : decode cX6_kind 41 = .ok (.if_icmp .gt 65, 3) := by decide +kernel
theorem dX6_kind_44 : decode cX6_kind 44 = .ok (.aload_n 0, 1) := by decide +kernel
theorem dX6_kind_45 : decode cX6_kind 45 = .ok (.getfield 7, 3) := by decide +kernel
theorem dX6_kind_48 : decode cX6_kind 48 = .ok (.iload_n 1, 1) := by decide +kernel
theorem dX6_kind_49 : decode cX6_kind 49 = .ok (.iconst 0, 1) := by decide +kernel
theorem dX6_kind_50 : decode cX6_kind 50 = .ok (.invokestatic 42, 3) := by decide +kernel
theorem dX6_kind_53 : decode cX6_kind 53 = .ok (.iload 6, 2) := by decide +kernel
theorem dX6_kind_55 : decode cX6_kind 55 = .ok (.iastore, 1) := by decide +kernel
theorem dX6_kind_56 : decode cX6_kind 56 = .ok (.aload_n 0, 1) := by decide +kernel
theorem dX6_kind_57 : decode cX6_kind 57 = .ok (.iload_n 1, 1) := by decide +kernel
theorem dX6_kind_58 : decode cX6_kind 58 = .ok (.iconst 2, 1) := by decide +kernel
theorem dX6_kind_59 : decode cX6_kind 59 = .ok (.invokestatic 42, 3) := by decide +kernel
theorem dX6_kind_62 : decode cX6_kind 62 = .ok (.iload_n 2, 1) := by decide +kernel
theorem dX6_kind_63 : decode cX6_kind 63 = .ok (.invokevirtual 158, 3) := by decide +kernel
theorem dX6_kind_66 : decode cX6_kind 66 = .ok (.istore 7, 2) := by decide +kernel
theorem dX6_kind_68 : decode cX6_kind 68 = .ok (.iload 7, 2) := by decide +kernel
theorem dX6_kind_70 : decode cX6_kind 70 = .ok (.iload 5, 2) := by decide +kernel
theorem dX6_kind_72 : decode cX6_kind 72 = .ok (.if_icmp .le 8, 3) := by decide +kernel
theorem dX6_kind_75 : decode cX6_kind 75 = .ok (.iload 6, 2) := by decide +kernel
theorem dX6_kind_77 : decode cX6_kind 77 = .ok (.goto 5, 3) := by decide +kernel
theorem dX6_kind_80 : decode cX6_kind 80 = .ok (.iload 4, 2) := by decide +kernel
theorem dX6_kind_82 : decode cX6_kind 82 = .ok (.istore 4, 2) := by decide +kernel
theorem dX6_kind_84 : decode cX6_kind 84 = .ok (.iload 7, 2) := by decide +kernel
theorem dX6_kind_86 : decode cX6_kind 86 = .ok (.iload 5, 2) := by decide +kernel
theorem dX6_kind_88 : decode cX6_kind 88 = .ok (.if_icmp .le 8, 3) := by decide +kernel
theorem dX6_kind_91 : decode cX6_kind 91 = .ok (.iload 7, 2) := by decide +kernel
theorem dX6_kind_93 : decode cX6_kind 93 = .ok (.goto 5, 3) := by decide +kernel
theorem dX6_kind_96 : decode cX6_kind 96 = .ok (.iload 5, 2) := by decide +kernel
theorem dX6_kind_98 : decode cX6_kind 98 = .ok (.istore 5, 2) := by decide +kernel
theorem dX6_kind_100 : decode cX6_kind 100 = .ok (.iinc 6 1, 3) := by decide +kernel
theorem dX6_kind_103 : decode cX6_kind 103 = .ok (.goto (-65), 3) := by decide +kernel
theorem dX6_kind_106 : decode cX6_kind 106 = .ok (.aload_n 0, 1) := by decide +kernel
theorem dX6_kind_107 : decode cX6_kind 107 = .ok (.getfield 7, 3) := by decide +kernel
theorem dX6_kind_110 : decode cX6_kind 110 = .ok (.iload_n 1, 1) := by decide +kernel
theorem dX6_kind_111 : decode cX6_kind 111 = .ok (.iconst 0, 1) := by decide +kernel
theorem dX6_kind_112 : decode cX6_kind 112 = .ok (.invokestatic 42, 3) := by decide +kernel
theorem dX6_kind_115 : decode cX6_kind 115 = .ok (.iload_n 3, 1) := by decide +kernel
theorem dX6_kind_116 : decode cX6_kind 116 = .ok (.iastore, 1) := by decide +kernel
theorem dX6_kind_117 : decode cX6_kind 117 = .ok (.iload 4, 2) := by decide +kernel
theorem dX6_kind_119 : decode cX6_kind 119 = .ok (.ireturn, 1) := by decide +kernel
theorem dX6_lean_0 : decode cX6_lean 0 = .ok (.aload_n 0, 1) := by decide +kernel
theorem dX6_lean_1 : decode cX6_lean 1 = .ok (.iload_n 1, 1) := by decide +kernel
theorem dX6_lean_2 : decode cX6_lean 2 = .ok (.invokevirtual 110, 3) := by decide +kernel
theorem dX6_lean_5 : decode cX6_lean 5 = .ok (.ifCond .eq 15, 3) := by decide +kernel
theorem dX6_lean_8 : decode cX6_lean 8 = .ok (.iload_n 2, 1) := by decide +kernel
theorem dX6_lean_9 : decode cX6_lean 9 = .ok (.i2l, 1) := by decide +kernel
theorem dX6_lean_10 : decode cX6_lean 10 = .ok (.lconst 1, 1) := by decide +kernel
theorem dX6_lean_11 : decode cX6_lean 11 = .ok (.ldc2_w 170, 3) := by decide +kernel
theorem dX6_lean_14 : decode cX6_lean 14 = .ok (.invokestatic 46, 3) := by decide +kernel
theorem dX6_lean_17 : decode cX6_lean 17 = .ok (.ifCond .ne 10, 3) := by decide +kernel
theorem dX6_lean_20 : decode cX6_lean 20 = .ok (.aload_n 0, 1) := by decide +kernel
theorem dX6_lean_21 : decode cX6_lean 21 = .ok (.ldc 41, 2) := by decide +kernel
theorem dX6_lean_23 : decode cX6_lean 23 = .ok (.invokevirtual 67, 3) := by decide +kernel
theorem dX6_lean_26 : decode cX6_lean 26 = .ok (.ireturn, 1) := by decide +kernel
theorem dX6_lean_27 : decode cX6_lean 27 = .ok (.aload_n 0, 1) := by decide +kernel
theorem dX6_lean_28 : decode cX6_lean 28 = .ok (.iload_n 1, 1) := by decide +kernel
theorem dX6_lean_29 : decode cX6_lean 29 = .ok (.iconst 1, 1) := by decide +kernel
theorem dX6_lean_30 : decode cX6_lean 30 = .ok (.invokevirtual 55, 3) := by decide +kernel
theorem dX6_lean_33 : decode cX6_lean 33 = .ok (.istore_n 3, 1) := by decide +kernel
theorem dX6_lean_34 : decode cX6_lean 34 = .ok (.iconst 0, 1) := by decide +kernel
theorem dX6_lean_35 : decode cX6_lean 35 = .ok (.istore 4, 2) := by decide +kernel
theorem dX6_lean_37 : decode cX6_lean 37 = .ok (.iconst (-1), 1) := by decide +kernel
theorem dX6_lean_38 : decode cX6_lean 38 = .ok (.istore 5, 2) := by decide +kernel
theorem dX6_lean_40 : decode cX6_lean 40 = .ok (.iconst 0, 1) := by decide +kernel
theorem dX6_lean_41 : decode cX6_lean 41 = .ok (.istore 6, 2) := by decide +kernel
theorem dX6_lean_43 : decode cX6_lean 43 = .ok (.iload 6, 2) := by decide +kernel
theorem dX6_lean_45 : decode cX6_lean 45 = .ok (.bipush 63, 2) := by decide +kernel
theorem dX6_lean_47 : decode cX6_lean 47 = .ok (.if_icmp .gt 71, 3) := by decide +kernel
theorem dX6_lean_50 : decode cX6_lean 50 = .ok (.aload_n 0, 1) := by decide +kernel
theorem dX6_lean_51 : decode cX6_lean 51 = .ok (.getfield 7, 3) := by decide +kernel
theorem dX6_lean_54 : decode cX6_lean 54 = .ok (.iload_n 1, 1) := by decide +kernel
theorem dX6_lean_55 : decode cX6_lean 55 = .ok (.iconst 1, 1) := by decide +kernel
theorem dX6_lean_56 : decode cX6_lean 56 = .ok (.invokestatic 42, 3) := by decide +kernel
theorem dX6_lean_59 : decode cX6_lean 59 = .ok (.iload 6, 2) := by decide +kernel
theorem dX6_lean_61 : decode cX6_lean 61 = .ok (.iastore, 1) := by decide +kernel
theorem dX6_lean_62 : decode cX6_lean 62 = .ok (.aload_n 0, 1) := by decide +kernel
theorem dX6_lean_63 : decode cX6_lean 63 = .ok (.iconst 2, 1) := by decide +kernel
theorem dX6_lean_64 : decode cX6_lean 64 = .ok (.iload_n 2, 1) := by decide +kernel
theorem dX6_lean_65 : decode cX6_lean 65 = .ok (.invokevirtual 158, 3) := by decide +kernel
theorem dX6_lean_68 : decode cX6_lean 68 = .ok (.aload_n 0, 1) := by decide +kernel
theorem dX6_lean_69 : decode cX6_lean 69 = .ok (.getfield 7, 3) := by decide +kernel
theorem dX6_lean_72 : decode cX6_lean 72 = .ok (.iconst 2, 1) := by decide +kernel
theorem dX6_lean_73 : decode cX6_lean 73 = .ok (.iaload, 1) := by decide +kernel
theorem dX6_lean_74 : decode cX6_lean 74 = .ok (.ixor, 1) := by decide +kernel
theorem dX6_lean_75 : decode cX6_lean 75 = .ok (.invokestatic 172, 3) := by decide +kernel
theorem dX6_lean_78 : decode cX6_lean 78 = .ok (.istore 7, 2) := by decide +kernel
theorem dX6_lean_80 : decode cX6_lean 80 = .ok (.iload 7, 2) := by decide +kernel
theorem dX6_lean_82 : decode cX6_lean 82 = .ok (.iload 5, 2) := by decide +kernel
theorem dX6_lean_84 : decode cX6_lean 84 = .ok (.if_icmp .le 8, 3) := by decide +kernel
theorem dX6_lean_87 : decode cX6_lean 87 = .ok (.iload 6, 2) := by decide +kernel
theorem dX6_lean_89 : decode cX6_lean 89 = .ok (.goto 5, 3) := by decide +kernel
theorem dX6_lean_92 : decode cX6_lean 92 = .ok (.iload 4, 2) := by decide +kernel
theorem dX6_lean_94 : decode cX6_lean 94 = .ok (.istore 4, 2) := by decide +kernel
theorem dX6_lean_96 : decode cX6_lean 96 = .ok (.iload 7, 2) := by decide +kernel
theorem dX6_lean_98 : decode cX6_lean 98 = .ok (.iload 5, 2) := by decide +kernel
theorem dX6_lean_100 : decode cX6_lean 100 = .ok (.if_icmp .le 8, 3) := by decide +kernel
theorem dX6_lean_103 : decode cX6_lean 103 = .ok (.iload 7, 2) := by decide +kernel
theorem dX6_lean_105 : decode cX6_lean 105 = .ok (.goto 5, 3) := by decide +kernel
theorem dX6_lean_108 : decode cX6_lean 108 = .ok (.iload 5, 2) := by decide +kernel
theorem dX6_lean_110 : decode cX6_lean 110 = .ok (.istore 5, 2) := by decide +kernel
theorem dX6_lean_112 : decode cX6_lean 112 = .ok (.iinc 6 1, 3) := by decide +kernel
theorem dX6_lean_115 : decode cX6_lean 115 = .ok (.goto (-72), 3) := by decide +kernel
theorem dX6_lean_118 : decode cX6_lean 118 = .ok (.aload_n 0, 1) := by decide +kernel
theorem dX6_lean_119 : decode cX6_lean 119 = .ok (.getfield 7, 3) := by decide +kernel
theorem dX6_lean_122 : decode cX6_lean 122 = .ok (.iload_n 1, 1) := by decide +kernel
theorem dX6_lean_123 : decode cX6_lean 123 = .ok (.iconst 1, 1) := by decide +kernel
theorem dX6_lean_124 : decode cX6_lean 124 = .ok (.invokestatic 42, 3) := by decide +kernel
theorem dX6_lean_127 : decode cX6_lean 127 = .ok (.iload_n 3, 1) := by decide +kernel
theorem dX6_lean_128 : decode cX6_lean 128 = .ok (.iastore, 1) := by decide +kernel
theorem dX6_lean_129 : decode cX6_lean 129 = .ok (.iload 4, 2) := by decide +kernel
theorem dX6_lean_131 : decode cX6_lean 131 = .ok (.ireturn, 1) := by decide +kernel
theorem dX6_buys_0 : decode cX6_buys 0 = .ok (.aload_n 0, 1) := by decide +kernel
theorem dX6_buys_1 : decode cX6_buys 1 = .ok (.iload_n 1, 1) := by decide +kernel
theorem dX6_buys_2 : decode cX6_buys 2 = .ok (.invokevirtual 110, 3) := by decide +kernel
theorem dX6_buys_5 : decode cX6_buys 5 = .ok (.ifCond .eq 17, 3) := by decide +kernel
theorem dX6_buys_8 : decode cX6_buys 8 = .ok (.iload_n 2, 1) := by decide +kernel
theorem dX6_buys_9 : decode cX6_buys 9 = .ok (.invokestatic 60, 3) := by decide +kernel
theorem dX6_buys_12 : decode cX6_buys 12 = .ok (.ifCond .eq 10, 3) := by decide +kernel
theorem dX6_buys_15 : decode cX6_buys 15 = .ok (.iload_n 3, 1) := by decide +kernel
theorem dX6_buys_16 : decode cX6_buys 16 = .ok (.invokestatic 167, 3) := by decide +kernel
theorem dX6_buys_19 : decode cX6_buys 19 = .ok (.ifCond .ne 10, 3) := by decide +kernel
theorem dX6_buys_22 : decode cX6_buys 22 = .ok (.aload_n 0, 1) := by decide +kernel
theorem dX6_buys_23 : decode cX6_buys 23 = .ok (.ldc 41, 2) := by decide +kernel
theorem dX6_buys_25 : decode cX6_buys 25 = .ok (.invokevirtual 67, 3) := by decide +kernel
theorem dX6_buys_28 : decode cX6_buys 28 = .ok (.ireturn, 1) := by decide +kernel
theorem dX6_buys_29 : decode cX6_buys 29 = .ok (.iload_n 1, 1) := by decide +kernel
theorem dX6_buys_30 : decode cX6_buys 30 = .ok (.iconst 2, 1) := by decide +kernel
theorem dX6_buys_31 : decode cX6_buys 31 = .ok (.invokestatic 42, 3) := by decide +kernel
theorem dX6_buys_34 : decode cX6_buys 34 = .ok (.istore 4, 2) := by decide +kernel
theorem dX6_buys_36 : decode cX6_buys 36 = .ok (.aload_n 0, 1) := by decide +kernel
theorem dX6_buys_37 : decode cX6_buys 37 = .ok (.getfield 7, 3) := by decide +kernel
theorem dX6_buys_40 : decode cX6_buys 40 = .ok (.iload 4, 2) := by decide +kernel
theorem dX6_buys_42 : decode cX6_buys 42 = .ok (.iaload, 1) := by decide +kernel
theorem dX6_buys_43 : decode cX6_buys 43 = .ok (.istore 5, 2) := by decide +kernel
theorem dX6_buys_45 : decode cX6_buys 45 = .ok (.iconst (-1), 1) := by decide +kernel
theorem dX6_buys_46 : decode cX6_buys 46 = .ok (.istore 6, 2) := by decide +kernel
theorem dX6_buys_48 : decode cX6_buys 48 = .ok (.iconst 0, 1) := by decide +kernel
theorem dX6_buys_49 : decode cX6_buys 49 = .ok (.istore 7, 2) := by decide +kernel
theorem dX6_buys_51 : decode cX6_buys 51 = .ok (.iload 7, 2) := by decide +kernel
theorem dX6_buys_53 : decode cX6_buys 53 = .ok (.sipush 1000, 3) := by decide +kernel
theorem dX6_buys_56 : decode cX6_buys 56 = .ok (.if_icmp .gt 49, 3) := by decide +kernel
theorem dX6_buys_59 : decode cX6_buys 59 = .ok (.iload 6, 2) := by decide +kernel
theorem dX6_buys_61 : decode cX6_buys 61 = .ok (.ifCond .ge 44, 3) := by decide +kernel
theorem dX6_buys_64 : decode cX6_buys 64 = .ok (.aload_n 0, 1) := by decide +kernel
theorem dX6_buys_65 : decode cX6_buys 65 = .ok (.getfield 7, 3) := by decide +kernel
theorem dX6_buys_68 : decode cX6_buys 68 = .ok (.iload 4, 2) := by decide +kernel
theorem dX6_buys_70 : decode cX6_buys 70 = .ok (.iload 7, 2) := by decide +kernel
theorem dX6_buys_72 : decode cX6_buys 72 = .ok (.iastore, 1) := by decide +kernel
theorem dX6_buys_73 : decode cX6_buys 73 = .ok (.aload_n 0, 1) := by decide +kernel
theorem dX6_buys_74 : decode cX6_buys 74 = .ok (.iconst 2, 1) := by decide +kernel
theorem dX6_buys_75 : decode cX6_buys 75 = .ok (.iload_n 3, 1) := by decide +kernel
theorem dX6_buys_76 : decode cX6_buys 76 = .ok (.invokevirtual 158, 3) := by decide +kernel
theorem dX6_buys_79 : decode cX6_buys 79 = .ok (.iload_n 2, 1) := by decide +kernel
theorem dX6_buys_80 : decode cX6_buys 80 = .ok (.ishr, 1) := by decide +kernel
theorem dX6_buys_81 : decode cX6_buys 81 = .ok (.iconst 1, 1) := by decide +kernel
theorem dX6_buys_82 : decode cX6_buys 82 = .ok (.iand, 1) := by decide +kernel
theorem dX6_buys_83 : decode cX6_buys 83 = .ok (.aload_n 0, 1) := by decide +kernel
theorem dX6_buys_84 : decode cX6_buys 84 = .ok (.iload_n 2, 1) := by decide +kernel
theorem dX6_buys_85 : decode cX6_buys 85 = .ok (.invokevirtual 73, 3) := by decide +kernel
theorem dX6_buys_88 : decode cX6_buys 88 = .ok (.if_icmp .eq 8, 3) := by decide +kernel
theorem dX6_buys_91 : decode cX6_buys 91 = .ok (.iload 7, 2) := by decide +kernel
theorem dX6_buys_93 : decode cX6_buys 93 = .ok (.goto 4, 3) := by decide +kernel
theorem dX6_buys_96 : decode cX6_buys 96 = .ok (.iconst (-1), 1) := by decide +kernel
theorem dX6_buys_97 : decode cX6_buys 97 = .ok (.istore 6, 2) := by decide +kernel
theorem dX6_buys_99 : decode cX6_buys 99 = .ok (.iinc 7 10, 3) := by decide +kernel
theorem dX6_buys_102 : decode cX6_buys 102 = .ok (.goto (-51), 3) := by decide +kernel
theorem dX6_buys_105 : decode cX6_buys 105 = .ok (.aload_n 0, 1) := by decide +kernel
theorem dX6_buys_106 : decode cX6_buys 106 = .ok (.getfield 7, 3) := by decide +kernel
theorem dX6_buys_109 : decode cX6_buys 109 = .ok (.iload 4, 2) := by decide +kernel
theorem dX6_buys_111 : decode cX6_buys 111 = .ok (.iload 5, 2) := by decide +kernel
theorem dX6_buys_113 : decode cX6_buys 113 = .ok (.iastore, 1) := by decide +kernel
theorem dX6_buys_114 : decode cX6_buys 114 = .ok (.iload 6, 2) := by decide +kernel
theorem dX6_buys_116 : decode cX6_buys 116 = .ok (.ifCond .ge 12, 3) := by decide +kernel
theorem dX6_buys_119 : decode cX6_buys 119 = .ok (.aload_n 0, 1) := by decide +kernel
theorem dX6_buys_120 : decode cX6_buys 120 = .ok (.ldc 161, 2) := by decide +kernel
theorem dX6_buys_122 : decode cX6_buys 122 = .ok (.invokevirtual 67, 3) := by decide +kernel
theorem dX6_buys_125 : decode cX6_buys 125 = .ok (.goto 5, 3) := by decide +kernel
theorem dX6_buys_128 : decode cX6_buys 128 = .ok (.iload 6, 2) := by decide +kernel
theorem dX6_buys_130 : decode cX6_buys 130 = .ok (.ireturn, 1) := by decide +kernel
theorem dX6_swing_0 : decode cX6_swing 0 = .ok (.iload_n 1, 1) := by decide +kernel
theorem dX6_swing_1 : decode cX6_swing 1 = .ok (.invokestatic 167, 3) := by decide +kernel
theorem dX6_swing_4 : decode cX6_swing 4 = .ok (.ifCond .ne 10, 3) := by decide +kernel
theorem dX6_swing_7 : decode cX6_swing 7 = .ok (.aload_n 0, 1) := by decide +kernel
theorem dX6_swing_8 : decode cX6_swing 8 = .ok (.ldc 41, 2) := by decide +kernel
theorem dX6_swing_10 : decode cX6_swing 10 = .ok (.invokevirtual 67, 3) := by decide +kernel
theorem dX6_swing_13 : decode cX6_swing 13 = .ok (.ireturn, 1) := by decide +kernel
theorem dX6_swing_14 : decode cX6_swing 14 = .ok (.aload_n 0, 1) := by decide +kernel
theorem dX6_swing_15 : decode cX6_swing 15 = .ok (.iconst 2, 1) := by decide +kernel
theorem dX6_swing_16 : decode cX6_swing 16 = .ok (.iload_n 1, 1) := by decide +kernel
theorem dX6_swing_17 : decode cX6_swing 17 = .ok (.invokevirtual 158, 3) := by decide +kernel
theorem dX6_swing_20 : decode cX6_swing 20 = .ok (.istore_n 2, 1) := by decide +kernel
theorem dX6_swing_21 : decode cX6_swing 21 = .ok (.iconst (-1), 1) := by decide +kernel
theorem dX6_swing_22 : decode cX6_swing 22 = .ok (.istore_n 3, 1) := by decide +kernel
theorem dX6_swing_23 : decode cX6_swing 23 = .ok (.iconst 0, 1) := by decide +kernel
theorem dX6_swing_24 : decode cX6_swing 24 = .ok (.istore 4, 2) := by decide +kernel
theorem dX6_swing_26 : decode cX6_swing 26 = .ok (.iconst 0, 1) := by decide +kernel
theorem dX6_swing_27 : decode cX6_swing 27 = .ok (.istore 5, 2) := by decide +kernel
theorem dX6_swing_29 : decode cX6_swing 29 = .ok (.iload 5, 2) := by decide +kernel
theorem dX6_swing_31 : decode cX6_swing 31 = .ok (.aload_n 0, 1) := by decide +kernel
theorem dX6_swing_32 : decode cX6_swing 32 = .ok (.getfield 7, 3) := by decide +kernel
theorem dX6_swing_35 : decode cX6_swing 35 = .ok (.iconst 1, 1) := by decide +kernel
theorem dX6_swing_36 : decode cX6_swing 36 = .ok (.iaload, 1) := by decide +kernel
theorem dX6_swing_37 : decode cX6_swing 37 = .ok (.if_icmp .ge 86, 3) := by decide +kernel
theorem dX6_swing_40 : decode cX6_swing 40 = .ok (.aload_n 0, 1) := by decide +kernel
theorem dX6_swing_41 : decode cX6_swing 41 = .ok (.iload 5, 2) := by decide +kernel
theorem dX6_swing_43 : decode cX6_swing 43 = .ok (.iconst 3, 1) := by decide +kernel
theorem dX6_swing_44 : decode cX6_swing 44 = .ok (.invokevirtual 55, 3) := by decide +kernel
theorem dX6_swing_47 : decode cX6_swing 47 = .ok (.ifCond .ne 70, 3) := by decide +kernel
theorem dX6_swing_50 : decode cX6_swing 50 = .ok (.aload_n 0, 1) := by decide +kernel
theorem dX6_swing_51 : decode cX6_swing 51 = .ok (.getfield 7, 3) := by decide +kernel
theorem dX6_swing_54 : decode cX6_swing 54 = .ok (.iload 5, 2) := by decide +kernel
theorem dX6_swing_56 : decode cX6_swing 56 = .ok (.iconst 3, 1) := by decide +kernel
theorem dX6_swing_57 : decode cX6_swing 57 = .ok (.invokestatic 42, 3) := by decide +kernel
theorem dX6_swing_60 : decode cX6_swing 60 = .ok (.iconst 1, 1) := by decide +kernel
theorem dX6_swing_61 : decode cX6_swing 61 = .ok (.iastore, 1) := by decide +kernel
theorem dX6_swing_62 : decode cX6_swing 62 = .ok (.aload_n 0, 1) := by decide +kernel
theorem dX6_swing_63 : decode cX6_swing 63 = .ok (.iconst 2, 1) := by decide +kernel
theorem dX6_swing_64 : decode cX6_swing 64 = .ok (.iload_n 1, 1) := by decide +kernel
theorem dX6_swing_65 : decode cX6_swing 65 = .ok (.invokevirtual 158, 3) := by decide +kernel
theorem dX6_swing_68 : decode cX6_swing 68 = .ok (.iload_n 2, 1) := by decide +kernel
theorem dX6_swing_69 : decode cX6_swing 69 = .ok (.ixor, 1) := by decide +kernel
theorem dX6_swing_70 : decode cX6_swing 70 = .ok (.invokestatic 172, 3) := by decide +kernel
theorem dX6_swing_73 : decode cX6_swing 73 = .ok (.istore 6, 2) := by decide +kernel
theorem dX6_swing_75 : decode cX6_swing 75 = .ok (.aload_n 0, 1) := by decide +kernel
theorem dX6_swing_76 : decode cX6_swing 76 = .ok (.getfield 7, 3) := by decide +kernel
theorem dX6_swing_79 : decode cX6_swing 79 = .ok (.iload 5, 2) := by decide +kernel
theorem dX6_swing_81 : decode cX6_swing 81 = .ok (.iconst 3, 1) := by decide +kernel
theorem dX6_swing_82 : decode cX6_swing 82 = .ok (.invokestatic 42, 3) := by decide +kernel
theorem dX6_swing_85 : decode cX6_swing 85 = .ok (.iconst 0, 1) := by decide +kernel
theorem dX6_swing_86 : decode cX6_swing 86 = .ok (.iastore, 1) := by decide +kernel
theorem dX6_swing_87 : decode cX6_swing 87 = .ok (.iload 6, 2) := by decide +kernel
theorem dX6_swing_89 : decode cX6_swing 89 = .ok (.iload 4, 2) := by decide +kernel
theorem dX6_swing_91 : decode cX6_swing 91 = .ok (.if_icmp .le 8, 3) := by decide +kernel
theorem dX6_swing_94 : decode cX6_swing 94 = .ok (.iload 5, 2) := by decide +kernel
theorem dX6_swing_96 : decode cX6_swing 96 = .ok (.goto 4, 3) := by decide +kernel
theorem dX6_swing_99 : decode cX6_swing 99 = .ok (.iload_n 3, 1) := by decide +kernel
theorem dX6_swing_100 : decode cX6_swing 100 = .ok (.istore_n 3, 1) := by decide +kernel
theorem dX6_swing_101 : decode cX6_swing 101 = .ok (.iload 6, 2) := by decide +kernel
theorem dX6_swing_103 : decode cX6_swing 103 = .ok (.iload 4, 2) := by decide +kernel
theorem dX6_swing_105 : decode cX6_swing 105 = .ok (.if_icmp .le 8, 3) := by decide +kernel
theorem dX6_swing_108 : decode cX6_swing 108 = .ok (.iload 6, 2) := by decide +kernel
theorem dX6_swing_110 : decode cX6_swing 110 = .ok (.goto 5, 3) := by decide +kernel
theorem dX6_swing_113 : decode cX6_swing 113 = .ok (.iload 4, 2) := by decide +kernel
theorem dX6_swing_115 : decode cX6_swing 115 = .ok (.istore 4, 2) := by decide +kernel
theorem dX6_swing_117 : decode cX6_swing 117 = .ok (.iinc 5 1, 3) := by decide +kernel
theorem dX6_swing_120 : decode cX6_swing 120 = .ok (.goto (-91), 3) := by decide +kernel
theorem dX6_swing_123 : decode cX6_swing 123 = .ok (.iload_n 3, 1) := by decide +kernel
theorem dX6_swing_124 : decode cX6_swing 124 = .ok (.ifCond .ge 12, 3) := by decide +kernel
theorem dX6_swing_127 : decode cX6_swing 127 = .ok (.aload_n 0, 1) := by decide +kernel
theorem dX6_swing_128 : decode cX6_swing 128 = .ok (.ldc 161, 2) := by decide +kernel
theorem dX6_swing_130 : decode cX6_swing 130 = .ok (.invokevirtual 67, 3) := by decide +kernel
theorem dX6_swing_133 : decode cX6_swing 133 = .ok (.goto 4, 3) := by decide +kernel
theorem dX6_swing_136 : decode cX6_swing 136 = .ok (.iload_n 3, 1) := by decide +kernel
theorem dX6_swing_137 : decode cX6_swing 137 = .ok (.ireturn, 1) := by decide +kernel
theorem dX6_pays_0 : decode cX6_pays 0 = .ok (.iload_n 1, 1) := by decide +kernel
theorem dX6_pays_1 : decode cX6_pays 1 = .ok (.invokestatic 167, 3) := by decide +kernel
theorem dX6_pays_4 : decode cX6_pays 4 = .ok (.ifCond .ne 10, 3) := by decide +kernel
theorem dX6_pays_7 : decode cX6_pays 7 = .ok (.aload_n 0, 1) := by decide +kernel
theorem dX6_pays_8 : decode cX6_pays 8 = .ok (.ldc 41, 2) := by decide +kernel
theorem dX6_pays_10 : decode cX6_pays 10 = .ok (.invokevirtual 67, 3) := by decide +kernel
theorem dX6_pays_13 : decode cX6_pays 13 = .ok (.ireturn, 1) := by decide +kernel
theorem dX6_pays_14 : decode cX6_pays 14 = .ok (.aload_n 0, 1) := by decide +kernel
theorem dX6_pays_15 : decode cX6_pays 15 = .ok (.iconst 3, 1) := by decide +kernel
theorem dX6_pays_16 : decode cX6_pays 16 = .ok (.iconst 0, 1) := by decide +kernel
theorem dX6_pays_17 : decode cX6_pays 17 = .ok (.invokevirtual 64, 3) := by decide +kernel
theorem dX6_pays_20 : decode cX6_pays 20 = .ok (.istore_n 2, 1) := by decide +kernel
theorem dX6_pays_21 : decode cX6_pays 21 = .ok (.aload_n 0, 1) := by decide +kernel
theorem dX6_pays_22 : decode cX6_pays 22 = .ok (.iconst 2, 1) := by decide +kernel
theorem dX6_pays_23 : decode cX6_pays 23 = .ok (.iload_n 1, 1) := by decide +kernel
theorem dX6_pays_24 : decode cX6_pays 24 = .ok (.invokevirtual 158, 3) := by decide +kernel
theorem dX6_pays_27 : decode cX6_pays 27 = .ok (.invokestatic 172, 3) := by decide +kernel
theorem dX6_pays_30 : decode cX6_pays 30 = .ok (.istore_n 3, 1) := by decide +kernel
theorem dX6_pays_31 : decode cX6_pays 31 = .ok (.aload_n 0, 1) := by decide +kernel
theorem dX6_pays_32 : decode cX6_pays 32 = .ok (.getfield 7, 3) := by decide +kernel
theorem dX6_pays_35 : decode cX6_pays 35 = .ok (.iconst 3, 1) := by decide +kernel
theorem dX6_pays_36 : decode cX6_pays 36 = .ok (.iconst 1, 1) := by decide +kernel
theorem dX6_pays_37 : decode cX6_pays 37 = .ok (.iastore, 1) := by decide +kernel
theorem dX6_pays_38 : decode cX6_pays 38 = .ok (.aload_n 0, 1) := by decide +kernel
theorem dX6_pays_39 : decode cX6_pays 39 = .ok (.iconst 2, 1) := by decide +kernel
theorem dX6_pays_40 : decode cX6_pays 40 = .ok (.iload_n 1, 1) := by decide +kernel
theorem dX6_pays_41 : decode cX6_pays 41 = .ok (.invokevirtual 158, 3) := by decide +kernel
theorem dX6_pays_44 : decode cX6_pays 44 = .ok (.invokestatic 172, 3) := by decide +kernel
theorem dX6_pays_47 : decode cX6_pays 47 = .ok (.istore 4, 2) := by decide +kernel
theorem dX6_pays_49 : decode cX6_pays 49 = .ok (.aload_n 0, 1) := by decide +kernel
theorem dX6_pays_50 : decode cX6_pays 50 = .ok (.getfield 7, 3) := by decide +kernel
theorem dX6_pays_53 : decode cX6_pays 53 = .ok (.iconst 3, 1) := by decide +kernel
theorem dX6_pays_54 : decode cX6_pays 54 = .ok (.iload_n 2, 1) := by decide +kernel
theorem dX6_pays_55 : decode cX6_pays 55 = .ok (.iastore, 1) := by decide +kernel
theorem dX6_pays_56 : decode cX6_pays 56 = .ok (.iload 4, 2) := by decide +kernel
theorem dX6_pays_58 : decode cX6_pays 58 = .ok (.iload_n 3, 1) := by decide +kernel
theorem dX6_pays_59 : decode cX6_pays 59 = .ok (.if_icmp .le 7, 3) := by decide +kernel
theorem dX6_pays_62 : decode cX6_pays 62 = .ok (.iconst 1, 1) := by decide +kernel
theorem dX6_pays_63 : decode cX6_pays 63 = .ok (.goto 4, 3) := by decide +kernel
theorem dX6_pays_66 : decode cX6_pays 66 = .ok (.iconst 0, 1) := by decide +kernel
theorem dX6_pays_67 : decode cX6_pays 67 = .ok (.ireturn, 1) := by decide +kernel
theorem dX6_richest_0 : decode cX6_richest 0 = .ok (.iload_n 1, 1) := by decide +kernel
theorem dX6_richest_1 : decode cX6_richest 1 = .ok (.invokestatic 155, 3) := by decide +kernel
theorem dX6_richest_4 : decode cX6_richest 4 = .ok (.ifCond .ne 10, 3) := by decide +kernel
theorem dX6_richest_7 : decode cX6_richest 7 = .ok (.aload_n 0, 1) := by decide +kernel
theorem dX6_richest_8 : decode cX6_richest 8 = .ok (.ldc 41, 2) := by decide +kernel
theorem dX6_richest_10 : decode cX6_richest 10 = .ok (.invokevirtual 67, 3) := by decide +kernel
theorem dX6_richest_13 : decode cX6_richest 13 = .ok (.ireturn, 1) := by decide +kernel
theorem dX6_richest_14 : decode cX6_richest 14 = .ok (.aload_n 0, 1) := by decide +kernel
theorem dX6_richest_15 : decode cX6_richest 15 = .ok (.getfield 7, 3) := by decide +kernel
theorem dX6_richest_18 : decode cX6_richest 18 = .ok (.iconst 1, 1) := by decide +kernel
theorem dX6_richest_19 : decode cX6_richest 19 = .ok (.iaload, 1) := by decide +kernel
theorem dX6_richest_20 : decode cX6_richest 20 = .ok (.ifCond .ne 10, 3) := by decide +kernel
theorem dX6_richest_23 : decode cX6_richest 23 = .ok (.aload_n 0, 1) := by decide +kernel
theorem dX6_richest_24 : decode cX6_richest 24 = .ok (.ldc 161, 2) := by decide +kernel
theorem dX6_richest_26 : decode cX6_richest 26 = .ok (.invokevirtual 67, 3) := by decide +kernel
theorem dX6_richest_29 : decode cX6_richest 29 = .ok (.ireturn, 1) := by decide +kernel
theorem dX6_richest_30 : decode cX6_richest 30 = .ok (.aload_n 0, 1) := by decide +kernel
theorem dX6_richest_31 : decode cX6_richest 31 = .ok (.invokevirtual 149, 3) := by decide +kernel
theorem dX6_richest_34 : decode cX6_richest 34 = .ok (.aload_n 0, 1) := by decide +kernel
theorem dX6_richest_35 : decode cX6_richest 35 = .ok (.iload_n 1, 1) := by decide +kernel
theorem dX6_richest_36 : decode cX6_richest 36 = .ok (.invokevirtual 144, 3) := by decide +kernel
theorem dX6_richest_39 : decode cX6_richest 39 = .ok (.iconst 0, 1) := by decide +kernel
theorem dX6_richest_40 : decode cX6_richest 40 = .ok (.istore_n 2, 1) := by decide +kernel
theorem dX6_richest_41 : decode cX6_richest 41 = .ok (.iconst 1, 1) := by decide +kernel
theorem dX6_richest_42 : decode cX6_richest 42 = .ok (.istore_n 3, 1) := by decide +kernel
theorem dX6_richest_43 : decode cX6_richest 43 = .ok (.iload_n 3, 1) := by decide +kernel
theorem dX6_richest_44 : decode cX6_richest 44 = .ok (.aload_n 0, 1) := by decide +kernel
theorem dX6_richest_45 : decode cX6_richest 45 = .ok (.getfield 7, 3) := by decide +kernel
theorem dX6_richest_48 : decode cX6_richest 48 = .ok (.iconst 1, 1) := by decide +kernel
theorem dX6_richest_49 : decode cX6_richest 49 = .ok (.iaload, 1) := by decide +kernel
theorem dX6_richest_50 : decode cX6_richest 50 = .ok (.if_icmp .ge 30, 3) := by decide +kernel
theorem dX6_richest_53 : decode cX6_richest 53 = .ok (.aload_n 0, 1) := by decide +kernel
theorem dX6_richest_54 : decode cX6_richest 54 = .ok (.iload_n 3, 1) := by decide +kernel
theorem dX6_richest_55 : decode cX6_richest 55 = .ok (.iconst 2, 1) := by decide +kernel
theorem dX6_richest_56 : decode cX6_richest 56 = .ok (.invokevirtual 55, 3) := by decide +kernel
theorem dX6_richest_59 : decode cX6_richest 59 = .ok (.aload_n 0, 1) := by decide +kernel
theorem dX6_richest_60 : decode cX6_richest 60 = .ok (.iload_n 2, 1) := by decide +kernel
theorem dX6_richest_61 : decode cX6_richest 61 = .ok (.iconst 2, 1) := by decide +kernel
theorem dX6_richest_62 : decode cX6_richest 62 = .ok (.invokevirtual 55, 3) := by decide +kernel
theorem dX6_richest_65 : decode cX6_richest 65 = .ok (.if_icmp .le 7, 3) := by decide +kernel
theorem dX6_richest_68 : decode cX6_richest 68 = .ok (.iload_n 3, 1) := by decide +kernel
theorem dX6_richest_69 : decode cX6_richest 69 = .ok (.goto 4, 3) := by decide +kernel
theorem dX6_richest_72 : decode cX6_richest 72 = .ok (.iload_n 2, 1) := by decide +kernel
theorem dX6_richest_73 : decode cX6_richest 73 = .ok (.istore_n 2, 1) := by decide +kernel
theorem dX6_richest_74 : decode cX6_richest 74 = .ok (.iinc 3 1, 3) := by decide +kernel
theorem dX6_richest_77 : decode cX6_richest 77 = .ok (.goto (-34), 3) := by decide +kernel
theorem dX6_richest_80 : decode cX6_richest 80 = .ok (.aload_n 0, 1) := by decide +kernel
theorem dX6_richest_81 : decode cX6_richest 81 = .ok (.iload_n 2, 1) := by decide +kernel
theorem dX6_richest_82 : decode cX6_richest 82 = .ok (.invokevirtual 152, 3) := by decide +kernel
theorem dX6_richest_85 : decode cX6_richest 85 = .ok (.ireturn, 1) := by decide +kernel
theorem dX6_feed_0 : decode cX6_feed 0 = .ok (.iload_n 2, 1) := by decide +kernel
theorem dX6_feed_1 : decode cX6_feed 1 = .ok (.i2l, 1) := by decide +kernel
theorem dX6_feed_2 : decode cX6_feed 2 = .ok (.lconst 1, 1) := by decide +kernel
theorem dX6_feed_3 : decode cX6_feed 3 = .ok (.ldc2_w 175, 3) := by decide +kernel
theorem dX6_feed_6 : decode cX6_feed 6 = .ok (.invokestatic 46, 3) := by decide +kernel
theorem dX6_feed_9 : decode cX6_feed 9 = .ok (.ifCond .ne 10, 3) := by decide +kernel
theorem dX6_feed_12 : decode cX6_feed 12 = .ok (.aload_n 0, 1) := by decide +kernel
theorem dX6_feed_13 : decode cX6_feed 13 = .ok (.ldc 41, 2) := by decide +kernel
theorem dX6_feed_15 : decode cX6_feed 15 = .ok (.invokevirtual 67, 3) := by decide +kernel
theorem dX6_feed_18 : decode cX6_feed 18 = .ok (.ireturn, 1) := by decide +kernel
theorem dX6_feed_19 : decode cX6_feed 19 = .ok (.aload_n 0, 1) := by decide +kernel
theorem dX6_feed_20 : decode cX6_feed 20 = .ok (.getfield 177, 3) := by decide +kernel
theorem dX6_feed_23 : decode cX6_feed 23 = .ok (.iload_n 2, 1) := by decide +kernel
theorem dX6_feed_24 : decode cX6_feed 24 = .ok (.iadd, 1) := by decide +kernel
theorem dX6_feed_25 : decode cX6_feed 25 = .ok (.bipush 120, 2) := by decide +kernel
theorem dX6_feed_27 : decode cX6_feed 27 = .ok (.if_icmp .le 10, 3) := by decide +kernel
theorem dX6_feed_30 : decode cX6_feed 30 = .ok (.aload_n 0, 1) := by decide +kernel
theorem dX6_feed_31 : decode cX6_feed 31 = .ok (.ldc 106, 2) := by decide +kernel
theorem dX6_feed_33 : decode cX6_feed 33 = .ok (.invokevirtual 67, 3) := by decide +kernel
theorem dX6_feed_36 : decode cX6_feed 36 = .ok (.ireturn, 1) := by decide +kernel
theorem dX6_feed_37 : decode cX6_feed 37 = .ok (.iload_n 2, 1) := by decide +kernel
theorem dX6_feed_38 : decode cX6_feed 38 = .ok (.iconst 1, 1) := by decide +kernel
theorem dX6_feed_39 : decode cX6_feed 39 = .ok (.isub, 1) := by decide +kernel
theorem dX6_feed_40 : decode cX6_feed 40 = .ok (.istore_n 3, 1) := by decide +kernel
theorem dX6_feed_41 : decode cX6_feed 41 = .ok (.iload_n 3, 1) := by decide +kernel
theorem dX6_feed_42 : decode cX6_feed 42 = .ok (.ifCond .lt 38, 3) := by decide +kernel
theorem dX6_feed_45 : decode cX6_feed 45 = .ok (.aload_n 0, 1) := by decide +kernel
theorem dX6_feed_46 : decode cX6_feed 46 = .ok (.getfield 25, 3) := by decide +kernel
theorem dX6_feed_49 : decode cX6_feed 49 = .ok (.aload_n 0, 1) := by decide +kernel
theorem dX6_feed_50 : decode cX6_feed 50 = .ok (.getfield 177, 3) := by decide +kernel
theorem dX6_feed_53 : decode cX6_feed 53 = .ok (.iload_n 1, 1) := by decide +kernel
theorem dX6_feed_54 : decode cX6_feed 54 = .ok (.bipush 8, 2) := by decide +kernel
theorem dX6_feed_56 : decode cX6_feed 56 = .ok (.iload_n 3, 1) := by decide +kernel
theorem dX6_feed_57 : decode cX6_feed 57 = .ok (.imul, 1) := by decide +kernel
theorem dX6_feed_58 : decode cX6_feed 58 = .ok (.ishr, 1) := by decide +kernel
theorem dX6_feed_59 : decode cX6_feed 59 = .ok (.sipush 255, 3) := by decide +kernel
theorem dX6_feed_62 : decode cX6_feed 62 = .ok (.iand, 1) := by decide +kernel
theorem dX6_feed_63 : decode cX6_feed 63 = .ok (.iastore, 1) := by decide +kernel
theorem dX6_feed_64 : decode cX6_feed 64 = .ok (.aload_n 0, 1) := by decide +kernel
theorem dX6_feed_65 : decode cX6_feed 65 = .ok (.dup, 1) := by decide +kernel
theorem dX6_feed_66 : decode cX6_feed 66 = .ok (.getfield 177, 3) := by decide +kernel
theorem dX6_feed_69 : decode cX6_feed 69 = .ok (.iconst 1, 1) := by decide +kernel
theorem dX6_feed_70 : decode cX6_feed 70 = .ok (.iadd, 1) := by decide +kernel
theorem dX6_feed_71 : decode cX6_feed 71 = .ok (.putfield 177, 3) := by decide +kernel
theorem dX6_feed_74 : decode cX6_feed 74 = .ok (.iinc 3 (-1), 3) := by decide +kernel
theorem dX6_feed_77 : decode cX6_feed 77 = .ok (.goto (-36), 3) := by decide +kernel
theorem dX6_feed_80 : decode cX6_feed 80 = .ok (.aload_n 0, 1) := by decide +kernel
theorem dX6_feed_81 : decode cX6_feed 81 = .ok (.getfield 177, 3) := by decide +kernel
theorem dX6_feed_84 : decode cX6_feed 84 = .ok (.ireturn, 1) := by decide +kernel
theorem dX6_wipe_0 : decode cX6_wipe 0 = .ok (.aload_n 0, 1) := by decide +kernel
theorem dX6_wipe_1 : decode cX6_wipe 1 = .ok (.getfield 177, 3) := by decide +kernel
theorem dX6_wipe_4 : decode cX6_wipe 4 = .ok (.istore_n 1, 1) := by decide +kernel
theorem dX6_wipe_5 : decode cX6_wipe 5 = .ok (.aload_n 0, 1) := by decide +kernel
theorem dX6_wipe_6 : decode cX6_wipe 6 = .ok (.iconst 0, 1) := by decide +kernel
theorem dX6_wipe_7 : decode cX6_wipe 7 = .ok (.putfield 177, 3) := by decide +kernel
theorem dX6_wipe_10 : decode cX6_wipe 10 = .ok (.iload_n 1, 1) := by decide +kernel
theorem dX6_wipe_11 : decode cX6_wipe 11 = .ok (.ireturn, 1) := by decide +kernel
theorem dX6_byteAt_0 : decode cX6_byteAt 0 = .ok (.iload_n 1, 1) := by decide +kernel
theorem dX6_byteAt_1 : decode cX6_byteAt 1 = .ok (.aload_n 0, 1) := by decide +kernel
theorem dX6_byteAt_2 : decode cX6_byteAt 2 = .ok (.getfield 177, 3) := by decide +kernel
theorem dX6_byteAt_5 : decode cX6_byteAt 5 = .ok (.if_icmp .ge 12, 3) := by decide +kernel
theorem dX6_byteAt_8 : decode cX6_byteAt 8 = .ok (.aload_n 0, 1) := by decide +kernel
theorem dX6_byteAt_9 : decode cX6_byteAt 9 = .ok (.getfield 25, 3) := by decide +kernel
theorem dX6_byteAt_12 : decode cX6_byteAt 12 = .ok (.iload_n 1, 1) := by decide +kernel
theorem dX6_byteAt_13 : decode cX6_byteAt 13 = .ok (.iaload, 1) := by decide +kernel
theorem dX6_byteAt_14 : decode cX6_byteAt 14 = .ok (.goto 4, 3) := by decide +kernel
theorem dX6_byteAt_17 : decode cX6_byteAt 17 = .ok (.iconst (-1), 1) := by decide +kernel
theorem dX6_byteAt_18 : decode cX6_byteAt 18 = .ok (.ireturn, 1) := by decide +kernel
theorem dX6_isLetter_0 : decode cX6_isLetter 0 = .ok (.iload_n 0, 1) := by decide +kernel
theorem dX6_isLetter_1 : decode cX6_isLetter 1 = .ok (.i2l, 1) := by decide +kernel
theorem dX6_isLetter_2 : decode cX6_isLetter 2 = .ok (.ldc2_w 181, 3) := by decide +kernel
theorem dX6_isLetter_5 : decode cX6_isLetter 5 = .ok (.ldc2_w 183, 3) := by decide +kernel
theorem dX6_isLetter_8 : decode cX6_isLetter 8 = .ok (.invokestatic 46, 3) := by decide +kernel
theorem dX6_isLetter_11 : decode cX6_isLetter 11 = .ok (.ireturn, 1) := by decide +kernel
theorem dX6_isDigit_0 : decode cX6_isDigit 0 = .ok (.iload_n 0, 1) := by decide +kernel
theorem dX6_isDigit_1 : decode cX6_isDigit 1 = .ok (.i2l, 1) := by decide +kernel
theorem dX6_isDigit_2 : decode cX6_isDigit 2 = .ok (.ldc2_w 185, 3) := by decide +kernel
theorem dX6_isDigit_5 : decode cX6_isDigit 5 = .ok (.ldc2_w 187, 3) := by decide +kernel
theorem dX6_isDigit_8 : decode cX6_isDigit 8 = .ok (.invokestatic 46, 3) := by decide +kernel
theorem dX6_isDigit_11 : decode cX6_isDigit 11 = .ok (.ireturn, 1) := by decide +kernel
theorem dX6_token_0 : decode cX6_token 0 = .ok (.aload_n 0, 1) := by decide +kernel
theorem dX6_token_1 : decode cX6_token 1 = .ok (.aload_n 0, 1) := by decide +kernel
theorem dX6_token_2 : decode cX6_token 2 = .ok (.getfield 189, 3) := by decide +kernel
theorem dX6_token_5 : decode cX6_token 5 = .ok (.putfield 192, 3) := by decide +kernel
theorem dX6_token_8 : decode cX6_token 8 = .ok (.aload_n 0, 1) := by decide +kernel
theorem dX6_token_9 : decode cX6_token 9 = .ok (.aload_n 0, 1) := by decide +kernel
theorem dX6_token_10 : decode cX6_token 10 = .ok (.getfield 192, 3) := by decide +kernel
theorem dX6_token_13 : decode cX6_token 13 = .ok (.invokevirtual 195, 3) := by decide +kernel
theorem dX6_token_16 : decode cX6_token 16 = .ok (.bipush 32, 2) := by decide +kernel
theorem dX6_token_18 : decode cX6_token 18 = .ok (.if_icmp .ne 16, 3) := by decide +kernel
theorem dX6_token_21 : decode cX6_token 21 = .ok (.aload_n 0, 1) := by decide +kernel
theorem dX6_token_22 : decode cX6_token 22 = .ok (.dup, 1) := by decide +kernel
theorem dX6_token_23 : decode cX6_token 23 = .ok (.getfield 192, 3) := by decide +kernel
theorem dX6_token_26 : decode cX6_token 26 = .ok (.iconst 1, 1) := by decide +kernel
theorem dX6_token_27 : decode cX6_token 27 = .ok (.iadd, 1) := by decide +kernel
theorem dX6_token_28 : decode cX6_token 28 = .ok (.putfield 192, 3) := by decide +kernel
theorem dX6_token_31 : decode cX6_token 31 = .ok (.goto (-23), 3) := by decide +kernel
theorem dX6_token_34 : decode cX6_token 34 = .ok (.aload_n 0, 1) := by decide +kernel
theorem dX6_token_35 : decode cX6_token 35 = .ok (.aload_n 0, 1) := by decide +kernel
theorem dX6_token_36 : decode cX6_token 36 = .ok (.getfield 192, 3) := by decide +kernel
theorem dX6_token_39 : decode cX6_token 39 = .ok (.invokevirtual 195, 3) := by decide +kernel
theorem dX6_token_42 : decode cX6_token 42 = .ok (.invokestatic 198, 3) := by decide +kernel
theorem dX6_token_45 : decode cX6_token 45 = .ok (.istore_n 1, 1) := by decide +kernel
theorem dX6_token_46 : decode cX6_token 46 = .ok (.aload_n 0, 1) := by decide +kernel
theorem dX6_token_47 : decode cX6_token 47 = .ok (.aload_n 0, 1) := by decide +kernel
theorem dX6_token_48 : decode cX6_token 48 = .ok (.getfield 192, 3) := by decide +kernel
theorem dX6_token_51 : decode cX6_token 51 = .ok (.invokevirtual 195, 3) := by decide +kernel
theorem dX6_token_54 : decode cX6_token 54 = .ok (.invokestatic 201, 3) := by decide +kernel
theorem dX6_token_57 : decode cX6_token 57 = .ok (.istore_n 2, 1) := by decide +kernel
theorem dX6_token_58 : decode cX6_token 58 = .ok (.aload_n 0, 1) := by decide +kernel
theorem dX6_token_59 : decode cX6_token 59 = .ok (.aload_n 0, 1) := by decide +kernel
theorem dX6_token_60 : decode cX6_token 60 = .ok (.getfield 192, 3) := by decide +kernel
theorem dX6_token_63 : decode cX6_token 63 = .ok (.aload_n 0, 1) := by decide +kernel
theorem dX6_token_64 : decode cX6_token 64 = .ok (.getfield 177, 3) := by decide +kernel
theorem dX6_token_67 : decode cX6_token 67 = .ok (.if_icmp .ge 12, 3) := by decide +kernel
theorem dX6_token_70 : decode cX6_token 70 = .ok (.aload_n 0, 1) := by decide +kernel
theorem dX6_token_71 : decode cX6_token 71 = .ok (.getfield 192, 3) := by decide +kernel
theorem dX6_token_74 : decode cX6_token 74 = .ok (.iconst 1, 1) := by decide +kernel
theorem dX6_token_75 : decode cX6_token 75 = .ok (.iadd, 1) := by decide +kernel
theorem dX6_token_76 : decode cX6_token 76 = .ok (.goto 7, 3) := by decide +kernel
theorem dX6_token_79 : decode cX6_token 79 = .ok (.aload_n 0, 1) := by decide +kernel
theorem dX6_token_80 : decode cX6_token 80 = .ok (.getfield 192, 3) := by decide +kernel
theorem dX6_token_83 : decode cX6_token 83 = .ok (.putfield 189, 3) := by decide +kernel
theorem dX6_token_86 : decode cX6_token 86 = .ok (.iload_n 1, 1) := by decide +kernel
theorem dX6_token_87 : decode cX6_token 87 = .ok (.ifCond .eq 17, 3) := by decide +kernel
theorem dX6_token_90 : decode cX6_token 90 = .ok (.aload_n 0, 1) := by decide +kernel
theorem dX6_token_91 : decode cX6_token 91 = .ok (.aload_n 0, 1) := by decide +kernel
theorem dX6_token_92 : decode cX6_token 92 = .ok (.getfield 189, 3) := by decide +kernel
theorem dX6_token_95 : decode cX6_token 95 = .ok (.invokevirtual 195, 3) := by decide +kernel
theorem dX6_token_98 : decode cX6_token 98 = .ok (.invokestatic 198, 3) := by decide +kernel
theorem dX6_token_101 : decode cX6_token 101 = .ok (.ifCond .ne 21, 3) := by decide +kernel
theorem dX6_token_104 : decode cX6_token 104 = .ok (.iload_n 2, 1) := by decide +kernel
theorem dX6_token_105 : decode cX6_token 105 = .ok (.ifCond .eq 30, 3) := by decide +kernel
theorem dX6_token_108 : decode cX6_token 108 = .ok (.aload_n 0, 1) := by decide +kernel
theorem dX6_token_109 : decode cX6_token 109 = .ok (.aload_n 0, 1) := by decide +kernel
theorem dX6_token_110 : decode cX6_token 110 = .ok (.getfield 189, 3) := by decide +kernel
theorem dX6_token_113 : decode cX6_token 113 = .ok (.invokevirtual 195, 3) := by decide +kernel
theorem dX6_token_116 : decode cX6_token 116 = .ok (.invokestatic 201, 3) := by decide +kernel
theorem dX6_token_119 : decode cX6_token 119 = .ok (.ifCond .eq 16, 3) := by decide +kernel
theorem dX6_token_122 : decode cX6_token 122 = .ok (.aload_n 0, 1) := by decide +kernel
theorem dX6_token_123 : decode cX6_token 123 = .ok (.dup, 1) := by decide +kernel
theorem dX6_token_124 : decode cX6_token 124 = .ok (.getfield 189, 3) := by decide +kernel
theorem dX6_token_127 : decode cX6_token 127 = .ok (.iconst 1, 1) := by decide +kernel
theorem dX6_token_128 : decode cX6_token 128 = .ok (.iadd, 1) := by decide +kernel
theorem dX6_token_129 : decode cX6_token 129 = .ok (.putfield 189, 3) := by decide +kernel
theorem dX6_token_132 : decode cX6_token 132 = .ok (.goto (-46), 3) := by decide +kernel
theorem dX6_token_135 : decode cX6_token 135 = .ok (.return_, 1) := by decide +kernel
theorem dX6_must_0 : decode cX6_must 0 = .ok (.aload_n 0, 1) := by decide +kernel
theorem dX6_must_1 : decode cX6_must 1 = .ok (.aload_n 0, 1) := by decide +kernel
theorem dX6_must_2 : decode cX6_must 2 = .ok (.getfield 204, 3) := by decide +kernel
theorem dX6_must_5 : decode cX6_must 5 = .ok (.ifCond .ne 7, 3) := by decide +kernel
theorem dX6_must_8 : decode cX6_must 8 = .ok (.iload_n 1, 1) := by decide +kernel
theorem dX6_must_9 : decode cX6_must 9 = .ok (.ifCond .ne 7, 3) := by decide +kernel
theorem dX6_must_12 : decode cX6_must 12 = .ok (.iconst 1, 1) := by decide +kernel
theorem dX6_must_13 : decode cX6_must 13 = .ok (.goto 4, 3) := by decide +kernel
theorem dX6_must_16 : decode cX6_must 16 = .ok (.iconst 0, 1) := by decide +kernel
theorem dX6_must_17 : decode cX6_must 17 = .ok (.putfield 204, 3) := by decide +kernel
theorem dX6_must_20 : decode cX6_must 20 = .ok (.aload_n 0, 1) := by decide +kernel
theorem dX6_must_21 : decode cX6_must 21 = .ok (.getfield 204, 3) := by decide +kernel
theorem dX6_must_24 : decode cX6_must 24 = .ok (.ifCond .ne 7, 3) := by decide +kernel
theorem dX6_must_27 : decode cX6_must 27 = .ok (.aload_n 0, 1) := by decide +kernel
theorem dX6_must_28 : decode cX6_must 28 = .ok (.invokevirtual 208, 3) := by decide +kernel
theorem dX6_must_31 : decode cX6_must 31 = .ok (.return_, 1) := by decide +kernel
theorem dX6_word_0 : decode cX6_word 0 = .ok (.lconst 0, 1) := by decide +kernel
theorem dX6_word_1 : decode cX6_word 1 = .ok (.lstore_n 1, 1) := by decide +kernel
theorem dX6_word_2 : decode cX6_word 2 = .ok (.aload_n 0, 1) := by decide +kernel
theorem dX6_word_3 : decode cX6_word 3 = .ok (.getfield 192, 3) := by decide +kernel
theorem dX6_word_6 : decode cX6_word 6 = .ok (.istore_n 3, 1) := by decide +kernel
theorem dX6_word_7 : decode cX6_word 7 = .ok (.iload_n 3, 1) := by decide +kernel
theorem dX6_word_8 : decode cX6_word 8 = .ok (.aload_n 0, 1) := by decide +kernel
theorem dX6_word_9 : decode cX6_word 9 = .ok (.getfield 189, 3) := by decide +kernel
theorem dX6_word_12 : decode cX6_word 12 = .ok (.if_icmp .ge 38, 3) := by decide +kernel
theorem dX6_word_15 : decode cX6_word 15 = .ok (.lload_n 1, 1) := by decide +kernel
theorem dX6_word_16 : decode cX6_word 16 = .ok (.ldc2_w 211, 3) := by decide +kernel
theorem dX6_word_19 : decode cX6_word 19 = .ok (.lcmp, 1) := by decide +kernel
theorem dX6_word_20 : decode cX6_word 20 = .ok (.ifCond .le 7, 3) := by decide +kernel
theorem dX6_word_23 : decode cX6_word 23 = .ok (.lload_n 1, 1) := by decide +kernel
theorem dX6_word_24 : decode cX6_word 24 = .ok (.goto 19, 3) := by decide +kernel
theorem dX6_word_27 : decode cX6_word 27 = .ok (.ldc2_w 213, 3) := by decide +kernel
theorem dX6_word_30 : decode cX6_word 30 = .ok (.lload_n 1, 1) := by decide +kernel
theorem dX6_word_31 : decode cX6_word 31 = .ok (.lmul, 1) := by decide +kernel
theorem dX6_word_32 : decode cX6_word 32 = .ok (.aload_n 0, 1) := by decide +kernel
theorem dX6_word_33 : decode cX6_word 33 = .ok (.getfield 25, 3) := by decide +kernel
theorem dX6_word_36 : decode cX6_word 36 = .ok (.iload_n 3, 1) := by decide +kernel
theorem dX6_word_37 : decode cX6_word 37 = .ok (.iaload, 1) := by decide +kernel
theorem dX6_word_38 : decode cX6_word 38 = .ok (.bipush 96, 2) := by decide +kernel
theorem dX6_word_40 : decode cX6_word 40 = .ok (.isub, 1) := by decide +kernel
theorem dX6_word_41 : decode cX6_word 41 = .ok (.i2l, 1) := by decide +kernel
theorem dX6_word_42 : decode cX6_word 42 = .ok (.ladd, 1) := by decide +kernel
theorem dX6_word_43 : decode cX6_word 43 = .ok (.lstore_n 1, 1) := by decide +kernel
theorem dX6_word_44 : decode cX6_word 44 = .ok (.iinc 3 1, 3) := by decide +kernel
theorem dX6_word_47 : decode cX6_word 47 = .ok (.goto (-40), 3) := by decide +kernel
theorem dX6_word_50 : decode cX6_word 50 = .ok (.aload_n 0, 1) := by decide +kernel
theorem dX6_word_51 : decode cX6_word 51 = .ok (.getfield 204, 3) := by decide +kernel
theorem dX6_word_54 : decode cX6_word 54 = .ok (.ifCond .ne 17, 3) := by decide +kernel
theorem dX6_word_57 : decode cX6_word 57 = .ok (.aload_n 0, 1) := by decide +kernel
theorem dX6_word_58 : decode cX6_word 58 = .ok (.aload_n 0, 1) := by decide +kernel
theorem dX6_word_59 : decode cX6_word 59 = .ok (.getfield 192, 3) := by decide +kernel
theorem dX6_word_62 : decode cX6_word 62 = .ok (.invokevirtual 195, 3) := by decide +kernel
theorem dX6_word_65 : decode cX6_word 65 = .ok (.invokestatic 198, 3) := by decide +kernel
theorem dX6_word_68 : decode cX6_word 68 = .ok (.ifCond .ne 7, 3) := by decide +kernel
theorem dX6_word_71 : decode cX6_word 71 = .ok (.lconst 0, 1) := by decide +kernel
theorem dX6_word_72 : decode cX6_word 72 = .ok (.goto 4, 3) := by decide +kernel
theorem dX6_word_75 : decode cX6_word 75 = .ok (.lload_n 1, 1) := by decide +kernel
theorem dX6_word_76 : decode cX6_word 76 = .ok (.lreturn, 1) := by decide +kernel
theorem dX6_number_0 : decode cX6_number 0 = .ok (.aload_n 0, 1) := by decide +kernel
theorem dX6_number_1 : decode cX6_number 1 = .ok (.getfield 204, 3) := by decide +kernel
theorem dX6_number_4 : decode cX6_number 4 = .ok (.ifCond .eq 4, 3) := by decide +kernel
theorem dX6_number_7 : decode cX6_number 7 = .ok (.return_, 1) := by decide +kernel
theorem dX6_number_8 : decode cX6_number 8 = .ok (.aload_n 0, 1) := by decide +kernel
theorem dX6_number_9 : decode cX6_number 9 = .ok (.aload_n 0, 1) := by decide +kernel
theorem dX6_number_10 : decode cX6_number 10 = .ok (.getfield 192, 3) := by decide +kernel
theorem dX6_number_13 : decode cX6_number 13 = .ok (.invokevirtual 195, 3) := by decide +kernel
theorem dX6_number_16 : decode cX6_number 16 = .ok (.invokestatic 201, 3) := by decide +kernel
theorem dX6_number_19 : decode cX6_number 19 = .ok (.istore_n 3, 1) := by decide +kernel
theorem dX6_number_20 : decode cX6_number 20 = .ok (.iconst 0, 1) := by decide +kernel
theorem dX6_number_21 : decode cX6_number 21 = .ok (.istore 4, 2) := by decide +kernel
theorem dX6_number_23 : decode cX6_number 23 = .ok (.aload_n 0, 1) := by decide +kernel
theorem dX6_number_24 : decode cX6_number 24 = .ok (.getfield 192, 3) := by decide +kernel
theorem dX6_number_27 : decode cX6_number 27 = .ok (.istore 5, 2) := by decide +kernel
theorem dX6_number_29 : decode cX6_number 29 = .ok (.iload 5, 2) := by decide +kernel
theorem dX6_number_31 : decode cX6_number 31 = .ok (.aload_n 0, 1) := by decide +kernel
theorem dX6_number_32 : decode cX6_number 32 = .ok (.getfield 189, 3) := by decide +kernel
theorem dX6_number_35 : decode cX6_number 35 = .ok (.if_icmp .ge 44, 3) := by decide +kernel
theorem dX6_number_38 : decode cX6_number 38 = .ok (.iload_n 3, 1) := by decide +kernel
theorem dX6_number_39 : decode cX6_number 39 = .ok (.ifCond .eq 40, 3) := by decide +kernel
theorem dX6_number_42 : decode cX6_number 42 = .ok (.iload 4, 2) := by decide +kernel
theorem dX6_number_44 : decode cX6_number 44 = .ok (.sipush 9999, 3) := by decide +kernel
theorem dX6_number_47 : decode cX6_number 47 = .ok (.if_icmp .le 8, 3) := by decide +kernel
theorem dX6_number_50 : decode cX6_number 50 = .ok (.iload 4, 2) := by decide +kernel
theorem dX6_number_52 : decode cX6_number 52 = .ok (.goto 19, 3) := by decide +kernel
theorem dX6_number_55 : decode cX6_number 55 = .ok (.bipush 10, 2) := by decide +kernel
theorem dX6_number_57 : decode cX6_number 57 = .ok (.iload 4, 2) := by decide +kernel
theorem dX6_number_59 : decode cX6_number 59 = .ok (.imul, 1) := by decide +kernel
theorem dX6_number_60 : decode cX6_number 60 = .ok (.aload_n 0, 1) := by decide +kernel
theorem dX6_number_61 : decode cX6_number 61 = .ok (.getfield 25, 3) := by decide +kernel
theorem dX6_number_64 : decode cX6_number 64 = .ok (.iload 5, 2) := by decide +kernel
theorem dX6_number_66 : decode cX6_number 66 = .ok (.iaload, 1) := by decide +kernel
theorem dX6_number_67 : decode cX6_number 67 = .ok (.iadd, 1) := by decide +kernel
theorem dX6_number_68 : decode cX6_number 68 = .ok (.bipush 48, 2) := by decide +kernel
theorem dX6_number_70 : decode cX6_number 70 = .ok (.isub, 1) := by decide +kernel
theorem dX6_number_71 : decode cX6_number 71 = .ok (.istore 4, 2) := by decide +kernel
theorem dX6_number_73 : decode cX6_number 73 = .ok (.iinc 5 1, 3) := by decide +kernel
theorem dX6_number_76 : decode cX6_number 76 = .ok (.goto (-47), 3) := by decide +kernel
theorem dX6_number_79 : decode cX6_number 79 = .ok (.aload_n 0, 1) := by decide +kernel
theorem dX6_number_80 : decode cX6_number 80 = .ok (.iload 4, 2) := by decide +kernel
theorem dX6_number_82 : decode cX6_number 82 = .ok (.putfield 215, 3) := by decide +kernel
theorem dX6_number_85 : decode cX6_number 85 = .ok (.aload_n 0, 1) := by decide +kernel
theorem dX6_number_86 : decode cX6_number 86 = .ok (.iload_n 3, 1) := by decide +kernel
theorem dX6_number_87 : decode cX6_number 87 = .ok (.ifCond .eq 20, 3) := by decide +kernel
theorem dX6_number_90 : decode cX6_number 90 = .ok (.iload 4, 2) := by decide +kernel
theorem dX6_number_92 : decode cX6_number 92 = .ok (.i2l, 1) := by decide +kernel
theorem dX6_number_93 : decode cX6_number 93 = .ok (.iload_n 1, 1) := by decide +kernel
theorem dX6_number_94 : decode cX6_number 94 = .ok (.i2l, 1) := by decide +kernel
theorem dX6_number_95 : decode cX6_number 95 = .ok (.iload_n 2, 1) := by decide +kernel
theorem dX6_number_96 : decode cX6_number 96 = .ok (.i2l, 1) := by decide +kernel
theorem dX6_number_97 : decode cX6_number 97 = .ok (.invokestatic 46, 3) := by decide +kernel
theorem dX6_number_100 : decode cX6_number 100 = .ok (.ifCond .eq 7, 3) := by decide +kernel
theorem dX6_number_103 : decode cX6_number 103 = .ok (.iconst 1, 1) := by decide +kernel
theorem dX6_number_104 : decode cX6_number 104 = .ok (.goto 4, 3) := by decide +kernel
theorem dX6_number_107 : decode cX6_number 107 = .ok (.iconst 0, 1) := by decide +kernel
theorem dX6_number_108 : decode cX6_number 108 = .ok (.invokevirtual 218, 3) := by decide +kernel
theorem dX6_number_111 : decode cX6_number 111 = .ok (.return_, 1) := by decide +kernel
theorem dX6_kindHere_0 : decode cX6_kindHere 0 = .ok (.aload_n 0, 1) := by decide +kernel
theorem dX6_kindHere_1 : decode cX6_kindHere 1 = .ok (.invokevirtual 222, 3) := by decide +kernel
theorem dX6_kindHere_4 : decode cX6_kindHere 4 = .ok (.lstore_n 1, 1) := by decide +kernel
theorem dX6_kindHere_5 : decode cX6_kindHere 5 = .ok (.lload_n 1, 1) := by decide +kernel
theorem dX6_kindHere_6 : decode cX6_kindHere 6 = .ok (.ldc2_w 226, 3) := by decide +kernel
theorem dX6_kindHere_9 : decode cX6_kindHere 9 = .ok (.lcmp, 1) := by decide +kernel
theorem dX6_kindHere_10 : decode cX6_kindHere 10 = .ok (.ifCond .ne 7, 3) := by decide +kernel
theorem dX6_kindHere_13 : decode cX6_kindHere 13 = .ok (.iconst 0, 1) := by decide +kernel
theorem dX6_kindHere_14 : decode cX6_kindHere 14 = .ok (.goto 64, 3) := by decide +kernel
theorem dX6_kindHere_17 : decode cX6_kindHere 17 = .ok (.lload_n 1, 1) := by decide +kernel
theorem dX6_kindHere_18 : decode cX6_kindHere 18 = .ok (.ldc2_w 228, 3) := by decide +kernel
theorem dX6_kindHere_21 : decode cX6_kindHere 21 = .ok (.lcmp, 1) := by decide +kernel
theorem dX6_kindHere_22 : decode cX6_kindHere 22 = .ok (.ifCond .ne 7, 3) := by decide +kernel
theorem dX6_kindHere_25 : decode cX6_kindHere 25 = .ok (.iconst 1, 1) := by decide +kernel
theorem dX6_kindHere_26 : decode cX6_kindHere 26 = .ok (.goto 52, 3) := by decide +kernel
theorem dX6_kindHere_29 : decode cX6_kindHere 29 = .ok (.lload_n 1, 1) := by decide +kernel
theorem dX6_kindHere_30 : decode cX6_kindHere 30 = .ok (.ldc2_w 230, 3) := by decide +kernel
theorem dX6_kindHere_33 : decode cX6_kindHere 33 = .ok (.lcmp, 1) := by decide +kernel
theorem dX6_kindHere_34 : decode cX6_kindHere 34 = .ok (.ifCond .ne 7, 3) := by decide +kernel
theorem dX6_kindHere_37 : decode cX6_kindHere 37 = .ok (.iconst 2, 1) := by decide +kernel
theorem dX6_kindHere_38 : decode cX6_kindHere 38 = .ok (.goto 40, 3) := by decide +kernel
theorem dX6_kindHere_41 : decode cX6_kindHere 41 = .ok (.lload_n 1, 1) := by decide +kernel
theorem dX6_kindHere_42 : decode cX6_kindHere 42 = .ok (.ldc2_w 232, 3) := by decide +kernel
theorem dX6_kindHere_45 : decode cX6_kindHere 45 = .ok (.lcmp, 1) := by decide +kernel
theorem dX6_kindHere_46 : decode cX6_kindHere 46 = .ok (.ifCond .ne 7, 3) := by decide +kernel
theorem dX6_kindHere_49 : decode cX6_kindHere 49 = .ok (.iconst 3, 1) := by decide +kernel
theorem dX6_kindHere_50 : decode cX6_kindHere 50 = .ok (.goto 28, 3) := by decide +kernel
theorem dX6_kindHere_53 : decode cX6_kindHere 53 = .ok (.lload_n 1, 1) := by decide +kernel
theorem dX6_kindHere_54 : decode cX6_kindHere 54 = .ok (.ldc2_w 234, 3) := by decide +kernel
theorem dX6_kindHere_57 : decode cX6_kindHere 57 = .ok (.lcmp, 1) := by decide +kernel
theorem dX6_kindHere_58 : decode cX6_kindHere 58 = .ok (.ifCond .ne 7, 3) := by decide +kernel
theorem dX6_kindHere_61 : decode cX6_kindHere 61 = .ok (.iconst 4, 1) := by decide +kernel
theorem dX6_kindHere_62 : decode cX6_kindHere 62 = .ok (.goto 16, 3) := by decide +kernel
theorem dX6_kindHere_65 : decode cX6_kindHere 65 = .ok (.lload_n 1, 1) := by decide +kernel
theorem dX6_kindHere_66 : decode cX6_kindHere 66 = .ok (.ldc2_w 236, 3) := by decide +kernel
theorem dX6_kindHere_69 : decode cX6_kindHere 69 = .ok (.lcmp, 1) := by decide +kernel
theorem dX6_kindHere_70 : decode cX6_kindHere 70 = .ok (.ifCond .ne 7, 3) := by decide +kernel
theorem dX6_kindHere_73 : decode cX6_kindHere 73 = .ok (.iconst 5, 1) := by decide +kernel
theorem dX6_kindHere_74 : decode cX6_kindHere 74 = .ok (.goto 4, 3) := by decide +kernel
theorem dX6_kindHere_77 : decode cX6_kindHere 77 = .ok (.iconst (-1), 1) := by decide +kernel
theorem dX6_kindHere_78 : decode cX6_kindHere 78 = .ok (.ireturn, 1) := by decide +kernel
theorem dX6_sideHere_0 : decode cX6_sideHere 0 = .ok (.aload_n 0, 1) := by decide +kernel
theorem dX6_sideHere_1 : decode cX6_sideHere 1 = .ok (.invokevirtual 222, 3) := by decide +kernel
theorem dX6_sideHere_4 : decode cX6_sideHere 4 = .ok (.lstore_n 1, 1) := by decide +kernel
theorem dX6_sideHere_5 : decode cX6_sideHere 5 = .ok (.lload_n 1, 1) := by decide +kernel
theorem dX6_sideHere_6 : decode cX6_sideHere 6 = .ok (.ldc2_w 238, 3) := by decide +kernel
theorem dX6_sideHere_9 : decode cX6_sideHere 9 = .ok (.lcmp, 1) := by decide +kernel
theorem dX6_sideHere_10 : decode cX6_sideHere 10 = .ok (.ifCond .ne 7, 3) := by decide +kernel
theorem dX6_sideHere_13 : decode cX6_sideHere 13 = .ok (.iconst 0, 1) := by decide +kernel
theorem dX6_sideHere_14 : decode cX6_sideHere 14 = .ok (.goto 16, 3) := by decide +kernel
theorem dX6_sideHere_17 : decode cX6_sideHere 17 = .ok (.lload_n 1, 1) := by decide +kernel
theorem dX6_sideHere_18 : decode cX6_sideHere 18 = .ok (.ldc2_w 240, 3) := by decide +kernel
theorem dX6_sideHere_21 : decode cX6_sideHere 21 = .ok (.lcmp, 1) := by decide +kernel
theorem dX6_sideHere_22 : decode cX6_sideHere 22 = .ok (.ifCond .ne 7, 3) := by decide +kernel
theorem dX6_sideHere_25 : decode cX6_sideHere 25 = .ok (.iconst 1, 1) := by decide +kernel
theorem dX6_sideHere_26 : decode cX6_sideHere 26 = .ok (.goto 4, 3) := by decide +kernel
theorem dX6_sideHere_29 : decode cX6_sideHere 29 = .ok (.iconst (-1), 1) := by decide +kernel
theorem dX6_sideHere_30 : decode cX6_sideHere 30 = .ok (.ireturn, 1) := by decide +kernel
theorem dX6_partItem_0 : decode cX6_partItem 0 = .ok (.aload_n 0, 1) := by decide +kernel
theorem dX6_partItem_1 : decode cX6_partItem 1 = .ok (.invokevirtual 222, 3) := by decide +kernel
theorem dX6_partItem_4 : decode cX6_partItem 4 = .ok (.lload_n 1, 1) := by decide +kernel
theorem dX6_partItem_5 : decode cX6_partItem 5 = .ok (.lcmp, 1) := by decide +kernel
theorem dX6_partItem_6 : decode cX6_partItem 6 = .ok (.ifCond .ne 41, 3) := by decide +kernel
theorem dX6_partItem_9 : decode cX6_partItem 9 = .ok (.aload_n 0, 1) := by decide +kernel
theorem dX6_partItem_10 : decode cX6_partItem 10 = .ok (.iconst 1, 1) := by decide +kernel
theorem dX6_partItem_11 : decode cX6_partItem 11 = .ok (.invokevirtual 218, 3) := by decide +kernel
theorem dX6_partItem_14 : decode cX6_partItem 14 = .ok (.aload_n 0, 1) := by decide +kernel
theorem dX6_partItem_15 : decode cX6_partItem 15 = .ok (.iconst 0, 1) := by decide +kernel
theorem dX6_partItem_16 : decode cX6_partItem 16 = .ok (.iload 4, 2) := by decide +kernel
theorem dX6_partItem_18 : decode cX6_partItem 18 = .ok (.invokevirtual 242, 3) := by decide +kernel
theorem dX6_partItem_21 : decode cX6_partItem 21 = .ok (.aload_n 0, 1) := by decide +kernel
theorem dX6_partItem_22 : decode cX6_partItem 22 = .ok (.getfield 7, 3) := by decide +kernel
theorem dX6_partItem_25 : decode cX6_partItem 25 = .ok (.iload_n 3, 1) := by decide +kernel
theorem dX6_partItem_26 : decode cX6_partItem 26 = .ok (.aload_n 0, 1) := by decide +kernel
theorem dX6_partItem_27 : decode cX6_partItem 27 = .ok (.getfield 204, 3) := by decide +kernel
theorem dX6_partItem_30 : decode cX6_partItem 30 = .ok (.ifCond .eq 12, 3) := by decide +kernel
theorem dX6_partItem_33 : decode cX6_partItem 33 = .ok (.aload_n 0, 1) := by decide +kernel
theorem dX6_partItem_34 : decode cX6_partItem 34 = .ok (.getfield 7, 3) := by decide +kernel
theorem dX6_partItem_37 : decode cX6_partItem 37 = .ok (.iload_n 3, 1) := by decide +kernel
theorem dX6_partItem_38 : decode cX6_partItem 38 = .ok (.iaload, 1) := by decide +kernel
theorem dX6_partItem_39 : decode cX6_partItem 39 = .ok (.goto 7, 3) := by decide +kernel
theorem dX6_partItem_42 : decode cX6_partItem 42 = .ok (.aload_n 0, 1) := by decide +kernel
theorem dX6_partItem_43 : decode cX6_partItem 43 = .ok (.getfield 215, 3) := by decide +kernel
theorem dX6_partItem_46 : decode cX6_partItem 46 = .ok (.iastore, 1) := by decide +kernel
theorem dX6_partItem_47 : decode cX6_partItem 47 = .ok (.return_, 1) := by decide +kernel
theorem dX6_personItem_0 : decode cX6_personItem 0 = .ok (.aload_n 0, 1) := by decide +kernel
theorem dX6_personItem_1 : decode cX6_personItem 1 = .ok (.aload_n 0, 1) := by decide +kernel
theorem dX6_personItem_2 : decode cX6_personItem 2 = .ok (.getfield 7, 3) := by decide +kernel
theorem dX6_personItem_5 : decode cX6_personItem 5 = .ok (.iconst 1, 1) := by decide +kernel
theorem dX6_personItem_6 : decode cX6_personItem 6 = .ok (.iaload, 1) := by decide +kernel
theorem dX6_personItem_7 : decode cX6_personItem 7 = .ok (.bipush 8, 2) := by decide +kernel
theorem dX6_personItem_9 : decode cX6_personItem 9 = .ok (.if_icmp .ge 7, 3) := by decide +kernel
theorem dX6_personItem_12 : decode cX6_personItem 12 = .ok (.iconst 1, 1) := by decide +kernel
theorem dX6_personItem_13 : decode cX6_personItem 13 = .ok (.goto 4, 3) := by decide +kernel
theorem dX6_personItem_16 : decode cX6_personItem 16 = .ok (.iconst 0, 1) := by decide +kernel
theorem dX6_personItem_17 : decode cX6_personItem 17 = .ok (.invokevirtual 218, 3) := by decide +kernel
theorem dX6_personItem_20 : decode cX6_personItem 20 = .ok (.aload_n 0, 1) := by decide +kernel
theorem dX6_personItem_21 : decode cX6_personItem 21 = .ok (.getfield 204, 3) := by decide +kernel
theorem dX6_personItem_24 : decode cX6_personItem 24 = .ok (.ifCond .eq 4, 3) := by decide +kernel
theorem dX6_personItem_27 : decode cX6_personItem 27 = .ok (.return_, 1) := by decide +kernel
theorem dX6_personItem_28 : decode cX6_personItem 28 = .ok (.aload_n 0, 1) := by decide +kernel
theorem dX6_personItem_29 : decode cX6_personItem 29 = .ok (.iload_n 1, 1) := by decide +kernel
theorem dX6_personItem_30 : decode cX6_personItem 30 = .ok (.invokevirtual 107, 3) := by decide +kernel
theorem dX6_personItem_33 : decode cX6_personItem 33 = .ok (.istore_n 2, 1) := by decide +kernel
theorem dX6_personItem_34 : decode cX6_personItem 34 = .ok (.aload_n 0, 1) := by decide +kernel
theorem dX6_personItem_35 : decode cX6_personItem 35 = .ok (.ldc2_w 245, 3) := by decide +kernel
theorem dX6_personItem_38 : decode cX6_personItem 38 = .ok (.iload_n 2, 1) := by decide +kernel
theorem dX6_personItem_39 : decode cX6_personItem 39 = .ok (.iconst 1, 1) := by decide +kernel
theorem dX6_personItem_40 : decode cX6_personItem 40 = .ok (.invokestatic 42, 3) := by decide +kernel
theorem dX6_personItem_43 : decode cX6_personItem 43 = .ok (.bipush 63, 2) := by decide +kernel
theorem dX6_personItem_45 : decode cX6_personItem 45 = .ok (.invokevirtual 247, 3) := by decide +kernel
theorem dX6_personItem_48 : decode cX6_personItem 48 = .ok (.aload_n 0, 1) := by decide +kernel
theorem dX6_personItem_49 : decode cX6_personItem 49 = .ok (.ldc2_w 251, 3) := by decide +kernel
theorem dX6_personItem_52 : decode cX6_personItem 52 = .ok (.iload_n 2, 1) := by decide +kernel
theorem dX6_personItem_53 : decode cX6_personItem 53 = .ok (.iconst 2, 1) := by decide +kernel
theorem dX6_personItem_54 : decode cX6_personItem 54 = .ok (.invokestatic 42, 3) := by decide +kernel
theorem dX6_personItem_57 : decode cX6_personItem 57 = .ok (.sipush 9999, 3) := by decide +kernel
theorem dX6_personItem_60 : decode cX6_personItem 60 = .ok (.invokevirtual 247, 3) := by decide +kernel
theorem dX6_personItem_63 : decode cX6_personItem 63 = .ok (.return_, 1) := by decide +kernel
theorem dX6_sideItem_0 : decode cX6_sideItem 0 = .ok (.aload_n 0, 1) := by decide +kernel
theorem dX6_sideItem_1 : decode cX6_sideItem 1 = .ok (.iconst 1, 1) := by decide +kernel
theorem dX6_sideItem_2 : decode cX6_sideItem 2 = .ok (.invokevirtual 218, 3) := by decide +kernel
theorem dX6_sideItem_5 : decode cX6_sideItem 5 = .ok (.aload_n 0, 1) := by decide +kernel
theorem dX6_sideItem_6 : decode cX6_sideItem 6 = .ok (.iconst 0, 1) := by decide +kernel
theorem dX6_sideItem_7 : decode cX6_sideItem 7 = .ok (.iconst 5, 1) := by decide +kernel
theorem dX6_sideItem_8 : decode cX6_sideItem 8 = .ok (.invokevirtual 242, 3) := by decide +kernel
theorem dX6_sideItem_11 : decode cX6_sideItem 11 = .ok (.aload_n 0, 1) := by decide +kernel
theorem dX6_sideItem_12 : decode cX6_sideItem 12 = .ok (.getfield 215, 3) := by decide +kernel
theorem dX6_sideItem_15 : decode cX6_sideItem 15 = .ok (.istore_n 2, 1) := by decide +kernel
theorem dX6_sideItem_16 : decode cX6_sideItem 16 = .ok (.aload_n 0, 1) := by decide +kernel
theorem dX6_sideItem_17 : decode cX6_sideItem 17 = .ok (.iconst 0, 1) := by decide +kernel
theorem dX6_sideItem_18 : decode cX6_sideItem 18 = .ok (.sipush 9999, 3) := by decide +kernel
theorem dX6_sideItem_21 : decode cX6_sideItem 21 = .ok (.invokevirtual 242, 3) := by decide +kernel
theorem dX6_sideItem_24 : decode cX6_sideItem 24 = .ok (.aload_n 0, 1) := by decide +kernel
theorem dX6_sideItem_25 : decode cX6_sideItem 25 = .ok (.getfield 204, 3) := by decide +kernel
theorem dX6_sideItem_28 : decode cX6_sideItem 28 = .ok (.ifCond .ne 17, 3) := by decide +kernel
theorem dX6_sideItem_31 : decode cX6_sideItem 31 = .ok (.aload_n 0, 1) := by decide +kernel
theorem dX6_sideItem_32 : decode cX6_sideItem 32 = .ok (.getfield 7, 3) := by decide +kernel
theorem dX6_sideItem_35 : decode cX6_sideItem 35 = .ok (.iload_n 2, 1) := by decide +kernel
theorem dX6_sideItem_36 : decode cX6_sideItem 36 = .ok (.iload_n 1, 1) := by decide +kernel
theorem dX6_sideItem_37 : decode cX6_sideItem 37 = .ok (.invokestatic 52, 3) := by decide +kernel
theorem dX6_sideItem_40 : decode cX6_sideItem 40 = .ok (.aload_n 0, 1) := by decide +kernel
theorem dX6_sideItem_41 : decode cX6_sideItem 41 = .ok (.getfield 215, 3) := by decide +kernel
theorem dX6_sideItem_44 : decode cX6_sideItem 44 = .ok (.iastore, 1) := by decide +kernel
theorem dX6_sideItem_45 : decode cX6_sideItem 45 = .ok (.return_, 1) := by decide +kernel
theorem dX6_bribeItem_0 : decode cX6_bribeItem 0 = .ok (.aload_n 0, 1) := by decide +kernel
theorem dX6_bribeItem_1 : decode cX6_bribeItem 1 = .ok (.iconst 1, 1) := by decide +kernel
theorem dX6_bribeItem_2 : decode cX6_bribeItem 2 = .ok (.invokevirtual 218, 3) := by decide +kernel
theorem dX6_bribeItem_5 : decode cX6_bribeItem 5 = .ok (.aload_n 0, 1) := by decide +kernel
theorem dX6_bribeItem_6 : decode cX6_bribeItem 6 = .ok (.invokevirtual 253, 3) := by decide +kernel
theorem dX6_bribeItem_9 : decode cX6_bribeItem 9 = .ok (.istore_n 1, 1) := by decide +kernel
theorem dX6_bribeItem_10 : decode cX6_bribeItem 10 = .ok (.aload_n 0, 1) := by decide +kernel
theorem dX6_bribeItem_11 : decode cX6_bribeItem 11 = .ok (.iload_n 1, 1) := by decide +kernel
theorem dX6_bribeItem_12 : decode cX6_bribeItem 12 = .ok (.ifCond .lt 7, 3) := by decide +kernel
theorem dX6_bribeItem_15 : decode cX6_bribeItem 15 = .ok (.iconst 1, 1) := by decide +kernel
theorem dX6_bribeItem_16 : decode cX6_bribeItem 16 = .ok (.goto 4, 3) := by decide +kernel
theorem dX6_bribeItem_19 : decode cX6_bribeItem 19 = .ok (.iconst 0, 1) := by decide +kernel
theorem dX6_bribeItem_20 : decode cX6_bribeItem 20 = .ok (.invokevirtual 218, 3) := by decide +kernel
theorem dX6_bribeItem_23 : decode cX6_bribeItem 23 = .ok (.aload_n 0, 1) := by decide +kernel
theorem dX6_bribeItem_24 : decode cX6_bribeItem 24 = .ok (.getfield 7, 3) := by decide +kernel
theorem dX6_bribeItem_27 : decode cX6_bribeItem 27 = .ok (.iconst 3, 1) := by decide +kernel
theorem dX6_bribeItem_28 : decode cX6_bribeItem 28 = .ok (.aload_n 0, 1) := by decide +kernel
theorem dX6_bribeItem_29 : decode cX6_bribeItem 29 = .ok (.getfield 204, 3) := by decide +kernel
theorem dX6_bribeItem_32 : decode cX6_bribeItem 32 = .ok (.ifCond .eq 12, 3) := by decide +kernel
theorem dX6_bribeItem_35 : decode cX6_bribeItem 35 = .ok (.aload_n 0, 1) := by decide +kernel
theorem dX6_bribeItem_36 : decode cX6_bribeItem 36 = .ok (.getfield 7, 3) := by decide +kernel
theorem dX6_bribeItem_39 : decode cX6_bribeItem 39 = .ok (.iconst 3, 1) := by decide +kernel
theorem dX6_bribeItem_40 : decode cX6_bribeItem 40 = .ok (.iaload, 1) := by decide +kernel
theorem dX6_bribeItem_41 : decode cX6_bribeItem 41 = .ok (.goto 4, 3) := by decide +kernel
theorem dX6_bribeItem_44 : decode cX6_bribeItem 44 = .ok (.iload_n 1, 1) := by decide +kernel
theorem dX6_bribeItem_45 : decode cX6_bribeItem 45 = .ok (.iastore, 1) := by decide +kernel
theorem dX6_bribeItem_46 : decode cX6_bribeItem 46 = .ok (.return_, 1) := by decide +kernel
theorem dX6_awayItem_0 : decode cX6_awayItem 0 = .ok (.aload_n 0, 1) := by decide +kernel
theorem dX6_awayItem_1 : decode cX6_awayItem 1 = .ok (.iconst 1, 1) := by decide +kernel
theorem dX6_awayItem_2 : decode cX6_awayItem 2 = .ok (.invokevirtual 218, 3) := by decide +kernel
theorem dX6_awayItem_5 : decode cX6_awayItem 5 = .ok (.aload_n 0, 1) := by decide +kernel
theorem dX6_awayItem_6 : decode cX6_awayItem 6 = .ok (.iconst 0, 1) := by decide +kernel
theorem dX6_awayItem_7 : decode cX6_awayItem 7 = .ok (.aload_n 0, 1) := by decide +kernel
theorem dX6_awayItem_8 : decode cX6_awayItem 8 = .ok (.getfield 7, 3) := by decide +kernel
theorem dX6_awayItem_11 : decode cX6_awayItem 11 = .ok (.iconst 1, 1) := by decide +kernel
theorem dX6_awayItem_12 : decode cX6_awayItem 12 = .ok (.iaload, 1) := by decide +kernel
theorem dX6_awayItem_13 : decode cX6_awayItem 13 = .ok (.iconst 1, 1) := by decide +kernel
theorem dX6_awayItem_14 : decode cX6_awayItem 14 = .ok (.isub, 1) := by decide +kernel
theorem dX6_awayItem_15 : decode cX6_awayItem 15 = .ok (.invokevirtual 242, 3) := by decide +kernel
theorem dX6_awayItem_18 : decode cX6_awayItem 18 = .ok (.aload_n 0, 1) := by decide +kernel
theorem dX6_awayItem_19 : decode cX6_awayItem 19 = .ok (.getfield 204, 3) := by decide +kernel
theorem dX6_awayItem_22 : decode cX6_awayItem 22 = .ok (.ifCond .ne 17, 3) := by decide +kernel
theorem dX6_awayItem_25 : decode cX6_awayItem 25 = .ok (.aload_n 0, 1) := by decide +kernel
theorem dX6_awayItem_26 : decode cX6_awayItem 26 = .ok (.getfield 7, 3) := by decide +kernel
theorem dX6_awayItem_29 : decode cX6_awayItem 29 = .ok (.aload_n 0, 1) := by decide +kernel
theorem dX6_awayItem_30 : decode cX6_awayItem 30 = .ok (.getfield 215, 3) := by decide +kernel
theorem dX6_awayItem_33 : decode cX6_awayItem 33 = .ok (.iconst 3, 1) := by decide +kernel
theorem dX6_awayItem_34 : decode cX6_awayItem 34 = .ok (.invokestatic 42, 3) := by decide +kernel
theorem dX6_awayItem_37 : decode cX6_awayItem 37 = .ok (.iconst 1, 1) := by decide +kernel
theorem dX6_awayItem_38 : decode cX6_awayItem 38 = .ok (.iastore, 1) := by decide +kernel
theorem dX6_awayItem_39 : decode cX6_awayItem 39 = .ok (.return_, 1) := by decide +kernel
theorem dX6_item_0 : decode cX6_item 0 = .ok (.aload_n 0, 1) := by decide +kernel
theorem dX6_item_1 : decode cX6_item 1 = .ok (.invokevirtual 256, 3) := by decide +kernel
theorem dX6_item_4 : decode cX6_item 4 = .ok (.istore_n 1, 1) := by decide +kernel
theorem dX6_item_5 : decode cX6_item 5 = .ok (.aload_n 0, 1) := by decide +kernel
theorem dX6_item_6 : decode cX6_item 6 = .ok (.invokevirtual 253, 3) := by decide +kernel
theorem dX6_item_9 : decode cX6_item 9 = .ok (.istore_n 2, 1) := by decide +kernel
theorem dX6_item_10 : decode cX6_item 10 = .ok (.aload_n 0, 1) := by decide +kernel
theorem dX6_item_11 : decode cX6_item 11 = .ok (.invokevirtual 222, 3) := by decide +kernel
theorem dX6_item_14 : decode cX6_item 14 = .ok (.lstore_n 3, 1) := by decide +kernel
theorem dX6_item_15 : decode cX6_item 15 = .ok (.iload_n 1, 1) := by decide +kernel
theorem dX6_item_16 : decode cX6_item 16 = .ok (.ifCond .lt 11, 3) := by decide +kernel
theorem dX6_item_19 : decode cX6_item 19 = .ok (.aload_n 0, 1) := by decide +kernel
theorem dX6_item_20 : decode cX6_item 20 = .ok (.iload_n 1, 1) := by decide +kernel
theorem dX6_item_21 : decode cX6_item 21 = .ok (.invokevirtual 259, 3) := by decide +kernel
theorem dX6_item_24 : decode cX6_item 24 = .ok (.goto 50, 3) := by decide +kernel
theorem dX6_item_27 : decode cX6_item 27 = .ok (.iload_n 2, 1) := by decide +kernel
theorem dX6_item_28 : decode cX6_item 28 = .ok (.ifCond .lt 11, 3) := by decide +kernel
theorem dX6_item_31 : decode cX6_item 31 = .ok (.aload_n 0, 1) := by decide +kernel
theorem dX6_item_32 : decode cX6_item 32 = .ok (.iload_n 2, 1) := by decide +kernel
theorem dX6_item_33 : decode cX6_item 33 = .ok (.invokevirtual 262, 3) := by decide +kernel
theorem dX6_item_36 : decode cX6_item 36 = .ok (.goto 38, 3) := by decide +kernel
theorem dX6_item_39 : decode cX6_item 39 = .ok (.lload_n 3, 1) := by decide +kernel
theorem dX6_item_40 : decode cX6_item 40 = .ok (.ldc2_w 265, 3) := by decide +kernel
theorem dX6_item_43 : decode cX6_item 43 = .ok (.lcmp, 1) := by decide +kernel
theorem dX6_item_44 : decode cX6_item 44 = .ok (.ifCond .ne 10, 3) := by decide +kernel
theorem dX6_item_47 : decode cX6_item 47 = .ok (.aload_n 0, 1) := by decide +kernel
theorem dX6_item_48 : decode cX6_item 48 = .ok (.invokevirtual 267, 3) := by decide +kernel
theorem dX6_item_51 : decode cX6_item 51 = .ok (.goto 23, 3) := by decide +kernel
theorem dX6_item_54 : decode cX6_item 54 = .ok (.lload_n 3, 1) := by decide +kernel
theorem dX6_item_55 : decode cX6_item 55 = .ok (.ldc2_w 270, 3) := by decide +kernel
theorem dX6_item_58 : decode cX6_item 58 = .ok (.lcmp, 1) := by decide +kernel
theorem dX6_item_59 : decode cX6_item 59 = .ok (.ifCond .ne 10, 3) := by decide +kernel
theorem dX6_item_62 : decode cX6_item 62 = .ok (.aload_n 0, 1) := by decide +kernel
theorem dX6_item_63 : decode cX6_item 63 = .ok (.invokevirtual 272, 3) := by decide +kernel
theorem dX6_item_66 : decode cX6_item 66 = .ok (.goto 8, 3) := by decide +kernel
theorem dX6_item_69 : decode cX6_item 69 = .ok (.aload_n 0, 1) := by decide +kernel
theorem dX6_item_70 : decode cX6_item 70 = .ok (.iconst 0, 1) := by decide +kernel
theorem dX6_item_71 : decode cX6_item 71 = .ok (.invokevirtual 218, 3) := by decide +kernel
theorem dX6_item_74 : decode cX6_item 74 = .ok (.return_, 1) := by decide +kernel
theorem dX6_town_0 : decode cX6_town 0 = .ok (.aload_n 0, 1) := by decide +kernel
theorem dX6_town_1 : decode cX6_town 1 = .ok (.invokevirtual 275, 3) := by decide +kernel
theorem dX6_town_4 : decode cX6_town 4 = .ok (.aload_n 0, 1) := by decide +kernel
theorem dX6_town_5 : decode cX6_town 5 = .ok (.iconst 0, 1) := by decide +kernel
theorem dX6_town_6 : decode cX6_town 6 = .ok (.putfield 204, 3) := by decide +kernel
theorem dX6_town_9 : decode cX6_town 9 = .ok (.aload_n 0, 1) := by decide +kernel
theorem dX6_town_10 : decode cX6_town 10 = .ok (.iconst 0, 1) := by decide +kernel
theorem dX6_town_11 : decode cX6_town 11 = .ok (.putfield 189, 3) := by decide +kernel
theorem dX6_town_14 : decode cX6_town 14 = .ok (.aload_n 0, 1) := by decide +kernel
theorem dX6_town_15 : decode cX6_town 15 = .ok (.invokevirtual 208, 3) := by decide +kernel
theorem dX6_town_18 : decode cX6_town 18 = .ok (.iconst 1, 1) := by decide +kernel
theorem dX6_town_19 : decode cX6_town 19 = .ok (.istore_n 1, 1) := by decide +kernel
theorem dX6_town_20 : decode cX6_town 20 = .ok (.aload_n 0, 1) := by decide +kernel
theorem dX6_town_21 : decode cX6_town 21 = .ok (.invokevirtual 278, 3) := by decide +kernel
theorem dX6_town_24 : decode cX6_town 24 = .ok (.aload_n 0, 1) := by decide +kernel
theorem dX6_town_25 : decode cX6_town 25 = .ok (.getfield 204, 3) := by decide +kernel
theorem dX6_town_28 : decode cX6_town 28 = .ok (.ifCond .ne 31, 3) := by decide +kernel
theorem dX6_town_31 : decode cX6_town 31 = .ok (.aload_n 0, 1) := by decide +kernel
theorem dX6_town_32 : decode cX6_town 32 = .ok (.aload_n 0, 1) := by decide +kernel
theorem dX6_town_33 : decode cX6_town 33 = .ok (.getfield 192, 3) := by decide +kernel
theorem dX6_town_36 : decode cX6_town 36 = .ok (.invokevirtual 195, 3) := by decide +kernel
theorem dX6_town_39 : decode cX6_town 39 = .ok (.bipush 59, 2) := by decide +kernel
theorem dX6_town_41 : decode cX6_town 41 = .ok (.if_icmp .ne 18, 3) := by decide +kernel
theorem dX6_town_44 : decode cX6_town 44 = .ok (.aload_n 0, 1) := by decide +kernel
theorem dX6_town_45 : decode cX6_town 45 = .ok (.iconst 1, 1) := by decide +kernel
theorem dX6_town_46 : decode cX6_town 46 = .ok (.invokevirtual 218, 3) := by decide +kernel
theorem dX6_town_49 : decode cX6_town 49 = .ok (.aload_n 0, 1) := by decide +kernel
theorem dX6_town_50 : decode cX6_town 50 = .ok (.invokevirtual 278, 3) := by decide +kernel
theorem dX6_town_53 : decode cX6_town 53 = .ok (.iinc 1 1, 3) := by decide +kernel
theorem dX6_town_56 : decode cX6_town 56 = .ok (.goto (-32), 3) := by decide +kernel
theorem dX6_town_59 : decode cX6_town 59 = .ok (.aload_n 0, 1) := by decide +kernel
theorem dX6_town_60 : decode cX6_town 60 = .ok (.aload_n 0, 1) := by decide +kernel
theorem dX6_town_61 : decode cX6_town 61 = .ok (.getfield 204, 3) := by decide +kernel
theorem dX6_town_64 : decode cX6_town 64 = .ok (.ifCond .ne 14, 3) := by decide +kernel
theorem dX6_town_67 : decode cX6_town 67 = .ok (.aload_n 0, 1) := by decide +kernel
theorem dX6_town_68 : decode cX6_town 68 = .ok (.getfield 192, 3) := by decide +kernel
theorem dX6_town_71 : decode cX6_town 71 = .ok (.aload_n 0, 1) := by decide +kernel
theorem dX6_town_72 : decode cX6_town 72 = .ok (.getfield 177, 3) := by decide +kernel
theorem dX6_town_75 : decode cX6_town 75 = .ok (.if_icmp .ge 7, 3) := by decide +kernel
theorem dX6_town_78 : decode cX6_town 78 = .ok (.iconst 1, 1) := by decide +kernel
theorem dX6_town_79 : decode cX6_town 79 = .ok (.goto 4, 3) := by decide +kernel
theorem dX6_town_82 : decode cX6_town 82 = .ok (.iconst 0, 1) := by decide +kernel
theorem dX6_town_83 : decode cX6_town 83 = .ok (.putfield 204, 3) := by decide +kernel
theorem dX6_town_86 : decode cX6_town 86 = .ok (.aload_n 0, 1) := by decide +kernel
theorem dX6_town_87 : decode cX6_town 87 = .ok (.getfield 204, 3) := by decide +kernel
theorem dX6_town_90 : decode cX6_town 90 = .ok (.ifCond .eq 7, 3) := by decide +kernel
theorem dX6_town_93 : decode cX6_town 93 = .ok (.aload_n 0, 1) := by decide +kernel
theorem dX6_town_94 : decode cX6_town 94 = .ok (.invokevirtual 281, 3) := by decide +kernel
theorem dX6_town_97 : decode cX6_town 97 = .ok (.aload_n 0, 1) := by decide +kernel
theorem dX6_town_98 : decode cX6_town 98 = .ok (.iconst 0, 1) := by decide +kernel
theorem dX6_town_99 : decode cX6_town 99 = .ok (.putfield 177, 3) := by decide +kernel
theorem dX6_town_102 : decode cX6_town 102 = .ok (.aload_n 0, 1) := by decide +kernel
theorem dX6_town_103 : decode cX6_town 103 = .ok (.getfield 204, 3) := by decide +kernel
theorem dX6_town_106 : decode cX6_town 106 = .ok (.ifCond .eq 12, 3) := by decide +kernel
theorem dX6_town_109 : decode cX6_town 109 = .ok (.iconst (-1), 1) := by decide +kernel
theorem dX6_town_110 : decode cX6_town 110 = .ok (.aload_n 0, 1) := by decide +kernel
theorem dX6_town_111 : decode cX6_town 111 = .ok (.getfield 192, 3) := by decide +kernel
theorem dX6_town_114 : decode cX6_town 114 = .ok (.isub, 1) := by decide +kernel
theorem dX6_town_115 : decode cX6_town 115 = .ok (.goto 4, 3) := by decide +kernel
theorem dX6_town_118 : decode cX6_town 118 = .ok (.iload_n 1, 1) := by decide +kernel
theorem dX6_town_119 : decode cX6_town 119 = .ok (.ireturn, 1) := by decide +kernel
theorem dX6_isOne_0 : decode cX6_isOne 0 = .ok (.iload_n 0, 1) := by decide +kernel
theorem dX6_isOne_1 : decode cX6_isOne 1 = .ok (.i2l, 1) := by decide +kernel
theorem dX6_isOne_2 : decode cX6_isOne 2 = .ok (.lconst 0, 1) := by decide +kernel
theorem dX6_isOne_3 : decode cX6_isOne 3 = .ok (.ldc2_w 122, 3) := by decide +kernel
theorem dX6_isOne_6 : decode cX6_isOne 6 = .ok (.invokestatic 46, 3) := by decide +kernel
theorem dX6_isOne_9 : decode cX6_isOne 9 = .ok (.ireturn, 1) := by decide +kernel
theorem dX6_sheet_0 : decode cX6_sheet 0 = .ok (.iload_n 1, 1) := by decide +kernel
theorem dX6_sheet_1 : decode cX6_sheet 1 = .ok (.invokestatic 284, 3) := by decide +kernel
theorem dX6_sheet_4 : decode cX6_sheet 4 = .ok (.ifCond .eq 25, 3) := by decide +kernel
theorem dX6_sheet_7 : decode cX6_sheet 7 = .ok (.iload_n 2, 1) := by decide +kernel
theorem dX6_sheet_8 : decode cX6_sheet 8 = .ok (.ifCond .eq 28, 3) := by decide +kernel
theorem dX6_sheet_11 : decode cX6_sheet 11 = .ok (.iload_n 2, 1) := by decide +kernel
theorem dX6_sheet_12 : decode cX6_sheet 12 = .ok (.bipush 8, 2) := by decide +kernel
theorem dX6_sheet_14 : decode cX6_sheet 14 = .ok (.if_icmp .eq 22, 3) := by decide +kernel
theorem dX6_sheet_17 : decode cX6_sheet 17 = .ok (.iload_n 2, 1) := by decide +kernel
theorem dX6_sheet_18 : decode cX6_sheet 18 = .ok (.bipush 16, 2) := by decide +kernel
theorem dX6_sheet_20 : decode cX6_sheet 20 = .ok (.if_icmp .eq 16, 3) := by decide +kernel
theorem dX6_sheet_23 : decode cX6_sheet 23 = .ok (.iload_n 2, 1) := by decide +kernel
theorem dX6_sheet_24 : decode cX6_sheet 24 = .ok (.bipush 64, 2) := by decide +kernel
theorem dX6_sheet_26 : decode cX6_sheet 26 = .ok (.if_icmp .eq 10, 3) := by decide +kernel
theorem dX6_sheet_29 : decode cX6_sheet 29 = .ok (.aload_n 0, 1) := by decide +kernel
theorem dX6_sheet_30 : decode cX6_sheet 30 = .ok (.ldc 41, 2) := by decide +kernel
theorem dX6_sheet_32 : decode cX6_sheet 32 = .ok (.invokevirtual 67, 3) := by decide +kernel
theorem dX6_sheet_35 : decode cX6_sheet 35 = .ok (.ireturn, 1) := by decide +kernel
theorem dX6_sheet_36 : decode cX6_sheet 36 = .ok (.iload_n 3, 1) := by decide +kernel
theorem dX6_sheet_37 : decode cX6_sheet 37 = .ok (.ifCond .ge 11, 3) := by decide +kernel
theorem dX6_sheet_40 : decode cX6_sheet 40 = .ok (.aload_n 0, 1) := by decide +kernel
theorem dX6_sheet_41 : decode cX6_sheet 41 = .ok (.ldc_w 287, 3) := by decide +kernel
theorem dX6_sheet_44 : decode cX6_sheet 44 = .ok (.invokevirtual 67, 3) := by decide +kernel
theorem dX6_sheet_47 : decode cX6_sheet 47 = .ok (.ireturn, 1) := by decide +kernel
theorem dX6_sheet_48 : decode cX6_sheet 48 = .ok (.iload_n 3, 1) := by decide +kernel
theorem dX6_sheet_49 : decode cX6_sheet 49 = .ok (.bipush 40, 2) := by decide +kernel
theorem dX6_sheet_51 : decode cX6_sheet 51 = .ok (.if_icmp .le 10, 3) := by decide +kernel
theorem dX6_sheet_54 : decode cX6_sheet 54 = .ok (.aload_n 0, 1) := by decide +kernel
theorem dX6_sheet_55 : decode cX6_sheet 55 = .ok (.ldc 41, 2) := by decide +kernel
theorem dX6_sheet_57 : decode cX6_sheet 57 = .ok (.invokevirtual 67, 3) := by decide +kernel
theorem dX6_sheet_60 : decode cX6_sheet 60 = .ok (.ireturn, 1) := by decide +kernel
theorem dX6_sheet_61 : decode cX6_sheet 61 = .ok (.aload_n 0, 1) := by decide +kernel
theorem dX6_sheet_62 : decode cX6_sheet 62 = .ok (.getfield 28, 3) := by decide +kernel
theorem dX6_sheet_65 : decode cX6_sheet 65 = .ok (.iload_n 1, 1) := by decide +kernel
theorem dX6_sheet_66 : decode cX6_sheet 66 = .ok (.iload_n 2, 1) := by decide +kernel
theorem dX6_sheet_67 : decode cX6_sheet 67 = .ok (.iastore, 1) := by decide +kernel
theorem dX6_sheet_68 : decode cX6_sheet 68 = .ok (.aload_n 0, 1) := by decide +kernel
theorem dX6_sheet_69 : decode cX6_sheet 69 = .ok (.getfield 31, 3) := by decide +kernel
theorem dX6_sheet_72 : decode cX6_sheet 72 = .ok (.iload_n 1, 1) := by decide +kernel
theorem dX6_sheet_73 : decode cX6_sheet 73 = .ok (.iload_n 2, 1) := by decide +kernel
theorem dX6_sheet_74 : decode cX6_sheet 74 = .ok (.ifCond .ne 7, 3) := by decide +kernel
theorem dX6_sheet_77 : decode cX6_sheet 77 = .ok (.iconst 0, 1) := by decide +kernel
theorem dX6_sheet_78 : decode cX6_sheet 78 = .ok (.goto 4, 3) := by decide +kernel
theorem dX6_sheet_81 : decode cX6_sheet 81 = .ok (.iload_n 3, 1) := by decide +kernel
theorem dX6_sheet_82 : decode cX6_sheet 82 = .ok (.iastore, 1) := by decide +kernel
theorem dX6_sheet_83 : decode cX6_sheet 83 = .ok (.iconst 0, 1) := by decide +kernel
theorem dX6_sheet_84 : decode cX6_sheet 84 = .ok (.istore 4, 2) := by decide +kernel
theorem dX6_sheet_86 : decode cX6_sheet 86 = .ok (.iload 4, 2) := by decide +kernel
theorem dX6_sheet_88 : decode cX6_sheet 88 = .ok (.bipush 40, 2) := by decide +kernel
theorem dX6_sheet_90 : decode cX6_sheet 90 = .ok (.if_icmp .ge 22, 3) := by decide +kernel
theorem dX6_sheet_93 : decode cX6_sheet 93 = .ok (.aload_n 0, 1) := by decide +kernel
theorem dX6_sheet_94 : decode cX6_sheet 94 = .ok (.getfield 34, 3) := by decide +kernel
theorem dX6_sheet_97 : decode cX6_sheet 97 = .ok (.bipush 40, 2) := by decide +kernel
theorem dX6_sheet_99 : decode cX6_sheet 99 = .ok (.iload_n 1, 1) := by decide +kernel
theorem dX6_sheet_100 : decode cX6_sheet 100 = .ok (.imul, 1) := by decide +kernel
theorem dX6_sheet_101 : decode cX6_sheet 101 = .ok (.iload 4, 2) := by decide +kernel
theorem dX6_sheet_103 : decode cX6_sheet 103 = .ok (.iadd, 1) := by decide +kernel
theorem dX6_sheet_104 : decode cX6_sheet 104 = .ok (.lconst 0, 1) := by decide +kernel
theorem dX6_sheet_105 : decode cX6_sheet 105 = .ok (.lastore, 1) := by decide +kernel
theorem dX6_sheet_106 : decode cX6_sheet 106 = .ok (.iinc 4 1, 3) := by decide +kernel
theorem dX6_sheet_109 : decode cX6_sheet 109 = .ok (.goto (-23), 3) := by decide +kernel
theorem dX6_sheet_112 : decode cX6_sheet 112 = .ok (.aload_n 0, 1) := by decide +kernel
theorem dX6_sheet_113 : decode cX6_sheet 113 = .ok (.getfield 31, 3) := by decide +kernel
theorem dX6_sheet_116 : decode cX6_sheet 116 = .ok (.iload_n 1, 1) := by decide +kernel
theorem dX6_sheet_117 : decode cX6_sheet 117 = .ok (.iaload, 1) := by decide +kernel
theorem dX6_sheet_118 : decode cX6_sheet 118 = .ok (.ireturn, 1) := by decide +kernel
theorem dX6_narrowed_0 : decode cX6_narrowed 0 = .ok (.iload_n 0, 1) := by decide +kernel
theorem dX6_narrowed_1 : decode cX6_narrowed 1 = .ok (.bipush 8, 2) := by decide +kernel
theorem dX6_narrowed_3 : decode cX6_narrowed 3 = .ok (.if_icmp .ne 10, 3) := by decide +kernel
theorem dX6_narrowed_6 : decode cX6_narrowed 6 = .ok (.lload_n 1, 1) := by decide +kernel
theorem dX6_narrowed_7 : decode cX6_narrowed 7 = .ok (.l2i, 1) := by decide +kernel
theorem dX6_narrowed_8 : decode cX6_narrowed 8 = .ok (.i2b, 1) := by decide +kernel
theorem dX6_narrowed_9 : decode cX6_narrowed 9 = .ok (.i2l, 1) := by decide +kernel
theorem dX6_narrowed_10 : decode cX6_narrowed 10 = .ok (.goto 17, 3) := by decide +kernel
theorem dX6_narrowed_13 : decode cX6_narrowed 13 = .ok (.iload_n 0, 1) := by decide +kernel
theorem dX6_narrowed_14 : decode cX6_narrowed 14 = .ok (.bipush 16, 2) := by decide +kernel
theorem dX6_narrowed_16 : decode cX6_narrowed 16 = .ok (.if_icmp .ne 10, 3) := by decide +kernel
theorem dX6_narrowed_19 : decode cX6_narrowed 19 = .ok (.lload_n 1, 1) := by decide +kernel
theorem dX6_narrowed_20 : decode cX6_narrowed 20 = .ok (.l2i, 1) := by decide +kernel
theorem dX6_narrowed_21 : decode cX6_narrowed 21 = .ok (.i2s, 1) := by decide +kernel
theorem dX6_narrowed_22 : decode cX6_narrowed 22 = .ok (.i2l, 1) := by decide +kernel
theorem dX6_narrowed_23 : decode cX6_narrowed 23 = .ok (.goto 4, 3) := by decide +kernel
theorem dX6_narrowed_26 : decode cX6_narrowed 26 = .ok (.lload_n 1, 1) := by decide +kernel
theorem dX6_narrowed_27 : decode cX6_narrowed 27 = .ok (.lreturn, 1) := by decide +kernel
theorem dX6_wrongSheet_0 : decode cX6_wrongSheet 0 = .ok (.iload_n 1, 1) := by decide +kernel
theorem dX6_wrongSheet_1 : decode cX6_wrongSheet 1 = .ok (.invokestatic 284, 3) := by decide +kernel
theorem dX6_wrongSheet_4 : decode cX6_wrongSheet 4 = .ok (.ifCond .ne 8, 3) := by decide +kernel
theorem dX6_wrongSheet_7 : decode cX6_wrongSheet 7 = .ok (.ldc 41, 2) := by decide +kernel
theorem dX6_wrongSheet_9 : decode cX6_wrongSheet 9 = .ok (.goto 19, 3) := by decide +kernel
theorem dX6_wrongSheet_12 : decode cX6_wrongSheet 12 = .ok (.aload_n 0, 1) := by decide +kernel
theorem dX6_wrongSheet_13 : decode cX6_wrongSheet 13 = .ok (.getfield 28, 3) := by decide +kernel
theorem dX6_wrongSheet_16 : decode cX6_wrongSheet 16 = .ok (.iload_n 1, 1) := by decide +kernel
theorem dX6_wrongSheet_17 : decode cX6_wrongSheet 17 = .ok (.iaload, 1) := by decide +kernel
theorem dX6_wrongSheet_18 : decode cX6_wrongSheet 18 = .ok (.ifCond .ne 9, 3) := by decide +kernel
theorem dX6_wrongSheet_21 : decode cX6_wrongSheet 21 = .ok (.ldc_w 288, 3) := by decide +kernel
theorem dX6_wrongSheet_24 : decode cX6_wrongSheet 24 = .ok (.goto 4, 3) := by decide +kernel
theorem dX6_wrongSheet_27 : decode cX6_wrongSheet 27 = .ok (.iconst 0, 1) := by decide +kernel
theorem dX6_wrongSheet_28 : decode cX6_wrongSheet 28 = .ok (.ireturn, 1) := by decide +kernel
theorem dX6_write_0 : decode cX6_write 0 = .ok (.aload_n 0, 1) := by decide +kernel
theorem dX6_write_1 : decode cX6_write 1 = .ok (.iload_n 1, 1) := by decide +kernel
theorem dX6_write_2 : decode cX6_write 2 = .ok (.invokevirtual 289, 3) := by decide +kernel
theorem dX6_write_5 : decode cX6_write 5 = .ok (.istore 5, 2) := by decide +kernel
theorem dX6_write_7 : decode cX6_write 7 = .ok (.iload 5, 2) := by decide +kernel
theorem dX6_write_9 : decode cX6_write 9 = .ok (.ifCond .eq 11, 3) := by decide +kernel
theorem dX6_write_12 : decode cX6_write 12 = .ok (.aload_n 0, 1) := by decide +kernel
theorem dX6_write_13 : decode cX6_write 13 = .ok (.iload 5, 2) := by decide +kernel
theorem dX6_write_15 : decode cX6_write 15 = .ok (.invokevirtual 67, 3) := by decide +kernel
theorem dX6_write_18 : decode cX6_write 18 = .ok (.i2l, 1) := by decide +kernel
theorem dX6_write_19 : decode cX6_write 19 = .ok (.lreturn, 1) := by decide +kernel
theorem dX6_write_20 : decode cX6_write 20 = .ok (.iload_n 2, 1) := by decide +kernel
theorem dX6_write_21 : decode cX6_write 21 = .ok (.i2l, 1) := by decide +kernel
theorem dX6_write_22 : decode cX6_write 22 = .ok (.lconst 0, 1) := by decide +kernel
theorem dX6_write_23 : decode cX6_write 23 = .ok (.aload_n 0, 1) := by decide +kernel
theorem dX6_write_24 : decode cX6_write 24 = .ok (.getfield 31, 3) := by decide +kernel
theorem dX6_write_27 : decode cX6_write 27 = .ok (.iload_n 1, 1) := by decide +kernel
theorem dX6_write_28 : decode cX6_write 28 = .ok (.iaload, 1) := by decide +kernel
theorem dX6_write_29 : decode cX6_write 29 = .ok (.iconst 1, 1) := by decide +kernel
theorem dX6_write_30 : decode cX6_write 30 = .ok (.isub, 1) := by decide +kernel
theorem dX6_write_31 : decode cX6_write 31 = .ok (.i2l, 1) := by decide +kernel
theorem dX6_write_32 : decode cX6_write 32 = .ok (.invokestatic 46, 3) := by decide +kernel
theorem dX6_write_35 : decode cX6_write 35 = .ok (.ifCond .ne 11, 3) := by decide +kernel
theorem dX6_write_38 : decode cX6_write 38 = .ok (.aload_n 0, 1) := by decide +kernel
theorem dX6_write_39 : decode cX6_write 39 = .ok (.ldc 41, 2) := by decide +kernel
theorem dX6_write_41 : decode cX6_write 41 = .ok (.invokevirtual 67, 3) := by decide +kernel
theorem dX6_write_44 : decode cX6_write 44 = .ok (.i2l, 1) := by decide +kernel
theorem dX6_write_45 : decode cX6_write 45 = .ok (.lreturn, 1) := by decide +kernel
theorem dX6_write_46 : decode cX6_write 46 = .ok (.aload_n 0, 1) := by decide +kernel
theorem dX6_write_47 : decode cX6_write 47 = .ok (.getfield 34, 3) := by decide +kernel
theorem dX6_write_50 : decode cX6_write 50 = .ok (.bipush 40, 2) := by decide +kernel
theorem dX6_write_52 : decode cX6_write 52 = .ok (.iload_n 1, 1) := by decide +kernel
theorem dX6_write_53 : decode cX6_write 53 = .ok (.imul, 1) := by decide +kernel
theorem dX6_write_54 : decode cX6_write 54 = .ok (.iload_n 2, 1) := by decide +kernel
theorem dX6_write_55 : decode cX6_write 55 = .ok (.iadd, 1) := by decide +kernel
theorem dX6_write_56 : decode cX6_write 56 = .ok (.laload, 1) := by decide +kernel
theorem dX6_write_57 : decode cX6_write 57 = .ok (.lstore 6, 2) := by decide +kernel
theorem dX6_write_59 : decode cX6_write 59 = .ok (.aload_n 0, 1) := by decide +kernel
theorem dX6_write_60 : decode cX6_write 60 = .ok (.getfield 34, 3) := by decide +kernel
theorem dX6_write_63 : decode cX6_write 63 = .ok (.bipush 40, 2) := by decide +kernel
theorem dX6_write_65 : decode cX6_write 65 = .ok (.iload_n 1, 1) := by decide +kernel
theorem dX6_write_66 : decode cX6_write 66 = .ok (.imul, 1) := by decide +kernel
theorem dX6_write_67 : decode cX6_write 67 = .ok (.iload_n 2, 1) := by decide +kernel
theorem dX6_write_68 : decode cX6_write 68 = .ok (.iadd, 1) := by decide +kernel
theorem dX6_write_69 : decode cX6_write 69 = .ok (.aload_n 0, 1) := by decide +kernel
theorem dX6_write_70 : decode cX6_write 70 = .ok (.getfield 28, 3) := by decide +kernel
theorem dX6_write_73 : decode cX6_write 73 = .ok (.iload_n 1, 1) := by decide +kernel
theorem dX6_write_74 : decode cX6_write 74 = .ok (.iaload, 1) := by decide +kernel
theorem dX6_write_75 : decode cX6_write 75 = .ok (.lload_n 3, 1) := by decide +kernel
theorem dX6_write_76 : decode cX6_write 76 = .ok (.invokestatic 292, 3) := by decide +kernel
theorem dX6_write_79 : decode cX6_write 79 = .ok (.lastore, 1) := by decide +kernel
theorem dX6_write_80 : decode cX6_write 80 = .ok (.lload 6, 2) := by decide +kernel
theorem dX6_write_82 : decode cX6_write 82 = .ok (.lreturn, 1) := by decide +kernel
theorem dX6_copy_0 : decode cX6_copy 0 = .ok (.iload_n 1, 1) := by decide +kernel
theorem dX6_copy_1 : decode cX6_copy 1 = .ok (.invokestatic 284, 3) := by decide +kernel
theorem dX6_copy_4 : decode cX6_copy 4 = .ok (.ifCond .eq 10, 3) := by decide +kernel
theorem dX6_copy_7 : decode cX6_copy 7 = .ok (.iload_n 3, 1) := by decide +kernel
theorem dX6_copy_8 : decode cX6_copy 8 = .ok (.invokestatic 284, 3) := by decide +kernel
theorem dX6_copy_11 : decode cX6_copy 11 = .ok (.ifCond .ne 10, 3) := by decide +kernel
theorem dX6_copy_14 : decode cX6_copy 14 = .ok (.aload_n 0, 1) := by decide +kernel
theorem dX6_copy_15 : decode cX6_copy 15 = .ok (.ldc 41, 2) := by decide +kernel
theorem dX6_copy_17 : decode cX6_copy 17 = .ok (.invokevirtual 67, 3) := by decide +kernel
theorem dX6_copy_20 : decode cX6_copy 20 = .ok (.ireturn, 1) := by decide +kernel
theorem dX6_copy_21 : decode cX6_copy 21 = .ok (.aload_n 0, 1) := by decide +kernel
theorem dX6_copy_22 : decode cX6_copy 22 = .ok (.getfield 28, 3) := by decide +kernel
theorem dX6_copy_25 : decode cX6_copy 25 = .ok (.iload_n 1, 1) := by decide +kernel
theorem dX6_copy_26 : decode cX6_copy 26 = .ok (.iaload, 1) := by decide +kernel
theorem dX6_copy_27 : decode cX6_copy 27 = .ok (.ifCond .eq 12, 3) := by decide +kernel
theorem dX6_copy_30 : decode cX6_copy 30 = .ok (.aload_n 0, 1) := by decide +kernel
theorem dX6_copy_31 : decode cX6_copy 31 = .ok (.getfield 28, 3) := by decide +kernel
theorem dX6_copy_34 : decode cX6_copy 34 = .ok (.iload_n 3, 1) := by decide +kernel
theorem dX6_copy_35 : decode cX6_copy 35 = .ok (.iaload, 1) := by decide +kernel
theorem dX6_copy_36 : decode cX6_copy 36 = .ok (.ifCond .ne 11, 3) := by decide +kernel
theorem dX6_copy_39 : decode cX6_copy 39 = .ok (.aload_n 0, 1) := by decide +kernel
theorem dX6_copy_40 : decode cX6_copy 40 = .ok (.ldc_w 288, 3) := by decide +kernel
theorem dX6_copy_43 : decode cX6_copy 43 = .ok (.invokevirtual 67, 3) := by decide +kernel
theorem dX6_copy_46 : decode cX6_copy 46 = .ok (.ireturn, 1) := by decide +kernel
theorem dX6_copy_47 : decode cX6_copy 47 = .ok (.aload_n 0, 1) := by decide +kernel
theorem dX6_copy_48 : decode cX6_copy 48 = .ok (.getfield 28, 3) := by decide +kernel
theorem dX6_copy_51 : decode cX6_copy 51 = .ok (.iload_n 1, 1) := by decide +kernel
theorem dX6_copy_52 : decode cX6_copy 52 = .ok (.iaload, 1) := by decide +kernel
theorem dX6_copy_53 : decode cX6_copy 53 = .ok (.aload_n 0, 1) := by decide +kernel
theorem dX6_copy_54 : decode cX6_copy 54 = .ok (.getfield 28, 3) := by decide +kernel
theorem dX6_copy_57 : decode cX6_copy 57 = .ok (.iload_n 3, 1) := by decide +kernel
theorem dX6_copy_58 : decode cX6_copy 58 = .ok (.iaload, 1) := by decide +kernel
theorem dX6_copy_59 : decode cX6_copy 59 = .ok (.if_icmp .eq 10, 3) := by decide +kernel
theorem dX6_copy_62 : decode cX6_copy 62 = .ok (.aload_n 0, 1) := by decide +kernel
theorem dX6_copy_63 : decode cX6_copy 63 = .ok (.ldc 128, 2) := by decide +kernel
theorem dX6_copy_65 : decode cX6_copy 65 = .ok (.invokevirtual 67, 3) := by decide +kernel
theorem dX6_copy_68 : decode cX6_copy 68 = .ok (.ireturn, 1) := by decide +kernel
theorem dX6_copy_69 : decode cX6_copy 69 = .ok (.iload_n 2, 1) := by decide +kernel
theorem dX6_copy_70 : decode cX6_copy 70 = .ok (.ifCond .lt 40, 3) := by decide +kernel
theorem dX6_copy_73 : decode cX6_copy 73 = .ok (.iload 4, 2) := by decide +kernel
theorem dX6_copy_75 : decode cX6_copy 75 = .ok (.ifCond .lt 35, 3) := by decide +kernel
theorem dX6_copy_78 : decode cX6_copy 78 = .ok (.iload 5, 2) := by decide +kernel
theorem dX6_copy_80 : decode cX6_copy 80 = .ok (.ifCond .lt 30, 3) := by decide +kernel
theorem dX6_copy_83 : decode cX6_copy 83 = .ok (.iload 5, 2) := by decide +kernel
theorem dX6_copy_85 : decode cX6_copy 85 = .ok (.aload_n 0, 1) := by decide +kernel
theorem dX6_copy_86 : decode cX6_copy 86 = .ok (.getfield 31, 3) := by decide +kernel
theorem dX6_copy_89 : decode cX6_copy 89 = .ok (.iload_n 1, 1) := by decide +kernel
theorem dX6_copy_90 : decode cX6_copy 90 = .ok (.iaload, 1) := by decide +kernel
theorem dX6_copy_91 : decode cX6_copy 91 = .ok (.iload_n 2, 1) := by decide +kernel
theorem dX6_copy_92 : decode cX6_copy 92 = .ok (.isub, 1) := by decide +kernel
theorem dX6_copy_93 : decode cX6_copy 93 = .ok (.if_icmp .gt 17, 3) := by decide +kernel
theorem dX6_copy_96 : decode cX6_copy 96 = .ok (.iload 5, 2) := by decide +kernel
theorem dX6_copy_98 : decode cX6_copy 98 = .ok (.aload_n 0, 1) := by decide +kernel
theorem dX6_copy_99 : decode cX6_copy 99 = .ok (.getfield 31, 3) := by decide +kernel
theorem dX6_copy_102 : decode cX6_copy 102 = .ok (.iload_n 3, 1) := by decide +kernel
theorem dX6_copy_103 : decode cX6_copy 103 = .ok (.iaload, 1) := by decide +kernel
theorem dX6_copy_104 : decode cX6_copy 104 = .ok (.iload 4, 2) := by decide +kernel
theorem dX6_copy_106 : decode cX6_copy 106 = .ok (.isub, 1) := by decide +kernel
theorem dX6_copy_107 : decode cX6_copy 107 = .ok (.if_icmp .le 10, 3) := by decide +kernel
theorem dX6_copy_110 : decode cX6_copy 110 = .ok (.aload_n 0, 1) := by decide +kernel
theorem dX6_copy_111 : decode cX6_copy 111 = .ok (.ldc 41, 2) := by decide +kernel
theorem dX6_copy_113 : decode cX6_copy 113 = .ok (.invokevirtual 67, 3) := by decide +kernel
theorem dX6_copy_116 : decode cX6_copy 116 = .ok (.ireturn, 1) := by decide +kernel
theorem dX6_copy_117 : decode cX6_copy 117 = .ok (.iconst 0, 1) := by decide +kernel
theorem dX6_copy_118 : decode cX6_copy 118 = .ok (.istore 6, 2) := by decide +kernel
theorem dX6_copy_120 : decode cX6_copy 120 = .ok (.iload 6, 2) := by decide +kernel
theorem dX6_copy_122 : decode cX6_copy 122 = .ok (.iload 5, 2) := by decide +kernel
theorem dX6_copy_124 : decode cX6_copy 124 = .ok (.if_icmp .ge 30, 3) := by decide +kernel
theorem dX6_copy_127 : decode cX6_copy 127 = .ok (.aload_n 0, 1) := by decide +kernel
theorem dX6_copy_128 : decode cX6_copy 128 = .ok (.getfield 38, 3) := by decide +kernel
theorem dX6_copy_131 : decode cX6_copy 131 = .ok (.iload 6, 2) := by decide +kernel
theorem dX6_copy_133 : decode cX6_copy 133 = .ok (.aload_n 0, 1) := by decide +kernel
theorem dX6_copy_134 : decode cX6_copy 134 = .ok (.getfield 34, 3) := by decide +kernel
theorem dX6_copy_137 : decode cX6_copy 137 = .ok (.bipush 40, 2) := by decide +kernel
theorem dX6_copy_139 : decode cX6_copy 139 = .ok (.iload_n 1, 1) := by decide +kernel
theorem dX6_copy_140 : decode cX6_copy 140 = .ok (.imul, 1) := by decide +kernel
theorem dX6_copy_141 : decode cX6_copy 141 = .ok (.iload_n 2, 1) := by decide +kernel
theorem dX6_copy_142 : decode cX6_copy 142 = .ok (.iadd, 1) := by decide +kernel
theorem dX6_copy_143 : decode cX6_copy 143 = .ok (.iload 6, 2) := by decide +kernel
theorem dX6_copy_145 : decode cX6_copy 145 = .ok (.iadd, 1) := by decide +kernel
theorem dX6_copy_146 : decode cX6_copy 146 = .ok (.laload, 1) := by decide +kernel
theorem dX6_copy_147 : decode cX6_copy 147 = .ok (.lastore, 1) := by decide +kernel
theorem dX6_copy_148 : decode cX6_copy 148 = .ok (.iinc 6 1, 3) := by decide +kernel
theorem dX6_copy_151 : decode cX6_copy 151 = .ok (.goto (-31), 3) := by decide +kernel
theorem dX6_copy_154 : decode cX6_copy 154 = .ok (.iconst 0, 1) := by decide +kernel
theorem dX6_copy_155 : decode cX6_copy 155 = .ok (.istore 6, 2) := by decide +kernel
theorem dX6_copy_157 : decode cX6_copy 157 = .ok (.iload 6, 2) := by decide +kernel
theorem dX6_copy_159 : decode cX6_copy 159 = .ok (.iload 5, 2) := by decide +kernel
theorem dX6_copy_161 : decode cX6_copy 161 = .ok (.if_icmp .ge 31, 3) := by decide +kernel
theorem dX6_copy_164 : decode cX6_copy 164 = .ok (.aload_n 0, 1) := by decide +kernel
theorem dX6_copy_165 : decode cX6_copy 165 = .ok (.getfield 34, 3) := by decide +kernel
theorem dX6_copy_168 : decode cX6_copy 168 = .ok (.bipush 40, 2) := by decide +kernel
theorem dX6_copy_170 : decode cX6_copy 170 = .ok (.iload_n 3, 1) := by decide +kernel
theorem dX6_copy_171 : decode cX6_copy 171 = .ok (.imul, 1) := by decide +kernel
theorem dX6_copy_172 : decode cX6_copy 172 = .ok (.iload 4, 2) := by decide +kernel
theorem dX6_copy_174 : decode cX6_copy 174 = .ok (.iadd, 1) := by decide +kernel
theorem dX6_copy_175 : decode cX6_copy 175 = .ok (.iload 6, 2) := by decide +kernel
theorem dX6_copy_177 : decode cX6_copy 177 = .ok (.iadd, 1) := by decide +kernel
theorem dX6_copy_178 : decode cX6_copy 178 = .ok (.aload_n 0, 1) := by decide +kernel
theorem dX6_copy_179 : decode cX6_copy 179 = .ok (.getfield 38, 3) := by decide +kernel
theorem dX6_copy_182 : decode cX6_copy 182 = .ok (.iload 6, 2) := by decide +kernel
theorem dX6_copy_184 : decode cX6_copy 184 = .ok (.laload, 1) := by decide +kernel
theorem dX6_copy_185 : decode cX6_copy 185 = .ok (.lastore, 1) := by decide +kernel
theorem dX6_copy_186 : decode cX6_copy 186 = .ok (.iinc 6 1, 3) := by decide +kernel
theorem dX6_copy_189 : decode cX6_copy 189 = .ok (.goto (-32), 3) := by decide +kernel
theorem dX6_copy_192 : decode cX6_copy 192 = .ok (.iload 5, 2) := by decide +kernel
theorem dX6_copy_194 : decode cX6_copy 194 = .ok (.ireturn, 1) := by decide +kernel
theorem dX6_lays_0 : decode cX6_lays 0 = .ok (.aload_n 0, 1) := by decide +kernel
theorem dX6_lays_1 : decode cX6_lays 1 = .ok (.iload_n 1, 1) := by decide +kernel
theorem dX6_lays_2 : decode cX6_lays 2 = .ok (.invokevirtual 289, 3) := by decide +kernel
theorem dX6_lays_5 : decode cX6_lays 5 = .ok (.istore_n 2, 1) := by decide +kernel
theorem dX6_lays_6 : decode cX6_lays 6 = .ok (.iload_n 2, 1) := by decide +kernel
theorem dX6_lays_7 : decode cX6_lays 7 = .ok (.ifCond .eq 9, 3) := by decide +kernel
theorem dX6_lays_10 : decode cX6_lays 10 = .ok (.aload_n 0, 1) := by decide +kernel
theorem dX6_lays_11 : decode cX6_lays 11 = .ok (.iload_n 2, 1) := by decide +kernel
theorem dX6_lays_12 : decode cX6_lays 12 = .ok (.invokevirtual 67, 3) := by decide +kernel
theorem dX6_lays_15 : decode cX6_lays 15 = .ok (.ireturn, 1) := by decide +kernel
theorem dX6_lays_16 : decode cX6_lays 16 = .ok (.iconst 0, 1) := by decide +kernel
theorem dX6_lays_17 : decode cX6_lays 17 = .ok (.istore_n 3, 1) := by decide +kernel
theorem dX6_lays_18 : decode cX6_lays 18 = .ok (.iconst 0, 1) := by decide +kernel
theorem dX6_lays_19 : decode cX6_lays 19 = .ok (.istore 4, 2) := by decide +kernel
theorem dX6_lays_21 : decode cX6_lays 21 = .ok (.iload 4, 2) := by decide +kernel
theorem dX6_lays_23 : decode cX6_lays 23 = .ok (.aload_n 0, 1) := by decide +kernel
theorem dX6_lays_24 : decode cX6_lays 24 = .ok (.getfield 31, 3) := by decide +kernel
theorem dX6_lays_27 : decode cX6_lays 27 = .ok (.iload_n 1, 1) := by decide +kernel
theorem dX6_lays_28 : decode cX6_lays 28 = .ok (.iaload, 1) := by decide +kernel
theorem dX6_lays_29 : decode cX6_lays 29 = .ok (.if_icmp .ge 93, 3) := by decide +kernel
theorem dX6_lays_32 : decode cX6_lays 32 = .ok (.iload 4, 2) := by decide +kernel
theorem dX6_lays_34 : decode cX6_lays 34 = .ok (.aload_n 0, 1) := by decide +kernel
theorem dX6_lays_35 : decode cX6_lays 35 = .ok (.getfield 7, 3) := by decide +kernel
theorem dX6_lays_38 : decode cX6_lays 38 = .ok (.iconst 1, 1) := by decide +kernel
theorem dX6_lays_39 : decode cX6_lays 39 = .ok (.iaload, 1) := by decide +kernel
theorem dX6_lays_40 : decode cX6_lays 40 = .ok (.if_icmp .ge 82, 3) := by decide +kernel
theorem dX6_lays_43 : decode cX6_lays 43 = .ok (.aload_n 0, 1) := by decide +kernel
theorem dX6_lays_44 : decode cX6_lays 44 = .ok (.getfield 34, 3) := by decide +kernel
theorem dX6_lays_47 : decode cX6_lays 47 = .ok (.bipush 40, 2) := by decide +kernel
theorem dX6_lays_49 : decode cX6_lays 49 = .ok (.iload_n 1, 1) := by decide +kernel
theorem dX6_lays_50 : decode cX6_lays 50 = .ok (.imul, 1) := by decide +kernel
theorem dX6_lays_51 : decode cX6_lays 51 = .ok (.iload 4, 2) := by decide +kernel
theorem dX6_lays_53 : decode cX6_lays 53 = .ok (.iadd, 1) := by decide +kernel
theorem dX6_lays_54 : decode cX6_lays 54 = .ok (.laload, 1) := by decide +kernel
theorem dX6_lays_55 : decode cX6_lays 55 = .ok (.lconst 0, 1) := by decide +kernel
theorem dX6_lays_56 : decode cX6_lays 56 = .ok (.ldc2_w 58, 3) := by decide +kernel
theorem dX6_lays_59 : decode cX6_lays 59 = .ok (.invokestatic 46, 3) := by decide +kernel
theorem dX6_lays_62 : decode cX6_lays 62 = .ok (.istore 5, 2) := by decide +kernel
theorem dX6_lays_64 : decode cX6_lays 64 = .ok (.aload_n 0, 1) := by decide +kernel
theorem dX6_lays_65 : decode cX6_lays 65 = .ok (.getfield 7, 3) := by decide +kernel
theorem dX6_lays_68 : decode cX6_lays 68 = .ok (.iload 4, 2) := by decide +kernel
theorem dX6_lays_70 : decode cX6_lays 70 = .ok (.iconst 2, 1) := by decide +kernel
theorem dX6_lays_71 : decode cX6_lays 71 = .ok (.invokestatic 42, 3) := by decide +kernel
theorem dX6_lays_74 : decode cX6_lays 74 = .ok (.iload 5, 2) := by decide +kernel
theorem dX6_lays_76 : decode cX6_lays 76 = .ok (.ifCond .eq 19, 3) := by decide +kernel
theorem dX6_lays_79 : decode cX6_lays 79 = .ok (.aload_n 0, 1) := by decide +kernel
theorem dX6_lays_80 : decode cX6_lays 80 = .ok (.getfield 34, 3) := by decide +kernel
theorem dX6_lays_83 : decode cX6_lays 83 = .ok (.bipush 40, 2) := by decide +kernel
theorem dX6_lays_85 : decode cX6_lays 85 = .ok (.iload_n 1, 1) := by decide +kernel
theorem dX6_lays_86 : decode cX6_lays 86 = .ok (.imul, 1) := by decide +kernel
theorem dX6_lays_87 : decode cX6_lays 87 = .ok (.iload 4, 2) := by decide +kernel
theorem dX6_lays_89 : decode cX6_lays 89 = .ok (.iadd, 1) := by decide +kernel
theorem dX6_lays_90 : decode cX6_lays 90 = .ok (.laload, 1) := by decide +kernel
theorem dX6_lays_91 : decode cX6_lays 91 = .ok (.l2i, 1) := by decide +kernel
theorem dX6_lays_92 : decode cX6_lays 92 = .ok (.goto 10, 3) := by decide +kernel
theorem dX6_lays_95 : decode cX6_lays 95 = .ok (.aload_n 0, 1) := by decide +kernel
theorem dX6_lays_96 : decode cX6_lays 96 = .ok (.iload 4, 2) := by decide +kernel
theorem dX6_lays_98 : decode cX6_lays 98 = .ok (.iconst 2, 1) := by decide +kernel
theorem dX6_lays_99 : decode cX6_lays 99 = .ok (.invokevirtual 55, 3) := by decide +kernel
theorem dX6_lays_102 : decode cX6_lays 102 = .ok (.iastore, 1) := by decide +kernel
theorem dX6_lays_103 : decode cX6_lays 103 = .ok (.iload_n 3, 1) := by decide +kernel
theorem dX6_lays_104 : decode cX6_lays 104 = .ok (.iload 5, 2) := by decide +kernel
theorem dX6_lays_106 : decode cX6_lays 106 = .ok (.ifCond .eq 7, 3) := by decide +kernel
theorem dX6_lays_109 : decode cX6_lays 109 = .ok (.iconst 1, 1) := by decide +kernel
theorem dX6_lays_110 : decode cX6_lays 110 = .ok (.goto 4, 3) := by decide +kernel
theorem dX6_lays_113 : decode cX6_lays 113 = .ok (.iconst 0, 1) := by decide +kernel
theorem dX6_lays_114 : decode cX6_lays 114 = .ok (.iadd, 1) := by decide +kernel
theorem dX6_lays_115 : decode cX6_lays 115 = .ok (.istore_n 3, 1) := by decide +kernel
theorem dX6_lays_116 : decode cX6_lays 116 = .ok (.iinc 4 1, 3) := by decide +kernel
theorem dX6_lays_119 : decode cX6_lays 119 = .ok (.goto (-98), 3) := by decide +kernel
theorem dX6_lays_122 : decode cX6_lays 122 = .ok (.iload_n 3, 1) := by decide +kernel
theorem dX6_lays_123 : decode cX6_lays 123 = .ok (.ireturn, 1) := by decide +kernel
theorem dX6_book_0 : decode cX6_book 0 = .ok (.aload_n 0, 1) := by decide +kernel
theorem dX6_book_1 : decode cX6_book 1 = .ok (.iload_n 1, 1) := by decide +kernel
theorem dX6_book_2 : decode cX6_book 2 = .ok (.invokevirtual 289, 3) := by decide +kernel
theorem dX6_book_5 : decode cX6_book 5 = .ok (.istore_n 3, 1) := by decide +kernel
theorem dX6_book_6 : decode cX6_book 6 = .ok (.iload_n 3, 1) := by decide +kernel
theorem dX6_book_7 : decode cX6_book 7 = .ok (.ifCond .eq 9, 3) := by decide +kernel
theorem dX6_book_10 : decode cX6_book 10 = .ok (.aload_n 0, 1) := by decide +kernel
theorem dX6_book_11 : decode cX6_book 11 = .ok (.iload_n 3, 1) := by decide +kernel
theorem dX6_book_12 : decode cX6_book 12 = .ok (.invokevirtual 67, 3) := by decide +kernel
theorem dX6_book_15 : decode cX6_book 15 = .ok (.ireturn, 1) := by decide +kernel
theorem dX6_book_16 : decode cX6_book 16 = .ok (.aload_n 0, 1) := by decide +kernel
theorem dX6_book_17 : decode cX6_book 17 = .ok (.iload_n 2, 1) := by decide +kernel
theorem dX6_book_18 : decode cX6_book 18 = .ok (.invokevirtual 110, 3) := by decide +kernel
theorem dX6_book_21 : decode cX6_book 21 = .ok (.ifCond .ne 10, 3) := by decide +kernel
theorem dX6_book_24 : decode cX6_book 24 = .ok (.aload_n 0, 1) := by decide +kernel
theorem dX6_book_25 : decode cX6_book 25 = .ok (.ldc 41, 2) := by decide +kernel
theorem dX6_book_27 : decode cX6_book 27 = .ok (.invokevirtual 67, 3) := by decide +kernel
theorem dX6_book_30 : decode cX6_book 30 = .ok (.ireturn, 1) := by decide +kernel
theorem dX6_book_31 : decode cX6_book 31 = .ok (.aload_n 0, 1) := by decide +kernel
theorem dX6_book_32 : decode cX6_book 32 = .ok (.invokevirtual 149, 3) := by decide +kernel
theorem dX6_book_35 : decode cX6_book 35 = .ok (.iconst 0, 1) := by decide +kernel
theorem dX6_book_36 : decode cX6_book 36 = .ok (.istore 4, 2) := by decide +kernel
theorem dX6_book_38 : decode cX6_book 38 = .ok (.iload 4, 2) := by decide +kernel
theorem dX6_book_40 : decode cX6_book 40 = .ok (.aload_n 0, 1) := by decide +kernel
theorem dX6_book_41 : decode cX6_book 41 = .ok (.getfield 31, 3) := by decide +kernel
theorem dX6_book_44 : decode cX6_book 44 = .ok (.iload_n 1, 1) := by decide +kernel
theorem dX6_book_45 : decode cX6_book 45 = .ok (.iaload, 1) := by decide +kernel
theorem dX6_book_46 : decode cX6_book 46 = .ok (.if_icmp .ge 41, 3) := by decide +kernel
theorem dX6_book_49 : decode cX6_book 49 = .ok (.aload_n 0, 1) := by decide +kernel
theorem dX6_book_50 : decode cX6_book 50 = .ok (.getfield 34, 3) := by decide +kernel
theorem dX6_book_53 : decode cX6_book 53 = .ok (.bipush 40, 2) := by decide +kernel
theorem dX6_book_55 : decode cX6_book 55 = .ok (.iload_n 1, 1) := by decide +kernel
theorem dX6_book_56 : decode cX6_book 56 = .ok (.imul, 1) := by decide +kernel
theorem dX6_book_57 : decode cX6_book 57 = .ok (.iload 4, 2) := by decide +kernel
theorem dX6_book_59 : decode cX6_book 59 = .ok (.iadd, 1) := by decide +kernel
theorem dX6_book_60 : decode cX6_book 60 = .ok (.aload_n 0, 1) := by decide +kernel
theorem dX6_book_61 : decode cX6_book 61 = .ok (.getfield 28, 3) := by decide +kernel
theorem dX6_book_64 : decode cX6_book 64 = .ok (.iload_n 1, 1) := by decide +kernel
theorem dX6_book_65 : decode cX6_book 65 = .ok (.iaload, 1) := by decide +kernel
theorem dX6_book_66 : decode cX6_book 66 = .ok (.aload_n 0, 1) := by decide +kernel
theorem dX6_book_67 : decode cX6_book 67 = .ok (.iload_n 2, 1) := by decide +kernel
theorem dX6_book_68 : decode cX6_book 68 = .ok (.iconst 2, 1) := by decide +kernel
theorem dX6_book_69 : decode cX6_book 69 = .ok (.invokevirtual 55, 3) := by decide +kernel
theorem dX6_book_72 : decode cX6_book 72 = .ok (.i2l, 1) := by decide +kernel
theorem dX6_book_73 : decode cX6_book 73 = .ok (.invokestatic 292, 3) := by decide +kernel
theorem dX6_book_76 : decode cX6_book 76 = .ok (.lastore, 1) := by decide +kernel
theorem dX6_book_77 : decode cX6_book 77 = .ok (.aload_n 0, 1) := by decide +kernel
theorem dX6_book_78 : decode cX6_book 78 = .ok (.invokevirtual 137, 3) := by decide +kernel
theorem dX6_book_81 : decode cX6_book 81 = .ok (.iinc 4 1, 3) := by decide +kernel
theorem dX6_book_84 : decode cX6_book 84 = .ok (.goto (-46), 3) := by decide +kernel
theorem dX6_book_87 : decode cX6_book 87 = .ok (.aload_n 0, 1) := by decide +kernel
theorem dX6_book_88 : decode cX6_book 88 = .ok (.aload_n 0, 1) := by decide +kernel
theorem dX6_book_89 : decode cX6_book 89 = .ok (.getfield 31, 3) := by decide +kernel
theorem dX6_book_92 : decode cX6_book 92 = .ok (.iload_n 1, 1) := by decide +kernel
theorem dX6_book_93 : decode cX6_book 93 = .ok (.iaload, 1) := by decide +kernel
theorem dX6_book_94 : decode cX6_book 94 = .ok (.invokevirtual 152, 3) := by decide +kernel
theorem dX6_book_97 : decode cX6_book 97 = .ok (.ireturn, 1) := by decide +kernel
theorem dX6_isBook_0 : decode cX6_isBook 0 = .ok (.iconst 0, 1) := by decide +kernel
theorem dX6_isBook_1 : decode cX6_isBook 1 = .ok (.istore_n 3, 1) := by decide +kernel
theorem dX6_isBook_2 : decode cX6_isBook 2 = .ok (.iload_n 3, 1) := by decide +kernel
theorem dX6_isBook_3 : decode cX6_isBook 3 = .ok (.aload_n 0, 1) := by decide +kernel
theorem dX6_isBook_4 : decode cX6_isBook 4 = .ok (.getfield 31, 3) := by decide +kernel
theorem dX6_isBook_7 : decode cX6_isBook 7 = .ok (.iload_n 1, 1) := by decide +kernel
theorem dX6_isBook_8 : decode cX6_isBook 8 = .ok (.iaload, 1) := by decide +kernel
theorem dX6_isBook_9 : decode cX6_isBook 9 = .ok (.if_icmp .ge 37, 3) := by decide +kernel
theorem dX6_isBook_12 : decode cX6_isBook 12 = .ok (.aload_n 0, 1) := by decide +kernel
theorem dX6_isBook_13 : decode cX6_isBook 13 = .ok (.getfield 34, 3) := by decide +kernel
theorem dX6_isBook_16 : decode cX6_isBook 16 = .ok (.bipush 40, 2) := by decide +kernel
theorem dX6_isBook_18 : decode cX6_isBook 18 = .ok (.iload_n 1, 1) := by decide +kernel
theorem dX6_isBook_19 : decode cX6_isBook 19 = .ok (.imul, 1) := by decide +kernel
theorem dX6_isBook_20 : decode cX6_isBook 20 = .ok (.iload_n 3, 1) := by decide +kernel
theorem dX6_isBook_21 : decode cX6_isBook 21 = .ok (.iadd, 1) := by decide +kernel
theorem dX6_isBook_22 : decode cX6_isBook 22 = .ok (.laload, 1) := by decide +kernel
theorem dX6_isBook_23 : decode cX6_isBook 23 = .ok (.aload_n 0, 1) := by decide +kernel
theorem dX6_isBook_24 : decode cX6_isBook 24 = .ok (.iload_n 2, 1) := by decide +kernel
theorem dX6_isBook_25 : decode cX6_isBook 25 = .ok (.iconst 2, 1) := by decide +kernel
theorem dX6_isBook_26 : decode cX6_isBook 26 = .ok (.invokevirtual 55, 3) := by decide +kernel
theorem dX6_isBook_29 : decode cX6_isBook 29 = .ok (.i2l, 1) := by decide +kernel
theorem dX6_isBook_30 : decode cX6_isBook 30 = .ok (.lcmp, 1) := by decide +kernel
theorem dX6_isBook_31 : decode cX6_isBook 31 = .ok (.ifCond .eq 5, 3) := by decide +kernel
theorem dX6_isBook_34 : decode cX6_isBook 34 = .ok (.iconst 0, 1) := by decide +kernel
theorem dX6_isBook_35 : decode cX6_isBook 35 = .ok (.ireturn, 1) := by decide +kernel
theorem dX6_isBook_36 : decode cX6_isBook 36 = .ok (.aload_n 0, 1) := by decide +kernel
theorem dX6_isBook_37 : decode cX6_isBook 37 = .ok (.invokevirtual 137, 3) := by decide +kernel
theorem dX6_isBook_40 : decode cX6_isBook 40 = .ok (.iinc 3 1, 3) := by decide +kernel
theorem dX6_isBook_43 : decode cX6_isBook 43 = .ok (.goto (-41), 3) := by decide +kernel
theorem dX6_isBook_46 : decode cX6_isBook 46 = .ok (.iconst 1, 1) := by decide +kernel
theorem dX6_isBook_47 : decode cX6_isBook 47 = .ok (.ireturn, 1) := by decide +kernel
theorem dX6_read_0 : decode cX6_read 0 = .ok (.aload_n 0, 1) := by decide +kernel
theorem dX6_read_1 : decode cX6_read 1 = .ok (.iload_n 1, 1) := by decide +kernel
theorem dX6_read_2 : decode cX6_read 2 = .ok (.invokevirtual 289, 3) := by decide +kernel
theorem dX6_read_5 : decode cX6_read 5 = .ok (.istore 4, 2) := by decide +kernel
theorem dX6_read_7 : decode cX6_read 7 = .ok (.iload 4, 2) := by decide +kernel
theorem dX6_read_9 : decode cX6_read 9 = .ok (.ifCond .eq 10, 3) := by decide +kernel
theorem dX6_read_12 : decode cX6_read 12 = .ok (.aload_n 0, 1) := by decide +kernel
theorem dX6_read_13 : decode cX6_read 13 = .ok (.iload 4, 2) := by decide +kernel
theorem dX6_read_15 : decode cX6_read 15 = .ok (.invokevirtual 67, 3) := by decide +kernel
theorem dX6_read_18 : decode cX6_read 18 = .ok (.ireturn, 1) := by decide +kernel
theorem dX6_read_19 : decode cX6_read 19 = .ok (.aload_n 0, 1) := by decide +kernel
theorem dX6_read_20 : decode cX6_read 20 = .ok (.iload_n 2, 1) := by decide +kernel
theorem dX6_read_21 : decode cX6_read 21 = .ok (.invokevirtual 110, 3) := by decide +kernel
theorem dX6_read_24 : decode cX6_read 24 = .ok (.ifCond .eq 16, 3) := by decide +kernel
theorem dX6_read_27 : decode cX6_read 27 = .ok (.aload_n 0, 1) := by decide +kernel
theorem dX6_read_28 : decode cX6_read 28 = .ok (.iload_n 3, 1) := by decide +kernel
theorem dX6_read_29 : decode cX6_read 29 = .ok (.invokevirtual 110, 3) := by decide +kernel
theorem dX6_read_32 : decode cX6_read 32 = .ok (.ifCond .eq 8, 3) := by decide +kernel
theorem dX6_read_35 : decode cX6_read 35 = .ok (.iload_n 2, 1) := by decide +kernel
theorem dX6_read_36 : decode cX6_read 36 = .ok (.iload_n 3, 1) := by decide +kernel
theorem dX6_read_37 : decode cX6_read 37 = .ok (.if_icmp .ne 10, 3) := by decide +kernel
theorem dX6_read_40 : decode cX6_read 40 = .ok (.aload_n 0, 1) := by decide +kernel
theorem dX6_read_41 : decode cX6_read 41 = .ok (.ldc 41, 2) := by decide +kernel
theorem dX6_read_43 : decode cX6_read 43 = .ok (.invokevirtual 67, 3) := by decide +kernel
theorem dX6_read_46 : decode cX6_read 46 = .ok (.ireturn, 1) := by decide +kernel
theorem dX6_read_47 : decode cX6_read 47 = .ok (.aload_n 0, 1) := by decide +kernel
theorem dX6_read_48 : decode cX6_read 48 = .ok (.invokevirtual 149, 3) := by decide +kernel
theorem dX6_read_51 : decode cX6_read 51 = .ok (.iconst 0, 1) := by decide +kernel
theorem dX6_read_52 : decode cX6_read 52 = .ok (.istore 5, 2) := by decide +kernel
theorem dX6_read_54 : decode cX6_read 54 = .ok (.iconst 0, 1) := by decide +kernel
theorem dX6_read_55 : decode cX6_read 55 = .ok (.istore 6, 2) := by decide +kernel
theorem dX6_read_57 : decode cX6_read 57 = .ok (.iload 6, 2) := by decide +kernel
theorem dX6_read_59 : decode cX6_read 59 = .ok (.bipush 36, 2) := by decide +kernel
theorem dX6_read_61 : decode cX6_read 61 = .ok (.if_icmp .ge 62, 3) := by decide +kernel
theorem dX6_read_64 : decode cX6_read 64 = .ok (.aload_n 0, 1) := by decide +kernel
theorem dX6_read_65 : decode cX6_read 65 = .ok (.getfield 7, 3) := by decide +kernel
theorem dX6_read_68 : decode cX6_read 68 = .ok (.iload_n 2, 1) := by decide +kernel
theorem dX6_read_69 : decode cX6_read 69 = .ok (.iconst 0, 1) := by decide +kernel
theorem dX6_read_70 : decode cX6_read 70 = .ok (.invokestatic 42, 3) := by decide +kernel
theorem dX6_read_73 : decode cX6_read 73 = .ok (.iload 6, 2) := by decide +kernel
theorem dX6_read_75 : decode cX6_read 75 = .ok (.bipush 6, 2) := by decide +kernel
theorem dX6_read_77 : decode cX6_read 77 = .ok (.idiv, 1) := by decide +kernel
theorem dX6_read_78 : decode cX6_read 78 = .ok (.iastore, 1) := by decide +kernel
theorem dX6_read_79 : decode cX6_read 79 = .ok (.aload_n 0, 1) := by decide +kernel
theorem dX6_read_80 : decode cX6_read 80 = .ok (.getfield 7, 3) := by decide +kernel
theorem dX6_read_83 : decode cX6_read 83 = .ok (.iload_n 3, 1) := by decide +kernel
theorem dX6_read_84 : decode cX6_read 84 = .ok (.iconst 0, 1) := by decide +kernel
theorem dX6_read_85 : decode cX6_read 85 = .ok (.invokestatic 42, 3) := by decide +kernel
theorem dX6_read_88 : decode cX6_read 88 = .ok (.iload 6, 2) := by decide +kernel
theorem dX6_read_90 : decode cX6_read 90 = .ok (.bipush 6, 2) := by decide +kernel
theorem dX6_read_92 : decode cX6_read 92 = .ok (.irem, 1) := by decide +kernel
theorem dX6_read_93 : decode cX6_read 93 = .ok (.iastore, 1) := by decide +kernel
theorem dX6_read_94 : decode cX6_read 94 = .ok (.aload_n 0, 1) := by decide +kernel
theorem dX6_read_95 : decode cX6_read 95 = .ok (.iload 5, 2) := by decide +kernel
theorem dX6_read_97 : decode cX6_read 97 = .ok (.aload_n 0, 1) := by decide +kernel
theorem dX6_read_98 : decode cX6_read 98 = .ok (.iload_n 1, 1) := by decide +kernel
theorem dX6_read_99 : decode cX6_read 99 = .ok (.iload_n 2, 1) := by decide +kernel
theorem dX6_read_100 : decode cX6_read 100 = .ok (.invokevirtual 296, 3) := by decide +kernel
theorem dX6_read_103 : decode cX6_read 103 = .ok (.ifCond .eq 7, 3) := by decide +kernel
theorem dX6_read_106 : decode cX6_read 106 = .ok (.iconst 1, 1) := by decide +kernel
theorem dX6_read_107 : decode cX6_read 107 = .ok (.goto 4, 3) := by decide +kernel
theorem dX6_read_110 : decode cX6_read 110 = .ok (.iconst 0, 1) := by decide +kernel
theorem dX6_read_111 : decode cX6_read 111 = .ok (.iadd, 1) := by decide +kernel
theorem dX6_read_112 : decode cX6_read 112 = .ok (.invokevirtual 152, 3) := by decide +kernel
theorem dX6_read_115 : decode cX6_read 115 = .ok (.istore 5, 2) := by decide +kernel
theorem dX6_read_117 : decode cX6_read 117 = .ok (.iinc 6 1, 3) := by decide +kernel
theorem dX6_read_120 : decode cX6_read 120 = .ok (.goto (-63), 3) := by decide +kernel
theorem dX6_read_123 : decode cX6_read 123 = .ok (.iload 5, 2) := by decide +kernel
theorem dX6_read_125 : decode cX6_read 125 = .ok (.ireturn, 1) := by decide +kernel
theorem dX6_image_0 : decode cX6_image 0 = .ok (.iconst 0, 1) := by decide +kernel
theorem dX6_image_1 : decode cX6_image 1 = .ok (.istore_n 1, 1) := by decide +kernel
theorem dX6_image_2 : decode cX6_image 2 = .ok (.iload_n 1, 1) := by decide +kernel
theorem dX6_image_3 : decode cX6_image 3 = .ok (.bipush 48, 2) := by decide +kernel
theorem dX6_image_5 : decode cX6_image 5 = .ok (.if_icmp .ge 21, 3) := by decide +kernel
theorem dX6_image_8 : decode cX6_image 8 = .ok (.aload_n 0, 1) := by decide +kernel
theorem dX6_image_9 : decode cX6_image 9 = .ok (.getfield 13, 3) := by decide +kernel
theorem dX6_image_12 : decode cX6_image 12 = .ok (.iload_n 1, 1) := by decide +kernel
theorem dX6_image_13 : decode cX6_image 13 = .ok (.aload_n 0, 1) := by decide +kernel
theorem dX6_image_14 : decode cX6_image 14 = .ok (.getfield 7, 3) := by decide +kernel
theorem dX6_image_17 : decode cX6_image 17 = .ok (.iload_n 1, 1) := by decide +kernel
theorem dX6_image_18 : decode cX6_image 18 = .ok (.iaload, 1) := by decide +kernel
theorem dX6_image_19 : decode cX6_image 19 = .ok (.iastore, 1) := by decide +kernel
theorem dX6_image_20 : decode cX6_image 20 = .ok (.iinc 1 1, 3) := by decide +kernel
theorem dX6_image_23 : decode cX6_image 23 = .ok (.goto (-21), 3) := by decide +kernel
theorem dX6_image_26 : decode cX6_image 26 = .ok (.aload_n 0, 1) := by decide +kernel
theorem dX6_image_27 : decode cX6_image 27 = .ok (.iconst 1, 1) := by decide +kernel
theorem dX6_image_28 : decode cX6_image 28 = .ok (.putfield 299, 3) := by decide +kernel
theorem dX6_image_31 : decode cX6_image 31 = .ok (.iconst 1, 1) := by decide +kernel
theorem dX6_image_32 : decode cX6_image 32 = .ok (.ireturn, 1) := by decide +kernel
theorem dX6_undo_0 : decode cX6_undo 0 = .ok (.aload_n 0, 1) := by decide +kernel
theorem dX6_undo_1 : decode cX6_undo 1 = .ok (.getfield 299, 3) := by decide +kernel
theorem dX6_undo_4 : decode cX6_undo 4 = .ok (.ifCond .ne 10, 3) := by decide +kernel
theorem dX6_undo_7 : decode cX6_undo 7 = .ok (.aload_n 0, 1) := by decide +kernel
theorem dX6_undo_8 : decode cX6_undo 8 = .ok (.ldc 161, 2) := by decide +kernel
theorem dX6_undo_10 : decode cX6_undo 10 = .ok (.invokevirtual 67, 3) := by decide +kernel
theorem dX6_undo_13 : decode cX6_undo 13 = .ok (.ireturn, 1) := by decide +kernel
theorem dX6_undo_14 : decode cX6_undo 14 = .ok (.iconst 0, 1) := by decide +kernel
theorem dX6_undo_15 : decode cX6_undo 15 = .ok (.istore_n 1, 1) := by decide +kernel
theorem dX6_undo_16 : decode cX6_undo 16 = .ok (.iload_n 1, 1) := by decide +kernel
theorem dX6_undo_17 : decode cX6_undo 17 = .ok (.bipush 48, 2) := by decide +kernel
theorem dX6_undo_19 : decode cX6_undo 19 = .ok (.if_icmp .ge 21, 3) := by decide +kernel
theorem dX6_undo_22 : decode cX6_undo 22 = .ok (.aload_n 0, 1) := by decide +kernel
theorem dX6_undo_23 : decode cX6_undo 23 = .ok (.getfield 7, 3) := by decide +kernel
theorem dX6_undo_26 : decode cX6_undo 26 = .ok (.iload_n 1, 1) := by decide +kernel
theorem dX6_undo_27 : decode cX6_undo 27 = .ok (.aload_n 0, 1) := by decide +kernel
theorem dX6_undo_28 : decode cX6_undo 28 = .ok (.getfield 13, 3) := by decide +kernel
theorem dX6_undo_31 : decode cX6_undo 31 = .ok (.iload_n 1, 1) := by decide +kernel
theorem dX6_undo_32 : decode cX6_undo 32 = .ok (.iaload, 1) := by decide +kernel
theorem dX6_undo_33 : decode cX6_undo 33 = .ok (.iastore, 1) := by decide +kernel
theorem dX6_undo_34 : decode cX6_undo 34 = .ok (.iinc 1 1, 3) := by decide +kernel
theorem dX6_undo_37 : decode cX6_undo 37 = .ok (.goto (-21), 3) := by decide +kernel
theorem dX6_undo_40 : decode cX6_undo 40 = .ok (.aload_n 0, 1) := by decide +kernel
theorem dX6_undo_41 : decode cX6_undo 41 = .ok (.getfield 7, 3) := by decide +kernel
theorem dX6_undo_44 : decode cX6_undo 44 = .ok (.iconst 1, 1) := by decide +kernel
theorem dX6_undo_45 : decode cX6_undo 45 = .ok (.iaload, 1) := by decide +kernel
theorem dX6_undo_46 : decode cX6_undo 46 = .ok (.ireturn, 1) := by decide +kernel
theorem dX6_tear_0 : decode cX6_tear 0 = .ok (.aload_n 0, 1) := by decide +kernel
theorem dX6_tear_1 : decode cX6_tear 1 = .ok (.getfield 299, 3) := by decide +kernel
theorem dX6_tear_4 : decode cX6_tear 4 = .ok (.ifCond .eq 7, 3) := by decide +kernel
theorem dX6_tear_7 : decode cX6_tear 7 = .ok (.iconst 1, 1) := by decide +kernel
theorem dX6_tear_8 : decode cX6_tear 8 = .ok (.goto 4, 3) := by decide +kernel
theorem dX6_tear_11 : decode cX6_tear 11 = .ok (.iconst 0, 1) := by decide +kernel
theorem dX6_tear_12 : decode cX6_tear 12 = .ok (.istore_n 1, 1) := by decide +kernel
theorem dX6_tear_13 : decode cX6_tear 13 = .ok (.aload_n 0, 1) := by decide +kernel
theorem dX6_tear_14 : decode cX6_tear 14 = .ok (.iconst 0, 1) := by decide +kernel
theorem dX6_tear_15 : decode cX6_tear 15 = .ok (.putfield 299, 3) := by decide +kernel
theorem dX6_tear_18 : decode cX6_tear 18 = .ok (.iload_n 1, 1) := by decide +kernel
theorem dX6_tear_19 : decode cX6_tear 19 = .ok (.ireturn, 1) := by decide +kernel
theorem dX6_count_0 : decode cX6_count 0 = .ok (.iload_n 1, 1) := by decide +kernel
theorem dX6_count_1 : decode cX6_count 1 = .ok (.tableswitch 55 0 3 #[31, 38, 43, 49], 31) := by decide +kernel
theorem dX6_count_32 : decode cX6_count 32 = .ok (.aload_n 0, 1) := by decide +kernel
theorem dX6_count_33 : decode cX6_count 33 = .ok (.getfield 7, 3) := by decide +kernel
theorem dX6_count_36 : decode cX6_count 36 = .ok (.iconst 1, 1) := by decide +kernel
theorem dX6_count_37 : decode cX6_count 37 = .ok (.iaload, 1) := by decide +kernel
theorem dX6_count_38 : decode cX6_count 38 = .ok (.ireturn, 1) := by decide +kernel
theorem dX6_count_39 : decode cX6_count 39 = .ok (.aload_n 0, 1) := by decide +kernel
theorem dX6_count_40 : decode cX6_count 40 = .ok (.getfield 177, 3) := by decide +kernel
theorem dX6_count_43 : decode cX6_count 43 = .ok (.ireturn, 1) := by decide +kernel
theorem dX6_count_44 : decode cX6_count 44 = .ok (.aload_n 0, 1) := by decide +kernel
theorem dX6_count_45 : decode cX6_count 45 = .ok (.iconst 0, 1) := by decide +kernel
theorem dX6_count_46 : decode cX6_count 46 = .ok (.invokevirtual 91, 3) := by decide +kernel
theorem dX6_count_49 : decode cX6_count 49 = .ok (.ireturn, 1) := by decide +kernel
theorem dX6_count_50 : decode cX6_count 50 = .ok (.aload_n 0, 1) := by decide +kernel
theorem dX6_count_51 : decode cX6_count 51 = .ok (.iconst 1, 1) := by decide +kernel
theorem dX6_count_52 : decode cX6_count 52 = .ok (.invokevirtual 91, 3) := by decide +kernel
theorem dX6_count_55 : decode cX6_count 55 = .ok (.ireturn, 1) := by decide +kernel
theorem dX6_count_56 : decode cX6_count 56 = .ok (.aload_n 0, 1) := by decide +kernel
theorem dX6_count_57 : decode cX6_count 57 = .ok (.ldc 41, 2) := by decide +kernel
theorem dX6_count_59 : decode cX6_count 59 = .ok (.invokevirtual 67, 3) := by decide +kernel
theorem dX6_count_62 : decode cX6_count 62 = .ok (.ireturn, 1) := by decide +kernel
theorem dX6_status_0 : decode cX6_status 0 = .ok (.iload_n 1, 1) := by decide +kernel
theorem dX6_status_1 : decode cX6_status 1 = .ok (.i2l, 1) := by decide +kernel
theorem dX6_status_2 : decode cX6_status 2 = .ok (.ldc2_w 302, 3) := by decide +kernel
theorem dX6_status_5 : decode cX6_status 5 = .ok (.ldc2_w 304, 3) := by decide +kernel
theorem dX6_status_8 : decode cX6_status 8 = .ok (.invokestatic 46, 3) := by decide +kernel
theorem dX6_status_11 : decode cX6_status 11 = .ok (.ifCond .ne 10, 3) := by decide +kernel
theorem dX6_status_14 : decode cX6_status 14 = .ok (.aload_n 0, 1) := by decide +kernel
theorem dX6_status_15 : decode cX6_status 15 = .ok (.ldc 41, 2) := by decide +kernel
theorem dX6_status_17 : decode cX6_status 17 = .ok (.invokevirtual 67, 3) := by decide +kernel
theorem dX6_status_20 : decode cX6_status 20 = .ok (.ireturn, 1) := by decide +kernel
theorem dX6_status_21 : decode cX6_status 21 = .ok (.iconst 0, 1) := by decide +kernel
theorem dX6_status_22 : decode cX6_status 22 = .ok (.istore_n 2, 1) := by decide +kernel
theorem dX6_status_23 : decode cX6_status 23 = .ok (.iconst 0, 1) := by decide +kernel
theorem dX6_status_24 : decode cX6_status 24 = .ok (.istore_n 3, 1) := by decide +kernel
theorem dX6_status_25 : decode cX6_status 25 = .ok (.iload_n 3, 1) := by decide +kernel
theorem dX6_status_26 : decode cX6_status 26 = .ok (.bipush 7, 2) := by decide +kernel
theorem dX6_status_28 : decode cX6_status 28 = .ok (.if_icmp .ge 31, 3) := by decide +kernel
theorem dX6_status_31 : decode cX6_status 31 = .ok (.iload_n 2, 1) := by decide +kernel
theorem dX6_status_32 : decode cX6_status 32 = .ok (.iload_n 1, 1) := by decide +kernel
theorem dX6_status_33 : decode cX6_status 33 = .ok (.ifCond .lt 8, 3) := by decide +kernel
theorem dX6_status_36 : decode cX6_status 36 = .ok (.iload_n 3, 1) := by decide +kernel
theorem dX6_status_37 : decode cX6_status 37 = .ok (.iload_n 1, 1) := by decide +kernel
theorem dX6_status_38 : decode cX6_status 38 = .ok (.if_icmp .ne 12, 3) := by decide +kernel
theorem dX6_status_41 : decode cX6_status 41 = .ok (.aload_n 0, 1) := by decide +kernel
theorem dX6_status_42 : decode cX6_status 42 = .ok (.getfield 22, 3) := by decide +kernel
theorem dX6_status_45 : decode cX6_status 45 = .ok (.iload_n 3, 1) := by decide +kernel
theorem dX6_status_46 : decode cX6_status 46 = .ok (.iaload, 1) := by decide +kernel
theorem dX6_status_47 : decode cX6_status 47 = .ok (.goto 4, 3) := by decide +kernel
theorem dX6_status_50 : decode cX6_status 50 = .ok (.iconst 0, 1) := by decide +kernel
theorem dX6_status_51 : decode cX6_status 51 = .ok (.iadd, 1) := by decide +kernel
theorem dX6_status_52 : decode cX6_status 52 = .ok (.istore_n 2, 1) := by decide +kernel
theorem dX6_status_53 : decode cX6_status 53 = .ok (.iinc 3 1, 3) := by decide +kernel
theorem dX6_status_56 : decode cX6_status 56 = .ok (.goto (-31), 3) := by decide +kernel
theorem dX6_status_59 : decode cX6_status 59 = .ok (.iload_n 2, 1) := by decide +kernel
theorem dX6_status_60 : decode cX6_status 60 = .ok (.ireturn, 1) := by decide +kernel
end
section
theorem dL_law_0 : decode cL_law 0 = .ok (.new 7, 3) := by decide +kernel
theorem dL_law_3 : decode cL_law 3 = .ok (.dup, 1) := by decide +kernel
theorem dL_law_4 : decode cL_law 4 = .ok (.invokespecial 9, 3) := by decide +kernel
theorem dL_law_7 : decode cL_law 7 = .ok (.astore_n 1, 1) := by decide +kernel
theorem dL_law_8 : decode cL_law 8 = .ok (.new 10, 3) := by decide +kernel
theorem dL_law_11 : decode cL_law 11 = .ok (.dup, 1) := by decide +kernel
theorem dL_law_12 : decode cL_law 12 = .ok (.invokespecial 12, 3) := by decide +kernel
theorem dL_law_15 : decode cL_law 15 = .ok (.astore_n 2, 1) := by decide +kernel
theorem dL_law_16 : decode cL_law 16 = .ok (.iconst 0, 1) := by decide +kernel
theorem dL_law_17 : decode cL_law 17 = .ok (.istore_n 3, 1) := by decide +kernel
theorem dL_law_18 : decode cL_law 18 = .ok (.iload_n 3, 1) := by decide +kernel
theorem dL_law_19 : decode cL_law 19 = .ok (.aload_n 0, 1) := by decide +kernel
theorem dL_law_20 : decode cL_law 20 = .ok (.arraylength, 1) := by decide +kernel
theorem dL_law_21 : decode cL_law 21 = .ok (.bipush 6, 2) := by decide +kernel
theorem dL_law_23 : decode cL_law 23 = .ok (.isub, 1) := by decide +kernel
theorem dL_law_24 : decode cL_law 24 = .ok (.if_icmp .gt 1283, 3) := by decide +kernel
theorem dL_law_27 : decode cL_law 27 = .ok (.aload_n 0, 1) := by decide +kernel
theorem dL_law_28 : decode cL_law 28 = .ok (.iload_n 3, 1) := by decide +kernel
theorem dL_law_29 : decode cL_law 29 = .ok (.iaload, 1) := by decide +kernel
theorem dL_law_30 : decode cL_law 30 = .ok (.bipush 63, 2) := by decide +kernel
theorem dL_law_32 : decode cL_law 32 = .ok (.iand, 1) := by decide +kernel
theorem dL_law_33 : decode cL_law 33 = .ok (.tableswitch 1268 0 35 #[159, 202, 235, 258, 281, 304, 327, 360, 403, 446, 479, 512, 535, 568, 611, 634, 667, 700, 733, 776, 799, 822, 845, 878, 891, 904, 947, 1021, 1084, 1107, 1140, 1183, 1196, 1209, 1222, 1245], 159) := by decide +kernel
theorem dL_law_192 : decode cL_law 192 = .ok (.aload_n 1, 1) := by decide +kernel
theorem dL_law_193 : decode cL_law 193 = .ok (.aload_n 0, 1) := by decide +kernel
theorem dL_law_194 : decode cL_law 194 = .ok (.iload_n 3, 1) := by decide +kernel
theorem dL_law_195 : decode cL_law 195 = .ok (.iconst 1, 1) := by decide +kernel
theorem dL_law_196 : decode cL_law 196 = .ok (.iadd, 1) := by decide +kernel
theorem dL_law_197 : decode cL_law 197 = .ok (.iaload, 1) := by decide +kernel
theorem dL_law_198 : decode cL_law 198 = .ok (.aload_n 0, 1) := by decide +kernel
theorem dL_law_199 : decode cL_law 199 = .ok (.iload_n 3, 1) := by decide +kernel
theorem dL_law_200 : decode cL_law 200 = .ok (.iconst 2, 1) := by decide +kernel
theorem dL_law_201 : decode cL_law 201 = .ok (.iadd, 1) := by decide +kernel
theorem dL_law_202 : decode cL_law 202 = .ok (.iaload, 1) := by decide +kernel
theorem dL_law_203 : decode cL_law 203 = .ok (.aload_n 0, 1) := by decide +kernel
theorem dL_law_204 : decode cL_law 204 = .ok (.iload_n 3, 1) := by decide +kernel
theorem dL_law_205 : decode cL_law 205 = .ok (.iconst 3, 1) := by decide +kernel
theorem dL_law_206 : decode cL_law 206 = .ok (.iadd, 1) := by decide +kernel
theorem dL_law_207 : decode cL_law 207 = .ok (.iaload, 1) := by decide +kernel
theorem dL_law_208 : decode cL_law 208 = .ok (.invokevirtual 13, 3) := by decide +kernel
theorem dL_law_211 : decode cL_law 211 = .ok (.aload_n 2, 1) := by decide +kernel
theorem dL_law_212 : decode cL_law 212 = .ok (.aload_n 0, 1) := by decide +kernel
theorem dL_law_213 : decode cL_law 213 = .ok (.iload_n 3, 1) := by decide +kernel
theorem dL_law_214 : decode cL_law 214 = .ok (.iconst 1, 1) := by decide +kernel
theorem dL_law_215 : decode cL_law 215 = .ok (.iadd, 1) := by decide +kernel
theorem dL_law_216 : decode cL_law 216 = .ok (.iaload, 1) := by decide +kernel
theorem dL_law_217 : decode cL_law 217 = .ok (.aload_n 0, 1) := by decide +kernel
theorem dL_law_218 : decode cL_law 218 = .ok (.iload_n 3, 1) := by decide +kernel
theorem dL_law_219 : decode cL_law 219 = .ok (.iconst 2, 1) := by decide +kernel
theorem dL_law_220 : decode cL_law 220 = .ok (.iadd, 1) := by decide +kernel
theorem dL_law_221 : decode cL_law 221 = .ok (.iaload, 1) := by decide +kernel
theorem dL_law_222 : decode cL_law 222 = .ok (.aload_n 0, 1) := by decide +kernel
theorem dL_law_223 : decode cL_law 223 = .ok (.iload_n 3, 1) := by decide +kernel
theorem dL_law_224 : decode cL_law 224 = .ok (.iconst 3, 1) := by decide +kernel
theorem dL_law_225 : decode cL_law 225 = .ok (.iadd, 1) := by decide +kernel
theorem dL_law_226 : decode cL_law 226 = .ok (.iaload, 1) := by decide +kernel
theorem dL_law_227 : decode cL_law 227 = .ok (.invokevirtual 17, 3) := by decide +kernel
theorem dL_law_230 : decode cL_law 230 = .ok (.if_icmp .eq 1071, 3) := by decide +kernel
theorem dL_law_233 : decode cL_law 233 = .ok (.iconst 0, 1) := by decide +kernel
theorem dL_law_234 : decode cL_law 234 = .ok (.ireturn, 1) := by decide +kernel
theorem dL_law_235 : decode cL_law 235 = .ok (.aload_n 1, 1) := by decide +kernel
theorem dL_law_236 : decode cL_law 236 = .ok (.aload_n 0, 1) := by decide +kernel
theorem dL_law_237 : decode cL_law 237 = .ok (.iload_n 3, 1) := by decide +kernel
theorem dL_law_238 : decode cL_law 238 = .ok (.iconst 1, 1) := by decide +kernel
theorem dL_law_239 : decode cL_law 239 = .ok (.iadd, 1) := by decide +kernel
theorem dL_law_240 : decode cL_law 240 = .ok (.iaload, 1) := by decide +kernel
theorem dL_law_241 : decode cL_law 241 = .ok (.aload_n 0, 1) := by decide +kernel
theorem dL_law_242 : decode cL_law 242 = .ok (.iload_n 3, 1) := by decide +kernel
theorem dL_law_243 : decode cL_law 243 = .ok (.iconst 2, 1) := by decide +kernel
theorem dL_law_244 : decode cL_law 244 = .ok (.iadd, 1) := by decide +kernel
theorem dL_law_245 : decode cL_law 245 = .ok (.iaload, 1) := by decide +kernel
theorem dL_law_246 : decode cL_law 246 = .ok (.invokevirtual 18, 3) := by decide +kernel
theorem dL_law_249 : decode cL_law 249 = .ok (.aload_n 2, 1) := by decide +kernel
theorem dL_law_250 : decode cL_law 250 = .ok (.aload_n 0, 1) := by decide +kernel
theorem dL_law_251 : decode cL_law 251 = .ok (.iload_n 3, 1) := by decide +kernel
theorem dL_law_252 : decode cL_law 252 = .ok (.iconst 1, 1) := by decide +kernel
theorem dL_law_253 : decode cL_law 253 = .ok (.iadd, 1) := by decide +kernel
theorem dL_law_254 : decode cL_law 254 = .ok (.iaload, 1) := by decide +kernel
theorem dL_law_255 : decode cL_law 255 = .ok (.aload_n 0, 1) := by decide +kernel
theorem dL_law_256 : decode cL_law 256 = .ok (.iload_n 3, 1) := by decide +kernel
theorem dL_law_257 : decode cL_law 257 = .ok (.iconst 2, 1) := by decide +kernel
theorem dL_law_258 : decode cL_law 258 = .ok (.iadd, 1) := by decide +kernel
theorem dL_law_259 : decode cL_law 259 = .ok (.iaload, 1) := by decide +kernel
theorem dL_law_260 : decode cL_law 260 = .ok (.invokevirtual 22, 3) := by decide +kernel
theorem dL_law_263 : decode cL_law 263 = .ok (.if_icmp .eq 1038, 3) := by decide +kernel
theorem dL_law_266 : decode cL_law 266 = .ok (.iconst 0, 1) := by decide +kernel
theorem dL_law_267 : decode cL_law 267 = .ok (.ireturn, 1) := by decide +kernel
theorem dL_law_268 : decode cL_law 268 = .ok (.aload_n 1, 1) := by decide +kernel
theorem dL_law_269 : decode cL_law 269 = .ok (.aload_n 0, 1) := by decide +kernel
theorem dL_law_270 : decode cL_law 270 = .ok (.iload_n 3, 1) := by decide +kernel
theorem dL_law_271 : decode cL_law 271 = .ok (.iconst 1, 1) := by decide +kernel
theorem dL_law_272 : decode cL_law 272 = .ok (.iadd, 1) := by decide +kernel
theorem dL_law_273 : decode cL_law 273 = .ok (.iaload, 1) := by decide +kernel
theorem dL_law_274 : decode cL_law 274 = .ok (.invokevirtual 23, 3) := by decide +kernel
theorem dL_law_277 : decode cL_law 277 = .ok (.aload_n 2, 1) := by decide +kernel
theorem dL_law_278 : decode cL_law 278 = .ok (.aload_n 0, 1) := by decide +kernel
theorem dL_law_279 : decode cL_law 279 = .ok (.iload_n 3, 1) := by decide +kernel
theorem dL_law_280 : decode cL_law 280 = .ok (.iconst 1, 1) := by decide +kernel
theorem dL_law_281 : decode cL_law 281 = .ok (.iadd, 1) := by decide +kernel
theorem dL_law_282 : decode cL_law 282 = .ok (.iaload, 1) := by decide +kernel
theorem dL_law_283 : decode cL_law 283 = .ok (.invokevirtual 27, 3) := by decide +kernel
theorem dL_law_286 : decode cL_law 286 = .ok (.if_icmp .eq 1015, 3) := by decide +kernel
theorem dL_law_289 : decode cL_law 289 = .ok (.iconst 0, 1) := by decide +kernel
theorem dL_law_290 : decode cL_law 290 = .ok (.ireturn, 1) := by decide +kernel
theorem dL_law_291 : decode cL_law 291 = .ok (.aload_n 1, 1) := by decide +kernel
theorem dL_law_292 : decode cL_law 292 = .ok (.aload_n 0, 1) := by decide +kernel
theorem dL_law_293 : decode cL_law 293 = .ok (.iload_n 3, 1) := by decide +kernel
theorem dL_law_294 : decode cL_law 294 = .ok (.iconst 1, 1) := by decide +kernel
theorem dL_law_295 : decode cL_law 295 = .ok (.iadd, 1) := by decide +kernel
theorem dL_law_296 : decode cL_law 296 = .ok (.iaload, 1) := by decide +kernel
theorem dL_law_297 : decode cL_law 297 = .ok (.invokevirtual 28, 3) := by decide +kernel
theorem dL_law_300 : decode cL_law 300 = .ok (.aload_n 2, 1) := by decide +kernel
theorem dL_law_301 : decode cL_law 301 = .ok (.aload_n 0, 1) := by decide +kernel
theorem dL_law_302 : decode cL_law 302 = .ok (.iload_n 3, 1) := by decide +kernel
theorem dL_law_303 : decode cL_law 303 = .ok (.iconst 1, 1) := by decide +kernel
theorem dL_law_304 : decode cL_law 304 = .ok (.iadd, 1) := by decide +kernel
theorem dL_law_305 : decode cL_law 305 = .ok (.iaload, 1) := by decide +kernel
theorem dL_law_306 : decode cL_law 306 = .ok (.invokevirtual 31, 3) := by decide +kernel
theorem dL_law_309 : decode cL_law 309 = .ok (.if_icmp .eq 992, 3) := by decide +kernel
theorem dL_law_312 : decode cL_law 312 = .ok (.iconst 0, 1) := by decide +kernel
theorem dL_law_313 : decode cL_law 313 = .ok (.ireturn, 1) := by decide +kernel
theorem dL_law_314 : decode cL_law 314 = .ok (.aload_n 1, 1) := by decide +kernel
theorem dL_law_315 : decode cL_law 315 = .ok (.aload_n 0, 1) := by decide +kernel
theorem dL_law_316 : decode cL_law 316 = .ok (.iload_n 3, 1) := by decide +kernel
theorem dL_law_317 : decode cL_law 317 = .ok (.iconst 1, 1) := by decide +kernel
theorem dL_law_318 : decode cL_law 318 = .ok (.iadd, 1) := by decide +kernel
theorem dL_law_319 : decode cL_law 319 = .ok (.iaload, 1) := by decide +kernel
theorem dL_law_320 : decode cL_law 320 = .ok (.invokevirtual 32, 3) := by decide +kernel
theorem dL_law_323 : decode cL_law 323 = .ok (.aload_n 2, 1) := by decide +kernel
theorem dL_law_324 : decode cL_law 324 = .ok (.aload_n 0, 1) := by decide +kernel
theorem dL_law_325 : decode cL_law 325 = .ok (.iload_n 3, 1) := by decide +kernel
theorem dL_law_326 : decode cL_law 326 = .ok (.iconst 1, 1) := by decide +kernel
theorem dL_law_327 : decode cL_law 327 = .ok (.iadd, 1) := by decide +kernel
theorem dL_law_328 : decode cL_law 328 = .ok (.iaload, 1) := by decide +kernel
theorem dL_law_329 : decode cL_law 329 = .ok (.invokevirtual 35, 3) := by decide +kernel
theorem dL_law_332 : decode cL_law 332 = .ok (.if_icmp .eq 969, 3) := by decide +kernel
theorem dL_law_335 : decode cL_law 335 = .ok (.iconst 0, 1) := by decide +kernel
theorem dL_law_336 : decode cL_law 336 = .ok (.ireturn, 1) := by decide +kernel
theorem dL_law_337 : decode cL_law 337 = .ok (.aload_n 1, 1) := by decide +kernel
theorem dL_law_338 : decode cL_law 338 = .ok (.aload_n 0, 1) := by decide +kernel
theorem dL_law_339 : decode cL_law 339 = .ok (.iload_n 3, 1) := by decide +kernel
theorem dL_law_340 : decode cL_law 340 = .ok (.iconst 1, 1) := by decide +kernel
theorem dL_law_341 : decode cL_law 341 = .ok (.iadd, 1) := by decide +kernel
theorem dL_law_342 : decode cL_law 342 = .ok (.iaload, 1) := by decide +kernel
theorem dL_law_343 : decode cL_law 343 = .ok (.invokevirtual 36, 3) := by decide +kernel
theorem dL_law_346 : decode cL_law 346 = .ok (.aload_n 2, 1) := by decide +kernel
theorem dL_law_347 : decode cL_law 347 = .ok (.aload_n 0, 1) := by decide +kernel
theorem dL_law_348 : decode cL_law 348 = .ok (.iload_n 3, 1) := by decide +kernel
theorem dL_law_349 : decode cL_law 349 = .ok (.iconst 1, 1) := by decide +kernel
theorem dL_law_350 : decode cL_law 350 = .ok (.iadd, 1) := by decide +kernel
theorem dL_law_351 : decode cL_law 351 = .ok (.iaload, 1) := by decide +kernel
theorem dL_law_352 : decode cL_law 352 = .ok (.invokevirtual 39, 3) := by decide +kernel
theorem dL_law_355 : decode cL_law 355 = .ok (.if_icmp .eq 946, 3) := by decide +kernel
theorem dL_law_358 : decode cL_law 358 = .ok (.iconst 0, 1) := by decide +kernel
theorem dL_law_359 : decode cL_law 359 = .ok (.ireturn, 1) := by decide +kernel
theorem dL_law_360 : decode cL_law 360 = .ok (.aload_n 1, 1) := by decide +kernel
theorem dL_law_361 : decode cL_law 361 = .ok (.aload_n 0, 1) := by decide +kernel
theorem dL_law_362 : decode cL_law 362 = .ok (.iload_n 3, 1) := by decide +kernel
theorem dL_law_363 : decode cL_law 363 = .ok (.iconst 1, 1) := by decide +kernel
theorem dL_law_364 : decode cL_law 364 = .ok (.iadd, 1) := by decide +kernel
theorem dL_law_365 : decode cL_law 365 = .ok (.iaload, 1) := by decide +kernel
theorem dL_law_366 : decode cL_law 366 = .ok (.aload_n 0, 1) := by decide +kernel
theorem dL_law_367 : decode cL_law 367 = .ok (.iload_n 3, 1) := by decide +kernel
theorem dL_law_368 : decode cL_law 368 = .ok (.iconst 2, 1) := by decide +kernel
theorem dL_law_369 : decode cL_law 369 = .ok (.iadd, 1) := by decide +kernel
theorem dL_law_370 : decode cL_law 370 = .ok (.iaload, 1) := by decide +kernel
theorem dL_law_371 : decode cL_law 371 = .ok (.invokevirtual 40, 3) := by decide +kernel
theorem dL_law_374 : decode cL_law 374 = .ok (.aload_n 2, 1) := by decide +kernel
theorem dL_law_375 : decode cL_law 375 = .ok (.aload_n 0, 1) := by decide +kernel
theorem dL_law_376 : decode cL_law 376 = .ok (.iload_n 3, 1) := by decide +kernel
theorem dL_law_377 : decode cL_law 377 = .ok (.iconst 1, 1) := by decide +kernel
theorem dL_law_378 : decode cL_law 378 = .ok (.iadd, 1) := by decide +kernel
theorem dL_law_379 : decode cL_law 379 = .ok (.iaload, 1) := by decide +kernel
theorem dL_law_380 : decode cL_law 380 = .ok (.aload_n 0, 1) := by decide +kernel
theorem dL_law_381 : decode cL_law 381 = .ok (.iload_n 3, 1) := by decide +kernel
theorem dL_law_382 : decode cL_law 382 = .ok (.iconst 2, 1) := by decide +kernel
theorem dL_law_383 : decode cL_law 383 = .ok (.iadd, 1) := by decide +kernel
theorem dL_law_384 : decode cL_law 384 = .ok (.iaload, 1) := by decide +kernel
theorem dL_law_385 : decode cL_law 385 = .ok (.invokevirtual 43, 3) := by decide +kernel
theorem dL_law_388 : decode cL_law 388 = .ok (.if_icmp .eq 913, 3) := by decide +kernel
theorem dL_law_391 : decode cL_law 391 = .ok (.iconst 0, 1) := by decide +kernel
theorem dL_law_392 : decode cL_law 392 = .ok (.ireturn, 1) := by decide +kernel
theorem dL_law_393 : decode cL_law 393 = .ok (.aload_n 1, 1) := by decide +kernel
theorem dL_law_394 : decode cL_law 394 = .ok (.aload_n 0, 1) := by decide +kernel
theorem dL_law_395 : decode cL_law 395 = .ok (.iload_n 3, 1) := by decide +kernel
theorem dL_law_396 : decode cL_law 396 = .ok (.iconst 1, 1) := by decide +kernel
theorem dL_law_397 : decode cL_law 397 = .ok (.iadd, 1) := by decide +kernel
theorem dL_law_398 : decode cL_law 398 = .ok (.iaload, 1) := by decide +kernel
theorem dL_law_399 : decode cL_law 399 = .ok (.aload_n 0, 1) := by decide +kernel
theorem dL_law_400 : decode cL_law 400 = .ok (.iload_n 3, 1) := by decide +kernel
theorem dL_law_401 : decode cL_law 401 = .ok (.iconst 2, 1) := by decide +kernel
theorem dL_law_402 : decode cL_law 402 = .ok (.iadd, 1) := by decide +kernel
theorem dL_law_403 : decode cL_law 403 = .ok (.iaload, 1) := by decide +kernel
theorem dL_law_404 : decode cL_law 404 = .ok (.aload_n 0, 1) := by decide +kernel
theorem dL_law_405 : decode cL_law 405 = .ok (.iload_n 3, 1) := by decide +kernel
theorem dL_law_406 : decode cL_law 406 = .ok (.iconst 3, 1) := by decide +kernel
theorem dL_law_407 : decode cL_law 407 = .ok (.iadd, 1) := by decide +kernel
theorem dL_law_408 : decode cL_law 408 = .ok (.iaload, 1) := by decide +kernel
theorem dL_law_409 : decode cL_law 409 = .ok (.invokevirtual 44, 3) := by decide +kernel
theorem dL_law_412 : decode cL_law 412 = .ok (.aload_n 2, 1) := by decide +kernel
theorem dL_law_413 : decode cL_law 413 = .ok (.aload_n 0, 1) := by decide +kernel
theorem dL_law_414 : decode cL_law 414 = .ok (.iload_n 3, 1) := by decide +kernel
theorem dL_law_415 : decode cL_law 415 = .ok (.iconst 1, 1) := by decide +kernel
theorem dL_law_416 : decode cL_law 416 = .ok (.iadd, 1) := by decide +kernel
theorem dL_law_417 : decode cL_law 417 = .ok (.iaload, 1) := by decide +kernel
theorem dL_law_418 : decode cL_law 418 = .ok (.aload_n 0, 1) := by decide +kernel
theorem dL_law_419 : decode cL_law 419 = .ok (.iload_n 3, 1) := by decide +kernel
theorem dL_law_420 : decode cL_law 420 = .ok (.iconst 2, 1) := by decide +kernel
theorem dL_law_421 : decode cL_law 421 = .ok (.iadd, 1) := by decide +kernel
theorem dL_law_422 : decode cL_law 422 = .ok (.iaload, 1) := by decide +kernel
theorem dL_law_423 : decode cL_law 423 = .ok (.aload_n 0, 1) := by decide +kernel
theorem dL_law_424 : decode cL_law 424 = .ok (.iload_n 3, 1) := by decide +kernel
theorem dL_law_425 : decode cL_law 425 = .ok (.iconst 3, 1) := by decide +kernel
theorem dL_law_426 : decode cL_law 426 = .ok (.iadd, 1) := by decide +kernel
theorem dL_law_427 : decode cL_law 427 = .ok (.iaload, 1) := by decide +kernel
theorem dL_law_428 : decode cL_law 428 = .ok (.invokevirtual 47, 3) := by decide +kernel
theorem dL_law_431 : decode cL_law 431 = .ok (.if_icmp .eq 870, 3) := by decide +kernel
theorem dL_law_434 : decode cL_law 434 = .ok (.iconst 0, 1) := by decide +kernel
theorem dL_law_435 : decode cL_law 435 = .ok (.ireturn, 1) := by decide +kernel
theorem dL_law_436 : decode cL_law 436 = .ok (.aload_n 1, 1) := by decide +kernel
theorem dL_law_437 : decode cL_law 437 = .ok (.aload_n 0, 1) := by decide +kernel
theorem dL_law_438 : decode cL_law 438 = .ok (.iload_n 3, 1) := by decide +kernel
theorem dL_law_439 : decode cL_law 439 = .ok (.iconst 1, 1) := by decide +kernel
theorem dL_law_440 : decode cL_law 440 = .ok (.iadd, 1) := by decide +kernel
theorem dL_law_441 : decode cL_law 441 = .ok (.iaload, 1) := by decide +kernel
theorem dL_law_442 : decode cL_law 442 = .ok (.aload_n 0, 1) := by decide +kernel
theorem dL_law_443 : decode cL_law 443 = .ok (.iload_n 3, 1) := by decide +kernel
theorem dL_law_444 : decode cL_law 444 = .ok (.iconst 2, 1) := by decide +kernel
theorem dL_law_445 : decode cL_law 445 = .ok (.iadd, 1) := by decide +kernel
theorem dL_law_446 : decode cL_law 446 = .ok (.iaload, 1) := by decide +kernel
theorem dL_law_447 : decode cL_law 447 = .ok (.aload_n 0, 1) := by decide +kernel
theorem dL_law_448 : decode cL_law 448 = .ok (.iload_n 3, 1) := by decide +kernel
theorem dL_law_449 : decode cL_law 449 = .ok (.iconst 3, 1) := by decide +kernel
theorem dL_law_450 : decode cL_law 450 = .ok (.iadd, 1) := by decide +kernel
theorem dL_law_451 : decode cL_law 451 = .ok (.iaload, 1) := by decide +kernel
theorem dL_law_452 : decode cL_law 452 = .ok (.invokevirtual 48, 3) := by decide +kernel
theorem dL_law_455 : decode cL_law 455 = .ok (.aload_n 2, 1) := by decide +kernel
theorem dL_law_456 : decode cL_law 456 = .ok (.aload_n 0, 1) := by decide +kernel
theorem dL_law_457 : decode cL_law 457 = .ok (.iload_n 3, 1) := by decide +kernel
theorem dL_law_458 : decode cL_law 458 = .ok (.iconst 1, 1) := by decide +kernel
theorem dL_law_459 : decode cL_law 459 = .ok (.iadd, 1) := by decide +kernel
theorem dL_law_460 : decode cL_law 460 = .ok (.iaload, 1) := by decide +kernel
theorem dL_law_461 : decode cL_law 461 = .ok (.aload_n 0, 1) := by decide +kernel
theorem dL_law_462 : decode cL_law 462 = .ok (.iload_n 3, 1) := by decide +kernel
theorem dL_law_463 : decode cL_law 463 = .ok (.iconst 2, 1) := by decide +kernel
theorem dL_law_464 : decode cL_law 464 = .ok (.iadd, 1) := by decide +kernel
theorem dL_law_465 : decode cL_law 465 = .ok (.iaload, 1) := by decide +kernel
theorem dL_law_466 : decode cL_law 466 = .ok (.aload_n 0, 1) := by decide +kernel
theorem dL_law_467 : decode cL_law 467 = .ok (.iload_n 3, 1) := by decide +kernel
theorem dL_law_468 : decode cL_law 468 = .ok (.iconst 3, 1) := by decide +kernel
theorem dL_law_469 : decode cL_law 469 = .ok (.iadd, 1) := by decide +kernel
theorem dL_law_470 : decode cL_law 470 = .ok (.iaload, 1) := by decide +kernel
theorem dL_law_471 : decode cL_law 471 = .ok (.invokevirtual 51, 3) := by decide +kernel
theorem dL_law_474 : decode cL_law 474 = .ok (.if_icmp .eq 827, 3) := by decide +kernel
theorem dL_law_477 : decode cL_law 477 = .ok (.iconst 0, 1) := by decide +kernel
theorem dL_law_478 : decode cL_law 478 = .ok (.ireturn, 1) := by decide +kernel
theorem dL_law_479 : decode cL_law 479 = .ok (.aload_n 1, 1) := by decide +kernel
theorem dL_law_480 : decode cL_law 480 = .ok (.aload_n 0, 1) := by decide +kernel
theorem dL_law_481 : decode cL_law 481 = .ok (.iload_n 3, 1) := by decide +kernel
theorem dL_law_482 : decode cL_law 482 = .ok (.iconst 1, 1) := by decide +kernel
theorem dL_law_483 : decode cL_law 483 = .ok (.iadd, 1) := by decide +kernel
theorem dL_law_484 : decode cL_law 484 = .ok (.iaload, 1) := by decide +kernel
theorem dL_law_485 : decode cL_law 485 = .ok (.aload_n 0, 1) := by decide +kernel
theorem dL_law_486 : decode cL_law 486 = .ok (.iload_n 3, 1) := by decide +kernel
theorem dL_law_487 : decode cL_law 487 = .ok (.iconst 2, 1) := by decide +kernel
theorem dL_law_488 : decode cL_law 488 = .ok (.iadd, 1) := by decide +kernel
theorem dL_law_489 : decode cL_law 489 = .ok (.iaload, 1) := by decide +kernel
theorem dL_law_490 : decode cL_law 490 = .ok (.invokevirtual 52, 3) := by decide +kernel
theorem dL_law_493 : decode cL_law 493 = .ok (.aload_n 2, 1) := by decide +kernel
theorem dL_law_494 : decode cL_law 494 = .ok (.aload_n 0, 1) := by decide +kernel
theorem dL_law_495 : decode cL_law 495 = .ok (.iload_n 3, 1) := by decide +kernel
theorem dL_law_496 : decode cL_law 496 = .ok (.iconst 1, 1) := by decide +kernel
theorem dL_law_497 : decode cL_law 497 = .ok (.iadd, 1) := by decide +kernel
theorem dL_law_498 : decode cL_law 498 = .ok (.iaload, 1) := by decide +kernel
theorem dL_law_499 : decode cL_law 499 = .ok (.aload_n 0, 1) := by decide +kernel
theorem dL_law_500 : decode cL_law 500 = .ok (.iload_n 3, 1) := by decide +kernel
theorem dL_law_501 : decode cL_law 501 = .ok (.iconst 2, 1) := by decide +kernel
theorem dL_law_502 : decode cL_law 502 = .ok (.iadd, 1) := by decide +kernel
theorem dL_law_503 : decode cL_law 503 = .ok (.iaload, 1) := by decide +kernel
theorem dL_law_504 : decode cL_law 504 = .ok (.invokevirtual 55, 3) := by decide +kernel
theorem dL_law_507 : decode cL_law 507 = .ok (.if_icmp .eq 794, 3) := by decide +kernel
theorem dL_law_510 : decode cL_law 510 = .ok (.iconst 0, 1) := by decide +kernel
theorem dL_law_511 : decode cL_law 511 = .ok (.ireturn, 1) := by decide +kernel
theorem dL_law_512 : decode cL_law 512 = .ok (.aload_n 1, 1) := by decide +kernel
theorem dL_law_513 : decode cL_law 513 = .ok (.aload_n 0, 1) := by decide +kernel
theorem dL_law_514 : decode cL_law 514 = .ok (.iload_n 3, 1) := by decide +kernel
theorem dL_law_515 : decode cL_law 515 = .ok (.iconst 1, 1) := by decide +kernel
theorem dL_law_516 : decode cL_law 516 = .ok (.iadd, 1) := by decide +kernel
theorem dL_law_517 : decode cL_law 517 = .ok (.iaload, 1) := by decide +kernel
theorem dL_law_518 : decode cL_law 518 = .ok (.aload_n 0, 1) := by decide +kernel
theorem dL_law_519 : decode cL_law 519 = .ok (.iload_n 3, 1) := by decide +kernel
theorem dL_law_520 : decode cL_law 520 = .ok (.iconst 2, 1) := by decide +kernel
theorem dL_law_521 : decode cL_law 521 = .ok (.iadd, 1) := by decide +kernel
theorem dL_law_522 : decode cL_law 522 = .ok (.iaload, 1) := by decide +kernel
theorem dL_law_523 : decode cL_law 523 = .ok (.invokevirtual 56, 3) := by decide +kernel
theorem dL_law_526 : decode cL_law 526 = .ok (.aload_n 2, 1) := by decide +kernel
theorem dL_law_527 : decode cL_law 527 = .ok (.aload_n 0, 1) := by decide +kernel
theorem dL_law_528 : decode cL_law 528 = .ok (.iload_n 3, 1) := by decide +kernel
theorem dL_law_529 : decode cL_law 529 = .ok (.iconst 1, 1) := by decide +kernel
theorem dL_law_530 : decode cL_law 530 = .ok (.iadd, 1) := by decide +kernel
theorem dL_law_531 : decode cL_law 531 = .ok (.iaload, 1) := by decide +kernel
theorem dL_law_532 : decode cL_law 532 = .ok (.aload_n 0, 1) := by decide +kernel
theorem dL_law_533 : decode cL_law 533 = .ok (.iload_n 3, 1) := by decide +kernel
theorem dL_law_534 : decode cL_law 534 = .ok (.iconst 2, 1) := by decide +kernel
theorem dL_law_535 : decode cL_law 535 = .ok (.iadd, 1) := by decide +kernel
theorem dL_law_536 : decode cL_law 536 = .ok (.iaload, 1) := by decide +kernel
theorem dL_law_537 : decode cL_law 537 = .ok (.invokevirtual 59, 3) := by decide +kernel
theorem dL_law_540 : decode cL_law 540 = .ok (.if_icmp .eq 761, 3) := by decide +kernel
theorem dL_law_543 : decode cL_law 543 = .ok (.iconst 0, 1) := by decide +kernel
theorem dL_law_544 : decode cL_law 544 = .ok (.ireturn, 1) := by decide +kernel
theorem dL_law_545 : decode cL_law 545 = .ok (.aload_n 1, 1) := by decide +kernel
theorem dL_law_546 : decode cL_law 546 = .ok (.aload_n 0, 1) := by decide +kernel
theorem dL_law_547 : decode cL_law 547 = .ok (.iload_n 3, 1) := by decide +kernel
theorem dL_law_548 : decode cL_law 548 = .ok (.iconst 1, 1) := by decide +kernel
theorem dL_law_549 : decode cL_law 549 = .ok (.iadd, 1) := by decide +kernel
theorem dL_law_550 : decode cL_law 550 = .ok (.iaload, 1) := by decide +kernel
theorem dL_law_551 : decode cL_law 551 = .ok (.invokevirtual 60, 3) := by decide +kernel
theorem dL_law_554 : decode cL_law 554 = .ok (.aload_n 2, 1) := by decide +kernel
theorem dL_law_555 : decode cL_law 555 = .ok (.aload_n 0, 1) := by decide +kernel
theorem dL_law_556 : decode cL_law 556 = .ok (.iload_n 3, 1) := by decide +kernel
theorem dL_law_557 : decode cL_law 557 = .ok (.iconst 1, 1) := by decide +kernel
theorem dL_law_558 : decode cL_law 558 = .ok (.iadd, 1) := by decide +kernel
theorem dL_law_559 : decode cL_law 559 = .ok (.iaload, 1) := by decide +kernel
theorem dL_law_560 : decode cL_law 560 = .ok (.invokevirtual 63, 3) := by decide +kernel
theorem dL_law_563 : decode cL_law 563 = .ok (.if_icmp .eq 738, 3) := by decide +kernel
theorem dL_law_566 : decode cL_law 566 = .ok (.iconst 0, 1) := by decide +kernel
theorem dL_law_567 : decode cL_law 567 = .ok (.ireturn, 1) := by decide +kernel
theorem dL_law_568 : decode cL_law 568 = .ok (.aload_n 1, 1) := by decide +kernel
theorem dL_law_569 : decode cL_law 569 = .ok (.aload_n 0, 1) := by decide +kernel
theorem dL_law_570 : decode cL_law 570 = .ok (.iload_n 3, 1) := by decide +kernel
theorem dL_law_571 : decode cL_law 571 = .ok (.iconst 1, 1) := by decide +kernel
theorem dL_law_572 : decode cL_law 572 = .ok (.iadd, 1) := by decide +kernel
theorem dL_law_573 : decode cL_law 573 = .ok (.iaload, 1) := by decide +kernel
theorem dL_law_574 : decode cL_law 574 = .ok (.aload_n 0, 1) := by decide +kernel
theorem dL_law_575 : decode cL_law 575 = .ok (.iload_n 3, 1) := by decide +kernel
theorem dL_law_576 : decode cL_law 576 = .ok (.iconst 2, 1) := by decide +kernel
theorem dL_law_577 : decode cL_law 577 = .ok (.iadd, 1) := by decide +kernel
theorem dL_law_578 : decode cL_law 578 = .ok (.iaload, 1) := by decide +kernel
theorem dL_law_579 : decode cL_law 579 = .ok (.invokevirtual 64, 3) := by decide +kernel
theorem dL_law_582 : decode cL_law 582 = .ok (.aload_n 2, 1) := by decide +kernel
theorem dL_law_583 : decode cL_law 583 = .ok (.aload_n 0, 1) := by decide +kernel
theorem dL_law_584 : decode cL_law 584 = .ok (.iload_n 3, 1) := by decide +kernel
theorem dL_law_585 : decode cL_law 585 = .ok (.iconst 1, 1) := by decide +kernel
theorem dL_law_586 : decode cL_law 586 = .ok (.iadd, 1) := by decide +kernel
theorem dL_law_587 : decode cL_law 587 = .ok (.iaload, 1) := by decide +kernel
theorem dL_law_588 : decode cL_law 588 = .ok (.aload_n 0, 1) := by decide +kernel
theorem dL_law_589 : decode cL_law 589 = .ok (.iload_n 3, 1) := by decide +kernel
theorem dL_law_590 : decode cL_law 590 = .ok (.iconst 2, 1) := by decide +kernel
theorem dL_law_591 : decode cL_law 591 = .ok (.iadd, 1) := by decide +kernel
theorem dL_law_592 : decode cL_law 592 = .ok (.iaload, 1) := by decide +kernel
theorem dL_law_593 : decode cL_law 593 = .ok (.invokevirtual 67, 3) := by decide +kernel
theorem dL_law_596 : decode cL_law 596 = .ok (.if_icmp .eq 705, 3) := by decide +kernel
theorem dL_law_599 : decode cL_law 599 = .ok (.iconst 0, 1) := by decide +kernel
theorem dL_law_600 : decode cL_law 600 = .ok (.ireturn, 1) := by decide +kernel
theorem dL_law_601 : decode cL_law 601 = .ok (.aload_n 1, 1) := by decide +kernel
theorem dL_law_602 : decode cL_law 602 = .ok (.aload_n 0, 1) := by decide +kernel
theorem dL_law_603 : decode cL_law 603 = .ok (.iload_n 3, 1) := by decide +kernel
theorem dL_law_604 : decode cL_law 604 = .ok (.iconst 1, 1) := by decide +kernel
theorem dL_law_605 : decode cL_law 605 = .ok (.iadd, 1) := by decide +kernel
theorem dL_law_606 : decode cL_law 606 = .ok (.iaload, 1) := by decide +kernel
theorem dL_law_607 : decode cL_law 607 = .ok (.aload_n 0, 1) := by decide +kernel
theorem dL_law_608 : decode cL_law 608 = .ok (.iload_n 3, 1) := by decide +kernel
theorem dL_law_609 : decode cL_law 609 = .ok (.iconst 2, 1) := by decide +kernel
theorem dL_law_610 : decode cL_law 610 = .ok (.iadd, 1) := by decide +kernel
theorem dL_law_611 : decode cL_law 611 = .ok (.iaload, 1) := by decide +kernel
theorem dL_law_612 : decode cL_law 612 = .ok (.aload_n 0, 1) := by decide +kernel
theorem dL_law_613 : decode cL_law 613 = .ok (.iload_n 3, 1) := by decide +kernel
theorem dL_law_614 : decode cL_law 614 = .ok (.iconst 3, 1) := by decide +kernel
theorem dL_law_615 : decode cL_law 615 = .ok (.iadd, 1) := by decide +kernel
theorem dL_law_616 : decode cL_law 616 = .ok (.iaload, 1) := by decide +kernel
theorem dL_law_617 : decode cL_law 617 = .ok (.invokevirtual 68, 3) := by decide +kernel
theorem dL_law_620 : decode cL_law 620 = .ok (.aload_n 2, 1) := by decide +kernel
theorem dL_law_621 : decode cL_law 621 = .ok (.aload_n 0, 1) := by decide +kernel
theorem dL_law_622 : decode cL_law 622 = .ok (.iload_n 3, 1) := by decide +kernel
theorem dL_law_623 : decode cL_law 623 = .ok (.iconst 1, 1) := by decide +kernel
theorem dL_law_624 : decode cL_law 624 = .ok (.iadd, 1) := by decide +kernel
theorem dL_law_625 : decode cL_law 625 = .ok (.iaload, 1) := by decide +kernel
theorem dL_law_626 : decode cL_law 626 = .ok (.aload_n 0, 1) := by decide +kernel
theorem dL_law_627 : decode cL_law 627 = .ok (.iload_n 3, 1) := by decide +kernel
theorem dL_law_628 : decode cL_law 628 = .ok (.iconst 2, 1) := by decide +kernel
theorem dL_law_629 : decode cL_law 629 = .ok (.iadd, 1) := by decide +kernel
theorem dL_law_630 : decode cL_law 630 = .ok (.iaload, 1) := by decide +kernel
theorem dL_law_631 : decode cL_law 631 = .ok (.aload_n 0, 1) := by decide +kernel
theorem dL_law_632 : decode cL_law 632 = .ok (.iload_n 3, 1) := by decide +kernel
theorem dL_law_633 : decode cL_law 633 = .ok (.iconst 3, 1) := by decide +kernel
theorem dL_law_634 : decode cL_law 634 = .ok (.iadd, 1) := by decide +kernel
theorem dL_law_635 : decode cL_law 635 = .ok (.iaload, 1) := by decide +kernel
theorem dL_law_636 : decode cL_law 636 = .ok (.invokevirtual 71, 3) := by decide +kernel
theorem dL_law_639 : decode cL_law 639 = .ok (.if_icmp .eq 662, 3) := by decide +kernel
theorem dL_law_642 : decode cL_law 642 = .ok (.iconst 0, 1) := by decide +kernel
theorem dL_law_643 : decode cL_law 643 = .ok (.ireturn, 1) := by decide +kernel
theorem dL_law_644 : decode cL_law 644 = .ok (.aload_n 1, 1) := by decide +kernel
theorem dL_law_645 : decode cL_law 645 = .ok (.aload_n 0, 1) := by decide +kernel
theorem dL_law_646 : decode cL_law 646 = .ok (.iload_n 3, 1) := by decide +kernel
theorem dL_law_647 : decode cL_law 647 = .ok (.iconst 1, 1) := by decide +kernel
theorem dL_law_648 : decode cL_law 648 = .ok (.iadd, 1) := by decide +kernel
theorem dL_law_649 : decode cL_law 649 = .ok (.iaload, 1) := by decide +kernel
theorem dL_law_650 : decode cL_law 650 = .ok (.invokevirtual 72, 3) := by decide +kernel
theorem dL_law_653 : decode cL_law 653 = .ok (.aload_n 2, 1) := by decide +kernel
theorem dL_law_654 : decode cL_law 654 = .ok (.aload_n 0, 1) := by decide +kernel
theorem dL_law_655 : decode cL_law 655 = .ok (.iload_n 3, 1) := by decide +kernel
theorem dL_law_656 : decode cL_law 656 = .ok (.iconst 1, 1) := by decide +kernel
theorem dL_law_657 : decode cL_law 657 = .ok (.iadd, 1) := by decide +kernel
theorem dL_law_658 : decode cL_law 658 = .ok (.iaload, 1) := by decide +kernel
theorem dL_law_659 : decode cL_law 659 = .ok (.invokevirtual 75, 3) := by decide +kernel
theorem dL_law_662 : decode cL_law 662 = .ok (.if_icmp .eq 639, 3) := by decide +kernel
theorem dL_law_665 : decode cL_law 665 = .ok (.iconst 0, 1) := by decide +kernel
theorem dL_law_666 : decode cL_law 666 = .ok (.ireturn, 1) := by decide +kernel
theorem dL_law_667 : decode cL_law 667 = .ok (.aload_n 1, 1) := by decide +kernel
theorem dL_law_668 : decode cL_law 668 = .ok (.aload_n 0, 1) := by decide +kernel
theorem dL_law_669 : decode cL_law 669 = .ok (.iload_n 3, 1) := by decide +kernel
theorem dL_law_670 : decode cL_law 670 = .ok (.iconst 1, 1) := by decide +kernel
theorem dL_law_671 : decode cL_law 671 = .ok (.iadd, 1) := by decide +kernel
theorem dL_law_672 : decode cL_law 672 = .ok (.iaload, 1) := by decide +kernel
theorem dL_law_673 : decode cL_law 673 = .ok (.aload_n 0, 1) := by decide +kernel
theorem dL_law_674 : decode cL_law 674 = .ok (.iload_n 3, 1) := by decide +kernel
theorem dL_law_675 : decode cL_law 675 = .ok (.iconst 2, 1) := by decide +kernel
theorem dL_law_676 : decode cL_law 676 = .ok (.iadd, 1) := by decide +kernel
theorem dL_law_677 : decode cL_law 677 = .ok (.iaload, 1) := by decide +kernel
theorem dL_law_678 : decode cL_law 678 = .ok (.invokevirtual 76, 3) := by decide +kernel
theorem dL_law_681 : decode cL_law 681 = .ok (.aload_n 2, 1) := by decide +kernel
theorem dL_law_682 : decode cL_law 682 = .ok (.aload_n 0, 1) := by decide +kernel
theorem dL_law_683 : decode cL_law 683 = .ok (.iload_n 3, 1) := by decide +kernel
theorem dL_law_684 : decode cL_law 684 = .ok (.iconst 1, 1) := by decide +kernel
theorem dL_law_685 : decode cL_law 685 = .ok (.iadd, 1) := by decide +kernel
theorem dL_law_686 : decode cL_law 686 = .ok (.iaload, 1) := by decide +kernel
theorem dL_law_687 : decode cL_law 687 = .ok (.aload_n 0, 1) := by decide +kernel
theorem dL_law_688 : decode cL_law 688 = .ok (.iload_n 3, 1) := by decide +kernel
theorem dL_law_689 : decode cL_law 689 = .ok (.iconst 2, 1) := by decide +kernel
theorem dL_law_690 : decode cL_law 690 = .ok (.iadd, 1) := by decide +kernel
theorem dL_law_691 : decode cL_law 691 = .ok (.iaload, 1) := by decide +kernel
theorem dL_law_692 : decode cL_law 692 = .ok (.invokevirtual 79, 3) := by decide +kernel
theorem dL_law_695 : decode cL_law 695 = .ok (.if_icmp .eq 606, 3) := by decide +kernel
theorem dL_law_698 : decode cL_law 698 = .ok (.iconst 0, 1) := by decide +kernel
theorem dL_law_699 : decode cL_law 699 = .ok (.ireturn, 1) := by decide +kernel
theorem dL_law_700 : decode cL_law 700 = .ok (.aload_n 1, 1) := by decide +kernel
theorem dL_law_701 : decode cL_law 701 = .ok (.aload_n 0, 1) := by decide +kernel
theorem dL_law_702 : decode cL_law 702 = .ok (.iload_n 3, 1) := by decide +kernel
theorem dL_law_703 : decode cL_law 703 = .ok (.iconst 1, 1) := by decide +kernel
theorem dL_law_704 : decode cL_law 704 = .ok (.iadd, 1) := by decide +kernel
theorem dL_law_705 : decode cL_law 705 = .ok (.iaload, 1) := by decide +kernel
theorem dL_law_706 : decode cL_law 706 = .ok (.aload_n 0, 1) := by decide +kernel
theorem dL_law_707 : decode cL_law 707 = .ok (.iload_n 3, 1) := by decide +kernel
theorem dL_law_708 : decode cL_law 708 = .ok (.iconst 2, 1) := by decide +kernel
theorem dL_law_709 : decode cL_law 709 = .ok (.iadd, 1) := by decide +kernel
theorem dL_law_710 : decode cL_law 710 = .ok (.iaload, 1) := by decide +kernel
theorem dL_law_711 : decode cL_law 711 = .ok (.invokevirtual 80, 3) := by decide +kernel
theorem dL_law_714 : decode cL_law 714 = .ok (.aload_n 2, 1) := by decide +kernel
theorem dL_law_715 : decode cL_law 715 = .ok (.aload_n 0, 1) := by decide +kernel
theorem dL_law_716 : decode cL_law 716 = .ok (.iload_n 3, 1) := by decide +kernel
theorem dL_law_717 : decode cL_law 717 = .ok (.iconst 1, 1) := by decide +kernel
theorem dL_law_718 : decode cL_law 718 = .ok (.iadd, 1) := by decide +kernel
theorem dL_law_719 : decode cL_law 719 = .ok (.iaload, 1) := by decide +kernel
theorem dL_law_720 : decode cL_law 720 = .ok (.aload_n 0, 1) := by decide +kernel
theorem dL_law_721 : decode cL_law 721 = .ok (.iload_n 3, 1) := by decide +kernel
theorem dL_law_722 : decode cL_law 722 = .ok (.iconst 2, 1) := by decide +kernel
theorem dL_law_723 : decode cL_law 723 = .ok (.iadd, 1) := by decide +kernel
theorem dL_law_724 : decode cL_law 724 = .ok (.iaload, 1) := by decide +kernel
theorem dL_law_725 : decode cL_law 725 = .ok (.invokevirtual 83, 3) := by decide +kernel
theorem dL_law_728 : decode cL_law 728 = .ok (.if_icmp .eq 573, 3) := by decide +kernel
theorem dL_law_731 : decode cL_law 731 = .ok (.iconst 0, 1) := by decide +kernel
theorem dL_law_732 : decode cL_law 732 = .ok (.ireturn, 1) := by decide +kernel
theorem dL_law_733 : decode cL_law 733 = .ok (.aload_n 1, 1) := by decide +kernel
theorem dL_law_734 : decode cL_law 734 = .ok (.aload_n 0, 1) := by decide +kernel
theorem dL_law_735 : decode cL_law 735 = .ok (.iload_n 3, 1) := by decide +kernel
theorem dL_law_736 : decode cL_law 736 = .ok (.iconst 1, 1) := by decide +kernel
theorem dL_law_737 : decode cL_law 737 = .ok (.iadd, 1) := by decide +kernel
theorem dL_law_738 : decode cL_law 738 = .ok (.iaload, 1) := by decide +kernel
theorem dL_law_739 : decode cL_law 739 = .ok (.aload_n 0, 1) := by decide +kernel
theorem dL_law_740 : decode cL_law 740 = .ok (.iload_n 3, 1) := by decide +kernel
theorem dL_law_741 : decode cL_law 741 = .ok (.iconst 2, 1) := by decide +kernel
theorem dL_law_742 : decode cL_law 742 = .ok (.iadd, 1) := by decide +kernel
theorem dL_law_743 : decode cL_law 743 = .ok (.iaload, 1) := by decide +kernel
theorem dL_law_744 : decode cL_law 744 = .ok (.invokevirtual 84, 3) := by decide +kernel
theorem dL_law_747 : decode cL_law 747 = .ok (.aload_n 2, 1) := by decide +kernel
theorem dL_law_748 : decode cL_law 748 = .ok (.aload_n 0, 1) := by decide +kernel
theorem dL_law_749 : decode cL_law 749 = .ok (.iload_n 3, 1) := by decide +kernel
theorem dL_law_750 : decode cL_law 750 = .ok (.iconst 1, 1) := by decide +kernel
theorem dL_law_751 : decode cL_law 751 = .ok (.iadd, 1) := by decide +kernel
theorem dL_law_752 : decode cL_law 752 = .ok (.iaload, 1) := by decide +kernel
theorem dL_law_753 : decode cL_law 753 = .ok (.aload_n 0, 1) := by decide +kernel
theorem dL_law_754 : decode cL_law 754 = .ok (.iload_n 3, 1) := by decide +kernel
theorem dL_law_755 : decode cL_law 755 = .ok (.iconst 2, 1) := by decide +kernel
theorem dL_law_756 : decode cL_law 756 = .ok (.iadd, 1) := by decide +kernel
theorem dL_law_757 : decode cL_law 757 = .ok (.iaload, 1) := by decide +kernel
theorem dL_law_758 : decode cL_law 758 = .ok (.invokevirtual 87, 3) := by decide +kernel
theorem dL_law_761 : decode cL_law 761 = .ok (.if_icmp .eq 540, 3) := by decide +kernel
theorem dL_law_764 : decode cL_law 764 = .ok (.iconst 0, 1) := by decide +kernel
theorem dL_law_765 : decode cL_law 765 = .ok (.ireturn, 1) := by decide +kernel
theorem dL_law_766 : decode cL_law 766 = .ok (.aload_n 1, 1) := by decide +kernel
theorem dL_law_767 : decode cL_law 767 = .ok (.aload_n 0, 1) := by decide +kernel
theorem dL_law_768 : decode cL_law 768 = .ok (.iload_n 3, 1) := by decide +kernel
theorem dL_law_769 : decode cL_law 769 = .ok (.iconst 1, 1) := by decide +kernel
theorem dL_law_770 : decode cL_law 770 = .ok (.iadd, 1) := by decide +kernel
theorem dL_law_771 : decode cL_law 771 = .ok (.iaload, 1) := by decide +kernel
theorem dL_law_772 : decode cL_law 772 = .ok (.aload_n 0, 1) := by decide +kernel
theorem dL_law_773 : decode cL_law 773 = .ok (.iload_n 3, 1) := by decide +kernel
theorem dL_law_774 : decode cL_law 774 = .ok (.iconst 2, 1) := by decide +kernel
theorem dL_law_775 : decode cL_law 775 = .ok (.iadd, 1) := by decide +kernel
theorem dL_law_776 : decode cL_law 776 = .ok (.iaload, 1) := by decide +kernel
theorem dL_law_777 : decode cL_law 777 = .ok (.aload_n 0, 1) := by decide +kernel
theorem dL_law_778 : decode cL_law 778 = .ok (.iload_n 3, 1) := by decide +kernel
theorem dL_law_779 : decode cL_law 779 = .ok (.iconst 3, 1) := by decide +kernel
theorem dL_law_780 : decode cL_law 780 = .ok (.iadd, 1) := by decide +kernel
theorem dL_law_781 : decode cL_law 781 = .ok (.iaload, 1) := by decide +kernel
theorem dL_law_782 : decode cL_law 782 = .ok (.invokevirtual 88, 3) := by decide +kernel
theorem dL_law_785 : decode cL_law 785 = .ok (.aload_n 2, 1) := by decide +kernel
theorem dL_law_786 : decode cL_law 786 = .ok (.aload_n 0, 1) := by decide +kernel
theorem dL_law_787 : decode cL_law 787 = .ok (.iload_n 3, 1) := by decide +kernel
theorem dL_law_788 : decode cL_law 788 = .ok (.iconst 1, 1) := by decide +kernel
theorem dL_law_789 : decode cL_law 789 = .ok (.iadd, 1) := by decide +kernel
theorem dL_law_790 : decode cL_law 790 = .ok (.iaload, 1) := by decide +kernel
theorem dL_law_791 : decode cL_law 791 = .ok (.aload_n 0, 1) := by decide +kernel
theorem dL_law_792 : decode cL_law 792 = .ok (.iload_n 3, 1) := by decide +kernel
theorem dL_law_793 : decode cL_law 793 = .ok (.iconst 2, 1) := by decide +kernel
theorem dL_law_794 : decode cL_law 794 = .ok (.iadd, 1) := by decide +kernel
theorem dL_law_795 : decode cL_law 795 = .ok (.iaload, 1) := by decide +kernel
theorem dL_law_796 : decode cL_law 796 = .ok (.aload_n 0, 1) := by decide +kernel
theorem dL_law_797 : decode cL_law 797 = .ok (.iload_n 3, 1) := by decide +kernel
theorem dL_law_798 : decode cL_law 798 = .ok (.iconst 3, 1) := by decide +kernel
theorem dL_law_799 : decode cL_law 799 = .ok (.iadd, 1) := by decide +kernel
theorem dL_law_800 : decode cL_law 800 = .ok (.iaload, 1) := by decide +kernel
theorem dL_law_801 : decode cL_law 801 = .ok (.invokevirtual 91, 3) := by decide +kernel
theorem dL_law_804 : decode cL_law 804 = .ok (.if_icmp .eq 497, 3) := by decide +kernel
theorem dL_law_807 : decode cL_law 807 = .ok (.iconst 0, 1) := by decide +kernel
theorem dL_law_808 : decode cL_law 808 = .ok (.ireturn, 1) := by decide +kernel
theorem dL_law_809 : decode cL_law 809 = .ok (.aload_n 1, 1) := by decide +kernel
theorem dL_law_810 : decode cL_law 810 = .ok (.aload_n 0, 1) := by decide +kernel
theorem dL_law_811 : decode cL_law 811 = .ok (.iload_n 3, 1) := by decide +kernel
theorem dL_law_812 : decode cL_law 812 = .ok (.iconst 1, 1) := by decide +kernel
theorem dL_law_813 : decode cL_law 813 = .ok (.iadd, 1) := by decide +kernel
theorem dL_law_814 : decode cL_law 814 = .ok (.iaload, 1) := by decide +kernel
theorem dL_law_815 : decode cL_law 815 = .ok (.invokevirtual 92, 3) := by decide +kernel
theorem dL_law_818 : decode cL_law 818 = .ok (.aload_n 2, 1) := by decide +kernel
theorem dL_law_819 : decode cL_law 819 = .ok (.aload_n 0, 1) := by decide +kernel
theorem dL_law_820 : decode cL_law 820 = .ok (.iload_n 3, 1) := by decide +kernel
theorem dL_law_821 : decode cL_law 821 = .ok (.iconst 1, 1) := by decide +kernel
theorem dL_law_822 : decode cL_law 822 = .ok (.iadd, 1) := by decide +kernel
theorem dL_law_823 : decode cL_law 823 = .ok (.iaload, 1) := by decide +kernel
theorem dL_law_824 : decode cL_law 824 = .ok (.invokevirtual 95, 3) := by decide +kernel
theorem dL_law_827 : decode cL_law 827 = .ok (.if_icmp .eq 474, 3) := by decide +kernel
theorem dL_law_830 : decode cL_law 830 = .ok (.iconst 0, 1) := by decide +kernel
theorem dL_law_831 : decode cL_law 831 = .ok (.ireturn, 1) := by decide +kernel
theorem dL_law_832 : decode cL_law 832 = .ok (.aload_n 1, 1) := by decide +kernel
theorem dL_law_833 : decode cL_law 833 = .ok (.aload_n 0, 1) := by decide +kernel
theorem dL_law_834 : decode cL_law 834 = .ok (.iload_n 3, 1) := by decide +kernel
theorem dL_law_835 : decode cL_law 835 = .ok (.iconst 1, 1) := by decide +kernel
theorem dL_law_836 : decode cL_law 836 = .ok (.iadd, 1) := by decide +kernel
theorem dL_law_837 : decode cL_law 837 = .ok (.iaload, 1) := by decide +kernel
theorem dL_law_838 : decode cL_law 838 = .ok (.invokevirtual 96, 3) := by decide +kernel
theorem dL_law_841 : decode cL_law 841 = .ok (.aload_n 2, 1) := by decide +kernel
theorem dL_law_842 : decode cL_law 842 = .ok (.aload_n 0, 1) := by decide +kernel
theorem dL_law_843 : decode cL_law 843 = .ok (.iload_n 3, 1) := by decide +kernel
theorem dL_law_844 : decode cL_law 844 = .ok (.iconst 1, 1) := by decide +kernel
theorem dL_law_845 : decode cL_law 845 = .ok (.iadd, 1) := by decide +kernel
theorem dL_law_846 : decode cL_law 846 = .ok (.iaload, 1) := by decide +kernel
theorem dL_law_847 : decode cL_law 847 = .ok (.invokevirtual 99, 3) := by decide +kernel
theorem dL_law_850 : decode cL_law 850 = .ok (.if_icmp .eq 451, 3) := by decide +kernel
theorem dL_law_853 : decode cL_law 853 = .ok (.iconst 0, 1) := by decide +kernel
theorem dL_law_854 : decode cL_law 854 = .ok (.ireturn, 1) := by decide +kernel
theorem dL_law_855 : decode cL_law 855 = .ok (.aload_n 1, 1) := by decide +kernel
theorem dL_law_856 : decode cL_law 856 = .ok (.aload_n 0, 1) := by decide +kernel
theorem dL_law_857 : decode cL_law 857 = .ok (.iload_n 3, 1) := by decide +kernel
theorem dL_law_858 : decode cL_law 858 = .ok (.iconst 1, 1) := by decide +kernel
theorem dL_law_859 : decode cL_law 859 = .ok (.iadd, 1) := by decide +kernel
theorem dL_law_860 : decode cL_law 860 = .ok (.iaload, 1) := by decide +kernel
theorem dL_law_861 : decode cL_law 861 = .ok (.invokevirtual 100, 3) := by decide +kernel
theorem dL_law_864 : decode cL_law 864 = .ok (.aload_n 2, 1) := by decide +kernel
theorem dL_law_865 : decode cL_law 865 = .ok (.aload_n 0, 1) := by decide +kernel
theorem dL_law_866 : decode cL_law 866 = .ok (.iload_n 3, 1) := by decide +kernel
theorem dL_law_867 : decode cL_law 867 = .ok (.iconst 1, 1) := by decide +kernel
theorem dL_law_868 : decode cL_law 868 = .ok (.iadd, 1) := by decide +kernel
theorem dL_law_869 : decode cL_law 869 = .ok (.iaload, 1) := by decide +kernel
theorem dL_law_870 : decode cL_law 870 = .ok (.invokevirtual 103, 3) := by decide +kernel
theorem dL_law_873 : decode cL_law 873 = .ok (.if_icmp .eq 428, 3) := by decide +kernel
theorem dL_law_876 : decode cL_law 876 = .ok (.iconst 0, 1) := by decide +kernel
theorem dL_law_877 : decode cL_law 877 = .ok (.ireturn, 1) := by decide +kernel
theorem dL_law_878 : decode cL_law 878 = .ok (.aload_n 1, 1) := by decide +kernel
theorem dL_law_879 : decode cL_law 879 = .ok (.aload_n 0, 1) := by decide +kernel
theorem dL_law_880 : decode cL_law 880 = .ok (.iload_n 3, 1) := by decide +kernel
theorem dL_law_881 : decode cL_law 881 = .ok (.iconst 1, 1) := by decide +kernel
theorem dL_law_882 : decode cL_law 882 = .ok (.iadd, 1) := by decide +kernel
theorem dL_law_883 : decode cL_law 883 = .ok (.iaload, 1) := by decide +kernel
theorem dL_law_884 : decode cL_law 884 = .ok (.aload_n 0, 1) := by decide +kernel
theorem dL_law_885 : decode cL_law 885 = .ok (.iload_n 3, 1) := by decide +kernel
theorem dL_law_886 : decode cL_law 886 = .ok (.iconst 2, 1) := by decide +kernel
theorem dL_law_887 : decode cL_law 887 = .ok (.iadd, 1) := by decide +kernel
theorem dL_law_888 : decode cL_law 888 = .ok (.iaload, 1) := by decide +kernel
theorem dL_law_889 : decode cL_law 889 = .ok (.invokevirtual 104, 3) := by decide +kernel
theorem dL_law_892 : decode cL_law 892 = .ok (.aload_n 2, 1) := by decide +kernel
theorem dL_law_893 : decode cL_law 893 = .ok (.aload_n 0, 1) := by decide +kernel
theorem dL_law_894 : decode cL_law 894 = .ok (.iload_n 3, 1) := by decide +kernel
theorem dL_law_895 : decode cL_law 895 = .ok (.iconst 1, 1) := by decide +kernel
theorem dL_law_896 : decode cL_law 896 = .ok (.iadd, 1) := by decide +kernel
theorem dL_law_897 : decode cL_law 897 = .ok (.iaload, 1) := by decide +kernel
theorem dL_law_898 : decode cL_law 898 = .ok (.aload_n 0, 1) := by decide +kernel
theorem dL_law_899 : decode cL_law 899 = .ok (.iload_n 3, 1) := by decide +kernel
theorem dL_law_900 : decode cL_law 900 = .ok (.iconst 2, 1) := by decide +kernel
theorem dL_law_901 : decode cL_law 901 = .ok (.iadd, 1) := by decide +kernel
theorem dL_law_902 : decode cL_law 902 = .ok (.iaload, 1) := by decide +kernel
theorem dL_law_903 : decode cL_law 903 = .ok (.invokevirtual 107, 3) := by decide +kernel
theorem dL_law_906 : decode cL_law 906 = .ok (.if_icmp .eq 395, 3) := by decide +kernel
theorem dL_law_909 : decode cL_law 909 = .ok (.iconst 0, 1) := by decide +kernel
theorem dL_law_910 : decode cL_law 910 = .ok (.ireturn, 1) := by decide +kernel
theorem dL_law_911 : decode cL_law 911 = .ok (.aload_n 1, 1) := by decide +kernel
theorem dL_law_912 : decode cL_law 912 = .ok (.invokevirtual 108, 3) := by decide +kernel
theorem dL_law_915 : decode cL_law 915 = .ok (.aload_n 2, 1) := by decide +kernel
theorem dL_law_916 : decode cL_law 916 = .ok (.invokevirtual 112, 3) := by decide +kernel
theorem dL_law_919 : decode cL_law 919 = .ok (.if_icmp .eq 382, 3) := by decide +kernel
theorem dL_law_922 : decode cL_law 922 = .ok (.iconst 0, 1) := by decide +kernel
theorem dL_law_923 : decode cL_law 923 = .ok (.ireturn, 1) := by decide +kernel
theorem dL_law_924 : decode cL_law 924 = .ok (.aload_n 1, 1) := by decide +kernel
theorem dL_law_925 : decode cL_law 925 = .ok (.invokevirtual 113, 3) := by decide +kernel
theorem dL_law_928 : decode cL_law 928 = .ok (.aload_n 2, 1) := by decide +kernel
theorem dL_law_929 : decode cL_law 929 = .ok (.invokevirtual 116, 3) := by decide +kernel
theorem dL_law_932 : decode cL_law 932 = .ok (.if_icmp .eq 369, 3) := by decide +kernel
theorem dL_law_935 : decode cL_law 935 = .ok (.iconst 0, 1) := by decide +kernel
theorem dL_law_936 : decode cL_law 936 = .ok (.ireturn, 1) := by decide +kernel
theorem dL_law_937 : decode cL_law 937 = .ok (.aload_n 1, 1) := by decide +kernel
theorem dL_law_938 : decode cL_law 938 = .ok (.aload_n 0, 1) := by decide +kernel
theorem dL_law_939 : decode cL_law 939 = .ok (.iload_n 3, 1) := by decide +kernel
theorem dL_law_940 : decode cL_law 940 = .ok (.iconst 1, 1) := by decide +kernel
theorem dL_law_941 : decode cL_law 941 = .ok (.iadd, 1) := by decide +kernel
theorem dL_law_942 : decode cL_law 942 = .ok (.iaload, 1) := by decide +kernel
theorem dL_law_943 : decode cL_law 943 = .ok (.aload_n 0, 1) := by decide +kernel
theorem dL_law_944 : decode cL_law 944 = .ok (.iload_n 3, 1) := by decide +kernel
theorem dL_law_945 : decode cL_law 945 = .ok (.iconst 2, 1) := by decide +kernel
theorem dL_law_946 : decode cL_law 946 = .ok (.iadd, 1) := by decide +kernel
theorem dL_law_947 : decode cL_law 947 = .ok (.iaload, 1) := by decide +kernel
theorem dL_law_948 : decode cL_law 948 = .ok (.aload_n 0, 1) := by decide +kernel
theorem dL_law_949 : decode cL_law 949 = .ok (.iload_n 3, 1) := by decide +kernel
theorem dL_law_950 : decode cL_law 950 = .ok (.iconst 3, 1) := by decide +kernel
theorem dL_law_951 : decode cL_law 951 = .ok (.iadd, 1) := by decide +kernel
theorem dL_law_952 : decode cL_law 952 = .ok (.iaload, 1) := by decide +kernel
theorem dL_law_953 : decode cL_law 953 = .ok (.invokevirtual 117, 3) := by decide +kernel
theorem dL_law_956 : decode cL_law 956 = .ok (.aload_n 2, 1) := by decide +kernel
theorem dL_law_957 : decode cL_law 957 = .ok (.aload_n 0, 1) := by decide +kernel
theorem dL_law_958 : decode cL_law 958 = .ok (.iload_n 3, 1) := by decide +kernel
theorem dL_law_959 : decode cL_law 959 = .ok (.iconst 1, 1) := by decide +kernel
theorem dL_law_960 : decode cL_law 960 = .ok (.iadd, 1) := by decide +kernel
theorem dL_law_961 : decode cL_law 961 = .ok (.iaload, 1) := by decide +kernel
theorem dL_law_962 : decode cL_law 962 = .ok (.aload_n 0, 1) := by decide +kernel
theorem dL_law_963 : decode cL_law 963 = .ok (.iload_n 3, 1) := by decide +kernel
theorem dL_law_964 : decode cL_law 964 = .ok (.iconst 2, 1) := by decide +kernel
theorem dL_law_965 : decode cL_law 965 = .ok (.iadd, 1) := by decide +kernel
theorem dL_law_966 : decode cL_law 966 = .ok (.iaload, 1) := by decide +kernel
theorem dL_law_967 : decode cL_law 967 = .ok (.aload_n 0, 1) := by decide +kernel
theorem dL_law_968 : decode cL_law 968 = .ok (.iload_n 3, 1) := by decide +kernel
theorem dL_law_969 : decode cL_law 969 = .ok (.iconst 3, 1) := by decide +kernel
theorem dL_law_970 : decode cL_law 970 = .ok (.iadd, 1) := by decide +kernel
theorem dL_law_971 : decode cL_law 971 = .ok (.iaload, 1) := by decide +kernel
theorem dL_law_972 : decode cL_law 972 = .ok (.invokevirtual 120, 3) := by decide +kernel
theorem dL_law_975 : decode cL_law 975 = .ok (.if_icmp .eq 326, 3) := by decide +kernel
theorem dL_law_978 : decode cL_law 978 = .ok (.iconst 0, 1) := by decide +kernel
theorem dL_law_979 : decode cL_law 979 = .ok (.ireturn, 1) := by decide +kernel
theorem dL_law_980 : decode cL_law 980 = .ok (.aload_n 1, 1) := by decide +kernel
theorem dL_law_981 : decode cL_law 981 = .ok (.aload_n 0, 1) := by decide +kernel
theorem dL_law_982 : decode cL_law 982 = .ok (.iload_n 3, 1) := by decide +kernel
theorem dL_law_983 : decode cL_law 983 = .ok (.iconst 1, 1) := by decide +kernel
theorem dL_law_984 : decode cL_law 984 = .ok (.iadd, 1) := by decide +kernel
theorem dL_law_985 : decode cL_law 985 = .ok (.iaload, 1) := by decide +kernel
theorem dL_law_986 : decode cL_law 986 = .ok (.aload_n 0, 1) := by decide +kernel
theorem dL_law_987 : decode cL_law 987 = .ok (.iload_n 3, 1) := by decide +kernel
theorem dL_law_988 : decode cL_law 988 = .ok (.iconst 2, 1) := by decide +kernel
theorem dL_law_989 : decode cL_law 989 = .ok (.iadd, 1) := by decide +kernel
theorem dL_law_990 : decode cL_law 990 = .ok (.iaload, 1) := by decide +kernel
theorem dL_law_991 : decode cL_law 991 = .ok (.aload_n 0, 1) := by decide +kernel
theorem dL_law_992 : decode cL_law 992 = .ok (.iload_n 3, 1) := by decide +kernel
theorem dL_law_993 : decode cL_law 993 = .ok (.iconst 3, 1) := by decide +kernel
theorem dL_law_994 : decode cL_law 994 = .ok (.iadd, 1) := by decide +kernel
theorem dL_law_995 : decode cL_law 995 = .ok (.iaload, 1) := by decide +kernel
theorem dL_law_996 : decode cL_law 996 = .ok (.i2l, 1) := by decide +kernel
theorem dL_law_997 : decode cL_law 997 = .ok (.bipush 32, 2) := by decide +kernel
theorem dL_law_999 : decode cL_law 999 = .ok (.lshl, 1) := by decide +kernel
theorem dL_law_1000 : decode cL_law 1000 = .ok (.aload_n 0, 1) := by decide +kernel
theorem dL_law_1001 : decode cL_law 1001 = .ok (.iload_n 3, 1) := by decide +kernel
theorem dL_law_1002 : decode cL_law 1002 = .ok (.iconst 4, 1) := by decide +kernel
theorem dL_law_1003 : decode cL_law 1003 = .ok (.iadd, 1) := by decide +kernel
theorem dL_law_1004 : decode cL_law 1004 = .ok (.iaload, 1) := by decide +kernel
theorem dL_law_1005 : decode cL_law 1005 = .ok (.i2l, 1) := by decide +kernel
theorem dL_law_1006 : decode cL_law 1006 = .ok (.ldc2_w 121, 3) := by decide +kernel
theorem dL_law_1009 : decode cL_law 1009 = .ok (.land, 1) := by decide +kernel
theorem dL_law_1010 : decode cL_law 1010 = .ok (.lor, 1) := by decide +kernel
theorem dL_law_1011 : decode cL_law 1011 = .ok (.invokevirtual 123, 3) := by decide +kernel
theorem dL_law_1014 : decode cL_law 1014 = .ok (.aload_n 2, 1) := by decide +kernel
theorem dL_law_1015 : decode cL_law 1015 = .ok (.aload_n 0, 1) := by decide +kernel
theorem dL_law_1016 : decode cL_law 1016 = .ok (.iload_n 3, 1) := by decide +kernel
theorem dL_law_1017 : decode cL_law 1017 = .ok (.iconst 1, 1) := by decide +kernel
theorem dL_law_1018 : decode cL_law 1018 = .ok (.iadd, 1) := by decide +kernel
theorem dL_law_1019 : decode cL_law 1019 = .ok (.iaload, 1) := by decide +kernel
theorem dL_law_1020 : decode cL_law 1020 = .ok (.aload_n 0, 1) := by decide +kernel
theorem dL_law_1021 : decode cL_law 1021 = .ok (.iload_n 3, 1) := by decide +kernel
theorem dL_law_1022 : decode cL_law 1022 = .ok (.iconst 2, 1) := by decide +kernel
theorem dL_law_1023 : decode cL_law 1023 = .ok (.iadd, 1) := by decide +kernel
theorem dL_law_1024 : decode cL_law 1024 = .ok (.iaload, 1) := by decide +kernel
theorem dL_law_1025 : decode cL_law 1025 = .ok (.aload_n 0, 1) := by decide +kernel
theorem dL_law_1026 : decode cL_law 1026 = .ok (.iload_n 3, 1) := by decide +kernel
theorem dL_law_1027 : decode cL_law 1027 = .ok (.iconst 3, 1) := by decide +kernel
theorem dL_law_1028 : decode cL_law 1028 = .ok (.iadd, 1) := by decide +kernel
theorem dL_law_1029 : decode cL_law 1029 = .ok (.iaload, 1) := by decide +kernel
theorem dL_law_1030 : decode cL_law 1030 = .ok (.i2l, 1) := by decide +kernel
theorem dL_law_1031 : decode cL_law 1031 = .ok (.bipush 32, 2) := by decide +kernel
theorem dL_law_1033 : decode cL_law 1033 = .ok (.lshl, 1) := by decide +kernel
theorem dL_law_1034 : decode cL_law 1034 = .ok (.aload_n 0, 1) := by decide +kernel
theorem dL_law_1035 : decode cL_law 1035 = .ok (.iload_n 3, 1) := by decide +kernel
theorem dL_law_1036 : decode cL_law 1036 = .ok (.iconst 4, 1) := by decide +kernel
theorem dL_law_1037 : decode cL_law 1037 = .ok (.iadd, 1) := by decide +kernel
theorem dL_law_1038 : decode cL_law 1038 = .ok (.iaload, 1) := by decide +kernel
theorem dL_law_1039 : decode cL_law 1039 = .ok (.i2l, 1) := by decide +kernel
theorem dL_law_1040 : decode cL_law 1040 = .ok (.ldc2_w 121, 3) := by decide +kernel
theorem dL_law_1043 : decode cL_law 1043 = .ok (.land, 1) := by decide +kernel
theorem dL_law_1044 : decode cL_law 1044 = .ok (.lor, 1) := by decide +kernel
theorem dL_law_1045 : decode cL_law 1045 = .ok (.invokevirtual 127, 3) := by decide +kernel
theorem dL_law_1048 : decode cL_law 1048 = .ok (.lcmp, 1) := by decide +kernel
theorem dL_law_1049 : decode cL_law 1049 = .ok (.ifCond .eq 252, 3) := by decide +kernel
theorem dL_law_1052 : decode cL_law 1052 = .ok (.iconst 0, 1) := by decide +kernel
theorem dL_law_1053 : decode cL_law 1053 = .ok (.ireturn, 1) := by decide +kernel
theorem dL_law_1054 : decode cL_law 1054 = .ok (.aload_n 1, 1) := by decide +kernel
theorem dL_law_1055 : decode cL_law 1055 = .ok (.aload_n 0, 1) := by decide +kernel
theorem dL_law_1056 : decode cL_law 1056 = .ok (.iload_n 3, 1) := by decide +kernel
theorem dL_law_1057 : decode cL_law 1057 = .ok (.iconst 1, 1) := by decide +kernel
theorem dL_law_1058 : decode cL_law 1058 = .ok (.iadd, 1) := by decide +kernel
theorem dL_law_1059 : decode cL_law 1059 = .ok (.iaload, 1) := by decide +kernel
theorem dL_law_1060 : decode cL_law 1060 = .ok (.aload_n 0, 1) := by decide +kernel
theorem dL_law_1061 : decode cL_law 1061 = .ok (.iload_n 3, 1) := by decide +kernel
theorem dL_law_1062 : decode cL_law 1062 = .ok (.iconst 2, 1) := by decide +kernel
theorem dL_law_1063 : decode cL_law 1063 = .ok (.iadd, 1) := by decide +kernel
theorem dL_law_1064 : decode cL_law 1064 = .ok (.iaload, 1) := by decide +kernel
theorem dL_law_1065 : decode cL_law 1065 = .ok (.aload_n 0, 1) := by decide +kernel
theorem dL_law_1066 : decode cL_law 1066 = .ok (.iload_n 3, 1) := by decide +kernel
theorem dL_law_1067 : decode cL_law 1067 = .ok (.iconst 3, 1) := by decide +kernel
theorem dL_law_1068 : decode cL_law 1068 = .ok (.iadd, 1) := by decide +kernel
theorem dL_law_1069 : decode cL_law 1069 = .ok (.iaload, 1) := by decide +kernel
theorem dL_law_1070 : decode cL_law 1070 = .ok (.aload_n 0, 1) := by decide +kernel
theorem dL_law_1071 : decode cL_law 1071 = .ok (.iload_n 3, 1) := by decide +kernel
theorem dL_law_1072 : decode cL_law 1072 = .ok (.iconst 4, 1) := by decide +kernel
theorem dL_law_1073 : decode cL_law 1073 = .ok (.iadd, 1) := by decide +kernel
theorem dL_law_1074 : decode cL_law 1074 = .ok (.iaload, 1) := by decide +kernel
theorem dL_law_1075 : decode cL_law 1075 = .ok (.aload_n 0, 1) := by decide +kernel
theorem dL_law_1076 : decode cL_law 1076 = .ok (.iload_n 3, 1) := by decide +kernel
theorem dL_law_1077 : decode cL_law 1077 = .ok (.iconst 5, 1) := by decide +kernel
theorem dL_law_1078 : decode cL_law 1078 = .ok (.iadd, 1) := by decide +kernel
theorem dL_law_1079 : decode cL_law 1079 = .ok (.iaload, 1) := by decide +kernel
theorem dL_law_1080 : decode cL_law 1080 = .ok (.invokevirtual 128, 3) := by decide +kernel
theorem dL_law_1083 : decode cL_law 1083 = .ok (.aload_n 2, 1) := by decide +kernel
theorem dL_law_1084 : decode cL_law 1084 = .ok (.aload_n 0, 1) := by decide +kernel
theorem dL_law_1085 : decode cL_law 1085 = .ok (.iload_n 3, 1) := by decide +kernel
theorem dL_law_1086 : decode cL_law 1086 = .ok (.iconst 1, 1) := by decide +kernel
theorem dL_law_1087 : decode cL_law 1087 = .ok (.iadd, 1) := by decide +kernel
theorem dL_law_1088 : decode cL_law 1088 = .ok (.iaload, 1) := by decide +kernel
theorem dL_law_1089 : decode cL_law 1089 = .ok (.aload_n 0, 1) := by decide +kernel
theorem dL_law_1090 : decode cL_law 1090 = .ok (.iload_n 3, 1) := by decide +kernel
theorem dL_law_1091 : decode cL_law 1091 = .ok (.iconst 2, 1) := by decide +kernel
theorem dL_law_1092 : decode cL_law 1092 = .ok (.iadd, 1) := by decide +kernel
theorem dL_law_1093 : decode cL_law 1093 = .ok (.iaload, 1) := by decide +kernel
theorem dL_law_1094 : decode cL_law 1094 = .ok (.aload_n 0, 1) := by decide +kernel
theorem dL_law_1095 : decode cL_law 1095 = .ok (.iload_n 3, 1) := by decide +kernel
theorem dL_law_1096 : decode cL_law 1096 = .ok (.iconst 3, 1) := by decide +kernel
theorem dL_law_1097 : decode cL_law 1097 = .ok (.iadd, 1) := by decide +kernel
theorem dL_law_1098 : decode cL_law 1098 = .ok (.iaload, 1) := by decide +kernel
theorem dL_law_1099 : decode cL_law 1099 = .ok (.aload_n 0, 1) := by decide +kernel
theorem dL_law_1100 : decode cL_law 1100 = .ok (.iload_n 3, 1) := by decide +kernel
theorem dL_law_1101 : decode cL_law 1101 = .ok (.iconst 4, 1) := by decide +kernel
theorem dL_law_1102 : decode cL_law 1102 = .ok (.iadd, 1) := by decide +kernel
theorem dL_law_1103 : decode cL_law 1103 = .ok (.iaload, 1) := by decide +kernel
theorem dL_law_1104 : decode cL_law 1104 = .ok (.aload_n 0, 1) := by decide +kernel
theorem dL_law_1105 : decode cL_law 1105 = .ok (.iload_n 3, 1) := by decide +kernel
theorem dL_law_1106 : decode cL_law 1106 = .ok (.iconst 5, 1) := by decide +kernel
theorem dL_law_1107 : decode cL_law 1107 = .ok (.iadd, 1) := by decide +kernel
theorem dL_law_1108 : decode cL_law 1108 = .ok (.iaload, 1) := by decide +kernel
theorem dL_law_1109 : decode cL_law 1109 = .ok (.invokevirtual 132, 3) := by decide +kernel
theorem dL_law_1112 : decode cL_law 1112 = .ok (.if_icmp .eq 189, 3) := by decide +kernel
theorem dL_law_1115 : decode cL_law 1115 = .ok (.iconst 0, 1) := by decide +kernel
theorem dL_law_1116 : decode cL_law 1116 = .ok (.ireturn, 1) := by decide +kernel
theorem dL_law_1117 : decode cL_law 1117 = .ok (.aload_n 1, 1) := by decide +kernel
theorem dL_law_1118 : decode cL_law 1118 = .ok (.aload_n 0, 1) := by decide +kernel
theorem dL_law_1119 : decode cL_law 1119 = .ok (.iload_n 3, 1) := by decide +kernel
theorem dL_law_1120 : decode cL_law 1120 = .ok (.iconst 1, 1) := by decide +kernel
theorem dL_law_1121 : decode cL_law 1121 = .ok (.iadd, 1) := by decide +kernel
theorem dL_law_1122 : decode cL_law 1122 = .ok (.iaload, 1) := by decide +kernel
theorem dL_law_1123 : decode cL_law 1123 = .ok (.invokevirtual 133, 3) := by decide +kernel
theorem dL_law_1126 : decode cL_law 1126 = .ok (.aload_n 2, 1) := by decide +kernel
theorem dL_law_1127 : decode cL_law 1127 = .ok (.aload_n 0, 1) := by decide +kernel
theorem dL_law_1128 : decode cL_law 1128 = .ok (.iload_n 3, 1) := by decide +kernel
theorem dL_law_1129 : decode cL_law 1129 = .ok (.iconst 1, 1) := by decide +kernel
theorem dL_law_1130 : decode cL_law 1130 = .ok (.iadd, 1) := by decide +kernel
theorem dL_law_1131 : decode cL_law 1131 = .ok (.iaload, 1) := by decide +kernel
theorem dL_law_1132 : decode cL_law 1132 = .ok (.invokevirtual 136, 3) := by decide +kernel
theorem dL_law_1135 : decode cL_law 1135 = .ok (.if_icmp .eq 166, 3) := by decide +kernel
theorem dL_law_1138 : decode cL_law 1138 = .ok (.iconst 0, 1) := by decide +kernel
theorem dL_law_1139 : decode cL_law 1139 = .ok (.ireturn, 1) := by decide +kernel
theorem dL_law_1140 : decode cL_law 1140 = .ok (.aload_n 1, 1) := by decide +kernel
theorem dL_law_1141 : decode cL_law 1141 = .ok (.aload_n 0, 1) := by decide +kernel
theorem dL_law_1142 : decode cL_law 1142 = .ok (.iload_n 3, 1) := by decide +kernel
theorem dL_law_1143 : decode cL_law 1143 = .ok (.iconst 1, 1) := by decide +kernel
theorem dL_law_1144 : decode cL_law 1144 = .ok (.iadd, 1) := by decide +kernel
theorem dL_law_1145 : decode cL_law 1145 = .ok (.iaload, 1) := by decide +kernel
theorem dL_law_1146 : decode cL_law 1146 = .ok (.aload_n 0, 1) := by decide +kernel
theorem dL_law_1147 : decode cL_law 1147 = .ok (.iload_n 3, 1) := by decide +kernel
theorem dL_law_1148 : decode cL_law 1148 = .ok (.iconst 2, 1) := by decide +kernel
theorem dL_law_1149 : decode cL_law 1149 = .ok (.iadd, 1) := by decide +kernel
theorem dL_law_1150 : decode cL_law 1150 = .ok (.iaload, 1) := by decide +kernel
theorem dL_law_1151 : decode cL_law 1151 = .ok (.invokevirtual 137, 3) := by decide +kernel
theorem dL_law_1154 : decode cL_law 1154 = .ok (.aload_n 2, 1) := by decide +kernel
theorem dL_law_1155 : decode cL_law 1155 = .ok (.aload_n 0, 1) := by decide +kernel
theorem dL_law_1156 : decode cL_law 1156 = .ok (.iload_n 3, 1) := by decide +kernel
theorem dL_law_1157 : decode cL_law 1157 = .ok (.iconst 1, 1) := by decide +kernel
theorem dL_law_1158 : decode cL_law 1158 = .ok (.iadd, 1) := by decide +kernel
theorem dL_law_1159 : decode cL_law 1159 = .ok (.iaload, 1) := by decide +kernel
theorem dL_law_1160 : decode cL_law 1160 = .ok (.aload_n 0, 1) := by decide +kernel
theorem dL_law_1161 : decode cL_law 1161 = .ok (.iload_n 3, 1) := by decide +kernel
theorem dL_law_1162 : decode cL_law 1162 = .ok (.iconst 2, 1) := by decide +kernel
theorem dL_law_1163 : decode cL_law 1163 = .ok (.iadd, 1) := by decide +kernel
theorem dL_law_1164 : decode cL_law 1164 = .ok (.iaload, 1) := by decide +kernel
theorem dL_law_1165 : decode cL_law 1165 = .ok (.invokevirtual 140, 3) := by decide +kernel
theorem dL_law_1168 : decode cL_law 1168 = .ok (.if_icmp .eq 133, 3) := by decide +kernel
theorem dL_law_1171 : decode cL_law 1171 = .ok (.iconst 0, 1) := by decide +kernel
theorem dL_law_1172 : decode cL_law 1172 = .ok (.ireturn, 1) := by decide +kernel
theorem dL_law_1173 : decode cL_law 1173 = .ok (.aload_n 1, 1) := by decide +kernel
theorem dL_law_1174 : decode cL_law 1174 = .ok (.aload_n 0, 1) := by decide +kernel
theorem dL_law_1175 : decode cL_law 1175 = .ok (.iload_n 3, 1) := by decide +kernel
theorem dL_law_1176 : decode cL_law 1176 = .ok (.iconst 1, 1) := by decide +kernel
theorem dL_law_1177 : decode cL_law 1177 = .ok (.iadd, 1) := by decide +kernel
theorem dL_law_1178 : decode cL_law 1178 = .ok (.iaload, 1) := by decide +kernel
theorem dL_law_1179 : decode cL_law 1179 = .ok (.aload_n 0, 1) := by decide +kernel
theorem dL_law_1180 : decode cL_law 1180 = .ok (.iload_n 3, 1) := by decide +kernel
theorem dL_law_1181 : decode cL_law 1181 = .ok (.iconst 2, 1) := by decide +kernel
theorem dL_law_1182 : decode cL_law 1182 = .ok (.iadd, 1) := by decide +kernel
theorem dL_law_1183 : decode cL_law 1183 = .ok (.iaload, 1) := by decide +kernel
theorem dL_law_1184 : decode cL_law 1184 = .ok (.aload_n 0, 1) := by decide +kernel
theorem dL_law_1185 : decode cL_law 1185 = .ok (.iload_n 3, 1) := by decide +kernel
theorem dL_law_1186 : decode cL_law 1186 = .ok (.iconst 3, 1) := by decide +kernel
theorem dL_law_1187 : decode cL_law 1187 = .ok (.iadd, 1) := by decide +kernel
theorem dL_law_1188 : decode cL_law 1188 = .ok (.iaload, 1) := by decide +kernel
theorem dL_law_1189 : decode cL_law 1189 = .ok (.invokevirtual 141, 3) := by decide +kernel
theorem dL_law_1192 : decode cL_law 1192 = .ok (.aload_n 2, 1) := by decide +kernel
theorem dL_law_1193 : decode cL_law 1193 = .ok (.aload_n 0, 1) := by decide +kernel
theorem dL_law_1194 : decode cL_law 1194 = .ok (.iload_n 3, 1) := by decide +kernel
theorem dL_law_1195 : decode cL_law 1195 = .ok (.iconst 1, 1) := by decide +kernel
theorem dL_law_1196 : decode cL_law 1196 = .ok (.iadd, 1) := by decide +kernel
theorem dL_law_1197 : decode cL_law 1197 = .ok (.iaload, 1) := by decide +kernel
theorem dL_law_1198 : decode cL_law 1198 = .ok (.aload_n 0, 1) := by decide +kernel
theorem dL_law_1199 : decode cL_law 1199 = .ok (.iload_n 3, 1) := by decide +kernel
theorem dL_law_1200 : decode cL_law 1200 = .ok (.iconst 2, 1) := by decide +kernel
theorem dL_law_1201 : decode cL_law 1201 = .ok (.iadd, 1) := by decide +kernel
theorem dL_law_1202 : decode cL_law 1202 = .ok (.iaload, 1) := by decide +kernel
theorem dL_law_1203 : decode cL_law 1203 = .ok (.aload_n 0, 1) := by decide +kernel
theorem dL_law_1204 : decode cL_law 1204 = .ok (.iload_n 3, 1) := by decide +kernel
theorem dL_law_1205 : decode cL_law 1205 = .ok (.iconst 3, 1) := by decide +kernel
theorem dL_law_1206 : decode cL_law 1206 = .ok (.iadd, 1) := by decide +kernel
theorem dL_law_1207 : decode cL_law 1207 = .ok (.iaload, 1) := by decide +kernel
theorem dL_law_1208 : decode cL_law 1208 = .ok (.invokevirtual 144, 3) := by decide +kernel
theorem dL_law_1211 : decode cL_law 1211 = .ok (.if_icmp .eq 90, 3) := by decide +kernel
theorem dL_law_1214 : decode cL_law 1214 = .ok (.iconst 0, 1) := by decide +kernel
theorem dL_law_1215 : decode cL_law 1215 = .ok (.ireturn, 1) := by decide +kernel
theorem dL_law_1216 : decode cL_law 1216 = .ok (.aload_n 1, 1) := by decide +kernel
theorem dL_law_1217 : decode cL_law 1217 = .ok (.invokevirtual 145, 3) := by decide +kernel
theorem dL_law_1220 : decode cL_law 1220 = .ok (.aload_n 2, 1) := by decide +kernel
theorem dL_law_1221 : decode cL_law 1221 = .ok (.invokevirtual 148, 3) := by decide +kernel
theorem dL_law_1224 : decode cL_law 1224 = .ok (.if_icmp .eq 77, 3) := by decide +kernel
theorem dL_law_1227 : decode cL_law 1227 = .ok (.iconst 0, 1) := by decide +kernel
theorem dL_law_1228 : decode cL_law 1228 = .ok (.ireturn, 1) := by decide +kernel
theorem dL_law_1229 : decode cL_law 1229 = .ok (.aload_n 1, 1) := by decide +kernel
theorem dL_law_1230 : decode cL_law 1230 = .ok (.invokevirtual 149, 3) := by decide +kernel
theorem dL_law_1233 : decode cL_law 1233 = .ok (.aload_n 2, 1) := by decide +kernel
theorem dL_law_1234 : decode cL_law 1234 = .ok (.invokevirtual 152, 3) := by decide +kernel
theorem dL_law_1237 : decode cL_law 1237 = .ok (.if_icmp .eq 64, 3) := by decide +kernel
theorem dL_law_1240 : decode cL_law 1240 = .ok (.iconst 0, 1) := by decide +kernel
theorem dL_law_1241 : decode cL_law 1241 = .ok (.ireturn, 1) := by decide +kernel
theorem dL_law_1242 : decode cL_law 1242 = .ok (.aload_n 1, 1) := by decide +kernel
theorem dL_law_1243 : decode cL_law 1243 = .ok (.invokevirtual 153, 3) := by decide +kernel
theorem dL_law_1246 : decode cL_law 1246 = .ok (.aload_n 2, 1) := by decide +kernel
theorem dL_law_1247 : decode cL_law 1247 = .ok (.invokevirtual 156, 3) := by decide +kernel
theorem dL_law_1250 : decode cL_law 1250 = .ok (.if_icmp .eq 51, 3) := by decide +kernel
theorem dL_law_1253 : decode cL_law 1253 = .ok (.iconst 0, 1) := by decide +kernel
theorem dL_law_1254 : decode cL_law 1254 = .ok (.ireturn, 1) := by decide +kernel
theorem dL_law_1255 : decode cL_law 1255 = .ok (.aload_n 1, 1) := by decide +kernel
theorem dL_law_1256 : decode cL_law 1256 = .ok (.aload_n 0, 1) := by decide +kernel
theorem dL_law_1257 : decode cL_law 1257 = .ok (.iload_n 3, 1) := by decide +kernel
theorem dL_law_1258 : decode cL_law 1258 = .ok (.iconst 1, 1) := by decide +kernel
theorem dL_law_1259 : decode cL_law 1259 = .ok (.iadd, 1) := by decide +kernel
theorem dL_law_1260 : decode cL_law 1260 = .ok (.iaload, 1) := by decide +kernel
theorem dL_law_1261 : decode cL_law 1261 = .ok (.invokevirtual 157, 3) := by decide +kernel
theorem dL_law_1264 : decode cL_law 1264 = .ok (.aload_n 2, 1) := by decide +kernel
theorem dL_law_1265 : decode cL_law 1265 = .ok (.aload_n 0, 1) := by decide +kernel
theorem dL_law_1266 : decode cL_law 1266 = .ok (.iload_n 3, 1) := by decide +kernel
theorem dL_law_1267 : decode cL_law 1267 = .ok (.iconst 1, 1) := by decide +kernel
theorem dL_law_1268 : decode cL_law 1268 = .ok (.iadd, 1) := by decide +kernel
theorem dL_law_1269 : decode cL_law 1269 = .ok (.iaload, 1) := by decide +kernel
theorem dL_law_1270 : decode cL_law 1270 = .ok (.invokevirtual 160, 3) := by decide +kernel
theorem dL_law_1273 : decode cL_law 1273 = .ok (.if_icmp .eq 28, 3) := by decide +kernel
theorem dL_law_1276 : decode cL_law 1276 = .ok (.iconst 0, 1) := by decide +kernel
theorem dL_law_1277 : decode cL_law 1277 = .ok (.ireturn, 1) := by decide +kernel
theorem dL_law_1278 : decode cL_law 1278 = .ok (.aload_n 1, 1) := by decide +kernel
theorem dL_law_1279 : decode cL_law 1279 = .ok (.aload_n 0, 1) := by decide +kernel
theorem dL_law_1280 : decode cL_law 1280 = .ok (.iload_n 3, 1) := by decide +kernel
theorem dL_law_1281 : decode cL_law 1281 = .ok (.iconst 1, 1) := by decide +kernel
theorem dL_law_1282 : decode cL_law 1282 = .ok (.iadd, 1) := by decide +kernel
theorem dL_law_1283 : decode cL_law 1283 = .ok (.iaload, 1) := by decide +kernel
theorem dL_law_1284 : decode cL_law 1284 = .ok (.invokevirtual 161, 3) := by decide +kernel
theorem dL_law_1287 : decode cL_law 1287 = .ok (.aload_n 2, 1) := by decide +kernel
theorem dL_law_1288 : decode cL_law 1288 = .ok (.aload_n 0, 1) := by decide +kernel
theorem dL_law_1289 : decode cL_law 1289 = .ok (.iload_n 3, 1) := by decide +kernel
theorem dL_law_1290 : decode cL_law 1290 = .ok (.iconst 1, 1) := by decide +kernel
theorem dL_law_1291 : decode cL_law 1291 = .ok (.iadd, 1) := by decide +kernel
theorem dL_law_1292 : decode cL_law 1292 = .ok (.iaload, 1) := by decide +kernel
theorem dL_law_1293 : decode cL_law 1293 = .ok (.invokevirtual 164, 3) := by decide +kernel
theorem dL_law_1296 : decode cL_law 1296 = .ok (.if_icmp .eq 5, 3) := by decide +kernel
theorem dL_law_1299 : decode cL_law 1299 = .ok (.iconst 0, 1) := by decide +kernel
theorem dL_law_1300 : decode cL_law 1300 = .ok (.ireturn, 1) := by decide +kernel
theorem dL_law_1301 : decode cL_law 1301 = .ok (.iinc 3 6, 3) := by decide +kernel
theorem dL_law_1304 : decode cL_law 1304 = .ok (.goto (-1286), 3) := by decide +kernel
theorem dL_law_1307 : decode cL_law 1307 = .ok (.iconst 1, 1) := by decide +kernel
theorem dL_law_1308 : decode cL_law 1308 = .ok (.ireturn, 1) := by decide +kernel
theorem dJ6_bitCount_0f7a4_0 : decode cJ6_bitCount_0f7a4 0 = .ok (.iload_n 0, 1) := by decide +kernel
theorem dJ6_bitCount_0f7a4_1 : decode cJ6_bitCount_0f7a4 1 = .ok (.iload_n 0, 1) := by decide +kernel
theorem dJ6_bitCount_0f7a4_2 : decode cJ6_bitCount_0f7a4 2 = .ok (.iconst 1, 1) := by decide +kernel
theorem dJ6_bitCount_0f7a4_3 : decode cJ6_bitCount_0f7a4 3 = .ok (.iushr, 1) := by decide +kernel
theorem dJ6_bitCount_0f7a4_4 : decode cJ6_bitCount_0f7a4 4 = .ok (.ldc_w 265, 3) := by decide +kernel
theorem dJ6_bitCount_0f7a4_7 : decode cJ6_bitCount_0f7a4 7 = .ok (.iand, 1) := by decide +kernel
theorem dJ6_bitCount_0f7a4_8 : decode cJ6_bitCount_0f7a4 8 = .ok (.isub, 1) := by decide +kernel
theorem dJ6_bitCount_0f7a4_9 : decode cJ6_bitCount_0f7a4 9 = .ok (.istore_n 0, 1) := by decide +kernel
theorem dJ6_bitCount_0f7a4_10 : decode cJ6_bitCount_0f7a4 10 = .ok (.iload_n 0, 1) := by decide +kernel
theorem dJ6_bitCount_0f7a4_11 : decode cJ6_bitCount_0f7a4 11 = .ok (.ldc_w 266, 3) := by decide +kernel
theorem dJ6_bitCount_0f7a4_14 : decode cJ6_bitCount_0f7a4 14 = .ok (.iand, 1) := by decide +kernel
theorem dJ6_bitCount_0f7a4_15 : decode cJ6_bitCount_0f7a4 15 = .ok (.iload_n 0, 1) := by decide +kernel
theorem dJ6_bitCount_0f7a4_16 : decode cJ6_bitCount_0f7a4 16 = .ok (.iconst 2, 1) := by decide +kernel
theorem dJ6_bitCount_0f7a4_17 : decode cJ6_bitCount_0f7a4 17 = .ok (.iushr, 1) := by decide +kernel
theorem dJ6_bitCount_0f7a4_18 : decode cJ6_bitCount_0f7a4 18 = .ok (.ldc_w 266, 3) := by decide +kernel
theorem dJ6_bitCount_0f7a4_21 : decode cJ6_bitCount_0f7a4 21 = .ok (.iand, 1) := by decide +kernel
theorem dJ6_bitCount_0f7a4_22 : decode cJ6_bitCount_0f7a4 22 = .ok (.iadd, 1) := by decide +kernel
theorem dJ6_bitCount_0f7a4_23 : decode cJ6_bitCount_0f7a4 23 = .ok (.istore_n 0, 1) := by decide +kernel
theorem dJ6_bitCount_0f7a4_24 : decode cJ6_bitCount_0f7a4 24 = .ok (.iload_n 0, 1) := by decide +kernel
theorem dJ6_bitCount_0f7a4_25 : decode cJ6_bitCount_0f7a4 25 = .ok (.iload_n 0, 1) := by decide +kernel
theorem dJ6_bitCount_0f7a4_26 : decode cJ6_bitCount_0f7a4 26 = .ok (.iconst 4, 1) := by decide +kernel
theorem dJ6_bitCount_0f7a4_27 : decode cJ6_bitCount_0f7a4 27 = .ok (.iushr, 1) := by decide +kernel
theorem dJ6_bitCount_0f7a4_28 : decode cJ6_bitCount_0f7a4 28 = .ok (.iadd, 1) := by decide +kernel
theorem dJ6_bitCount_0f7a4_29 : decode cJ6_bitCount_0f7a4 29 = .ok (.ldc_w 267, 3) := by decide +kernel
theorem dJ6_bitCount_0f7a4_32 : decode cJ6_bitCount_0f7a4 32 = .ok (.iand, 1) := by decide +kernel
theorem dJ6_bitCount_0f7a4_33 : decode cJ6_bitCount_0f7a4 33 = .ok (.istore_n 0, 1) := by decide +kernel
theorem dJ6_bitCount_0f7a4_34 : decode cJ6_bitCount_0f7a4 34 = .ok (.iload_n 0, 1) := by decide +kernel
theorem dJ6_bitCount_0f7a4_35 : decode cJ6_bitCount_0f7a4 35 = .ok (.iload_n 0, 1) := by decide +kernel
theorem dJ6_bitCount_0f7a4_36 : decode cJ6_bitCount_0f7a4 36 = .ok (.bipush 8, 2) := by decide +kernel
theorem dJ6_bitCount_0f7a4_38 : decode cJ6_bitCount_0f7a4 38 = .ok (.iushr, 1) := by decide +kernel
theorem dJ6_bitCount_0f7a4_39 : decode cJ6_bitCount_0f7a4 39 = .ok (.iadd, 1) := by decide +kernel
theorem dJ6_bitCount_0f7a4_40 : decode cJ6_bitCount_0f7a4 40 = .ok (.istore_n 0, 1) := by decide +kernel
theorem dJ6_bitCount_0f7a4_41 : decode cJ6_bitCount_0f7a4 41 = .ok (.iload_n 0, 1) := by decide +kernel
theorem dJ6_bitCount_0f7a4_42 : decode cJ6_bitCount_0f7a4 42 = .ok (.iload_n 0, 1) := by decide +kernel
theorem dJ6_bitCount_0f7a4_43 : decode cJ6_bitCount_0f7a4 43 = .ok (.bipush 16, 2) := by decide +kernel
theorem dJ6_bitCount_0f7a4_45 : decode cJ6_bitCount_0f7a4 45 = .ok (.iushr, 1) := by decide +kernel
theorem dJ6_bitCount_0f7a4_46 : decode cJ6_bitCount_0f7a4 46 = .ok (.iadd, 1) := by decide +kernel
theorem dJ6_bitCount_0f7a4_47 : decode cJ6_bitCount_0f7a4 47 = .ok (.istore_n 0, 1) := by decide +kernel
theorem dJ6_bitCount_0f7a4_48 : decode cJ6_bitCount_0f7a4 48 = .ok (.iload_n 0, 1) := by decide +kernel
theorem dJ6_bitCount_0f7a4_49 : decode cJ6_bitCount_0f7a4 49 = .ok (.bipush 63, 2) := by decide +kernel
theorem dJ6_bitCount_0f7a4_51 : decode cJ6_bitCount_0f7a4 51 = .ok (.iand, 1) := by decide +kernel
theorem dJ6_bitCount_0f7a4_52 : decode cJ6_bitCount_0f7a4 52 = .ok (.ireturn, 1) := by decide +kernel
theorem dJ9_max_7cf53_0 : decode cJ9_max_7cf53 0 = .ok (.iload_n 0, 1) := by decide +kernel
theorem dJ9_max_7cf53_1 : decode cJ9_max_7cf53 1 = .ok (.iload_n 1, 1) := by decide +kernel
theorem dJ9_max_7cf53_2 : decode cJ9_max_7cf53 2 = .ok (.if_icmp .lt 7, 3) := by decide +kernel
theorem dJ9_max_7cf53_5 : decode cJ9_max_7cf53 5 = .ok (.iload_n 0, 1) := by decide +kernel
theorem dJ9_max_7cf53_6 : decode cJ9_max_7cf53 6 = .ok (.goto 4, 3) := by decide +kernel
theorem dJ9_max_7cf53_9 : decode cJ9_max_7cf53 9 = .ok (.iload_n 1, 1) := by decide +kernel
theorem dJ9_max_7cf53_10 : decode cJ9_max_7cf53 10 = .ok (.ireturn, 1) := by decide +kernel
theorem dJ9_min_7cf53_0 : decode cJ9_min_7cf53 0 = .ok (.iload_n 0, 1) := by decide +kernel
theorem dJ9_min_7cf53_1 : decode cJ9_min_7cf53 1 = .ok (.iload_n 1, 1) := by decide +kernel
theorem dJ9_min_7cf53_2 : decode cJ9_min_7cf53 2 = .ok (.if_icmp .gt 7, 3) := by decide +kernel
theorem dJ9_min_7cf53_5 : decode cJ9_min_7cf53 5 = .ok (.iload_n 0, 1) := by decide +kernel
theorem dJ9_min_7cf53_6 : decode cJ9_min_7cf53 6 = .ok (.goto 4, 3) := by decide +kernel
theorem dJ9_min_7cf53_9 : decode cJ9_min_7cf53 9 = .ok (.iload_n 1, 1) := by decide +kernel
theorem dJ9_min_7cf53_10 : decode cJ9_min_7cf53 10 = .ok (.ireturn, 1) := by decide +kernel
theorem dJ0_length_8abf5_0 : decode cJ0_length_8abf5 0 = .ok (.aload_n 0, 1) := by decide +kernel
theorem dJ0_length_8abf5_1 : decode cJ0_length_8abf5 1 = .ok (.getfield 9, 3) := by decide +kernel
theorem dJ0_length_8abf5_4 : decode cJ0_length_8abf5 4 = .ok (.arraylength, 1) := by decide +kernel
theorem dJ0_length_8abf5_5 : decode cJ0_length_8abf5 5 = .ok (.aload_n 0, 1) := by decide +kernel
theorem dJ0_length_8abf5_6 : decode cJ0_length_8abf5 6 = .ok (.invokevirtual 335, 3) := by decide +kernel
theorem dJ0_length_8abf5_9 : decode cJ0_length_8abf5 9 = .ok (.ishr, 1) := by decide +kernel
theorem dJ0_length_8abf5_10 : decode cJ0_length_8abf5 10 = .ok (.ireturn, 1) := by decide +kernel
theorem dJ0_charAt_5068e_0 : decode cJ0_charAt_5068e 0 = .ok (.aload_n 0, 1) := by decide +kernel
theorem dJ0_charAt_5068e_1 : decode cJ0_charAt_5068e 1 = .ok (.invokevirtual 492, 3) := by decide +kernel
theorem dJ0_charAt_5068e_4 : decode cJ0_charAt_5068e 4 = .ok (.ifCond .eq 12, 3) := by decide +kernel
theorem dJ0_charAt_5068e_7 : decode cJ0_charAt_5068e 7 = .ok (.aload_n 0, 1) := by decide +kernel
theorem dJ0_charAt_5068e_8 : decode cJ0_charAt_5068e 8 = .ok (.getfield 9, 3) := by decide +kernel
theorem dJ0_charAt_5068e_11 : decode cJ0_charAt_5068e 11 = .ok (.iload_n 1, 1) := by decide +kernel
theorem dJ0_charAt_5068e_12 : decode cJ0_charAt_5068e 12 = .ok (.invokestatic 495, 3) := by decide +kernel
theorem dJ0_charAt_5068e_15 : decode cJ0_charAt_5068e 15 = .ok (.ireturn, 1) := by decide +kernel
theorem dJ0_charAt_5068e_16 : decode cJ0_charAt_5068e 16 = .ok (.aload_n 0, 1) := by decide +kernel
theorem dJ0_charAt_5068e_17 : decode cJ0_charAt_5068e 17 = .ok (.getfield 9, 3) := by decide +kernel
theorem dJ0_charAt_5068e_20 : decode cJ0_charAt_5068e 20 = .ok (.iload_n 1, 1) := by decide +kernel
theorem dJ0_charAt_5068e_21 : decode cJ0_charAt_5068e 21 = .ok (.invokestatic 498, 3) := by decide +kernel
theorem dJ0_charAt_5068e_24 : decode cJ0_charAt_5068e 24 = .ok (.ireturn, 1) := by decide +kernel
theorem dJ0_coder_7d493_0 : decode cJ0_coder_7d493 0 = .ok (.getstatic 38, 3) := by decide +kernel
theorem dJ0_coder_7d493_3 : decode cJ0_coder_7d493 3 = .ok (.ifCond .eq 10, 3) := by decide +kernel
theorem dJ0_coder_7d493_6 : decode cJ0_coder_7d493 6 = .ok (.aload_n 0, 1) := by decide +kernel
theorem dJ0_coder_7d493_7 : decode cJ0_coder_7d493 7 = .ok (.getfield 15, 3) := by decide +kernel
theorem dJ0_coder_7d493_10 : decode cJ0_coder_7d493 10 = .ok (.goto 4, 3) := by decide +kernel
theorem dJ0_coder_7d493_13 : decode cJ0_coder_7d493 13 = .ok (.iconst 1, 1) := by decide +kernel
theorem dJ0_coder_7d493_14 : decode cJ0_coder_7d493 14 = .ok (.ireturn, 1) := by decide +kernel
theorem dJ0_isLatin1_aae02_0 : decode cJ0_isLatin1_aae02 0 = .ok (.getstatic 38, 3) := by decide +kernel
theorem dJ0_isLatin1_aae02_3 : decode cJ0_isLatin1_aae02 3 = .ok (.ifCond .eq 14, 3) := by decide +kernel
theorem dJ0_isLatin1_aae02_6 : decode cJ0_isLatin1_aae02 6 = .ok (.aload_n 0, 1) := by decide +kernel
theorem dJ0_isLatin1_aae02_7 : decode cJ0_isLatin1_aae02 7 = .ok (.getfield 15, 3) := by decide +kernel
theorem dJ0_isLatin1_aae02_10 : decode cJ0_isLatin1_aae02 10 = .ok (.ifCond .ne 7, 3) := by decide +kernel
theorem dJ0_isLatin1_aae02_13 : decode cJ0_isLatin1_aae02 13 = .ok (.iconst 1, 1) := by decide +kernel
theorem dJ0_isLatin1_aae02_14 : decode cJ0_isLatin1_aae02 14 = .ok (.goto 4, 3) := by decide +kernel
theorem dJ0_isLatin1_aae02_17 : decode cJ0_isLatin1_aae02 17 = .ok (.iconst 0, 1) := by decide +kernel
theorem dJ0_isLatin1_aae02_18 : decode cJ0_isLatin1_aae02 18 = .ok (.ireturn, 1) := by decide +kernel
theorem dJ0_checkIndex_df160_0 : decode cJ0_checkIndex_df160 0 = .ok (.iload_n 0, 1) := by decide +kernel
theorem dJ0_checkIndex_df160_1 : decode cJ0_checkIndex_df160 1 = .ok (.iload_n 1, 1) := by decide +kernel
theorem dJ0_checkIndex_df160_2 : decode cJ0_checkIndex_df160 2 = .ok (.getstatic 1053, 3) := by decide +kernel
theorem dJ0_checkIndex_df160_5 : decode cJ0_checkIndex_df160 5 = .ok (.invokestatic 1059, 3) := by decide +kernel
theorem dJ0_checkIndex_df160_8 : decode cJ0_checkIndex_df160 8 = .ok (.pop, 1) := by decide +kernel
theorem dJ0_checkIndex_df160_9 : decode cJ0_checkIndex_df160 9 = .ok (.return_, 1) := by decide +kernel
theorem dJ1_charAt_3b067_0 : decode cJ1_charAt_3b067 0 = .ok (.iload_n 1, 1) := by decide +kernel
theorem dJ1_charAt_3b067_1 : decode cJ1_charAt_3b067 1 = .ok (.aload_n 0, 1) := by decide +kernel
theorem dJ1_charAt_3b067_2 : decode cJ1_charAt_3b067 2 = .ok (.arraylength, 1) := by decide +kernel
theorem dJ1_charAt_3b067_3 : decode cJ1_charAt_3b067 3 = .ok (.invokestatic 9, 3) := by decide +kernel
theorem dJ1_charAt_3b067_6 : decode cJ1_charAt_3b067 6 = .ok (.aload_n 0, 1) := by decide +kernel
theorem dJ1_charAt_3b067_7 : decode cJ1_charAt_3b067 7 = .ok (.iload_n 1, 1) := by decide +kernel
theorem dJ1_charAt_3b067_8 : decode cJ1_charAt_3b067 8 = .ok (.baload, 1) := by decide +kernel
theorem dJ1_charAt_3b067_9 : decode cJ1_charAt_3b067 9 = .ok (.sipush 255, 3) := by decide +kernel
theorem dJ1_charAt_3b067_12 : decode cJ1_charAt_3b067 12 = .ok (.iand, 1) := by decide +kernel
theorem dJ1_charAt_3b067_13 : decode cJ1_charAt_3b067 13 = .ok (.i2c, 1) := by decide +kernel
theorem dJ1_charAt_3b067_14 : decode cJ1_charAt_3b067 14 = .ok (.ireturn, 1) := by decide +kernel
theorem dJ2_getChar_3b067_0 : decode cJ2_getChar_3b067 0 = .ok (.getstatic 44, 3) := by decide +kernel
theorem dJ2_getChar_3b067_3 : decode cJ2_getChar_3b067 3 = .ok (.ifCond .ne 25, 3) := by decide +kernel
theorem dJ2_getChar_3b067_6 : decode cJ2_getChar_3b067 6 = .ok (.iload_n 1, 1) := by decide +kernel
theorem dJ2_getChar_3b067_7 : decode cJ2_getChar_3b067 7 = .ok (.ifCond .lt 11, 3) := by decide +kernel
theorem dJ2_getChar_3b067_10 : decode cJ2_getChar_3b067 10 = .ok (.iload_n 1, 1) := by decide +kernel
theorem dJ2_getChar_3b067_11 : decode cJ2_getChar_3b067 11 = .ok (.aload_n 0, 1) := by decide +kernel
theorem dJ2_getChar_3b067_12 : decode cJ2_getChar_3b067 12 = .ok (.invokestatic 48, 3) := by decide +kernel
theorem dJ2_getChar_3b067_15 : decode cJ2_getChar_3b067 15 = .ok (.if_icmp .lt 13, 3) := by decide +kernel
theorem dJ2_getChar_3b067_18 : decode cJ2_getChar_3b067 18 = .ok (.new 52, 3) := by decide +kernel
theorem dJ2_getChar_3b067_21 : decode cJ2_getChar_3b067 21 = .ok (.dup, 1) := by decide +kernel
theorem dJ2_getChar_3b067_22 : decode cJ2_getChar_3b067 22 = .ok (.ldc 54, 2) := by decide +kernel
theorem dJ2_getChar_3b067_24 : decode cJ2_getChar_3b067 24 = .ok (.invokespecial 56, 3) := by decide +kernel
theorem dJ2_getChar_3b067_27 : decode cJ2_getChar_3b067 27 = .ok (.athrow, 1) := by decide +kernel
theorem dJ2_getChar_3b067_28 : decode cJ2_getChar_3b067 28 = .ok (.iload_n 1, 1) := by decide +kernel
theorem dJ2_getChar_3b067_29 : decode cJ2_getChar_3b067 29 = .ok (.iconst 1, 1) := by decide +kernel
theorem dJ2_getChar_3b067_30 : decode cJ2_getChar_3b067 30 = .ok (.ishl, 1) := by decide +kernel
theorem dJ2_getChar_3b067_31 : decode cJ2_getChar_3b067 31 = .ok (.istore_n 1, 1) := by decide +kernel
theorem dJ2_getChar_3b067_32 : decode cJ2_getChar_3b067 32 = .ok (.aload_n 0, 1) := by decide +kernel
theorem dJ2_getChar_3b067_33 : decode cJ2_getChar_3b067 33 = .ok (.iload_n 1, 1) := by decide +kernel
theorem dJ2_getChar_3b067_34 : decode cJ2_getChar_3b067 34 = .ok (.iinc 1 1, 3) := by decide +kernel
theorem dJ2_getChar_3b067_37 : decode cJ2_getChar_3b067 37 = .ok (.baload, 1) := by decide +kernel
theorem dJ2_getChar_3b067_38 : decode cJ2_getChar_3b067 38 = .ok (.sipush 255, 3) := by decide +kernel
theorem dJ2_getChar_3b067_41 : decode cJ2_getChar_3b067 41 = .ok (.iand, 1) := by decide +kernel
theorem dJ2_getChar_3b067_42 : decode cJ2_getChar_3b067 42 = .ok (.getstatic 59, 3) := by decide +kernel
theorem dJ2_getChar_3b067_45 : decode cJ2_getChar_3b067 45 = .ok (.ishl, 1) := by decide +kernel
theorem dJ2_getChar_3b067_46 : decode cJ2_getChar_3b067 46 = .ok (.aload_n 0, 1) := by decide +kernel
theorem dJ2_getChar_3b067_47 : decode cJ2_getChar_3b067 47 = .ok (.iload_n 1, 1) := by decide +kernel
theorem dJ2_getChar_3b067_48 : decode cJ2_getChar_3b067 48 = .ok (.baload, 1) := by decide +kernel
theorem dJ2_getChar_3b067_49 : decode cJ2_getChar_3b067 49 = .ok (.sipush 255, 3) := by decide +kernel
theorem dJ2_getChar_3b067_52 : decode cJ2_getChar_3b067 52 = .ok (.iand, 1) := by decide +kernel
theorem dJ2_getChar_3b067_53 : decode cJ2_getChar_3b067 53 = .ok (.getstatic 63, 3) := by decide +kernel
theorem dJ2_getChar_3b067_56 : decode cJ2_getChar_3b067 56 = .ok (.ishl, 1) := by decide +kernel
theorem dJ2_getChar_3b067_57 : decode cJ2_getChar_3b067 57 = .ok (.ior, 1) := by decide +kernel
theorem dJ2_getChar_3b067_58 : decode cJ2_getChar_3b067 58 = .ok (.i2c, 1) := by decide +kernel
theorem dJ2_getChar_3b067_59 : decode cJ2_getChar_3b067 59 = .ok (.ireturn, 1) := by decide +kernel
theorem dJ2_length_9d52b_0 : decode cJ2_length_9d52b 0 = .ok (.aload_n 0, 1) := by decide +kernel
theorem dJ2_length_9d52b_1 : decode cJ2_length_9d52b 1 = .ok (.arraylength, 1) := by decide +kernel
theorem dJ2_length_9d52b_2 : decode cJ2_length_9d52b 2 = .ok (.iconst 1, 1) := by decide +kernel
theorem dJ2_length_9d52b_3 : decode cJ2_length_9d52b 3 = .ok (.ishr, 1) := by decide +kernel
theorem dJ2_length_9d52b_4 : decode cJ2_length_9d52b 4 = .ok (.ireturn, 1) := by decide +kernel
theorem dJ2_charAt_3b067_0 : decode cJ2_charAt_3b067 0 = .ok (.iload_n 1, 1) := by decide +kernel
theorem dJ2_charAt_3b067_1 : decode cJ2_charAt_3b067 1 = .ok (.aload_n 0, 1) := by decide +kernel
theorem dJ2_charAt_3b067_2 : decode cJ2_charAt_3b067 2 = .ok (.invokestatic 67, 3) := by decide +kernel
theorem dJ2_charAt_3b067_5 : decode cJ2_charAt_3b067 5 = .ok (.aload_n 0, 1) := by decide +kernel
theorem dJ2_charAt_3b067_6 : decode cJ2_charAt_3b067 6 = .ok (.iload_n 1, 1) := by decide +kernel
theorem dJ2_charAt_3b067_7 : decode cJ2_charAt_3b067 7 = .ok (.invokestatic 71, 3) := by decide +kernel
theorem dJ2_charAt_3b067_10 : decode cJ2_charAt_3b067 10 = .ok (.ireturn, 1) := by decide +kernel
theorem dJ2_checkIndex_2214a_0 : decode cJ2_checkIndex_2214a 0 = .ok (.iload_n 0, 1) := by decide +kernel
theorem dJ2_checkIndex_2214a_1 : decode cJ2_checkIndex_2214a 1 = .ok (.aload_n 1, 1) := by decide +kernel
theorem dJ2_checkIndex_2214a_2 : decode cJ2_checkIndex_2214a 2 = .ok (.invokestatic 48, 3) := by decide +kernel
theorem dJ2_checkIndex_2214a_5 : decode cJ2_checkIndex_2214a 5 = .ok (.invokestatic 414, 3) := by decide +kernel
theorem dJ2_checkIndex_2214a_8 : decode cJ2_checkIndex_2214a 8 = .ok (.return_, 1) := by decide +kernel
theorem dJ3_checkIndex_8e157_0 : decode cJ3_checkIndex_8e157 0 = .ok (.iload_n 0, 1) := by decide +kernel
theorem dJ3_checkIndex_8e157_1 : decode cJ3_checkIndex_8e157 1 = .ok (.ifCond .lt 8, 3) := by decide +kernel
theorem dJ3_checkIndex_8e157_4 : decode cJ3_checkIndex_8e157 4 = .ok (.iload_n 0, 1) := by decide +kernel
theorem dJ3_checkIndex_8e157_5 : decode cJ3_checkIndex_8e157 5 = .ok (.iload_n 1, 1) := by decide +kernel
theorem dJ3_checkIndex_8e157_6 : decode cJ3_checkIndex_8e157 6 = .ok (.if_icmp .lt 10, 3) := by decide +kernel
theorem dJ3_checkIndex_8e157_9 : decode cJ3_checkIndex_8e157 9 = .ok (.aload_n 2, 1) := by decide +kernel
theorem dJ3_checkIndex_8e157_10 : decode cJ3_checkIndex_8e157 10 = .ok (.iload_n 0, 1) := by decide +kernel
theorem dJ3_checkIndex_8e157_11 : decode cJ3_checkIndex_8e157 11 = .ok (.iload_n 1, 1) := by decide +kernel
theorem dJ3_checkIndex_8e157_12 : decode cJ3_checkIndex_8e157 12 = .ok (.invokestatic 95, 3) := by decide +kernel
theorem dJ3_checkIndex_8e157_15 : decode cJ3_checkIndex_8e157 15 = .ok (.athrow, 1) := by decide +kernel
theorem dJ3_checkIndex_8e157_16 : decode cJ3_checkIndex_8e157 16 = .ok (.iload_n 0, 1) := by decide +kernel
theorem dJ3_checkIndex_8e157_17 : decode cJ3_checkIndex_8e157 17 = .ok (.ireturn, 1) := by decide +kernel
end
section
/-! THE STORE AND ITS WORLD: every cell of the class's object and of the reference's has a number; the object graph is fixed once both are made -/
def lw_g : List Cond := lw_tbl.filter goodWord
theorem lw_in {w : Cond} (i : Nat) (h : tables_1[i]? = some w) (hg : goodWord w = true) : w ∈ lw_g := List.mem_filter.mpr ⟨List.mem_append_right _ (List.mem_of_getElem? h), hg⟩
theorem lw_inS {w : Cond} (i : Nat) (h : (k2_sels lw_privs)[i]? = some w) (hg : goodWord w = true) : w ∈ lw_g := List.mem_filter.mpr ⟨List.mem_append_left _ (List.mem_of_getElem? h), hg⟩
theorem lw_sub : ∀ w ∈ lw_g, w ∈ lw_tbl := fun w h => (List.mem_filter.mp h).1
theorem lw_gd : ∀ w ∈ lw_g, goodWord w = true := fun w h => (List.mem_filter.mp h).2
abbrev zSto : Type := (Nat → Nat → Int32) × (Nat → Nat → Int64)
def zsi (σ : zSto) (o j : Nat) (v : Int32) : zSto := (fun a b => if a = o ∧ b = j then v else σ.1 a b, σ.2)
def zsl (σ : zSto) (o j : Nat) (v : Int64) : zSto := (σ.1, fun a b => if a = o ∧ b = j then v else σ.2 a b)
/-- a cell's shape: an object (its class, of each field: a number, or which cell), a row of numbers (0 int, 1 long, 2 byte; how many), a row of cells -/
abbrev zShp : Type := (Nat × List (Option Nat)) ⊕ (Nat × Nat) ⊕ List Nat
def zTw (o : Nat) : List zShp := [.inl (3, [none, none, none, none, some (o + 1), some (o + 2), some (o + 3), some (o + 4), some (o + 5), some (o + 6)]), .inr (.inl (0, 6)), .inr (.inl (0, 6)), .inr (.inl (0, 8)), .inr (.inl (0, 8)), .inr (.inl (0, 8)), .inr (.inl (0, 8))]
def zsh : List zShp :=
  [.inl (4, [some 1, some 8, some 15, none, some 22, some 24, some 25, some 33])] ++ zTw 1 ++ zTw 8 ++ zTw 15 ++
  [.inl (1, [some 23, none]), .inr (.inl (2, 120)),
   .inl (2, [some 22, some 8, none, none, none, none]),
   .inl (0, [some 26, some 31, some 32]), .inr (.inr [27, 28, 29, 30]), .inr (.inl (1, 40)), .inr (.inl (1, 40)), .inr (.inl (1, 40)), .inr (.inl (1, 40)), .inr (.inl (0, 4)), .inr (.inl (0, 4)),
   .inr (.inl (0, 7)),
   .inl (5, [some 35, some 36, some 37, some 38, some 39, none, some 40, none, none, none, none, none, some 41, some 42, some 43, some 44]),
   .inr (.inl (0, 48)), .inr (.inl (0, 48)), .inr (.inl (0, 48)), .inr (.inl (0, 48)), .inr (.inl (0, 7)), .inr (.inl (0, 120)), .inr (.inl (0, 4)), .inr (.inl (0, 4)), .inr (.inl (1, 160)), .inr (.inl (1, 40))]
theorem zsh_len : zsh.length = 45 := by decide +kernel
/-- the numbers of classes and slots; the cells' addresses; the rows' classes; the statics' addresses; the texts' and their bytes' -/
abbrev zG : Type := va_G × (Nat → Nat) × (Nat → ClassId) × (Nat → Nat) × (Nat → Nat) × (Nat → Nat)
def zad (g : zG) (o : Nat) : Nat := g.2.1 o
def zcA (g : zG) (t : Nat) : ClassId := g.2.2.1 t
def zst (g : zG) (k : Nat) : Nat := g.2.2.2.1 k
def zsk (g : zG) (k : Nat) : Nat := g.2.2.2.2.1 k
def zsv (g : zG) (k : Nat) : Nat := g.2.2.2.2.2 k
def zfv (g : zG) (σ : zSto) (o j : Nat) (f : Option Nat) : Value := match f with
  | none => .int (σ.1 o j)
  | some q => .ref (zad g q)
def zcel (g : zG) (σ : zSto) (o : Nat) (sh : zShp) : va_E := match sh with
  | .inl x => .inr (x.1, x.2.mapIdx (zfv g σ o))
  | .inr (.inl x) => if x.1 = 1 then .inl (zcA g 1, x.2, .inr (.inl (σ.2 o))) else .inl (zcA g x.1, x.2, .inl (σ.1 o))
  | .inr (.inr rs) => .inl (zcA g 3, rs.length, .inr (.inr (.inr (.inr (fun j => (rs[j]?).map (zad g))))))
def zwld (g : zG) (σ : zSto) : va_W := zsh.mapIdx (fun o sh => (zad g o, zcel g σ o sh))
theorem zwld_at {g : zG} {σ : zSto} {o : Nat} {sh : zShp} (h : zsh[o]? = some sh) : (zwld g σ)[o]? = some (zad g o, zcel g σ o sh) := by
  simp [zwld, List.getElem?_mapIdx, h]
theorem zwld_of {g : zG} {σ : zSto} {k : Nat} {q : Nat × va_E} (h : (zwld g σ)[k]? = some q) : k < 45 ∧ ∃ sh, zsh[k]? = some sh ∧ q = (zad g k, zcel g σ k sh) := by
  have h0 := h
  rw [zwld, List.getElem?_mapIdx] at h
  cases hs : zsh[k]? with
  | none => rw [hs] at h; cases h
  | some sh =>
    rw [hs] at h
    refine ⟨?_, sh, rfl, (Option.some.inj h).symm⟩
    have := (List.getElem?_eq_some_iff.mp hs).1
    rw [zsh_len] at this
    exact this
theorem zcel_congr {g : zG} {σ σ' : zSto} {o : Nat} {sh : zShp} (h1 : σ'.1 o = σ.1 o) (h2 : σ'.2 o = σ.2 o) : zcel g σ' o sh = zcel g σ o sh := by
  have hz : zfv g σ' o = zfv g σ o := by
    funext j f
    cases f with
    | none => show Value.int (σ'.1 o j) = Value.int (σ.1 o j); rw [h1]
    | some q => rfl
  rcases sh with x | x | x
  · show Sum.inr (x.1, x.2.mapIdx (zfv g σ' o)) = Sum.inr (x.1, x.2.mapIdx (zfv g σ o))
    rw [hz]
  · show (if x.1 = 1 then _ else _) = (if x.1 = 1 then _ else _)
    rw [h1, h2]
  · rfl
theorem zwld_set {g : zG} {σ σ' : zSto} {o : Nat} {sh : zShp} {e : va_E} (h : zsh[o]? = some sh) (h1 : ∀ a, a ≠ o → σ'.1 a = σ.1 a) (h2 : ∀ a, a ≠ o → σ'.2 a = σ.2 a) (he : zcel g σ' o sh = e) : (zwld g σ).set o (zad g o, e) = zwld g σ' := by
  apply List.ext_getElem?
  intro i
  by_cases hi : i = o
  · subst hi
    have hl : i < (zwld g σ).length := (List.getElem?_eq_some_iff.mp (zwld_at (g := g) (σ := σ) h)).1
    rw [List.getElem?_set_self hl, zwld_at h, he]
  · rw [List.getElem?_set_ne (Ne.symm hi)]
    rw [zwld, zwld, List.getElem?_mapIdx, List.getElem?_mapIdx]
    cases zsh[i]? with
    | none => rfl
    | some sh' =>
      show some (zad g i, zcel g σ i sh') = some (zad g i, zcel g σ' i sh')
      rw [zcel_congr (h1 i hi) (h2 i hi)]
def zAg (g : zG) : Nat → Prop := fun q => ∃ o, o < 45 ∧ q = zad g o
def zGk (g : zG) : Prop := ∀ i j, i < 45 → j < 45 → zad g i = zad g j → i = j
theorem zwld_D {g : zG} {σ : zSto} (h : zGk g) {A : Nat → Prop} (hA : ∀ q, zAg g q → A q) : va_D A (zwld g σ) := by
  refine ⟨fun i j p q hi hj hpq => ?_, fun k q hk => ?_⟩
  · obtain ⟨a, sh, -, rfl⟩ := zwld_of hi
    obtain ⟨b, sh', -, rfl⟩ := zwld_of hj
    exact h i j a b hpq
  · obtain ⟨a, sh, -, rfl⟩ := zwld_of hk
    exact hA _ ⟨k, a, rfl⟩
def ztys (g : zG) : List (ClassId × FieldType) := [(zcA g 0, .int), (zcA g 1, .long), (zcA g 2, .byte), (zcA g 3, .array .long)]
/-! what stands beside the world: two rows of statics, two words on nest mates, the texts -/
def zEarn : List Int32 := [2, 3, 0, 4, 0, 0]
def zAbove : List Int32 := [-1, 0, 0, 0, 1, 2]
def zTx : List String := ["thrower", "lady", "boy", "stranger", "agent", "diver", "leans", "pence", "left", "right", "bribe", "away"]
def zTk : List Nat := [70, 72, 74, 76, 78, 80, 91, 102, 49, 58, 60, 65]
def zTlen : List Nat := [7, 4, 3, 8, 5, 5, 5, 5, 4, 5, 5, 4]
def zTby : List (List Int32) := [[116, 104, 114, 111, 119, 101, 114], [108, 97, 100, 121], [98, 111, 121], [115, 116, 114, 97, 110, 103, 101, 114], [97, 103, 101, 110, 116], [100, 105, 118, 101, 114], [108, 101, 97, 110, 115], [112, 101, 110, 99, 101], [108, 101, 102, 116], [114, 105, 103, 104, 116], [98, 114, 105, 98, 101], [97, 119, 97, 121]]
def zSx (g : zG) (A : Nat → Prop) (U : State) (H : Heap) : Prop :=
  ((va_Z "BasinVotes$Kinds" "EARNS" "[I" (.ref (zst g 0)) A U H ∧ va_T .int (zst g 0) 6 (fun j => .int (zEarn.getD j 0)) A U H) ∧ (va_Z "BasinVotes$Kinds" "ABOVE" "[I" (.ref (zst g 1)) A U H ∧ va_T .int (zst g 1) 6 (fun j => .int (zAbove.getD j 0)) A U H)) ∧
  (va_Nw (.methodLinkNest RX0 9 yX5_isKind "BasinVotes") U ∧ va_Nw (.methodLinkNest RX3 42 yX5_isKind "BasinVotes") U) ∧
  va_Z "java/lang/String" "COMPACT_STRINGS" "Z" (.int 1) A U H ∧
  (vk_S 12 zTlen zTby (zsk g) (zsv g) A U H ∧ ∀ i, i < 12 → vk_R RX3 (zTk.getD i 0) (zTx.getD i "") (zsk g i) U)
theorem zSx.warm {g : zG} {A : Nat → Prop} {s U : State} {H : Heap} (hW : s.WarmedH U.vm) (h : zSx g A s H) : zSx g A U H :=
  ⟨⟨⟨h.1.1.1.moved hW.alike, h.1.1.2.moved hW.alike⟩, h.1.2.1.moved hW.alike, h.1.2.2.moved hW.alike⟩, ⟨va_Nw.warmM hW h.2.1.1, va_Nw.warmM hW h.2.1.2⟩, h.2.2.1.moved hW.alike, h.2.2.2.1.moved hW.alike, fun i hi => (h.2.2.2.2 i hi).warm hW⟩
theorem zSx.kept {g : zG} {A : Nat → Prop} {U : State} {H H1 : Heap} (h : zSx g A U H) (hq : ∀ a : Nat, a < H.size → ¬ A a → H1[a]? = H[a]?) : zSx g A U H1 :=
  ⟨⟨⟨h.1.1.1.kept hq, h.1.1.2.kept hq⟩, h.1.2.1.kept hq, h.1.2.2.kept hq⟩, h.2.1, h.2.2.1.kept hq, h.2.2.2.1.kept hq, h.2.2.2.2⟩
theorem zSx.narrow {g : zG} {A B : Nat → Prop} {U : State} {H : Heap} (h : zSx g A U H) (hAB : ∀ q, B q → A q) : zSx g B U H :=
  ⟨⟨⟨h.1.1.1.narrow hAB, h.1.1.2.narrow hAB⟩, h.1.2.1.narrow hAB, h.1.2.2.narrow hAB⟩, h.2.1, h.2.2.1.narrow hAB, h.2.2.2.1.narrow hAB, h.2.2.2.2⟩
theorem zSx.same {g : zG} {A : Nat → Prop} {s U : State} {H : Heap} (hv : U.vm = s.vm) (h : zSx g A s H) : zSx g A U H := by
  have hal : s.vm.Alike U.vm := by rw [hv]; exact Vm.Alike.refl _
  exact ⟨⟨⟨h.1.1.1.moved hal, h.1.1.2.moved hal⟩, h.1.2.1.moved hal, h.1.2.2.moved hal⟩, ⟨va_Nw.same rfl hv.symm h.2.1.1, va_Nw.same rfl hv.symm h.2.1.2⟩, h.2.2.1.moved hal, h.2.2.2.1.moved hal, fun i hi => (h.2.2.2.2 i hi).same hv⟩
/-- the world at a state -/
def zWd (g : zG) (σ : zSto) (U : State) : Prop := zGk g ∧ va_P g.1 vwCl (zwld g σ) U.heap ∧ va_K g.1 vwCl (ztys g) U ∧ zSx g (zAg g) U U.heap
/-! A WALK: the machine stands at pc, with locals lv, the stack st and the store σ -/
abbrev zC : Type := Program × Launch × Env × Room × State × MethodId × Array Value × List Frame × Method × Code × Nat × (Nat → Prop) × Nat × Nat × (State → Prop)
abbrev zcs (C : zC) : State := C.2.2.2.2.1
abbrev zcR (C : zC) : Room := C.2.2.2.1
abbrev zcN (C : zC) : Nat := C.2.2.2.2.2.2.2.2.2.2.1
abbrev zcA' (C : zC) : Nat → Prop := C.2.2.2.2.2.2.2.2.2.2.2.1
abbrev zcM (C : zC) : Method := C.2.2.2.2.2.2.2.2.1
abbrev zcQ (C : zC) : State → Prop := C.2.2.2.2.2.2.2.2.2.2.2.2.2.2
abbrev zcb (C : zC) : List Frame := C.2.2.2.2.2.2.2.1
abbrev zca (C : zC) : Array Value := C.2.2.2.2.2.2.1
def zLH (ls : Array Slot) (nL : Nat) (lv : List (Option Value)) : Prop := ls.size = nL ∧ lv_wf ls ∧ ∀ (i : Nat) (v : Value), lv[i]? = some (some v) → ls[i]? = some (.val v)
def zOk (g : zG) (C : zC) (dd : Nat) (cc : ByteArray) (own : String) : Prop := match C with
  | (p, _, _, R, s, m, args, _, meth, c, nL, A, cells, slots, _) =>
    p.tables.exec = Jvm.exec ∧ c.code = cc ∧ c.maxLocals = nL ∧ s.vm.findClass own = some m.cls ∧ (∀ w ∈ lw_g, w.before args s = true) ∧ meth.locks = false ∧ va_K g.1 vwCl (ztys g) s ∧ zSx g A s s.heap ∧ zGk g ∧ (∀ q, zAg g q → A q) ∧ (cells ≤ R.cells ∧ slots ≤ R.slots) ∧ dd ≤ R.frames ∧ 36 * dd ≤ R.locals
def zAW (g : zG) (C : zC) (dd : Nat) (cc : ByteArray) (own : String) (pc : Nat) (lv : List (Option Value)) (st : List Value) (σ : zSto) : Prop := match C with
  | (p, l, e, R, s, m, args, below, meth, c, nL, A, cells, slots, Q) =>
    zOk g (p, l, e, R, s, m, args, below, meth, c, nL, A, cells, slots, Q) dd cc own → ∀ (H : Heap) (locs : List Loc) (ls : Array Slot), va_P g.1 vwCl (zwld g σ) H → va_S A s.heap H locs → zLH ls nL lv → W p l e R s m args below meth c H locs cells slots Q (F0 m pc ls st)
end
section
section ZROWS
variable {g : zG} {C : zC} {dd : Nat} {cc : ByteArray} {own : String} {pc : Nat} {lv : List (Option Value)} {st : List Value} {σ : zSto}
/-- true as a number -/
def zb (c : Prop) [Decidable c] : Int32 := if c then nI 1 else nI 0
theorem zb_0 {c : Prop} [Decidable c] : zb c = 0 ↔ ¬ c := by
  unfold zb
  split
  · rename_i h; exact ⟨fun q => absurd q (by decide), fun q => absurd h q⟩
  · rename_i h; exact ⟨fun _ => h, fun _ => rfl⟩
theorem zb_1 {c : Prop} [Decidable c] (h : c) : zb c = nI 1 := if_pos h
theorem zb_f {c : Prop} [Decidable c] (h : ¬ c) : zb c = nI 0 := if_neg h
theorem znext (k : Nat) : nI k + Int32.ofInt 1 = nI (k + 1) := nI_1 k
theorem zprev (k : Nat) : nI (k + 1) + Int32.ofInt (-1) = nI k := pk_m1 k
theorem zb_nar {c : Prop} [Decidable c] : narrow .boolean (.int (zb c)) = .int (zb c) := by
  unfold zb
  split <;> decide
/-! locals -/
def zkl (lv : List (Option Value)) (j : Nat) : List (Option Value) := match lv[j]? with
  | some (some (.long _)) => lv.set j none
  | some (some (.double _)) => lv.set j none
  | _ => lv
def zst0 (lv : List (Option Value)) (i : Nat) : List (Option Value) := match i with
  | 0 => lv
  | j + 1 => zkl lv j
def zst1 (lv : List (Option Value)) (i : Nat) (v : Value) : List (Option Value) := (zst0 lv i).set i (some v)
def zst2 (lv : List (Option Value)) (i : Nat) (v : Value) : List (Option Value) := ((zst0 lv i).set i (some v)).set (i + 1) none
theorem zkl_at {lv : List (Option Value)} {i j : Nat} {w : Value} (h : (zkl lv i)[j]? = some (some w)) : lv[j]? = some (some w) ∧ ¬ (j = i ∧ w.category = 2) := by
  unfold zkl at h
  split at h
  · by_cases hj : j = i
    · subst hj
      rw [List.getElem?_set] at h
      simp at h
    · rw [List.getElem?_set_ne (Ne.symm hj)] at h
      exact ⟨h, fun q => hj q.1⟩
  · by_cases hj : j = i
    · subst hj
      rw [List.getElem?_set] at h
      simp at h
    · rw [List.getElem?_set_ne (Ne.symm hj)] at h
      exact ⟨h, fun q => hj q.1⟩
  · rename_i h1 h2
    refine ⟨h, fun q => ?_⟩
    obtain ⟨rfl, hc⟩ := q
    cases w with
    | long x => exact h1 x h
    | double x => exact h2 x h
    | _ => simp [Value.category] at hc
theorem zst0_at {lv : List (Option Value)} {i j : Nat} {w : Value} (h : (zst0 lv i)[j]? = some (some w)) : lv[j]? = some (some w) ∧ ¬ (j + 1 = i ∧ w.category = 2) := by
  cases i with
  | zero => exact ⟨h, fun q => by omega⟩
  | succ i =>
    obtain ⟨h1, h2⟩ := zkl_at h
    exact ⟨h1, fun q => h2 ⟨by omega, q.2⟩⟩
def zpr (lv : List (Option Value)) : List (Nat × Value) := (lv.mapIdx (fun i o => o.map (fun v => (i, v)))).filterMap id
theorem zpr_mem {lv : List (Option Value)} {q : Nat × Value} : q ∈ zpr lv ↔ lv[q.1]? = some (some q.2) := by
  unfold zpr
  rw [List.mem_filterMap]
  constructor
  · rintro ⟨a, ha, hq⟩
    obtain ⟨i, hi⟩ := List.getElem?_of_mem ha
    rw [List.getElem?_mapIdx] at hi
    cases h1 : lv[i]? with
    | none => rw [h1] at hi; cases hi
    | some o =>
      rw [h1] at hi
      cases o with
      | none => have := Option.some.inj hi; rw [← this] at hq; cases hq
      | some v =>
        have := Option.some.inj hi
        rw [← this] at hq
        have := Option.some.inj hq
        rw [← this]
        exact h1
  · intro h
    refine ⟨some q, ?_, rfl⟩
    apply List.mem_of_getElem? (i := q.1)
    rw [List.getElem?_mapIdx, h]
    rfl
theorem zLH_has {ls : Array Slot} {nL : Nat} {lv : List (Option Value)} (h : zLH ls nL lv) : lv_has ls nL (zpr lv) := ⟨h.1, h.2.1, fun q hq => h.2.2 q.1 q.2 (zpr_mem.mp hq)⟩
theorem zLH_1 {ls : Array Slot} {nL : Nat} {lv : List (Option Value)} {i : Nat} {v : Value} (h : lv_has ls nL ((i, v) :: (zpr lv).filter (fun q => !(q.1 == i) && !(q.1 + 1 == i && q.2.category == 2)))) : zLH ls nL (zst1 lv i v) := by
  refine ⟨h.1, h.2.1, fun j w hj => ?_⟩
  unfold zst1 at hj
  by_cases hji : j = i
  · subst hji
    by_cases hl : j < (zst0 lv j).length
    · rw [List.getElem?_set_self hl] at hj
      cases hj
      exact h.2.2 (j, v) List.mem_cons_self
    · rw [List.getElem?_eq_none (by rw [List.length_set]; omega)] at hj
      cases hj
  · rw [List.getElem?_set_ne (Ne.symm hji)] at hj
    obtain ⟨h1, h2⟩ := zst0_at hj
    refine h.2.2 (j, w) (List.mem_cons_of_mem _ (List.mem_filter.mpr ⟨zpr_mem.mpr h1, ?_⟩))
    simp only [Bool.and_eq_true, Bool.not_eq_true', beq_eq_false_iff_ne, ne_eq, Bool.and_eq_false_iff]
    refine ⟨hji, ?_⟩
    by_cases a : j + 1 = i
    · exact Or.inr fun q => h2 ⟨a, q⟩
    · exact Or.inl a
theorem zLH_2 {ls : Array Slot} {nL : Nat} {lv : List (Option Value)} {i : Nat} {v : Value} (h : lv_has ls nL ((i, v) :: (zpr lv).filter (fun q => !(q.1 == i) && (!(q.1 == i + 1) && !(q.1 + 1 == i && q.2.category == 2))))) : zLH ls nL (zst2 lv i v) := by
  refine ⟨h.1, h.2.1, fun j w hj => ?_⟩
  unfold zst2 at hj
  by_cases hj1 : j = i + 1
  · subst hj1
    rw [List.getElem?_set] at hj
    simp at hj
  · rw [List.getElem?_set_ne (Ne.symm hj1)] at hj
    by_cases hji : j = i
    · subst hji
      by_cases hl : j < (zst0 lv j).length
      · rw [List.getElem?_set_self hl] at hj
        cases hj
        exact h.2.2 (j, v) List.mem_cons_self
      · rw [List.getElem?_eq_none (by rw [List.length_set]; omega)] at hj
        cases hj
    · rw [List.getElem?_set_ne (Ne.symm hji)] at hj
      obtain ⟨h1, h2⟩ := zst0_at hj
      refine h.2.2 (j, w) (List.mem_cons_of_mem _ (List.mem_filter.mpr ⟨zpr_mem.mpr h1, ?_⟩))
      simp only [Bool.and_eq_true, Bool.not_eq_true', beq_eq_false_iff_ne, ne_eq, Bool.and_eq_false_iff]
      refine ⟨hji, hj1, ?_⟩
      by_cases a : j + 1 = i
      · exact Or.inr fun q => h2 ⟨a, q⟩
      · exact Or.inl a
def zlv0 : List Value → List (Option Value)
  | [] => []
  | .long x :: vs => some (.long x) :: none :: zlv0 vs
  | .double x :: vs => some (.double x) :: none :: zlv0 vs
  | v :: vs => some v :: zlv0 vs
def zlv (as : List Value) (n : Nat) : List (Option Value) := zlv0 as ++ List.replicate (n - (zlv0 as).length) none
theorem zlv0_at : ∀ (as : List Value) (i b : Nat) (v : Value), (zlv0 as)[i]? = some (some v) → (b + i, v) ∈ lv_args b as
  | [], i, b, v, h => by simp [zlv0] at h
  | w :: vs, i, b, v, h => by
    have two : ∀ (w : Value), w.category = 2 → (some w :: none :: zlv0 vs)[i]? = some (some v) → (b + i, v) ∈ lv_args b (w :: vs) := by
      intro w hw h
      match i with
      | 0 => rw [List.getElem?_cons_zero] at h; cases h; exact List.mem_cons_self
      | 1 => rw [List.getElem?_cons_succ, List.getElem?_cons_zero] at h; cases h
      | i + 2 =>
        rw [List.getElem?_cons_succ, List.getElem?_cons_succ] at h
        refine List.mem_cons_of_mem _ ?_
        rw [if_pos hw, show b + (i + 2) = (b + 2) + i by omega]
        exact zlv0_at vs i (b + 2) v h
    have one : ∀ (w : Value), ¬ w.category = 2 → (some w :: zlv0 vs)[i]? = some (some v) → (b + i, v) ∈ lv_args b (w :: vs) := by
      intro w hw h
      match i with
      | 0 => rw [List.getElem?_cons_zero] at h; cases h; exact List.mem_cons_self
      | i + 1 =>
        rw [List.getElem?_cons_succ] at h
        refine List.mem_cons_of_mem _ ?_
        rw [if_neg hw, show b + (i + 1) = (b + 1) + i by omega]
        exact zlv0_at vs i (b + 1) v h
    cases w with
    | long x => exact two _ rfl h
    | double x => exact two _ rfl h
    | int x => exact one _ (by simp [Value.category]) h
    | float x => exact one _ (by simp [Value.category]) h
    | null => exact one _ (by simp [Value.category]) h
    | ref x => exact one _ (by simp [Value.category]) h
    | retAddr x => exact one _ (by simp [Value.category]) h
theorem zLH_entry {ls : Array Slot} {n : Nat} {as : List Value} (h : lv_has ls n (lv_args 0 as)) : zLH ls n (zlv as n) := by
  refine ⟨h.1, h.2.1, fun i v hi => ?_⟩
  unfold zlv at hi
  by_cases hl : i < (zlv0 as).length
  · rw [List.getElem?_append_left hl] at hi
    have := zlv0_at as i 0 v hi
    rw [Nat.zero_add] at this
    exact h.2.2 (i, v) this
  · rw [List.getElem?_append_right (by omega)] at hi
    have := List.eq_of_mem_replicate (List.mem_of_getElem? hi)
    cases this

theorem za_iconst {n : Int} (v : Int32) (hd : decode cc pc = .ok (.iconst n, 1)) (hv : Int32.ofInt n = v) (k : zAW g C dd cc own (pc + 1) lv (.int v :: st) σ) : zAW g C dd cc own pc lv st σ := by
  obtain ⟨p, l, e, R, s, m, args, below, meth, c, nL, A, cells, slots, Q⟩ := C
  intro ok H locs ls hP hS hL
  exact lv_iconst ok.1 ok.2.1 hd hv (k ok H locs ls hP hS hL)

theorem za_bipush {n : Int} (v : Int32) (hd : decode cc pc = .ok (.bipush n, 2)) (hv : (Int8.ofInt n).toInt32 = v) (k : zAW g C dd cc own (pc + 2) lv (.int v :: st) σ) : zAW g C dd cc own pc lv st σ := by
  obtain ⟨p, l, e, R, s, m, args, below, meth, c, nL, A, cells, slots, Q⟩ := C
  intro ok H locs ls hP hS hL
  exact lv_bipush ok.1 ok.2.1 hd hv (k ok H locs ls hP hS hL)

theorem za_sipush {n : Int} (v : Int32) (hd : decode cc pc = .ok (.sipush n, 3)) (hv : (Int16.ofInt n).toInt32 = v) (k : zAW g C dd cc own (pc + 3) lv (.int v :: st) σ) : zAW g C dd cc own pc lv st σ := by
  obtain ⟨p, l, e, R, s, m, args, below, meth, c, nL, A, cells, slots, Q⟩ := C
  intro ok H locs ls hP hS hL
  exact lv_sipush ok.1 ok.2.1 hd hv (k ok H locs ls hP hS hL)

theorem za_lconst {n : Fin 2} (v : Int64) (hd : decode cc pc = .ok (.lconst n, 1)) (hv : Int64.ofNat (n : Nat) = v) (k : zAW g C dd cc own (pc + 1) lv (.long v :: st) σ) : zAW g C dd cc own pc lv st σ := by
  obtain ⟨p, l, e, R, s, m, args, below, meth, c, nL, A, cells, slots, Q⟩ := C
  intro ok H locs ls hP hS hL
  exact lv_lconst ok.1 ok.2.1 hd hv (k ok H locs ls hP hS hL)

theorem za_ldc {n : Nat} {v : Int32} (hd : decode cc pc = .ok (.ldc n, 2)) (hw : Cond.constant own n v ∈ lw_g) (k : zAW g C dd cc own (pc + 2) lv (.int v :: st) σ) : zAW g C dd cc own pc lv st σ := by
  obtain ⟨p, l, e, R, s, m, args, below, meth, c, nL, A, cells, slots, Q⟩ := C
  intro ok H locs ls hP hS hL
  exact lv_ldc ok.1 ok.2.1 ok.2.2.2.1 (ok.2.2.2.2.1 _ hw) hd (k ok H locs ls hP hS hL)

theorem za_ldcw {n : Nat} {v : Int32} (hd : decode cc pc = .ok (.ldc_w n, 3)) (hw : Cond.constant own n v ∈ lw_g) (k : zAW g C dd cc own (pc + 3) lv (.int v :: st) σ) : zAW g C dd cc own pc lv st σ := by
  obtain ⟨p, l, e, R, s, m, args, below, meth, c, nL, A, cells, slots, Q⟩ := C
  intro ok H locs ls hP hS hL
  exact lv_ldcw ok.1 ok.2.1 ok.2.2.2.1 (ok.2.2.2.2.1 _ hw) hd (k ok H locs ls hP hS hL)

theorem za_ldc2 {n : Nat} {v : Int64} (hd : decode cc pc = .ok (.ldc2_w n, 3)) (hw : Cond.constantLong own n v ∈ lw_g) (k : zAW g C dd cc own (pc + 3) lv (.long v :: st) σ) : zAW g C dd cc own pc lv st σ := by
  obtain ⟨p, l, e, R, s, m, args, below, meth, c, nL, A, cells, slots, Q⟩ := C
  intro ok H locs ls hP hS hL
  exact lv_ldc2 ok.1 ok.2.1 ok.2.2.2.1 (ok.2.2.2.2.1 _ hw) hd (k ok H locs ls hP hS hL)

theorem za_iload_n {q : Fin 4} {x : Int32} (hd : decode cc pc = .ok (.iload_n q, 1)) (hl : lv[(q : Nat)]? = some (some (.int x))) (k : zAW g C dd cc own (pc + 1) lv (.int x :: st) σ) : zAW g C dd cc own pc lv st σ := by
  obtain ⟨p, l, e, R, s, m, args, below, meth, c, nL, A, cells, slots, Q⟩ := C
  intro ok H locs ls hP hS hL
  exact lv_iload_n ok.1 ok.2.1 hd rfl (hL.2.2 _ _ hl) (k ok H locs ls hP hS hL)

theorem za_iload {i : Nat} {x : Int32} (hd : decode cc pc = .ok (.iload i, 2)) (hl : lv[i]? = some (some (.int x))) (k : zAW g C dd cc own (pc + 2) lv (.int x :: st) σ) : zAW g C dd cc own pc lv st σ := by
  obtain ⟨p, l, e, R, s, m, args, below, meth, c, nL, A, cells, slots, Q⟩ := C
  intro ok H locs ls hP hS hL
  exact lv_iload ok.1 ok.2.1 hd (hL.2.2 _ _ hl) (k ok H locs ls hP hS hL)

theorem za_lload_n {q : Fin 4} {x : Int64} (hd : decode cc pc = .ok (.lload_n q, 1)) (hl : lv[(q : Nat)]? = some (some (.long x))) (k : zAW g C dd cc own (pc + 1) lv (.long x :: st) σ) : zAW g C dd cc own pc lv st σ := by
  obtain ⟨p, l, e, R, s, m, args, below, meth, c, nL, A, cells, slots, Q⟩ := C
  intro ok H locs ls hP hS hL
  exact lv_lload_n ok.1 ok.2.1 hd rfl (hL.2.2 _ _ hl) (k ok H locs ls hP hS hL)

theorem za_lload {i : Nat} {x : Int64} (hd : decode cc pc = .ok (.lload i, 2)) (hl : lv[i]? = some (some (.long x))) (k : zAW g C dd cc own (pc + 2) lv (.long x :: st) σ) : zAW g C dd cc own pc lv st σ := by
  obtain ⟨p, l, e, R, s, m, args, below, meth, c, nL, A, cells, slots, Q⟩ := C
  intro ok H locs ls hP hS hL
  exact lv_lload ok.1 ok.2.1 hd (hL.2.2 _ _ hl) (k ok H locs ls hP hS hL)

theorem za_aload_n {q : Fin 4} {x : Nat} (hd : decode cc pc = .ok (.aload_n q, 1)) (hl : lv[(q : Nat)]? = some (some (.ref x))) (k : zAW g C dd cc own (pc + 1) lv (.ref x :: st) σ) : zAW g C dd cc own pc lv st σ := by
  obtain ⟨p, l, e, R, s, m, args, below, meth, c, nL, A, cells, slots, Q⟩ := C
  intro ok H locs ls hP hS hL
  exact lv_aload_n ok.1 ok.2.1 hd rfl (hL.2.2 _ _ hl) (k ok H locs ls hP hS hL)

theorem za_aload {i : Nat} {x : Nat} (hd : decode cc pc = .ok (.aload i, 2)) (hl : lv[i]? = some (some (.ref x))) (k : zAW g C dd cc own (pc + 2) lv (.ref x :: st) σ) : zAW g C dd cc own pc lv st σ := by
  obtain ⟨p, l, e, R, s, m, args, below, meth, c, nL, A, cells, slots, Q⟩ := C
  intro ok H locs ls hP hS hL
  exact lv_aload ok.1 ok.2.1 hd (hL.2.2 _ _ hl) (k ok H locs ls hP hS hL)

theorem za_istore_n {q : Fin 4} {x : Int32} {lv' : List (Option Value)} (hd : decode cc pc = .ok (.istore_n q, 1)) {nn : Nat} (hN : zcN C = nn) (hn : (q : Nat) < nn) (hlv : zst1 lv (q : Nat) (.int x) = lv') (k : zAW g C dd cc own (pc + 1) lv' st σ) : zAW g C dd cc own pc lv (.int x :: st) σ := by
  obtain ⟨p, l, e, R, s, m, args, below, meth, c, nL, A, cells, slots, Q⟩ := C
  intro ok H locs ls hP hS hL
  subst hlv
  exact lv_istore_n ok.1 ok.2.1 hd rfl (zLH_has hL) (by rw [show nL = nn from hN]; exact hn) rfl (fun ls' h' => k ok H locs ls' hP hS (zLH_1 h'))

theorem za_istore {i : Nat} {x : Int32} {lv' : List (Option Value)} (hd : decode cc pc = .ok (.istore i, 2)) {nn : Nat} (hN : zcN C = nn) (hn : i < nn) (hlv : zst1 lv i (.int x) = lv') (k : zAW g C dd cc own (pc + 2) lv' st σ) : zAW g C dd cc own pc lv (.int x :: st) σ := by
  obtain ⟨p, l, e, R, s, m, args, below, meth, c, nL, A, cells, slots, Q⟩ := C
  intro ok H locs ls hP hS hL
  subst hlv
  exact lv_istore ok.1 ok.2.1 hd (zLH_has hL) (by rw [show nL = nn from hN]; exact hn) rfl (fun ls' h' => k ok H locs ls' hP hS (zLH_1 h'))

theorem za_lstore_n {q : Fin 4} {x : Int64} {lv' : List (Option Value)} (hd : decode cc pc = .ok (.lstore_n q, 1)) {nn : Nat} (hN : zcN C = nn) (hn : (q : Nat) + 1 < nn) (hlv : zst2 lv (q : Nat) (.long x) = lv') (k : zAW g C dd cc own (pc + 1) lv' st σ) : zAW g C dd cc own pc lv (.long x :: st) σ := by
  obtain ⟨p, l, e, R, s, m, args, below, meth, c, nL, A, cells, slots, Q⟩ := C
  intro ok H locs ls hP hS hL
  subst hlv
  exact lv_lstore_n ok.1 ok.2.1 hd rfl (zLH_has hL) (by rw [show nL = nn from hN]; exact hn) rfl (fun ls' h' => k ok H locs ls' hP hS (zLH_2 h'))

theorem za_lstore {i : Nat} {x : Int64} {lv' : List (Option Value)} (hd : decode cc pc = .ok (.lstore i, 2)) {nn : Nat} (hN : zcN C = nn) (hn : i + 1 < nn) (hlv : zst2 lv i (.long x) = lv') (k : zAW g C dd cc own (pc + 2) lv' st σ) : zAW g C dd cc own pc lv (.long x :: st) σ := by
  obtain ⟨p, l, e, R, s, m, args, below, meth, c, nL, A, cells, slots, Q⟩ := C
  intro ok H locs ls hP hS hL
  subst hlv
  exact lv_lstore ok.1 ok.2.1 hd (zLH_has hL) (by rw [show nL = nn from hN]; exact hn) rfl (fun ls' h' => k ok H locs ls' hP hS (zLH_2 h'))

theorem za_astore_n {q : Fin 4} {x : Nat} {lv' : List (Option Value)} (hd : decode cc pc = .ok (.astore_n q, 1)) {nn : Nat} (hN : zcN C = nn) (hn : (q : Nat) < nn) (hlv : zst1 lv (q : Nat) (.ref x) = lv') (k : zAW g C dd cc own (pc + 1) lv' st σ) : zAW g C dd cc own pc lv (.ref x :: st) σ := by
  obtain ⟨p, l, e, R, s, m, args, below, meth, c, nL, A, cells, slots, Q⟩ := C
  intro ok H locs ls hP hS hL
  subst hlv
  exact lv_astore_n ok.1 ok.2.1 hd rfl (zLH_has hL) (by rw [show nL = nn from hN]; exact hn) rfl (fun ls' h' => k ok H locs ls' hP hS (zLH_1 h'))

theorem za_astore {i : Nat} {x : Nat} {lv' : List (Option Value)} (hd : decode cc pc = .ok (.astore i, 2)) {nn : Nat} (hN : zcN C = nn) (hn : i < nn) (hlv : zst1 lv i (.ref x) = lv') (k : zAW g C dd cc own (pc + 2) lv' st σ) : zAW g C dd cc own pc lv (.ref x :: st) σ := by
  obtain ⟨p, l, e, R, s, m, args, below, meth, c, nL, A, cells, slots, Q⟩ := C
  intro ok H locs ls hP hS hL
  subst hlv
  exact lv_astore ok.1 ok.2.1 hd (zLH_has hL) (by rw [show nL = nn from hN]; exact hn) rfl (fun ls' h' => k ok H locs ls' hP hS (zLH_1 h'))

theorem za_iinc {i : Nat} {n : Int} {x : Int32} (v : Int32) {lv' : List (Option Value)} (hd : decode cc pc = .ok (.iinc i n, 3)) (hl : lv[i]? = some (some (.int x))) {nn : Nat} (hN : zcN C = nn) (hn : i < nn) (hv : x + Int32.ofInt n = v) (hlv : zst1 lv i (.int v) = lv') (k : zAW g C dd cc own (pc + 3) lv' st σ) : zAW g C dd cc own pc lv st σ := by
  obtain ⟨p, l, e, R, s, m, args, below, meth, c, nL, A, cells, slots, Q⟩ := C
  intro ok H locs ls hP hS hL
  subst hlv
  obtain ⟨j, hj⟩ := List.getElem?_of_mem ((zpr_mem (q := (i, Value.int x))).mpr hl)
  exact lv_iinc ok.1 ok.2.1 hd (zLH_has hL) hj hv (by rw [show nL = nn from hN]; exact hn) rfl (fun ls' h' => k ok H locs ls' hP hS (zLH_1 h'))

theorem za_iadd {x y : Int32} (hd : decode cc pc = .ok (.iadd, 1))  (k : zAW g C dd cc own (pc + 1) lv (.int (x + y) :: st) σ) : zAW g C dd cc own pc lv (.int y :: .int x :: st) σ := by
  obtain ⟨p, l, e, R, s, m, args, below, meth, c, nL, A, cells, slots, Q⟩ := C
  intro ok H locs ls hP hS hL
  exact lv_iadd ok.1 ok.2.1 hd (k ok H locs ls hP hS hL)

theorem za_isub {x y : Int32} (hd : decode cc pc = .ok (.isub, 1))  (k : zAW g C dd cc own (pc + 1) lv (.int (x - y) :: st) σ) : zAW g C dd cc own pc lv (.int y :: .int x :: st) σ := by
  obtain ⟨p, l, e, R, s, m, args, below, meth, c, nL, A, cells, slots, Q⟩ := C
  intro ok H locs ls hP hS hL
  exact lv_isub ok.1 ok.2.1 hd (k ok H locs ls hP hS hL)

theorem za_imul {x y : Int32} (hd : decode cc pc = .ok (.imul, 1))  (k : zAW g C dd cc own (pc + 1) lv (.int (x * y) :: st) σ) : zAW g C dd cc own pc lv (.int y :: .int x :: st) σ := by
  obtain ⟨p, l, e, R, s, m, args, below, meth, c, nL, A, cells, slots, Q⟩ := C
  intro ok H locs ls hP hS hL
  exact lv_imul ok.1 ok.2.1 hd (k ok H locs ls hP hS hL)

theorem za_iand {x y : Int32} (hd : decode cc pc = .ok (.iand, 1))  (k : zAW g C dd cc own (pc + 1) lv (.int (x &&& y) :: st) σ) : zAW g C dd cc own pc lv (.int y :: .int x :: st) σ := by
  obtain ⟨p, l, e, R, s, m, args, below, meth, c, nL, A, cells, slots, Q⟩ := C
  intro ok H locs ls hP hS hL
  exact lv_iand ok.1 ok.2.1 hd (k ok H locs ls hP hS hL)

theorem za_ior {x y : Int32} (hd : decode cc pc = .ok (.ior, 1))  (k : zAW g C dd cc own (pc + 1) lv (.int (x ||| y) :: st) σ) : zAW g C dd cc own pc lv (.int y :: .int x :: st) σ := by
  obtain ⟨p, l, e, R, s, m, args, below, meth, c, nL, A, cells, slots, Q⟩ := C
  intro ok H locs ls hP hS hL
  exact lv_ior ok.1 ok.2.1 hd (k ok H locs ls hP hS hL)

theorem za_ixor {x y : Int32} (hd : decode cc pc = .ok (.ixor, 1))  (k : zAW g C dd cc own (pc + 1) lv (.int (x ^^^ y) :: st) σ) : zAW g C dd cc own pc lv (.int y :: .int x :: st) σ := by
  obtain ⟨p, l, e, R, s, m, args, below, meth, c, nL, A, cells, slots, Q⟩ := C
  intro ok H locs ls hP hS hL
  exact lv_ixor ok.1 ok.2.1 hd (k ok H locs ls hP hS hL)

theorem za_ishl {x y : Int32} (hd : decode cc pc = .ok (.ishl, 1))  (k : zAW g C dd cc own (pc + 1) lv (.int (x <<< (y &&& 31)) :: st) σ) : zAW g C dd cc own pc lv (.int y :: .int x :: st) σ := by
  obtain ⟨p, l, e, R, s, m, args, below, meth, c, nL, A, cells, slots, Q⟩ := C
  intro ok H locs ls hP hS hL
  exact lv_ishl ok.1 ok.2.1 hd (k ok H locs ls hP hS hL)

theorem za_ishr {x y : Int32} (hd : decode cc pc = .ok (.ishr, 1))  (k : zAW g C dd cc own (pc + 1) lv (.int (x >>> (y &&& 31)) :: st) σ) : zAW g C dd cc own pc lv (.int y :: .int x :: st) σ := by
  obtain ⟨p, l, e, R, s, m, args, below, meth, c, nL, A, cells, slots, Q⟩ := C
  intro ok H locs ls hP hS hL
  exact lv_ishr ok.1 ok.2.1 hd (k ok H locs ls hP hS hL)

theorem za_idiv {x y : Int32} (hd : decode cc pc = .ok (.idiv, 1)) (hne : ¬ y = 0) (k : zAW g C dd cc own (pc + 1) lv (.int (x / y) :: st) σ) : zAW g C dd cc own pc lv (.int y :: .int x :: st) σ := by
  obtain ⟨p, l, e, R, s, m, args, below, meth, c, nL, A, cells, slots, Q⟩ := C
  intro ok H locs ls hP hS hL
  exact lv_idiv ok.1 ok.2.1 hd hne (k ok H locs ls hP hS hL)

theorem za_irem {x y : Int32} (hd : decode cc pc = .ok (.irem, 1)) (hne : ¬ y = 0) (k : zAW g C dd cc own (pc + 1) lv (.int (x - x / y * y) :: st) σ) : zAW g C dd cc own pc lv (.int y :: .int x :: st) σ := by
  obtain ⟨p, l, e, R, s, m, args, below, meth, c, nL, A, cells, slots, Q⟩ := C
  intro ok H locs ls hP hS hL
  exact lv_irem ok.1 ok.2.1 hd hne (k ok H locs ls hP hS hL)

theorem za_ladd {x y : Int64} (hd : decode cc pc = .ok (.ladd, 1))  (k : zAW g C dd cc own (pc + 1) lv (.long (x + y) :: st) σ) : zAW g C dd cc own pc lv (.long y :: .long x :: st) σ := by
  obtain ⟨p, l, e, R, s, m, args, below, meth, c, nL, A, cells, slots, Q⟩ := C
  intro ok H locs ls hP hS hL
  exact lv_ladd ok.1 ok.2.1 hd (k ok H locs ls hP hS hL)

theorem za_lsub {x y : Int64} (hd : decode cc pc = .ok (.lsub, 1))  (k : zAW g C dd cc own (pc + 1) lv (.long (x - y) :: st) σ) : zAW g C dd cc own pc lv (.long y :: .long x :: st) σ := by
  obtain ⟨p, l, e, R, s, m, args, below, meth, c, nL, A, cells, slots, Q⟩ := C
  intro ok H locs ls hP hS hL
  exact lv_lsub ok.1 ok.2.1 hd (k ok H locs ls hP hS hL)

theorem za_lmul {x y : Int64} (hd : decode cc pc = .ok (.lmul, 1))  (k : zAW g C dd cc own (pc + 1) lv (.long (x * y) :: st) σ) : zAW g C dd cc own pc lv (.long y :: .long x :: st) σ := by
  obtain ⟨p, l, e, R, s, m, args, below, meth, c, nL, A, cells, slots, Q⟩ := C
  intro ok H locs ls hP hS hL
  exact lv_lmul ok.1 ok.2.1 hd (k ok H locs ls hP hS hL)

theorem za_land {x y : Int64} (hd : decode cc pc = .ok (.land, 1))  (k : zAW g C dd cc own (pc + 1) lv (.long (x &&& y) :: st) σ) : zAW g C dd cc own pc lv (.long y :: .long x :: st) σ := by
  obtain ⟨p, l, e, R, s, m, args, below, meth, c, nL, A, cells, slots, Q⟩ := C
  intro ok H locs ls hP hS hL
  exact lv_land ok.1 ok.2.1 hd (k ok H locs ls hP hS hL)

theorem za_lor {x y : Int64} (hd : decode cc pc = .ok (.lor, 1))  (k : zAW g C dd cc own (pc + 1) lv (.long (x ||| y) :: st) σ) : zAW g C dd cc own pc lv (.long y :: .long x :: st) σ := by
  obtain ⟨p, l, e, R, s, m, args, below, meth, c, nL, A, cells, slots, Q⟩ := C
  intro ok H locs ls hP hS hL
  exact lv_lor ok.1 ok.2.1 hd (k ok H locs ls hP hS hL)

theorem za_lcmp {x y : Int64} (hd : decode cc pc = .ok (.lcmp, 1))  (k : zAW g C dd cc own (pc + 1) lv (.int (lg_cmp x y) :: st) σ) : zAW g C dd cc own pc lv (.long y :: .long x :: st) σ := by
  obtain ⟨p, l, e, R, s, m, args, below, meth, c, nL, A, cells, slots, Q⟩ := C
  intro ok H locs ls hP hS hL
  exact W.lcmp ok.1 ok.2.1 hd (k ok H locs ls hP hS hL)

theorem za_i2l {x : Int32} (hd : decode cc pc = .ok (.i2l, 1))  (k : zAW g C dd cc own (pc + 1) lv (.long x.toInt64 :: st) σ) : zAW g C dd cc own pc lv (.int x :: st) σ := by
  obtain ⟨p, l, e, R, s, m, args, below, meth, c, nL, A, cells, slots, Q⟩ := C
  intro ok H locs ls hP hS hL
  exact lv_i2l ok.1 ok.2.1 hd rfl (k ok H locs ls hP hS hL)

theorem za_l2i {x : Int64} (hd : decode cc pc = .ok (.l2i, 1))  (k : zAW g C dd cc own (pc + 1) lv (.int x.toInt32 :: st) σ) : zAW g C dd cc own pc lv (.long x :: st) σ := by
  obtain ⟨p, l, e, R, s, m, args, below, meth, c, nL, A, cells, slots, Q⟩ := C
  intro ok H locs ls hP hS hL
  exact lv_l2i ok.1 ok.2.1 hd rfl (k ok H locs ls hP hS hL)

theorem za_i2b {x : Int32} (hd : decode cc pc = .ok (.i2b, 1))  (k : zAW g C dd cc own (pc + 1) lv (.int x.toInt8.toInt32 :: st) σ) : zAW g C dd cc own pc lv (.int x :: st) σ := by
  obtain ⟨p, l, e, R, s, m, args, below, meth, c, nL, A, cells, slots, Q⟩ := C
  intro ok H locs ls hP hS hL
  exact lv_i2b ok.1 ok.2.1 hd rfl (k ok H locs ls hP hS hL)

theorem za_i2s {x : Int32} (hd : decode cc pc = .ok (.i2s, 1))  (k : zAW g C dd cc own (pc + 1) lv (.int x.toInt16.toInt32 :: st) σ) : zAW g C dd cc own pc lv (.int x :: st) σ := by
  obtain ⟨p, l, e, R, s, m, args, below, meth, c, nL, A, cells, slots, Q⟩ := C
  intro ok H locs ls hP hS hL
  exact lv_i2s ok.1 ok.2.1 hd rfl (k ok H locs ls hP hS hL)

theorem za_i2c {x : Int32} (hd : decode cc pc = .ok (.i2c, 1))  (k : zAW g C dd cc own (pc + 1) lv (.int (x.toUInt32 % 65536).toInt32 :: st) σ) : zAW g C dd cc own pc lv (.int x :: st) σ := by
  obtain ⟨p, l, e, R, s, m, args, below, meth, c, nL, A, cells, slots, Q⟩ := C
  intro ok H locs ls hP hS hL
  exact lv_i2c ok.1 ok.2.1 hd rfl (k ok H locs ls hP hS hL)

theorem za_lshl {x : Int64} {y : Int32} (hd : decode cc pc = .ok (.lshl, 1))  (k : zAW g C dd cc own (pc + 1) lv (.long (x <<< (y.toInt64 &&& 63)) :: st) σ) : zAW g C dd cc own pc lv (.int y :: .long x :: st) σ := by
  obtain ⟨p, l, e, R, s, m, args, below, meth, c, nL, A, cells, slots, Q⟩ := C
  intro ok H locs ls hP hS hL
  exact lv_lshl ok.1 ok.2.1 hd rfl (k ok H locs ls hP hS hL)

theorem za_iushr {x y : Int32} (hd : decode cc pc = .ok (.iushr, 1))  (k : zAW g C dd cc own (pc + 1) lv (.int ((x.toUInt32 >>> (y.toUInt32 &&& Int32.toUInt32 31)).toInt32) :: st) σ) : zAW g C dd cc own pc lv (.int y :: .int x :: st) σ := by
  obtain ⟨p, l, e, R, s, m, args, below, meth, c, nL, A, cells, slots, Q⟩ := C
  intro ok H locs ls hP hS hL
  exact lv_iushr ok.1 ok.2.1 hd rfl (k ok H locs ls hP hS hL)

theorem za_dup {v : Value} (hd : decode cc pc = .ok (.dup, 1)) (hv : v.category = 1) (k : zAW g C dd cc own (pc + 1) lv (v :: v :: st) σ) : zAW g C dd cc own pc lv (v :: st) σ := by
  obtain ⟨p, l, e, R, s, m, args, below, meth, c, nL, A, cells, slots, Q⟩ := C
  intro ok H locs ls hP hS hL
  exact lv_dup ok.1 ok.2.1 hd hv (k ok H locs ls hP hS hL)

theorem za_dup2 {v w : Value} (hd : decode cc pc = .ok (.dup2, 1)) (hv : v.category = 1) (hw : w.category = 1) (k : zAW g C dd cc own (pc + 1) lv (v :: w :: v :: w :: st) σ) : zAW g C dd cc own pc lv (v :: w :: st) σ := by
  obtain ⟨p, l, e, R, s, m, args, below, meth, c, nL, A, cells, slots, Q⟩ := C
  intro ok H locs ls hP hS hL
  exact lv_dup2_11 ok.1 ok.2.1 hd hv hw (k ok H locs ls hP hS hL)

theorem za_pop {v : Value} (hd : decode cc pc = .ok (.pop, 1)) (hv : v.category = 1) (k : zAW g C dd cc own (pc + 1) lv st σ) : zAW g C dd cc own pc lv (v :: st) σ := by
  obtain ⟨p, l, e, R, s, m, args, below, meth, c, nL, A, cells, slots, Q⟩ := C
  intro ok H locs ls hP hS hL
  exact lv_pop ok.1 ok.2.1 hd hv (k ok H locs ls hP hS hL)

theorem za_if_eq {x : Int32} {off : Int} (tgt : Nat) (hd : decode cc pc = .ok (.ifCond .eq off, 3)) (ht : (pc : Int) + off = (tgt : Int)) (kt : x = 0 → zAW g C dd cc own tgt lv st σ) (kf : ¬ x = 0 → zAW g C dd cc own (pc + 3) lv st σ) : zAW g C dd cc own pc lv (.int x :: st) σ := by
  obtain ⟨p, l, e, R, s, m, args, below, meth, c, nL, A, cells, slots, Q⟩ := C
  intro ok H locs ls hP hS hL
  exact lv_if_eq ok.1 ok.2.1 hd ht (fun q => kt q ok H locs ls hP hS hL) (fun q => kf q ok H locs ls hP hS hL)

theorem za_if_ne {x : Int32} {off : Int} (tgt : Nat) (hd : decode cc pc = .ok (.ifCond .ne off, 3)) (ht : (pc : Int) + off = (tgt : Int)) (kt : ¬ x = 0 → zAW g C dd cc own tgt lv st σ) (kf : x = 0 → zAW g C dd cc own (pc + 3) lv st σ) : zAW g C dd cc own pc lv (.int x :: st) σ := by
  obtain ⟨p, l, e, R, s, m, args, below, meth, c, nL, A, cells, slots, Q⟩ := C
  intro ok H locs ls hP hS hL
  exact lv_if_ne ok.1 ok.2.1 hd ht (fun q => kt q ok H locs ls hP hS hL) (fun q => kf q ok H locs ls hP hS hL)

theorem za_if_lt {x : Int32} {off : Int} (tgt : Nat) (hd : decode cc pc = .ok (.ifCond .lt off, 3)) (ht : (pc : Int) + off = (tgt : Int)) (kt : x < 0 → zAW g C dd cc own tgt lv st σ) (kf : ¬ (x < 0) → zAW g C dd cc own (pc + 3) lv st σ) : zAW g C dd cc own pc lv (.int x :: st) σ := by
  obtain ⟨p, l, e, R, s, m, args, below, meth, c, nL, A, cells, slots, Q⟩ := C
  intro ok H locs ls hP hS hL
  exact lv_if_lt ok.1 ok.2.1 hd ht (fun q => kt q ok H locs ls hP hS hL) (fun q => kf q ok H locs ls hP hS hL)

theorem za_if_ge {x : Int32} {off : Int} (tgt : Nat) (hd : decode cc pc = .ok (.ifCond .ge off, 3)) (ht : (pc : Int) + off = (tgt : Int)) (kt : 0 ≤ x → zAW g C dd cc own tgt lv st σ) (kf : ¬ (0 ≤ x) → zAW g C dd cc own (pc + 3) lv st σ) : zAW g C dd cc own pc lv (.int x :: st) σ := by
  obtain ⟨p, l, e, R, s, m, args, below, meth, c, nL, A, cells, slots, Q⟩ := C
  intro ok H locs ls hP hS hL
  exact lv_if_ge ok.1 ok.2.1 hd ht (fun q => kt q ok H locs ls hP hS hL) (fun q => kf q ok H locs ls hP hS hL)

theorem za_if_gt {x : Int32} {off : Int} (tgt : Nat) (hd : decode cc pc = .ok (.ifCond .gt off, 3)) (ht : (pc : Int) + off = (tgt : Int)) (kt : 0 < x → zAW g C dd cc own tgt lv st σ) (kf : ¬ (0 < x) → zAW g C dd cc own (pc + 3) lv st σ) : zAW g C dd cc own pc lv (.int x :: st) σ := by
  obtain ⟨p, l, e, R, s, m, args, below, meth, c, nL, A, cells, slots, Q⟩ := C
  intro ok H locs ls hP hS hL
  exact lv_if_gt ok.1 ok.2.1 hd ht (fun q => kt q ok H locs ls hP hS hL) (fun q => kf q ok H locs ls hP hS hL)

theorem za_if_le {x : Int32} {off : Int} (tgt : Nat) (hd : decode cc pc = .ok (.ifCond .le off, 3)) (ht : (pc : Int) + off = (tgt : Int)) (kt : x ≤ 0 → zAW g C dd cc own tgt lv st σ) (kf : ¬ (x ≤ 0) → zAW g C dd cc own (pc + 3) lv st σ) : zAW g C dd cc own pc lv (.int x :: st) σ := by
  obtain ⟨p, l, e, R, s, m, args, below, meth, c, nL, A, cells, slots, Q⟩ := C
  intro ok H locs ls hP hS hL
  exact lv_if_le ok.1 ok.2.1 hd ht (fun q => kt q ok H locs ls hP hS hL) (fun q => kf q ok H locs ls hP hS hL)

theorem za_icmp_eq {x y : Int32} {off : Int} (tgt : Nat) (hd : decode cc pc = .ok (.if_icmp .eq off, 3)) (ht : (pc : Int) + off = (tgt : Int)) (kt : x = y → zAW g C dd cc own tgt lv st σ) (kf : ¬ x = y → zAW g C dd cc own (pc + 3) lv st σ) : zAW g C dd cc own pc lv (.int y :: .int x :: st) σ := by
  obtain ⟨p, l, e, R, s, m, args, below, meth, c, nL, A, cells, slots, Q⟩ := C
  intro ok H locs ls hP hS hL
  exact lv_icmp_eq ok.1 ok.2.1 hd ht (fun q => kt q ok H locs ls hP hS hL) (fun q => kf q ok H locs ls hP hS hL)

theorem za_icmp_ne {x y : Int32} {off : Int} (tgt : Nat) (hd : decode cc pc = .ok (.if_icmp .ne off, 3)) (ht : (pc : Int) + off = (tgt : Int)) (kt : ¬ x = y → zAW g C dd cc own tgt lv st σ) (kf : x = y → zAW g C dd cc own (pc + 3) lv st σ) : zAW g C dd cc own pc lv (.int y :: .int x :: st) σ := by
  obtain ⟨p, l, e, R, s, m, args, below, meth, c, nL, A, cells, slots, Q⟩ := C
  intro ok H locs ls hP hS hL
  exact lv_icmp_ne ok.1 ok.2.1 hd ht (fun q => kt q ok H locs ls hP hS hL) (fun q => kf q ok H locs ls hP hS hL)

theorem za_icmp_lt {x y : Int32} {off : Int} (tgt : Nat) (hd : decode cc pc = .ok (.if_icmp .lt off, 3)) (ht : (pc : Int) + off = (tgt : Int)) (kt : x < y → zAW g C dd cc own tgt lv st σ) (kf : ¬ (x < y) → zAW g C dd cc own (pc + 3) lv st σ) : zAW g C dd cc own pc lv (.int y :: .int x :: st) σ := by
  obtain ⟨p, l, e, R, s, m, args, below, meth, c, nL, A, cells, slots, Q⟩ := C
  intro ok H locs ls hP hS hL
  exact lv_icmp_lt ok.1 ok.2.1 hd ht (fun q => kt q ok H locs ls hP hS hL) (fun q => kf q ok H locs ls hP hS hL)

theorem za_icmp_ge {x y : Int32} {off : Int} (tgt : Nat) (hd : decode cc pc = .ok (.if_icmp .ge off, 3)) (ht : (pc : Int) + off = (tgt : Int)) (kt : y ≤ x → zAW g C dd cc own tgt lv st σ) (kf : ¬ (y ≤ x) → zAW g C dd cc own (pc + 3) lv st σ) : zAW g C dd cc own pc lv (.int y :: .int x :: st) σ := by
  obtain ⟨p, l, e, R, s, m, args, below, meth, c, nL, A, cells, slots, Q⟩ := C
  intro ok H locs ls hP hS hL
  exact lv_icmp_ge ok.1 ok.2.1 hd ht (fun q => kt q ok H locs ls hP hS hL) (fun q => kf q ok H locs ls hP hS hL)

theorem za_icmp_gt {x y : Int32} {off : Int} (tgt : Nat) (hd : decode cc pc = .ok (.if_icmp .gt off, 3)) (ht : (pc : Int) + off = (tgt : Int)) (kt : y < x → zAW g C dd cc own tgt lv st σ) (kf : ¬ (y < x) → zAW g C dd cc own (pc + 3) lv st σ) : zAW g C dd cc own pc lv (.int y :: .int x :: st) σ := by
  obtain ⟨p, l, e, R, s, m, args, below, meth, c, nL, A, cells, slots, Q⟩ := C
  intro ok H locs ls hP hS hL
  exact lv_icmp_gt ok.1 ok.2.1 hd ht (fun q => kt q ok H locs ls hP hS hL) (fun q => kf q ok H locs ls hP hS hL)

theorem za_icmp_le {x y : Int32} {off : Int} (tgt : Nat) (hd : decode cc pc = .ok (.if_icmp .le off, 3)) (ht : (pc : Int) + off = (tgt : Int)) (kt : x ≤ y → zAW g C dd cc own tgt lv st σ) (kf : ¬ (x ≤ y) → zAW g C dd cc own (pc + 3) lv st σ) : zAW g C dd cc own pc lv (.int y :: .int x :: st) σ := by
  obtain ⟨p, l, e, R, s, m, args, below, meth, c, nL, A, cells, slots, Q⟩ := C
  intro ok H locs ls hP hS hL
  exact lv_icmp_le ok.1 ok.2.1 hd ht (fun q => kt q ok H locs ls hP hS hL) (fun q => kf q ok H locs ls hP hS hL)

theorem za_if_eqB {c : Prop} [Decidable c] {off : Int} (tgt : Nat) (hd : decode cc pc = .ok (.ifCond .eq off, 3)) (ht : (pc : Int) + off = (tgt : Int)) (kt : ¬ c → zAW g C dd cc own tgt lv st σ) (kf : c → zAW g C dd cc own (pc + 3) lv st σ) : zAW g C dd cc own pc lv (.int (zb c) :: st) σ :=
  za_if_eq tgt hd ht (fun q => kt (zb_0.mp q)) (fun q => kf (Classical.byContradiction fun h => q (zb_0.mpr h)))
theorem za_if_neB {c : Prop} [Decidable c] {off : Int} (tgt : Nat) (hd : decode cc pc = .ok (.ifCond .ne off, 3)) (ht : (pc : Int) + off = (tgt : Int)) (kt : c → zAW g C dd cc own tgt lv st σ) (kf : ¬ c → zAW g C dd cc own (pc + 3) lv st σ) : zAW g C dd cc own pc lv (.int (zb c) :: st) σ :=
  za_if_ne tgt hd ht (fun q => kt (Classical.byContradiction fun h => q (zb_0.mpr h))) (fun q => kf (zb_0.mp q))
theorem za_goto {off : Int} (tgt : Nat) (hd : decode cc pc = .ok (.goto off, 3)) (ht : (pc : Int) + off = (tgt : Int)) (k : zAW g C dd cc own tgt lv st σ) : zAW g C dd cc own pc lv st σ := by
  obtain ⟨p, l, e, R, s, m, args, below, meth, c, nL, A, cells, slots, Q⟩ := C
  intro ok H locs ls hP hS hL
  exact lv_goto ok.1 ok.2.1 hd ht (k ok H locs ls hP hS hL)
theorem za_table {dflt lo hi : Int} {offs : Array Int} {len : Nat} {x : Int32} (hd : decode cc pc = .ok (.tableswitch dflt lo hi offs, len)) (kin : ∀ (off : Int) (tgt : Nat), ¬ x.toInt < lo → ¬ hi < x.toInt → offs[(x.toInt - lo).toNat]? = some off → (pc : Int) + off = (tgt : Int) → zAW g C dd cc own tgt lv st σ) (hsz : offs.size = (hi - lo).toNat + 1) (htg : ∀ off ∈ offs, 0 ≤ (pc : Int) + off) (tgt : Nat) (ht : (pc : Int) + dflt = (tgt : Int)) (kout : (x.toInt < lo ∨ hi < x.toInt) → zAW g C dd cc own tgt lv st σ) : zAW g C dd cc own pc lv (.int x :: st) σ := by
  obtain ⟨p, l, e, R, s, m, args, below, meth, c, nL, A, cells, slots, Q⟩ := C
  intro ok H locs ls hP hS hL
  by_cases h : x.toInt < lo ∨ hi < x.toInt
  · exact lv_tableOut ok.1 ok.2.1 hd h ht (kout h ok H locs ls hP hS hL)
  · have h1 : ¬ x.toInt < lo := fun q => h (Or.inl q)
    have h2 : ¬ hi < x.toInt := fun q => h (Or.inr q)
    have hlt : (x.toInt - lo).toNat < offs.size := by omega
    have ho : offs[(x.toInt - lo).toNat]? = some offs[(x.toInt - lo).toNat] := Array.getElem?_eq_getElem hlt
    have h0 := htg _ (Array.getElem_mem hlt)
    have htt : (pc : Int) + offs[(x.toInt - lo).toNat] = (((pc : Int) + offs[(x.toInt - lo).toNat]).toNat : Int) := (Int.toNat_of_nonneg h0).symm
    exact lv_tableIn ok.1 ok.2.1 hd h1 h2 ho htt (kin _ _ h1 h2 ho htt ok H locs ls hP hS hL)
/-- a table switch at a known place -/
theorem za_tabK {dflt lo hi : Int} {offs : Array Int} {len : Nat} {x : Int32} (off : Int) (tgt : Nat) (hd : decode cc pc = .ok (.tableswitch dflt lo hi offs, len)) (h1 : ¬ x.toInt < lo) (h2 : ¬ hi < x.toInt) (ho : offs[(x.toInt - lo).toNat]? = some off) (ht : (pc : Int) + off = (tgt : Int)) (k : zAW g C dd cc own tgt lv st σ) : zAW g C dd cc own pc lv (.int x :: st) σ := by
  obtain ⟨p, l, e, R, s, m, args, below, meth, c, nL, A, cells, slots, Q⟩ := C
  intro ok H locs ls hP hS hL
  exact lv_tableIn ok.1 ok.2.1 hd h1 h2 ho ht (k ok H locs ls hP hS hL)
theorem za_tabO {dflt lo hi : Int} {offs : Array Int} {len : Nat} {x : Int32} (tgt : Nat) (hd : decode cc pc = .ok (.tableswitch dflt lo hi offs, len)) (h : x.toInt < lo ∨ hi < x.toInt) (ht : (pc : Int) + dflt = (tgt : Int)) (k : zAW g C dd cc own tgt lv st σ) : zAW g C dd cc own pc lv (.int x :: st) σ := by
  obtain ⟨p, l, e, R, s, m, args, below, meth, c, nL, A, cells, slots, Q⟩ := C
  intro ok H locs ls hP hS hL
  exact lv_tableOut ok.1 ok.2.1 hd h ht (k ok H locs ls hP hS hL)
theorem za_look {dflt : Int} {ps : Array (Int × Int)} {len : Nat} {x : Int32} {off : Int} (tgt : Nat) (hd : decode cc pc = .ok (.lookupswitch dflt ps, len)) (hp : (ps.toList.zip (ps.toList.drop 1)).all (fun (a, next) => a.1 < next.1) = true) (ho : Op.lookupswitch.offset ps.toList dflt x.toInt = off) (ht : (pc : Int) + off = (tgt : Int)) (k : zAW g C dd cc own tgt lv st σ) : zAW g C dd cc own pc lv (.int x :: st) σ := by
  obtain ⟨p, l, e, R, s, m, args, below, meth, c, nL, A, cells, slots, Q⟩ := C
  intro ok H locs ls hP hS hL
  exact lv_lookup ok.1 ok.2.1 hd hp ho ht (k ok H locs ls hP hS hL)
end ZROWS
end
section
section ZHEAP
variable {g : zG} {C : zC} {dd : Nat} {cc : ByteArray} {own : String} {pc : Nat} {lv : List (Option Value)} {st : List Value} {σ : zSto}
theorem zsh_small : ∀ (o t n : Nat), zsh[o]? = some (.inr (.inl (t, n))) → n ≤ 160 := by
  intro o t n h
  have h1 : ∀ x ∈ zsh, (match x with | .inr (.inl y) => decide (y.2 ≤ 160) | _ => true) = true := by decide +kernel
  have h2 := h1 _ (List.mem_of_getElem? h)
  exact of_decide_eq_true h2
/-! fields -/
/-- own's pool entry idx is field k of the class ci -/
def zFL (own : String) (idx ci k : Nat) : Prop := ∃ (K : String) (T : u_T) (N : Nat), vwCl[ci]? = some (K, T, N) ∧ k < N ∧ Cond.fieldLink own idx (T k).1 (T k).2.1 (T k).2.2.1 ∈ lw_g ∧ ∀ w ∈ u_ws K T N, w ∈ lw_g
/-- what a store needs of a class and its field -/
def zFP (ci k : Nat) (ty : FieldType) : Prop := ∃ (K : String) (T : u_T) (N : Nat) (ty0 : Nat → FieldType), vwCl[ci]? = some (K, T, N) ∧ (∀ k, k < N → parseFieldDescriptor (T k).2.2.1 = some (ty0 k)) ∧ (∀ a, a < N → ∀ b, b < N → a ≠ b → (T a).2.1 ≠ (T b).2.1) ∧ (T k).2.2.2 = false ∧ parseFieldDescriptor (T k).2.2.1 = some ty
theorem zfv_at {o ci j : Nat} {fs : List (Option Nat)} {f : Option Nat} (hj : fs[j]? = some f) : (fs.mapIdx (zfv g σ o))[j]? = some (zfv g σ o j f) := by
  rw [List.getElem?_mapIdx, hj]; rfl
theorem za_getI {idx o ci j : Nat} {fs : List (Option Nat)} (hd : decode cc pc = .ok (.getfield idx, 3)) (hf : zFL own idx ci j) (hs : zsh[o]? = some (.inl (ci, fs))) (hj : fs[j]? = some none) (k : zAW g C dd cc own (pc + 3) lv (.int (σ.1 o j) :: st) σ) : zAW g C dd cc own pc lv (.ref (zad g o) :: st) σ := by
  obtain ⟨p, l, e, R, s, m, args, below, meth, c, nL, A, cells, slots, Q⟩ := C
  intro ok H locs ls hP hS hL
  obtain ⟨K, T, N, h1, h2, h3, h4⟩ := hf
  exact va_get (D := g.1) (ci := ci) (v := .int (σ.1 o j)) ok.1 ok.2.1 ok.2.2.2.2.1 h4 ok.2.2.2.1 ok.2.2.2.2.2.2.1 hP o (zwld_at hs) h1 j h2 (ok.2.2.2.2.1 _ h3) (fun _ h => h) (zfv_at (ci := ci) hj) hd (k ok H locs ls hP hS hL)
theorem za_getR {idx o ci j q : Nat} {fs : List (Option Nat)} (hd : decode cc pc = .ok (.getfield idx, 3)) (hf : zFL own idx ci j) (hs : zsh[o]? = some (.inl (ci, fs))) (hj : fs[j]? = some (some q)) (k : zAW g C dd cc own (pc + 3) lv (.ref (zad g q) :: st) σ) : zAW g C dd cc own pc lv (.ref (zad g o) :: st) σ := by
  obtain ⟨p, l, e, R, s, m, args, below, meth, c, nL, A, cells, slots, Q⟩ := C
  intro ok H locs ls hP hS hL
  obtain ⟨K, T, N, h1, h2, h3, h4⟩ := hf
  exact va_get (D := g.1) (ci := ci) (v := .ref (zad g q)) ok.1 ok.2.1 ok.2.2.2.2.1 h4 ok.2.2.2.1 ok.2.2.2.2.2.2.1 hP o (zwld_at hs) h1 j h2 (ok.2.2.2.2.1 _ h3) (fun _ h => h) (zfv_at (ci := ci) hj) hd (k ok H locs ls hP hS hL)
theorem zcel_si {o ci j : Nat} {fs : List (Option Nat)} {v : Int32} (hj : fs[j]? = some none) : zcel g (zsi σ o j v) o (.inl (ci, fs)) = .inr (ci, (fs.mapIdx (zfv g σ o)).set j (.int v)) := by
  show Sum.inr (ci, fs.mapIdx (zfv g (zsi σ o j v) o)) = _
  congr 2
  apply List.ext_getElem?
  intro i
  rw [List.getElem?_mapIdx]
  by_cases hi : i = j
  · subst hi
    have hl : i < (fs.mapIdx (zfv g σ o)).length := by
      rw [List.length_mapIdx]; exact (List.getElem?_eq_some_iff.mp hj).1
    rw [List.getElem?_set_self hl, hj]
    simp [zfv, zsi]
  · rw [List.getElem?_set_ne (Ne.symm hi), List.getElem?_mapIdx]
    cases fs[i]? with
    | none => rfl
    | some f =>
      cases f with
      | none => simp [zfv, zsi, hi]
      | some q => rfl
theorem zsi_off1 {o j : Nat} {v : Int32} : ∀ a, a ≠ o → (zsi σ o j v).1 a = σ.1 a := fun a h => by
  funext b
  simp [zsi, h]
theorem zsl_off2 {o j : Nat} {v : Int64} : ∀ a, a ≠ o → (zsl σ o j v).2 a = σ.2 a := fun a h => by
  funext b
  simp [zsl, h]
theorem za_putG {idx o ci j : Nat} {fs : List (Option Nat)} {ty : FieldType} {v : Int32} (hd : decode cc pc = .ok (.putfield idx, 3)) (hf : zFL own idx ci j) (hp : zFP ci j ty) (hs : zsh[o]? = some (.inl (ci, fs))) (hj : fs[j]? = some none) (hn : narrow ty (.int v) = .int v) (hfit : fits ty (.int v) = true) (k : zAW g C dd cc own (pc + 3) lv st (zsi σ o j v)) : zAW g C dd cc own pc lv (.int v :: .ref (zad g o) :: st) σ := by
  obtain ⟨p, l, e, R, s, m, args, below, meth, c, nL, A, cells, slots, Q⟩ := C
  intro ok H locs ls hP hS hL
  obtain ⟨K, T, N, h1, h2, h3, h4⟩ := hf
  obtain ⟨K', T', N', ty0, h1', h5, h6, h7, h8⟩ := hp
  cases h1.symm.trans h1'
  have hD := zwld_D (σ := σ) ok.2.2.2.2.2.2.2.2.1 ok.2.2.2.2.2.2.2.2.2.1
  have hjl : j < (fs.mapIdx (zfv g σ o)).length := by rw [List.length_mapIdx]; exact (List.getElem?_eq_some_iff.mp hj).1
  refine va_put (D := g.1) (ci := ci) (v := .int v) (ty := ty) ok.1 ok.2.1 ok.2.2.2.2.1 h4 ty0 h5 h6 ok.2.2.2.1 ok.2.2.2.2.2.2.1 hP hD hS o (zwld_at hs) h1 j h2 (ok.2.2.2.2.1 _ h3) (fun _ h => h) h7 h8 hn hfit hjl hd (fun H1 locs1 hP1 _ hS1 => ?_)
  rw [zwld_set (σ' := zsi σ o j v) hs (fun a h => zsi_off1 a h) (fun a h => rfl) (zcel_si hj)] at hP1
  exact k ok H1 locs1 ls hP1 hS1 hL
theorem za_putI {idx o ci j : Nat} {fs : List (Option Nat)} {v : Int32} (hd : decode cc pc = .ok (.putfield idx, 3)) (hf : zFL own idx ci j) (hp : zFP ci j .int) (hs : zsh[o]? = some (.inl (ci, fs))) (hj : fs[j]? = some none) (k : zAW g C dd cc own (pc + 3) lv st (zsi σ o j v)) : zAW g C dd cc own pc lv (.int v :: .ref (zad g o) :: st) σ := za_putG hd hf hp hs hj (vp_nar_int v) rfl k
/-! rows of numbers -/
theorem zcel_i {o t n j : Nat} {v : Int32} (ht : ¬ t = 1) : zcel g (zsi σ o j v) o (.inr (.inl (t, n))) = .inl (zcA g t, n, .inl (upd (σ.1 o) j v)) := by
  have h : (zsi σ o j v).1 o = upd (σ.1 o) j v := by
    funext b
    simp [zsi, upd]
  unfold zcel
  dsimp only
  rw [if_neg ht, h]
theorem zcel_l {o n j : Nat} {v : Int64} : zcel g (zsl σ o j v) o (.inr (.inl (1, n))) = .inl (zcA g 1, n, .inr (.inl (vp_updL (σ.2 o) j v))) := by
  have h : (zsl σ o j v).2 o = vp_updL (σ.2 o) j v := by
    funext b
    simp [zsl, vp_updL]
  unfold zcel
  dsimp only
  rw [if_pos rfl, h]
theorem zwld_i {o t n : Nat} (ht : ¬ t = 1) (hs : zsh[o]? = some (.inr (.inl (t, n)))) : (zwld g σ)[o]? = some (zad g o, .inl (zcA g t, n, .inl (σ.1 o))) := by
  rw [zwld_at hs]
  show some (zad g o, if t = 1 then _ else _) = _
  rw [if_neg ht]
theorem zwld_l {o n : Nat} (hs : zsh[o]? = some (.inr (.inl (1, n)))) : (zwld g σ)[o]? = some (zad g o, .inl (zcA g 1, n, .inr (.inl (σ.2 o)))) := zwld_at hs
theorem za_iald {o n i : Nat} (hd : decode cc pc = .ok (.iaload, 1)) (hs : zsh[o]? = some (.inr (.inl (0, n)))) (hi : i < n) (k : zAW g C dd cc own (pc + 1) lv (.int (σ.1 o i) :: st) σ) : zAW g C dd cc own pc lv (.int (nI i) :: .ref (zad g o) :: st) σ := by
  obtain ⟨p, l, e, R, s, m, args, below, meth, c, nL, A, cells, slots, Q⟩ := C
  intro ok H locs ls hP hS hL
  have hn := zsh_small _ _ _ hs
  have hc : (nI i).toNatClampNeg = i := nI_clamp (by omega)
  refine va_iald (D := g.1) ok.1 ok.2.1 ok.2.2.2.2.2.2.1 hP o 0 (zwld_i (by decide) hs) rfl (vp_in_nI hi (by omega)) hd ?_
  rw [hc]
  exact k ok H locs ls hP hS hL
theorem za_bald {o n i : Nat} (hd : decode cc pc = .ok (.baload, 1)) (hs : zsh[o]? = some (.inr (.inl (2, n)))) (hi : i < n) (k : zAW g C dd cc own (pc + 1) lv (.int (σ.1 o i) :: st) σ) : zAW g C dd cc own pc lv (.int (nI i) :: .ref (zad g o) :: st) σ := by
  obtain ⟨p, l, e, R, s, m, args, below, meth, c, nL, A, cells, slots, Q⟩ := C
  intro ok H locs ls hP hS hL
  have hn := zsh_small _ _ _ hs
  have hc : (nI i).toNatClampNeg = i := nI_clamp (by omega)
  refine va_bald (D := g.1) ok.1 ok.2.1 ok.2.2.2.2.2.2.1 hP o 2 (zwld_i (by decide) hs) rfl (vp_in_nI hi (by omega)) hd ?_
  rw [hc]
  exact k ok H locs ls hP hS hL
theorem za_lald {o n i : Nat} (hd : decode cc pc = .ok (.laload, 1)) (hs : zsh[o]? = some (.inr (.inl (1, n)))) (hi : i < n) (k : zAW g C dd cc own (pc + 1) lv (.long (σ.2 o i) :: st) σ) : zAW g C dd cc own pc lv (.int (nI i) :: .ref (zad g o) :: st) σ := by
  obtain ⟨p, l, e, R, s, m, args, below, meth, c, nL, A, cells, slots, Q⟩ := C
  intro ok H locs ls hP hS hL
  have hn := zsh_small _ _ _ hs
  have hc : (nI i).toNatClampNeg = i := nI_clamp (by omega)
  refine va_lald (D := g.1) ok.1 ok.2.1 ok.2.2.2.2.2.2.1 hP o 1 (zwld_l hs) rfl (vp_in_nI hi (by omega)) hd ?_
  rw [hc]
  exact k ok H locs ls hP hS hL
theorem za_iast {o n i : Nat} {v : Int32} (hd : decode cc pc = .ok (.iastore, 1)) (hs : zsh[o]? = some (.inr (.inl (0, n)))) (hi : i < n) (k : zAW g C dd cc own (pc + 1) lv st (zsi σ o i v)) : zAW g C dd cc own pc lv (.int v :: .int (nI i) :: .ref (zad g o) :: st) σ := by
  obtain ⟨p, l, e, R, s, m, args, below, meth, c, nL, A, cells, slots, Q⟩ := C
  intro ok H locs ls hP hS hL
  have hn := zsh_small _ _ _ hs
  have hc : (nI i).toNatClampNeg = i := nI_clamp (by omega)
  have hD := zwld_D (σ := σ) ok.2.2.2.2.2.2.2.2.1 ok.2.2.2.2.2.2.2.2.2.1
  refine va_iast (D := g.1) ok.1 ok.2.1 ok.2.2.2.2.2.2.1 hP hD hS o 0 (zwld_i (by decide) hs) rfl (vp_in_nI hi (by omega)) hd (fun H1 locs1 hP1 _ hS1 => ?_)
  rw [hc, zwld_set (σ' := zsi σ o i v) hs (fun a h => zsi_off1 a h) (fun a h => rfl) (zcel_i (by decide))] at hP1
  exact k ok H1 locs1 ls hP1 hS1 hL
theorem za_bast {o n i : Nat} {v : Int32} (hd : decode cc pc = .ok (.bastore, 1)) (hs : zsh[o]? = some (.inr (.inl (2, n)))) (hi : i < n) (k : zAW g C dd cc own (pc + 1) lv st (zsi σ o i v.toInt8.toInt32)) : zAW g C dd cc own pc lv (.int v :: .int (nI i) :: .ref (zad g o) :: st) σ := by
  obtain ⟨p, l, e, R, s, m, args, below, meth, c, nL, A, cells, slots, Q⟩ := C
  intro ok H locs ls hP hS hL
  have hn := zsh_small _ _ _ hs
  have hc : (nI i).toNatClampNeg = i := nI_clamp (by omega)
  have hD := zwld_D (σ := σ) ok.2.2.2.2.2.2.2.2.1 ok.2.2.2.2.2.2.2.2.2.1
  refine va_bast (D := g.1) ok.1 ok.2.1 ok.2.2.2.2.2.2.1 hP hD hS o 2 (zwld_i (by decide) hs) rfl (vp_in_nI hi (by omega)) hd (fun H1 locs1 hP1 _ hS1 => ?_)
  rw [hc, vp_nar_byte, zwld_set (σ' := zsi σ o i v.toInt8.toInt32) hs (fun a h => zsi_off1 a h) (fun a h => rfl) (zcel_i (by decide))] at hP1
  exact k ok H1 locs1 ls hP1 hS1 hL
theorem za_last {o n i : Nat} {v : Int64} (hd : decode cc pc = .ok (.lastore, 1)) (hs : zsh[o]? = some (.inr (.inl (1, n)))) (hi : i < n) (k : zAW g C dd cc own (pc + 1) lv st (zsl σ o i v)) : zAW g C dd cc own pc lv (.long v :: .int (nI i) :: .ref (zad g o) :: st) σ := by
  obtain ⟨p, l, e, R, s, m, args, below, meth, c, nL, A, cells, slots, Q⟩ := C
  intro ok H locs ls hP hS hL
  have hn := zsh_small _ _ _ hs
  have hc : (nI i).toNatClampNeg = i := nI_clamp (by omega)
  have hD := zwld_D (σ := σ) ok.2.2.2.2.2.2.2.2.1 ok.2.2.2.2.2.2.2.2.2.1
  refine va_last (D := g.1) ok.1 ok.2.1 ok.2.2.2.2.2.2.1 hP hD hS o 1 (zwld_l hs) rfl (vp_in_nI hi (by omega)) hd (fun H1 locs1 hP1 _ hS1 => ?_)
  rw [hc, zwld_set (g := g) (σ := σ) (σ' := zsl σ o i v) hs (fun a h => rfl) (fun a h => zsl_off2 a h) zcel_l] at hP1
  exact k ok H1 locs1 ls hP1 hS1 hL
theorem za_aald {o i q : Nat} {rs : List Nat} (hd : decode cc pc = .ok (.aaload, 1)) (hs : zsh[o]? = some (.inr (.inr rs))) (hi : rs[i]? = some q) (hz : i < 160) (k : zAW g C dd cc own (pc + 1) lv (.ref (zad g q) :: st) σ) : zAW g C dd cc own pc lv (.int (nI i) :: .ref (zad g o) :: st) σ := by
  obtain ⟨p, l, e, R, s, m, args, below, meth, c, nL, A, cells, slots, Q⟩ := C
  intro ok H locs ls hP hS hL
  have hc : (nI i).toNatClampNeg = i := nI_clamp (by omega)
  have hl : i < rs.length := (List.getElem?_eq_some_iff.mp hi).1
  have hcell := hP o _ (zwld_at hs)
  have hin : ¬ (nI i < 0 ∨ rs.length ≤ (nI i).toNatClampNeg) := by
    rw [hc]
    rintro (h | h)
    · exact nI_pos (by omega) h
    · omega
  refine W.aald (v := .ref (zad g q)) (ty := .array .long) ok.1 ok.2.1 hcell ((ok.2.2.2.2.2.2.1.2 3 _ rfl).1 rs.length _) rfl (fun q => by cases q) (by show ¬ (nI i < 0 ∨ (arrV _ _ _).slots.size ≤ _); rw [arrV_size]; exact hin) ?_ rfl rfl hd (k ok H locs ls hP hS hL)
  show (arrV _ _ _).slots[_]? = _
  rw [hc, arrV_read _ _ hl]
  show some (va_rf ((rs[i]?).map (zad g))) = _
  rw [hi]
  rfl
/-! the statics' rows -/
theorem za_getE {idx : Nat} (hd : decode cc pc = .ok (.getstatic idx, 3)) (hw : Cond.fieldLink own idx "BasinVotes$Kinds" "EARNS" "[I" ∈ lw_g) (k : zAW g C dd cc own (pc + 3) lv (.ref (zst g 0) :: st) σ) : zAW g C dd cc own pc lv st σ := by
  obtain ⟨p, l, e, R, s, m, args, below, meth, c, nL, A, cells, slots, Q⟩ := C
  intro ok H locs ls hP hS hL
  exact va_gets ok.1 ok.2.1 ok.2.2.2.2.2.2.2.1.1.1.1 hS ok.2.2.2.1 (ok.2.2.2.2.1 _ hw) (fun _ h => h) hd (k ok H locs ls hP hS hL)
theorem za_getA {idx : Nat} (hd : decode cc pc = .ok (.getstatic idx, 3)) (hw : Cond.fieldLink own idx "BasinVotes$Kinds" "ABOVE" "[I" ∈ lw_g) (k : zAW g C dd cc own (pc + 3) lv (.ref (zst g 1) :: st) σ) : zAW g C dd cc own pc lv st σ := by
  obtain ⟨p, l, e, R, s, m, args, below, meth, c, nL, A, cells, slots, Q⟩ := C
  intro ok H locs ls hP hS hL
  exact va_gets ok.1 ok.2.1 ok.2.2.2.2.2.2.2.1.1.2.1 hS ok.2.2.2.1 (ok.2.2.2.2.1 _ hw) (fun _ h => h) hd (k ok H locs ls hP hS hL)
theorem za_ldE {i : Nat} (hd : decode cc pc = .ok (.iaload, 1)) (hi : i < 6) (k : zAW g C dd cc own (pc + 1) lv (.int (zEarn.getD i 0) :: st) σ) : zAW g C dd cc own pc lv (.int (nI i) :: .ref (zst g 0) :: st) σ := by
  obtain ⟨p, l, e, R, s, m, args, below, meth, c, nL, A, cells, slots, Q⟩ := C
  intro ok H locs ls hP hS hL
  have hc : (nI i).toNatClampNeg = i := nI_clamp (by omega)
  exact va_ti ok.1 ok.2.1 ok.2.2.2.2.2.2.2.1.1.1.2 hS (vp_in_nI hi (by omega)) (by rw [hc]) hd (k ok H locs ls hP hS hL)
theorem za_ldA {i : Nat} (hd : decode cc pc = .ok (.iaload, 1)) (hi : i < 6) (k : zAW g C dd cc own (pc + 1) lv (.int (zAbove.getD i 0) :: st) σ) : zAW g C dd cc own pc lv (.int (nI i) :: .ref (zst g 1) :: st) σ := by
  obtain ⟨p, l, e, R, s, m, args, below, meth, c, nL, A, cells, slots, Q⟩ := C
  intro ok H locs ls hP hS hL
  have hc : (nI i).toNatClampNeg = i := nI_clamp (by omega)
  exact va_ti ok.1 ok.2.1 ok.2.2.2.2.2.2.2.1.1.2.2 hS (vp_in_nI hi (by omega)) (by rw [hc]) hd (k ok H locs ls hP hS hL)
/-! a method's contract -/
def zrm (d : Nat) : Room := { frames := d, cells := 0, slots := 0, locals := 36 * d }
def zQc (g : zG) (E : Option Value → zSto → Prop) : Array Value → State → Outcome → State → Prop := fun _ st oc t => (∃ (r : Option Value) (σ' : zSto), oc = .returned r ∧ E r σ' ∧ zWd g σ' t) ∧ va_F (zAg g) st t
def zEv (g : zG) (d : Nat) (y : MethodName) (cy : ByteArray) (n : Nat) (ret : Option FieldType) (as : List Value) (σ : zSto) (E : Option Value → zSto → Prop) : Prop :=
  ∀ l : Launch, Met l y (.code y cy n ret :: lw_g) (zrm d) (fun a U => a = as.toArray ∧ zWd g σ U) (zQc g E) 0 0 (zAg g)
def zMe (g : zG) (C : zC) (n : Nat) (ret : Option FieldType) (E : Option Value → zSto → Prop) : Prop := match C with
  | (_, _, _, _, s, _, args, below, meth, _, nL, A, cells, slots, Q) => nL = n ∧ meth.sig.returnType = ret ∧ A = zAg g ∧ cells = 0 ∧ slots = 0 ∧ Q = MQ below (zQc g E) args s 0 0 (zAg g)
theorem zev_intro {d n : Nat} {y : MethodName} {ret : Option FieldType} {as : List Value} {E : Option Value → zSto → Prop} (hy : plainName y.cls = true) (ho : y.cls = own) (hlen : (lg_sl as).length ≤ n) {lv : List (Option Value)} (hlv : zlv as n = lv) (body : ∀ C : zC, zMe g C n ret E → zcN C = n → zAW g C d cc own 0 lv [] σ) : zEv g d y cc n ret as σ E := by
  subst hlv
  intro l
  refine Met.ofW (cc := cc) (maxL := n) (ret := ret) hy rfl ?_
  intro p e s m args below meth c s₁ B hml hv
  obtain ⟨rfl, hG, hP, hK, hSx⟩ := hv
  have hts := atoms_spec (ws := .code y cc n ret :: lw_g) B.pre
  have hown : s.vm.findClass y.cls = some m.cls := findClass_of_methodNamed B.named
  rw [ho] at hown
  have hl := lv_entry as (n := n) hlen
  rw [lg_entry_eq]
  exact body (p, l, e, _, s, m, _, below, meth, c, n, zAg g, 0, 0, _) ⟨rfl, B.returns, rfl, rfl, rfl, rfl⟩ rfl ⟨B.exec, B.bytes, hml, hown, fun w hw => hts w (List.mem_cons_of_mem _ hw), B.notSynchronized, hK, hSx, hG, fun _ h => h, ⟨Nat.le_refl _, Nat.le_refl _⟩, Nat.le_refl _, Nat.le_refl _⟩ s.heap [] _ hP va_S.rf (zLH_entry hl)
theorem zWd_end {A : Nat → Prop} {s t : State} {H : Heap} {locs : List Loc} (hG : zGk g) (hA : ∀ q, zAg g q → A q) (hK : va_K g.1 vwCl (ztys g) s) (hx : zSx g A s s.heap) (hP : va_P g.1 vwCl (zwld g σ) H) (hS : va_S A s.heap H locs) (ht : t.heap = H) (hW : s.WarmedH t.vm) : zWd g σ t :=
  ⟨hG, by rw [ht]; exact hP, va_K.moved hW.alike hK, by rw [ht]; exact ((hx.kept hS.2.1).warm hW).narrow hA⟩
section ZRET
variable {n : Nat} {E : Option Value → zSto → Prop}
theorem za_iret {v : Int32} (hM : zMe g C n (some .int) E) (hd : decode cc pc = .ok (.ireturn, 1)) (h : E (some (.int v)) σ) : zAW g C dd cc own pc lv [.int v] σ := by
  obtain ⟨p, l, e, R, s, m, args, below, meth, c, nL, A, cells, slots, Q⟩ := C
  obtain ⟨rfl, hr, rfl, rfl, rfl, rfl⟩ := hM
  intro ok H locs ls hP hS hL
  exact W.iret ok.1 ok.2.1 hr (fun t ht hW => ⟨⟨_, σ, rfl, h, zWd_end ok.2.2.2.2.2.2.2.2.1 ok.2.2.2.2.2.2.2.2.2.1 ok.2.2.2.2.2.2.1 ok.2.2.2.2.2.2.2.1 hP hS ht hW⟩, hS.F ht⟩) hS.2.2 hd (hlocks := ok.2.2.2.2.2.1)
theorem za_zretG {v : Int32} {ty : FieldType} (hM : zMe g C n (some ty) E) (hd : decode cc pc = .ok (.ireturn, 1)) (hn : narrow ty (.int v) = .int v) (h : E (some (.int v)) σ) : zAW g C dd cc own pc lv [.int v] σ := by
  obtain ⟨p, l, e, R, s, m, args, below, meth, c, nL, A, cells, slots, Q⟩ := C
  obtain ⟨rfl, hr, rfl, rfl, rfl, rfl⟩ := hM
  intro ok H locs ls hP hS hL
  exact W.zret ok.1 ok.2.1 hr hn (fun t ht hW => ⟨⟨_, σ, rfl, h, zWd_end ok.2.2.2.2.2.2.2.2.1 ok.2.2.2.2.2.2.2.2.2.1 ok.2.2.2.2.2.2.1 ok.2.2.2.2.2.2.2.1 hP hS ht hW⟩, hS.F ht⟩) hS.2.2 hd (hlocks := ok.2.2.2.2.2.1)
theorem za_vret (hM : zMe g C n none E) (hd : decode cc pc = .ok (.return_, 1)) (h : E none σ) : zAW g C dd cc own pc lv [] σ := by
  obtain ⟨p, l, e, R, s, m, args, below, meth, c, nL, A, cells, slots, Q⟩ := C
  obtain ⟨rfl, hr, rfl, rfl, rfl, rfl⟩ := hM
  intro ok H locs ls hP hS hL
  exact W.vret ok.1 ok.2.1 hr (fun t ht hW => ⟨⟨_, σ, rfl, h, zWd_end ok.2.2.2.2.2.2.2.2.1 ok.2.2.2.2.2.2.2.2.2.1 ok.2.2.2.2.2.2.1 ok.2.2.2.2.2.2.2.1 hP hS ht hW⟩, hS.F ht⟩) hS.2.2 hd (hlocks := ok.2.2.2.2.2.1)
theorem za_lret {v : Int64} (hM : zMe g C n (some .long) E) (hd : decode cc pc = .ok (.lreturn, 1)) (h : E (some (.long v)) σ) : zAW g C dd cc own pc lv [.long v] σ := by
  obtain ⟨p, l, e, R, s, m, args, below, meth, c, nL, A, cells, slots, Q⟩ := C
  obtain ⟨rfl, hr, rfl, rfl, rfl, rfl⟩ := hM
  intro ok H locs ls hP hS hL
  exact W.lret ok.1 ok.2.1 hr (fun t ht hW => ⟨⟨_, σ, rfl, h, zWd_end ok.2.2.2.2.2.2.2.2.1 ok.2.2.2.2.2.2.2.2.2.1 ok.2.2.2.2.2.2.1 ok.2.2.2.2.2.2.2.1 hP hS ht hW⟩, hS.F ht⟩) hS.2.2 hd (hlocks := ok.2.2.2.2.2.1)
end ZRET
/-! calls -/
def zCW (y : MethodName) (cy : ByteArray) (n : Nat) (ret : Option FieldType) (na : Nat) : Prop := Cond.code y cy n ret ∈ lw_g ∧ Cond.initialized y.cls ∈ lw_g ∧ n ≤ 17 ∧ y.cls ≠ "java/lang/invoke/MethodHandle" ∧ y.cls ≠ "java/lang/invoke/VarHandle" ∧ (parseMethodDescriptor y.desc).map (fun d => d.parameters.length) = some na
def zCV (y : MethodName) : Prop := Cond.instanceMethod y ∈ lw_g ∧ Cond.selects y.cls y y ∈ lw_g
section ZCALL
variable {d n na idx : Nat} {y : MethodName} {cy : ByteArray} {ret : Option FieldType} {As rest : List Value} {E : Option Value → zSto → Prop}
theorem zgoodIn {big : List Cond} (hb : ∀ w ∈ lw_g, w ∈ big) (hc : Cond.code y cy n ret ∈ lw_g) : GoodIn big (.code y cy n ret :: lw_g) := fun w hw => by
  rcases List.mem_cons.mp hw with rfl | h
  · exact ⟨hb _ hc, good_of_word (lw_gd _ hc)⟩
  · exact ⟨hb _ h, good_of_word (lw_gd _ h)⟩
theorem zblind {as : List Value} : FrameBlind (fun a U => a = as.toArray ∧ zWd g σ U) := fun a U gg mk h => ⟨h.1, h.2.1, h.2.2.1, va_K.moved (u := U) (U := U.calling gg mk a) (Vm.Alike.refl U.vm) h.2.2.2.1, zSx.same (s := U) (U := U.calling gg mk a) rfl h.2.2.2.2⟩
theorem zrun {p : Program} {l : Launch} {e : Env} {R : Room} {s : State} {m : MethodId} {args : Array Value} {below : List Frame} {meth : Method} {c : Code} {nL : Nat} {A : Nat → Prop} {cells slots : Nat} {Q : State → Prop} {H : Heap} {locs : List Loc} {ls : Array Slot} {as : Array Value}
    (ok : zOk g (p, l, e, R, s, m, args, below, meth, c, nL, A, cells, slots, Q) dd cc own) (hS : va_S A s.heap H locs) (hL : zLH ls nL lv)
    (hr : va_Run p l e R s m args below meth c H locs cells slots 0 0 (F0 m pc ls st) rest (zQc g E as) (zAg g)) (k : ∀ (r : Option Value) (σ' : zSto), E r σ' → zAW g (p, l, e, R, s, m, args, below, meth, c, nL, A, cells, slots, Q) dd cc own (pc + 3) lv (r.toList ++ rest) σ') :
    W p l e R s m args below meth c H locs cells slots Q (F0 m pc ls st) := by
  intro T hT X
  obtain ⟨v, st₀, t, T', L, h0, X', hLo, e1, e2, ⟨⟨r, σ', hv, hE, hWd⟩, hz, hk⟩, step⟩ := hr T hT X
  cases hv
  rw [h0] at hz hk
  have hA := ok.2.2.2.2.2.2.2.2.2.1
  have hS' : va_S A s.heap T'.heap (locs ++ L) := ⟨Nat.le_trans hS.1 (by rw [e1]; exact hz), fun q h1 h2 => by rw [e1, hk q (Nat.lt_of_lt_of_le h1 hS.1) (fun z => h2 (hA q z))]; exact hS.2.1 q h1 h2, fun q hq => by
      rcases List.mem_append.mp hq with h | h
      · exact hS.2.2 q h
      · exact hA _ (hLo q h)⟩
  obtain ⟨t2, a1, b1⟩ := k v σ' hE ok T'.heap (locs ++ L) ls (by rw [e1]; exact hWd.2.1) hS' hL T' rfl X'
  exact ⟨t2, step t2 a1, b1⟩
theorem za_callV {o ci : Nat} {fs : List (Option Nat)} (hd : decode cc pc = .ok (.invokevirtual idx, 3)) (hm : Cond.methodLink own idx y ∈ lw_g) (hw : zCW y cy n ret na) (hv : zCV y) (hE : zEv g d y cy n ret (.ref (zad g o) :: As) σ E) (hdd : d < dd) (hs : zsh[o]? = some (.inl (ci, fs))) {rc : vw_C} (hcr : vwCl[ci]? = some rc) (hn : rc.1 = y.cls) (hna : As.length = na) (hr : (rest.map fun v => v.category).sum ≤ 8) (hst : st = As.reverse ++ .ref (zad g o) :: rest) (k : ∀ (r : Option Value) (σ' : zSto), E r σ' → zAW g C dd cc own (pc + 3) lv (r.toList ++ rest) σ') : zAW g C dd cc own pc lv st σ := by
  obtain ⟨p, l, e, R, s, m, args, below, meth, c, nL, A, cells, slots, Q⟩ := C
  intro ok H locs ls hP hS hL
  have ok' := ok
  obtain ⟨hx, hb, hml, hown, hts, hlocks, hK, hx2, hG, hA, hcs, hdR, hlR⟩ := ok'
  obtain ⟨w1, w2, w3, w4, w5, w6⟩ := hw
  have hcb : CallB R s args own idx y cy n ret (.code y cy n ret :: lw_g) (zrm d) 0 0 na := callB_of na hts (zgoodIn (fun _ h => h) w1) rfl rfl rfl (hts _ w2) (hts _ hm) ⟨w4, w5, w6⟩ ⟨by show d + 1 ≤ _; omega, by show 8 + (n + 11) + 36 * d ≤ _; omega⟩
  have hrecv : ∃ cellB : Cell, H[zad g o]? = some cellB ∧ cellB.vm.isStatics = false ∧ s.vm.findClass y.cls = some cellB.cls := by
    rw [← hn]
    exact va_recv hK hP (ci := ci) (q0 := o) hcr (zwld_at hs)
  have hpv : PreV s H y.cls (zad g o) (fun a U => a = (Value.ref (zad g o) :: As).toArray ∧ zWd g σ U) As := ⟨zblind, hrecv, fun U hU hW => ⟨rfl, zWd_end hG hA hK hx2 hP hS hU hW⟩⟩
  have hcw : CallW R s args own y.cls idx y cy n ret (.code y cy n ret :: lw_g) (zrm d) 0 0 na := ⟨hcb, hts _ hv.1, hts _ hv.2⟩
  refine zrun ok hS hL (va_runV (As := As) (rest := rest) ⟨hx, hb, hml, hown, hts⟩ (hE l) hcw hpv rfl hna hL.1 hst (lv_room hr) hd ⟨by omega, by omega⟩) k
theorem za_callS (hd : decode cc pc = .ok (.invokestatic idx, 3)) (hm : Cond.methodLink own idx y ∈ lw_g) (hw : zCW y cy n ret na) (hv : Cond.static y ∈ lw_g) (hE : zEv g d y cy n ret As σ E) (hdd : d < dd) (hna : As.length = na) (hr : (rest.map fun v => v.category).sum ≤ 8) (hst : st = As.reverse ++ rest) (k : ∀ (r : Option Value) (σ' : zSto), E r σ' → zAW g C dd cc own (pc + 3) lv (r.toList ++ rest) σ') : zAW g C dd cc own pc lv st σ := by
  obtain ⟨p, l, e, R, s, m, args, below, meth, c, nL, A, cells, slots, Q⟩ := C
  intro ok H locs ls hP hS hL
  have ok' := ok
  obtain ⟨hx, hb, hml, hown, hts, hlocks, hK, hx2, hG, hA, hcs, hdR, hlR⟩ := ok'
  obtain ⟨w1, w2, w3, w4, w5, w6⟩ := hw
  have hcb : CallB R s args own idx y cy n ret (.code y cy n ret :: lw_g) (zrm d) 0 0 na := callB_of na hts (zgoodIn (fun _ h => h) w1) rfl rfl rfl (hts _ w2) (hts _ hm) ⟨w4, w5, w6⟩ ⟨by show d + 1 ≤ _; omega, by show 8 + (n + 11) + 36 * d ≤ _; omega⟩
  refine zrun ok hS hL (va_runS (As := As) (rest := rest) ⟨hx, hb, hml, hown, hts⟩ (hE l) ⟨hcb, hts _ hv⟩ ⟨zblind, fun U hU hW => ⟨rfl, zWd_end hG hA hK hx2 hP hS hU hW⟩⟩ rfl hna hL.1 hst (lv_room hr) hd ⟨by omega, by omega⟩) k
theorem za_callSN (hd : decode cc pc = .ok (.invokestatic idx, 3)) (hm : ∀ (A : Nat → Prop) (U : State) (H : Heap), zSx g A U H → va_Nw (.methodLinkNest own idx y "BasinVotes") U) (hw : zCW y cy n ret na) (hv : Cond.static y ∈ lw_g) (hE : zEv g d y cy n ret As σ E) (hdd : d < dd) (hna : As.length = na) (hr : (rest.map fun v => v.category).sum ≤ 8) (hst : st = As.reverse ++ rest) (k : ∀ (r : Option Value) (σ' : zSto), E r σ' → zAW g C dd cc own (pc + 3) lv (r.toList ++ rest) σ') : zAW g C dd cc own pc lv st σ := by
  obtain ⟨p, l, e, R, s, m, args, below, meth, c, nL, A, cells, slots, Q⟩ := C
  intro ok H locs ls hP hS hL
  have ok' := ok
  obtain ⟨hx, hb, hml, hown, hts, hlocks, hK, hx2, hG, hA, hcs, hdR, hlR⟩ := ok'
  obtain ⟨w1, w2, w3, w4, w5, w6⟩ := hw
  have hcb : va_CN R s args own idx y "BasinVotes" cy n ret (.code y cy n ret :: lw_g) (zrm d) 0 0 na := va_cnB na hts (zgoodIn (fun _ h => h) w1) rfl rfl rfl (hm _ _ _ hx2) (hts _ w2) ⟨w4, w5, w6⟩ ⟨by show d + 1 ≤ _; omega, by show 8 + (n + 11) + 36 * d ≤ _; omega⟩
  refine zrun ok hS hL (va_runSN (As := As) (rest := rest) ⟨hx, hb, hml, hown, hts⟩ (hE l) ⟨hcb, hts _ hv, trivial⟩ ⟨zblind, fun U hU hW => ⟨rfl, zWd_end hG hA hK hx2 hP hS hU hW⟩⟩ rfl hna hL.1 hst (lv_room hr) hd ⟨by omega, by omega⟩) k
end ZCALL
end ZHEAP
end
section
theorem zin1 : ∀ w ∈ u_ws RX1 TX1 3, w ∈ lw_g := by
  show ∀ w ∈ [u_lay RX1 TX1 0, u_lay RX1 TX1 1, u_lay RX1 TX1 2], w ∈ lw_g
  exact List.forall_mem_cons.mpr ⟨lw_in 130 (by decide +kernel) (by decide +kernel), List.forall_mem_cons.mpr ⟨lw_in 132 (by decide +kernel) (by decide +kernel), List.forall_mem_cons.mpr ⟨lw_in 134 (by decide +kernel) (by decide +kernel), fun _ h => absurd h List.not_mem_nil⟩⟩⟩
theorem zin2 : ∀ w ∈ u_ws RX2 TX2 2, w ∈ lw_g := by
  show ∀ w ∈ [u_lay RX2 TX2 0, u_lay RX2 TX2 1], w ∈ lw_g
  exact List.forall_mem_cons.mpr ⟨lw_in 85 (by decide +kernel) (by decide +kernel), List.forall_mem_cons.mpr ⟨lw_in 87 (by decide +kernel) (by decide +kernel), fun _ h => absurd h List.not_mem_nil⟩⟩
theorem zp_X2_1 : zFP 1 1 .int := ⟨RX2, TX2, 2, tyX2, rfl, tyX2_ok, nmX2, rfl, (by decide +kernel)⟩
theorem zin3 : ∀ w ∈ u_ws RX3 TX3 6, w ∈ lw_g := by
  show ∀ w ∈ [u_lay RX3 TX3 0, u_lay RX3 TX3 1, u_lay RX3 TX3 2, u_lay RX3 TX3 3, u_lay RX3 TX3 4, u_lay RX3 TX3 5], w ∈ lw_g
  exact List.forall_mem_cons.mpr ⟨lw_in 103 (by decide +kernel) (by decide +kernel), List.forall_mem_cons.mpr ⟨lw_in 105 (by decide +kernel) (by decide +kernel), List.forall_mem_cons.mpr ⟨lw_in 107 (by decide +kernel) (by decide +kernel), List.forall_mem_cons.mpr ⟨lw_in 109 (by decide +kernel) (by decide +kernel), List.forall_mem_cons.mpr ⟨lw_in 111 (by decide +kernel) (by decide +kernel), List.forall_mem_cons.mpr ⟨lw_in 113 (by decide +kernel) (by decide +kernel), fun _ h => absurd h List.not_mem_nil⟩⟩⟩⟩⟩⟩
theorem zp_X3_2 : zFP 2 2 .int := ⟨RX3, TX3, 6, tyX3, rfl, tyX3_ok, nmX3, rfl, (by decide +kernel)⟩
theorem zp_X3_3 : zFP 2 3 .int := ⟨RX3, TX3, 6, tyX3, rfl, tyX3_ok, nmX3, rfl, (by decide +kernel)⟩
theorem zp_X3_4 : zFP 2 4 .int := ⟨RX3, TX3, 6, tyX3, rfl, tyX3_ok, nmX3, rfl, (by decide +kernel)⟩
theorem zp_X3_5 : zFP 2 5 .int := ⟨RX3, TX3, 6, tyX3, rfl, tyX3_ok, nmX3, rfl, (by decide +kernel)⟩
theorem zin4 : ∀ w ∈ u_ws RX4 TX4 10, w ∈ lw_g := by
  show ∀ w ∈ [u_lay RX4 TX4 0, u_lay RX4 TX4 1, u_lay RX4 TX4 2, u_lay RX4 TX4 3, u_lay RX4 TX4 4, u_lay RX4 TX4 5, u_lay RX4 TX4 6, u_lay RX4 TX4 7, u_lay RX4 TX4 8, u_lay RX4 TX4 9], w ∈ lw_g
  exact List.forall_mem_cons.mpr ⟨lw_in 52 (by decide +kernel) (by decide +kernel), List.forall_mem_cons.mpr ⟨lw_in 54 (by decide +kernel) (by decide +kernel), List.forall_mem_cons.mpr ⟨lw_in 56 (by decide +kernel) (by decide +kernel), List.forall_mem_cons.mpr ⟨lw_in 58 (by decide +kernel) (by decide +kernel), List.forall_mem_cons.mpr ⟨lw_in 60 (by decide +kernel) (by decide +kernel), List.forall_mem_cons.mpr ⟨lw_in 62 (by decide +kernel) (by decide +kernel), List.forall_mem_cons.mpr ⟨lw_in 64 (by decide +kernel) (by decide +kernel), List.forall_mem_cons.mpr ⟨lw_in 66 (by decide +kernel) (by decide +kernel), List.forall_mem_cons.mpr ⟨lw_in 68 (by decide +kernel) (by decide +kernel), List.forall_mem_cons.mpr ⟨lw_in 70 (by decide +kernel) (by decide +kernel), fun _ h => absurd h List.not_mem_nil⟩⟩⟩⟩⟩⟩⟩⟩⟩⟩
theorem zp_X4_0 : zFP 3 0 .int := ⟨RX4, TX4, 10, tyX4, rfl, tyX4_ok, nmX4, rfl, (by decide +kernel)⟩
theorem zp_X4_1 : zFP 3 1 .int := ⟨RX4, TX4, 10, tyX4, rfl, tyX4_ok, nmX4, rfl, (by decide +kernel)⟩
theorem zp_X4_2 : zFP 3 2 .int := ⟨RX4, TX4, 10, tyX4, rfl, tyX4_ok, nmX4, rfl, (by decide +kernel)⟩
theorem zp_X4_3 : zFP 3 3 .int := ⟨RX4, TX4, 10, tyX4, rfl, tyX4_ok, nmX4, rfl, (by decide +kernel)⟩
theorem zin5 : ∀ w ∈ u_ws RX5 TX5 8, w ∈ lw_g := by
  show ∀ w ∈ [u_lay RX5 TX5 0, u_lay RX5 TX5 1, u_lay RX5 TX5 2, u_lay RX5 TX5 3, u_lay RX5 TX5 4, u_lay RX5 TX5 5, u_lay RX5 TX5 6, u_lay RX5 TX5 7], w ∈ lw_g
  exact List.forall_mem_cons.mpr ⟨lw_in 146 (by decide +kernel) (by decide +kernel), List.forall_mem_cons.mpr ⟨lw_in 148 (by decide +kernel) (by decide +kernel), List.forall_mem_cons.mpr ⟨lw_in 150 (by decide +kernel) (by decide +kernel), List.forall_mem_cons.mpr ⟨lw_in 152 (by decide +kernel) (by decide +kernel), List.forall_mem_cons.mpr ⟨lw_in 154 (by decide +kernel) (by decide +kernel), List.forall_mem_cons.mpr ⟨lw_in 156 (by decide +kernel) (by decide +kernel), List.forall_mem_cons.mpr ⟨lw_in 158 (by decide +kernel) (by decide +kernel), List.forall_mem_cons.mpr ⟨lw_in 160 (by decide +kernel) (by decide +kernel), fun _ h => absurd h List.not_mem_nil⟩⟩⟩⟩⟩⟩⟩⟩
theorem zp_X5_3 : zFP 4 3 .boolean := ⟨RX5, TX5, 8, tyX5, rfl, tyX5_ok, nmX5, rfl, (by decide +kernel)⟩
theorem zin6 : ∀ w ∈ u_ws RX6 TX6 16, w ∈ lw_g := by
  show ∀ w ∈ [u_lay RX6 TX6 0, u_lay RX6 TX6 1, u_lay RX6 TX6 2, u_lay RX6 TX6 3, u_lay RX6 TX6 4, u_lay RX6 TX6 5, u_lay RX6 TX6 6, u_lay RX6 TX6 7, u_lay RX6 TX6 8, u_lay RX6 TX6 9, u_lay RX6 TX6 10, u_lay RX6 TX6 11, u_lay RX6 TX6 12, u_lay RX6 TX6 13, u_lay RX6 TX6 14, u_lay RX6 TX6 15], w ∈ lw_g
  exact List.forall_mem_cons.mpr ⟨lw_in 648 (by decide +kernel) (by decide +kernel), List.forall_mem_cons.mpr ⟨lw_in 650 (by decide +kernel) (by decide +kernel), List.forall_mem_cons.mpr ⟨lw_in 652 (by decide +kernel) (by decide +kernel), List.forall_mem_cons.mpr ⟨lw_in 654 (by decide +kernel) (by decide +kernel), List.forall_mem_cons.mpr ⟨lw_in 656 (by decide +kernel) (by decide +kernel), List.forall_mem_cons.mpr ⟨lw_in 658 (by decide +kernel) (by decide +kernel), List.forall_mem_cons.mpr ⟨lw_in 660 (by decide +kernel) (by decide +kernel), List.forall_mem_cons.mpr ⟨lw_in 662 (by decide +kernel) (by decide +kernel), List.forall_mem_cons.mpr ⟨lw_in 664 (by decide +kernel) (by decide +kernel), List.forall_mem_cons.mpr ⟨lw_in 666 (by decide +kernel) (by decide +kernel), List.forall_mem_cons.mpr ⟨lw_in 668 (by decide +kernel) (by decide +kernel), List.forall_mem_cons.mpr ⟨lw_in 670 (by decide +kernel) (by decide +kernel), List.forall_mem_cons.mpr ⟨lw_in 672 (by decide +kernel) (by decide +kernel), List.forall_mem_cons.mpr ⟨lw_in 674 (by decide +kernel) (by decide +kernel), List.forall_mem_cons.mpr ⟨lw_in 676 (by decide +kernel) (by decide +kernel), List.forall_mem_cons.mpr ⟨lw_in 678 (by decide +kernel) (by decide +kernel), fun _ h => absurd h List.not_mem_nil⟩⟩⟩⟩⟩⟩⟩⟩⟩⟩⟩⟩⟩⟩⟩⟩
theorem zp_X6_5 : zFP 5 5 .boolean := ⟨RX6, TX6, 16, tyX6, rfl, tyX6_ok, nmX6, rfl, (by decide +kernel)⟩
theorem zp_X6_7 : zFP 5 7 .int := ⟨RX6, TX6, 16, tyX6, rfl, tyX6_ok, nmX6, rfl, (by decide +kernel)⟩
theorem zp_X6_8 : zFP 5 8 .int := ⟨RX6, TX6, 16, tyX6, rfl, tyX6_ok, nmX6, rfl, (by decide +kernel)⟩
theorem zp_X6_9 : zFP 5 9 .int := ⟨RX6, TX6, 16, tyX6, rfl, tyX6_ok, nmX6, rfl, (by decide +kernel)⟩
theorem zp_X6_10 : zFP 5 10 .int := ⟨RX6, TX6, 16, tyX6, rfl, tyX6_ok, nmX6, rfl, (by decide +kernel)⟩
theorem zp_X6_11 : zFP 5 11 .boolean := ⟨RX6, TX6, 16, tyX6, rfl, tyX6_ok, nmX6, rfl, (by decide +kernel)⟩
theorem zf_X4_9 : zFL RX4 9 3 0 := ⟨RX4, TX4, 10, rfl, by decide, lw_in 29 (by decide +kernel) (by decide +kernel), zin4⟩
theorem zf_X5_92 : zFL RX5 92 3 0 := ⟨RX4, TX4, 10, rfl, by decide, lw_in 30 (by decide +kernel) (by decide +kernel), zin4⟩
theorem zf_X4_15 : zFL RX4 15 3 1 := ⟨RX4, TX4, 10, rfl, by decide, lw_in 31 (by decide +kernel) (by decide +kernel), zin4⟩
theorem zf_X5_89 : zFL RX5 89 3 1 := ⟨RX4, TX4, 10, rfl, by decide, lw_in 32 (by decide +kernel) (by decide +kernel), zin4⟩
theorem zf_X4_18 : zFL RX4 18 3 2 := ⟨RX4, TX4, 10, rfl, by decide, lw_in 33 (by decide +kernel) (by decide +kernel), zin4⟩
theorem zf_X5_82 : zFL RX5 82 3 2 := ⟨RX4, TX4, 10, rfl, by decide, lw_in 34 (by decide +kernel) (by decide +kernel), zin4⟩
theorem zf_X3_110 : zFL RX3 110 3 2 := ⟨RX4, TX4, 10, rfl, by decide, lw_in 35 (by decide +kernel) (by decide +kernel), zin4⟩
theorem zf_X4_21 : zFL RX4 21 3 3 := ⟨RX4, TX4, 10, rfl, by decide, lw_in 36 (by decide +kernel) (by decide +kernel), zin4⟩
theorem zf_X3_113 : zFL RX3 113 3 3 := ⟨RX4, TX4, 10, rfl, by decide, lw_in 37 (by decide +kernel) (by decide +kernel), zin4⟩
theorem zf_X5_175 : zFL RX5 175 3 3 := ⟨RX4, TX4, 10, rfl, by decide, lw_in 38 (by decide +kernel) (by decide +kernel), zin4⟩
theorem zf_X4_24 : zFL RX4 24 3 4 := ⟨RX4, TX4, 10, rfl, by decide, lw_in 39 (by decide +kernel) (by decide +kernel), zin4⟩
theorem zf_X4_28 : zFL RX4 28 3 5 := ⟨RX4, TX4, 10, rfl, by decide, lw_in 40 (by decide +kernel) (by decide +kernel), zin4⟩
theorem zf_X4_31 : zFL RX4 31 3 6 := ⟨RX4, TX4, 10, rfl, by decide, lw_in 41 (by decide +kernel) (by decide +kernel), zin4⟩
theorem zf_X5_121 : zFL RX5 121 3 6 := ⟨RX4, TX4, 10, rfl, by decide, lw_in 42 (by decide +kernel) (by decide +kernel), zin4⟩
theorem zf_X4_34 : zFL RX4 34 3 7 := ⟨RX4, TX4, 10, rfl, by decide, lw_in 43 (by decide +kernel) (by decide +kernel), zin4⟩
theorem zf_X3_96 : zFL RX3 96 3 7 := ⟨RX4, TX4, 10, rfl, by decide, lw_in 44 (by decide +kernel) (by decide +kernel), zin4⟩
theorem zf_X5_124 : zFL RX5 124 3 7 := ⟨RX4, TX4, 10, rfl, by decide, lw_in 45 (by decide +kernel) (by decide +kernel), zin4⟩
theorem zf_X4_37 : zFL RX4 37 3 8 := ⟨RX4, TX4, 10, rfl, by decide, lw_in 46 (by decide +kernel) (by decide +kernel), zin4⟩
theorem zf_X3_104 : zFL RX3 104 3 8 := ⟨RX4, TX4, 10, rfl, by decide, lw_in 47 (by decide +kernel) (by decide +kernel), zin4⟩
theorem zf_X5_127 : zFL RX5 127 3 8 := ⟨RX4, TX4, 10, rfl, by decide, lw_in 48 (by decide +kernel) (by decide +kernel), zin4⟩
theorem zf_X4_40 : zFL RX4 40 3 9 := ⟨RX4, TX4, 10, rfl, by decide, lw_in 49 (by decide +kernel) (by decide +kernel), zin4⟩
theorem zf_X3_116 : zFL RX3 116 3 9 := ⟨RX4, TX4, 10, rfl, by decide, lw_in 50 (by decide +kernel) (by decide +kernel), zin4⟩
theorem zf_X5_130 : zFL RX5 130 3 9 := ⟨RX4, TX4, 10, rfl, by decide, lw_in 51 (by decide +kernel) (by decide +kernel), zin4⟩
theorem zf_X2_9 : zFL RX2 9 1 0 := ⟨RX2, TX2, 2, rfl, by decide, lw_in 80 (by decide +kernel) (by decide +kernel), zin2⟩
theorem zf_X3_150 : zFL RX3 150 1 0 := ⟨RX2, TX2, 2, rfl, by decide, lw_in 81 (by decide +kernel) (by decide +kernel), zin2⟩
theorem zf_X2_13 : zFL RX2 13 1 1 := ⟨RX2, TX2, 2, rfl, by decide, lw_in 82 (by decide +kernel) (by decide +kernel), zin2⟩
theorem zf_X3_130 : zFL RX3 130 1 1 := ⟨RX2, TX2, 2, rfl, by decide, lw_in 83 (by decide +kernel) (by decide +kernel), zin2⟩
theorem zf_X5_187 : zFL RX5 187 1 1 := ⟨RX2, TX2, 2, rfl, by decide, lw_in 84 (by decide +kernel) (by decide +kernel), zin2⟩
theorem zf_X3_9 : zFL RX3 9 2 0 := ⟨RX3, TX3, 6, rfl, by decide, lw_in 97 (by decide +kernel) (by decide +kernel), zin3⟩
theorem zf_X3_15 : zFL RX3 15 2 1 := ⟨RX3, TX3, 6, rfl, by decide, lw_in 98 (by decide +kernel) (by decide +kernel), zin3⟩
theorem zf_X3_35 : zFL RX3 35 2 2 := ⟨RX3, TX3, 6, rfl, by decide, lw_in 99 (by decide +kernel) (by decide +kernel), zin3⟩
theorem zf_X3_19 : zFL RX3 19 2 3 := ⟨RX3, TX3, 6, rfl, by decide, lw_in 100 (by decide +kernel) (by decide +kernel), zin3⟩
theorem zf_X3_32 : zFL RX3 32 2 4 := ⟨RX3, TX3, 6, rfl, by decide, lw_in 101 (by decide +kernel) (by decide +kernel), zin3⟩
theorem zf_X3_99 : zFL RX3 99 2 5 := ⟨RX3, TX3, 6, rfl, by decide, lw_in 102 (by decide +kernel) (by decide +kernel), zin3⟩
theorem zf_X1_11 : zFL RX1 11 0 0 := ⟨RX1, TX1, 3, rfl, by decide, lw_in 124 (by decide +kernel) (by decide +kernel), zin1⟩
theorem zf_X5_208 : zFL RX5 208 0 0 := ⟨RX1, TX1, 3, rfl, by decide, lw_in 125 (by decide +kernel) (by decide +kernel), zin1⟩
theorem zf_X1_14 : zFL RX1 14 0 1 := ⟨RX1, TX1, 3, rfl, by decide, lw_in 126 (by decide +kernel) (by decide +kernel), zin1⟩
theorem zf_X5_216 : zFL RX5 216 0 1 := ⟨RX1, TX1, 3, rfl, by decide, lw_in 127 (by decide +kernel) (by decide +kernel), zin1⟩
theorem zf_X1_18 : zFL RX1 18 0 2 := ⟨RX1, TX1, 3, rfl, by decide, lw_in 128 (by decide +kernel) (by decide +kernel), zin1⟩
theorem zf_X5_202 : zFL RX5 202 0 2 := ⟨RX1, TX1, 3, rfl, by decide, lw_in 129 (by decide +kernel) (by decide +kernel), zin1⟩
theorem zf_X5_10 : zFL RX5 10 4 0 := ⟨RX5, TX5, 8, rfl, by decide, lw_in 138 (by decide +kernel) (by decide +kernel), zin5⟩
theorem zf_X5_16 : zFL RX5 16 4 1 := ⟨RX5, TX5, 8, rfl, by decide, lw_in 139 (by decide +kernel) (by decide +kernel), zin5⟩
theorem zf_X5_19 : zFL RX5 19 4 2 := ⟨RX5, TX5, 8, rfl, by decide, lw_in 140 (by decide +kernel) (by decide +kernel), zin5⟩
theorem zf_X5_22 : zFL RX5 22 4 3 := ⟨RX5, TX5, 8, rfl, by decide, lw_in 141 (by decide +kernel) (by decide +kernel), zin5⟩
theorem zf_X5_29 : zFL RX5 29 4 4 := ⟨RX5, TX5, 8, rfl, by decide, lw_in 142 (by decide +kernel) (by decide +kernel), zin5⟩
theorem zf_X5_38 : zFL RX5 38 4 5 := ⟨RX5, TX5, 8, rfl, by decide, lw_in 143 (by decide +kernel) (by decide +kernel), zin5⟩
theorem zf_X5_45 : zFL RX5 45 4 6 := ⟨RX5, TX5, 8, rfl, by decide, lw_in 144 (by decide +kernel) (by decide +kernel), zin5⟩
theorem zf_X5_49 : zFL RX5 49 4 7 := ⟨RX5, TX5, 8, rfl, by decide, lw_in 145 (by decide +kernel) (by decide +kernel), zin5⟩
theorem zg_X0_19 : Cond.fieldLink RX0 19 "BasinVotes$Kinds" "EARNS" "[I" ∈ lw_g := lw_in 285 (by decide +kernel) (by decide +kernel)
theorem zg_X0_13 : Cond.fieldLink RX0 13 "BasinVotes$Kinds" "ABOVE" "[I" ∈ lw_g := lw_in 320 (by decide +kernel) (by decide +kernel)
theorem zg_J0_38 : Cond.fieldLink RJ0 38 "java/lang/String" "COMPACT_STRINGS" "Z" ∈ lw_g := lw_in 478 (by decide +kernel) (by decide +kernel)
theorem zg_J0_1053 : Cond.fieldLink RJ0 1053 "jdk/internal/util/Preconditions" "SIOOBE_FORMATTER" "Ljava/util/function/BiFunction;" ∈ lw_g := lw_in 494 (by decide +kernel) (by decide +kernel)
theorem zg_J2_44 : Cond.fieldLink RJ2 44 "java/lang/StringUTF16" "$assertionsDisabled" "Z" ∈ lw_g := lw_in 512 (by decide +kernel) (by decide +kernel)
theorem zg_J2_59 : Cond.fieldLink RJ2 59 "java/lang/StringUTF16" "HI_BYTE_SHIFT" "I" ∈ lw_g := lw_in 514 (by decide +kernel) (by decide +kernel)
theorem zg_J2_63 : Cond.fieldLink RJ2 63 "java/lang/StringUTF16" "LO_BYTE_SHIFT" "I" ∈ lw_g := lw_in 516 (by decide +kernel) (by decide +kernel)
theorem zf_X6_7 : zFL RX6 7 5 0 := ⟨RX6, TX6, 16, rfl, by decide, lw_in 632 (by decide +kernel) (by decide +kernel), zin6⟩
theorem zf_X6_13 : zFL RX6 13 5 1 := ⟨RX6, TX6, 16, rfl, by decide, lw_in 633 (by decide +kernel) (by decide +kernel), zin6⟩
theorem zf_X6_16 : zFL RX6 16 5 2 := ⟨RX6, TX6, 16, rfl, by decide, lw_in 634 (by decide +kernel) (by decide +kernel), zin6⟩
theorem zf_X6_19 : zFL RX6 19 5 3 := ⟨RX6, TX6, 16, rfl, by decide, lw_in 635 (by decide +kernel) (by decide +kernel), zin6⟩
theorem zf_X6_22 : zFL RX6 22 5 4 := ⟨RX6, TX6, 16, rfl, by decide, lw_in 636 (by decide +kernel) (by decide +kernel), zin6⟩
theorem zf_X6_299 : zFL RX6 299 5 5 := ⟨RX6, TX6, 16, rfl, by decide, lw_in 637 (by decide +kernel) (by decide +kernel), zin6⟩
theorem zf_X6_25 : zFL RX6 25 5 6 := ⟨RX6, TX6, 16, rfl, by decide, lw_in 638 (by decide +kernel) (by decide +kernel), zin6⟩
theorem zf_X6_177 : zFL RX6 177 5 7 := ⟨RX6, TX6, 16, rfl, by decide, lw_in 639 (by decide +kernel) (by decide +kernel), zin6⟩
theorem zf_X6_192 : zFL RX6 192 5 8 := ⟨RX6, TX6, 16, rfl, by decide, lw_in 640 (by decide +kernel) (by decide +kernel), zin6⟩
theorem zf_X6_189 : zFL RX6 189 5 9 := ⟨RX6, TX6, 16, rfl, by decide, lw_in 641 (by decide +kernel) (by decide +kernel), zin6⟩
theorem zf_X6_215 : zFL RX6 215 5 10 := ⟨RX6, TX6, 16, rfl, by decide, lw_in 642 (by decide +kernel) (by decide +kernel), zin6⟩
theorem zf_X6_204 : zFL RX6 204 5 11 := ⟨RX6, TX6, 16, rfl, by decide, lw_in 643 (by decide +kernel) (by decide +kernel), zin6⟩
theorem zf_X6_28 : zFL RX6 28 5 12 := ⟨RX6, TX6, 16, rfl, by decide, lw_in 644 (by decide +kernel) (by decide +kernel), zin6⟩
theorem zf_X6_31 : zFL RX6 31 5 13 := ⟨RX6, TX6, 16, rfl, by decide, lw_in 645 (by decide +kernel) (by decide +kernel), zin6⟩
theorem zf_X6_34 : zFL RX6 34 5 14 := ⟨RX6, TX6, 16, rfl, by decide, lw_in 646 (by decide +kernel) (by decide +kernel), zin6⟩
theorem zf_X6_38 : zFL RX6 38 5 15 := ⟨RX6, TX6, 16, rfl, by decide, lw_in 647 (by decide +kernel) (by decide +kernel), zin6⟩
theorem zg_J0_9 : Cond.fieldLink RJ0 9 "java/lang/String" "value" "[B" ∈ lw_g := lw_in 1070 (by decide +kernel) (by decide +kernel)
theorem zg_J0_15 : Cond.fieldLink RJ0 15 "java/lang/String" "coder" "B" ∈ lw_g := lw_in 1071 (by decide +kernel) (by decide +kernel)
theorem zk_X5_238 : Cond.constant RX5 238 (-1000000001) ∈ lw_g := lw_in 183 (by decide +kernel) (by decide +kernel)
theorem zk_X5_155 : Cond.constant RX5 155 (99999) ∈ lw_g := lw_in 326 (by decide +kernel) (by decide +kernel)
theorem zk_J6_265 : Cond.constant RJ6 265 (1431655765) ∈ lw_g := lw_in 387 (by decide +kernel) (by decide +kernel)
theorem zk_J6_266 : Cond.constant RJ6 266 (858993459) ∈ lw_g := lw_in 388 (by decide +kernel) (by decide +kernel)
theorem zk_J6_267 : Cond.constant RJ6 267 (252645135) ∈ lw_g := lw_in 389 (by decide +kernel) (by decide +kernel)
theorem zk_X6_41 : Cond.constant RX6 41 (-1000000001) ∈ lw_g := lw_in 700 (by decide +kernel) (by decide +kernel)
theorem zk_X6_106 : Cond.constant RX6 106 (-1000000002) ∈ lw_g := lw_in 765 (by decide +kernel) (by decide +kernel)
theorem zk_X6_128 : Cond.constant RX6 128 (-1000000003) ∈ lw_g := lw_in 817 (by decide +kernel) (by decide +kernel)
theorem zk_X6_142 : Cond.constant RX6 142 (99999) ∈ lw_g := lw_in 823 (by decide +kernel) (by decide +kernel)
theorem zk_X6_143 : Cond.constant RX6 143 (-1000000005) ∈ lw_g := lw_in 824 (by decide +kernel) (by decide +kernel)
theorem zk_X6_161 : Cond.constant RX6 161 (-1000000004) ∈ lw_g := lw_in 873 (by decide +kernel) (by decide +kernel)
theorem zk_X6_287 : Cond.constant RX6 287 (-1000000007) ∈ lw_g := lw_in 1014 (by decide +kernel) (by decide +kernel)
theorem zk_X6_288 : Cond.constant RX6 288 (-1000000006) ∈ lw_g := lw_in 1023 (by decide +kernel) (by decide +kernel)
theorem zk_X5_233 : Cond.constantLong RX5 233 (9999) ∈ lw_g := lw_in 593 (by decide +kernel) (by decide +kernel)
theorem zk_X6_58 : Cond.constantLong RX6 58 (9999) ∈ lw_g := lw_in 688 (by decide +kernel) (by decide +kernel)
theorem zk_X6_50 : Cond.constantLong RX6 50 (5) ∈ lw_g := lw_in 692 (by decide +kernel) (by decide +kernel)
theorem zk_X6_71 : Cond.constantLong RX6 71 (2) ∈ lw_g := lw_in 709 (by decide +kernel) (by decide +kernel)
theorem zk_X6_76 : Cond.constantLong RX6 76 (63) ∈ lw_g := lw_in 722 (by decide +kernel) (by decide +kernel)
theorem zk_X6_122 : Cond.constantLong RX6 122 (3) ∈ lw_g := lw_in 805 (by decide +kernel) (by decide +kernel)
theorem zk_X6_140 : Cond.constantLong RX6 140 (100) ∈ lw_g := lw_in 822 (by decide +kernel) (by decide +kernel)
theorem zk_X6_147 : Cond.constantLong RX6 147 (200) ∈ lw_g := lw_in 848 (by decide +kernel) (by decide +kernel)
theorem zk_X6_165 : Cond.constantLong RX6 165 (60) ∈ lw_g := lw_in 885 (by decide +kernel) (by decide +kernel)
theorem zk_X6_170 : Cond.constantLong RX6 170 (40) ∈ lw_g := lw_in 890 (by decide +kernel) (by decide +kernel)
theorem zk_X6_175 : Cond.constantLong RX6 175 (4) ∈ lw_g := lw_in 914 (by decide +kernel) (by decide +kernel)
theorem zk_X6_181 : Cond.constantLong RX6 181 (97) ∈ lw_g := lw_in 938 (by decide +kernel) (by decide +kernel)
theorem zk_X6_183 : Cond.constantLong RX6 183 (122) ∈ lw_g := lw_in 939 (by decide +kernel) (by decide +kernel)
theorem zk_X6_185 : Cond.constantLong RX6 185 (48) ∈ lw_g := lw_in 943 (by decide +kernel) (by decide +kernel)
theorem zk_X6_187 : Cond.constantLong RX6 187 (57) ∈ lw_g := lw_in 944 (by decide +kernel) (by decide +kernel)
theorem zk_X6_211 : Cond.constantLong RX6 211 (36028797018963967) ∈ lw_g := lw_in 957 (by decide +kernel) (by decide +kernel)
theorem zk_X6_213 : Cond.constantLong RX6 213 (32) ∈ lw_g := lw_in 958 (by decide +kernel) (by decide +kernel)
theorem zk_X6_226 : Cond.constantLong RX6 226 (21762661554) ∈ lw_g := lw_in 959 (by decide +kernel) (by decide +kernel)
theorem zk_X6_228 : Cond.constantLong RX6 228 (394393) ∈ lw_g := lw_in 960 (by decide +kernel) (by decide +kernel)
theorem zk_X6_230 : Cond.constantLong RX6 230 (2553) ∈ lw_g := lw_in 961 (by decide +kernel) (by decide +kernel)
theorem zk_X6_232 : Cond.constantLong RX6 232 (674915359922) ∈ lw_g := lw_in 962 (by decide +kernel) (by decide +kernel)
theorem zk_X6_234 : Cond.constantLong RX6 234 (1283540) ∈ lw_g := lw_in 963 (by decide +kernel) (by decide +kernel)
theorem zk_X6_236 : Cond.constantLong RX6 236 (4511922) ∈ lw_g := lw_in 964 (by decide +kernel) (by decide +kernel)
theorem zk_X6_238 : Cond.constantLong RX6 238 (398548) ∈ lw_g := lw_in 969 (by decide +kernel) (by decide +kernel)
theorem zk_X6_240 : Cond.constantLong RX6 240 (19176724) ∈ lw_g := lw_in 970 (by decide +kernel) (by decide +kernel)
theorem zk_X6_245 : Cond.constantLong RX6 245 (12748243) ∈ lw_g := lw_in 979 (by decide +kernel) (by decide +kernel)
theorem zk_X6_251 : Cond.constantLong RX6 251 (16955493) ∈ lw_g := lw_in 988 (by decide +kernel) (by decide +kernel)
theorem zk_X6_265 : Cond.constantLong RX6 265 (2696261) ∈ lw_g := lw_in 993 (by decide +kernel) (by decide +kernel)
theorem zk_X6_270 : Cond.constantLong RX6 270 (56377) ∈ lw_g := lw_in 998 (by decide +kernel) (by decide +kernel)
theorem zk_X6_302 : Cond.constantLong RX6 302 (-1) ∈ lw_g := lw_in 1067 (by decide +kernel) (by decide +kernel)
theorem zk_X6_304 : Cond.constantLong RX6 304 (6) ∈ lw_g := lw_in 1068 (by decide +kernel) (by decide +kernel)
theorem zk_L_121 : Cond.constantLong RL 121 (4294967295) ∈ lw_g := lw_in 1069 (by decide +kernel) (by decide +kernel)
theorem zw_X5_init : zCW yX5_init cX5_init 1 none 0 := ⟨lw_in 19 (by decide +kernel) (by decide +kernel), lw_in 1 (by decide +kernel) (by decide +kernel), by decide, by decide +kernel, by decide +kernel, by decide +kernel⟩
theorem zw_X4_init : zCW yX4_init cX4_init 1 none 0 := ⟨lw_in 27 (by decide +kernel) (by decide +kernel), lw_in 2 (by decide +kernel) (by decide +kernel), by decide, by decide +kernel, by decide +kernel, by decide +kernel⟩
theorem zw_X2_init : zCW yX2_init cX2_init 1 none 0 := ⟨lw_in 78 (by decide +kernel) (by decide +kernel), lw_in 3 (by decide +kernel) (by decide +kernel), by decide, by decide +kernel, by decide +kernel, by decide +kernel⟩
theorem zw_X3_init : zCW yX3_init cX3_init 3 none 2 := ⟨lw_in 95 (by decide +kernel) (by decide +kernel), lw_in 4 (by decide +kernel) (by decide +kernel), by decide, by decide +kernel, by decide +kernel, by decide +kernel⟩
theorem zw_X1_init : zCW yX1_init cX1_init 1 none 0 := ⟨lw_in 120 (by decide +kernel) (by decide +kernel), lw_in 5 (by decide +kernel) (by decide +kernel), by decide, by decide +kernel, by decide +kernel, by decide +kernel⟩
theorem zw_X5_lies : zCW yX5_lies cX5_lies 5 (some .int) 3 := ⟨lw_in 166 (by decide +kernel) (by decide +kernel), lw_in 1 (by decide +kernel) (by decide +kernel), by decide, by decide +kernel, by decide +kernel, by decide +kernel⟩
theorem zv_X5_lies : zCV yX5_lies := ⟨lw_in 164 (by decide +kernel) (by decide +kernel), lw_in 165 (by decide +kernel) (by decide +kernel)⟩
theorem zw_X5_isQuestion : zCW yX5_isQuestion cX5_isQuestion 1 (some .boolean) 1 := ⟨lw_in 169 (by decide +kernel) (by decide +kernel), lw_in 1 (by decide +kernel) (by decide +kernel), by decide, by decide +kernel, by decide +kernel, by decide +kernel⟩
theorem zs_X5_isQuestion : Cond.static yX5_isQuestion ∈ lw_g := lw_in 168 (by decide +kernel) (by decide +kernel)
theorem zw_X5_isWithin : zCW yX5_isWithin cX5_isWithin 3 (some .boolean) 3 := ⟨lw_in 172 (by decide +kernel) (by decide +kernel), lw_in 1 (by decide +kernel) (by decide +kernel), by decide, by decide +kernel, by decide +kernel, by decide +kernel⟩
theorem zs_X5_isWithin : Cond.static yX5_isWithin ∈ lw_g := lw_in 171 (by decide +kernel) (by decide +kernel)
theorem zw_X5_isSide : zCW yX5_isSide cX5_isSide 1 (some .boolean) 1 := ⟨lw_in 175 (by decide +kernel) (by decide +kernel), lw_in 1 (by decide +kernel) (by decide +kernel), by decide, by decide +kernel, by decide +kernel, by decide +kernel⟩
theorem zs_X5_isSide : Cond.static yX5_isSide ∈ lw_g := lw_in 174 (by decide +kernel) (by decide +kernel)
theorem zw_X5_isPence : zCW yX5_isPence cX5_isPence 1 (some .boolean) 1 := ⟨lw_in 178 (by decide +kernel) (by decide +kernel), lw_in 1 (by decide +kernel) (by decide +kernel), by decide, by decide +kernel, by decide +kernel, by decide +kernel⟩
theorem zs_X5_isPence : Cond.static yX5_isPence ∈ lw_g := lw_in 177 (by decide +kernel) (by decide +kernel)
theorem zw_X5_finding : zCW yX5_finding cX5_finding 2 (some .int) 1 := ⟨lw_in 182 (by decide +kernel) (by decide +kernel), lw_in 1 (by decide +kernel) (by decide +kernel), by decide, by decide +kernel, by decide +kernel, by decide +kernel⟩
theorem zv_X5_finding : zCV yX5_finding := ⟨lw_in 181 (by decide +kernel) (by decide +kernel), lw_inS 0 (by decide +kernel) (by decide +kernel)⟩
theorem zw_X4_lying : zCW yX4_lying cX4_lying 3 (some .int) 2 := ⟨lw_in 187 (by decide +kernel) (by decide +kernel), lw_in 2 (by decide +kernel) (by decide +kernel), by decide, by decide +kernel, by decide +kernel, by decide +kernel⟩
theorem zv_X4_lying : zCV yX4_lying := ⟨lw_in 185 (by decide +kernel) (by decide +kernel), lw_in 186 (by decide +kernel) (by decide +kernel)⟩
theorem zw_X4_lay : zCW yX4_lay cX4_lay 4 none 3 := ⟨lw_in 191 (by decide +kernel) (by decide +kernel), lw_in 2 (by decide +kernel) (by decide +kernel), by decide, by decide +kernel, by decide +kernel, by decide +kernel⟩
theorem zv_X4_lay : zCV yX4_lay := ⟨lw_in 189 (by decide +kernel) (by decide +kernel), lw_in 190 (by decide +kernel) (by decide +kernel)⟩
theorem zw_X5_basin : zCW yX5_basin cX5_basin 3 (some .int) 2 := ⟨lw_in 195 (by decide +kernel) (by decide +kernel), lw_in 1 (by decide +kernel) (by decide +kernel), by decide, by decide +kernel, by decide +kernel, by decide +kernel⟩
theorem zv_X5_basin : zCV yX5_basin := ⟨lw_in 193 (by decide +kernel) (by decide +kernel), lw_in 194 (by decide +kernel) (by decide +kernel)⟩
theorem zw_X4_tell : zCW yX4_tell cX4_tell 3 (some .int) 2 := ⟨lw_in 199 (by decide +kernel) (by decide +kernel), lw_in 2 (by decide +kernel) (by decide +kernel), by decide, by decide +kernel, by decide +kernel, by decide +kernel⟩
theorem zv_X4_tell : zCV yX4_tell := ⟨lw_in 197 (by decide +kernel) (by decide +kernel), lw_in 198 (by decide +kernel) (by decide +kernel)⟩
theorem zw_X5_bribe : zCW yX5_bribe cX5_bribe 3 (some .int) 1 := ⟨lw_in 204 (by decide +kernel) (by decide +kernel), lw_in 1 (by decide +kernel) (by decide +kernel), by decide, by decide +kernel, by decide +kernel, by decide +kernel⟩
theorem zv_X5_bribe : zCV yX5_bribe := ⟨lw_in 202 (by decide +kernel) (by decide +kernel), lw_in 203 (by decide +kernel) (by decide +kernel)⟩
theorem zw_X5_held : zCW yX5_held cX5_held 3 (some .int) 1 := ⟨lw_in 208 (by decide +kernel) (by decide +kernel), lw_in 1 (by decide +kernel) (by decide +kernel), by decide, by decide +kernel, by decide +kernel, by decide +kernel⟩
theorem zv_X5_held : zCV yX5_held := ⟨lw_in 206 (by decide +kernel) (by decide +kernel), lw_in 207 (by decide +kernel) (by decide +kernel)⟩
theorem zw_X5_isSet : zCW yX5_isSet cX5_isSet 1 (some .boolean) 1 := ⟨lw_in 211 (by decide +kernel) (by decide +kernel), lw_in 1 (by decide +kernel) (by decide +kernel), by decide, by decide +kernel, by decide +kernel, by decide +kernel⟩
theorem zs_X5_isSet : Cond.static yX5_isSet ∈ lw_g := lw_in 210 (by decide +kernel) (by decide +kernel)
theorem zw_X5_now : zCW yX5_now cX5_now 2 (some .int) 1 := ⟨lw_in 215 (by decide +kernel) (by decide +kernel), lw_in 1 (by decide +kernel) (by decide +kernel), by decide, by decide +kernel, by decide +kernel, by decide +kernel⟩
theorem zv_X5_now : zCV yX5_now := ⟨lw_in 213 (by decide +kernel) (by decide +kernel), lw_in 214 (by decide +kernel) (by decide +kernel)⟩
theorem zw_X4_questionOfDay : zCW yX4_questionOfDay cX4_questionOfDay 1 (some .int) 0 := ⟨lw_in 219 (by decide +kernel) (by decide +kernel), lw_in 2 (by decide +kernel) (by decide +kernel), by decide, by decide +kernel, by decide +kernel, by decide +kernel⟩
theorem zv_X4_questionOfDay : zCV yX4_questionOfDay := ⟨lw_in 217 (by decide +kernel) (by decide +kernel), lw_in 218 (by decide +kernel) (by decide +kernel)⟩
theorem zw_X4_thoseForLeft : zCW yX4_thoseForLeft cX4_thoseForLeft 3 (some .int) 0 := ⟨lw_in 223 (by decide +kernel) (by decide +kernel), lw_in 2 (by decide +kernel) (by decide +kernel), by decide, by decide +kernel, by decide +kernel, by decide +kernel⟩
theorem zv_X4_thoseForLeft : zCV yX4_thoseForLeft := ⟨lw_in 221 (by decide +kernel) (by decide +kernel), lw_in 222 (by decide +kernel) (by decide +kernel)⟩
theorem zw_X4_sideOf : zCW yX4_sideOf cX4_sideOf 3 (some .int) 2 := ⟨lw_in 228 (by decide +kernel) (by decide +kernel), lw_in 2 (by decide +kernel) (by decide +kernel), by decide, by decide +kernel, by decide +kernel, by decide +kernel⟩
theorem zv_X4_sideOf : zCV yX4_sideOf := ⟨lw_in 226 (by decide +kernel) (by decide +kernel), lw_in 227 (by decide +kernel) (by decide +kernel)⟩
theorem zw_X4_ladySide : zCW yX4_ladySide cX4_ladySide 5 (some .int) 2 := ⟨lw_in 232 (by decide +kernel) (by decide +kernel), lw_in 2 (by decide +kernel) (by decide +kernel), by decide, by decide +kernel, by decide +kernel, by decide +kernel⟩
theorem zv_X4_ladySide : zCV yX4_ladySide := ⟨lw_in 231 (by decide +kernel) (by decide +kernel), lw_inS 1 (by decide +kernel) (by decide +kernel)⟩
theorem zw_X4_throwerSide : zCW yX4_throwerSide cX4_throwerSide 3 (some .int) 2 := ⟨lw_in 236 (by decide +kernel) (by decide +kernel), lw_in 2 (by decide +kernel) (by decide +kernel), by decide, by decide +kernel, by decide +kernel, by decide +kernel⟩
theorem zv_X4_throwerSide : zCV yX4_throwerSide := ⟨lw_in 235 (by decide +kernel) (by decide +kernel), lw_inS 2 (by decide +kernel) (by decide +kernel)⟩
theorem zw_X4_allPence : zCW yX4_allPence cX4_allPence 3 (some .int) 0 := ⟨lw_in 240 (by decide +kernel) (by decide +kernel), lw_in 2 (by decide +kernel) (by decide +kernel), by decide, by decide +kernel, by decide +kernel, by decide +kernel⟩
theorem zv_X4_allPence : zCV yX4_allPence := ⟨lw_in 238 (by decide +kernel) (by decide +kernel), lw_in 239 (by decide +kernel) (by decide +kernel)⟩
theorem zw_X4_allLying : zCW yX4_allLying cX4_allLying 4 (some .int) 1 := ⟨lw_in 244 (by decide +kernel) (by decide +kernel), lw_in 2 (by decide +kernel) (by decide +kernel), by decide, by decide +kernel, by decide +kernel, by decide +kernel⟩
theorem zv_X4_allLying : zCV yX4_allLying := ⟨lw_in 242 (by decide +kernel) (by decide +kernel), lw_in 243 (by decide +kernel) (by decide +kernel)⟩
theorem zw_X5_person : zCW yX5_person cX5_person 2 (some .int) 1 := ⟨lw_in 248 (by decide +kernel) (by decide +kernel), lw_in 1 (by decide +kernel) (by decide +kernel), by decide, by decide +kernel, by decide +kernel, by decide +kernel⟩
theorem zv_X5_person : zCV yX5_person := ⟨lw_in 246 (by decide +kernel) (by decide +kernel), lw_in 247 (by decide +kernel) (by decide +kernel)⟩
theorem zw_X5_isKind : zCW yX5_isKind cX5_isKind 1 (some .boolean) 1 := ⟨lw_in 251 (by decide +kernel) (by decide +kernel), lw_in 1 (by decide +kernel) (by decide +kernel), by decide, by decide +kernel, by decide +kernel, by decide +kernel⟩
theorem zs_X5_isKind : Cond.static yX5_isKind ∈ lw_g := lw_in 250 (by decide +kernel) (by decide +kernel)
theorem zw_X4_isFull : zCW yX4_isFull cX4_isFull 1 (some .boolean) 0 := ⟨lw_in 255 (by decide +kernel) (by decide +kernel), lw_in 2 (by decide +kernel) (by decide +kernel), by decide, by decide +kernel, by decide +kernel, by decide +kernel⟩
theorem zv_X4_isFull : zCV yX4_isFull := ⟨lw_in 253 (by decide +kernel) (by decide +kernel), lw_in 254 (by decide +kernel) (by decide +kernel)⟩
theorem zw_X4_add : zCW yX4_add cX4_add 3 (some .int) 1 := ⟨lw_in 259 (by decide +kernel) (by decide +kernel), lw_in 2 (by decide +kernel) (by decide +kernel), by decide, by decide +kernel, by decide +kernel, by decide +kernel⟩
theorem zv_X4_add : zCV yX4_add := ⟨lw_in 257 (by decide +kernel) (by decide +kernel), lw_in 258 (by decide +kernel) (by decide +kernel)⟩
theorem zw_X5_of : zCW yX5_of cX5_of 3 (some .int) 2 := ⟨lw_in 263 (by decide +kernel) (by decide +kernel), lw_in 1 (by decide +kernel) (by decide +kernel), by decide, by decide +kernel, by decide +kernel, by decide +kernel⟩
theorem zv_X5_of : zCV yX5_of := ⟨lw_in 261 (by decide +kernel) (by decide +kernel), lw_in 262 (by decide +kernel) (by decide +kernel)⟩
theorem zw_X5_isPerson : zCW yX5_isPerson cX5_isPerson 2 (some .boolean) 1 := ⟨lw_in 267 (by decide +kernel) (by decide +kernel), lw_in 1 (by decide +kernel) (by decide +kernel), by decide, by decide +kernel, by decide +kernel, by decide +kernel⟩
theorem zv_X5_isPerson : zCV yX5_isPerson := ⟨lw_in 266 (by decide +kernel) (by decide +kernel), lw_inS 3 (by decide +kernel) (by decide +kernel)⟩
theorem zw_X4_throwsOf : zCW yX4_throwsOf cX4_throwsOf 2 (some .int) 1 := ⟨lw_in 271 (by decide +kernel) (by decide +kernel), lw_in 2 (by decide +kernel) (by decide +kernel), by decide, by decide +kernel, by decide +kernel, by decide +kernel⟩
theorem zv_X4_throwsOf : zCV yX4_throwsOf := ⟨lw_in 269 (by decide +kernel) (by decide +kernel), lw_in 270 (by decide +kernel) (by decide +kernel)⟩
theorem zw_X0_throwsWith : zCW yX0_throwsWith cX0_throwsWith 2 (some .int) 2 := ⟨lw_in 274 (by decide +kernel) (by decide +kernel), lw_in 7 (by decide +kernel) (by decide +kernel), by decide, by decide +kernel, by decide +kernel, by decide +kernel⟩
theorem zs_X0_throwsWith : Cond.static yX0_throwsWith ∈ lw_g := lw_in 273 (by decide +kernel) (by decide +kernel)
theorem zw_X0_wouldThrow : zCW yX0_wouldThrow cX0_wouldThrow 2 (some .int) 2 := ⟨lw_in 277 (by decide +kernel) (by decide +kernel), lw_in 7 (by decide +kernel) (by decide +kernel), by decide, by decide +kernel, by decide +kernel, by decide +kernel⟩
theorem zs_X0_wouldThrow : Cond.static yX0_wouldThrow ∈ lw_g := lw_in 276 (by decide +kernel) (by decide +kernel)
theorem zw_J9_min_7cf53 : zCW yJ9_min_7cf53 cJ9_min_7cf53 2 (some .int) 2 := ⟨lw_in 280 (by decide +kernel) (by decide +kernel), lw_in 8 (by decide +kernel) (by decide +kernel), by decide, by decide +kernel, by decide +kernel, by decide +kernel⟩
theorem zs_J9_min_7cf53 : Cond.static yJ9_min_7cf53 ∈ lw_g := lw_in 279 (by decide +kernel) (by decide +kernel)
theorem zw_X0_earns : zCW yX0_earns cX0_earns 1 (some .int) 1 := ⟨lw_in 283 (by decide +kernel) (by decide +kernel), lw_in 7 (by decide +kernel) (by decide +kernel), by decide, by decide +kernel, by decide +kernel, by decide +kernel⟩
theorem zs_X0_earns : Cond.static yX0_earns ∈ lw_g := lw_in 282 (by decide +kernel) (by decide +kernel)
theorem zw_X5_acts : zCW yX5_acts cX5_acts 4 (some .int) 3 := ⟨lw_in 290 (by decide +kernel) (by decide +kernel), lw_in 1 (by decide +kernel) (by decide +kernel), by decide, by decide +kernel, by decide +kernel, by decide +kernel⟩
theorem zv_X5_acts : zCV yX5_acts := ⟨lw_in 288 (by decide +kernel) (by decide +kernel), lw_in 289 (by decide +kernel) (by decide +kernel)⟩
theorem zw_X4_divesOf : zCW yX4_divesOf cX4_divesOf 3 (some .int) 2 := ⟨lw_in 295 (by decide +kernel) (by decide +kernel), lw_in 2 (by decide +kernel) (by decide +kernel), by decide, by decide +kernel, by decide +kernel, by decide +kernel⟩
theorem zv_X4_divesOf : zCV yX4_divesOf := ⟨lw_in 293 (by decide +kernel) (by decide +kernel), lw_in 294 (by decide +kernel) (by decide +kernel)⟩
theorem zw_X0_dives : zCW yX0_dives cX0_dives 3 (some .int) 3 := ⟨lw_in 298 (by decide +kernel) (by decide +kernel), lw_in 7 (by decide +kernel) (by decide +kernel), by decide, by decide +kernel, by decide +kernel, by decide +kernel⟩
theorem zs_X0_dives : Cond.static yX0_dives ∈ lw_g := lw_in 297 (by decide +kernel) (by decide +kernel)
theorem zw_J9_max_7cf53 : zCW yJ9_max_7cf53 cJ9_max_7cf53 2 (some .int) 2 := ⟨lw_in 301 (by decide +kernel) (by decide +kernel), lw_in 8 (by decide +kernel) (by decide +kernel), by decide, by decide +kernel, by decide +kernel, by decide +kernel⟩
theorem zs_J9_max_7cf53 : Cond.static yJ9_max_7cf53 ∈ lw_g := lw_in 300 (by decide +kernel) (by decide +kernel)
theorem zw_X5_set : zCW yX5_set cX5_set 4 (some .int) 3 := ⟨lw_in 305 (by decide +kernel) (by decide +kernel), lw_in 1 (by decide +kernel) (by decide +kernel), by decide, by decide +kernel, by decide +kernel, by decide +kernel⟩
theorem zv_X5_set : zCV yX5_set := ⟨lw_in 303 (by decide +kernel) (by decide +kernel), lw_in 304 (by decide +kernel) (by decide +kernel)⟩
theorem zw_X5_change : zCW yX5_change cX5_change 4 (some .int) 3 := ⟨lw_in 308 (by decide +kernel) (by decide +kernel), lw_in 1 (by decide +kernel) (by decide +kernel), by decide, by decide +kernel, by decide +kernel, by decide +kernel⟩
theorem zs_X5_change : Cond.static yX5_change ∈ lw_g := lw_in 307 (by decide +kernel) (by decide +kernel)
theorem zw_X5_turn : zCW yX5_turn cX5_turn 3 (some .int) 2 := ⟨lw_in 312 (by decide +kernel) (by decide +kernel), lw_in 1 (by decide +kernel) (by decide +kernel), by decide, by decide +kernel, by decide +kernel, by decide +kernel⟩
theorem zv_X5_turn : zCV yX5_turn := ⟨lw_in 310 (by decide +kernel) (by decide +kernel), lw_in 311 (by decide +kernel) (by decide +kernel)⟩
theorem zw_X5_as : zCW yX5_as cX5_as 3 (some .int) 2 := ⟨lw_in 316 (by decide +kernel) (by decide +kernel), lw_in 1 (by decide +kernel) (by decide +kernel), by decide, by decide +kernel, by decide +kernel, by decide +kernel⟩
theorem zv_X5_as : zCV yX5_as := ⟨lw_in 314 (by decide +kernel) (by decide +kernel), lw_in 315 (by decide +kernel) (by decide +kernel)⟩
theorem zw_X0_isUnder : zCW yX0_isUnder cX0_isUnder 4 (some .boolean) 2 := ⟨lw_in 319 (by decide +kernel) (by decide +kernel), lw_in 7 (by decide +kernel) (by decide +kernel), by decide, by decide +kernel, by decide +kernel, by decide +kernel⟩
theorem zs_X0_isUnder : Cond.static yX0_isUnder ∈ lw_g := lw_in 318 (by decide +kernel) (by decide +kernel)
theorem zw_X5_days : zCW yX5_days cX5_days 2 (some .int) 1 := ⟨lw_in 325 (by decide +kernel) (by decide +kernel), lw_in 1 (by decide +kernel) (by decide +kernel), by decide, by decide +kernel, by decide +kernel, by decide +kernel⟩
theorem zv_X5_days : zCV yX5_days := ⟨lw_in 323 (by decide +kernel) (by decide +kernel), lw_in 324 (by decide +kernel) (by decide +kernel)⟩
theorem zw_X4_goDays : zCW yX4_goDays cX4_goDays 3 none 1 := ⟨lw_in 330 (by decide +kernel) (by decide +kernel), lw_in 2 (by decide +kernel) (by decide +kernel), by decide, by decide +kernel, by decide +kernel, by decide +kernel⟩
theorem zv_X4_goDays : zCV yX4_goDays := ⟨lw_in 328 (by decide +kernel) (by decide +kernel), lw_in 329 (by decide +kernel) (by decide +kernel)⟩
theorem zw_X4_goDay : zCW yX4_goDay cX4_goDay 3 none 0 := ⟨lw_in 334 (by decide +kernel) (by decide +kernel), lw_in 2 (by decide +kernel) (by decide +kernel), by decide, by decide +kernel, by decide +kernel, by decide +kernel⟩
theorem zv_X4_goDay : zCV yX4_goDay := ⟨lw_in 332 (by decide +kernel) (by decide +kernel), lw_in 333 (by decide +kernel) (by decide +kernel)⟩
theorem zw_X4_visit : zCW yX4_visit cX4_visit 7 none 2 := ⟨lw_in 338 (by decide +kernel) (by decide +kernel), lw_in 2 (by decide +kernel) (by decide +kernel), by decide, by decide +kernel, by decide +kernel, by decide +kernel⟩
theorem zv_X4_visit : zCV yX4_visit := ⟨lw_in 337 (by decide +kernel) (by decide +kernel), lw_inS 4 (by decide +kernel) (by decide +kernel)⟩
theorem zw_X4_net : zCW yX4_net cX4_net 2 none 1 := ⟨lw_in 347 (by decide +kernel) (by decide +kernel), lw_in 2 (by decide +kernel) (by decide +kernel), by decide, by decide +kernel, by decide +kernel, by decide +kernel⟩
theorem zv_X4_net : zCV yX4_net := ⟨lw_in 346 (by decide +kernel) (by decide +kernel), lw_inS 5 (by decide +kernel) (by decide +kernel)⟩
theorem zw_X5_on : zCW yX5_on cX5_on 3 (some .int) 2 := ⟨lw_in 351 (by decide +kernel) (by decide +kernel), lw_in 1 (by decide +kernel) (by decide +kernel), by decide, by decide +kernel, by decide +kernel, by decide +kernel⟩
theorem zv_X5_on : zCV yX5_on := ⟨lw_in 349 (by decide +kernel) (by decide +kernel), lw_in 350 (by decide +kernel) (by decide +kernel)⟩
theorem zw_X5_tryDays : zCW yX5_tryDays cX5_tryDays 2 none 1 := ⟨lw_in 355 (by decide +kernel) (by decide +kernel), lw_in 1 (by decide +kernel) (by decide +kernel), by decide, by decide +kernel, by decide +kernel, by decide +kernel⟩
theorem zv_X5_tryDays : zCV yX5_tryDays := ⟨lw_in 354 (by decide +kernel) (by decide +kernel), lw_inS 6 (by decide +kernel) (by decide +kernel)⟩
theorem zw_X4_become : zCW yX4_become cX4_become 2 none 1 := ⟨lw_in 359 (by decide +kernel) (by decide +kernel), lw_in 2 (by decide +kernel) (by decide +kernel), by decide, by decide +kernel, by decide +kernel, by decide +kernel⟩
theorem zv_X4_become : zCV yX4_become := ⟨lw_in 357 (by decide +kernel) (by decide +kernel), lw_in 358 (by decide +kernel) (by decide +kernel)⟩
theorem zw_X5_then : zCW yX5_then cX5_then 4 (some .int) 3 := ⟨lw_in 366 (by decide +kernel) (by decide +kernel), lw_in 1 (by decide +kernel) (by decide +kernel), by decide, by decide +kernel, by decide +kernel, by decide +kernel⟩
theorem zv_X5_then : zCV yX5_then := ⟨lw_in 364 (by decide +kernel) (by decide +kernel), lw_in 365 (by decide +kernel) (by decide +kernel)⟩
theorem zw_X5_flips : zCW yX5_flips cX5_flips 4 (some .int) 1 := ⟨lw_in 370 (by decide +kernel) (by decide +kernel), lw_in 1 (by decide +kernel) (by decide +kernel), by decide, by decide +kernel, by decide +kernel, by decide +kernel⟩
theorem zv_X5_flips : zCV yX5_flips := ⟨lw_in 368 (by decide +kernel) (by decide +kernel), lw_in 369 (by decide +kernel) (by decide +kernel)⟩
theorem zw_X5_rich : zCW yX5_rich cX5_rich 4 (some .int) 2 := ⟨lw_in 375 (by decide +kernel) (by decide +kernel), lw_in 1 (by decide +kernel) (by decide +kernel), by decide, by decide +kernel, by decide +kernel, by decide +kernel⟩
theorem zv_X5_rich : zCV yX5_rich := ⟨lw_in 373 (by decide +kernel) (by decide +kernel), lw_in 374 (by decide +kernel) (by decide +kernel)⟩
theorem zw_X5_kind : zCW yX5_kind cX5_kind 6 (some .int) 2 := ⟨lw_in 379 (by decide +kernel) (by decide +kernel), lw_in 1 (by decide +kernel) (by decide +kernel), by decide, by decide +kernel, by decide +kernel, by decide +kernel⟩
theorem zv_X5_kind : zCV yX5_kind := ⟨lw_in 377 (by decide +kernel) (by decide +kernel), lw_in 378 (by decide +kernel) (by decide +kernel)⟩
theorem zw_X5_lean : zCW yX5_lean cX5_lean 7 (some .int) 2 := ⟨lw_in 383 (by decide +kernel) (by decide +kernel), lw_in 1 (by decide +kernel) (by decide +kernel), by decide, by decide +kernel, by decide +kernel, by decide +kernel⟩
theorem zv_X5_lean : zCV yX5_lean := ⟨lw_in 381 (by decide +kernel) (by decide +kernel), lw_in 382 (by decide +kernel) (by decide +kernel)⟩
theorem zw_J6_bitCount_0f7a4 : zCW yJ6_bitCount_0f7a4 cJ6_bitCount_0f7a4 1 (some .int) 1 := ⟨lw_in 386 (by decide +kernel) (by decide +kernel), lw_in 10 (by decide +kernel) (by decide +kernel), by decide, by decide +kernel, by decide +kernel, by decide +kernel⟩
theorem zs_J6_bitCount_0f7a4 : Cond.static yJ6_bitCount_0f7a4 ∈ lw_g := lw_in 385 (by decide +kernel) (by decide +kernel)
theorem zw_X5_buys : zCW yX5_buys cX5_buys 6 (some .int) 3 := ⟨lw_in 393 (by decide +kernel) (by decide +kernel), lw_in 1 (by decide +kernel) (by decide +kernel), by decide, by decide +kernel, by decide +kernel, by decide +kernel⟩
theorem zv_X5_buys : zCV yX5_buys := ⟨lw_in 391 (by decide +kernel) (by decide +kernel), lw_in 392 (by decide +kernel) (by decide +kernel)⟩
theorem zw_X5_swing : zCW yX5_swing cX5_swing 7 (some .int) 1 := ⟨lw_in 397 (by decide +kernel) (by decide +kernel), lw_in 1 (by decide +kernel) (by decide +kernel), by decide, by decide +kernel, by decide +kernel, by decide +kernel⟩
theorem zv_X5_swing : zCV yX5_swing := ⟨lw_in 395 (by decide +kernel) (by decide +kernel), lw_in 396 (by decide +kernel) (by decide +kernel)⟩
theorem zw_X5_pays : zCW yX5_pays cX5_pays 2 (some .int) 1 := ⟨lw_in 401 (by decide +kernel) (by decide +kernel), lw_in 1 (by decide +kernel) (by decide +kernel), by decide, by decide +kernel, by decide +kernel, by decide +kernel⟩
theorem zv_X5_pays : zCV yX5_pays := ⟨lw_in 399 (by decide +kernel) (by decide +kernel), lw_in 400 (by decide +kernel) (by decide +kernel)⟩
theorem zw_X5_heldIfBribed : zCW yX5_heldIfBribed cX5_heldIfBribed 3 (some .int) 2 := ⟨lw_in 405 (by decide +kernel) (by decide +kernel), lw_in 1 (by decide +kernel) (by decide +kernel), by decide, by decide +kernel, by decide +kernel, by decide +kernel⟩
theorem zv_X5_heldIfBribed : zCV yX5_heldIfBribed := ⟨lw_in 404 (by decide +kernel) (by decide +kernel), lw_inS 7 (by decide +kernel) (by decide +kernel)⟩
theorem zw_X5_richest : zCW yX5_richest cX5_richest 4 (some .int) 1 := ⟨lw_in 409 (by decide +kernel) (by decide +kernel), lw_in 1 (by decide +kernel) (by decide +kernel), by decide, by decide +kernel, by decide +kernel, by decide +kernel⟩
theorem zv_X5_richest : zCV yX5_richest := ⟨lw_in 407 (by decide +kernel) (by decide +kernel), lw_in 408 (by decide +kernel) (by decide +kernel)⟩
theorem zw_X5_feed : zCW yX5_feed cX5_feed 4 (some .int) 2 := ⟨lw_in 413 (by decide +kernel) (by decide +kernel), lw_in 1 (by decide +kernel) (by decide +kernel), by decide, by decide +kernel, by decide +kernel, by decide +kernel⟩
theorem zv_X5_feed : zCV yX5_feed := ⟨lw_in 411 (by decide +kernel) (by decide +kernel), lw_in 412 (by decide +kernel) (by decide +kernel)⟩
theorem zw_X2_hasRoom : zCW yX2_hasRoom cX2_hasRoom 2 (some .boolean) 1 := ⟨lw_in 417 (by decide +kernel) (by decide +kernel), lw_in 3 (by decide +kernel) (by decide +kernel), by decide, by decide +kernel, by decide +kernel, by decide +kernel⟩
theorem zv_X2_hasRoom : zCV yX2_hasRoom := ⟨lw_in 415 (by decide +kernel) (by decide +kernel), lw_in 416 (by decide +kernel) (by decide +kernel)⟩
theorem zw_X2_add : zCW yX2_add cX2_add 2 none 1 := ⟨lw_in 421 (by decide +kernel) (by decide +kernel), lw_in 3 (by decide +kernel) (by decide +kernel), by decide, by decide +kernel, by decide +kernel, by decide +kernel⟩
theorem zv_X2_add : zCV yX2_add := ⟨lw_in 419 (by decide +kernel) (by decide +kernel), lw_in 420 (by decide +kernel) (by decide +kernel)⟩
theorem zw_X5_wipe : zCW yX5_wipe cX5_wipe 2 (some .int) 0 := ⟨lw_in 425 (by decide +kernel) (by decide +kernel), lw_in 1 (by decide +kernel) (by decide +kernel), by decide, by decide +kernel, by decide +kernel, by decide +kernel⟩
theorem zv_X5_wipe : zCV yX5_wipe := ⟨lw_in 423 (by decide +kernel) (by decide +kernel), lw_in 424 (by decide +kernel) (by decide +kernel)⟩
theorem zw_X5_town : zCW yX5_town cX5_town 2 (some .int) 0 := ⟨lw_in 429 (by decide +kernel) (by decide +kernel), lw_in 1 (by decide +kernel) (by decide +kernel), by decide, by decide +kernel, by decide +kernel, by decide +kernel⟩
theorem zv_X5_town : zCV yX5_town := ⟨lw_in 427 (by decide +kernel) (by decide +kernel), lw_in 428 (by decide +kernel) (by decide +kernel)⟩
theorem zw_X3_items : zCW yX3_items cX3_items 2 (some .int) 0 := ⟨lw_in 433 (by decide +kernel) (by decide +kernel), lw_in 4 (by decide +kernel) (by decide +kernel), by decide, by decide +kernel, by decide +kernel, by decide +kernel⟩
theorem zv_X3_items : zCV yX3_items := ⟨lw_in 431 (by decide +kernel) (by decide +kernel), lw_in 432 (by decide +kernel) (by decide +kernel)⟩
theorem zw_X3_next : zCW yX3_next cX3_next 1 none 0 := ⟨lw_in 437 (by decide +kernel) (by decide +kernel), lw_in 4 (by decide +kernel) (by decide +kernel), by decide, by decide +kernel, by decide +kernel, by decide +kernel⟩
theorem zv_X3_next : zCV yX3_next := ⟨lw_in 436 (by decide +kernel) (by decide +kernel), lw_inS 8 (by decide +kernel) (by decide +kernel)⟩
theorem zw_X3_byteAt : zCW yX3_byteAt cX3_byteAt 2 (some .int) 1 := ⟨lw_in 441 (by decide +kernel) (by decide +kernel), lw_in 4 (by decide +kernel) (by decide +kernel), by decide, by decide +kernel, by decide +kernel, by decide +kernel⟩
theorem zv_X3_byteAt : zCV yX3_byteAt := ⟨lw_in 440 (by decide +kernel) (by decide +kernel), lw_inS 9 (by decide +kernel) (by decide +kernel)⟩
theorem zw_X3_isLetter : zCW yX3_isLetter cX3_isLetter 1 (some .boolean) 1 := ⟨lw_in 444 (by decide +kernel) (by decide +kernel), lw_in 4 (by decide +kernel) (by decide +kernel), by decide, by decide +kernel, by decide +kernel, by decide +kernel⟩
theorem zs_X3_isLetter : Cond.static yX3_isLetter ∈ lw_g := lw_in 443 (by decide +kernel) (by decide +kernel)
theorem zw_X3_nextWord : zCW yX3_nextWord cX3_nextWord 1 none 0 := ⟨lw_in 448 (by decide +kernel) (by decide +kernel), lw_in 4 (by decide +kernel) (by decide +kernel), by decide, by decide +kernel, by decide +kernel, by decide +kernel⟩
theorem zv_X3_nextWord : zCV yX3_nextWord := ⟨lw_in 447 (by decide +kernel) (by decide +kernel), lw_inS 10 (by decide +kernel) (by decide +kernel)⟩
theorem zw_X3_isDigit : zCW yX3_isDigit cX3_isDigit 1 (some .boolean) 1 := ⟨lw_in 451 (by decide +kernel) (by decide +kernel), lw_in 4 (by decide +kernel) (by decide +kernel), by decide, by decide +kernel, by decide +kernel, by decide +kernel⟩
theorem zs_X3_isDigit : Cond.static yX3_isDigit ∈ lw_g := lw_in 450 (by decide +kernel) (by decide +kernel)
theorem zw_X3_nextNumber : zCW yX3_nextNumber cX3_nextNumber 1 none 0 := ⟨lw_in 455 (by decide +kernel) (by decide +kernel), lw_in 4 (by decide +kernel) (by decide +kernel), by decide, by decide +kernel, by decide +kernel, by decide +kernel⟩
theorem zv_X3_nextNumber : zCV yX3_nextNumber := ⟨lw_in 454 (by decide +kernel) (by decide +kernel), lw_inS 11 (by decide +kernel) (by decide +kernel)⟩
theorem zw_X3_readItem : zCW yX3_readItem cX3_readItem 2 (some .boolean) 0 := ⟨lw_in 460 (by decide +kernel) (by decide +kernel), lw_in 4 (by decide +kernel) (by decide +kernel), by decide, by decide +kernel, by decide +kernel, by decide +kernel⟩
theorem zv_X3_readItem : zCV yX3_readItem := ⟨lw_in 459 (by decide +kernel) (by decide +kernel), lw_inS 12 (by decide +kernel) (by decide +kernel)⟩
theorem zw_X3_kindNamed : zCW yX3_kindNamed cX3_kindNamed 1 (some .int) 0 := ⟨lw_in 464 (by decide +kernel) (by decide +kernel), lw_in 4 (by decide +kernel) (by decide +kernel), by decide, by decide +kernel, by decide +kernel, by decide +kernel⟩
theorem zv_X3_kindNamed : zCV yX3_kindNamed := ⟨lw_in 463 (by decide +kernel) (by decide +kernel), lw_inS 13 (by decide +kernel) (by decide +kernel)⟩
theorem zw_X3_isWord : zCW yX3_isWord cX3_isWord 3 (some .boolean) 1 := ⟨lw_in 469 (by decide +kernel) (by decide +kernel), lw_in 4 (by decide +kernel) (by decide +kernel), by decide, by decide +kernel, by decide +kernel, by decide +kernel⟩
theorem zv_X3_isWord : zCV yX3_isWord := ⟨lw_in 468 (by decide +kernel) (by decide +kernel), lw_inS 14 (by decide +kernel) (by decide +kernel)⟩
theorem zw_J0_length_8abf5 : zCW yJ0_length_8abf5 cJ0_length_8abf5 1 (some .int) 0 := ⟨lw_in 473 (by decide +kernel) (by decide +kernel), lw_in 11 (by decide +kernel) (by decide +kernel), by decide, by decide +kernel, by decide +kernel, by decide +kernel⟩
theorem zv_J0_length_8abf5 : zCV yJ0_length_8abf5 := ⟨lw_in 471 (by decide +kernel) (by decide +kernel), lw_in 472 (by decide +kernel) (by decide +kernel)⟩
theorem zw_J0_coder_7d493 : zCW yJ0_coder_7d493 cJ0_coder_7d493 1 (some .byte) 0 := ⟨lw_in 477 (by decide +kernel) (by decide +kernel), lw_in 11 (by decide +kernel) (by decide +kernel), by decide, by decide +kernel, by decide +kernel, by decide +kernel⟩
theorem zv_J0_coder_7d493 : zCV yJ0_coder_7d493 := ⟨lw_in 475 (by decide +kernel) (by decide +kernel), lw_in 476 (by decide +kernel) (by decide +kernel)⟩
theorem zw_J0_charAt_5068e : zCW yJ0_charAt_5068e cJ0_charAt_5068e 2 (some .char) 1 := ⟨lw_in 483 (by decide +kernel) (by decide +kernel), lw_in 11 (by decide +kernel) (by decide +kernel), by decide, by decide +kernel, by decide +kernel, by decide +kernel⟩
theorem zv_J0_charAt_5068e : zCV yJ0_charAt_5068e := ⟨lw_in 481 (by decide +kernel) (by decide +kernel), lw_in 482 (by decide +kernel) (by decide +kernel)⟩
theorem zw_J0_isLatin1_aae02 : zCW yJ0_isLatin1_aae02 cJ0_isLatin1_aae02 1 (some .boolean) 0 := ⟨lw_in 487 (by decide +kernel) (by decide +kernel), lw_in 11 (by decide +kernel) (by decide +kernel), by decide, by decide +kernel, by decide +kernel, by decide +kernel⟩
theorem zv_J0_isLatin1_aae02 : zCV yJ0_isLatin1_aae02 := ⟨lw_in 485 (by decide +kernel) (by decide +kernel), lw_in 486 (by decide +kernel) (by decide +kernel)⟩
theorem zw_J1_charAt_3b067 : zCW yJ1_charAt_3b067 cJ1_charAt_3b067 2 (some .char) 2 := ⟨lw_in 490 (by decide +kernel) (by decide +kernel), lw_in 12 (by decide +kernel) (by decide +kernel), by decide, by decide +kernel, by decide +kernel, by decide +kernel⟩
theorem zs_J1_charAt_3b067 : Cond.static yJ1_charAt_3b067 ∈ lw_g := lw_in 489 (by decide +kernel) (by decide +kernel)
theorem zw_J0_checkIndex_df160 : zCW yJ0_checkIndex_df160 cJ0_checkIndex_df160 2 none 2 := ⟨lw_in 493 (by decide +kernel) (by decide +kernel), lw_in 11 (by decide +kernel) (by decide +kernel), by decide, by decide +kernel, by decide +kernel, by decide +kernel⟩
theorem zs_J0_checkIndex_df160 : Cond.static yJ0_checkIndex_df160 ∈ lw_g := lw_in 492 (by decide +kernel) (by decide +kernel)
theorem zw_J3_checkIndex_8e157 : zCW yJ3_checkIndex_8e157 cJ3_checkIndex_8e157 3 (some .int) 3 := ⟨lw_in 498 (by decide +kernel) (by decide +kernel), lw_in 13 (by decide +kernel) (by decide +kernel), by decide, by decide +kernel, by decide +kernel, by decide +kernel⟩
theorem zs_J3_checkIndex_8e157 : Cond.static yJ3_checkIndex_8e157 ∈ lw_g := lw_in 497 (by decide +kernel) (by decide +kernel)
theorem zw_J2_charAt_3b067 : zCW yJ2_charAt_3b067 cJ2_charAt_3b067 2 (some .char) 2 := ⟨lw_in 501 (by decide +kernel) (by decide +kernel), lw_in 14 (by decide +kernel) (by decide +kernel), by decide, by decide +kernel, by decide +kernel, by decide +kernel⟩
theorem zs_J2_charAt_3b067 : Cond.static yJ2_charAt_3b067 ∈ lw_g := lw_in 500 (by decide +kernel) (by decide +kernel)
theorem zw_J2_checkIndex_2214a : zCW yJ2_checkIndex_2214a cJ2_checkIndex_2214a 2 none 2 := ⟨lw_in 504 (by decide +kernel) (by decide +kernel), lw_in 14 (by decide +kernel) (by decide +kernel), by decide, by decide +kernel, by decide +kernel, by decide +kernel⟩
theorem zs_J2_checkIndex_2214a : Cond.static yJ2_checkIndex_2214a ∈ lw_g := lw_in 503 (by decide +kernel) (by decide +kernel)
theorem zw_J2_length_9d52b : zCW yJ2_length_9d52b cJ2_length_9d52b 1 (some .int) 1 := ⟨lw_in 507 (by decide +kernel) (by decide +kernel), lw_in 14 (by decide +kernel) (by decide +kernel), by decide, by decide +kernel, by decide +kernel, by decide +kernel⟩
theorem zs_J2_length_9d52b : Cond.static yJ2_length_9d52b ∈ lw_g := lw_in 506 (by decide +kernel) (by decide +kernel)
theorem zw_J2_getChar_3b067 : zCW yJ2_getChar_3b067 cJ2_getChar_3b067 2 (some .char) 2 := ⟨lw_in 511 (by decide +kernel) (by decide +kernel), lw_in 14 (by decide +kernel) (by decide +kernel), by decide, by decide +kernel, by decide +kernel, by decide +kernel⟩
theorem zs_J2_getChar_3b067 : Cond.static yJ2_getChar_3b067 ∈ lw_g := lw_in 510 (by decide +kernel) (by decide +kernel)
theorem zw_X3_readPerson : zCW yX3_readPerson cX3_readPerson 3 (some .boolean) 1 := ⟨lw_in 527 (by decide +kernel) (by decide +kernel), lw_in 4 (by decide +kernel) (by decide +kernel), by decide, by decide +kernel, by decide +kernel, by decide +kernel⟩
theorem zv_X3_readPerson : zCV yX3_readPerson := ⟨lw_in 526 (by decide +kernel) (by decide +kernel), lw_inS 15 (by decide +kernel) (by decide +kernel)⟩
theorem zw_X3_isNumber : zCW yX3_isNumber cX3_isNumber 2 (some .boolean) 1 := ⟨lw_in 534 (by decide +kernel) (by decide +kernel), lw_in 4 (by decide +kernel) (by decide +kernel), by decide, by decide +kernel, by decide +kernel, by decide +kernel⟩
theorem zv_X3_isNumber : zCV yX3_isNumber := ⟨lw_in 533 (by decide +kernel) (by decide +kernel), lw_inS 16 (by decide +kernel) (by decide +kernel)⟩
theorem zw_X3_readLying : zCW yX3_readLying cX3_readLying 3 (some .boolean) 1 := ⟨lw_in 540 (by decide +kernel) (by decide +kernel), lw_in 4 (by decide +kernel) (by decide +kernel), by decide, by decide +kernel, by decide +kernel, by decide +kernel⟩
theorem zv_X3_readLying : zCV yX3_readLying := ⟨lw_in 539 (by decide +kernel) (by decide +kernel), lw_inS 17 (by decide +kernel) (by decide +kernel)⟩
theorem zw_X3_readBribe : zCW yX3_readBribe cX3_readBribe 1 (some .boolean) 0 := ⟨lw_in 547 (by decide +kernel) (by decide +kernel), lw_in 4 (by decide +kernel) (by decide +kernel), by decide, by decide +kernel, by decide +kernel, by decide +kernel⟩
theorem zv_X3_readBribe : zCV yX3_readBribe := ⟨lw_in 546 (by decide +kernel) (by decide +kernel), lw_inS 18 (by decide +kernel) (by decide +kernel)⟩
theorem zw_X3_readAway : zCW yX3_readAway cX3_readAway 1 (some .boolean) 0 := ⟨lw_in 552 (by decide +kernel) (by decide +kernel), lw_in 4 (by decide +kernel) (by decide +kernel), by decide, by decide +kernel, by decide +kernel, by decide +kernel⟩
theorem zv_X3_readAway : zCV yX3_readAway := ⟨lw_in 551 (by decide +kernel) (by decide +kernel), lw_inS 19 (by decide +kernel) (by decide +kernel)⟩
theorem zw_X5_sheet : zCW yX5_sheet cX5_sheet 4 (some .int) 3 := ⟨lw_in 556 (by decide +kernel) (by decide +kernel), lw_in 1 (by decide +kernel) (by decide +kernel), by decide, by decide +kernel, by decide +kernel, by decide +kernel⟩
theorem zv_X5_sheet : zCV yX5_sheet := ⟨lw_in 554 (by decide +kernel) (by decide +kernel), lw_in 555 (by decide +kernel) (by decide +kernel)⟩
theorem zw_X5_isSheet : zCW yX5_isSheet cX5_isSheet 1 (some .boolean) 1 := ⟨lw_in 559 (by decide +kernel) (by decide +kernel), lw_in 1 (by decide +kernel) (by decide +kernel), by decide, by decide +kernel, by decide +kernel, by decide +kernel⟩
theorem zs_X5_isSheet : Cond.static yX5_isSheet ∈ lw_g := lw_in 558 (by decide +kernel) (by decide +kernel)
theorem zw_X1_areBits : zCW yX1_areBits cX1_areBits 1 (some .boolean) 1 := ⟨lw_in 562 (by decide +kernel) (by decide +kernel), lw_in 5 (by decide +kernel) (by decide +kernel), by decide, by decide +kernel, by decide +kernel, by decide +kernel⟩
theorem zs_X1_areBits : Cond.static yX1_areBits ∈ lw_g := lw_in 561 (by decide +kernel) (by decide +kernel)
theorem zw_X1_make : zCW yX1_make cX1_make 5 none 3 := ⟨lw_in 566 (by decide +kernel) (by decide +kernel), lw_in 5 (by decide +kernel) (by decide +kernel), by decide, by decide +kernel, by decide +kernel, by decide +kernel⟩
theorem zv_X1_make : zCV yX1_make := ⟨lw_in 564 (by decide +kernel) (by decide +kernel), lw_in 565 (by decide +kernel) (by decide +kernel)⟩
theorem zw_X5_write : zCW yX5_write cX5_write 7 (some .long) 3 := ⟨lw_in 570 (by decide +kernel) (by decide +kernel), lw_in 1 (by decide +kernel) (by decide +kernel), by decide, by decide +kernel, by decide +kernel, by decide +kernel⟩
theorem zv_X5_write : zCV yX5_write := ⟨lw_in 568 (by decide +kernel) (by decide +kernel), lw_in 569 (by decide +kernel) (by decide +kernel)⟩
theorem zw_X1_isMissing : zCW yX1_isMissing cX1_isMissing 2 (some .boolean) 1 := ⟨lw_in 574 (by decide +kernel) (by decide +kernel), lw_in 5 (by decide +kernel) (by decide +kernel), by decide, by decide +kernel, by decide +kernel, by decide +kernel⟩
theorem zv_X1_isMissing : zCV yX1_isMissing := ⟨lw_in 572 (by decide +kernel) (by decide +kernel), lw_in 573 (by decide +kernel) (by decide +kernel)⟩
theorem zw_X1_put : zCW yX1_put cX1_put 5 none 3 := ⟨lw_in 578 (by decide +kernel) (by decide +kernel), lw_in 5 (by decide +kernel) (by decide +kernel), by decide, by decide +kernel, by decide +kernel, by decide +kernel⟩
theorem zv_X1_put : zCV yX1_put := ⟨lw_in 576 (by decide +kernel) (by decide +kernel), lw_in 577 (by decide +kernel) (by decide +kernel)⟩
theorem zw_X5_copy : zCW yX5_copy cX5_copy 6 (some .int) 5 := ⟨lw_in 582 (by decide +kernel) (by decide +kernel), lw_in 1 (by decide +kernel) (by decide +kernel), by decide, by decide +kernel, by decide +kernel, by decide +kernel⟩
theorem zv_X5_copy : zCV yX5_copy := ⟨lw_in 580 (by decide +kernel) (by decide +kernel), lw_in 581 (by decide +kernel) (by decide +kernel)⟩
theorem zw_X1_hasPart : zCW yX1_hasPart cX1_hasPart 4 (some .boolean) 3 := ⟨lw_in 586 (by decide +kernel) (by decide +kernel), lw_in 5 (by decide +kernel) (by decide +kernel), by decide, by decide +kernel, by decide +kernel, by decide +kernel⟩
theorem zv_X1_hasPart : zCV yX1_hasPart := ⟨lw_in 584 (by decide +kernel) (by decide +kernel), lw_in 585 (by decide +kernel) (by decide +kernel)⟩
theorem zw_X5_lays : zCW yX5_lays cX5_lays 7 (some .int) 1 := ⟨lw_in 591 (by decide +kernel) (by decide +kernel), lw_in 1 (by decide +kernel) (by decide +kernel), by decide, by decide +kernel, by decide +kernel, by decide +kernel⟩
theorem zv_X5_lays : zCV yX5_lays := ⟨lw_in 589 (by decide +kernel) (by decide +kernel), lw_in 590 (by decide +kernel) (by decide +kernel)⟩
theorem zw_X5_book : zCW yX5_book cX5_book 4 (some .int) 2 := ⟨lw_in 597 (by decide +kernel) (by decide +kernel), lw_in 1 (by decide +kernel) (by decide +kernel), by decide, by decide +kernel, by decide +kernel, by decide +kernel⟩
theorem zv_X5_book : zCV yX5_book := ⟨lw_in 595 (by decide +kernel) (by decide +kernel), lw_in 596 (by decide +kernel) (by decide +kernel)⟩
theorem zw_X5_read : zCW yX5_read cX5_read 7 (some .int) 3 := ⟨lw_in 601 (by decide +kernel) (by decide +kernel), lw_in 1 (by decide +kernel) (by decide +kernel), by decide, by decide +kernel, by decide +kernel, by decide +kernel⟩
theorem zv_X5_read : zCV yX5_read := ⟨lw_in 599 (by decide +kernel) (by decide +kernel), lw_in 600 (by decide +kernel) (by decide +kernel)⟩
theorem zw_X5_trialGoesAsBooked : zCW yX5_trialGoesAsBooked cX5_trialGoesAsBooked 4 (some .boolean) 2 := ⟨lw_in 605 (by decide +kernel) (by decide +kernel), lw_in 1 (by decide +kernel) (by decide +kernel), by decide, by decide +kernel, by decide +kernel, by decide +kernel⟩
theorem zv_X5_trialGoesAsBooked : zCV yX5_trialGoesAsBooked := ⟨lw_in 604 (by decide +kernel) (by decide +kernel), lw_inS 20 (by decide +kernel) (by decide +kernel)⟩
theorem zw_X5_image : zCW yX5_image cX5_image 1 (some .int) 0 := ⟨lw_in 609 (by decide +kernel) (by decide +kernel), lw_in 1 (by decide +kernel) (by decide +kernel), by decide, by decide +kernel, by decide +kernel, by decide +kernel⟩
theorem zv_X5_image : zCV yX5_image := ⟨lw_in 607 (by decide +kernel) (by decide +kernel), lw_in 608 (by decide +kernel) (by decide +kernel)⟩
theorem zw_X5_undo : zCW yX5_undo cX5_undo 1 (some .int) 0 := ⟨lw_in 613 (by decide +kernel) (by decide +kernel), lw_in 1 (by decide +kernel) (by decide +kernel), by decide, by decide +kernel, by decide +kernel, by decide +kernel⟩
theorem zv_X5_undo : zCV yX5_undo := ⟨lw_in 611 (by decide +kernel) (by decide +kernel), lw_in 612 (by decide +kernel) (by decide +kernel)⟩
theorem zw_X5_tear : zCW yX5_tear cX5_tear 2 (some .int) 0 := ⟨lw_in 617 (by decide +kernel) (by decide +kernel), lw_in 1 (by decide +kernel) (by decide +kernel), by decide, by decide +kernel, by decide +kernel, by decide +kernel⟩
theorem zv_X5_tear : zCV yX5_tear := ⟨lw_in 615 (by decide +kernel) (by decide +kernel), lw_in 616 (by decide +kernel) (by decide +kernel)⟩
theorem zw_X5_count : zCW yX5_count cX5_count 2 (some .int) 1 := ⟨lw_in 621 (by decide +kernel) (by decide +kernel), lw_in 1 (by decide +kernel) (by decide +kernel), by decide, by decide +kernel, by decide +kernel, by decide +kernel⟩
theorem zv_X5_count : zCV yX5_count := ⟨lw_in 619 (by decide +kernel) (by decide +kernel), lw_in 620 (by decide +kernel) (by decide +kernel)⟩
theorem zw_X5_status : zCW yX5_status cX5_status 4 (some .int) 1 := ⟨lw_in 625 (by decide +kernel) (by decide +kernel), lw_in 1 (by decide +kernel) (by decide +kernel), by decide, by decide +kernel, by decide +kernel, by decide +kernel⟩
theorem zv_X5_status : zCV yX5_status := ⟨lw_in 623 (by decide +kernel) (by decide +kernel), lw_in 624 (by decide +kernel) (by decide +kernel)⟩
theorem zw_X6_init : zCW yX6_init cX6_init 1 none 0 := ⟨lw_in 630 (by decide +kernel) (by decide +kernel), lw_in 6 (by decide +kernel) (by decide +kernel), by decide, by decide +kernel, by decide +kernel, by decide +kernel⟩
theorem zw_X6_lies : zCW yX6_lies cX6_lies 5 (some .int) 3 := ⟨lw_in 684 (by decide +kernel) (by decide +kernel), lw_in 6 (by decide +kernel) (by decide +kernel), by decide, by decide +kernel, by decide +kernel, by decide +kernel⟩
theorem zv_X6_lies : zCV yX6_lies := ⟨lw_in 682 (by decide +kernel) (by decide +kernel), lw_in 683 (by decide +kernel) (by decide +kernel)⟩
theorem zw_X6_in : zCW yX6_in cX6_in 6 (some .boolean) 3 := ⟨lw_in 687 (by decide +kernel) (by decide +kernel), lw_in 6 (by decide +kernel) (by decide +kernel), by decide, by decide +kernel, by decide +kernel, by decide +kernel⟩
theorem zs_X6_in : Cond.static yX6_in ∈ lw_g := lw_in 686 (by decide +kernel) (by decide +kernel)
theorem zw_X6_isQuestion : zCW yX6_isQuestion cX6_isQuestion 1 (some .boolean) 1 := ⟨lw_in 691 (by decide +kernel) (by decide +kernel), lw_in 6 (by decide +kernel) (by decide +kernel), by decide, by decide +kernel, by decide +kernel, by decide +kernel⟩
theorem zs_X6_isQuestion : Cond.static yX6_isQuestion ∈ lw_g := lw_in 690 (by decide +kernel) (by decide +kernel)
theorem zw_X6_basinSpot : zCW yX6_basinSpot cX6_basinSpot 2 (some .int) 2 := ⟨lw_in 695 (by decide +kernel) (by decide +kernel), lw_in 6 (by decide +kernel) (by decide +kernel), by decide, by decide +kernel, by decide +kernel, by decide +kernel⟩
theorem zs_X6_basinSpot : Cond.static yX6_basinSpot ∈ lw_g := lw_in 694 (by decide +kernel) (by decide +kernel)
theorem zw_X6_becomes : zCW yX6_becomes cX6_becomes 4 (some .int) 2 := ⟨lw_in 699 (by decide +kernel) (by decide +kernel), lw_in 6 (by decide +kernel) (by decide +kernel), by decide, by decide +kernel, by decide +kernel, by decide +kernel⟩
theorem zv_X6_becomes : zCV yX6_becomes := ⟨lw_in 698 (by decide +kernel) (by decide +kernel), lw_inS 21 (by decide +kernel) (by decide +kernel)⟩
theorem zw_X6_finds : zCW yX6_finds cX6_finds 2 (some .int) 1 := ⟨lw_in 704 (by decide +kernel) (by decide +kernel), lw_in 6 (by decide +kernel) (by decide +kernel), by decide, by decide +kernel, by decide +kernel, by decide +kernel⟩
theorem zv_X6_finds : zCV yX6_finds := ⟨lw_in 703 (by decide +kernel) (by decide +kernel), lw_inS 22 (by decide +kernel) (by decide +kernel)⟩
theorem zw_X6_basin : zCW yX6_basin cX6_basin 3 (some .int) 2 := ⟨lw_in 708 (by decide +kernel) (by decide +kernel), lw_in 6 (by decide +kernel) (by decide +kernel), by decide, by decide +kernel, by decide +kernel, by decide +kernel⟩
theorem zv_X6_basin : zCV yX6_basin := ⟨lw_in 706 (by decide +kernel) (by decide +kernel), lw_in 707 (by decide +kernel) (by decide +kernel)⟩
theorem zw_X6_heldIn : zCW yX6_heldIn cX6_heldIn 2 (some .int) 1 := ⟨lw_in 713 (by decide +kernel) (by decide +kernel), lw_in 6 (by decide +kernel) (by decide +kernel), by decide, by decide +kernel, by decide +kernel, by decide +kernel⟩
theorem zv_X6_heldIn : zCV yX6_heldIn := ⟨lw_in 712 (by decide +kernel) (by decide +kernel), lw_inS 23 (by decide +kernel) (by decide +kernel)⟩
theorem zw_X6_bribe : zCW yX6_bribe cX6_bribe 2 (some .int) 1 := ⟨lw_in 717 (by decide +kernel) (by decide +kernel), lw_in 6 (by decide +kernel) (by decide +kernel), by decide, by decide +kernel, by decide +kernel, by decide +kernel⟩
theorem zv_X6_bribe : zCV yX6_bribe := ⟨lw_in 715 (by decide +kernel) (by decide +kernel), lw_in 716 (by decide +kernel) (by decide +kernel)⟩
theorem zw_X6_held : zCW yX6_held cX6_held 2 (some .int) 1 := ⟨lw_in 721 (by decide +kernel) (by decide +kernel), lw_in 6 (by decide +kernel) (by decide +kernel), by decide, by decide +kernel, by decide +kernel, by decide +kernel⟩
theorem zv_X6_held : zCV yX6_held := ⟨lw_in 719 (by decide +kernel) (by decide +kernel), lw_in 720 (by decide +kernel) (by decide +kernel)⟩
theorem zw_X6_now : zCW yX6_now cX6_now 2 (some .int) 1 := ⟨lw_in 726 (by decide +kernel) (by decide +kernel), lw_in 6 (by decide +kernel) (by decide +kernel), by decide, by decide +kernel, by decide +kernel, by decide +kernel⟩
theorem zv_X6_now : zCV yX6_now := ⟨lw_in 724 (by decide +kernel) (by decide +kernel), lw_in 725 (by decide +kernel) (by decide +kernel)⟩
theorem zw_X6_ofDay : zCW yX6_ofDay cX6_ofDay 1 (some .int) 0 := ⟨lw_in 730 (by decide +kernel) (by decide +kernel), lw_in 6 (by decide +kernel) (by decide +kernel), by decide, by decide +kernel, by decide +kernel, by decide +kernel⟩
theorem zv_X6_ofDay : zCV yX6_ofDay := ⟨lw_in 729 (by decide +kernel) (by decide +kernel), lw_inS 24 (by decide +kernel) (by decide +kernel)⟩
theorem zw_X6_leftOnes : zCW yX6_leftOnes cX6_leftOnes 3 (some .int) 0 := ⟨lw_in 734 (by decide +kernel) (by decide +kernel), lw_in 6 (by decide +kernel) (by decide +kernel), by decide, by decide +kernel, by decide +kernel, by decide +kernel⟩
theorem zv_X6_leftOnes : zCV yX6_leftOnes := ⟨lw_in 733 (by decide +kernel) (by decide +kernel), lw_inS 25 (by decide +kernel) (by decide +kernel)⟩
theorem zw_X6_its : zCW yX6_its cX6_its 3 (some .int) 2 := ⟨lw_in 738 (by decide +kernel) (by decide +kernel), lw_in 6 (by decide +kernel) (by decide +kernel), by decide, by decide +kernel, by decide +kernel, by decide +kernel⟩
theorem zv_X6_its : zCV yX6_its := ⟨lw_in 737 (by decide +kernel) (by decide +kernel), lw_inS 26 (by decide +kernel) (by decide +kernel)⟩
theorem zw_X6_spot : zCW yX6_spot cX6_spot 2 (some .int) 2 := ⟨lw_in 741 (by decide +kernel) (by decide +kernel), lw_in 6 (by decide +kernel) (by decide +kernel), by decide, by decide +kernel, by decide +kernel, by decide +kernel⟩
theorem zs_X6_spot : Cond.static yX6_spot ∈ lw_g := lw_in 740 (by decide +kernel) (by decide +kernel)
theorem zw_X6_sideOf : zCW yX6_sideOf cX6_sideOf 4 (some .int) 2 := ⟨lw_in 745 (by decide +kernel) (by decide +kernel), lw_in 6 (by decide +kernel) (by decide +kernel), by decide, by decide +kernel, by decide +kernel, by decide +kernel⟩
theorem zv_X6_sideOf : zCV yX6_sideOf := ⟨lw_in 744 (by decide +kernel) (by decide +kernel), lw_inS 27 (by decide +kernel) (by decide +kernel)⟩
theorem zw_X6_ladySide : zCW yX6_ladySide cX6_ladySide 5 (some .int) 2 := ⟨lw_in 749 (by decide +kernel) (by decide +kernel), lw_in 6 (by decide +kernel) (by decide +kernel), by decide, by decide +kernel, by decide +kernel, by decide +kernel⟩
theorem zv_X6_ladySide : zCV yX6_ladySide := ⟨lw_in 748 (by decide +kernel) (by decide +kernel), lw_inS 28 (by decide +kernel) (by decide +kernel)⟩
theorem zw_X6_pence : zCW yX6_pence cX6_pence 3 (some .int) 0 := ⟨lw_in 753 (by decide +kernel) (by decide +kernel), lw_in 6 (by decide +kernel) (by decide +kernel), by decide, by decide +kernel, by decide +kernel, by decide +kernel⟩
theorem zv_X6_pence : zCV yX6_pence := ⟨lw_in 752 (by decide +kernel) (by decide +kernel), lw_inS 29 (by decide +kernel) (by decide +kernel)⟩
theorem zw_X6_together : zCW yX6_together cX6_together 4 (some .int) 1 := ⟨lw_in 757 (by decide +kernel) (by decide +kernel), lw_in 6 (by decide +kernel) (by decide +kernel), by decide, by decide +kernel, by decide +kernel, by decide +kernel⟩
theorem zv_X6_together : zCV yX6_together := ⟨lw_in 756 (by decide +kernel) (by decide +kernel), lw_inS 30 (by decide +kernel) (by decide +kernel)⟩
theorem zw_X6_person : zCW yX6_person cX6_person 2 (some .int) 1 := ⟨lw_in 761 (by decide +kernel) (by decide +kernel), lw_in 6 (by decide +kernel) (by decide +kernel), by decide, by decide +kernel, by decide +kernel, by decide +kernel⟩
theorem zv_X6_person : zCV yX6_person := ⟨lw_in 759 (by decide +kernel) (by decide +kernel), lw_in 760 (by decide +kernel) (by decide +kernel)⟩
theorem zw_X6_isKind : zCW yX6_isKind cX6_isKind 1 (some .boolean) 1 := ⟨lw_in 764 (by decide +kernel) (by decide +kernel), lw_in 6 (by decide +kernel) (by decide +kernel), by decide, by decide +kernel, by decide +kernel, by decide +kernel⟩
theorem zs_X6_isKind : Cond.static yX6_isKind ∈ lw_g := lw_in 763 (by decide +kernel) (by decide +kernel)
theorem zw_X6_adds : zCW yX6_adds cX6_adds 3 (some .int) 1 := ⟨lw_in 769 (by decide +kernel) (by decide +kernel), lw_in 6 (by decide +kernel) (by decide +kernel), by decide, by decide +kernel, by decide +kernel, by decide +kernel⟩
theorem zv_X6_adds : zCV yX6_adds := ⟨lw_in 768 (by decide +kernel) (by decide +kernel), lw_inS 31 (by decide +kernel) (by decide +kernel)⟩
theorem zw_X6_of : zCW yX6_of cX6_of 3 (some .int) 2 := ⟨lw_in 773 (by decide +kernel) (by decide +kernel), lw_in 6 (by decide +kernel) (by decide +kernel), by decide, by decide +kernel, by decide +kernel, by decide +kernel⟩
theorem zv_X6_of : zCV yX6_of := ⟨lw_in 771 (by decide +kernel) (by decide +kernel), lw_in 772 (by decide +kernel) (by decide +kernel)⟩
theorem zw_X6_isPerson : zCW yX6_isPerson cX6_isPerson 2 (some .boolean) 1 := ⟨lw_in 777 (by decide +kernel) (by decide +kernel), lw_in 6 (by decide +kernel) (by decide +kernel), by decide, by decide +kernel, by decide +kernel, by decide +kernel⟩
theorem zv_X6_isPerson : zCV yX6_isPerson := ⟨lw_in 776 (by decide +kernel) (by decide +kernel), lw_inS 32 (by decide +kernel) (by decide +kernel)⟩
theorem zw_X6_throwsOf : zCW yX6_throwsOf cX6_throwsOf 4 (some .int) 1 := ⟨lw_in 781 (by decide +kernel) (by decide +kernel), lw_in 6 (by decide +kernel) (by decide +kernel), by decide, by decide +kernel, by decide +kernel, by decide +kernel⟩
theorem zv_X6_throwsOf : zCV yX6_throwsOf := ⟨lw_in 780 (by decide +kernel) (by decide +kernel), lw_inS 33 (by decide +kernel) (by decide +kernel)⟩
theorem zw_X6_heldTo : zCW yX6_heldTo cX6_heldTo 2 (some .int) 2 := ⟨lw_in 784 (by decide +kernel) (by decide +kernel), lw_in 6 (by decide +kernel) (by decide +kernel), by decide, by decide +kernel, by decide +kernel, by decide +kernel⟩
theorem zs_X6_heldTo : Cond.static yX6_heldTo ∈ lw_g := lw_in 783 (by decide +kernel) (by decide +kernel)
theorem zw_X6_earnsOf : zCW yX6_earnsOf cX6_earnsOf 2 (some .int) 1 := ⟨lw_in 788 (by decide +kernel) (by decide +kernel), lw_in 6 (by decide +kernel) (by decide +kernel), by decide, by decide +kernel, by decide +kernel, by decide +kernel⟩
theorem zv_X6_earnsOf : zCV yX6_earnsOf := ⟨lw_in 787 (by decide +kernel) (by decide +kernel), lw_inS 34 (by decide +kernel) (by decide +kernel)⟩
theorem zw_X6_acts : zCW yX6_acts cX6_acts 4 (some .int) 3 := ⟨lw_in 792 (by decide +kernel) (by decide +kernel), lw_in 6 (by decide +kernel) (by decide +kernel), by decide, by decide +kernel, by decide +kernel, by decide +kernel⟩
theorem zv_X6_acts : zCV yX6_acts := ⟨lw_in 790 (by decide +kernel) (by decide +kernel), lw_in 791 (by decide +kernel) (by decide +kernel)⟩
theorem zw_X6_divesOf : zCW yX6_divesOf cX6_divesOf 6 (some .int) 2 := ⟨lw_in 796 (by decide +kernel) (by decide +kernel), lw_in 6 (by decide +kernel) (by decide +kernel), by decide, by decide +kernel, by decide +kernel, by decide +kernel⟩
theorem zv_X6_divesOf : zCV yX6_divesOf := ⟨lw_in 795 (by decide +kernel) (by decide +kernel), lw_inS 35 (by decide +kernel) (by decide +kernel)⟩
theorem zw_X6_fuller : zCW yX6_fuller cX6_fuller 2 (some .int) 1 := ⟨lw_in 800 (by decide +kernel) (by decide +kernel), lw_in 6 (by decide +kernel) (by decide +kernel), by decide, by decide +kernel, by decide +kernel, by decide +kernel⟩
theorem zv_X6_fuller : zCV yX6_fuller := ⟨lw_in 799 (by decide +kernel) (by decide +kernel), lw_inS 36 (by decide +kernel) (by decide +kernel)⟩
theorem zw_X6_set : zCW yX6_set cX6_set 5 (some .int) 3 := ⟨lw_in 804 (by decide +kernel) (by decide +kernel), lw_in 6 (by decide +kernel) (by decide +kernel), by decide, by decide +kernel, by decide +kernel, by decide +kernel⟩
theorem zv_X6_set : zCV yX6_set := ⟨lw_in 802 (by decide +kernel) (by decide +kernel), lw_in 803 (by decide +kernel) (by decide +kernel)⟩
theorem zw_X6_turn : zCW yX6_turn cX6_turn 3 (some .int) 2 := ⟨lw_in 809 (by decide +kernel) (by decide +kernel), lw_in 6 (by decide +kernel) (by decide +kernel), by decide, by decide +kernel, by decide +kernel, by decide +kernel⟩
theorem zv_X6_turn : zCV yX6_turn := ⟨lw_in 807 (by decide +kernel) (by decide +kernel), lw_in 808 (by decide +kernel) (by decide +kernel)⟩
theorem zw_X6_as : zCW yX6_as cX6_as 3 (some .int) 2 := ⟨lw_in 813 (by decide +kernel) (by decide +kernel), lw_in 6 (by decide +kernel) (by decide +kernel), by decide, by decide +kernel, by decide +kernel, by decide +kernel⟩
theorem zv_X6_as : zCV yX6_as := ⟨lw_in 811 (by decide +kernel) (by decide +kernel), lw_in 812 (by decide +kernel) (by decide +kernel)⟩
theorem zw_X6_isUnder : zCW yX6_isUnder cX6_isUnder 2 (some .boolean) 2 := ⟨lw_in 816 (by decide +kernel) (by decide +kernel), lw_in 6 (by decide +kernel) (by decide +kernel), by decide, by decide +kernel, by decide +kernel, by decide +kernel⟩
theorem zs_X6_isUnder : Cond.static yX6_isUnder ∈ lw_g := lw_in 815 (by decide +kernel) (by decide +kernel)
theorem zw_X6_days : zCW yX6_days cX6_days 2 (some .int) 1 := ⟨lw_in 821 (by decide +kernel) (by decide +kernel), lw_in 6 (by decide +kernel) (by decide +kernel), by decide, by decide +kernel, by decide +kernel, by decide +kernel⟩
theorem zv_X6_days : zCV yX6_days := ⟨lw_in 819 (by decide +kernel) (by decide +kernel), lw_in 820 (by decide +kernel) (by decide +kernel)⟩
theorem zw_X6_daysGo : zCW yX6_daysGo cX6_daysGo 3 none 1 := ⟨lw_in 828 (by decide +kernel) (by decide +kernel), lw_in 6 (by decide +kernel) (by decide +kernel), by decide, by decide +kernel, by decide +kernel, by decide +kernel⟩
theorem zv_X6_daysGo : zCV yX6_daysGo := ⟨lw_in 827 (by decide +kernel) (by decide +kernel), lw_inS 37 (by decide +kernel) (by decide +kernel)⟩
theorem zw_X6_day : zCW yX6_day cX6_day 3 none 0 := ⟨lw_in 832 (by decide +kernel) (by decide +kernel), lw_in 6 (by decide +kernel) (by decide +kernel), by decide, by decide +kernel, by decide +kernel, by decide +kernel⟩
theorem zv_X6_day : zCV yX6_day := ⟨lw_in 831 (by decide +kernel) (by decide +kernel), lw_inS 38 (by decide +kernel) (by decide +kernel)⟩
theorem zw_X6_comes : zCW yX6_comes cX6_comes 6 none 2 := ⟨lw_in 836 (by decide +kernel) (by decide +kernel), lw_in 6 (by decide +kernel) (by decide +kernel), by decide, by decide +kernel, by decide +kernel, by decide +kernel⟩
theorem zv_X6_comes : zCV yX6_comes := ⟨lw_in 835 (by decide +kernel) (by decide +kernel), lw_inS 39 (by decide +kernel) (by decide +kernel)⟩
theorem zw_X6_net : zCW yX6_net cX6_net 5 none 1 := ⟨lw_in 840 (by decide +kernel) (by decide +kernel), lw_in 6 (by decide +kernel) (by decide +kernel), by decide, by decide +kernel, by decide +kernel, by decide +kernel⟩
theorem zv_X6_net : zCV yX6_net := ⟨lw_in 839 (by decide +kernel) (by decide +kernel), lw_inS 40 (by decide +kernel) (by decide +kernel)⟩
theorem zw_X6_on : zCW yX6_on cX6_on 3 (some .int) 2 := ⟨lw_in 844 (by decide +kernel) (by decide +kernel), lw_in 6 (by decide +kernel) (by decide +kernel), by decide, by decide +kernel, by decide +kernel, by decide +kernel⟩
theorem zv_X6_on : zCV yX6_on := ⟨lw_in 842 (by decide +kernel) (by decide +kernel), lw_in 843 (by decide +kernel) (by decide +kernel)⟩
theorem zw_X6_isAhead : zCW yX6_isAhead cX6_isAhead 1 (some .boolean) 1 := ⟨lw_in 847 (by decide +kernel) (by decide +kernel), lw_in 6 (by decide +kernel) (by decide +kernel), by decide, by decide +kernel, by decide +kernel, by decide +kernel⟩
theorem zs_X6_isAhead : Cond.static yX6_isAhead ∈ lw_g := lw_in 846 (by decide +kernel) (by decide +kernel)
theorem zw_X6_behind : zCW yX6_behind cX6_behind 3 (some .int) 2 := ⟨lw_in 852 (by decide +kernel) (by decide +kernel), lw_in 6 (by decide +kernel) (by decide +kernel), by decide, by decide +kernel, by decide +kernel, by decide +kernel⟩
theorem zv_X6_behind : zCV yX6_behind := ⟨lw_in 851 (by decide +kernel) (by decide +kernel), lw_inS 41 (by decide +kernel) (by decide +kernel)⟩
theorem zw_X6_laysAside : zCW yX6_laysAside cX6_laysAside 2 none 0 := ⟨lw_in 856 (by decide +kernel) (by decide +kernel), lw_in 6 (by decide +kernel) (by decide +kernel), by decide, by decide +kernel, by decide +kernel, by decide +kernel⟩
theorem zv_X6_laysAside : zCV yX6_laysAside := ⟨lw_in 855 (by decide +kernel) (by decide +kernel), lw_inS 42 (by decide +kernel) (by decide +kernel)⟩
theorem zw_X6_takesBack : zCW yX6_takesBack cX6_takesBack 3 (some .int) 1 := ⟨lw_in 860 (by decide +kernel) (by decide +kernel), lw_in 6 (by decide +kernel) (by decide +kernel), by decide, by decide +kernel, by decide +kernel, by decide +kernel⟩
theorem zv_X6_takesBack : zCV yX6_takesBack := ⟨lw_in 859 (by decide +kernel) (by decide +kernel), lw_inS 43 (by decide +kernel) (by decide +kernel)⟩
theorem zw_X6_then : zCW yX6_then cX6_then 4 (some .int) 3 := ⟨lw_in 864 (by decide +kernel) (by decide +kernel), lw_in 6 (by decide +kernel) (by decide +kernel), by decide, by decide +kernel, by decide +kernel, by decide +kernel⟩
theorem zv_X6_then : zCV yX6_then := ⟨lw_in 862 (by decide +kernel) (by decide +kernel), lw_in 863 (by decide +kernel) (by decide +kernel)⟩
theorem zw_X6_flips : zCW yX6_flips cX6_flips 4 (some .int) 1 := ⟨lw_in 868 (by decide +kernel) (by decide +kernel), lw_in 6 (by decide +kernel) (by decide +kernel), by decide, by decide +kernel, by decide +kernel, by decide +kernel⟩
theorem zv_X6_flips : zCV yX6_flips := ⟨lw_in 866 (by decide +kernel) (by decide +kernel), lw_in 867 (by decide +kernel) (by decide +kernel)⟩
theorem zw_X6_toldAt : zCW yX6_toldAt cX6_toldAt 3 (some .int) 1 := ⟨lw_in 872 (by decide +kernel) (by decide +kernel), lw_in 6 (by decide +kernel) (by decide +kernel), by decide, by decide +kernel, by decide +kernel, by decide +kernel⟩
theorem zv_X6_toldAt : zCV yX6_toldAt := ⟨lw_in 871 (by decide +kernel) (by decide +kernel), lw_inS 44 (by decide +kernel) (by decide +kernel)⟩
theorem zw_X6_rich : zCW yX6_rich cX6_rich 4 (some .int) 2 := ⟨lw_in 877 (by decide +kernel) (by decide +kernel), lw_in 6 (by decide +kernel) (by decide +kernel), by decide, by decide +kernel, by decide +kernel, by decide +kernel⟩
theorem zv_X6_rich : zCV yX6_rich := ⟨lw_in 875 (by decide +kernel) (by decide +kernel), lw_in 876 (by decide +kernel) (by decide +kernel)⟩
theorem zw_X6_kind : zCW yX6_kind cX6_kind 8 (some .int) 2 := ⟨lw_in 881 (by decide +kernel) (by decide +kernel), lw_in 6 (by decide +kernel) (by decide +kernel), by decide, by decide +kernel, by decide +kernel, by decide +kernel⟩
theorem zv_X6_kind : zCV yX6_kind := ⟨lw_in 879 (by decide +kernel) (by decide +kernel), lw_in 880 (by decide +kernel) (by decide +kernel)⟩
theorem zw_X6_isSoon : zCW yX6_isSoon cX6_isSoon 1 (some .boolean) 1 := ⟨lw_in 884 (by decide +kernel) (by decide +kernel), lw_in 6 (by decide +kernel) (by decide +kernel), by decide, by decide +kernel, by decide +kernel, by decide +kernel⟩
theorem zs_X6_isSoon : Cond.static yX6_isSoon ∈ lw_g := lw_in 883 (by decide +kernel) (by decide +kernel)
theorem zw_X6_lean : zCW yX6_lean cX6_lean 8 (some .int) 2 := ⟨lw_in 889 (by decide +kernel) (by decide +kernel), lw_in 6 (by decide +kernel) (by decide +kernel), by decide, by decide +kernel, by decide +kernel, by decide +kernel⟩
theorem zv_X6_lean : zCV yX6_lean := ⟨lw_in 887 (by decide +kernel) (by decide +kernel), lw_in 888 (by decide +kernel) (by decide +kernel)⟩
theorem zw_X6_ones : zCW yX6_ones cX6_ones 3 (some .int) 1 := ⟨lw_in 893 (by decide +kernel) (by decide +kernel), lw_in 6 (by decide +kernel) (by decide +kernel), by decide, by decide +kernel, by decide +kernel, by decide +kernel⟩
theorem zs_X6_ones : Cond.static yX6_ones ∈ lw_g := lw_in 892 (by decide +kernel) (by decide +kernel)
theorem zw_X6_buys : zCW yX6_buys cX6_buys 8 (some .int) 3 := ⟨lw_in 897 (by decide +kernel) (by decide +kernel), lw_in 6 (by decide +kernel) (by decide +kernel), by decide, by decide +kernel, by decide +kernel, by decide +kernel⟩
theorem zv_X6_buys : zCV yX6_buys := ⟨lw_in 895 (by decide +kernel) (by decide +kernel), lw_in 896 (by decide +kernel) (by decide +kernel)⟩
theorem zw_X6_swing : zCW yX6_swing cX6_swing 7 (some .int) 1 := ⟨lw_in 901 (by decide +kernel) (by decide +kernel), lw_in 6 (by decide +kernel) (by decide +kernel), by decide, by decide +kernel, by decide +kernel, by decide +kernel⟩
theorem zv_X6_swing : zCV yX6_swing := ⟨lw_in 899 (by decide +kernel) (by decide +kernel), lw_in 900 (by decide +kernel) (by decide +kernel)⟩
theorem zw_X6_pays : zCW yX6_pays cX6_pays 5 (some .int) 1 := ⟨lw_in 905 (by decide +kernel) (by decide +kernel), lw_in 6 (by decide +kernel) (by decide +kernel), by decide, by decide +kernel, by decide +kernel, by decide +kernel⟩
theorem zv_X6_pays : zCV yX6_pays := ⟨lw_in 903 (by decide +kernel) (by decide +kernel), lw_in 904 (by decide +kernel) (by decide +kernel)⟩
theorem zw_X6_richest : zCW yX6_richest cX6_richest 4 (some .int) 1 := ⟨lw_in 909 (by decide +kernel) (by decide +kernel), lw_in 6 (by decide +kernel) (by decide +kernel), by decide, by decide +kernel, by decide +kernel, by decide +kernel⟩
theorem zv_X6_richest : zCV yX6_richest := ⟨lw_in 907 (by decide +kernel) (by decide +kernel), lw_in 908 (by decide +kernel) (by decide +kernel)⟩
theorem zw_X6_feed : zCW yX6_feed cX6_feed 4 (some .int) 2 := ⟨lw_in 913 (by decide +kernel) (by decide +kernel), lw_in 6 (by decide +kernel) (by decide +kernel), by decide, by decide +kernel, by decide +kernel, by decide +kernel⟩
theorem zv_X6_feed : zCV yX6_feed := ⟨lw_in 911 (by decide +kernel) (by decide +kernel), lw_in 912 (by decide +kernel) (by decide +kernel)⟩
theorem zw_X6_wipe : zCW yX6_wipe cX6_wipe 2 (some .int) 0 := ⟨lw_in 918 (by decide +kernel) (by decide +kernel), lw_in 6 (by decide +kernel) (by decide +kernel), by decide, by decide +kernel, by decide +kernel, by decide +kernel⟩
theorem zv_X6_wipe : zCV yX6_wipe := ⟨lw_in 916 (by decide +kernel) (by decide +kernel), lw_in 917 (by decide +kernel) (by decide +kernel)⟩
theorem zw_X6_town : zCW yX6_town cX6_town 2 (some .int) 0 := ⟨lw_in 922 (by decide +kernel) (by decide +kernel), lw_in 6 (by decide +kernel) (by decide +kernel), by decide, by decide +kernel, by decide +kernel, by decide +kernel⟩
theorem zv_X6_town : zCV yX6_town := ⟨lw_in 920 (by decide +kernel) (by decide +kernel), lw_in 921 (by decide +kernel) (by decide +kernel)⟩
theorem zw_X6_saves : zCW yX6_saves cX6_saves 2 none 0 := ⟨lw_in 926 (by decide +kernel) (by decide +kernel), lw_in 6 (by decide +kernel) (by decide +kernel), by decide, by decide +kernel, by decide +kernel, by decide +kernel⟩
theorem zv_X6_saves : zCV yX6_saves := ⟨lw_in 925 (by decide +kernel) (by decide +kernel), lw_inS 45 (by decide +kernel) (by decide +kernel)⟩
theorem zw_X6_token : zCW yX6_token cX6_token 3 none 0 := ⟨lw_in 930 (by decide +kernel) (by decide +kernel), lw_in 6 (by decide +kernel) (by decide +kernel), by decide, by decide +kernel, by decide +kernel, by decide +kernel⟩
theorem zv_X6_token : zCV yX6_token := ⟨lw_in 929 (by decide +kernel) (by decide +kernel), lw_inS 46 (by decide +kernel) (by decide +kernel)⟩
theorem zw_X6_byteAt : zCW yX6_byteAt cX6_byteAt 2 (some .int) 1 := ⟨lw_in 934 (by decide +kernel) (by decide +kernel), lw_in 6 (by decide +kernel) (by decide +kernel), by decide, by decide +kernel, by decide +kernel, by decide +kernel⟩
theorem zv_X6_byteAt : zCV yX6_byteAt := ⟨lw_in 933 (by decide +kernel) (by decide +kernel), lw_inS 47 (by decide +kernel) (by decide +kernel)⟩
theorem zw_X6_isLetter : zCW yX6_isLetter cX6_isLetter 1 (some .boolean) 1 := ⟨lw_in 937 (by decide +kernel) (by decide +kernel), lw_in 6 (by decide +kernel) (by decide +kernel), by decide, by decide +kernel, by decide +kernel, by decide +kernel⟩
theorem zs_X6_isLetter : Cond.static yX6_isLetter ∈ lw_g := lw_in 936 (by decide +kernel) (by decide +kernel)
theorem zw_X6_isDigit : zCW yX6_isDigit cX6_isDigit 1 (some .boolean) 1 := ⟨lw_in 942 (by decide +kernel) (by decide +kernel), lw_in 6 (by decide +kernel) (by decide +kernel), by decide, by decide +kernel, by decide +kernel, by decide +kernel⟩
theorem zs_X6_isDigit : Cond.static yX6_isDigit ∈ lw_g := lw_in 941 (by decide +kernel) (by decide +kernel)
theorem zw_X6_item : zCW yX6_item cX6_item 5 none 0 := ⟨lw_in 948 (by decide +kernel) (by decide +kernel), lw_in 6 (by decide +kernel) (by decide +kernel), by decide, by decide +kernel, by decide +kernel, by decide +kernel⟩
theorem zv_X6_item : zCV yX6_item := ⟨lw_in 947 (by decide +kernel) (by decide +kernel), lw_inS 48 (by decide +kernel) (by decide +kernel)⟩
theorem zw_X6_kindHere : zCW yX6_kindHere cX6_kindHere 3 (some .int) 0 := ⟨lw_in 952 (by decide +kernel) (by decide +kernel), lw_in 6 (by decide +kernel) (by decide +kernel), by decide, by decide +kernel, by decide +kernel, by decide +kernel⟩
theorem zv_X6_kindHere : zCV yX6_kindHere := ⟨lw_in 951 (by decide +kernel) (by decide +kernel), lw_inS 49 (by decide +kernel) (by decide +kernel)⟩
theorem zw_X6_word : zCW yX6_word cX6_word 4 (some .long) 0 := ⟨lw_in 956 (by decide +kernel) (by decide +kernel), lw_in 6 (by decide +kernel) (by decide +kernel), by decide, by decide +kernel, by decide +kernel, by decide +kernel⟩
theorem zv_X6_word : zCV yX6_word := ⟨lw_in 955 (by decide +kernel) (by decide +kernel), lw_inS 50 (by decide +kernel) (by decide +kernel)⟩
theorem zw_X6_sideHere : zCW yX6_sideHere cX6_sideHere 3 (some .int) 0 := ⟨lw_in 968 (by decide +kernel) (by decide +kernel), lw_in 6 (by decide +kernel) (by decide +kernel), by decide, by decide +kernel, by decide +kernel, by decide +kernel⟩
theorem zv_X6_sideHere : zCV yX6_sideHere := ⟨lw_in 967 (by decide +kernel) (by decide +kernel), lw_inS 51 (by decide +kernel) (by decide +kernel)⟩
theorem zw_X6_personItem : zCW yX6_personItem cX6_personItem 3 none 1 := ⟨lw_in 974 (by decide +kernel) (by decide +kernel), lw_in 6 (by decide +kernel) (by decide +kernel), by decide, by decide +kernel, by decide +kernel, by decide +kernel⟩
theorem zv_X6_personItem : zCV yX6_personItem := ⟨lw_in 973 (by decide +kernel) (by decide +kernel), lw_inS 52 (by decide +kernel) (by decide +kernel)⟩
theorem zw_X6_must : zCW yX6_must cX6_must 2 none 1 := ⟨lw_in 978 (by decide +kernel) (by decide +kernel), lw_in 6 (by decide +kernel) (by decide +kernel), by decide, by decide +kernel, by decide +kernel, by decide +kernel⟩
theorem zv_X6_must : zCV yX6_must := ⟨lw_in 977 (by decide +kernel) (by decide +kernel), lw_inS 53 (by decide +kernel) (by decide +kernel)⟩
theorem zw_X6_partItem : zCW yX6_partItem cX6_partItem 5 none 3 := ⟨lw_in 983 (by decide +kernel) (by decide +kernel), lw_in 6 (by decide +kernel) (by decide +kernel), by decide, by decide +kernel, by decide +kernel, by decide +kernel⟩
theorem zv_X6_partItem : zCV yX6_partItem := ⟨lw_in 982 (by decide +kernel) (by decide +kernel), lw_inS 54 (by decide +kernel) (by decide +kernel)⟩
theorem zw_X6_number : zCW yX6_number cX6_number 6 none 2 := ⟨lw_in 987 (by decide +kernel) (by decide +kernel), lw_in 6 (by decide +kernel) (by decide +kernel), by decide, by decide +kernel, by decide +kernel, by decide +kernel⟩
theorem zv_X6_number : zCV yX6_number := ⟨lw_in 986 (by decide +kernel) (by decide +kernel), lw_inS 55 (by decide +kernel) (by decide +kernel)⟩
theorem zw_X6_sideItem : zCW yX6_sideItem cX6_sideItem 3 none 1 := ⟨lw_in 992 (by decide +kernel) (by decide +kernel), lw_in 6 (by decide +kernel) (by decide +kernel), by decide, by decide +kernel, by decide +kernel, by decide +kernel⟩
theorem zv_X6_sideItem : zCV yX6_sideItem := ⟨lw_in 991 (by decide +kernel) (by decide +kernel), lw_inS 56 (by decide +kernel) (by decide +kernel)⟩
theorem zw_X6_bribeItem : zCW yX6_bribeItem cX6_bribeItem 2 none 0 := ⟨lw_in 997 (by decide +kernel) (by decide +kernel), lw_in 6 (by decide +kernel) (by decide +kernel), by decide, by decide +kernel, by decide +kernel, by decide +kernel⟩
theorem zv_X6_bribeItem : zCV yX6_bribeItem := ⟨lw_in 996 (by decide +kernel) (by decide +kernel), lw_inS 57 (by decide +kernel) (by decide +kernel)⟩
theorem zw_X6_awayItem : zCW yX6_awayItem cX6_awayItem 1 none 0 := ⟨lw_in 1002 (by decide +kernel) (by decide +kernel), lw_in 6 (by decide +kernel) (by decide +kernel), by decide, by decide +kernel, by decide +kernel, by decide +kernel⟩
theorem zv_X6_awayItem : zCV yX6_awayItem := ⟨lw_in 1001 (by decide +kernel) (by decide +kernel), lw_inS 58 (by decide +kernel) (by decide +kernel)⟩
theorem zw_X6_putsBack : zCW yX6_putsBack cX6_putsBack 2 none 0 := ⟨lw_in 1006 (by decide +kernel) (by decide +kernel), lw_in 6 (by decide +kernel) (by decide +kernel), by decide, by decide +kernel, by decide +kernel, by decide +kernel⟩
theorem zv_X6_putsBack : zCV yX6_putsBack := ⟨lw_in 1005 (by decide +kernel) (by decide +kernel), lw_inS 59 (by decide +kernel) (by decide +kernel)⟩
theorem zw_X6_sheet : zCW yX6_sheet cX6_sheet 5 (some .int) 3 := ⟨lw_in 1010 (by decide +kernel) (by decide +kernel), lw_in 6 (by decide +kernel) (by decide +kernel), by decide, by decide +kernel, by decide +kernel, by decide +kernel⟩
theorem zv_X6_sheet : zCV yX6_sheet := ⟨lw_in 1008 (by decide +kernel) (by decide +kernel), lw_in 1009 (by decide +kernel) (by decide +kernel)⟩
theorem zw_X6_isOne : zCW yX6_isOne cX6_isOne 1 (some .boolean) 1 := ⟨lw_in 1013 (by decide +kernel) (by decide +kernel), lw_in 6 (by decide +kernel) (by decide +kernel), by decide, by decide +kernel, by decide +kernel, by decide +kernel⟩
theorem zs_X6_isOne : Cond.static yX6_isOne ∈ lw_g := lw_in 1012 (by decide +kernel) (by decide +kernel)
theorem zw_X6_write : zCW yX6_write cX6_write 8 (some .long) 3 := ⟨lw_in 1018 (by decide +kernel) (by decide +kernel), lw_in 6 (by decide +kernel) (by decide +kernel), by decide, by decide +kernel, by decide +kernel, by decide +kernel⟩
theorem zv_X6_write : zCV yX6_write := ⟨lw_in 1016 (by decide +kernel) (by decide +kernel), lw_in 1017 (by decide +kernel) (by decide +kernel)⟩
theorem zw_X6_wrongSheet : zCW yX6_wrongSheet cX6_wrongSheet 2 (some .int) 1 := ⟨lw_in 1022 (by decide +kernel) (by decide +kernel), lw_in 6 (by decide +kernel) (by decide +kernel), by decide, by decide +kernel, by decide +kernel, by decide +kernel⟩
theorem zv_X6_wrongSheet : zCV yX6_wrongSheet := ⟨lw_in 1021 (by decide +kernel) (by decide +kernel), lw_inS 60 (by decide +kernel) (by decide +kernel)⟩
theorem zw_X6_narrowed : zCW yX6_narrowed cX6_narrowed 3 (some .long) 2 := ⟨lw_in 1026 (by decide +kernel) (by decide +kernel), lw_in 6 (by decide +kernel) (by decide +kernel), by decide, by decide +kernel, by decide +kernel, by decide +kernel⟩
theorem zs_X6_narrowed : Cond.static yX6_narrowed ∈ lw_g := lw_in 1025 (by decide +kernel) (by decide +kernel)
theorem zw_X6_copy : zCW yX6_copy cX6_copy 7 (some .int) 5 := ⟨lw_in 1030 (by decide +kernel) (by decide +kernel), lw_in 6 (by decide +kernel) (by decide +kernel), by decide, by decide +kernel, by decide +kernel, by decide +kernel⟩
theorem zv_X6_copy : zCV yX6_copy := ⟨lw_in 1028 (by decide +kernel) (by decide +kernel), lw_in 1029 (by decide +kernel) (by decide +kernel)⟩
theorem zw_X6_lays : zCW yX6_lays cX6_lays 6 (some .int) 1 := ⟨lw_in 1034 (by decide +kernel) (by decide +kernel), lw_in 6 (by decide +kernel) (by decide +kernel), by decide, by decide +kernel, by decide +kernel, by decide +kernel⟩
theorem zv_X6_lays : zCV yX6_lays := ⟨lw_in 1032 (by decide +kernel) (by decide +kernel), lw_in 1033 (by decide +kernel) (by decide +kernel)⟩
theorem zw_X6_book : zCW yX6_book cX6_book 5 (some .int) 2 := ⟨lw_in 1038 (by decide +kernel) (by decide +kernel), lw_in 6 (by decide +kernel) (by decide +kernel), by decide, by decide +kernel, by decide +kernel, by decide +kernel⟩
theorem zv_X6_book : zCV yX6_book := ⟨lw_in 1036 (by decide +kernel) (by decide +kernel), lw_in 1037 (by decide +kernel) (by decide +kernel)⟩
theorem zw_X6_read : zCW yX6_read cX6_read 7 (some .int) 3 := ⟨lw_in 1042 (by decide +kernel) (by decide +kernel), lw_in 6 (by decide +kernel) (by decide +kernel), by decide, by decide +kernel, by decide +kernel, by decide +kernel⟩
theorem zv_X6_read : zCV yX6_read := ⟨lw_in 1040 (by decide +kernel) (by decide +kernel), lw_in 1041 (by decide +kernel) (by decide +kernel)⟩
theorem zw_X6_isBook : zCW yX6_isBook cX6_isBook 4 (some .boolean) 2 := ⟨lw_in 1046 (by decide +kernel) (by decide +kernel), lw_in 6 (by decide +kernel) (by decide +kernel), by decide, by decide +kernel, by decide +kernel, by decide +kernel⟩
theorem zv_X6_isBook : zCV yX6_isBook := ⟨lw_in 1045 (by decide +kernel) (by decide +kernel), lw_inS 61 (by decide +kernel) (by decide +kernel)⟩
theorem zw_X6_image : zCW yX6_image cX6_image 2 (some .int) 0 := ⟨lw_in 1050 (by decide +kernel) (by decide +kernel), lw_in 6 (by decide +kernel) (by decide +kernel), by decide, by decide +kernel, by decide +kernel, by decide +kernel⟩
theorem zv_X6_image : zCV yX6_image := ⟨lw_in 1048 (by decide +kernel) (by decide +kernel), lw_in 1049 (by decide +kernel) (by decide +kernel)⟩
theorem zw_X6_undo : zCW yX6_undo cX6_undo 2 (some .int) 0 := ⟨lw_in 1054 (by decide +kernel) (by decide +kernel), lw_in 6 (by decide +kernel) (by decide +kernel), by decide, by decide +kernel, by decide +kernel, by decide +kernel⟩
theorem zv_X6_undo : zCV yX6_undo := ⟨lw_in 1052 (by decide +kernel) (by decide +kernel), lw_in 1053 (by decide +kernel) (by decide +kernel)⟩
theorem zw_X6_tear : zCW yX6_tear cX6_tear 2 (some .int) 0 := ⟨lw_in 1058 (by decide +kernel) (by decide +kernel), lw_in 6 (by decide +kernel) (by decide +kernel), by decide, by decide +kernel, by decide +kernel, by decide +kernel⟩
theorem zv_X6_tear : zCV yX6_tear := ⟨lw_in 1056 (by decide +kernel) (by decide +kernel), lw_in 1057 (by decide +kernel) (by decide +kernel)⟩
theorem zw_X6_count : zCW yX6_count cX6_count 2 (some .int) 1 := ⟨lw_in 1062 (by decide +kernel) (by decide +kernel), lw_in 6 (by decide +kernel) (by decide +kernel), by decide, by decide +kernel, by decide +kernel, by decide +kernel⟩
theorem zv_X6_count : zCV yX6_count := ⟨lw_in 1060 (by decide +kernel) (by decide +kernel), lw_in 1061 (by decide +kernel) (by decide +kernel)⟩
theorem zw_X6_status : zCW yX6_status cX6_status 4 (some .int) 1 := ⟨lw_in 1066 (by decide +kernel) (by decide +kernel), lw_in 6 (by decide +kernel) (by decide +kernel), by decide, by decide +kernel, by decide +kernel, by decide +kernel⟩
theorem zv_X6_status : zCV yX6_status := ⟨lw_in 1064 (by decide +kernel) (by decide +kernel), lw_in 1065 (by decide +kernel) (by decide +kernel)⟩
theorem zm_L_9 : Cond.methodLink RL 9 yX5_init ∈ lw_g := lw_in 17 (by decide +kernel) (by decide +kernel)
theorem zm_X5_35 : Cond.methodLink RX5 35 yX3_init ∈ lw_g := lw_in 93 (by decide +kernel) (by decide +kernel)
theorem zm_L_13 : Cond.methodLink RL 13 yX5_lies ∈ lw_g := lw_in 163 (by decide +kernel) (by decide +kernel)
theorem zm_X5_53 : Cond.methodLink RX5 53 yX5_isQuestion ∈ lw_g := lw_in 167 (by decide +kernel) (by decide +kernel)
theorem zm_X5_75 : Cond.methodLink RX5 75 yX5_isWithin ∈ lw_g := lw_in 170 (by decide +kernel) (by decide +kernel)
theorem zm_X5_57 : Cond.methodLink RX5 57 yX5_isSide ∈ lw_g := lw_in 173 (by decide +kernel) (by decide +kernel)
theorem zm_X5_60 : Cond.methodLink RX5 60 yX5_isPence ∈ lw_g := lw_in 176 (by decide +kernel) (by decide +kernel)
theorem zm_X5_63 : Cond.methodLink RX5 63 yX5_finding ∈ lw_g := lw_in 179 (by decide +kernel) (by decide +kernel)
theorem zm_X5_67 : Cond.methodLink RX5 67 yX4_lying ∈ lw_g := lw_in 184 (by decide +kernel) (by decide +kernel)
theorem zm_X5_71 : Cond.methodLink RX5 71 yX4_lay ∈ lw_g := lw_in 188 (by decide +kernel) (by decide +kernel)
theorem zm_L_18 : Cond.methodLink RL 18 yX5_basin ∈ lw_g := lw_in 192 (by decide +kernel) (by decide +kernel)
theorem zm_X5_79 : Cond.methodLink RX5 79 yX4_tell ∈ lw_g := lw_in 196 (by decide +kernel) (by decide +kernel)
theorem zm_X4_49 : Cond.methodLink RX4 49 yX4_lying ∈ lw_g := lw_in 200 (by decide +kernel) (by decide +kernel)
theorem zm_L_23 : Cond.methodLink RL 23 yX5_bribe ∈ lw_g := lw_in 201 (by decide +kernel) (by decide +kernel)
theorem zm_L_28 : Cond.methodLink RL 28 yX5_held ∈ lw_g := lw_in 205 (by decide +kernel) (by decide +kernel)
theorem zm_X5_86 : Cond.methodLink RX5 86 yX5_isSet ∈ lw_g := lw_in 209 (by decide +kernel) (by decide +kernel)
theorem zm_L_32 : Cond.methodLink RL 32 yX5_now ∈ lw_g := lw_in 212 (by decide +kernel) (by decide +kernel)
theorem zm_X5_95 : Cond.methodLink RX5 95 yX4_questionOfDay ∈ lw_g := lw_in 216 (by decide +kernel) (by decide +kernel)
theorem zm_X5_99 : Cond.methodLink RX5 99 yX4_thoseForLeft ∈ lw_g := lw_in 220 (by decide +kernel) (by decide +kernel)
theorem zm_X4_53 : Cond.methodLink RX4 53 yX4_questionOfDay ∈ lw_g := lw_in 224 (by decide +kernel) (by decide +kernel)
theorem zm_X4_57 : Cond.methodLink RX4 57 yX4_sideOf ∈ lw_g := lw_in 225 (by decide +kernel) (by decide +kernel)
theorem zm_X4_60 : Cond.methodLink RX4 60 yX4_ladySide ∈ lw_g := lw_in 229 (by decide +kernel) (by decide +kernel)
theorem zm_X4_63 : Cond.methodLink RX4 63 yX4_throwerSide ∈ lw_g := lw_in 233 (by decide +kernel) (by decide +kernel)
theorem zm_X5_102 : Cond.methodLink RX5 102 yX4_allPence ∈ lw_g := lw_in 237 (by decide +kernel) (by decide +kernel)
theorem zm_X5_105 : Cond.methodLink RX5 105 yX4_allLying ∈ lw_g := lw_in 241 (by decide +kernel) (by decide +kernel)
theorem zm_L_36 : Cond.methodLink RL 36 yX5_person ∈ lw_g := lw_in 245 (by decide +kernel) (by decide +kernel)
theorem zm_X5_108 : Cond.methodLink RX5 108 yX5_isKind ∈ lw_g := lw_in 249 (by decide +kernel) (by decide +kernel)
theorem zm_X5_111 : Cond.methodLink RX5 111 yX4_isFull ∈ lw_g := lw_in 252 (by decide +kernel) (by decide +kernel)
theorem zm_X5_115 : Cond.methodLink RX5 115 yX4_add ∈ lw_g := lw_in 256 (by decide +kernel) (by decide +kernel)
theorem zm_L_40 : Cond.methodLink RL 40 yX5_of ∈ lw_g := lw_in 260 (by decide +kernel) (by decide +kernel)
theorem zm_X5_118 : Cond.methodLink RX5 118 yX5_isPerson ∈ lw_g := lw_in 264 (by decide +kernel) (by decide +kernel)
theorem zm_X5_133 : Cond.methodLink RX5 133 yX4_throwsOf ∈ lw_g := lw_in 268 (by decide +kernel) (by decide +kernel)
theorem zm_X4_66 : Cond.methodLink RX4 66 yX0_throwsWith ∈ lw_g := lw_in 272 (by decide +kernel) (by decide +kernel)
theorem zm_X0_22 : Cond.methodLink RX0 22 yX0_wouldThrow ∈ lw_g := lw_in 275 (by decide +kernel) (by decide +kernel)
theorem zm_X0_26 : Cond.methodLink RX0 26 yJ9_min_7cf53 ∈ lw_g := lw_in 278 (by decide +kernel) (by decide +kernel)
theorem zm_X5_136 : Cond.methodLink RX5 136 yX0_earns ∈ lw_g := lw_in 281 (by decide +kernel) (by decide +kernel)
theorem zm_L_44 : Cond.methodLink RL 44 yX5_acts ∈ lw_g := lw_in 287 (by decide +kernel) (by decide +kernel)
theorem zm_X5_141 : Cond.methodLink RX5 141 yX4_sideOf ∈ lw_g := lw_in 291 (by decide +kernel) (by decide +kernel)
theorem zm_X5_144 : Cond.methodLink RX5 144 yX4_divesOf ∈ lw_g := lw_in 292 (by decide +kernel) (by decide +kernel)
theorem zm_X4_71 : Cond.methodLink RX4 71 yX0_dives ∈ lw_g := lw_in 296 (by decide +kernel) (by decide +kernel)
theorem zm_X0_31 : Cond.methodLink RX0 31 yJ9_max_7cf53 ∈ lw_g := lw_in 299 (by decide +kernel) (by decide +kernel)
theorem zm_L_48 : Cond.methodLink RL 48 yX5_set ∈ lw_g := lw_in 302 (by decide +kernel) (by decide +kernel)
theorem zm_X5_147 : Cond.methodLink RX5 147 yX5_change ∈ lw_g := lw_in 306 (by decide +kernel) (by decide +kernel)
theorem zm_L_52 : Cond.methodLink RL 52 yX5_turn ∈ lw_g := lw_in 309 (by decide +kernel) (by decide +kernel)
theorem zm_L_56 : Cond.methodLink RL 56 yX5_as ∈ lw_g := lw_in 313 (by decide +kernel) (by decide +kernel)
theorem zm_X5_151 : Cond.methodLink RX5 151 yX0_isUnder ∈ lw_g := lw_in 317 (by decide +kernel) (by decide +kernel)
theorem zm_L_60 : Cond.methodLink RL 60 yX5_days ∈ lw_g := lw_in 322 (by decide +kernel) (by decide +kernel)
theorem zm_X5_156 : Cond.methodLink RX5 156 yX4_goDays ∈ lw_g := lw_in 327 (by decide +kernel) (by decide +kernel)
theorem zm_X4_75 : Cond.methodLink RX4 75 yX4_goDay ∈ lw_g := lw_in 331 (by decide +kernel) (by decide +kernel)
theorem zm_X4_78 : Cond.methodLink RX4 78 yX4_visit ∈ lw_g := lw_in 335 (by decide +kernel) (by decide +kernel)
theorem zm_X4_86 : Cond.methodLink RX4 86 yX0_earns ∈ lw_g := lw_in 339 (by decide +kernel) (by decide +kernel)
theorem zm_X4_90 : Cond.methodLink RX4 90 yJ9_min_7cf53 ∈ lw_g := lw_in 340 (by decide +kernel) (by decide +kernel)
theorem zm_X4_95 : Cond.methodLink RX4 95 yX4_throwsOf ∈ lw_g := lw_in 341 (by decide +kernel) (by decide +kernel)
theorem zm_X4_98 : Cond.methodLink RX4 98 yX4_lay ∈ lw_g := lw_in 342 (by decide +kernel) (by decide +kernel)
theorem zm_X4_102 : Cond.methodLink RX4 102 yX4_divesOf ∈ lw_g := lw_in 343 (by decide +kernel) (by decide +kernel)
theorem zm_X4_82 : Cond.methodLink RX4 82 yX4_net ∈ lw_g := lw_in 344 (by decide +kernel) (by decide +kernel)
theorem zm_L_64 : Cond.methodLink RL 64 yX5_on ∈ lw_g := lw_in 348 (by decide +kernel) (by decide +kernel)
theorem zm_X5_160 : Cond.methodLink RX5 160 yX5_tryDays ∈ lw_g := lw_in 352 (by decide +kernel) (by decide +kernel)
theorem zm_X5_163 : Cond.methodLink RX5 163 yX4_become ∈ lw_g := lw_in 356 (by decide +kernel) (by decide +kernel)
theorem zm_X4_43 : Cond.methodLink RX4 43 arraycopyName ∈ lw_g := lw_in 360 (by decide +kernel) (by decide +kernel)
theorem zm_L_68 : Cond.methodLink RL 68 yX5_then ∈ lw_g := lw_in 363 (by decide +kernel) (by decide +kernel)
theorem zm_L_72 : Cond.methodLink RL 72 yX5_flips ∈ lw_g := lw_in 367 (by decide +kernel) (by decide +kernel)
theorem zm_X5_167 : Cond.methodLink RX5 167 yX4_goDay ∈ lw_g := lw_in 371 (by decide +kernel) (by decide +kernel)
theorem zm_L_76 : Cond.methodLink RL 76 yX5_rich ∈ lw_g := lw_in 372 (by decide +kernel) (by decide +kernel)
theorem zm_L_80 : Cond.methodLink RL 80 yX5_kind ∈ lw_g := lw_in 376 (by decide +kernel) (by decide +kernel)
theorem zm_L_84 : Cond.methodLink RL 84 yX5_lean ∈ lw_g := lw_in 380 (by decide +kernel) (by decide +kernel)
theorem zm_X5_170 : Cond.methodLink RX5 170 yJ6_bitCount_0f7a4 ∈ lw_g := lw_in 384 (by decide +kernel) (by decide +kernel)
theorem zm_L_88 : Cond.methodLink RL 88 yX5_buys ∈ lw_g := lw_in 390 (by decide +kernel) (by decide +kernel)
theorem zm_L_92 : Cond.methodLink RL 92 yX5_swing ∈ lw_g := lw_in 394 (by decide +kernel) (by decide +kernel)
theorem zm_L_96 : Cond.methodLink RL 96 yX5_pays ∈ lw_g := lw_in 398 (by decide +kernel) (by decide +kernel)
theorem zm_X5_178 : Cond.methodLink RX5 178 yX5_heldIfBribed ∈ lw_g := lw_in 402 (by decide +kernel) (by decide +kernel)
theorem zm_L_100 : Cond.methodLink RL 100 yX5_richest ∈ lw_g := lw_in 406 (by decide +kernel) (by decide +kernel)
theorem zm_L_104 : Cond.methodLink RL 104 yX5_feed ∈ lw_g := lw_in 410 (by decide +kernel) (by decide +kernel)
theorem zm_X5_181 : Cond.methodLink RX5 181 yX2_hasRoom ∈ lw_g := lw_in 414 (by decide +kernel) (by decide +kernel)
theorem zm_X5_184 : Cond.methodLink RX5 184 yX2_add ∈ lw_g := lw_in 418 (by decide +kernel) (by decide +kernel)
theorem zm_L_108 : Cond.methodLink RL 108 yX5_wipe ∈ lw_g := lw_in 422 (by decide +kernel) (by decide +kernel)
theorem zm_L_113 : Cond.methodLink RL 113 yX5_town ∈ lw_g := lw_in 426 (by decide +kernel) (by decide +kernel)
theorem zm_X5_190 : Cond.methodLink RX5 190 yX3_items ∈ lw_g := lw_in 430 (by decide +kernel) (by decide +kernel)
theorem zm_X3_25 : Cond.methodLink RX3 25 yX3_next ∈ lw_g := lw_in 434 (by decide +kernel) (by decide +kernel)
theorem zm_X3_123 : Cond.methodLink RX3 123 yX3_byteAt ∈ lw_g := lw_in 438 (by decide +kernel) (by decide +kernel)
theorem zm_X3_132 : Cond.methodLink RX3 132 yX3_isLetter ∈ lw_g := lw_in 442 (by decide +kernel) (by decide +kernel)
theorem zm_X3_135 : Cond.methodLink RX3 135 yX3_nextWord ∈ lw_g := lw_in 445 (by decide +kernel) (by decide +kernel)
theorem zm_X3_138 : Cond.methodLink RX3 138 yX3_isDigit ∈ lw_g := lw_in 449 (by decide +kernel) (by decide +kernel)
theorem zm_X3_141 : Cond.methodLink RX3 141 yX3_nextNumber ∈ lw_g := lw_in 452 (by decide +kernel) (by decide +kernel)
theorem zm_X3_144 : Cond.methodLink RX3 144 yJ9_min_7cf53 ∈ lw_g := lw_in 456 (by decide +kernel) (by decide +kernel)
theorem zm_X3_28 : Cond.methodLink RX3 28 yX3_readItem ∈ lw_g := lw_in 457 (by decide +kernel) (by decide +kernel)
theorem zm_X3_38 : Cond.methodLink RX3 38 yX3_kindNamed ∈ lw_g := lw_in 461 (by decide +kernel) (by decide +kernel)
theorem zm_X3_51 : Cond.methodLink RX3 51 yX3_isWord ∈ lw_g := lw_in 466 (by decide +kernel) (by decide +kernel)
theorem zm_X3_118 : Cond.methodLink RX3 118 yJ0_length_8abf5 ∈ lw_g := lw_in 470 (by decide +kernel) (by decide +kernel)
theorem zm_J0_335 : Cond.methodLink RJ0 335 yJ0_coder_7d493 ∈ lw_g := lw_in 474 (by decide +kernel) (by decide +kernel)
theorem zm_X3_126 : Cond.methodLink RX3 126 yJ0_charAt_5068e ∈ lw_g := lw_in 480 (by decide +kernel) (by decide +kernel)
theorem zm_J0_492 : Cond.methodLink RJ0 492 yJ0_isLatin1_aae02 ∈ lw_g := lw_in 484 (by decide +kernel) (by decide +kernel)
theorem zm_J0_495 : Cond.methodLink RJ0 495 yJ1_charAt_3b067 ∈ lw_g := lw_in 488 (by decide +kernel) (by decide +kernel)
theorem zm_J1_9 : Cond.methodLink RJ1 9 yJ0_checkIndex_df160 ∈ lw_g := lw_in 491 (by decide +kernel) (by decide +kernel)
theorem zm_J0_1059 : Cond.methodLink RJ0 1059 yJ3_checkIndex_8e157 ∈ lw_g := lw_in 496 (by decide +kernel) (by decide +kernel)
theorem zm_J0_498 : Cond.methodLink RJ0 498 yJ2_charAt_3b067 ∈ lw_g := lw_in 499 (by decide +kernel) (by decide +kernel)
theorem zm_J2_67 : Cond.methodLink RJ2 67 yJ2_checkIndex_2214a ∈ lw_g := lw_in 502 (by decide +kernel) (by decide +kernel)
theorem zm_J2_48 : Cond.methodLink RJ2 48 yJ2_length_9d52b ∈ lw_g := lw_in 505 (by decide +kernel) (by decide +kernel)
theorem zm_J2_414 : Cond.methodLink RJ2 414 yJ0_checkIndex_df160 ∈ lw_g := lw_in 508 (by decide +kernel) (by decide +kernel)
theorem zm_J2_71 : Cond.methodLink RJ2 71 yJ2_getChar_3b067 ∈ lw_g := lw_in 509 (by decide +kernel) (by decide +kernel)
theorem zm_X3_46 : Cond.methodLink RX3 46 yX3_readPerson ∈ lw_g := lw_in 524 (by decide +kernel) (by decide +kernel)
theorem zm_X3_82 : Cond.methodLink RX3 82 yX4_isFull ∈ lw_g := lw_in 528 (by decide +kernel) (by decide +kernel)
theorem zm_X3_87 : Cond.methodLink RX3 87 yX4_add ∈ lw_g := lw_in 529 (by decide +kernel) (by decide +kernel)
theorem zm_X3_93 : Cond.methodLink RX3 93 yX3_isNumber ∈ lw_g := lw_in 531 (by decide +kernel) (by decide +kernel)
theorem zm_X3_55 : Cond.methodLink RX3 55 yX3_readLying ∈ lw_g := lw_in 537 (by decide +kernel) (by decide +kernel)
theorem zm_X3_106 : Cond.methodLink RX3 106 yX4_lay ∈ lw_g := lw_in 541 (by decide +kernel) (by decide +kernel)
theorem zm_X3_62 : Cond.methodLink RX3 62 yX3_readBribe ∈ lw_g := lw_in 544 (by decide +kernel) (by decide +kernel)
theorem zm_X3_67 : Cond.methodLink RX3 67 yX3_readAway ∈ lw_g := lw_in 549 (by decide +kernel) (by decide +kernel)
theorem zm_L_117 : Cond.methodLink RL 117 yX5_sheet ∈ lw_g := lw_in 553 (by decide +kernel) (by decide +kernel)
theorem zm_X5_193 : Cond.methodLink RX5 193 yX5_isSheet ∈ lw_g := lw_in 557 (by decide +kernel) (by decide +kernel)
theorem zm_X5_196 : Cond.methodLink RX5 196 yX1_areBits ∈ lw_g := lw_in 560 (by decide +kernel) (by decide +kernel)
theorem zm_X5_199 : Cond.methodLink RX5 199 yX1_make ∈ lw_g := lw_in 563 (by decide +kernel) (by decide +kernel)
theorem zm_L_123 : Cond.methodLink RL 123 yX5_write ∈ lw_g := lw_in 567 (by decide +kernel) (by decide +kernel)
theorem zm_X5_205 : Cond.methodLink RX5 205 yX1_isMissing ∈ lw_g := lw_in 571 (by decide +kernel) (by decide +kernel)
theorem zm_X5_212 : Cond.methodLink RX5 212 yX1_put ∈ lw_g := lw_in 575 (by decide +kernel) (by decide +kernel)
theorem zm_L_128 : Cond.methodLink RL 128 yX5_copy ∈ lw_g := lw_in 579 (by decide +kernel) (by decide +kernel)
theorem zm_X5_219 : Cond.methodLink RX5 219 yX1_hasPart ∈ lw_g := lw_in 583 (by decide +kernel) (by decide +kernel)
theorem zm_X5_222 : Cond.methodLink RX5 222 arraycopyName ∈ lw_g := lw_in 587 (by decide +kernel) (by decide +kernel)
theorem zm_L_133 : Cond.methodLink RL 133 yX5_lays ∈ lw_g := lw_in 588 (by decide +kernel) (by decide +kernel)
theorem zm_X5_228 : Cond.methodLink RX5 228 yJ9_min_7cf53 ∈ lw_g := lw_in 592 (by decide +kernel) (by decide +kernel)
theorem zm_L_137 : Cond.methodLink RL 137 yX5_book ∈ lw_g := lw_in 594 (by decide +kernel) (by decide +kernel)
theorem zm_L_141 : Cond.methodLink RL 141 yX5_read ∈ lw_g := lw_in 598 (by decide +kernel) (by decide +kernel)
theorem zm_X5_235 : Cond.methodLink RX5 235 yX5_trialGoesAsBooked ∈ lw_g := lw_in 602 (by decide +kernel) (by decide +kernel)
theorem zm_L_145 : Cond.methodLink RL 145 yX5_image ∈ lw_g := lw_in 606 (by decide +kernel) (by decide +kernel)
theorem zm_L_149 : Cond.methodLink RL 149 yX5_undo ∈ lw_g := lw_in 610 (by decide +kernel) (by decide +kernel)
theorem zm_L_153 : Cond.methodLink RL 153 yX5_tear ∈ lw_g := lw_in 614 (by decide +kernel) (by decide +kernel)
theorem zm_L_157 : Cond.methodLink RL 157 yX5_count ∈ lw_g := lw_in 618 (by decide +kernel) (by decide +kernel)
theorem zm_L_161 : Cond.methodLink RL 161 yX5_status ∈ lw_g := lw_in 622 (by decide +kernel) (by decide +kernel)
theorem zm_L_12 : Cond.methodLink RL 12 yX6_init ∈ lw_g := lw_in 628 (by decide +kernel) (by decide +kernel)
theorem zm_L_17 : Cond.methodLink RL 17 yX6_lies ∈ lw_g := lw_in 681 (by decide +kernel) (by decide +kernel)
theorem zm_X6_46 : Cond.methodLink RX6 46 yX6_in ∈ lw_g := lw_in 685 (by decide +kernel) (by decide +kernel)
theorem zm_X6_60 : Cond.methodLink RX6 60 yX6_isQuestion ∈ lw_g := lw_in 689 (by decide +kernel) (by decide +kernel)
theorem zm_X6_52 : Cond.methodLink RX6 52 yX6_basinSpot ∈ lw_g := lw_in 693 (by decide +kernel) (by decide +kernel)
theorem zm_X6_64 : Cond.methodLink RX6 64 yX6_becomes ∈ lw_g := lw_in 696 (by decide +kernel) (by decide +kernel)
theorem zm_X6_67 : Cond.methodLink RX6 67 yX6_finds ∈ lw_g := lw_in 701 (by decide +kernel) (by decide +kernel)
theorem zm_L_22 : Cond.methodLink RL 22 yX6_basin ∈ lw_g := lw_in 705 (by decide +kernel) (by decide +kernel)
theorem zm_X6_73 : Cond.methodLink RX6 73 yX6_heldIn ∈ lw_g := lw_in 710 (by decide +kernel) (by decide +kernel)
theorem zm_L_27 : Cond.methodLink RL 27 yX6_bribe ∈ lw_g := lw_in 714 (by decide +kernel) (by decide +kernel)
theorem zm_L_31 : Cond.methodLink RL 31 yX6_held ∈ lw_g := lw_in 718 (by decide +kernel) (by decide +kernel)
theorem zm_L_35 : Cond.methodLink RL 35 yX6_now ∈ lw_g := lw_in 723 (by decide +kernel) (by decide +kernel)
theorem zm_X6_78 : Cond.methodLink RX6 78 yX6_ofDay ∈ lw_g := lw_in 727 (by decide +kernel) (by decide +kernel)
theorem zm_X6_85 : Cond.methodLink RX6 85 yX6_leftOnes ∈ lw_g := lw_in 731 (by decide +kernel) (by decide +kernel)
theorem zm_X6_55 : Cond.methodLink RX6 55 yX6_its ∈ lw_g := lw_in 735 (by decide +kernel) (by decide +kernel)
theorem zm_X6_42 : Cond.methodLink RX6 42 yX6_spot ∈ lw_g := lw_in 739 (by decide +kernel) (by decide +kernel)
theorem zm_X6_82 : Cond.methodLink RX6 82 yX6_sideOf ∈ lw_g := lw_in 742 (by decide +kernel) (by decide +kernel)
theorem zm_X6_94 : Cond.methodLink RX6 94 yX6_ladySide ∈ lw_g := lw_in 746 (by decide +kernel) (by decide +kernel)
theorem zm_X6_88 : Cond.methodLink RX6 88 yX6_pence ∈ lw_g := lw_in 750 (by decide +kernel) (by decide +kernel)
theorem zm_X6_91 : Cond.methodLink RX6 91 yX6_together ∈ lw_g := lw_in 754 (by decide +kernel) (by decide +kernel)
theorem zm_L_39 : Cond.methodLink RL 39 yX6_person ∈ lw_g := lw_in 758 (by decide +kernel) (by decide +kernel)
theorem zm_X6_103 : Cond.methodLink RX6 103 yX6_isKind ∈ lw_g := lw_in 762 (by decide +kernel) (by decide +kernel)
theorem zm_X6_107 : Cond.methodLink RX6 107 yX6_adds ∈ lw_g := lw_in 766 (by decide +kernel) (by decide +kernel)
theorem zm_L_43 : Cond.methodLink RL 43 yX6_of ∈ lw_g := lw_in 770 (by decide +kernel) (by decide +kernel)
theorem zm_X6_110 : Cond.methodLink RX6 110 yX6_isPerson ∈ lw_g := lw_in 774 (by decide +kernel) (by decide +kernel)
theorem zm_X6_113 : Cond.methodLink RX6 113 yX6_throwsOf ∈ lw_g := lw_in 778 (by decide +kernel) (by decide +kernel)
theorem zm_X6_97 : Cond.methodLink RX6 97 yX6_heldTo ∈ lw_g := lw_in 782 (by decide +kernel) (by decide +kernel)
theorem zm_X6_116 : Cond.methodLink RX6 116 yX6_earnsOf ∈ lw_g := lw_in 785 (by decide +kernel) (by decide +kernel)
theorem zm_L_47 : Cond.methodLink RL 47 yX6_acts ∈ lw_g := lw_in 789 (by decide +kernel) (by decide +kernel)
theorem zm_X6_119 : Cond.methodLink RX6 119 yX6_divesOf ∈ lw_g := lw_in 793 (by decide +kernel) (by decide +kernel)
theorem zm_X6_100 : Cond.methodLink RX6 100 yX6_fuller ∈ lw_g := lw_in 797 (by decide +kernel) (by decide +kernel)
theorem zm_L_51 : Cond.methodLink RL 51 yX6_set ∈ lw_g := lw_in 801 (by decide +kernel) (by decide +kernel)
theorem zm_L_55 : Cond.methodLink RL 55 yX6_turn ∈ lw_g := lw_in 806 (by decide +kernel) (by decide +kernel)
theorem zm_L_59 : Cond.methodLink RL 59 yX6_as ∈ lw_g := lw_in 810 (by decide +kernel) (by decide +kernel)
theorem zm_X6_124 : Cond.methodLink RX6 124 yX6_isUnder ∈ lw_g := lw_in 814 (by decide +kernel) (by decide +kernel)
theorem zm_L_63 : Cond.methodLink RL 63 yX6_days ∈ lw_g := lw_in 818 (by decide +kernel) (by decide +kernel)
theorem zm_X6_144 : Cond.methodLink RX6 144 yX6_daysGo ∈ lw_g := lw_in 825 (by decide +kernel) (by decide +kernel)
theorem zm_X6_137 : Cond.methodLink RX6 137 yX6_day ∈ lw_g := lw_in 829 (by decide +kernel) (by decide +kernel)
theorem zm_X6_129 : Cond.methodLink RX6 129 yX6_comes ∈ lw_g := lw_in 833 (by decide +kernel) (by decide +kernel)
theorem zm_X6_133 : Cond.methodLink RX6 133 yX6_net ∈ lw_g := lw_in 837 (by decide +kernel) (by decide +kernel)
theorem zm_L_67 : Cond.methodLink RL 67 yX6_on ∈ lw_g := lw_in 841 (by decide +kernel) (by decide +kernel)
theorem zm_X6_155 : Cond.methodLink RX6 155 yX6_isAhead ∈ lw_g := lw_in 845 (by decide +kernel) (by decide +kernel)
theorem zm_X6_158 : Cond.methodLink RX6 158 yX6_behind ∈ lw_g := lw_in 849 (by decide +kernel) (by decide +kernel)
theorem zm_X6_149 : Cond.methodLink RX6 149 yX6_laysAside ∈ lw_g := lw_in 853 (by decide +kernel) (by decide +kernel)
theorem zm_X6_152 : Cond.methodLink RX6 152 yX6_takesBack ∈ lw_g := lw_in 857 (by decide +kernel) (by decide +kernel)
theorem zm_L_71 : Cond.methodLink RL 71 yX6_then ∈ lw_g := lw_in 861 (by decide +kernel) (by decide +kernel)
theorem zm_L_75 : Cond.methodLink RL 75 yX6_flips ∈ lw_g := lw_in 865 (by decide +kernel) (by decide +kernel)
theorem zm_X6_162 : Cond.methodLink RX6 162 yX6_toldAt ∈ lw_g := lw_in 869 (by decide +kernel) (by decide +kernel)
theorem zm_L_79 : Cond.methodLink RL 79 yX6_rich ∈ lw_g := lw_in 874 (by decide +kernel) (by decide +kernel)
theorem zm_L_83 : Cond.methodLink RL 83 yX6_kind ∈ lw_g := lw_in 878 (by decide +kernel) (by decide +kernel)
theorem zm_X6_167 : Cond.methodLink RX6 167 yX6_isSoon ∈ lw_g := lw_in 882 (by decide +kernel) (by decide +kernel)
theorem zm_L_87 : Cond.methodLink RL 87 yX6_lean ∈ lw_g := lw_in 886 (by decide +kernel) (by decide +kernel)
theorem zm_X6_172 : Cond.methodLink RX6 172 yX6_ones ∈ lw_g := lw_in 891 (by decide +kernel) (by decide +kernel)
theorem zm_L_91 : Cond.methodLink RL 91 yX6_buys ∈ lw_g := lw_in 894 (by decide +kernel) (by decide +kernel)
theorem zm_L_95 : Cond.methodLink RL 95 yX6_swing ∈ lw_g := lw_in 898 (by decide +kernel) (by decide +kernel)
theorem zm_L_99 : Cond.methodLink RL 99 yX6_pays ∈ lw_g := lw_in 902 (by decide +kernel) (by decide +kernel)
theorem zm_L_103 : Cond.methodLink RL 103 yX6_richest ∈ lw_g := lw_in 906 (by decide +kernel) (by decide +kernel)
theorem zm_L_107 : Cond.methodLink RL 107 yX6_feed ∈ lw_g := lw_in 910 (by decide +kernel) (by decide +kernel)
theorem zm_L_112 : Cond.methodLink RL 112 yX6_wipe ∈ lw_g := lw_in 915 (by decide +kernel) (by decide +kernel)
theorem zm_L_116 : Cond.methodLink RL 116 yX6_town ∈ lw_g := lw_in 919 (by decide +kernel) (by decide +kernel)
theorem zm_X6_275 : Cond.methodLink RX6 275 yX6_saves ∈ lw_g := lw_in 923 (by decide +kernel) (by decide +kernel)
theorem zm_X6_208 : Cond.methodLink RX6 208 yX6_token ∈ lw_g := lw_in 927 (by decide +kernel) (by decide +kernel)
theorem zm_X6_195 : Cond.methodLink RX6 195 yX6_byteAt ∈ lw_g := lw_in 931 (by decide +kernel) (by decide +kernel)
theorem zm_X6_198 : Cond.methodLink RX6 198 yX6_isLetter ∈ lw_g := lw_in 935 (by decide +kernel) (by decide +kernel)
theorem zm_X6_201 : Cond.methodLink RX6 201 yX6_isDigit ∈ lw_g := lw_in 940 (by decide +kernel) (by decide +kernel)
theorem zm_X6_278 : Cond.methodLink RX6 278 yX6_item ∈ lw_g := lw_in 945 (by decide +kernel) (by decide +kernel)
theorem zm_X6_256 : Cond.methodLink RX6 256 yX6_kindHere ∈ lw_g := lw_in 949 (by decide +kernel) (by decide +kernel)
theorem zm_X6_222 : Cond.methodLink RX6 222 yX6_word ∈ lw_g := lw_in 953 (by decide +kernel) (by decide +kernel)
theorem zm_X6_253 : Cond.methodLink RX6 253 yX6_sideHere ∈ lw_g := lw_in 965 (by decide +kernel) (by decide +kernel)
theorem zm_X6_259 : Cond.methodLink RX6 259 yX6_personItem ∈ lw_g := lw_in 971 (by decide +kernel) (by decide +kernel)
theorem zm_X6_218 : Cond.methodLink RX6 218 yX6_must ∈ lw_g := lw_in 975 (by decide +kernel) (by decide +kernel)
theorem zm_X6_247 : Cond.methodLink RX6 247 yX6_partItem ∈ lw_g := lw_in 980 (by decide +kernel) (by decide +kernel)
theorem zm_X6_242 : Cond.methodLink RX6 242 yX6_number ∈ lw_g := lw_in 984 (by decide +kernel) (by decide +kernel)
theorem zm_X6_262 : Cond.methodLink RX6 262 yX6_sideItem ∈ lw_g := lw_in 989 (by decide +kernel) (by decide +kernel)
theorem zm_X6_267 : Cond.methodLink RX6 267 yX6_bribeItem ∈ lw_g := lw_in 994 (by decide +kernel) (by decide +kernel)
theorem zm_X6_272 : Cond.methodLink RX6 272 yX6_awayItem ∈ lw_g := lw_in 999 (by decide +kernel) (by decide +kernel)
theorem zm_X6_281 : Cond.methodLink RX6 281 yX6_putsBack ∈ lw_g := lw_in 1003 (by decide +kernel) (by decide +kernel)
theorem zm_L_120 : Cond.methodLink RL 120 yX6_sheet ∈ lw_g := lw_in 1007 (by decide +kernel) (by decide +kernel)
theorem zm_X6_284 : Cond.methodLink RX6 284 yX6_isOne ∈ lw_g := lw_in 1011 (by decide +kernel) (by decide +kernel)
theorem zm_L_127 : Cond.methodLink RL 127 yX6_write ∈ lw_g := lw_in 1015 (by decide +kernel) (by decide +kernel)
theorem zm_X6_289 : Cond.methodLink RX6 289 yX6_wrongSheet ∈ lw_g := lw_in 1019 (by decide +kernel) (by decide +kernel)
theorem zm_X6_292 : Cond.methodLink RX6 292 yX6_narrowed ∈ lw_g := lw_in 1024 (by decide +kernel) (by decide +kernel)
theorem zm_L_132 : Cond.methodLink RL 132 yX6_copy ∈ lw_g := lw_in 1027 (by decide +kernel) (by decide +kernel)
theorem zm_L_136 : Cond.methodLink RL 136 yX6_lays ∈ lw_g := lw_in 1031 (by decide +kernel) (by decide +kernel)
theorem zm_L_140 : Cond.methodLink RL 140 yX6_book ∈ lw_g := lw_in 1035 (by decide +kernel) (by decide +kernel)
theorem zm_L_144 : Cond.methodLink RL 144 yX6_read ∈ lw_g := lw_in 1039 (by decide +kernel) (by decide +kernel)
theorem zm_X6_296 : Cond.methodLink RX6 296 yX6_isBook ∈ lw_g := lw_in 1043 (by decide +kernel) (by decide +kernel)
theorem zm_L_148 : Cond.methodLink RL 148 yX6_image ∈ lw_g := lw_in 1047 (by decide +kernel) (by decide +kernel)
theorem zm_L_152 : Cond.methodLink RL 152 yX6_undo ∈ lw_g := lw_in 1051 (by decide +kernel) (by decide +kernel)
theorem zm_L_156 : Cond.methodLink RL 156 yX6_tear ∈ lw_g := lw_in 1055 (by decide +kernel) (by decide +kernel)
theorem zm_L_160 : Cond.methodLink RL 160 yX6_count ∈ lw_g := lw_in 1059 (by decide +kernel) (by decide +kernel)
theorem zm_L_164 : Cond.methodLink RL 164 yX6_status ∈ lw_g := lw_in 1063 (by decide +kernel) (by decide +kernel)
theorem zq_min : Cond.static Lib.Math.min.name ∈ lw_g ∧ Cond.initialized "java/lang/Math" ∈ lw_g ∧ Cond.code Lib.Math.min.name Lib.Math.min.code 2 (some .int) ∈ lw_g := ⟨lw_in 279 (by decide +kernel) (by decide +kernel), lw_in 8 (by decide +kernel) (by decide +kernel), lw_in 280 (by decide +kernel) (by decide +kernel)⟩
theorem zq_max : Cond.static Lib.Math.max.name ∈ lw_g ∧ Cond.initialized "java/lang/Math" ∈ lw_g ∧ Cond.code Lib.Math.max.name Lib.Math.max.code 2 (some .int) ∈ lw_g := ⟨lw_in 300 (by decide +kernel) (by decide +kernel), lw_in 8 (by decide +kernel) (by decide +kernel), lw_in 301 (by decide +kernel) (by decide +kernel)⟩
theorem zq_copy : Cond.native arraycopyName ∈ lw_g ∧ Cond.static arraycopyName ∈ lw_g ∧ Cond.initialized "java/lang/System" ∈ lw_g := ⟨lw_in 362 (by decide +kernel) (by decide +kernel), lw_in 361 (by decide +kernel) (by decide +kernel), lw_in 9 (by decide +kernel) (by decide +kernel)⟩
end
section
section ZCALLN
variable {g : zG} {C : zC} {dd : Nat} {cc : ByteArray} {own : String} {pc : Nat} {lv : List (Option Value)} {st : List Value} {σ σ' : zSto} {d n idx o ci : Nat} {y : MethodName} {cy : ByteArray} {ret : Option FieldType} {rest : List Value} {r a1 a2 a3 a4 a5 : Value} {fs : List (Option Nat)} {rc : vw_C}
/-- a contract with one outcome -/
def zEd (g : zG) (d : Nat) (y : MethodName) (cy : ByteArray) (n : Nat) (ret : Option FieldType) (as : List Value) (σ : zSto) (r : Option Value) (σ' : zSto) : Prop := zEv g d y cy n ret as σ (fun r' s' => r' = r ∧ s' = σ')

theorem za_cV0 (hd : decode cc pc = .ok (.invokevirtual idx, 3)) (hm : Cond.methodLink own idx y ∈ lw_g) (hw : zCW y cy n ret 0) (hv : zCV y) (hE : zEd g d y cy n ret [.ref (zad g o)] σ (some r) σ') (hdd : d < dd) (hs : zsh[o]? = some (.inl (ci, fs))) (hcr : vwCl[ci]? = some rc) (hn : rc.1 = y.cls) (hr : (rest.map fun v => v.category).sum ≤ 8) (k : zAW g C dd cc own (pc + 3) lv (r :: rest) σ') : zAW g C dd cc own pc lv (.ref (zad g o) :: rest) σ :=
  za_callV (As := []) (rest := rest) hd hm hw hv hE hdd hs hcr hn rfl hr rfl (fun r' s' h => by obtain ⟨rfl, rfl⟩ := h; exact k)
theorem za_cV0v (hd : decode cc pc = .ok (.invokevirtual idx, 3)) (hm : Cond.methodLink own idx y ∈ lw_g) (hw : zCW y cy n ret 0) (hv : zCV y) (hE : zEd g d y cy n ret [.ref (zad g o)] σ none σ') (hdd : d < dd) (hs : zsh[o]? = some (.inl (ci, fs))) (hcr : vwCl[ci]? = some rc) (hn : rc.1 = y.cls) (hr : (rest.map fun v => v.category).sum ≤ 8) (k : zAW g C dd cc own (pc + 3) lv rest σ') : zAW g C dd cc own pc lv (.ref (zad g o) :: rest) σ :=
  za_callV (As := []) (rest := rest) hd hm hw hv hE hdd hs hcr hn rfl hr rfl (fun r' s' h => by obtain ⟨rfl, rfl⟩ := h; exact k)
theorem za_cV1 (hd : decode cc pc = .ok (.invokevirtual idx, 3)) (hm : Cond.methodLink own idx y ∈ lw_g) (hw : zCW y cy n ret 1) (hv : zCV y) (hE : zEd g d y cy n ret [.ref (zad g o), a1] σ (some r) σ') (hdd : d < dd) (hs : zsh[o]? = some (.inl (ci, fs))) (hcr : vwCl[ci]? = some rc) (hn : rc.1 = y.cls) (hr : (rest.map fun v => v.category).sum ≤ 8) (k : zAW g C dd cc own (pc + 3) lv (r :: rest) σ') : zAW g C dd cc own pc lv (a1 :: .ref (zad g o) :: rest) σ :=
  za_callV (As := [a1]) (rest := rest) hd hm hw hv hE hdd hs hcr hn rfl hr rfl (fun r' s' h => by obtain ⟨rfl, rfl⟩ := h; exact k)
theorem za_cS1 (hd : decode cc pc = .ok (.invokestatic idx, 3)) (hm : Cond.methodLink own idx y ∈ lw_g) (hw : zCW y cy n ret 1) (hv : Cond.static y ∈ lw_g) (hE : zEd g d y cy n ret [a1] σ (some r) σ') (hdd : d < dd) (hr : (rest.map fun v => v.category).sum ≤ 8) (k : zAW g C dd cc own (pc + 3) lv (r :: rest) σ') : zAW g C dd cc own pc lv (a1 :: rest) σ :=
  za_callS (As := [a1]) (rest := rest) hd hm hw hv hE hdd rfl hr rfl (fun r' s' h => by obtain ⟨rfl, rfl⟩ := h; exact k)
theorem za_cN1 (hd : decode cc pc = .ok (.invokestatic idx, 3)) (hm : ∀ (A : Nat → Prop) (U : State) (H : Heap), zSx g A U H → va_Nw (.methodLinkNest own idx y "BasinVotes") U) (hw : zCW y cy n ret 1) (hv : Cond.static y ∈ lw_g) (hE : zEd g d y cy n ret [a1] σ (some r) σ') (hdd : d < dd) (hr : (rest.map fun v => v.category).sum ≤ 8) (k : zAW g C dd cc own (pc + 3) lv (r :: rest) σ') : zAW g C dd cc own pc lv (a1 :: rest) σ :=
  za_callSN (As := [a1]) (rest := rest) hd hm hw hv hE hdd rfl hr rfl (fun r' s' h => by obtain ⟨rfl, rfl⟩ := h; exact k)
theorem za_cV1v (hd : decode cc pc = .ok (.invokevirtual idx, 3)) (hm : Cond.methodLink own idx y ∈ lw_g) (hw : zCW y cy n ret 1) (hv : zCV y) (hE : zEd g d y cy n ret [.ref (zad g o), a1] σ none σ') (hdd : d < dd) (hs : zsh[o]? = some (.inl (ci, fs))) (hcr : vwCl[ci]? = some rc) (hn : rc.1 = y.cls) (hr : (rest.map fun v => v.category).sum ≤ 8) (k : zAW g C dd cc own (pc + 3) lv rest σ') : zAW g C dd cc own pc lv (a1 :: .ref (zad g o) :: rest) σ :=
  za_callV (As := [a1]) (rest := rest) hd hm hw hv hE hdd hs hcr hn rfl hr rfl (fun r' s' h => by obtain ⟨rfl, rfl⟩ := h; exact k)
theorem za_cS1v (hd : decode cc pc = .ok (.invokestatic idx, 3)) (hm : Cond.methodLink own idx y ∈ lw_g) (hw : zCW y cy n ret 1) (hv : Cond.static y ∈ lw_g) (hE : zEd g d y cy n ret [a1] σ none σ') (hdd : d < dd) (hr : (rest.map fun v => v.category).sum ≤ 8) (k : zAW g C dd cc own (pc + 3) lv rest σ') : zAW g C dd cc own pc lv (a1 :: rest) σ :=
  za_callS (As := [a1]) (rest := rest) hd hm hw hv hE hdd rfl hr rfl (fun r' s' h => by obtain ⟨rfl, rfl⟩ := h; exact k)
theorem za_cN1v (hd : decode cc pc = .ok (.invokestatic idx, 3)) (hm : ∀ (A : Nat → Prop) (U : State) (H : Heap), zSx g A U H → va_Nw (.methodLinkNest own idx y "BasinVotes") U) (hw : zCW y cy n ret 1) (hv : Cond.static y ∈ lw_g) (hE : zEd g d y cy n ret [a1] σ none σ') (hdd : d < dd) (hr : (rest.map fun v => v.category).sum ≤ 8) (k : zAW g C dd cc own (pc + 3) lv rest σ') : zAW g C dd cc own pc lv (a1 :: rest) σ :=
  za_callSN (As := [a1]) (rest := rest) hd hm hw hv hE hdd rfl hr rfl (fun r' s' h => by obtain ⟨rfl, rfl⟩ := h; exact k)
theorem za_cV2 (hd : decode cc pc = .ok (.invokevirtual idx, 3)) (hm : Cond.methodLink own idx y ∈ lw_g) (hw : zCW y cy n ret 2) (hv : zCV y) (hE : zEd g d y cy n ret [.ref (zad g o), a1, a2] σ (some r) σ') (hdd : d < dd) (hs : zsh[o]? = some (.inl (ci, fs))) (hcr : vwCl[ci]? = some rc) (hn : rc.1 = y.cls) (hr : (rest.map fun v => v.category).sum ≤ 8) (k : zAW g C dd cc own (pc + 3) lv (r :: rest) σ') : zAW g C dd cc own pc lv (a2 :: a1 :: .ref (zad g o) :: rest) σ :=
  za_callV (As := [a1, a2]) (rest := rest) hd hm hw hv hE hdd hs hcr hn rfl hr rfl (fun r' s' h => by obtain ⟨rfl, rfl⟩ := h; exact k)
theorem za_cS2 (hd : decode cc pc = .ok (.invokestatic idx, 3)) (hm : Cond.methodLink own idx y ∈ lw_g) (hw : zCW y cy n ret 2) (hv : Cond.static y ∈ lw_g) (hE : zEd g d y cy n ret [a1, a2] σ (some r) σ') (hdd : d < dd) (hr : (rest.map fun v => v.category).sum ≤ 8) (k : zAW g C dd cc own (pc + 3) lv (r :: rest) σ') : zAW g C dd cc own pc lv (a2 :: a1 :: rest) σ :=
  za_callS (As := [a1, a2]) (rest := rest) hd hm hw hv hE hdd rfl hr rfl (fun r' s' h => by obtain ⟨rfl, rfl⟩ := h; exact k)
theorem za_cV2v (hd : decode cc pc = .ok (.invokevirtual idx, 3)) (hm : Cond.methodLink own idx y ∈ lw_g) (hw : zCW y cy n ret 2) (hv : zCV y) (hE : zEd g d y cy n ret [.ref (zad g o), a1, a2] σ none σ') (hdd : d < dd) (hs : zsh[o]? = some (.inl (ci, fs))) (hcr : vwCl[ci]? = some rc) (hn : rc.1 = y.cls) (hr : (rest.map fun v => v.category).sum ≤ 8) (k : zAW g C dd cc own (pc + 3) lv rest σ') : zAW g C dd cc own pc lv (a2 :: a1 :: .ref (zad g o) :: rest) σ :=
  za_callV (As := [a1, a2]) (rest := rest) hd hm hw hv hE hdd hs hcr hn rfl hr rfl (fun r' s' h => by obtain ⟨rfl, rfl⟩ := h; exact k)
theorem za_cS2v (hd : decode cc pc = .ok (.invokestatic idx, 3)) (hm : Cond.methodLink own idx y ∈ lw_g) (hw : zCW y cy n ret 2) (hv : Cond.static y ∈ lw_g) (hE : zEd g d y cy n ret [a1, a2] σ none σ') (hdd : d < dd) (hr : (rest.map fun v => v.category).sum ≤ 8) (k : zAW g C dd cc own (pc + 3) lv rest σ') : zAW g C dd cc own pc lv (a2 :: a1 :: rest) σ :=
  za_callS (As := [a1, a2]) (rest := rest) hd hm hw hv hE hdd rfl hr rfl (fun r' s' h => by obtain ⟨rfl, rfl⟩ := h; exact k)
theorem za_cV3 (hd : decode cc pc = .ok (.invokevirtual idx, 3)) (hm : Cond.methodLink own idx y ∈ lw_g) (hw : zCW y cy n ret 3) (hv : zCV y) (hE : zEd g d y cy n ret [.ref (zad g o), a1, a2, a3] σ (some r) σ') (hdd : d < dd) (hs : zsh[o]? = some (.inl (ci, fs))) (hcr : vwCl[ci]? = some rc) (hn : rc.1 = y.cls) (hr : (rest.map fun v => v.category).sum ≤ 8) (k : zAW g C dd cc own (pc + 3) lv (r :: rest) σ') : zAW g C dd cc own pc lv (a3 :: a2 :: a1 :: .ref (zad g o) :: rest) σ :=
  za_callV (As := [a1, a2, a3]) (rest := rest) hd hm hw hv hE hdd hs hcr hn rfl hr rfl (fun r' s' h => by obtain ⟨rfl, rfl⟩ := h; exact k)
theorem za_cS3 (hd : decode cc pc = .ok (.invokestatic idx, 3)) (hm : Cond.methodLink own idx y ∈ lw_g) (hw : zCW y cy n ret 3) (hv : Cond.static y ∈ lw_g) (hE : zEd g d y cy n ret [a1, a2, a3] σ (some r) σ') (hdd : d < dd) (hr : (rest.map fun v => v.category).sum ≤ 8) (k : zAW g C dd cc own (pc + 3) lv (r :: rest) σ') : zAW g C dd cc own pc lv (a3 :: a2 :: a1 :: rest) σ :=
  za_callS (As := [a1, a2, a3]) (rest := rest) hd hm hw hv hE hdd rfl hr rfl (fun r' s' h => by obtain ⟨rfl, rfl⟩ := h; exact k)
theorem za_cV3v (hd : decode cc pc = .ok (.invokevirtual idx, 3)) (hm : Cond.methodLink own idx y ∈ lw_g) (hw : zCW y cy n ret 3) (hv : zCV y) (hE : zEd g d y cy n ret [.ref (zad g o), a1, a2, a3] σ none σ') (hdd : d < dd) (hs : zsh[o]? = some (.inl (ci, fs))) (hcr : vwCl[ci]? = some rc) (hn : rc.1 = y.cls) (hr : (rest.map fun v => v.category).sum ≤ 8) (k : zAW g C dd cc own (pc + 3) lv rest σ') : zAW g C dd cc own pc lv (a3 :: a2 :: a1 :: .ref (zad g o) :: rest) σ :=
  za_callV (As := [a1, a2, a3]) (rest := rest) hd hm hw hv hE hdd hs hcr hn rfl hr rfl (fun r' s' h => by obtain ⟨rfl, rfl⟩ := h; exact k)
theorem za_cS3v (hd : decode cc pc = .ok (.invokestatic idx, 3)) (hm : Cond.methodLink own idx y ∈ lw_g) (hw : zCW y cy n ret 3) (hv : Cond.static y ∈ lw_g) (hE : zEd g d y cy n ret [a1, a2, a3] σ none σ') (hdd : d < dd) (hr : (rest.map fun v => v.category).sum ≤ 8) (k : zAW g C dd cc own (pc + 3) lv rest σ') : zAW g C dd cc own pc lv (a3 :: a2 :: a1 :: rest) σ :=
  za_callS (As := [a1, a2, a3]) (rest := rest) hd hm hw hv hE hdd rfl hr rfl (fun r' s' h => by obtain ⟨rfl, rfl⟩ := h; exact k)
theorem za_cV4 (hd : decode cc pc = .ok (.invokevirtual idx, 3)) (hm : Cond.methodLink own idx y ∈ lw_g) (hw : zCW y cy n ret 4) (hv : zCV y) (hE : zEd g d y cy n ret [.ref (zad g o), a1, a2, a3, a4] σ (some r) σ') (hdd : d < dd) (hs : zsh[o]? = some (.inl (ci, fs))) (hcr : vwCl[ci]? = some rc) (hn : rc.1 = y.cls) (hr : (rest.map fun v => v.category).sum ≤ 8) (k : zAW g C dd cc own (pc + 3) lv (r :: rest) σ') : zAW g C dd cc own pc lv (a4 :: a3 :: a2 :: a1 :: .ref (zad g o) :: rest) σ :=
  za_callV (As := [a1, a2, a3, a4]) (rest := rest) hd hm hw hv hE hdd hs hcr hn rfl hr rfl (fun r' s' h => by obtain ⟨rfl, rfl⟩ := h; exact k)
theorem za_cS4 (hd : decode cc pc = .ok (.invokestatic idx, 3)) (hm : Cond.methodLink own idx y ∈ lw_g) (hw : zCW y cy n ret 4) (hv : Cond.static y ∈ lw_g) (hE : zEd g d y cy n ret [a1, a2, a3, a4] σ (some r) σ') (hdd : d < dd) (hr : (rest.map fun v => v.category).sum ≤ 8) (k : zAW g C dd cc own (pc + 3) lv (r :: rest) σ') : zAW g C dd cc own pc lv (a4 :: a3 :: a2 :: a1 :: rest) σ :=
  za_callS (As := [a1, a2, a3, a4]) (rest := rest) hd hm hw hv hE hdd rfl hr rfl (fun r' s' h => by obtain ⟨rfl, rfl⟩ := h; exact k)
theorem za_cV4v (hd : decode cc pc = .ok (.invokevirtual idx, 3)) (hm : Cond.methodLink own idx y ∈ lw_g) (hw : zCW y cy n ret 4) (hv : zCV y) (hE : zEd g d y cy n ret [.ref (zad g o), a1, a2, a3, a4] σ none σ') (hdd : d < dd) (hs : zsh[o]? = some (.inl (ci, fs))) (hcr : vwCl[ci]? = some rc) (hn : rc.1 = y.cls) (hr : (rest.map fun v => v.category).sum ≤ 8) (k : zAW g C dd cc own (pc + 3) lv rest σ') : zAW g C dd cc own pc lv (a4 :: a3 :: a2 :: a1 :: .ref (zad g o) :: rest) σ :=
  za_callV (As := [a1, a2, a3, a4]) (rest := rest) hd hm hw hv hE hdd hs hcr hn rfl hr rfl (fun r' s' h => by obtain ⟨rfl, rfl⟩ := h; exact k)
theorem za_cS4v (hd : decode cc pc = .ok (.invokestatic idx, 3)) (hm : Cond.methodLink own idx y ∈ lw_g) (hw : zCW y cy n ret 4) (hv : Cond.static y ∈ lw_g) (hE : zEd g d y cy n ret [a1, a2, a3, a4] σ none σ') (hdd : d < dd) (hr : (rest.map fun v => v.category).sum ≤ 8) (k : zAW g C dd cc own (pc + 3) lv rest σ') : zAW g C dd cc own pc lv (a4 :: a3 :: a2 :: a1 :: rest) σ :=
  za_callS (As := [a1, a2, a3, a4]) (rest := rest) hd hm hw hv hE hdd rfl hr rfl (fun r' s' h => by obtain ⟨rfl, rfl⟩ := h; exact k)
theorem za_cV5 (hd : decode cc pc = .ok (.invokevirtual idx, 3)) (hm : Cond.methodLink own idx y ∈ lw_g) (hw : zCW y cy n ret 5) (hv : zCV y) (hE : zEd g d y cy n ret [.ref (zad g o), a1, a2, a3, a4, a5] σ (some r) σ') (hdd : d < dd) (hs : zsh[o]? = some (.inl (ci, fs))) (hcr : vwCl[ci]? = some rc) (hn : rc.1 = y.cls) (hr : (rest.map fun v => v.category).sum ≤ 8) (k : zAW g C dd cc own (pc + 3) lv (r :: rest) σ') : zAW g C dd cc own pc lv (a5 :: a4 :: a3 :: a2 :: a1 :: .ref (zad g o) :: rest) σ :=
  za_callV (As := [a1, a2, a3, a4, a5]) (rest := rest) hd hm hw hv hE hdd hs hcr hn rfl hr rfl (fun r' s' h => by obtain ⟨rfl, rfl⟩ := h; exact k)
theorem za_cS5 (hd : decode cc pc = .ok (.invokestatic idx, 3)) (hm : Cond.methodLink own idx y ∈ lw_g) (hw : zCW y cy n ret 5) (hv : Cond.static y ∈ lw_g) (hE : zEd g d y cy n ret [a1, a2, a3, a4, a5] σ (some r) σ') (hdd : d < dd) (hr : (rest.map fun v => v.category).sum ≤ 8) (k : zAW g C dd cc own (pc + 3) lv (r :: rest) σ') : zAW g C dd cc own pc lv (a5 :: a4 :: a3 :: a2 :: a1 :: rest) σ :=
  za_callS (As := [a1, a2, a3, a4, a5]) (rest := rest) hd hm hw hv hE hdd rfl hr rfl (fun r' s' h => by obtain ⟨rfl, rfl⟩ := h; exact k)
theorem za_cV5v (hd : decode cc pc = .ok (.invokevirtual idx, 3)) (hm : Cond.methodLink own idx y ∈ lw_g) (hw : zCW y cy n ret 5) (hv : zCV y) (hE : zEd g d y cy n ret [.ref (zad g o), a1, a2, a3, a4, a5] σ none σ') (hdd : d < dd) (hs : zsh[o]? = some (.inl (ci, fs))) (hcr : vwCl[ci]? = some rc) (hn : rc.1 = y.cls) (hr : (rest.map fun v => v.category).sum ≤ 8) (k : zAW g C dd cc own (pc + 3) lv rest σ') : zAW g C dd cc own pc lv (a5 :: a4 :: a3 :: a2 :: a1 :: .ref (zad g o) :: rest) σ :=
  za_callV (As := [a1, a2, a3, a4, a5]) (rest := rest) hd hm hw hv hE hdd hs hcr hn rfl hr rfl (fun r' s' h => by obtain ⟨rfl, rfl⟩ := h; exact k)
theorem za_cS5v (hd : decode cc pc = .ok (.invokestatic idx, 3)) (hm : Cond.methodLink own idx y ∈ lw_g) (hw : zCW y cy n ret 5) (hv : Cond.static y ∈ lw_g) (hE : zEd g d y cy n ret [a1, a2, a3, a4, a5] σ none σ') (hdd : d < dd) (hr : (rest.map fun v => v.category).sum ≤ 8) (k : zAW g C dd cc own (pc + 3) lv rest σ') : zAW g C dd cc own pc lv (a5 :: a4 :: a3 :: a2 :: a1 :: rest) σ :=
  za_callS (As := [a1, a2, a3, a4, a5]) (rest := rest) hd hm hw hv hE hdd rfl hr rfl (fun r' s' h => by obtain ⟨rfl, rfl⟩ := h; exact k)
theorem zm_X0_9 (A : Nat → Prop) (U : State) (H : Heap) (h : zSx g A U H) : va_Nw (.methodLinkNest RX0 9 yX5_isKind "BasinVotes") U := h.2.1.1
theorem zm_X3_42 (A : Nat → Prop) (U : State) (H : Heap) (h : zSx g A U H) : va_Nw (.methodLinkNest RX3 42 yX5_isKind "BasinVotes") U := h.2.1.2
/-! System.arraycopy among rows of ints, of longs -/
theorem zcp_small : nativeFrameWords "java/lang/System" "arraycopy" 5 + 11 ≤ 28 := by decide +kernel
def zci (σ : zSto) (o' o sp dp m : Nat) : zSto := (fun a b => if a = o ∧ dp ≤ b ∧ b < dp + m then σ.1 o' (sp + (b - dp)) else σ.1 a b, σ.2)
def zcl (σ : zSto) (o' o sp dp m : Nat) : zSto := (σ.1, fun a b => if a = o ∧ dp ≤ b ∧ b < dp + m then σ.2 o' (sp + (b - dp)) else σ.2 a b)
theorem za_copyi {o' n' sp dp m : Nat} (hd : decode cc pc = .ok (.invokestatic idx, 3)) (hm : Cond.methodLink own idx arraycopyName ∈ lw_g) (hs' : zsh[o']? = some (.inr (.inl (0, n')))) (hs : zsh[o]? = some (.inr (.inl (0, n)))) (h1 : sp + m ≤ n') (h2 : dp + m ≤ n) (hdd : 0 < dd) (hr : (rest.map fun v => v.category).sum ≤ 8) (k : zAW g C dd cc own (pc + 3) lv rest (zci σ o' o sp dp m)) : zAW g C dd cc own pc lv (.int (nI m) :: .int (nI dp) :: .ref (zad g o) :: .int (nI sp) :: .ref (zad g o') :: rest) σ := by
  obtain ⟨p, l, e, R, s, m', args, below, meth, c, nL, A, cells, slots, Q⟩ := C
  intro ok H locs ls hP hS hL
  have ok' := ok
  obtain ⟨hx, hb, hml, hown, hts, hlocks, hK, hx2, hG, hA, hcs, hdR, hlR⟩ := ok'
  have b1 := zsh_small _ _ _ hs
  have b2 := zsh_small _ _ _ hs'
  have c1 : (nI m).toNatClampNeg = m := nI_clamp (by omega)
  have c2 : (nI dp).toNatClampNeg = dp := nI_clamp (by omega)
  have c3 : (nI sp).toNatClampNeg = sp := nI_clamp (by omega)
  have hD := zwld_D (σ := σ) hG hA
  refine va_copyi (D := g.1) (ty := .int) hx hb (hml.trans hL.1.symm) hown (hts _ hm) (hts _ zq_copy.1) (hts _ zq_copy.2.1) (hts _ zq_copy.2.2) hK hP hD hS o' o 0 0 (zwld_i (by decide) hs') (zwld_i (by decide) hs) rfl rfl rfl (nI_pos (by omega)) (nI_pos (by omega)) (nI_pos (by omega)) (by omega) (by omega) (fun _ _ => rfl) (by omega) (by have := zcp_small; omega) hd (fun H1 locs1 hP1 _ hS1 => ?_)
  have he : zcel g (zci σ o' o sp dp m) o (.inr (.inl (0, n))) = .inl (zcA g 0, n, .inl (va_cpy (σ.1 o') (σ.1 o) sp dp m)) := by
    have h : (zci σ o' o sp dp m).1 o = va_cpy (σ.1 o') (σ.1 o) sp dp m := by
      funext b
      simp [zci, va_cpy]
    unfold zcel
    dsimp only
    rw [if_neg (by decide), h]
  rw [c1, c2, c3, zwld_set (g := g) (σ := σ) (σ' := zci σ o' o sp dp m) hs (fun a h => by funext b; simp [zci, h]) (fun a h => rfl) he] at hP1
  exact k ok H1 locs1 ls hP1 hS1 hL
theorem za_copyl {o' n' sp dp m : Nat} (hd : decode cc pc = .ok (.invokestatic idx, 3)) (hm : Cond.methodLink own idx arraycopyName ∈ lw_g) (hs' : zsh[o']? = some (.inr (.inl (1, n')))) (hs : zsh[o]? = some (.inr (.inl (1, n)))) (h1 : sp + m ≤ n') (h2 : dp + m ≤ n) (hdd : 0 < dd) (hr : (rest.map fun v => v.category).sum ≤ 8) (k : zAW g C dd cc own (pc + 3) lv rest (zcl σ o' o sp dp m)) : zAW g C dd cc own pc lv (.int (nI m) :: .int (nI dp) :: .ref (zad g o) :: .int (nI sp) :: .ref (zad g o') :: rest) σ := by
  obtain ⟨p, l, e, R, s, m', args, below, meth, c, nL, A, cells, slots, Q⟩ := C
  intro ok H locs ls hP hS hL
  have ok' := ok
  obtain ⟨hx, hb, hml, hown, hts, hlocks, hK, hx2, hG, hA, hcs, hdR, hlR⟩ := ok'
  have b1 := zsh_small _ _ _ hs
  have b2 := zsh_small _ _ _ hs'
  have c1 : (nI m).toNatClampNeg = m := nI_clamp (by omega)
  have c2 : (nI dp).toNatClampNeg = dp := nI_clamp (by omega)
  have c3 : (nI sp).toNatClampNeg = sp := nI_clamp (by omega)
  have hD := zwld_D (σ := σ) hG hA
  refine va_copyl (D := g.1) (ty := .long) hx hb (hml.trans hL.1.symm) hown (hts _ hm) (hts _ zq_copy.1) (hts _ zq_copy.2.1) (hts _ zq_copy.2.2) hK hP hD hS o' o 1 1 (zwld_l hs') (zwld_l hs) rfl rfl rfl (nI_pos (by omega)) (nI_pos (by omega)) (nI_pos (by omega)) (by omega) (by omega) (fun _ _ => rfl) (by omega) (by have := zcp_small; omega) hd (fun H1 locs1 hP1 _ hS1 => ?_)
  have he : zcel g (zcl σ o' o sp dp m) o (.inr (.inl (1, n))) = .inl (zcA g 1, n, .inr (.inl (va_cpy (σ.2 o') (σ.2 o) sp dp m))) := by
    have h : (zcl σ o' o sp dp m).2 o = va_cpy (σ.2 o') (σ.2 o) sp dp m := by
      funext b
      simp [zcl, va_cpy]
    unfold zcel
    dsimp only
    rw [if_pos rfl, h]
  rw [c1, c2, c3, zwld_set (g := g) (σ := σ) (σ' := zcl σ o' o sp dp m) hs (fun a h => rfl) (fun a h => by funext b; simp [zcl, h]) he] at hP1
  exact k ok H1 locs1 ls hP1 hS1 hL
end ZCALLN
end
section
set_option maxRecDepth 20000 in
set_option maxHeartbeats 4000000 in
theorem e_isWithin {g : zG} {σ : zSto} (v a b : Int32) : zEd g 0 yX5_isWithin cX5_isWithin 3 (some .boolean) [.int v, .int a, .int b] σ (some (.int (zb (a ≤ v ∧ v ≤ b)))) σ := by
  refine zev_intro (own := RX5) (lv := [some (.int v), some (.int a), some (.int b)]) (by decide +kernel) rfl (Nat.le_of_ble_eq_true rfl) rfl (fun C hM hN => ?_)
  refine za_iload_n dX5_isWithin_0 rfl ?_
  refine za_iload_n dX5_isWithin_1 rfl ?_
  refine za_icmp_lt 14 dX5_isWithin_2 (by decide) (fun c2 => ?_) (fun c2 => ?_)
  · refine za_iconst (nI 0) dX5_isWithin_14 (by decide) ?_
    exact za_zretG hM dX5_isWithin_15 (by decide) ⟨by (first | rfl | exact congrArg (fun z => some (Value.int z)) (zb_1 (c := a ≤ v ∧ v ≤ b) ⟨Int32.not_lt.mp (by assumption), Int32.not_lt.mp (by assumption)⟩).symm | exact congrArg (fun z => some (Value.int z)) (zb_f (c := a ≤ v ∧ v ≤ b) (fun h => absurd h.1 (Int32.not_le.mpr (by assumption)))).symm | exact congrArg (fun z => some (Value.int z)) (zb_f (c := a ≤ v ∧ v ≤ b) (fun h => absurd h.2 (Int32.not_le.mpr (by assumption)))).symm), by (first | rfl | exact congrArg (fun z => some (Value.int z)) (zb_1 (c := a ≤ v ∧ v ≤ b) ⟨Int32.not_lt.mp (by assumption), Int32.not_lt.mp (by assumption)⟩).symm | exact congrArg (fun z => some (Value.int z)) (zb_f (c := a ≤ v ∧ v ≤ b) (fun h => absurd h.1 (Int32.not_le.mpr (by assumption)))).symm | exact congrArg (fun z => some (Value.int z)) (zb_f (c := a ≤ v ∧ v ≤ b) (fun h => absurd h.2 (Int32.not_le.mpr (by assumption)))).symm)⟩
  · refine za_iload_n dX5_isWithin_5 rfl ?_
    refine za_iload_n dX5_isWithin_6 rfl ?_
    refine za_icmp_gt 14 dX5_isWithin_7 (by decide) (fun c7 => ?_) (fun c7 => ?_)
    · refine za_iconst (nI 0) dX5_isWithin_14 (by decide) ?_
      exact za_zretG hM dX5_isWithin_15 (by decide) ⟨by (first | rfl | exact congrArg (fun z => some (Value.int z)) (zb_1 (c := a ≤ v ∧ v ≤ b) ⟨Int32.not_lt.mp (by assumption), Int32.not_lt.mp (by assumption)⟩).symm | exact congrArg (fun z => some (Value.int z)) (zb_f (c := a ≤ v ∧ v ≤ b) (fun h => absurd h.1 (Int32.not_le.mpr (by assumption)))).symm | exact congrArg (fun z => some (Value.int z)) (zb_f (c := a ≤ v ∧ v ≤ b) (fun h => absurd h.2 (Int32.not_le.mpr (by assumption)))).symm), by (first | rfl | exact congrArg (fun z => some (Value.int z)) (zb_1 (c := a ≤ v ∧ v ≤ b) ⟨Int32.not_lt.mp (by assumption), Int32.not_lt.mp (by assumption)⟩).symm | exact congrArg (fun z => some (Value.int z)) (zb_f (c := a ≤ v ∧ v ≤ b) (fun h => absurd h.1 (Int32.not_le.mpr (by assumption)))).symm | exact congrArg (fun z => some (Value.int z)) (zb_f (c := a ≤ v ∧ v ≤ b) (fun h => absurd h.2 (Int32.not_le.mpr (by assumption)))).symm)⟩
    · refine za_iconst (nI 1) dX5_isWithin_10 (by decide) ?_
      refine za_goto 15 dX5_isWithin_11 (by decide) ?_
      exact za_zretG hM dX5_isWithin_15 (by decide) ⟨by (first | rfl | exact congrArg (fun z => some (Value.int z)) (zb_1 (c := a ≤ v ∧ v ≤ b) ⟨Int32.not_lt.mp (by assumption), Int32.not_lt.mp (by assumption)⟩).symm | exact congrArg (fun z => some (Value.int z)) (zb_f (c := a ≤ v ∧ v ≤ b) (fun h => absurd h.1 (Int32.not_le.mpr (by assumption)))).symm | exact congrArg (fun z => some (Value.int z)) (zb_f (c := a ≤ v ∧ v ≤ b) (fun h => absurd h.2 (Int32.not_le.mpr (by assumption)))).symm), by (first | rfl | exact congrArg (fun z => some (Value.int z)) (zb_1 (c := a ≤ v ∧ v ≤ b) ⟨Int32.not_lt.mp (by assumption), Int32.not_lt.mp (by assumption)⟩).symm | exact congrArg (fun z => some (Value.int z)) (zb_f (c := a ≤ v ∧ v ≤ b) (fun h => absurd h.1 (Int32.not_le.mpr (by assumption)))).symm | exact congrArg (fun z => some (Value.int z)) (zb_f (c := a ≤ v ∧ v ≤ b) (fun h => absurd h.2 (Int32.not_le.mpr (by assumption)))).symm)⟩

set_option maxRecDepth 20000 in
set_option maxHeartbeats 4000000 in
theorem e_isQuestion {g : zG} {σ : zSto} (v : Int32) : zEd g 1 yX5_isQuestion cX5_isQuestion 1 (some .boolean) [.int v] σ (some (.int (zb (nI 0 ≤ v ∧ v ≤ nI 5)))) σ := by
  refine zev_intro (own := RX5) (lv := [some (.int v)]) (by decide +kernel) rfl (Nat.le_of_ble_eq_true rfl) rfl (fun C hM hN => ?_)
  refine za_iload_n dX5_isQuestion_0 rfl ?_
  refine za_iconst (nI 0) dX5_isQuestion_1 (by decide) ?_
  refine za_iconst (nI 5) dX5_isQuestion_2 (by decide) ?_
  refine za_cS3 dX5_isQuestion_3 zm_X5_75 zw_X5_isWithin zs_X5_isWithin (e_isWithin _ _ _) (by decide) (Nat.le_of_ble_eq_true rfl) ?_
  exact za_zretG hM dX5_isQuestion_6 zb_nar ⟨by (first | rfl | (simp [zb, *]; done)), by (first | rfl | (simp [zb, *]; done))⟩

set_option maxRecDepth 20000 in
set_option maxHeartbeats 4000000 in
theorem e_isSide {g : zG} {σ : zSto} (v : Int32) : zEd g 1 yX5_isSide cX5_isSide 1 (some .boolean) [.int v] σ (some (.int (zb (nI 0 ≤ v ∧ v ≤ nI 1)))) σ := by
  refine zev_intro (own := RX5) (lv := [some (.int v)]) (by decide +kernel) rfl (Nat.le_of_ble_eq_true rfl) rfl (fun C hM hN => ?_)
  refine za_iload_n dX5_isSide_0 rfl ?_
  refine za_iconst (nI 0) dX5_isSide_1 (by decide) ?_
  refine za_iconst (nI 1) dX5_isSide_2 (by decide) ?_
  refine za_cS3 dX5_isSide_3 zm_X5_75 zw_X5_isWithin zs_X5_isWithin (e_isWithin _ _ _) (by decide) (Nat.le_of_ble_eq_true rfl) ?_
  exact za_zretG hM dX5_isSide_6 zb_nar ⟨by (first | rfl | (simp [zb, *]; done)), by (first | rfl | (simp [zb, *]; done))⟩

set_option maxRecDepth 20000 in
set_option maxHeartbeats 4000000 in
theorem e_isKind {g : zG} {σ : zSto} (v : Int32) : zEd g 1 yX5_isKind cX5_isKind 1 (some .boolean) [.int v] σ (some (.int (zb (nI 0 ≤ v ∧ v ≤ nI 5)))) σ := by
  refine zev_intro (own := RX5) (lv := [some (.int v)]) (by decide +kernel) rfl (Nat.le_of_ble_eq_true rfl) rfl (fun C hM hN => ?_)
  refine za_iload_n dX5_isKind_0 rfl ?_
  refine za_iconst (nI 0) dX5_isKind_1 (by decide) ?_
  refine za_iconst (nI 5) dX5_isKind_2 (by decide) ?_
  refine za_cS3 dX5_isKind_3 zm_X5_75 zw_X5_isWithin zs_X5_isWithin (e_isWithin _ _ _) (by decide) (Nat.le_of_ble_eq_true rfl) ?_
  exact za_zretG hM dX5_isKind_6 zb_nar ⟨by (first | rfl | (simp [zb, *]; done)), by (first | rfl | (simp [zb, *]; done))⟩

set_option maxRecDepth 20000 in
set_option maxHeartbeats 4000000 in
theorem e_isSet {g : zG} {σ : zSto} (v : Int32) : zEd g 1 yX5_isSet cX5_isSet 1 (some .boolean) [.int v] σ (some (.int (zb (nI 0 ≤ v ∧ v ≤ nI 63)))) σ := by
  refine zev_intro (own := RX5) (lv := [some (.int v)]) (by decide +kernel) rfl (Nat.le_of_ble_eq_true rfl) rfl (fun C hM hN => ?_)
  refine za_iload_n dX5_isSet_0 rfl ?_
  refine za_iconst (nI 0) dX5_isSet_1 (by decide) ?_
  refine za_bipush (nI 63) dX5_isSet_2 (by decide) ?_
  refine za_cS3 dX5_isSet_4 zm_X5_75 zw_X5_isWithin zs_X5_isWithin (e_isWithin _ _ _) (by decide) (Nat.le_of_ble_eq_true rfl) ?_
  exact za_zretG hM dX5_isSet_7 zb_nar ⟨by (first | rfl | (simp [zb, *]; done)), by (first | rfl | (simp [zb, *]; done))⟩

set_option maxRecDepth 20000 in
set_option maxHeartbeats 4000000 in
theorem e_isPence {g : zG} {σ : zSto} (v : Int32) : zEd g 1 yX5_isPence cX5_isPence 1 (some .boolean) [.int v] σ (some (.int (zb (nI 0 ≤ v ∧ v ≤ nI 9999)))) σ := by
  refine zev_intro (own := RX5) (lv := [some (.int v)]) (by decide +kernel) rfl (Nat.le_of_ble_eq_true rfl) rfl (fun C hM hN => ?_)
  refine za_iload_n dX5_isPence_0 rfl ?_
  refine za_iconst (nI 0) dX5_isPence_1 (by decide) ?_
  refine za_sipush (nI 9999) dX5_isPence_2 (by decide) ?_
  refine za_cS3 dX5_isPence_5 zm_X5_75 zw_X5_isWithin zs_X5_isWithin (e_isWithin _ _ _) (by decide) (Nat.le_of_ble_eq_true rfl) ?_
  exact za_zretG hM dX5_isPence_8 zb_nar ⟨by (first | rfl | (simp [zb, *]; done)), by (first | rfl | (simp [zb, *]; done))⟩

set_option maxRecDepth 20000 in
set_option maxHeartbeats 4000000 in
theorem e_isSheet {g : zG} {σ : zSto} (v : Int32) : zEd g 1 yX5_isSheet cX5_isSheet 1 (some .boolean) [.int v] σ (some (.int (zb (nI 0 ≤ v ∧ v ≤ nI 3)))) σ := by
  refine zev_intro (own := RX5) (lv := [some (.int v)]) (by decide +kernel) rfl (Nat.le_of_ble_eq_true rfl) rfl (fun C hM hN => ?_)
  refine za_iload_n dX5_isSheet_0 rfl ?_
  refine za_iconst (nI 0) dX5_isSheet_1 (by decide) ?_
  refine za_iconst (nI 3) dX5_isSheet_2 (by decide) ?_
  refine za_cS3 dX5_isSheet_3 zm_X5_75 zw_X5_isWithin zs_X5_isWithin (e_isWithin _ _ _) (by decide) (Nat.le_of_ble_eq_true rfl) ?_
  exact za_zretG hM dX5_isSheet_6 zb_nar ⟨by (first | rfl | (simp [zb, *]; done)), by (first | rfl | (simp [zb, *]; done))⟩

def zmin (x y : Int32) : Int32 := if y < x then y else x
def zmax (x y : Int32) : Int32 := if x < y then y else x
theorem zmin_1 {x y : Int32} (h : y < x) : zmin x y = y := if_pos h
theorem zmin_0 {x y : Int32} (h : ¬ y < x) : zmin x y = x := if_neg h
theorem zmax_1 {x y : Int32} (h : x < y) : zmax x y = y := if_pos h
theorem zmax_0 {x y : Int32} (h : ¬ x < y) : zmax x y = x := if_neg h
/-- a number below n -/
def zlt (x : Int32) (n : Nat) : Prop := ∃ k, k < n ∧ x = nI k
theorem zlt6 {k : Nat} (h : k < 6) : k = 0 ∨ k = 1 ∨ k = 2 ∨ k = 3 ∨ k = 4 ∨ k = 5 := by omega
theorem zlt6' {x : Int32} (h : zlt x 6) : x = nI 0 ∨ x = nI 1 ∨ x = nI 2 ∨ x = nI 3 ∨ x = nI 4 ∨ x = nI 5 := by
  obtain ⟨k, hk, rfl⟩ := h
  obtain rfl | rfl | rfl | rfl | rfl | rfl := zlt6 hk <;> simp
theorem zinj {a b : Nat} (h : nI a = nI b) (ha : a < 1000000) (hb : b < 1000000) : a = b := (nI_eq (by omega) (by omega)).mp h
def p_earn (k : Int32) : Int32 := if k = nI 0 then nI 2 else if k = nI 1 then nI 3 else if k = nI 3 then nI 4 else nI 0
/-- what one of a kind would throw, with c pence -/
def p_wt (k c : Int32) : Int32 := if k = nI 1 then nI 1 + c / nI 20 else if k = nI 2 ∨ k = nI 5 then nI 0 else if k = nI 3 then nI 3 else if k = nI 4 then nI 2 * (nI 1 + c / nI 20) else nI 1
def p_thr (k c : Int32) : Int32 := zmin (p_wt k c) c
def p_div (k l r : Int32) : Int32 := if k = nI 2 then zmin (nI 2) (zmax l r) else if k = nI 5 then zmin (nI 2 + (l + r) / nI 10) (zmax l r) else nI 0
abbrev p_und (a b : Nat) : Prop := b = 0 ∨ a = b ∨ (a = 4 ∧ b = 1) ∨ (a = 5 ∧ b = 2)

theorem za_mmin {g : zG} {C : zC} {dd : Nat} {cc : ByteArray} {own : String} {pc idx : Nat} {lv : List (Option Value)} {rest : List Value} {σ : zSto} {x y : Int32} (hd : decode cc pc = .ok (.invokestatic idx, 3)) (hm : Cond.methodLink own idx yJ9_min_7cf53 ∈ lw_g) (hdd : 0 < dd) (hr : (rest.map fun v => v.category).sum ≤ 8) (k : zAW g C dd cc own (pc + 3) lv (.int (zmin x y) :: rest) σ) : zAW g C dd cc own pc lv (.int y :: .int x :: rest) σ := by
  obtain ⟨p, l, e, R, s, m, args, below, meth, c, nL, A, cells, slots, Q⟩ := C
  intro ok H locs ls hP hS hL
  have ok' := ok
  obtain ⟨hx, hb, hml, hown, hts, hlocks, hK, hx2, hG, hA, hcs, hdR, hlR⟩ := ok'
  exact va_mmin hx hb (hml.trans hL.1.symm) hown (hts _ hm) (hts _ zq_min.1) (hts _ zq_min.2.1) (hts _ zq_min.2.2) (by omega) (by omega) hcs.1 hcs.2 hd (k ok H locs ls hP hS hL)

theorem za_mmax {g : zG} {C : zC} {dd : Nat} {cc : ByteArray} {own : String} {pc idx : Nat} {lv : List (Option Value)} {rest : List Value} {σ : zSto} {x y : Int32} (hd : decode cc pc = .ok (.invokestatic idx, 3)) (hm : Cond.methodLink own idx yJ9_max_7cf53 ∈ lw_g) (hdd : 0 < dd) (hr : (rest.map fun v => v.category).sum ≤ 8) (k : zAW g C dd cc own (pc + 3) lv (.int (zmax x y) :: rest) σ) : zAW g C dd cc own pc lv (.int y :: .int x :: rest) σ := by
  obtain ⟨p, l, e, R, s, m, args, below, meth, c, nL, A, cells, slots, Q⟩ := C
  intro ok H locs ls hP hS hL
  have ok' := ok
  obtain ⟨hx, hb, hml, hown, hts, hlocks, hK, hx2, hG, hA, hcs, hdR, hlR⟩ := ok'
  exact va_mmax hx hb (hml.trans hL.1.symm) hown (hts _ hm) (hts _ zq_max.1) (hts _ zq_max.2.1) (hts _ zq_max.2.2) (by omega) (by omega) hcs.1 hcs.2 hd (k ok H locs ls hP hS hL)

set_option maxRecDepth 20000 in
set_option maxHeartbeats 4000000 in
theorem e_isUnder {g : zG} {σ : zSto} {a b : Nat} (ha : a < 6) (hb : b < 6) : zEd g 2 yX0_isUnder cX0_isUnder 4 (some .boolean) [.int (nI a), .int (nI b)] σ (some (.int (zb (p_und a b)))) σ := by
  refine zev_intro (own := RX0) (lv := [some (.int (nI a)), some (.int (nI b)), none, none]) (by decide +kernel) rfl (Nat.le_of_ble_eq_true rfl) rfl (fun C hM hN => ?_)
  obtain rfl | rfl | rfl | rfl | rfl | rfl := zlt6 ha
  · refine za_iload_n dX0_isUnder_0 rfl ?_
    refine za_istore_n (lv' := [_, _, _, _]) dX0_isUnder_1 hN (by decide) rfl ?_
    refine za_iconst (nI 0) dX0_isUnder_2 (by decide) ?_
    refine za_istore_n (lv' := [_, _, _, _]) dX0_isUnder_3 hN (by decide) rfl ?_
    refine za_iload_n dX0_isUnder_4 rfl ?_
    refine za_bipush (nI 6) dX0_isUnder_5 (by decide) ?_
    refine za_icmp_ge 36 dX0_isUnder_7 (by decide) (fun c7 => absurd c7 (by decide)) (fun c7 => ?_)
    refine za_iload_n dX0_isUnder_10 rfl ?_
    refine za_cN1 dX0_isUnder_11 zm_X0_9 zw_X5_isKind zs_X5_isKind (e_isKind _) (by decide) (Nat.le_of_ble_eq_true rfl) ?_
    refine za_if_eqB 36 dX0_isUnder_14 (by decide) (fun c14 => absurd (by decide) c14) (fun c14 => ?_)
    refine za_iload_n dX0_isUnder_17 rfl ?_
    refine za_iload_n dX0_isUnder_18 rfl ?_
    refine za_icmp_ne 24 dX0_isUnder_19 (by decide) (fun c19 => ?_) (fun c19 => ?_)
    · have n0 : ¬ b = 0 := fun h => c19 (by rw [h])
      refine za_getA dX0_isUnder_24 zg_X0_13 ?_
      refine za_iload_n dX0_isUnder_27 rfl ?_
      refine za_ldA dX0_isUnder_28 (by decide) ?_
      rw [show zAbove.getD 0 0 = (-1) from rfl]
      refine za_istore_n (lv' := [_, _, _, _]) dX0_isUnder_29 hN (by decide) rfl ?_
      refine za_iinc (nI 1) (lv' := [_, _, _, _]) dX0_isUnder_30 rfl hN (by decide) (by decide) rfl ?_
      refine za_goto 4 dX0_isUnder_33 (by decide) ?_
      refine za_iload_n dX0_isUnder_4 rfl ?_
      refine za_bipush (nI 6) dX0_isUnder_5 (by decide) ?_
      refine za_icmp_ge 36 dX0_isUnder_7 (by decide) (fun c7 => absurd c7 (by decide)) (fun c7 => ?_)
      refine za_iload_n dX0_isUnder_10 rfl ?_
      refine za_cN1 dX0_isUnder_11 zm_X0_9 zw_X5_isKind zs_X5_isKind (e_isKind _) (by decide) (Nat.le_of_ble_eq_true rfl) ?_
      refine za_if_eqB 36 dX0_isUnder_14 (by decide) (fun c14 => ?_) (fun c14 => absurd c14 (by decide))
      refine za_iconst (nI 0) dX0_isUnder_36 (by decide) ?_
      exact za_zretG hM dX0_isUnder_37 (by decide) ⟨congrArg (fun z => some (Value.int z)) (zb_f (by omega)).symm, rfl⟩
    · obtain rfl := zinj c19 (by decide) (by omega)
      refine za_iconst (nI 1) dX0_isUnder_22 (by decide) ?_
      exact za_zretG hM dX0_isUnder_23 (by decide) ⟨rfl, rfl⟩
  · refine za_iload_n dX0_isUnder_0 rfl ?_
    refine za_istore_n (lv' := [_, _, _, _]) dX0_isUnder_1 hN (by decide) rfl ?_
    refine za_iconst (nI 0) dX0_isUnder_2 (by decide) ?_
    refine za_istore_n (lv' := [_, _, _, _]) dX0_isUnder_3 hN (by decide) rfl ?_
    refine za_iload_n dX0_isUnder_4 rfl ?_
    refine za_bipush (nI 6) dX0_isUnder_5 (by decide) ?_
    refine za_icmp_ge 36 dX0_isUnder_7 (by decide) (fun c7 => absurd c7 (by decide)) (fun c7 => ?_)
    refine za_iload_n dX0_isUnder_10 rfl ?_
    refine za_cN1 dX0_isUnder_11 zm_X0_9 zw_X5_isKind zs_X5_isKind (e_isKind _) (by decide) (Nat.le_of_ble_eq_true rfl) ?_
    refine za_if_eqB 36 dX0_isUnder_14 (by decide) (fun c14 => absurd (by decide) c14) (fun c14 => ?_)
    refine za_iload_n dX0_isUnder_17 rfl ?_
    refine za_iload_n dX0_isUnder_18 rfl ?_
    refine za_icmp_ne 24 dX0_isUnder_19 (by decide) (fun c19 => ?_) (fun c19 => ?_)
    · have n1 : ¬ b = 1 := fun h => c19 (by rw [h])
      refine za_getA dX0_isUnder_24 zg_X0_13 ?_
      refine za_iload_n dX0_isUnder_27 rfl ?_
      refine za_ldA dX0_isUnder_28 (by decide) ?_
      rw [show zAbove.getD 1 0 = (nI 0) from rfl]
      refine za_istore_n (lv' := [_, _, _, _]) dX0_isUnder_29 hN (by decide) rfl ?_
      refine za_iinc (nI 1) (lv' := [_, _, _, _]) dX0_isUnder_30 rfl hN (by decide) (by decide) rfl ?_
      refine za_goto 4 dX0_isUnder_33 (by decide) ?_
      refine za_iload_n dX0_isUnder_4 rfl ?_
      refine za_bipush (nI 6) dX0_isUnder_5 (by decide) ?_
      refine za_icmp_ge 36 dX0_isUnder_7 (by decide) (fun c7 => absurd c7 (by decide)) (fun c7 => ?_)
      refine za_iload_n dX0_isUnder_10 rfl ?_
      refine za_cN1 dX0_isUnder_11 zm_X0_9 zw_X5_isKind zs_X5_isKind (e_isKind _) (by decide) (Nat.le_of_ble_eq_true rfl) ?_
      refine za_if_eqB 36 dX0_isUnder_14 (by decide) (fun c14 => absurd (by decide) c14) (fun c14 => ?_)
      refine za_iload_n dX0_isUnder_17 rfl ?_
      refine za_iload_n dX0_isUnder_18 rfl ?_
      refine za_icmp_ne 24 dX0_isUnder_19 (by decide) (fun c19 => ?_) (fun c19 => ?_)
      · have n0 : ¬ b = 0 := fun h => c19 (by rw [h])
        refine za_getA dX0_isUnder_24 zg_X0_13 ?_
        refine za_iload_n dX0_isUnder_27 rfl ?_
        refine za_ldA dX0_isUnder_28 (by decide) ?_
        rw [show zAbove.getD 0 0 = (-1) from rfl]
        refine za_istore_n (lv' := [_, _, _, _]) dX0_isUnder_29 hN (by decide) rfl ?_
        refine za_iinc (nI 2) (lv' := [_, _, _, _]) dX0_isUnder_30 rfl hN (by decide) (by decide) rfl ?_
        refine za_goto 4 dX0_isUnder_33 (by decide) ?_
        refine za_iload_n dX0_isUnder_4 rfl ?_
        refine za_bipush (nI 6) dX0_isUnder_5 (by decide) ?_
        refine za_icmp_ge 36 dX0_isUnder_7 (by decide) (fun c7 => absurd c7 (by decide)) (fun c7 => ?_)
        refine za_iload_n dX0_isUnder_10 rfl ?_
        refine za_cN1 dX0_isUnder_11 zm_X0_9 zw_X5_isKind zs_X5_isKind (e_isKind _) (by decide) (Nat.le_of_ble_eq_true rfl) ?_
        refine za_if_eqB 36 dX0_isUnder_14 (by decide) (fun c14 => ?_) (fun c14 => absurd c14 (by decide))
        refine za_iconst (nI 0) dX0_isUnder_36 (by decide) ?_
        exact za_zretG hM dX0_isUnder_37 (by decide) ⟨congrArg (fun z => some (Value.int z)) (zb_f (by omega)).symm, rfl⟩
      · obtain rfl := zinj c19 (by decide) (by omega)
        refine za_iconst (nI 1) dX0_isUnder_22 (by decide) ?_
        exact za_zretG hM dX0_isUnder_23 (by decide) ⟨rfl, rfl⟩
    · obtain rfl := zinj c19 (by decide) (by omega)
      refine za_iconst (nI 1) dX0_isUnder_22 (by decide) ?_
      exact za_zretG hM dX0_isUnder_23 (by decide) ⟨rfl, rfl⟩
  · refine za_iload_n dX0_isUnder_0 rfl ?_
    refine za_istore_n (lv' := [_, _, _, _]) dX0_isUnder_1 hN (by decide) rfl ?_
    refine za_iconst (nI 0) dX0_isUnder_2 (by decide) ?_
    refine za_istore_n (lv' := [_, _, _, _]) dX0_isUnder_3 hN (by decide) rfl ?_
    refine za_iload_n dX0_isUnder_4 rfl ?_
    refine za_bipush (nI 6) dX0_isUnder_5 (by decide) ?_
    refine za_icmp_ge 36 dX0_isUnder_7 (by decide) (fun c7 => absurd c7 (by decide)) (fun c7 => ?_)
    refine za_iload_n dX0_isUnder_10 rfl ?_
    refine za_cN1 dX0_isUnder_11 zm_X0_9 zw_X5_isKind zs_X5_isKind (e_isKind _) (by decide) (Nat.le_of_ble_eq_true rfl) ?_
    refine za_if_eqB 36 dX0_isUnder_14 (by decide) (fun c14 => absurd (by decide) c14) (fun c14 => ?_)
    refine za_iload_n dX0_isUnder_17 rfl ?_
    refine za_iload_n dX0_isUnder_18 rfl ?_
    refine za_icmp_ne 24 dX0_isUnder_19 (by decide) (fun c19 => ?_) (fun c19 => ?_)
    · have n2 : ¬ b = 2 := fun h => c19 (by rw [h])
      refine za_getA dX0_isUnder_24 zg_X0_13 ?_
      refine za_iload_n dX0_isUnder_27 rfl ?_
      refine za_ldA dX0_isUnder_28 (by decide) ?_
      rw [show zAbove.getD 2 0 = (nI 0) from rfl]
      refine za_istore_n (lv' := [_, _, _, _]) dX0_isUnder_29 hN (by decide) rfl ?_
      refine za_iinc (nI 1) (lv' := [_, _, _, _]) dX0_isUnder_30 rfl hN (by decide) (by decide) rfl ?_
      refine za_goto 4 dX0_isUnder_33 (by decide) ?_
      refine za_iload_n dX0_isUnder_4 rfl ?_
      refine za_bipush (nI 6) dX0_isUnder_5 (by decide) ?_
      refine za_icmp_ge 36 dX0_isUnder_7 (by decide) (fun c7 => absurd c7 (by decide)) (fun c7 => ?_)
      refine za_iload_n dX0_isUnder_10 rfl ?_
      refine za_cN1 dX0_isUnder_11 zm_X0_9 zw_X5_isKind zs_X5_isKind (e_isKind _) (by decide) (Nat.le_of_ble_eq_true rfl) ?_
      refine za_if_eqB 36 dX0_isUnder_14 (by decide) (fun c14 => absurd (by decide) c14) (fun c14 => ?_)
      refine za_iload_n dX0_isUnder_17 rfl ?_
      refine za_iload_n dX0_isUnder_18 rfl ?_
      refine za_icmp_ne 24 dX0_isUnder_19 (by decide) (fun c19 => ?_) (fun c19 => ?_)
      · have n0 : ¬ b = 0 := fun h => c19 (by rw [h])
        refine za_getA dX0_isUnder_24 zg_X0_13 ?_
        refine za_iload_n dX0_isUnder_27 rfl ?_
        refine za_ldA dX0_isUnder_28 (by decide) ?_
        rw [show zAbove.getD 0 0 = (-1) from rfl]
        refine za_istore_n (lv' := [_, _, _, _]) dX0_isUnder_29 hN (by decide) rfl ?_
        refine za_iinc (nI 2) (lv' := [_, _, _, _]) dX0_isUnder_30 rfl hN (by decide) (by decide) rfl ?_
        refine za_goto 4 dX0_isUnder_33 (by decide) ?_
        refine za_iload_n dX0_isUnder_4 rfl ?_
        refine za_bipush (nI 6) dX0_isUnder_5 (by decide) ?_
        refine za_icmp_ge 36 dX0_isUnder_7 (by decide) (fun c7 => absurd c7 (by decide)) (fun c7 => ?_)
        refine za_iload_n dX0_isUnder_10 rfl ?_
        refine za_cN1 dX0_isUnder_11 zm_X0_9 zw_X5_isKind zs_X5_isKind (e_isKind _) (by decide) (Nat.le_of_ble_eq_true rfl) ?_
        refine za_if_eqB 36 dX0_isUnder_14 (by decide) (fun c14 => ?_) (fun c14 => absurd c14 (by decide))
        refine za_iconst (nI 0) dX0_isUnder_36 (by decide) ?_
        exact za_zretG hM dX0_isUnder_37 (by decide) ⟨congrArg (fun z => some (Value.int z)) (zb_f (by omega)).symm, rfl⟩
      · obtain rfl := zinj c19 (by decide) (by omega)
        refine za_iconst (nI 1) dX0_isUnder_22 (by decide) ?_
        exact za_zretG hM dX0_isUnder_23 (by decide) ⟨rfl, rfl⟩
    · obtain rfl := zinj c19 (by decide) (by omega)
      refine za_iconst (nI 1) dX0_isUnder_22 (by decide) ?_
      exact za_zretG hM dX0_isUnder_23 (by decide) ⟨rfl, rfl⟩
  · refine za_iload_n dX0_isUnder_0 rfl ?_
    refine za_istore_n (lv' := [_, _, _, _]) dX0_isUnder_1 hN (by decide) rfl ?_
    refine za_iconst (nI 0) dX0_isUnder_2 (by decide) ?_
    refine za_istore_n (lv' := [_, _, _, _]) dX0_isUnder_3 hN (by decide) rfl ?_
    refine za_iload_n dX0_isUnder_4 rfl ?_
    refine za_bipush (nI 6) dX0_isUnder_5 (by decide) ?_
    refine za_icmp_ge 36 dX0_isUnder_7 (by decide) (fun c7 => absurd c7 (by decide)) (fun c7 => ?_)
    refine za_iload_n dX0_isUnder_10 rfl ?_
    refine za_cN1 dX0_isUnder_11 zm_X0_9 zw_X5_isKind zs_X5_isKind (e_isKind _) (by decide) (Nat.le_of_ble_eq_true rfl) ?_
    refine za_if_eqB 36 dX0_isUnder_14 (by decide) (fun c14 => absurd (by decide) c14) (fun c14 => ?_)
    refine za_iload_n dX0_isUnder_17 rfl ?_
    refine za_iload_n dX0_isUnder_18 rfl ?_
    refine za_icmp_ne 24 dX0_isUnder_19 (by decide) (fun c19 => ?_) (fun c19 => ?_)
    · have n3 : ¬ b = 3 := fun h => c19 (by rw [h])
      refine za_getA dX0_isUnder_24 zg_X0_13 ?_
      refine za_iload_n dX0_isUnder_27 rfl ?_
      refine za_ldA dX0_isUnder_28 (by decide) ?_
      rw [show zAbove.getD 3 0 = (nI 0) from rfl]
      refine za_istore_n (lv' := [_, _, _, _]) dX0_isUnder_29 hN (by decide) rfl ?_
      refine za_iinc (nI 1) (lv' := [_, _, _, _]) dX0_isUnder_30 rfl hN (by decide) (by decide) rfl ?_
      refine za_goto 4 dX0_isUnder_33 (by decide) ?_
      refine za_iload_n dX0_isUnder_4 rfl ?_
      refine za_bipush (nI 6) dX0_isUnder_5 (by decide) ?_
      refine za_icmp_ge 36 dX0_isUnder_7 (by decide) (fun c7 => absurd c7 (by decide)) (fun c7 => ?_)
      refine za_iload_n dX0_isUnder_10 rfl ?_
      refine za_cN1 dX0_isUnder_11 zm_X0_9 zw_X5_isKind zs_X5_isKind (e_isKind _) (by decide) (Nat.le_of_ble_eq_true rfl) ?_
      refine za_if_eqB 36 dX0_isUnder_14 (by decide) (fun c14 => absurd (by decide) c14) (fun c14 => ?_)
      refine za_iload_n dX0_isUnder_17 rfl ?_
      refine za_iload_n dX0_isUnder_18 rfl ?_
      refine za_icmp_ne 24 dX0_isUnder_19 (by decide) (fun c19 => ?_) (fun c19 => ?_)
      · have n0 : ¬ b = 0 := fun h => c19 (by rw [h])
        refine za_getA dX0_isUnder_24 zg_X0_13 ?_
        refine za_iload_n dX0_isUnder_27 rfl ?_
        refine za_ldA dX0_isUnder_28 (by decide) ?_
        rw [show zAbove.getD 0 0 = (-1) from rfl]
        refine za_istore_n (lv' := [_, _, _, _]) dX0_isUnder_29 hN (by decide) rfl ?_
        refine za_iinc (nI 2) (lv' := [_, _, _, _]) dX0_isUnder_30 rfl hN (by decide) (by decide) rfl ?_
        refine za_goto 4 dX0_isUnder_33 (by decide) ?_
        refine za_iload_n dX0_isUnder_4 rfl ?_
        refine za_bipush (nI 6) dX0_isUnder_5 (by decide) ?_
        refine za_icmp_ge 36 dX0_isUnder_7 (by decide) (fun c7 => absurd c7 (by decide)) (fun c7 => ?_)
        refine za_iload_n dX0_isUnder_10 rfl ?_
        refine za_cN1 dX0_isUnder_11 zm_X0_9 zw_X5_isKind zs_X5_isKind (e_isKind _) (by decide) (Nat.le_of_ble_eq_true rfl) ?_
        refine za_if_eqB 36 dX0_isUnder_14 (by decide) (fun c14 => ?_) (fun c14 => absurd c14 (by decide))
        refine za_iconst (nI 0) dX0_isUnder_36 (by decide) ?_
        exact za_zretG hM dX0_isUnder_37 (by decide) ⟨congrArg (fun z => some (Value.int z)) (zb_f (by omega)).symm, rfl⟩
      · obtain rfl := zinj c19 (by decide) (by omega)
        refine za_iconst (nI 1) dX0_isUnder_22 (by decide) ?_
        exact za_zretG hM dX0_isUnder_23 (by decide) ⟨rfl, rfl⟩
    · obtain rfl := zinj c19 (by decide) (by omega)
      refine za_iconst (nI 1) dX0_isUnder_22 (by decide) ?_
      exact za_zretG hM dX0_isUnder_23 (by decide) ⟨rfl, rfl⟩
  · refine za_iload_n dX0_isUnder_0 rfl ?_
    refine za_istore_n (lv' := [_, _, _, _]) dX0_isUnder_1 hN (by decide) rfl ?_
    refine za_iconst (nI 0) dX0_isUnder_2 (by decide) ?_
    refine za_istore_n (lv' := [_, _, _, _]) dX0_isUnder_3 hN (by decide) rfl ?_
    refine za_iload_n dX0_isUnder_4 rfl ?_
    refine za_bipush (nI 6) dX0_isUnder_5 (by decide) ?_
    refine za_icmp_ge 36 dX0_isUnder_7 (by decide) (fun c7 => absurd c7 (by decide)) (fun c7 => ?_)
    refine za_iload_n dX0_isUnder_10 rfl ?_
    refine za_cN1 dX0_isUnder_11 zm_X0_9 zw_X5_isKind zs_X5_isKind (e_isKind _) (by decide) (Nat.le_of_ble_eq_true rfl) ?_
    refine za_if_eqB 36 dX0_isUnder_14 (by decide) (fun c14 => absurd (by decide) c14) (fun c14 => ?_)
    refine za_iload_n dX0_isUnder_17 rfl ?_
    refine za_iload_n dX0_isUnder_18 rfl ?_
    refine za_icmp_ne 24 dX0_isUnder_19 (by decide) (fun c19 => ?_) (fun c19 => ?_)
    · have n4 : ¬ b = 4 := fun h => c19 (by rw [h])
      refine za_getA dX0_isUnder_24 zg_X0_13 ?_
      refine za_iload_n dX0_isUnder_27 rfl ?_
      refine za_ldA dX0_isUnder_28 (by decide) ?_
      rw [show zAbove.getD 4 0 = (nI 1) from rfl]
      refine za_istore_n (lv' := [_, _, _, _]) dX0_isUnder_29 hN (by decide) rfl ?_
      refine za_iinc (nI 1) (lv' := [_, _, _, _]) dX0_isUnder_30 rfl hN (by decide) (by decide) rfl ?_
      refine za_goto 4 dX0_isUnder_33 (by decide) ?_
      refine za_iload_n dX0_isUnder_4 rfl ?_
      refine za_bipush (nI 6) dX0_isUnder_5 (by decide) ?_
      refine za_icmp_ge 36 dX0_isUnder_7 (by decide) (fun c7 => absurd c7 (by decide)) (fun c7 => ?_)
      refine za_iload_n dX0_isUnder_10 rfl ?_
      refine za_cN1 dX0_isUnder_11 zm_X0_9 zw_X5_isKind zs_X5_isKind (e_isKind _) (by decide) (Nat.le_of_ble_eq_true rfl) ?_
      refine za_if_eqB 36 dX0_isUnder_14 (by decide) (fun c14 => absurd (by decide) c14) (fun c14 => ?_)
      refine za_iload_n dX0_isUnder_17 rfl ?_
      refine za_iload_n dX0_isUnder_18 rfl ?_
      refine za_icmp_ne 24 dX0_isUnder_19 (by decide) (fun c19 => ?_) (fun c19 => ?_)
      · have n1 : ¬ b = 1 := fun h => c19 (by rw [h])
        refine za_getA dX0_isUnder_24 zg_X0_13 ?_
        refine za_iload_n dX0_isUnder_27 rfl ?_
        refine za_ldA dX0_isUnder_28 (by decide) ?_
        rw [show zAbove.getD 1 0 = (nI 0) from rfl]
        refine za_istore_n (lv' := [_, _, _, _]) dX0_isUnder_29 hN (by decide) rfl ?_
        refine za_iinc (nI 2) (lv' := [_, _, _, _]) dX0_isUnder_30 rfl hN (by decide) (by decide) rfl ?_
        refine za_goto 4 dX0_isUnder_33 (by decide) ?_
        refine za_iload_n dX0_isUnder_4 rfl ?_
        refine za_bipush (nI 6) dX0_isUnder_5 (by decide) ?_
        refine za_icmp_ge 36 dX0_isUnder_7 (by decide) (fun c7 => absurd c7 (by decide)) (fun c7 => ?_)
        refine za_iload_n dX0_isUnder_10 rfl ?_
        refine za_cN1 dX0_isUnder_11 zm_X0_9 zw_X5_isKind zs_X5_isKind (e_isKind _) (by decide) (Nat.le_of_ble_eq_true rfl) ?_
        refine za_if_eqB 36 dX0_isUnder_14 (by decide) (fun c14 => absurd (by decide) c14) (fun c14 => ?_)
        refine za_iload_n dX0_isUnder_17 rfl ?_
        refine za_iload_n dX0_isUnder_18 rfl ?_
        refine za_icmp_ne 24 dX0_isUnder_19 (by decide) (fun c19 => ?_) (fun c19 => ?_)
        · have n0 : ¬ b = 0 := fun h => c19 (by rw [h])
          refine za_getA dX0_isUnder_24 zg_X0_13 ?_
          refine za_iload_n dX0_isUnder_27 rfl ?_
          refine za_ldA dX0_isUnder_28 (by decide) ?_
          rw [show zAbove.getD 0 0 = (-1) from rfl]
          refine za_istore_n (lv' := [_, _, _, _]) dX0_isUnder_29 hN (by decide) rfl ?_
          refine za_iinc (nI 3) (lv' := [_, _, _, _]) dX0_isUnder_30 rfl hN (by decide) (by decide) rfl ?_
          refine za_goto 4 dX0_isUnder_33 (by decide) ?_
          refine za_iload_n dX0_isUnder_4 rfl ?_
          refine za_bipush (nI 6) dX0_isUnder_5 (by decide) ?_
          refine za_icmp_ge 36 dX0_isUnder_7 (by decide) (fun c7 => absurd c7 (by decide)) (fun c7 => ?_)
          refine za_iload_n dX0_isUnder_10 rfl ?_
          refine za_cN1 dX0_isUnder_11 zm_X0_9 zw_X5_isKind zs_X5_isKind (e_isKind _) (by decide) (Nat.le_of_ble_eq_true rfl) ?_
          refine za_if_eqB 36 dX0_isUnder_14 (by decide) (fun c14 => ?_) (fun c14 => absurd c14 (by decide))
          refine za_iconst (nI 0) dX0_isUnder_36 (by decide) ?_
          exact za_zretG hM dX0_isUnder_37 (by decide) ⟨congrArg (fun z => some (Value.int z)) (zb_f (by omega)).symm, rfl⟩
        · obtain rfl := zinj c19 (by decide) (by omega)
          refine za_iconst (nI 1) dX0_isUnder_22 (by decide) ?_
          exact za_zretG hM dX0_isUnder_23 (by decide) ⟨rfl, rfl⟩
      · obtain rfl := zinj c19 (by decide) (by omega)
        refine za_iconst (nI 1) dX0_isUnder_22 (by decide) ?_
        exact za_zretG hM dX0_isUnder_23 (by decide) ⟨rfl, rfl⟩
    · obtain rfl := zinj c19 (by decide) (by omega)
      refine za_iconst (nI 1) dX0_isUnder_22 (by decide) ?_
      exact za_zretG hM dX0_isUnder_23 (by decide) ⟨rfl, rfl⟩
  · refine za_iload_n dX0_isUnder_0 rfl ?_
    refine za_istore_n (lv' := [_, _, _, _]) dX0_isUnder_1 hN (by decide) rfl ?_
    refine za_iconst (nI 0) dX0_isUnder_2 (by decide) ?_
    refine za_istore_n (lv' := [_, _, _, _]) dX0_isUnder_3 hN (by decide) rfl ?_
    refine za_iload_n dX0_isUnder_4 rfl ?_
    refine za_bipush (nI 6) dX0_isUnder_5 (by decide) ?_
    refine za_icmp_ge 36 dX0_isUnder_7 (by decide) (fun c7 => absurd c7 (by decide)) (fun c7 => ?_)
    refine za_iload_n dX0_isUnder_10 rfl ?_
    refine za_cN1 dX0_isUnder_11 zm_X0_9 zw_X5_isKind zs_X5_isKind (e_isKind _) (by decide) (Nat.le_of_ble_eq_true rfl) ?_
    refine za_if_eqB 36 dX0_isUnder_14 (by decide) (fun c14 => absurd (by decide) c14) (fun c14 => ?_)
    refine za_iload_n dX0_isUnder_17 rfl ?_
    refine za_iload_n dX0_isUnder_18 rfl ?_
    refine za_icmp_ne 24 dX0_isUnder_19 (by decide) (fun c19 => ?_) (fun c19 => ?_)
    · have n5 : ¬ b = 5 := fun h => c19 (by rw [h])
      refine za_getA dX0_isUnder_24 zg_X0_13 ?_
      refine za_iload_n dX0_isUnder_27 rfl ?_
      refine za_ldA dX0_isUnder_28 (by decide) ?_
      rw [show zAbove.getD 5 0 = (nI 2) from rfl]
      refine za_istore_n (lv' := [_, _, _, _]) dX0_isUnder_29 hN (by decide) rfl ?_
      refine za_iinc (nI 1) (lv' := [_, _, _, _]) dX0_isUnder_30 rfl hN (by decide) (by decide) rfl ?_
      refine za_goto 4 dX0_isUnder_33 (by decide) ?_
      refine za_iload_n dX0_isUnder_4 rfl ?_
      refine za_bipush (nI 6) dX0_isUnder_5 (by decide) ?_
      refine za_icmp_ge 36 dX0_isUnder_7 (by decide) (fun c7 => absurd c7 (by decide)) (fun c7 => ?_)
      refine za_iload_n dX0_isUnder_10 rfl ?_
      refine za_cN1 dX0_isUnder_11 zm_X0_9 zw_X5_isKind zs_X5_isKind (e_isKind _) (by decide) (Nat.le_of_ble_eq_true rfl) ?_
      refine za_if_eqB 36 dX0_isUnder_14 (by decide) (fun c14 => absurd (by decide) c14) (fun c14 => ?_)
      refine za_iload_n dX0_isUnder_17 rfl ?_
      refine za_iload_n dX0_isUnder_18 rfl ?_
      refine za_icmp_ne 24 dX0_isUnder_19 (by decide) (fun c19 => ?_) (fun c19 => ?_)
      · have n2 : ¬ b = 2 := fun h => c19 (by rw [h])
        refine za_getA dX0_isUnder_24 zg_X0_13 ?_
        refine za_iload_n dX0_isUnder_27 rfl ?_
        refine za_ldA dX0_isUnder_28 (by decide) ?_
        rw [show zAbove.getD 2 0 = (nI 0) from rfl]
        refine za_istore_n (lv' := [_, _, _, _]) dX0_isUnder_29 hN (by decide) rfl ?_
        refine za_iinc (nI 2) (lv' := [_, _, _, _]) dX0_isUnder_30 rfl hN (by decide) (by decide) rfl ?_
        refine za_goto 4 dX0_isUnder_33 (by decide) ?_
        refine za_iload_n dX0_isUnder_4 rfl ?_
        refine za_bipush (nI 6) dX0_isUnder_5 (by decide) ?_
        refine za_icmp_ge 36 dX0_isUnder_7 (by decide) (fun c7 => absurd c7 (by decide)) (fun c7 => ?_)
        refine za_iload_n dX0_isUnder_10 rfl ?_
        refine za_cN1 dX0_isUnder_11 zm_X0_9 zw_X5_isKind zs_X5_isKind (e_isKind _) (by decide) (Nat.le_of_ble_eq_true rfl) ?_
        refine za_if_eqB 36 dX0_isUnder_14 (by decide) (fun c14 => absurd (by decide) c14) (fun c14 => ?_)
        refine za_iload_n dX0_isUnder_17 rfl ?_
        refine za_iload_n dX0_isUnder_18 rfl ?_
        refine za_icmp_ne 24 dX0_isUnder_19 (by decide) (fun c19 => ?_) (fun c19 => ?_)
        · have n0 : ¬ b = 0 := fun h => c19 (by rw [h])
          refine za_getA dX0_isUnder_24 zg_X0_13 ?_
          refine za_iload_n dX0_isUnder_27 rfl ?_
          refine za_ldA dX0_isUnder_28 (by decide) ?_
          rw [show zAbove.getD 0 0 = (-1) from rfl]
          refine za_istore_n (lv' := [_, _, _, _]) dX0_isUnder_29 hN (by decide) rfl ?_
          refine za_iinc (nI 3) (lv' := [_, _, _, _]) dX0_isUnder_30 rfl hN (by decide) (by decide) rfl ?_
          refine za_goto 4 dX0_isUnder_33 (by decide) ?_
          refine za_iload_n dX0_isUnder_4 rfl ?_
          refine za_bipush (nI 6) dX0_isUnder_5 (by decide) ?_
          refine za_icmp_ge 36 dX0_isUnder_7 (by decide) (fun c7 => absurd c7 (by decide)) (fun c7 => ?_)
          refine za_iload_n dX0_isUnder_10 rfl ?_
          refine za_cN1 dX0_isUnder_11 zm_X0_9 zw_X5_isKind zs_X5_isKind (e_isKind _) (by decide) (Nat.le_of_ble_eq_true rfl) ?_
          refine za_if_eqB 36 dX0_isUnder_14 (by decide) (fun c14 => ?_) (fun c14 => absurd c14 (by decide))
          refine za_iconst (nI 0) dX0_isUnder_36 (by decide) ?_
          exact za_zretG hM dX0_isUnder_37 (by decide) ⟨congrArg (fun z => some (Value.int z)) (zb_f (by omega)).symm, rfl⟩
        · obtain rfl := zinj c19 (by decide) (by omega)
          refine za_iconst (nI 1) dX0_isUnder_22 (by decide) ?_
          exact za_zretG hM dX0_isUnder_23 (by decide) ⟨rfl, rfl⟩
      · obtain rfl := zinj c19 (by decide) (by omega)
        refine za_iconst (nI 1) dX0_isUnder_22 (by decide) ?_
        exact za_zretG hM dX0_isUnder_23 (by decide) ⟨rfl, rfl⟩
    · obtain rfl := zinj c19 (by decide) (by omega)
      refine za_iconst (nI 1) dX0_isUnder_22 (by decide) ?_
      exact za_zretG hM dX0_isUnder_23 (by decide) ⟨rfl, rfl⟩

theorem p_earn_at : ∀ k, k < 6 → zEarn.getD k 0 = p_earn (nI k) := by decide +kernel

set_option maxRecDepth 20000 in
set_option maxHeartbeats 4000000 in
theorem e_earns {g : zG} {σ : zSto} {x : Int32} (hx : zlt x 6) : zEd g 2 yX0_earns cX0_earns 1 (some .int) [.int x] σ (some (.int (p_earn x))) σ := by
  refine zev_intro (own := RX0) (lv := [some (.int x)]) (by decide +kernel) rfl (Nat.le_of_ble_eq_true rfl) rfl (fun C hM hN => ?_)
  obtain ⟨k, hk, rfl⟩ := hx
  refine za_iload_n dX0_earns_0 rfl ?_
  refine za_cN1 dX0_earns_1 zm_X0_9 zw_X5_isKind zs_X5_isKind (e_isKind _) (by decide) (Nat.le_of_ble_eq_true rfl) ?_
  refine za_if_eqB 15 dX0_earns_4 (by decide) (fun c4 => absurd ⟨nI_le (Nat.zero_le k) (by omega), nI_le (by omega) (by omega)⟩ c4) (fun c4 => ?_)
  refine za_getE dX0_earns_7 zg_X0_19 ?_
  refine za_iload_n dX0_earns_10 rfl ?_
  refine za_ldE dX0_earns_11 hk ?_
  refine za_goto 16 dX0_earns_12 (by decide) ?_
  exact za_iret hM dX0_earns_16 ⟨congrArg (fun z => some (Value.int z)) (p_earn_at k hk), rfl⟩

set_option maxRecDepth 20000 in
set_option maxHeartbeats 4000000 in
theorem e_wouldThrow {g : zG} {σ : zSto} {x c : Int32} (hx : zlt x 6) : zEd g 0 yX0_wouldThrow cX0_wouldThrow 2 (some .int) [.int x, .int c] σ (some (.int (p_wt x c))) σ := by
  refine zev_intro (own := RX0) (lv := [some (.int x), some (.int c)]) (by decide +kernel) rfl (Nat.le_of_ble_eq_true rfl) rfl (fun C hM hN => ?_)
  refine za_iload_n dX0_wouldThrow_0 rfl ?_
  obtain rfl | rfl | rfl | rfl | rfl | rfl := zlt6' hx
  · refine za_tabO 56 dX0_wouldThrow_1 (by decide) (by decide) ?_
    refine za_iconst (nI 1) dX0_wouldThrow_56 (by decide) ?_
    exact za_iret hM dX0_wouldThrow_57 ⟨by rfl, by rfl⟩
  · refine za_tabK (35) 36 dX0_wouldThrow_1 (by decide) (by decide) (by decide) (by decide) ?_
    refine za_iconst (nI 1) dX0_wouldThrow_36 (by decide) ?_
    refine za_iload_n dX0_wouldThrow_37 rfl ?_
    refine za_bipush (nI 20) dX0_wouldThrow_38 (by decide) ?_
    refine za_idiv dX0_wouldThrow_40 (by decide) ?_
    refine za_iadd dX0_wouldThrow_41 ?_
    exact za_iret hM dX0_wouldThrow_42 ⟨by rfl, by rfl⟩
  · refine za_tabK (42) 43 dX0_wouldThrow_1 (by decide) (by decide) (by decide) (by decide) ?_
    refine za_iconst (nI 0) dX0_wouldThrow_43 (by decide) ?_
    exact za_iret hM dX0_wouldThrow_44 ⟨by rfl, by rfl⟩
  · refine za_tabK (44) 45 dX0_wouldThrow_1 (by decide) (by decide) (by decide) (by decide) ?_
    refine za_iconst (nI 3) dX0_wouldThrow_45 (by decide) ?_
    exact za_iret hM dX0_wouldThrow_46 ⟨by rfl, by rfl⟩
  · refine za_tabK (46) 47 dX0_wouldThrow_1 (by decide) (by decide) (by decide) (by decide) ?_
    refine za_iconst (nI 2) dX0_wouldThrow_47 (by decide) ?_
    refine za_iconst (nI 1) dX0_wouldThrow_48 (by decide) ?_
    refine za_iload_n dX0_wouldThrow_49 rfl ?_
    refine za_bipush (nI 20) dX0_wouldThrow_50 (by decide) ?_
    refine za_idiv dX0_wouldThrow_52 (by decide) ?_
    refine za_iadd dX0_wouldThrow_53 ?_
    refine za_imul dX0_wouldThrow_54 ?_
    exact za_iret hM dX0_wouldThrow_55 ⟨by rfl, by rfl⟩
  · refine za_tabK (42) 43 dX0_wouldThrow_1 (by decide) (by decide) (by decide) (by decide) ?_
    refine za_iconst (nI 0) dX0_wouldThrow_43 (by decide) ?_
    exact za_iret hM dX0_wouldThrow_44 ⟨by rfl, by rfl⟩

set_option maxRecDepth 20000 in
set_option maxHeartbeats 4000000 in
theorem e_throwsWith {g : zG} {σ : zSto} {x c : Int32} (hx : zlt x 6) : zEd g 1 yX0_throwsWith cX0_throwsWith 2 (some .int) [.int x, .int c] σ (some (.int (p_thr x c))) σ := by
  refine zev_intro (own := RX0) (lv := [some (.int x), some (.int c)]) (by decide +kernel) rfl (Nat.le_of_ble_eq_true rfl) rfl (fun C hM hN => ?_)
  refine za_iload_n dX0_throwsWith_0 rfl ?_
  refine za_iload_n dX0_throwsWith_1 rfl ?_
  refine za_cS2 dX0_throwsWith_2 zm_X0_22 zw_X0_wouldThrow zs_X0_wouldThrow (e_wouldThrow (by assumption)) (by decide) (Nat.le_of_ble_eq_true rfl) ?_
  refine za_iload_n dX0_throwsWith_5 rfl ?_
  refine za_mmin dX0_throwsWith_6 zm_X0_26 (by decide) (Nat.le_of_ble_eq_true rfl) ?_
  exact za_iret hM dX0_throwsWith_9 ⟨by rfl, by rfl⟩

set_option maxRecDepth 20000 in
set_option maxHeartbeats 4000000 in
theorem e_dives {g : zG} {σ : zSto} {x l r : Int32} (hx : zlt x 6) : zEd g 1 yX0_dives cX0_dives 3 (some .int) [.int x, .int l, .int r] σ (some (.int (p_div x l r))) σ := by
  refine zev_intro (own := RX0) (lv := [some (.int x), some (.int l), some (.int r)]) (by decide +kernel) rfl (Nat.le_of_ble_eq_true rfl) rfl (fun C hM hN => ?_)
  refine za_iload_n dX0_dives_0 rfl ?_
  obtain rfl | rfl | rfl | rfl | rfl | rfl := zlt6' hx
  · refine za_look (off := 54) 55 dX0_dives_1 (by decide) (by decide +kernel) (by decide) ?_
    refine za_iconst (nI 0) dX0_dives_55 (by decide) ?_
    exact za_iret hM dX0_dives_56 ⟨by rfl, by rfl⟩
  · refine za_look (off := 54) 55 dX0_dives_1 (by decide) (by decide +kernel) (by decide) ?_
    refine za_iconst (nI 0) dX0_dives_55 (by decide) ?_
    exact za_iret hM dX0_dives_56 ⟨by rfl, by rfl⟩
  · refine za_look (off := 27) 28 dX0_dives_1 (by decide) (by decide +kernel) (by decide) ?_
    refine za_iconst (nI 2) dX0_dives_28 (by decide) ?_
    refine za_iload_n dX0_dives_29 rfl ?_
    refine za_iload_n dX0_dives_30 rfl ?_
    refine za_mmax dX0_dives_31 zm_X0_31 (by decide) (Nat.le_of_ble_eq_true rfl) ?_
    refine za_mmin dX0_dives_34 zm_X0_26 (by decide) (Nat.le_of_ble_eq_true rfl) ?_
    exact za_iret hM dX0_dives_37 ⟨by rfl, by rfl⟩
  · refine za_look (off := 54) 55 dX0_dives_1 (by decide) (by decide +kernel) (by decide) ?_
    refine za_iconst (nI 0) dX0_dives_55 (by decide) ?_
    exact za_iret hM dX0_dives_56 ⟨by rfl, by rfl⟩
  · refine za_look (off := 54) 55 dX0_dives_1 (by decide) (by decide +kernel) (by decide) ?_
    refine za_iconst (nI 0) dX0_dives_55 (by decide) ?_
    exact za_iret hM dX0_dives_56 ⟨by rfl, by rfl⟩
  · refine za_look (off := 37) 38 dX0_dives_1 (by decide) (by decide +kernel) (by decide) ?_
    refine za_iconst (nI 2) dX0_dives_38 (by decide) ?_
    refine za_iload_n dX0_dives_39 rfl ?_
    refine za_iload_n dX0_dives_40 rfl ?_
    refine za_iadd dX0_dives_41 ?_
    refine za_bipush (nI 10) dX0_dives_42 (by decide) ?_
    refine za_idiv dX0_dives_44 (by decide) ?_
    refine za_iadd dX0_dives_45 ?_
    refine za_iload_n dX0_dives_46 rfl ?_
    refine za_iload_n dX0_dives_47 rfl ?_
    refine za_mmax dX0_dives_48 zm_X0_31 (by decide) (Nat.le_of_ble_eq_true rfl) ?_
    refine za_mmin dX0_dives_51 zm_X0_26 (by decide) (Nat.le_of_ble_eq_true rfl) ?_
    exact za_iret hM dX0_dives_54 ⟨by rfl, by rfl⟩
end
section
/-! A TOWN: numbers by row and place: 0 day, holds, bribed, people; 1 left; 2 right; 3 kinds; 4 leans; 5 pence; 6 away -/
abbrev zvl (k j : Nat) : Prop := (k = 0 ∧ j < 4) ∨ ((k = 1 ∨ k = 2) ∧ j < 6) ∨ ((3 ≤ k ∧ k < 7) ∧ j < 8)
abbrev zTn : Type := Nat → Nat → Int32
def zup (τ : zTn) (k i : Nat) (v : Int32) : zTn := fun a b => if a = k ∧ b = i then v else τ a b
def zpt (σ : zSto) (o : Nat) (τ : zTn) : zSto := (fun a b => if o ≤ a ∧ zvl (a - o) b then τ (a - o) b else σ.1 a b, σ.2)
def ztw (σ : zSto) (o : Nat) : zTn := fun k j => σ.1 (o + k) j
def zTo (o : Nat) : Prop := o = 1 ∨ o = 8 ∨ o = 15
theorem zup_at (τ : zTn) (k i : Nat) (v : Int32) : zup τ k i v k i = v := by simp [zup]
theorem zup_ne (τ : zTn) {k i a b : Nat} (v : Int32) (h : ¬ (a = k ∧ b = i)) : zup τ k i v a b = τ a b := if_neg h
theorem zup_self (τ : zTn) (k i : Nat) : zup τ k i (τ k i) = τ := by
  funext a b
  by_cases h : a = k ∧ b = i
  · obtain ⟨rfl, rfl⟩ := h; exact zup_at _ _ _ _
  · exact zup_ne _ _ h
theorem zup_comm (τ : zTn) {k i k' i' : Nat} (v v' : Int32) (h : ¬ (k = k' ∧ i = i')) : zup (zup τ k i v) k' i' v' = zup (zup τ k' i' v') k i v := by
  funext a b
  by_cases h1 : a = k' ∧ b = i'
  · obtain ⟨rfl, rfl⟩ := h1
    rw [zup_at, zup_ne _ _ (fun q => h ⟨q.1.symm, q.2.symm⟩), zup_at]
  · rw [zup_ne _ _ h1]
    by_cases h2 : a = k ∧ b = i
    · obtain ⟨rfl, rfl⟩ := h2
      rw [zup_at, zup_at]
    · rw [zup_ne _ _ h2, zup_ne _ _ h2, zup_ne _ _ h1]
theorem zpt_at {σ : zSto} {o : Nat} {τ : zTn} {k i : Nat} (hv : zvl k i) : (zpt σ o τ).1 (o + k) i = τ k i := by
  show (if o ≤ o + k ∧ zvl (o + k - o) i then τ (o + k - o) i else _) = _
  rw [Nat.add_sub_cancel_left, if_pos ⟨Nat.le_add_right _ _, hv⟩]
theorem zpt_at0 {σ : zSto} {o : Nat} {τ : zTn} {i : Nat} (hv : i < 4) : (zpt σ o τ).1 o i = τ 0 i := zpt_at (k := 0) (Or.inl ⟨rfl, hv⟩)
theorem zpt_si {σ : zSto} {o : Nat} {τ : zTn} {k i : Nat} {v : Int32} (hv : zvl k i) : zsi (zpt σ o τ) (o + k) i v = zpt σ o (zup τ k i v) := by
  refine Prod.ext (funext fun a => funext fun b => ?_) rfl
  show (if a = o + k ∧ b = i then v else if o ≤ a ∧ zvl (a - o) b then τ (a - o) b else σ.1 a b) = (if o ≤ a ∧ zvl (a - o) b then (if a - o = k ∧ b = i then v else τ (a - o) b) else σ.1 a b)
  by_cases h : a = o + k ∧ b = i
  · obtain ⟨rfl, rfl⟩ := h
    rw [if_pos ⟨rfl, rfl⟩, Nat.add_sub_cancel_left, if_pos ⟨Nat.le_add_right _ _, hv⟩, if_pos ⟨rfl, rfl⟩]
  · rw [if_neg h]
    by_cases h2 : o ≤ a ∧ zvl (a - o) b
    · rw [if_pos h2, if_pos h2, if_neg (fun q => h ⟨by omega, q.2⟩)]
    · rw [if_neg h2, if_neg h2]
theorem zpt_pt {σ : zSto} {o : Nat} {τ τ' : zTn} : zpt (zpt σ o τ) o τ' = zpt σ o τ' := by
  refine Prod.ext (funext fun a => funext fun b => ?_) rfl
  show (if o ≤ a ∧ zvl (a - o) b then τ' (a - o) b else if o ≤ a ∧ zvl (a - o) b then τ (a - o) b else σ.1 a b) = (if o ≤ a ∧ zvl (a - o) b then τ' (a - o) b else σ.1 a b)
  by_cases h : o ≤ a ∧ zvl (a - o) b
  · rw [if_pos h, if_pos h]
  · rw [if_neg h, if_neg h, if_neg h]
theorem zpt_tw {σ : zSto} {o : Nat} : zpt σ o (ztw σ o) = σ := by
  refine Prod.ext (funext fun a => funext fun b => ?_) rfl
  show (if o ≤ a ∧ zvl (a - o) b then σ.1 (o + (a - o)) b else σ.1 a b) = σ.1 a b
  by_cases h : o ≤ a ∧ zvl (a - o) b
  · rw [if_pos h, show o + (a - o) = a by omega]
  · rw [if_neg h]
theorem zpt_congr {σ : zSto} {o : Nat} {τ τ' : zTn} (h : ∀ k i, zvl k i → τ k i = τ' k i) : zpt σ o τ = zpt σ o τ' := by
  refine Prod.ext (funext fun a => funext fun b => ?_) rfl
  show (if o ≤ a ∧ zvl (a - o) b then τ (a - o) b else σ.1 a b) = (if o ≤ a ∧ zvl (a - o) b then τ' (a - o) b else σ.1 a b)
  by_cases h1 : o ≤ a ∧ zvl (a - o) b
  · rw [if_pos h1, if_pos h1, h _ _ h1.2]
  · rw [if_neg h1, if_neg h1]
theorem tn0 {o : Nat} (h : zTo o) : zsh[o]? = some (.inl (3, [none, none, none, none, some (o + 1), some (o + 2), some (o + 3), some (o + 4), some (o + 5), some (o + 6)])) := by
  rcases h with rfl | rfl | rfl <;> rfl
theorem tn1 {o : Nat} (h : zTo o) : zsh[o + 1]? = some (.inr (.inl (0, 6))) := by rcases h with rfl | rfl | rfl <;> rfl
theorem tn2 {o : Nat} (h : zTo o) : zsh[o + 2]? = some (.inr (.inl (0, 6))) := by rcases h with rfl | rfl | rfl <;> rfl
theorem tn3 {o : Nat} (h : zTo o) : zsh[o + 3]? = some (.inr (.inl (0, 8))) := by rcases h with rfl | rfl | rfl <;> rfl
theorem tn4 {o : Nat} (h : zTo o) : zsh[o + 4]? = some (.inr (.inl (0, 8))) := by rcases h with rfl | rfl | rfl <;> rfl
theorem tn5 {o : Nat} (h : zTo o) : zsh[o + 5]? = some (.inr (.inl (0, 8))) := by rcases h with rfl | rfl | rfl <;> rfl
theorem tn6 {o : Nat} (h : zTo o) : zsh[o + 6]? = some (.inr (.inl (0, 8))) := by rcases h with rfl | rfl | rfl <;> rfl
theorem zv1 {q : Nat} (h : q < 6) : zvl 1 q := Or.inr (Or.inl ⟨Or.inl rfl, h⟩)
theorem zv2 {q : Nat} (h : q < 6) : zvl 2 q := Or.inr (Or.inl ⟨Or.inr rfl, h⟩)
theorem zvs {q s : Nat} (h : q < 6) (hs : s < 2) : zvl (1 + s) q := Or.inr (Or.inl ⟨by omega, h⟩)
theorem zvp {p k : Nat} (h : p < 8) (h1 : 3 ≤ k) (h2 : k < 7) : zvl k p := Or.inr (Or.inr ⟨⟨h1, h2⟩, h⟩)
theorem zv3 {p : Nat} (h : p < 8) : zvl 3 p := zvp h (by decide) (by decide)
theorem zv4 {p : Nat} (h : p < 8) : zvl 4 p := zvp h (by decide) (by decide)
theorem zv5 {p : Nat} (h : p < 8) : zvl 5 p := zvp h (by decide) (by decide)
theorem zv6 {p : Nat} (h : p < 8) : zvl 6 p := zvp h (by decide) (by decide)
section ZTROWS
variable {g : zG} {C : zC} {dd : Nat} {cc : ByteArray} {own : String} {pc : Nat} {lv : List (Option Value)} {st : List Value} {σ : zSto} {τ : zTn} {o : Nat}
theorem zt_len {k i : Nat} (hT : zTo o) (h1 : 1 ≤ k) (hv : zvl k i) : ∃ n, zsh[o + k]? = some (.inr (.inl (0, n))) ∧ i < n := by
  rcases hv with ⟨a, b⟩ | ⟨a | a, b⟩ | ⟨a, b⟩
  · omega
  · subst a; exact ⟨6, tn1 hT, b⟩
  · subst a; exact ⟨6, tn2 hT, b⟩
  · rcases (show k = 3 ∨ k = 4 ∨ k = 5 ∨ k = 6 by omega) with rfl | rfl | rfl | rfl
    · exact ⟨8, tn3 hT, b⟩
    · exact ⟨8, tn4 hT, b⟩
    · exact ⟨8, tn5 hT, b⟩
    · exact ⟨8, tn6 hT, b⟩
theorem zt_getI {idx j : Nat} (hT : zTo o) (hd : decode cc pc = .ok (.getfield idx, 3)) (hf : zFL own idx 3 j) (hj : j < 4) (k : zAW g C dd cc own (pc + 3) lv (.int (τ 0 j) :: st) (zpt σ o τ)) : zAW g C dd cc own pc lv (.ref (zad g o) :: st) (zpt σ o τ) := by
  refine za_getI hd hf (tn0 hT) (by rcases (show j = 0 ∨ j = 1 ∨ j = 2 ∨ j = 3 by omega) with rfl | rfl | rfl | rfl <;> rfl) ?_
  rw [zpt_at0 hj]
  exact k
theorem zt_putI {idx j : Nat} {v : Int32} (hT : zTo o) (hd : decode cc pc = .ok (.putfield idx, 3)) (hf : zFL own idx 3 j) (hp : zFP 3 j .int) (hj : j < 4) (k : zAW g C dd cc own (pc + 3) lv st (zpt σ o (zup τ 0 j v))) : zAW g C dd cc own pc lv (.int v :: .ref (zad g o) :: st) (zpt σ o τ) := by
  refine za_putI hd hf hp (tn0 hT) (by rcases (show j = 0 ∨ j = 1 ∨ j = 2 ∨ j = 3 by omega) with rfl | rfl | rfl | rfl <;> rfl) ?_
  have h := zpt_si (σ := σ) (o := o) (τ := τ) (k := 0) (i := j) (v := v) (Or.inl ⟨rfl, hj⟩)
  rw [Nat.add_zero] at h
  rw [h]
  exact k
theorem zt_iald {a i : Nat} (hT : zTo o) (h1 : 1 ≤ a) (hd : decode cc pc = .ok (.iaload, 1)) (hv : zvl a i) (k : zAW g C dd cc own (pc + 1) lv (.int (τ a i) :: st) (zpt σ o τ)) : zAW g C dd cc own pc lv (.int (nI i) :: .ref (zad g (o + a)) :: st) (zpt σ o τ) := by
  obtain ⟨n, hs, hi⟩ := zt_len hT h1 hv
  refine za_iald hd hs hi ?_
  rw [zpt_at hv]
  exact k
theorem zt_iast {a i : Nat} {v : Int32} (hT : zTo o) (h1 : 1 ≤ a) (hd : decode cc pc = .ok (.iastore, 1)) (hv : zvl a i) (k : zAW g C dd cc own (pc + 1) lv st (zpt σ o (zup τ a i v))) : zAW g C dd cc own pc lv (.int v :: .int (nI i) :: .ref (zad g (o + a)) :: st) (zpt σ o τ) := by
  obtain ⟨n, hs, hi⟩ := zt_len hT h1 hv
  refine za_iast hd hs hi ?_
  rw [zpt_si hv]
  exact k
end ZTROWS
/-! what a town does, as numbers -/
def zn (x : Int32) : Nat := x.toNatClampNeg
theorem zn_nI {k : Nat} (h : k < 2 ^ 31) : zn (nI k) = k := nI_clamp h
theorem zlt_zn {x : Int32} {n : Nat} (h : zlt x n) (hn : n ≤ 2 ^ 31) : x = nI (zn x) ∧ zn x < n := by
  obtain ⟨k, hk, rfl⟩ := h
  rw [zn_nI (by omega)]
  exact ⟨rfl, hk⟩
theorem zrem {x : Int32} {B n : Nat} (h : zlt x B) (hB : B ≤ 2 ^ 31) (h0 : 0 < n) (hn : n < 2 ^ 31) : x - x / nI n * nI n = nI (zn x % n) := by
  obtain ⟨k, hk, rfl⟩ := h
  rw [zn_nI (by omega)]
  exact pk_rem (by omega) h0 hn
def p_own (τ : zTn) (p q : Nat) : Nat := if (τ 4 p >>> (nI q &&& 31)) &&& nI 1 = nI 1 then 0 else 1
def p_lady (τ : zTn) (p q : Nat) : Nat := if nI 20 < τ (1 + p_own τ p q) q - τ (1 + (1 - p_own τ p q)) q then 1 - p_own τ p q else p_own τ p q
def p_side (τ : zTn) (p q : Nat) : Nat := if τ 3 p = nI 1 then p_lady τ p q else if τ 3 p = nI 2 ∨ τ 3 p = nI 5 then (if τ 2 q < τ 1 q then 1 else 0) else if τ 3 p = nI 3 then zn (τ 0 0) % 2 else if τ 3 p = nI 4 then zn (τ 0 2) else p_own τ p q
def p_full (τ : zTn) (q : Nat) : Nat := if τ 1 q < τ 2 q then 1 else 0
theorem p_own_lt {τ : zTn} {p q : Nat} : p_own τ p q < 2 := by unfold p_own; split <;> decide
theorem p_full_lt {τ : zTn} {q : Nat} : p_full τ q < 2 := by unfold p_full; split <;> decide
theorem p_lady_lt {τ : zTn} {p q : Nat} : p_lady τ p q < 2 := by
  have := p_own_lt (τ := τ) (p := p) (q := q)
  unfold p_lady; split <;> omega
theorem p_side_lt {τ : zTn} {p q : Nat} (hb : zlt (τ 0 2) 2) : p_side τ p q < 2 := by
  unfold p_side
  split
  · exact p_lady_lt
  · split
    · split <;> decide
    · split
      · omega
      · split
        · exact (zlt_zn hb (by decide)).2
        · exact p_own_lt
section PSIDE
variable {τ : zTn} {p q : Nat}
theorem p_side_0 (h : τ 3 p = nI 0) : p_side τ p q = p_own τ p q := by unfold p_side; rw [h]; rfl
theorem p_side_1 (h : τ 3 p = nI 1) : p_side τ p q = p_lady τ p q := by unfold p_side; rw [h]; rfl
theorem p_side_2 (h : τ 3 p = nI 2) : p_side τ p q = (if τ 2 q < τ 1 q then 1 else 0) := by unfold p_side; rw [h]; rfl
theorem p_side_3 (h : τ 3 p = nI 3) : p_side τ p q = zn (τ 0 0) % 2 := by unfold p_side; rw [h]; rfl
theorem p_side_4 (h : τ 3 p = nI 4) : p_side τ p q = zn (τ 0 2) := by unfold p_side; rw [h]; rfl
theorem p_side_5 (h : τ 3 p = nI 5) : p_side τ p q = (if τ 2 q < τ 1 q then 1 else 0) := by unfold p_side; rw [h]; rfl
end PSIDE
/-- the visit of one: earns; throws; dives -/
def p_v1 (τ : zTn) (p : Nat) : zTn := zup τ 5 p (zmin (τ 5 p + p_earn (τ 3 p)) (nI 9999))
def p_v2 (τ : zTn) (p q : Nat) : zTn := zup τ (1 + p_side τ p q) q (zmin (τ (1 + p_side τ p q) q + p_thr (τ 3 p) (τ 5 p)) (nI 9999))
def p_v3 (τ τ2 : zTn) (p : Nat) : zTn := zup τ2 5 p (τ2 5 p - p_thr (τ 3 p) (τ 5 p))
def p_v4 (τ : zTn) (p q : Nat) : zTn := zup τ (1 + p_full τ q) q (τ (1 + p_full τ q) q - p_div (τ 3 p) (τ 1 q) (τ 2 q))
def p_v5 (τ τ4 : zTn) (p q : Nat) : zTn := zup τ4 5 p (zmin (τ4 5 p + p_div (τ 3 p) (τ 1 q) (τ 2 q)) (nI 9999))
def p_v35 (τ : zTn) (p q : Nat) : zTn := p_v5 τ (p_v4 τ p q) p q
def p_v13 (τ : zTn) (p q : Nat) : zTn := p_v3 τ (p_v2 τ p q) p
def p_visit (τ : zTn) (p q : Nat) : zTn := p_v35 (p_v13 (p_v1 τ p) p q) p q
def p_bit (q : Nat) : Int32 := nI 1 <<< (nI q &&& 31)
def p_hold (τ : zTn) (q : Nat) : Int32 := if τ 2 q < τ 1 q then τ 0 1 ||| p_bit q else if τ 1 q < τ 2 q then τ 0 1 &&& (p_bit q ^^^ (-1)) else τ 0 1
def p_net (τ : zTn) (q : Nat) : zTn := zup (zup (zup τ 0 1 (p_hold τ q)) 1 q (τ 1 q / nI 2)) 2 q (τ 2 q / nI 2)
def p_vis (τ : zTn) (q : Nat) : Nat → zTn
  | 0 => τ
  | n + 1 => if p_vis τ q n 6 n = 0 then p_visit (p_vis τ q n) n q else p_vis τ q n
def p_q (τ : zTn) : Nat := zn (τ 0 0) % 6
def p_nd (τ : zTn) : zTn := zup τ 0 0 (τ 0 0 + nI 1)
def p_day (τ : zTn) : zTn := p_nd (p_net (p_vis τ (p_q τ) (zn (τ 0 3))) (p_q τ))
def p_days (τ : zTn) : Nat → zTn
  | 0 => τ
  | n + 1 => p_day (p_days τ n)
def p_tell (τ : zTn) (q w : Nat) : Int32 := if w = 2 then (τ 0 1 >>> (nI q &&& 31)) &&& nI 1 else τ (1 + w) q
def p_sum (f : Nat → Int32) : Nat → Int32
  | 0 => nI 0
  | n + 1 => p_sum f n + f n
def p_lf (τ : zTn) : Nat → Int32
  | 0 => nI 0
  | n + 1 => if τ 6 n = 0 ∧ p_side τ n (p_q τ) = 0 then p_lf τ n ||| p_bit n else p_lf τ n
def p_ad (τ : zTn) (k : Int32) : zTn := zup (zup (zup (zup (zup τ 3 (zn (τ 0 3)) k) 4 (zn (τ 0 3)) (nI 0)) 5 (zn (τ 0 3)) (nI 20)) 6 (zn (τ 0 3)) (nI 0)) 0 3 (τ 0 3 + nI 1)
/-- what holds of every town that is met, its day below B -/
def zTI (B : Nat) (τ : zTn) : Prop := zlt (τ 0 0) B ∧ zlt (τ 0 1) 64 ∧ zlt (τ 0 2) 2 ∧ zlt (τ 0 3) 9 ∧ (∀ q, q < 6 → zlt (τ 1 q) 10000) ∧ (∀ q, q < 6 → zlt (τ 2 q) 10000) ∧ (∀ p, p < 8 → zlt (τ 3 p) 6) ∧ (∀ p, p < 8 → zlt (τ 5 p) 10000)
end
section
/-! a town stays within its bounds -/
theorem zmin_n {a b : Nat} (ha : a < 2 ^ 31) (hb : b < 2 ^ 31) : zmin (nI a) (nI b) = nI (min a b) := by
  unfold zmin
  by_cases h : b < a
  · rw [if_pos (nI_lt h ha), Nat.min_eq_right (Nat.le_of_lt h)]
  · rw [if_neg (nI_nlt (Nat.not_lt.mp h) hb), Nat.min_eq_left (Nat.not_lt.mp h)]
theorem zmax_n {a b : Nat} (ha : a < 2 ^ 31) (hb : b < 2 ^ 31) : zmax (nI a) (nI b) = nI (max a b) := by
  unfold zmax
  by_cases h : a < b
  · rw [if_pos (nI_lt h hb), Nat.max_eq_right (Nat.le_of_lt h)]
  · rw [if_neg (nI_nlt (Nat.not_lt.mp h) ha), Nat.max_eq_left (Nat.not_lt.mp h)]
theorem p_earn_n {x : Int32} (h : zlt x 6) : ∃ e, e ≤ 4 ∧ p_earn x = nI e := by
  obtain rfl | rfl | rfl | rfl | rfl | rfl := zlt6' h
  · exact ⟨2, by decide, rfl⟩
  · exact ⟨3, by decide, rfl⟩
  · exact ⟨0, by decide, rfl⟩
  · exact ⟨4, by decide, rfl⟩
  · exact ⟨0, by decide, rfl⟩
  · exact ⟨0, by decide, rfl⟩
theorem p_wt_n {x : Int32} (h : zlt x 6) {c : Nat} (hc : c < 10000) : ∃ w, w < 3000 ∧ p_wt x (nI c) = nI w := by
  have hd : nI c / nI 20 = nI (c / 20) := pk_div (by omega) (by decide) (by decide)
  obtain rfl | rfl | rfl | rfl | rfl | rfl := zlt6' h
  · exact ⟨1, by decide, rfl⟩
  · refine ⟨1 + c / 20, by omega, ?_⟩
    show nI 1 + nI c / nI 20 = _
    rw [hd, nI_add]
  · exact ⟨0, by decide, rfl⟩
  · exact ⟨3, by decide, rfl⟩
  · refine ⟨2 * (1 + c / 20), by omega, ?_⟩
    show nI 2 * (nI 1 + nI c / nI 20) = _
    rw [hd, nI_add, pk_mul]
  · exact ⟨0, by decide, rfl⟩
theorem p_thr_n {x : Int32} (h : zlt x 6) {c : Nat} (hc : c < 10000) : ∃ n, n ≤ c ∧ p_thr x (nI c) = nI n := by
  obtain ⟨w, hw, e⟩ := p_wt_n h hc
  refine ⟨min w c, Nat.min_le_right _ _, ?_⟩
  unfold p_thr
  rw [e, zmin_n (by omega) (by omega)]
theorem p_div_n {x : Int32} (h : zlt x 6) {l r : Nat} (hl : l < 10000) (hr : r < 10000) : ∃ t, t ≤ max l r ∧ p_div x (nI l) (nI r) = nI t := by
  obtain rfl | rfl | rfl | rfl | rfl | rfl := zlt6' h
  · exact ⟨0, Nat.zero_le _, rfl⟩
  · exact ⟨0, Nat.zero_le _, rfl⟩
  · refine ⟨min 2 (max l r), Nat.min_le_right _ _, ?_⟩
    show zmin (nI 2) (zmax (nI l) (nI r)) = _
    rw [zmax_n (by omega) (by omega), zmin_n (by omega) (by omega)]
  · exact ⟨0, Nat.zero_le _, rfl⟩
  · exact ⟨0, Nat.zero_le _, rfl⟩
  · refine ⟨min (2 + (l + r) / 10) (max l r), Nat.min_le_right _ _, ?_⟩
    show zmin (nI 2 + (nI l + nI r) / nI 10) (zmax (nI l) (nI r)) = _
    rw [zmax_n (by omega) (by omega), nI_add, pk_div (by omega) (by decide) (by decide), nI_add, zmin_n (by omega) (by omega)]
section ZTI
variable {B : Nat} {τ : zTn} {p q : Nat}
theorem zTI_5 {v : Int32} (h : zTI B τ) (hv : zlt v 10000) : zTI B (zup τ 5 p v) := by
  obtain ⟨h1, h2, h3, h4, h5, h6, h7, h8⟩ := h
  refine ⟨h1, h2, h3, h4, h5, h6, h7, fun p' hp' => ?_⟩
  by_cases e : p' = p
  · subst e; rw [zup_at]; exact hv
  · rw [zup_ne _ _ (fun z => e z.2)]; exact h8 p' hp'
theorem zTI_s {v : Int32} {s : Nat} (h : zTI B τ) (hs : s < 2) (hv : zlt v 10000) : zTI B (zup τ (1 + s) q v) := by
  obtain ⟨h1, h2, h3, h4, h5, h6, h7, h8⟩ := h
  rcases (show s = 0 ∨ s = 1 by omega) with rfl | rfl
  · refine ⟨h1, h2, h3, h4, fun q' hq' => ?_, h6, h7, h8⟩
    by_cases e : q' = q
    · subst e; rw [show (1 + 0 : Nat) = 1 from rfl, zup_at]; exact hv
    · rw [zup_ne _ _ (fun z => e z.2)]; exact h5 q' hq'
  · refine ⟨h1, h2, h3, h4, h5, fun q' hq' => ?_, h7, h8⟩
    by_cases e : q' = q
    · subst e; rw [show (1 + 1 : Nat) = 2 from rfl, zup_at]; exact hv
    · rw [zup_ne _ _ (fun z => e z.2)]; exact h6 q' hq'
theorem zTI_at {s : Nat} (h : zTI B τ) (hq : q < 6) (hs : s < 2) : zlt (τ (1 + s) q) 10000 := by
  rcases (show s = 0 ∨ s = 1 by omega) with rfl | rfl
  · exact h.2.2.2.2.1 q hq
  · exact h.2.2.2.2.2.1 q hq
theorem zTI_v1 (h : zTI B τ) (hp : p < 8) : zTI B (p_v1 τ p) := by
  obtain ⟨a, ha, ea⟩ := h.2.2.2.2.2.2.2 p hp
  obtain ⟨e, he, ee⟩ := p_earn_n (h.2.2.2.2.2.2.1 p hp)
  refine zTI_5 h ⟨min (a + e) 9999, by omega, ?_⟩
  rw [ea, ee, nI_add, zmin_n (by omega) (by omega)]
theorem zTI_v13 (h : zTI B τ) (hp : p < 8) (hq : q < 6) : zTI B (p_v13 τ p q) := by
  obtain ⟨c, hc, ec⟩ := h.2.2.2.2.2.2.2 p hp
  obtain ⟨n, hn, en⟩ := p_thr_n (h.2.2.2.2.2.2.1 p hp) hc
  have hs := p_side_lt (τ := τ) (p := p) (q := q) h.2.2.1
  obtain ⟨l, hl, el⟩ := zTI_at h hq hs
  have h2 : zTI B (p_v2 τ p q) := by
    refine zTI_s h hs ⟨min (l + n) 9999, by omega, ?_⟩
    rw [el, ec, en, nI_add, zmin_n (by omega) (by omega)]
  refine zTI_5 h2 ⟨c - n, by omega, ?_⟩
  have : p_v2 τ p q 5 p = τ 5 p := zup_ne _ _ (fun z => by omega)
  rw [this, ec, en, pk_sub hn]
theorem p_full_at {l r : Nat} (hl : l < 10000) (hr : r < 10000) (e1 : τ 1 q = nI l) (e2 : τ 2 q = nI r) : τ (1 + p_full τ q) q = nI (max l r) := by
  unfold p_full
  rw [e1, e2]
  by_cases h : l < r
  · rw [if_pos (nI_lt h (by omega)), Nat.max_eq_right (Nat.le_of_lt h)]; exact e2
  · rw [if_neg (nI_nlt (Nat.not_lt.mp h) (by omega)), Nat.max_eq_left (Nat.not_lt.mp h)]; exact e1
theorem zTI_v35 (h : zTI B τ) (hp : p < 8) (hq : q < 6) : zTI B (p_v35 τ p q) := by
  obtain ⟨c, hc, ec⟩ := h.2.2.2.2.2.2.2 p hp
  obtain ⟨l, hl, el⟩ := h.2.2.2.2.1 q hq
  obtain ⟨r, hr, er⟩ := h.2.2.2.2.2.1 q hq
  obtain ⟨t, ht, et⟩ := p_div_n (h.2.2.2.2.2.2.1 p hp) hl hr
  have hf := p_full_at hl hr el er
  have h4 : zTI B (p_v4 τ p q) := by
    refine zTI_s h p_full_lt ⟨max l r - t, by omega, ?_⟩
    rw [hf, el, er, et, pk_sub ht]
  refine zTI_5 h4 ⟨min (c + t) 9999, by omega, ?_⟩
  have : p_v4 τ p q 5 p = τ 5 p := zup_ne _ _ (fun z => by have := p_full_lt (τ := τ) (q := q); omega)
  rw [this, ec, el, er, et, nI_add, zmin_n (by omega) (by omega)]
theorem zTI_visit (h : zTI B τ) (hp : p < 8) (hq : q < 6) : zTI B (p_visit τ p q) := zTI_v35 (zTI_v13 (zTI_v1 h hp) hp hq) hp hq
theorem p_visit_0 {j : Nat} (hb : zlt (τ 0 2) 2) : p_visit τ p q 0 j = τ 0 j := by
  have h1 : ∀ τ' : zTn, p_v1 τ' p 0 j = τ' 0 j := fun τ' => zup_ne _ _ (fun z => by omega)
  have h2 : ∀ τ' : zTn, p_v13 τ' p q 0 j = τ' 0 j := fun τ' => by
    unfold p_v13 p_v3 p_v2
    rw [zup_ne _ _ (fun z => by omega), zup_ne _ _ (fun z => by omega)]
  have h3 : ∀ τ' : zTn, p_v35 τ' p q 0 j = τ' 0 j := fun τ' => by
    unfold p_v35 p_v5 p_v4
    rw [zup_ne _ _ (fun z => by omega), zup_ne _ _ (fun z => by omega)]
  unfold p_visit
  rw [h3, h2, h1]
theorem zTI_vis (h : zTI B τ) (hq : q < 6) : ∀ n, n ≤ 8 → zTI B (p_vis τ q n)
  | 0, _ => h
  | n + 1, hn => by
    have ih := zTI_vis h hq n (by omega)
    show zTI B (if _ then _ else _)
    split
    · exact zTI_visit ih (by omega) hq
    · exact ih
theorem p_vis_0 (h : zTI B τ) (hq : q < 6) {j : Nat} : ∀ n, n ≤ 8 → p_vis τ q n 0 j = τ 0 j
  | 0, _ => rfl
  | n + 1, hn => by
    have ih := p_vis_0 h hq (j := j) n (by omega)
    show (if _ then _ else _ : zTn) 0 j = _
    split
    · rw [p_visit_0 (zTI_vis h hq n (by omega)).2.2.1]; exact ih
    · exact ih
theorem p_bit_or : ∀ h : Fin 64, ∀ q : Fin 6, ∃ k : Fin 64, nI h.val ||| p_bit q.val = nI k.val := by decide +kernel
theorem p_bit_an : ∀ h : Fin 64, ∀ q : Fin 6, ∃ k : Fin 64, nI h.val &&& (p_bit q.val ^^^ (-1)) = nI k.val := by decide +kernel
theorem p_hold_lt (h : zlt (τ 0 1) 64) (hq : q < 6) : zlt (p_hold τ q) 64 := by
  unfold p_hold
  obtain ⟨k, hk, e⟩ := h
  split
  · obtain ⟨k', h'⟩ := p_bit_or ⟨k, hk⟩ ⟨q, hq⟩
    rw [e]
    exact ⟨k'.val, k'.isLt, h'⟩
  · split
    · obtain ⟨k', h'⟩ := p_bit_an ⟨k, hk⟩ ⟨q, hq⟩
      rw [e]
      exact ⟨k'.val, k'.isLt, h'⟩
    · exact ⟨k, hk, e⟩
theorem zTI_net (h : zTI B τ) (hq : q < 6) : zTI B (p_net τ q) := by
  have hh : ∀ s, s < 2 → zlt (τ (1 + s) q / nI 2) 10000 := fun s hs => by
    obtain ⟨l, hl, el⟩ := zTI_at h hq hs
    refine ⟨l / 2, by omega, ?_⟩
    rw [el, pk_div (by omega) (by decide) (by decide)]
  have h0 : zTI B (zup τ 0 1 (p_hold τ q)) := ⟨h.1, by rw [zup_at]; exact p_hold_lt h.2.1 hq, h.2.2.1, h.2.2.2.1, h.2.2.2.2.1, h.2.2.2.2.2.1, h.2.2.2.2.2.2.1, h.2.2.2.2.2.2.2⟩
  exact zTI_s (s := 1) (zTI_s (s := 0) h0 (by decide) (hh 0 (by decide))) (by decide) (hh 1 (by decide))
theorem zTI_nd (h : zTI B τ) : zTI (B + 1) (p_nd τ) := by
  obtain ⟨⟨d, hd, ed⟩, h2⟩ := h
  refine ⟨⟨d + 1, by omega, ?_⟩, h2⟩
  show zup τ 0 0 (τ 0 0 + nI 1) 0 0 = _
  rw [zup_at, ed, nI_add]
theorem p_q_lt : p_q τ < 6 := Nat.mod_lt _ (by decide)
theorem zTI_day (h : zTI B τ) : zTI (B + 1) (p_day τ) := zTI_nd (zTI_net (zTI_vis h p_q_lt _ (by have := (zlt_zn h.2.2.2.1 (by decide)).2; omega)) p_q_lt)
theorem p_day_0 (h : zTI B τ) {j : Nat} (hj : j = 2 ∨ j = 3) : p_day τ 0 j = τ 0 j := by
  have hn : zn (τ 0 3) ≤ 8 := by have := (zlt_zn h.2.2.2.1 (by decide)).2; omega
  have e := p_vis_0 h (p_q_lt (τ := τ)) (j := j) _ hn
  unfold p_day p_nd p_net
  rw [zup_ne _ _ (fun z => by omega), zup_ne _ _ (fun z => by omega), zup_ne _ _ (fun z => by omega), zup_ne _ _ (fun z => by omega)]
  exact e
theorem zTI_days (h : zTI B τ) : ∀ n, zTI (B + n) (p_days τ n)
  | 0 => h
  | n + 1 => zTI_day (zTI_days h n)
theorem zTI_mono {B' : Nat} (h : zTI B τ) (hB : B ≤ B') : zTI B' τ := by
  obtain ⟨⟨d, hd, ed⟩, h2⟩ := h
  exact ⟨⟨d, by omega, ed⟩, h2⟩
end ZTI
end
section
set_option maxRecDepth 20000 in
set_option maxHeartbeats 4000000 in
theorem tc_lying {g : zG} {σ : zSto} {τ : zTn} {o : Nat} (hT : zTo o) {q s : Nat} (hq : q < 6) (hs : s < 2) : zEd g 0 yX4_lying cX4_lying 3 (some .int) [.ref (zad g o), .int (nI q), .int (nI s)] (zpt σ o τ) (some (.int (τ (1 + s) q))) (zpt σ o (τ)) := by
  refine zev_intro (own := RX4) (lv := [some (.ref (zad g o)), some (.int (nI q)), some (.int (nI s))]) (by decide +kernel) rfl (Nat.le_of_ble_eq_true rfl) rfl (fun C hM hN => ?_)
  rcases (show s = 0 ∨ s = 1 by omega) with rfl | rfl
  · refine za_iload_n dX4_lying_0 rfl ?_
    refine za_if_ne 13 dX4_lying_1 (by decide) (fun c1 => absurd (by decide) c1) (fun c1 => ?_)
    refine za_aload_n dX4_lying_4 rfl ?_
    refine za_getR dX4_lying_5 zf_X4_24 (tn0 hT) rfl ?_
    refine za_iload_n dX4_lying_8 rfl ?_
    refine zt_iald hT (by decide) dX4_lying_9 (zv1 hq) ?_
    refine za_goto 19 dX4_lying_10 (by decide) ?_
    exact za_iret hM dX4_lying_19 ⟨by rfl, by rfl⟩
  · refine za_iload_n dX4_lying_0 rfl ?_
    refine za_if_ne 13 dX4_lying_1 (by decide) (fun c1 => ?_) (fun c1 => absurd c1 (by decide))
    refine za_aload_n dX4_lying_13 rfl ?_
    refine za_getR dX4_lying_14 zf_X4_28 (tn0 hT) rfl ?_
    refine za_iload_n dX4_lying_17 rfl ?_
    refine zt_iald hT (by decide) dX4_lying_18 (zv2 hq) ?_
    exact za_iret hM dX4_lying_19 ⟨by rfl, by rfl⟩

set_option maxRecDepth 20000 in
set_option maxHeartbeats 4000000 in
theorem tc_lay {g : zG} {σ : zSto} {τ : zTn} {o : Nat} (hT : zTo o) {q s : Nat} {v : Int32} (hq : q < 6) (hs : s < 2) : zEd g 0 yX4_lay cX4_lay 4 none [.ref (zad g o), .int (nI q), .int (nI s), .int v] (zpt σ o τ) none (zpt σ o (zup τ (1 + s) q v)) := by
  refine zev_intro (own := RX4) (lv := [some (.ref (zad g o)), some (.int (nI q)), some (.int (nI s)), some (.int v)]) (by decide +kernel) rfl (Nat.le_of_ble_eq_true rfl) rfl (fun C hM hN => ?_)
  rcases (show s = 0 ∨ s = 1 by omega) with rfl | rfl
  · refine za_iload_n dX4_lay_0 rfl ?_
    refine za_if_ne 14 dX4_lay_1 (by decide) (fun c1 => absurd (by decide) c1) (fun c1 => ?_)
    refine za_aload_n dX4_lay_4 rfl ?_
    refine za_getR dX4_lay_5 zf_X4_24 (tn0 hT) rfl ?_
    refine za_iload_n dX4_lay_8 rfl ?_
    refine za_iload_n dX4_lay_9 rfl ?_
    refine zt_iast hT (by decide) dX4_lay_10 (zv1 hq) ?_
    refine za_goto 21 dX4_lay_11 (by decide) ?_
    exact za_vret hM dX4_lay_21 ⟨by rfl, by rfl⟩
  · refine za_iload_n dX4_lay_0 rfl ?_
    refine za_if_ne 14 dX4_lay_1 (by decide) (fun c1 => ?_) (fun c1 => absurd c1 (by decide))
    refine za_aload_n dX4_lay_14 rfl ?_
    refine za_getR dX4_lay_15 zf_X4_28 (tn0 hT) rfl ?_
    refine za_iload_n dX4_lay_18 rfl ?_
    refine za_iload_n dX4_lay_19 rfl ?_
    refine zt_iast hT (by decide) dX4_lay_20 (zv2 hq) ?_
    exact za_vret hM dX4_lay_21 ⟨by rfl, by rfl⟩

set_option maxRecDepth 20000 in
set_option maxHeartbeats 4000000 in
theorem tc_tell {g : zG} {σ : zSto} {τ : zTn} {o : Nat} (hT : zTo o) {q w : Nat} (hq : q < 6) (hw : w < 3) : zEd g 1 yX4_tell cX4_tell 3 (some .int) [.ref (zad g o), .int (nI q), .int (nI w)] (zpt σ o τ) (some (.int (p_tell τ q w))) (zpt σ o (τ)) := by
  refine zev_intro (own := RX4) (lv := [some (.ref (zad g o)), some (.int (nI q)), some (.int (nI w))]) (by decide +kernel) rfl (Nat.le_of_ble_eq_true rfl) rfl (fun C hM hN => ?_)
  rcases (show w = 0 ∨ w = 1 ∨ w = 2 by omega) with rfl | rfl | rfl
  · refine za_iload_n dX4_tell_0 rfl ?_
    refine za_iconst (nI 2) dX4_tell_1 (by decide) ?_
    refine za_icmp_ne 16 dX4_tell_2 (by decide) (fun c2 => ?_) (fun c2 => absurd c2 (by decide))
    refine za_aload_n dX4_tell_16 rfl ?_
    refine za_iload_n dX4_tell_17 rfl ?_
    refine za_iload_n dX4_tell_18 rfl ?_
    refine za_cV2 dX4_tell_19 zm_X4_49 zw_X4_lying zv_X4_lying (tc_lying hT hq (by omega)) (by decide) (tn0 hT) rfl rfl (Nat.le_of_ble_eq_true rfl) ?_
    exact za_iret hM dX4_tell_22 ⟨by rfl, by rfl⟩
  · refine za_iload_n dX4_tell_0 rfl ?_
    refine za_iconst (nI 2) dX4_tell_1 (by decide) ?_
    refine za_icmp_ne 16 dX4_tell_2 (by decide) (fun c2 => ?_) (fun c2 => absurd c2 (by decide))
    refine za_aload_n dX4_tell_16 rfl ?_
    refine za_iload_n dX4_tell_17 rfl ?_
    refine za_iload_n dX4_tell_18 rfl ?_
    refine za_cV2 dX4_tell_19 zm_X4_49 zw_X4_lying zv_X4_lying (tc_lying hT hq (by omega)) (by decide) (tn0 hT) rfl rfl (Nat.le_of_ble_eq_true rfl) ?_
    exact za_iret hM dX4_tell_22 ⟨by rfl, by rfl⟩
  · refine za_iload_n dX4_tell_0 rfl ?_
    refine za_iconst (nI 2) dX4_tell_1 (by decide) ?_
    refine za_icmp_ne 16 dX4_tell_2 (by decide) (fun c2 => absurd (by decide) c2) (fun c2 => ?_)
    refine za_aload_n dX4_tell_5 rfl ?_
    refine zt_getI hT dX4_tell_6 zf_X4_15 (by decide) ?_
    refine za_iload_n dX4_tell_9 rfl ?_
    refine za_ishr dX4_tell_10 ?_
    refine za_iconst (nI 1) dX4_tell_11 (by decide) ?_
    refine za_iand dX4_tell_12 ?_
    refine za_goto 22 dX4_tell_13 (by decide) ?_
    exact za_iret hM dX4_tell_22 ⟨by rfl, by rfl⟩

set_option maxRecDepth 20000 in
set_option maxHeartbeats 4000000 in
theorem tc_questionOfDay {g : zG} {σ : zSto} {τ : zTn} {o : Nat} (hT : zTo o) {B : Nat} (hd : zlt (τ 0 0) B) (hB : B ≤ 2000000) : zEd g 0 yX4_questionOfDay cX4_questionOfDay 1 (some .int) [.ref (zad g o)] (zpt σ o τ) (some (.int (nI (p_q τ)))) (zpt σ o (τ)) := by
  refine zev_intro (own := RX4) (lv := [some (.ref (zad g o))]) (by decide +kernel) rfl (Nat.le_of_ble_eq_true rfl) rfl (fun C hM hN => ?_)
  refine za_aload_n dX4_questionOfDay_0 rfl ?_
  refine zt_getI hT dX4_questionOfDay_1 zf_X4_9 (by decide) ?_
  refine za_bipush (nI 6) dX4_questionOfDay_4 (by decide) ?_
  refine za_irem dX4_questionOfDay_6 (by decide) ?_
  exact za_iret hM dX4_questionOfDay_7 ⟨congrArg (fun z => some (Value.int z)) (zrem hd (by omega) (by decide) (by decide)), rfl⟩

set_option maxRecDepth 20000 in
set_option maxHeartbeats 4000000 in
theorem tc_isFull {g : zG} {σ : zSto} {τ : zTn} {o : Nat} (hT : zTo o) {n : Nat} (hn : n < 9) (hp : τ 0 3 = nI n) : zEd g 0 yX4_isFull cX4_isFull 1 (some .boolean) [.ref (zad g o)] (zpt σ o τ) (some (.int (zb (n = 8)))) (zpt σ o (τ)) := by
  refine zev_intro (own := RX4) (lv := [some (.ref (zad g o))]) (by decide +kernel) rfl (Nat.le_of_ble_eq_true rfl) rfl (fun C hM hN => ?_)
  refine za_aload_n dX4_isFull_0 rfl ?_
  refine zt_getI hT dX4_isFull_1 zf_X4_21 (by decide) ?_
  refine za_bipush (nI 8) dX4_isFull_4 (by decide) ?_
  refine za_icmp_lt 13 dX4_isFull_6 (by decide) (fun c6 => ?_) (fun c6 => ?_)
  · rw [hp] at c6
    refine za_iconst (nI 0) dX4_isFull_13 (by decide) ?_
    exact za_zretG hM dX4_isFull_14 (by decide) ⟨by (first | rfl | exact congrArg (fun z => some (Value.int z)) (zb_f (fun h => by subst h; exact absurd c6 (by decide))).symm | exact congrArg (fun z => some (Value.int z)) (zb_1 (by have := mt (fun h : n < 8 => nI_lt h (by decide)) c6; omega)).symm), by (first | rfl | exact congrArg (fun z => some (Value.int z)) (zb_f (fun h => by subst h; exact absurd c6 (by decide))).symm | exact congrArg (fun z => some (Value.int z)) (zb_1 (by have := mt (fun h : n < 8 => nI_lt h (by decide)) c6; omega)).symm)⟩
  · rw [hp] at c6
    refine za_iconst (nI 1) dX4_isFull_9 (by decide) ?_
    refine za_goto 14 dX4_isFull_10 (by decide) ?_
    exact za_zretG hM dX4_isFull_14 (by decide) ⟨by (first | rfl | exact congrArg (fun z => some (Value.int z)) (zb_f (fun h => by subst h; exact absurd c6 (by decide))).symm | exact congrArg (fun z => some (Value.int z)) (zb_1 (by have := mt (fun h : n < 8 => nI_lt h (by decide)) c6; omega)).symm), by (first | rfl | exact congrArg (fun z => some (Value.int z)) (zb_f (fun h => by subst h; exact absurd c6 (by decide))).symm | exact congrArg (fun z => some (Value.int z)) (zb_1 (by have := mt (fun h : n < 8 => nI_lt h (by decide)) c6; omega)).symm)⟩

set_option maxRecDepth 20000 in
set_option maxHeartbeats 4000000 in
theorem tc_throwerSide {g : zG} {σ : zSto} {τ : zTn} {o : Nat} (hT : zTo o) {p q : Nat} (hp : p < 8) : zEd g 0 yX4_throwerSide cX4_throwerSide 3 (some .int) [.ref (zad g o), .int (nI p), .int (nI q)] (zpt σ o τ) (some (.int (nI (p_own τ p q)))) (zpt σ o (τ)) := by
  refine zev_intro (own := RX4) (lv := [some (.ref (zad g o)), some (.int (nI p)), some (.int (nI q))]) (by decide +kernel) rfl (Nat.le_of_ble_eq_true rfl) rfl (fun C hM hN => ?_)
  refine za_aload_n dX4_throwerSide_0 rfl ?_
  refine za_getR dX4_throwerSide_1 zf_X4_34 (tn0 hT) rfl ?_
  refine za_iload_n dX4_throwerSide_4 rfl ?_
  refine zt_iald hT (by decide) dX4_throwerSide_5 (zv4 hp) ?_
  refine za_iload_n dX4_throwerSide_6 rfl ?_
  refine za_ishr dX4_throwerSide_7 ?_
  refine za_iconst (nI 1) dX4_throwerSide_8 (by decide) ?_
  refine za_iand dX4_throwerSide_9 ?_
  refine za_iconst (nI 1) dX4_throwerSide_10 (by decide) ?_
  refine za_icmp_ne 18 dX4_throwerSide_11 (by decide) (fun c11 => ?_) (fun c11 => ?_)
  · refine za_iconst (nI 1) dX4_throwerSide_18 (by decide) ?_
    exact za_iret hM dX4_throwerSide_19 ⟨by (first | rfl | (unfold p_own; rw [if_pos (by assumption)]; done) | (unfold p_own; rw [if_neg (by assumption)]; done)), by (first | rfl | (unfold p_own; rw [if_pos (by assumption)]; done) | (unfold p_own; rw [if_neg (by assumption)]; done))⟩
  · refine za_iconst (nI 0) dX4_throwerSide_14 (by decide) ?_
    refine za_goto 19 dX4_throwerSide_15 (by decide) ?_
    exact za_iret hM dX4_throwerSide_19 ⟨by (first | rfl | (unfold p_own; rw [if_pos (by assumption)]; done) | (unfold p_own; rw [if_neg (by assumption)]; done)), by (first | rfl | (unfold p_own; rw [if_pos (by assumption)]; done) | (unfold p_own; rw [if_neg (by assumption)]; done))⟩

set_option maxRecDepth 20000 in
set_option maxHeartbeats 4000000 in
theorem tc_ladySide {g : zG} {σ : zSto} {τ : zTn} {o : Nat} (hT : zTo o) {p q : Nat} (hp : p < 8) (hq : q < 6) : zEd g 1 yX4_ladySide cX4_ladySide 5 (some .int) [.ref (zad g o), .int (nI p), .int (nI q)] (zpt σ o τ) (some (.int (nI (p_lady τ p q)))) (zpt σ o (τ)) := by
  refine zev_intro (own := RX4) (lv := [some (.ref (zad g o)), some (.int (nI p)), some (.int (nI q)), none, none]) (by decide +kernel) rfl (Nat.le_of_ble_eq_true rfl) rfl (fun C hM hN => ?_)
  have hs := p_own_lt (τ := τ) (p := p) (q := q)
  refine za_aload_n dX4_ladySide_0 rfl ?_
  refine za_iload_n dX4_ladySide_1 rfl ?_
  refine za_iload_n dX4_ladySide_2 rfl ?_
  refine za_cV2 dX4_ladySide_3 zm_X4_63 zw_X4_throwerSide zv_X4_throwerSide (tc_throwerSide hT hp) (by decide) (tn0 hT) rfl rfl (Nat.le_of_ble_eq_true rfl) ?_
  refine za_istore_n (lv' := [_, _, _, _, _]) dX4_ladySide_6 hN (by decide) rfl ?_
  refine za_iconst (nI 1) dX4_ladySide_7 (by decide) ?_
  refine za_iload_n dX4_ladySide_8 rfl ?_
  refine za_isub dX4_ladySide_9 ?_
  rw [pk_sub (show p_own τ p q ≤ 1 by omega)]
  refine za_istore (lv' := [_, _, _, _, _]) dX4_ladySide_10 hN (by decide) rfl ?_
  refine za_aload_n dX4_ladySide_12 rfl ?_
  refine za_iload_n dX4_ladySide_13 rfl ?_
  refine za_iload_n dX4_ladySide_14 rfl ?_
  refine za_cV2 dX4_ladySide_15 zm_X4_49 zw_X4_lying zv_X4_lying (tc_lying hT hq (by omega)) (by decide) (tn0 hT) rfl rfl (Nat.le_of_ble_eq_true rfl) ?_
  refine za_aload_n dX4_ladySide_18 rfl ?_
  refine za_iload_n dX4_ladySide_19 rfl ?_
  refine za_iload dX4_ladySide_20 rfl ?_
  refine za_cV2 dX4_ladySide_22 zm_X4_49 zw_X4_lying zv_X4_lying (tc_lying hT hq (by omega)) (by decide) (tn0 hT) rfl rfl (Nat.le_of_ble_eq_true rfl) ?_
  refine za_isub dX4_ladySide_25 ?_
  refine za_bipush (nI 20) dX4_ladySide_26 (by decide) ?_
  refine za_icmp_le 36 dX4_ladySide_28 (by decide) (fun c28 => ?_) (fun c28 => ?_)
  · refine za_iload_n dX4_ladySide_36 rfl ?_
    exact za_iret hM dX4_ladySide_37 ⟨by (first | rfl | (unfold p_lady; rw [if_pos (by assumption)]; done) | (unfold p_lady; rw [if_pos (Int32.not_le.mp (by assumption))]; done) | (unfold p_lady; rw [if_neg (by assumption)]; done) | (unfold p_lady; rw [if_neg (Int32.not_lt.mpr (by assumption))]; done)), by (first | rfl | (unfold p_lady; rw [if_pos (by assumption)]; done) | (unfold p_lady; rw [if_pos (Int32.not_le.mp (by assumption))]; done) | (unfold p_lady; rw [if_neg (by assumption)]; done) | (unfold p_lady; rw [if_neg (Int32.not_lt.mpr (by assumption))]; done))⟩
  · refine za_iload dX4_ladySide_31 rfl ?_
    refine za_goto 37 dX4_ladySide_33 (by decide) ?_
    exact za_iret hM dX4_ladySide_37 ⟨by (first | rfl | (unfold p_lady; rw [if_pos (by assumption)]; done) | (unfold p_lady; rw [if_pos (Int32.not_le.mp (by assumption))]; done) | (unfold p_lady; rw [if_neg (by assumption)]; done) | (unfold p_lady; rw [if_neg (Int32.not_lt.mpr (by assumption))]; done)), by (first | rfl | (unfold p_lady; rw [if_pos (by assumption)]; done) | (unfold p_lady; rw [if_pos (Int32.not_le.mp (by assumption))]; done) | (unfold p_lady; rw [if_neg (by assumption)]; done) | (unfold p_lady; rw [if_neg (Int32.not_lt.mpr (by assumption))]; done))⟩

set_option maxRecDepth 20000 in
set_option maxHeartbeats 4000000 in
theorem tc_sideOf {g : zG} {σ : zSto} {τ : zTn} {o : Nat} (hT : zTo o) {p q B : Nat} (hp : p < 8) (hq : q < 6) (hk : zlt (τ 3 p) 6) (hb : zlt (τ 0 2) 2) (hdy : zlt (τ 0 0) B) (hB : B ≤ 2000000) : zEd g 2 yX4_sideOf cX4_sideOf 3 (some .int) [.ref (zad g o), .int (nI p), .int (nI q)] (zpt σ o τ) (some (.int (nI (p_side τ p q)))) (zpt σ o (τ)) := by
  refine zev_intro (own := RX4) (lv := [some (.ref (zad g o)), some (.int (nI p)), some (.int (nI q))]) (by decide +kernel) rfl (Nat.le_of_ble_eq_true rfl) rfl (fun C hM hN => ?_)
  refine za_aload_n dX4_sideOf_0 rfl ?_
  refine za_getR dX4_sideOf_1 zf_X4_31 (tn0 hT) rfl ?_
  refine za_iload_n dX4_sideOf_4 rfl ?_
  refine zt_iald hT (by decide) dX4_sideOf_5 (zv3 hp) ?_
  obtain h3 | h3 | h3 | h3 | h3 | h3 := zlt6' hk
  · rw [h3]
    refine za_tabO 80 dX4_sideOf_6 (by decide) (by decide) ?_
    refine za_aload_n dX4_sideOf_80 rfl ?_
    refine za_iload_n dX4_sideOf_81 rfl ?_
    refine za_iload_n dX4_sideOf_82 rfl ?_
    refine za_cV2 dX4_sideOf_83 zm_X4_63 zw_X4_throwerSide zv_X4_throwerSide (tc_throwerSide hT hp) (by decide) (tn0 hT) rfl rfl (Nat.le_of_ble_eq_true rfl) ?_
    exact za_iret hM dX4_sideOf_86 ⟨by rw [p_side_0 h3], rfl⟩
  · rw [h3]
    refine za_tabK (34) 40 dX4_sideOf_6 (by decide) (by decide) (by decide) (by decide) ?_
    refine za_aload_n dX4_sideOf_40 rfl ?_
    refine za_iload_n dX4_sideOf_41 rfl ?_
    refine za_iload_n dX4_sideOf_42 rfl ?_
    refine za_cV2 dX4_sideOf_43 zm_X4_60 zw_X4_ladySide zv_X4_ladySide (tc_ladySide hT hp hq) (by decide) (tn0 hT) rfl rfl (Nat.le_of_ble_eq_true rfl) ?_
    exact za_iret hM dX4_sideOf_46 ⟨by rw [p_side_1 h3], rfl⟩
  · rw [h3]
    refine za_tabK (41) 47 dX4_sideOf_6 (by decide) (by decide) (by decide) (by decide) ?_
    refine za_aload_n dX4_sideOf_47 rfl ?_
    refine za_getR dX4_sideOf_48 zf_X4_24 (tn0 hT) rfl ?_
    refine za_iload_n dX4_sideOf_51 rfl ?_
    refine zt_iald hT (by decide) dX4_sideOf_52 (zv1 hq) ?_
    refine za_aload_n dX4_sideOf_53 rfl ?_
    refine za_getR dX4_sideOf_54 zf_X4_28 (tn0 hT) rfl ?_
    refine za_iload_n dX4_sideOf_57 rfl ?_
    refine zt_iald hT (by decide) dX4_sideOf_58 (zv2 hq) ?_
    refine za_icmp_gt 66 dX4_sideOf_59 (by decide) (fun c59 => ?_) (fun c59 => ?_)
    · refine za_iconst (nI 1) dX4_sideOf_66 (by decide) ?_
      exact za_iret hM dX4_sideOf_67 ⟨by first | (rw [p_side_2 h3, if_pos (by assumption)]; done) | (rw [p_side_2 h3, if_neg (by assumption)]; done) | (rw [p_side_5 h3, if_pos (by assumption)]; done) | (rw [p_side_5 h3, if_neg (by assumption)]; done), rfl⟩
    · refine za_iconst (nI 0) dX4_sideOf_62 (by decide) ?_
      refine za_goto 67 dX4_sideOf_63 (by decide) ?_
      exact za_iret hM dX4_sideOf_67 ⟨by first | (rw [p_side_2 h3, if_pos (by assumption)]; done) | (rw [p_side_2 h3, if_neg (by assumption)]; done) | (rw [p_side_5 h3, if_pos (by assumption)]; done) | (rw [p_side_5 h3, if_neg (by assumption)]; done), rfl⟩
  · rw [h3]
    refine za_tabK (62) 68 dX4_sideOf_6 (by decide) (by decide) (by decide) (by decide) ?_
    refine za_aload_n dX4_sideOf_68 rfl ?_
    refine zt_getI hT dX4_sideOf_69 zf_X4_9 (by decide) ?_
    refine za_iconst (nI 2) dX4_sideOf_72 (by decide) ?_
    refine za_irem dX4_sideOf_73 (by decide) ?_
    exact za_iret hM dX4_sideOf_74 ⟨by rw [p_side_3 h3, zrem hdy (by omega) (by decide) (by decide)], rfl⟩
  · rw [h3]
    refine za_tabK (69) 75 dX4_sideOf_6 (by decide) (by decide) (by decide) (by decide) ?_
    refine za_aload_n dX4_sideOf_75 rfl ?_
    refine zt_getI hT dX4_sideOf_76 zf_X4_18 (by decide) ?_
    exact za_iret hM dX4_sideOf_79 ⟨by rw [p_side_4 h3, ← (zlt_zn hb (by decide)).1], rfl⟩
  · rw [h3]
    refine za_tabK (41) 47 dX4_sideOf_6 (by decide) (by decide) (by decide) (by decide) ?_
    refine za_aload_n dX4_sideOf_47 rfl ?_
    refine za_getR dX4_sideOf_48 zf_X4_24 (tn0 hT) rfl ?_
    refine za_iload_n dX4_sideOf_51 rfl ?_
    refine zt_iald hT (by decide) dX4_sideOf_52 (zv1 hq) ?_
    refine za_aload_n dX4_sideOf_53 rfl ?_
    refine za_getR dX4_sideOf_54 zf_X4_28 (tn0 hT) rfl ?_
    refine za_iload_n dX4_sideOf_57 rfl ?_
    refine zt_iald hT (by decide) dX4_sideOf_58 (zv2 hq) ?_
    refine za_icmp_gt 66 dX4_sideOf_59 (by decide) (fun c59 => ?_) (fun c59 => ?_)
    · refine za_iconst (nI 1) dX4_sideOf_66 (by decide) ?_
      exact za_iret hM dX4_sideOf_67 ⟨by first | (rw [p_side_2 h3, if_pos (by assumption)]; done) | (rw [p_side_2 h3, if_neg (by assumption)]; done) | (rw [p_side_5 h3, if_pos (by assumption)]; done) | (rw [p_side_5 h3, if_neg (by assumption)]; done), rfl⟩
    · refine za_iconst (nI 0) dX4_sideOf_62 (by decide) ?_
      refine za_goto 67 dX4_sideOf_63 (by decide) ?_
      exact za_iret hM dX4_sideOf_67 ⟨by first | (rw [p_side_2 h3, if_pos (by assumption)]; done) | (rw [p_side_2 h3, if_neg (by assumption)]; done) | (rw [p_side_5 h3, if_pos (by assumption)]; done) | (rw [p_side_5 h3, if_neg (by assumption)]; done), rfl⟩

set_option maxRecDepth 20000 in
set_option maxHeartbeats 4000000 in
theorem tc_throwsOf {g : zG} {σ : zSto} {τ : zTn} {o : Nat} (hT : zTo o) {p : Nat} (hp : p < 8) (hk : zlt (τ 3 p) 6) : zEd g 2 yX4_throwsOf cX4_throwsOf 2 (some .int) [.ref (zad g o), .int (nI p)] (zpt σ o τ) (some (.int (p_thr (τ 3 p) (τ 5 p)))) (zpt σ o (τ)) := by
  refine zev_intro (own := RX4) (lv := [some (.ref (zad g o)), some (.int (nI p))]) (by decide +kernel) rfl (Nat.le_of_ble_eq_true rfl) rfl (fun C hM hN => ?_)
  refine za_aload_n dX4_throwsOf_0 rfl ?_
  refine za_getR dX4_throwsOf_1 zf_X4_31 (tn0 hT) rfl ?_
  refine za_iload_n dX4_throwsOf_4 rfl ?_
  refine zt_iald hT (by decide) dX4_throwsOf_5 (by first | exact zv3 hp | exact zv5 hp) ?_
  refine za_aload_n dX4_throwsOf_6 rfl ?_
  refine za_getR dX4_throwsOf_7 zf_X4_37 (tn0 hT) rfl ?_
  refine za_iload_n dX4_throwsOf_10 rfl ?_
  refine zt_iald hT (by decide) dX4_throwsOf_11 (by first | exact zv3 hp | exact zv5 hp) ?_
  refine za_cS2 dX4_throwsOf_12 zm_X4_66 zw_X0_throwsWith zs_X0_throwsWith (e_throwsWith hk) (by decide) (Nat.le_of_ble_eq_true rfl) ?_
  exact za_iret hM dX4_throwsOf_15 ⟨by rfl, by rfl⟩

set_option maxRecDepth 20000 in
set_option maxHeartbeats 4000000 in
theorem tc_divesOf {g : zG} {σ : zSto} {τ : zTn} {o : Nat} (hT : zTo o) {p q : Nat} (hp : p < 8) (hq : q < 6) (hk : zlt (τ 3 p) 6) : zEd g 2 yX4_divesOf cX4_divesOf 3 (some .int) [.ref (zad g o), .int (nI p), .int (nI q)] (zpt σ o τ) (some (.int (p_div (τ 3 p) (τ 1 q) (τ 2 q)))) (zpt σ o (τ)) := by
  refine zev_intro (own := RX4) (lv := [some (.ref (zad g o)), some (.int (nI p)), some (.int (nI q))]) (by decide +kernel) rfl (Nat.le_of_ble_eq_true rfl) rfl (fun C hM hN => ?_)
  refine za_aload_n dX4_divesOf_0 rfl ?_
  refine za_getR dX4_divesOf_1 zf_X4_31 (tn0 hT) rfl ?_
  refine za_iload_n dX4_divesOf_4 rfl ?_
  refine zt_iald hT (by decide) dX4_divesOf_5 (by first | exact zv3 hp | exact zv1 hq | exact zv2 hq) ?_
  refine za_aload_n dX4_divesOf_6 rfl ?_
  refine za_getR dX4_divesOf_7 zf_X4_24 (tn0 hT) rfl ?_
  refine za_iload_n dX4_divesOf_10 rfl ?_
  refine zt_iald hT (by decide) dX4_divesOf_11 (by first | exact zv3 hp | exact zv1 hq | exact zv2 hq) ?_
  refine za_aload_n dX4_divesOf_12 rfl ?_
  refine za_getR dX4_divesOf_13 zf_X4_28 (tn0 hT) rfl ?_
  refine za_iload_n dX4_divesOf_16 rfl ?_
  refine zt_iald hT (by decide) dX4_divesOf_17 (by first | exact zv3 hp | exact zv1 hq | exact zv2 hq) ?_
  refine za_cS3 dX4_divesOf_18 zm_X4_71 zw_X0_dives zs_X0_dives (e_dives hk) (by decide) (Nat.le_of_ble_eq_true rfl) ?_
  exact za_iret hM dX4_divesOf_21 ⟨by rfl, by rfl⟩

set_option maxRecDepth 20000 in
set_option maxHeartbeats 4000000 in
theorem tc_allLying {g : zG} {σ : zSto} {τ : zTn} {o : Nat} (hT : zTo o) {s : Nat} (hs : s < 2) : zEd g 1 yX4_allLying cX4_allLying 4 (some .int) [.ref (zad g o), .int (nI s)] (zpt σ o τ) (some (.int (p_sum (τ (1 + s)) 6))) (zpt σ o (τ)) := by
  refine zev_intro (own := RX4) (lv := [some (.ref (zad g o)), some (.int (nI s)), none, none]) (by decide +kernel) rfl (Nat.le_of_ble_eq_true rfl) rfl (fun C hM hN => ?_)
  have hloop : ∀ (m : Nat) (j : Nat), j + m = 6 → zAW g C 1 cX4_allLying RX4 4 [some (.ref (zad g o)), some (.int (nI s)), some (.int (p_sum (τ (1 + s)) j)), some (.int (nI j))] [] (zpt σ o τ) := by
    intro m
    induction m with
    | zero =>
      intro j hj
      obtain rfl : j = 6 := by omega
      refine za_iload_n dX4_allLying_4 rfl ?_
      refine za_bipush (nI 6) dX4_allLying_5 (by decide) ?_
      refine za_icmp_ge 25 dX4_allLying_7 (by decide) (fun c7 => ?_) (fun c7 => absurd (by decide) c7)
      refine za_iload_n dX4_allLying_25 rfl ?_
      exact za_iret hM dX4_allLying_26 ⟨by rfl, by rfl⟩
    | succ m ih =>
      intro j hj
      refine za_iload_n dX4_allLying_4 rfl ?_
      refine za_bipush (nI 6) dX4_allLying_5 (by decide) ?_
      refine za_icmp_ge 25 dX4_allLying_7 (by decide) (fun c7 => absurd c7 (nI_ge (show j < 6 by omega) (by decide))) (fun c7 => ?_)
      refine za_iload_n dX4_allLying_10 rfl ?_
      refine za_aload_n dX4_allLying_11 rfl ?_
      refine za_iload_n dX4_allLying_12 rfl ?_
      refine za_iload_n dX4_allLying_13 rfl ?_
      refine za_cV2 dX4_allLying_14 zm_X4_49 zw_X4_lying zv_X4_lying (tc_lying hT (by omega) hs) (by decide) (tn0 hT) rfl rfl (Nat.le_of_ble_eq_true rfl) ?_
      refine za_iadd dX4_allLying_17 ?_
      refine za_istore_n (lv' := [_, _, _, _]) dX4_allLying_18 hN (by decide) rfl ?_
      refine za_iinc (nI (_ + 1)) (lv' := [_, _, _, _]) dX4_allLying_19 rfl hN (by decide) (znext _) rfl ?_
      refine za_goto 4 dX4_allLying_22 (by decide) ?_
      exact ih (j + 1) (by omega)
  refine za_iconst (nI 0) dX4_allLying_0 (by decide) ?_
  refine za_istore_n (lv' := [_, _, _, _]) dX4_allLying_1 hN (by decide) rfl ?_
  refine za_iconst (nI 0) dX4_allLying_2 (by decide) ?_
  refine za_istore_n (lv' := [_, _, _, _]) dX4_allLying_3 hN (by decide) rfl ?_
  exact hloop 6 0 rfl

set_option maxRecDepth 20000 in
set_option maxHeartbeats 4000000 in
theorem tc_allPence {g : zG} {σ : zSto} {τ : zTn} {o : Nat} (hT : zTo o) {n : Nat} (h8 : n < 9) (hn : τ 0 3 = nI n) : zEd g 0 yX4_allPence cX4_allPence 3 (some .int) [.ref (zad g o)] (zpt σ o τ) (some (.int (p_sum (τ 5) n))) (zpt σ o (τ)) := by
  refine zev_intro (own := RX4) (lv := [some (.ref (zad g o)), none, none]) (by decide +kernel) rfl (Nat.le_of_ble_eq_true rfl) rfl (fun C hM hN => ?_)
  have hloop : ∀ (m : Nat) (j : Nat), j + m = n → zAW g C 0 cX4_allPence RX4 4 [some (.ref (zad g o)), some (.int (p_sum (τ 5) j)), some (.int (nI j))] [] (zpt σ o τ) := by
    intro m
    induction m with
    | zero =>
      intro j hj
      obtain rfl : j = n := by omega
      refine za_iload_n dX4_allPence_4 rfl ?_
      refine za_aload_n dX4_allPence_5 rfl ?_
      refine zt_getI hT dX4_allPence_6 zf_X4_21 (by decide) ?_
      rw [hn]
      refine za_icmp_ge 27 dX4_allPence_9 (by decide) (fun c9 => ?_) (fun c9 => absurd (nI_le (Nat.le_refl _) (by omega)) c9)
      refine za_iload_n dX4_allPence_27 rfl ?_
      exact za_iret hM dX4_allPence_28 ⟨by rfl, by rfl⟩
    | succ m ih =>
      intro j hj
      refine za_iload_n dX4_allPence_4 rfl ?_
      refine za_aload_n dX4_allPence_5 rfl ?_
      refine zt_getI hT dX4_allPence_6 zf_X4_21 (by decide) ?_
      rw [hn]
      refine za_icmp_ge 27 dX4_allPence_9 (by decide) (fun c9 => absurd c9 (nI_ge (show j < n by omega) (by omega))) (fun c9 => ?_)
      refine za_iload_n dX4_allPence_12 rfl ?_
      refine za_aload_n dX4_allPence_13 rfl ?_
      refine za_getR dX4_allPence_14 zf_X4_37 (tn0 hT) rfl ?_
      refine za_iload_n dX4_allPence_17 rfl ?_
      refine zt_iald hT (by decide) dX4_allPence_18 (zv5 (by omega)) ?_
      refine za_iadd dX4_allPence_19 ?_
      refine za_istore_n (lv' := [_, _, _]) dX4_allPence_20 hN (by decide) rfl ?_
      refine za_iinc (nI (_ + 1)) (lv' := [_, _, _]) dX4_allPence_21 rfl hN (by decide) (znext _) rfl ?_
      refine za_goto 4 dX4_allPence_24 (by decide) ?_
      exact ih (j + 1) (by omega)
  refine za_iconst (nI 0) dX4_allPence_0 (by decide) ?_
  refine za_istore_n (lv' := [_, _, _]) dX4_allPence_1 hN (by decide) rfl ?_
  refine za_iconst (nI 0) dX4_allPence_2 (by decide) ?_
  refine za_istore_n (lv' := [_, _, _]) dX4_allPence_3 hN (by decide) rfl ?_
  exact hloop n 0 (by omega)

theorem p_lf_1 {τ : zTn} {n : Nat} (h1 : τ 6 n = 0) (h2 : p_side τ n (p_q τ) = 0) : p_lf τ (n + 1) = p_lf τ n ||| p_bit n := if_pos ⟨h1, h2⟩
theorem p_lf_0 {τ : zTn} {n : Nat} (h : ¬ (τ 6 n = 0 ∧ p_side τ n (p_q τ) = 0)) : p_lf τ (n + 1) = p_lf τ n := if_neg h
theorem zz0 {a : Nat} (h : nI a = 0) (ha : a < 1000000) : a = 0 := (nI_eq (a := a) (b := 0) (by omega) (by decide)).mp h
theorem zz1 {a : Nat} (h : ¬ nI a = 0) : ¬ a = 0 := fun q => h (by rw [q]; rfl)

set_option maxRecDepth 20000 in
set_option maxHeartbeats 4000000 in
theorem tc_thoseForLeft {g : zG} {σ : zSto} {τ : zTn} {o : Nat} (hT : zTo o) {n B : Nat} (h8 : n < 9) (hn : τ 0 3 = nI n) (hI : zTI B τ) (hB : B ≤ 2000000) : zEd g 3 yX4_thoseForLeft cX4_thoseForLeft 3 (some .int) [.ref (zad g o)] (zpt σ o τ) (some (.int (p_lf τ n))) (zpt σ o (τ)) := by
  refine zev_intro (own := RX4) (lv := [some (.ref (zad g o)), none, none]) (by decide +kernel) rfl (Nat.le_of_ble_eq_true rfl) rfl (fun C hM hN => ?_)
  have hloop : ∀ (m : Nat) (j : Nat), j + m = n → zAW g C 3 cX4_thoseForLeft RX4 4 [some (.ref (zad g o)), some (.int (p_lf τ j)), some (.int (nI j))] [] (zpt σ o τ) := by
    intro m
    induction m with
    | zero =>
      intro j hj
      obtain rfl : j = n := by omega
      refine za_iload_n dX4_thoseForLeft_4 rfl ?_
      refine za_aload_n dX4_thoseForLeft_5 rfl ?_
      refine zt_getI hT dX4_thoseForLeft_6 zf_X4_21 (by decide) ?_
      rw [hn]
      refine za_icmp_ge 45 dX4_thoseForLeft_9 (by decide) (fun c9 => ?_) (fun c9 => absurd (nI_le (Nat.le_refl _) (by omega)) c9)
      refine za_iload_n dX4_thoseForLeft_45 rfl ?_
      exact za_iret hM dX4_thoseForLeft_46 ⟨by rfl, by rfl⟩
    | succ m ih =>
      intro j hj
      refine za_iload_n dX4_thoseForLeft_4 rfl ?_
      refine za_aload_n dX4_thoseForLeft_5 rfl ?_
      refine zt_getI hT dX4_thoseForLeft_6 zf_X4_21 (by decide) ?_
      rw [hn]
      refine za_icmp_ge 45 dX4_thoseForLeft_9 (by decide) (fun c9 => absurd c9 (nI_ge (show j < n by omega) (by omega))) (fun c9 => ?_)
      refine za_aload_n dX4_thoseForLeft_12 rfl ?_
      refine za_getR dX4_thoseForLeft_13 zf_X4_40 (tn0 hT) rfl ?_
      refine za_iload_n dX4_thoseForLeft_16 rfl ?_
      refine zt_iald hT (by decide) dX4_thoseForLeft_17 (zv6 (by omega)) ?_
      refine za_if_ne 39 dX4_thoseForLeft_18 (by decide) (fun c18 => ?_) (fun c18 => ?_)
      · refine za_iinc (nI (_ + 1)) (lv' := [_, _, _]) dX4_thoseForLeft_39 rfl hN (by decide) (znext _) rfl ?_
        refine za_goto 4 dX4_thoseForLeft_42 (by decide) ?_
        have hh := ih (j + 1) (by omega)
        first
          | (rw [p_lf_1 (by assumption) (zz0 (by assumption) (by have := p_side_lt (τ := τ) (p := j) (q := p_q τ) hI.2.2.1; omega))] at hh; exact hh)
          | (rw [p_lf_0 (fun z => absurd z.1 (by assumption))] at hh; exact hh)
          | (rw [p_lf_0 (fun z => absurd z.2 (zz1 (by assumption)))] at hh; exact hh)
      · refine za_aload_n dX4_thoseForLeft_21 rfl ?_
        refine za_iload_n dX4_thoseForLeft_22 rfl ?_
        refine za_aload_n dX4_thoseForLeft_23 rfl ?_
        refine za_cV0 dX4_thoseForLeft_24 zm_X4_53 zw_X4_questionOfDay zv_X4_questionOfDay (tc_questionOfDay hT hI.1 hB) (by decide) (tn0 hT) rfl rfl (Nat.le_of_ble_eq_true rfl) ?_
        refine za_cV2 dX4_thoseForLeft_27 zm_X4_57 zw_X4_sideOf zv_X4_sideOf (tc_sideOf hT (by omega) p_q_lt (hI.2.2.2.2.2.2.1 j (by omega)) hI.2.2.1 hI.1 hB) (by decide) (tn0 hT) rfl rfl (Nat.le_of_ble_eq_true rfl) ?_
        refine za_if_ne 39 dX4_thoseForLeft_30 (by decide) (fun c30 => ?_) (fun c30 => ?_)
        · refine za_iinc (nI (_ + 1)) (lv' := [_, _, _]) dX4_thoseForLeft_39 rfl hN (by decide) (znext _) rfl ?_
          refine za_goto 4 dX4_thoseForLeft_42 (by decide) ?_
          have hh := ih (j + 1) (by omega)
          first
            | (rw [p_lf_1 (by assumption) (zz0 (by assumption) (by have := p_side_lt (τ := τ) (p := j) (q := p_q τ) hI.2.2.1; omega))] at hh; exact hh)
            | (rw [p_lf_0 (fun z => absurd z.1 (by assumption))] at hh; exact hh)
            | (rw [p_lf_0 (fun z => absurd z.2 (zz1 (by assumption)))] at hh; exact hh)
        · refine za_iload_n dX4_thoseForLeft_33 rfl ?_
          refine za_iconst (nI 1) dX4_thoseForLeft_34 (by decide) ?_
          refine za_iload_n dX4_thoseForLeft_35 rfl ?_
          refine za_ishl dX4_thoseForLeft_36 ?_
          refine za_ior dX4_thoseForLeft_37 ?_
          refine za_istore_n (lv' := [_, _, _]) dX4_thoseForLeft_38 hN (by decide) rfl ?_
          refine za_iinc (nI (_ + 1)) (lv' := [_, _, _]) dX4_thoseForLeft_39 rfl hN (by decide) (znext _) rfl ?_
          refine za_goto 4 dX4_thoseForLeft_42 (by decide) ?_
          have hh := ih (j + 1) (by omega)
          first
            | (rw [p_lf_1 (by assumption) (zz0 (by assumption) (by have := p_side_lt (τ := τ) (p := j) (q := p_q τ) hI.2.2.1; omega))] at hh; exact hh)
            | (rw [p_lf_0 (fun z => absurd z.1 (by assumption))] at hh; exact hh)
            | (rw [p_lf_0 (fun z => absurd z.2 (zz1 (by assumption)))] at hh; exact hh)
  refine za_iconst (nI 0) dX4_thoseForLeft_0 (by decide) ?_
  refine za_istore_n (lv' := [_, _, _]) dX4_thoseForLeft_1 hN (by decide) rfl ?_
  refine za_iconst (nI 0) dX4_thoseForLeft_2 (by decide) ?_
  refine za_istore_n (lv' := [_, _, _]) dX4_thoseForLeft_3 hN (by decide) rfl ?_
  exact hloop n 0 (by omega)

set_option maxRecDepth 20000 in
set_option maxHeartbeats 4000000 in
theorem tc_visit {g : zG} {σ : zSto} {τ : zTn} {o : Nat} (hT : zTo o) {p q B : Nat} (hp : p < 8) (hq : q < 6) (hk : zlt (τ 3 p) 6) (hb : zlt (τ 0 2) 2) (hdy : zlt (τ 0 0) B) (hB : B ≤ 2000000) : zEd g 3 yX4_visit cX4_visit 7 none [.ref (zad g o), .int (nI p), .int (nI q)] (zpt σ o τ) none (zpt σ o (p_visit τ p q)) := by
  refine zev_intro (own := RX4) (lv := [some (.ref (zad g o)), some (.int (nI p)), some (.int (nI q)), none, none, none, none]) (by decide +kernel) rfl (Nat.le_of_ble_eq_true rfl) rfl (fun C hM hN => ?_)
  have hs : p_side (p_v1 τ p) p q < 2 := p_side_lt hb
  have hk3 : zlt (p_v13 (p_v1 τ p) p q 3 p) 6 := by
    unfold p_v13 p_v3 p_v2
    rw [zup_ne _ _ (fun z => by omega), zup_ne _ _ (fun z => by omega)]
    exact hk
  refine za_aload_n dX4_visit_0 rfl ?_
  refine za_getR dX4_visit_1 zf_X4_37 (tn0 hT) rfl ?_
  refine za_iload_n dX4_visit_4 rfl ?_
  refine za_aload_n dX4_visit_5 rfl ?_
  refine za_getR dX4_visit_6 zf_X4_37 (tn0 hT) rfl ?_
  refine za_iload_n dX4_visit_9 rfl ?_
  refine zt_iald hT (by decide) dX4_visit_10 (by first | exact zv5 hp | exact zv3 hp | exact zv1 hq | exact zv2 hq) ?_
  refine za_aload_n dX4_visit_11 rfl ?_
  refine za_getR dX4_visit_12 zf_X4_31 (tn0 hT) rfl ?_
  refine za_iload_n dX4_visit_15 rfl ?_
  refine zt_iald hT (by decide) dX4_visit_16 (by first | exact zv5 hp | exact zv3 hp | exact zv1 hq | exact zv2 hq) ?_
  refine za_cS1 dX4_visit_17 zm_X4_86 zw_X0_earns zs_X0_earns (e_earns hk) (by decide) (Nat.le_of_ble_eq_true rfl) ?_
  refine za_iadd dX4_visit_20 ?_
  refine za_sipush (nI 9999) dX4_visit_21 (by decide) ?_
  refine za_mmin dX4_visit_24 zm_X4_90 (by decide) (Nat.le_of_ble_eq_true rfl) ?_
  refine zt_iast hT (by decide) dX4_visit_27 (by first | exact zv5 hp | exact zv3 hp | exact zv1 hq | exact zv2 hq) ?_
  refine za_aload_n dX4_visit_28 rfl ?_
  refine za_iload_n dX4_visit_29 rfl ?_
  refine za_cV1 dX4_visit_30 zm_X4_95 zw_X4_throwsOf zv_X4_throwsOf (tc_throwsOf hT hp hk) (by decide) (tn0 hT) rfl rfl (Nat.le_of_ble_eq_true rfl) ?_
  refine za_istore_n (lv' := [_, _, _, _, _, _, _]) dX4_visit_33 hN (by decide) rfl ?_
  refine za_aload_n dX4_visit_34 rfl ?_
  refine za_iload_n dX4_visit_35 rfl ?_
  refine za_iload_n dX4_visit_36 rfl ?_
  refine za_cV2 dX4_visit_37 zm_X4_57 zw_X4_sideOf zv_X4_sideOf (tc_sideOf hT hp hq hk hb hdy hB) (by decide) (tn0 hT) rfl rfl (Nat.le_of_ble_eq_true rfl) ?_
  refine za_istore (lv' := [_, _, _, _, _, _, _]) dX4_visit_40 hN (by decide) rfl ?_
  refine za_aload_n dX4_visit_42 rfl ?_
  refine za_iload_n dX4_visit_43 rfl ?_
  refine za_iload dX4_visit_44 rfl ?_
  refine za_aload_n dX4_visit_46 rfl ?_
  refine za_iload_n dX4_visit_47 rfl ?_
  refine za_iload dX4_visit_48 rfl ?_
  refine za_cV2 dX4_visit_50 zm_X4_49 zw_X4_lying zv_X4_lying (tc_lying hT hq hs) (by decide) (tn0 hT) rfl rfl (Nat.le_of_ble_eq_true rfl) ?_
  refine za_iload_n dX4_visit_53 rfl ?_
  refine za_iadd dX4_visit_54 ?_
  refine za_sipush (nI 9999) dX4_visit_55 (by decide) ?_
  refine za_mmin dX4_visit_58 zm_X4_90 (by decide) (Nat.le_of_ble_eq_true rfl) ?_
  refine za_cV3v dX4_visit_61 zm_X4_98 zw_X4_lay zv_X4_lay (tc_lay hT hq hs) (by decide) (tn0 hT) rfl rfl (Nat.le_of_ble_eq_true rfl) ?_
  refine za_aload_n dX4_visit_64 rfl ?_
  refine za_getR dX4_visit_65 zf_X4_37 (tn0 hT) rfl ?_
  refine za_iload_n dX4_visit_68 rfl ?_
  refine za_dup2 dX4_visit_69 rfl rfl ?_
  refine zt_iald hT (by decide) dX4_visit_70 (by first | exact zv5 hp | exact zv3 hp | exact zv1 hq | exact zv2 hq) ?_
  refine za_iload_n dX4_visit_71 rfl ?_
  refine za_isub dX4_visit_72 ?_
  refine zt_iast hT (by decide) dX4_visit_73 (by first | exact zv5 hp | exact zv3 hp | exact zv1 hq | exact zv2 hq) ?_
  refine za_aload_n dX4_visit_74 rfl ?_
  refine za_iload_n dX4_visit_75 rfl ?_
  refine za_iload_n dX4_visit_76 rfl ?_
  refine za_cV2 dX4_visit_77 zm_X4_102 zw_X4_divesOf zv_X4_divesOf (tc_divesOf hT hp hq hk3) (by decide) (tn0 hT) rfl rfl (Nat.le_of_ble_eq_true rfl) ?_
  refine za_istore (lv' := [_, _, _, _, _, _, _]) dX4_visit_80 hN (by decide) rfl ?_
  refine za_aload_n dX4_visit_82 rfl ?_
  refine za_getR dX4_visit_83 zf_X4_24 (tn0 hT) rfl ?_
  refine za_iload_n dX4_visit_86 rfl ?_
  refine zt_iald hT (by decide) dX4_visit_87 (by first | exact zv5 hp | exact zv3 hp | exact zv1 hq | exact zv2 hq) ?_
  refine za_aload_n dX4_visit_88 rfl ?_
  refine za_getR dX4_visit_89 zf_X4_28 (tn0 hT) rfl ?_
  refine za_iload_n dX4_visit_92 rfl ?_
  refine zt_iald hT (by decide) dX4_visit_93 (by first | exact zv5 hp | exact zv3 hp | exact zv1 hq | exact zv2 hq) ?_
  refine za_icmp_lt 101 dX4_visit_94 (by decide) (fun c94 => ?_) (fun c94 => ?_)
  · have hf : p_full (p_v13 (p_v1 τ p) p q) q = 1 := if_pos c94
    refine za_iconst (nI 1) dX4_visit_101 (by decide) ?_
    refine za_istore (lv' := [_, _, _, _, _, _, _]) dX4_visit_102 hN (by decide) rfl ?_
    refine za_aload_n dX4_visit_104 rfl ?_
    refine za_iload_n dX4_visit_105 rfl ?_
    refine za_iload dX4_visit_106 rfl ?_
    refine za_aload_n dX4_visit_108 rfl ?_
    refine za_iload_n dX4_visit_109 rfl ?_
    refine za_iload dX4_visit_110 rfl ?_
    refine za_cV2 dX4_visit_112 zm_X4_49 zw_X4_lying zv_X4_lying (tc_lying hT hq (by decide)) (by decide) (tn0 hT) rfl rfl (Nat.le_of_ble_eq_true rfl) ?_
    refine za_iload dX4_visit_115 rfl ?_
    refine za_isub dX4_visit_117 ?_
    refine za_cV3v dX4_visit_118 zm_X4_98 zw_X4_lay zv_X4_lay (tc_lay hT hq (by decide)) (by decide) (tn0 hT) rfl rfl (Nat.le_of_ble_eq_true rfl) ?_
    refine za_aload_n dX4_visit_121 rfl ?_
    refine za_getR dX4_visit_122 zf_X4_37 (tn0 hT) rfl ?_
    refine za_iload_n dX4_visit_125 rfl ?_
    refine za_aload_n dX4_visit_126 rfl ?_
    refine za_getR dX4_visit_127 zf_X4_37 (tn0 hT) rfl ?_
    refine za_iload_n dX4_visit_130 rfl ?_
    refine zt_iald hT (by decide) dX4_visit_131 (by first | exact zv5 hp | exact zv3 hp | exact zv1 hq | exact zv2 hq) ?_
    refine za_iload dX4_visit_132 rfl ?_
    refine za_iadd dX4_visit_134 ?_
    refine za_sipush (nI 9999) dX4_visit_135 (by decide) ?_
    refine za_mmin dX4_visit_138 zm_X4_90 (by decide) (Nat.le_of_ble_eq_true rfl) ?_
    refine zt_iast hT (by decide) dX4_visit_141 (by first | exact zv5 hp | exact zv3 hp | exact zv1 hq | exact zv2 hq) ?_
    exact za_vret hM dX4_visit_142 ⟨rfl, by unfold p_visit p_v35 p_v5 p_v4; rw [hf]; rfl⟩
  · have hf : p_full (p_v13 (p_v1 τ p) p q) q = 0 := if_neg c94
    refine za_iconst (nI 0) dX4_visit_97 (by decide) ?_
    refine za_goto 102 dX4_visit_98 (by decide) ?_
    refine za_istore (lv' := [_, _, _, _, _, _, _]) dX4_visit_102 hN (by decide) rfl ?_
    refine za_aload_n dX4_visit_104 rfl ?_
    refine za_iload_n dX4_visit_105 rfl ?_
    refine za_iload dX4_visit_106 rfl ?_
    refine za_aload_n dX4_visit_108 rfl ?_
    refine za_iload_n dX4_visit_109 rfl ?_
    refine za_iload dX4_visit_110 rfl ?_
    refine za_cV2 dX4_visit_112 zm_X4_49 zw_X4_lying zv_X4_lying (tc_lying hT hq (by decide)) (by decide) (tn0 hT) rfl rfl (Nat.le_of_ble_eq_true rfl) ?_
    refine za_iload dX4_visit_115 rfl ?_
    refine za_isub dX4_visit_117 ?_
    refine za_cV3v dX4_visit_118 zm_X4_98 zw_X4_lay zv_X4_lay (tc_lay hT hq (by decide)) (by decide) (tn0 hT) rfl rfl (Nat.le_of_ble_eq_true rfl) ?_
    refine za_aload_n dX4_visit_121 rfl ?_
    refine za_getR dX4_visit_122 zf_X4_37 (tn0 hT) rfl ?_
    refine za_iload_n dX4_visit_125 rfl ?_
    refine za_aload_n dX4_visit_126 rfl ?_
    refine za_getR dX4_visit_127 zf_X4_37 (tn0 hT) rfl ?_
    refine za_iload_n dX4_visit_130 rfl ?_
    refine zt_iald hT (by decide) dX4_visit_131 (by first | exact zv5 hp | exact zv3 hp | exact zv1 hq | exact zv2 hq) ?_
    refine za_iload dX4_visit_132 rfl ?_
    refine za_iadd dX4_visit_134 ?_
    refine za_sipush (nI 9999) dX4_visit_135 (by decide) ?_
    refine za_mmin dX4_visit_138 zm_X4_90 (by decide) (Nat.le_of_ble_eq_true rfl) ?_
    refine zt_iast hT (by decide) dX4_visit_141 (by first | exact zv5 hp | exact zv3 hp | exact zv1 hq | exact zv2 hq) ?_
    exact za_vret hM dX4_visit_142 ⟨rfl, by unfold p_visit p_v35 p_v5 p_v4; rw [hf]; rfl⟩

theorem p_hold_1 {τ : zTn} {q : Nat} (h : τ 2 q < τ 1 q) : p_hold τ q = τ 0 1 ||| p_bit q := if_pos h
theorem p_hold_2 {τ : zTn} {q : Nat} (h : τ 1 q < τ 2 q) : p_hold τ q = τ 0 1 &&& (p_bit q ^^^ (-1)) := by
  unfold p_hold
  rw [if_neg (Int32.lt_asymm h), if_pos h]
theorem p_hold_3 {τ : zTn} {q : Nat} (h1 : ¬ τ 2 q < τ 1 q) (h2 : ¬ τ 1 q < τ 2 q) : p_hold τ q = τ 0 1 := by
  unfold p_hold
  rw [if_neg h1, if_neg h2]

set_option maxRecDepth 20000 in
set_option maxHeartbeats 4000000 in
theorem tc_net {g : zG} {σ : zSto} {τ : zTn} {o : Nat} (hT : zTo o) {q : Nat} (hq : q < 6) : zEd g 0 yX4_net cX4_net 2 none [.ref (zad g o), .int (nI q)] (zpt σ o τ) none (zpt σ o (p_net τ q)) := by
  refine zev_intro (own := RX4) (lv := [some (.ref (zad g o)), some (.int (nI q))]) (by decide +kernel) rfl (Nat.le_of_ble_eq_true rfl) rfl (fun C hM hN => ?_)
  refine za_aload_n dX4_net_0 rfl ?_
  refine za_getR dX4_net_1 zf_X4_24 (tn0 hT) rfl ?_
  refine za_iload_n dX4_net_4 rfl ?_
  refine zt_iald hT (by decide) dX4_net_5 (by first | exact zv1 hq | exact zv2 hq) ?_
  refine za_aload_n dX4_net_6 rfl ?_
  refine za_getR dX4_net_7 zf_X4_28 (tn0 hT) rfl ?_
  refine za_iload_n dX4_net_10 rfl ?_
  refine zt_iald hT (by decide) dX4_net_11 (by first | exact zv1 hq | exact zv2 hq) ?_
  refine za_icmp_le 30 dX4_net_12 (by decide) (fun c12 => ?_) (fun c12 => ?_)
  · refine za_aload_n dX4_net_30 rfl ?_
    refine za_getR dX4_net_31 zf_X4_24 (tn0 hT) rfl ?_
    refine za_iload_n dX4_net_34 rfl ?_
    refine zt_iald hT (by decide) dX4_net_35 (by first | exact zv1 hq | exact zv2 hq) ?_
    refine za_aload_n dX4_net_36 rfl ?_
    refine za_getR dX4_net_37 zf_X4_28 (tn0 hT) rfl ?_
    refine za_iload_n dX4_net_40 rfl ?_
    refine zt_iald hT (by decide) dX4_net_41 (by first | exact zv1 hq | exact zv2 hq) ?_
    refine za_icmp_ge 59 dX4_net_42 (by decide) (fun c42 => ?_) (fun c42 => ?_)
    · refine za_aload_n dX4_net_59 rfl ?_
      refine za_getR dX4_net_60 zf_X4_24 (tn0 hT) rfl ?_
      refine za_iload_n dX4_net_63 rfl ?_
      refine za_dup2 dX4_net_64 rfl rfl ?_
      refine zt_iald hT (by decide) dX4_net_65 (by first | exact zv1 hq | exact zv2 hq) ?_
      refine za_iconst (nI 2) dX4_net_66 (by decide) ?_
      refine za_idiv dX4_net_67 (by decide) ?_
      refine zt_iast hT (by decide) dX4_net_68 (by first | exact zv1 hq | exact zv2 hq) ?_
      refine za_aload_n dX4_net_69 rfl ?_
      refine za_getR dX4_net_70 zf_X4_28 (tn0 hT) rfl ?_
      refine za_iload_n dX4_net_73 rfl ?_
      refine za_dup2 dX4_net_74 rfl rfl ?_
      refine zt_iald hT (by decide) dX4_net_75 (by first | exact zv1 hq | exact zv2 hq) ?_
      refine za_iconst (nI 2) dX4_net_76 (by decide) ?_
      refine za_idiv dX4_net_77 (by decide) ?_
      refine zt_iast hT (by decide) dX4_net_78 (by first | exact zv1 hq | exact zv2 hq) ?_
      exact za_vret hM dX4_net_79 ⟨rfl, by first | (unfold p_net; rw [p_hold_1 (Int32.not_le.mp c12)]; rfl) | (unfold p_net; rw [p_hold_2 (Int32.not_le.mp c42)]; rfl) | (unfold p_net; rw [p_hold_3 (Int32.not_lt.mpr c12) (Int32.not_lt.mpr c42), zup_self]; rfl)⟩
    · refine za_aload_n dX4_net_45 rfl ?_
      refine za_dup dX4_net_46 rfl ?_
      refine zt_getI hT dX4_net_47 zf_X4_15 (by decide) ?_
      refine za_iconst (nI 1) dX4_net_50 (by decide) ?_
      refine za_iload_n dX4_net_51 rfl ?_
      refine za_ishl dX4_net_52 ?_
      refine za_iconst (-1) dX4_net_53 (by decide) ?_
      refine za_ixor dX4_net_54 ?_
      refine za_iand dX4_net_55 ?_
      refine zt_putI hT dX4_net_56 zf_X4_15 zp_X4_1 (by decide) ?_
      refine za_aload_n dX4_net_59 rfl ?_
      refine za_getR dX4_net_60 zf_X4_24 (tn0 hT) rfl ?_
      refine za_iload_n dX4_net_63 rfl ?_
      refine za_dup2 dX4_net_64 rfl rfl ?_
      refine zt_iald hT (by decide) dX4_net_65 (by first | exact zv1 hq | exact zv2 hq) ?_
      refine za_iconst (nI 2) dX4_net_66 (by decide) ?_
      refine za_idiv dX4_net_67 (by decide) ?_
      refine zt_iast hT (by decide) dX4_net_68 (by first | exact zv1 hq | exact zv2 hq) ?_
      refine za_aload_n dX4_net_69 rfl ?_
      refine za_getR dX4_net_70 zf_X4_28 (tn0 hT) rfl ?_
      refine za_iload_n dX4_net_73 rfl ?_
      refine za_dup2 dX4_net_74 rfl rfl ?_
      refine zt_iald hT (by decide) dX4_net_75 (by first | exact zv1 hq | exact zv2 hq) ?_
      refine za_iconst (nI 2) dX4_net_76 (by decide) ?_
      refine za_idiv dX4_net_77 (by decide) ?_
      refine zt_iast hT (by decide) dX4_net_78 (by first | exact zv1 hq | exact zv2 hq) ?_
      exact za_vret hM dX4_net_79 ⟨rfl, by first | (unfold p_net; rw [p_hold_1 (Int32.not_le.mp c12)]; rfl) | (unfold p_net; rw [p_hold_2 (Int32.not_le.mp c42)]; rfl) | (unfold p_net; rw [p_hold_3 (Int32.not_lt.mpr c12) (Int32.not_lt.mpr c42), zup_self]; rfl)⟩
  · refine za_aload_n dX4_net_15 rfl ?_
    refine za_dup dX4_net_16 rfl ?_
    refine zt_getI hT dX4_net_17 zf_X4_15 (by decide) ?_
    refine za_iconst (nI 1) dX4_net_20 (by decide) ?_
    refine za_iload_n dX4_net_21 rfl ?_
    refine za_ishl dX4_net_22 ?_
    refine za_ior dX4_net_23 ?_
    refine zt_putI hT dX4_net_24 zf_X4_15 zp_X4_1 (by decide) ?_
    refine za_goto 59 dX4_net_27 (by decide) ?_
    refine za_aload_n dX4_net_59 rfl ?_
    refine za_getR dX4_net_60 zf_X4_24 (tn0 hT) rfl ?_
    refine za_iload_n dX4_net_63 rfl ?_
    refine za_dup2 dX4_net_64 rfl rfl ?_
    refine zt_iald hT (by decide) dX4_net_65 (by first | exact zv1 hq | exact zv2 hq) ?_
    refine za_iconst (nI 2) dX4_net_66 (by decide) ?_
    refine za_idiv dX4_net_67 (by decide) ?_
    refine zt_iast hT (by decide) dX4_net_68 (by first | exact zv1 hq | exact zv2 hq) ?_
    refine za_aload_n dX4_net_69 rfl ?_
    refine za_getR dX4_net_70 zf_X4_28 (tn0 hT) rfl ?_
    refine za_iload_n dX4_net_73 rfl ?_
    refine za_dup2 dX4_net_74 rfl rfl ?_
    refine zt_iald hT (by decide) dX4_net_75 (by first | exact zv1 hq | exact zv2 hq) ?_
    refine za_iconst (nI 2) dX4_net_76 (by decide) ?_
    refine za_idiv dX4_net_77 (by decide) ?_
    refine zt_iast hT (by decide) dX4_net_78 (by first | exact zv1 hq | exact zv2 hq) ?_
    exact za_vret hM dX4_net_79 ⟨rfl, by first | (unfold p_net; rw [p_hold_1 (Int32.not_le.mp c12)]; rfl) | (unfold p_net; rw [p_hold_2 (Int32.not_le.mp c42)]; rfl) | (unfold p_net; rw [p_hold_3 (Int32.not_lt.mpr c12) (Int32.not_lt.mpr c42), zup_self]; rfl)⟩

theorem p_vis_1 {τ : zTn} {q n : Nat} (h : p_vis τ q n 6 n = 0) : p_vis τ q (n + 1) = p_visit (p_vis τ q n) n q := if_pos h
theorem p_vis_n {τ : zTn} {q n : Nat} (h : ¬ p_vis τ q n 6 n = 0) : p_vis τ q (n + 1) = p_vis τ q n := if_neg h

set_option maxRecDepth 20000 in
set_option maxHeartbeats 4000000 in
theorem tc_goDay {g : zG} {σ : zSto} {τ : zTn} {o : Nat} (hT : zTo o) {B : Nat} (hI : zTI B τ) (hB : B ≤ 2000000) : zEd g 4 yX4_goDay cX4_goDay 3 none [.ref (zad g o)] (zpt σ o τ) none (zpt σ o (p_day τ)) := by
  refine zev_intro (own := RX4) (lv := [some (.ref (zad g o)), none, none]) (by decide +kernel) rfl (Nat.le_of_ble_eq_true rfl) rfl (fun C hM hN => ?_)
  obtain ⟨n, h8, hn⟩ := hI.2.2.2.1
  have hloop : ∀ (m : Nat) (j : Nat), j + m = n → zAW g C 4 cX4_goDay RX4 7 [some (.ref (zad g o)), some (.int (nI (p_q τ))), some (.int (nI j))] [] (zpt σ o (p_vis τ (p_q τ) j)) := by
    intro m
    induction m with
    | zero =>
      intro j hj
      obtain rfl : j = n := by omega
      refine za_iload_n dX4_goDay_7 rfl ?_
      refine za_aload_n dX4_goDay_8 rfl ?_
      refine zt_getI hT dX4_goDay_9 zf_X4_21 (by decide) ?_
      rw [p_vis_0 hI p_q_lt j (by omega), hn]
      refine za_icmp_ge 36 dX4_goDay_12 (by decide) (fun c12 => ?_) (fun c12 => absurd (nI_le (Nat.le_refl _) (by omega)) c12)
      refine za_aload_n dX4_goDay_36 rfl ?_
      refine za_iload_n dX4_goDay_37 rfl ?_
      refine za_cV1v dX4_goDay_38 zm_X4_82 zw_X4_net zv_X4_net (tc_net hT p_q_lt) (by decide) (tn0 hT) rfl rfl (Nat.le_of_ble_eq_true rfl) ?_
      refine za_aload_n dX4_goDay_41 rfl ?_
      refine za_dup dX4_goDay_42 rfl ?_
      refine zt_getI hT dX4_goDay_43 zf_X4_9 (by decide) ?_
      refine za_iconst (nI 1) dX4_goDay_46 (by decide) ?_
      refine za_iadd dX4_goDay_47 ?_
      refine zt_putI hT dX4_goDay_48 zf_X4_9 zp_X4_0 (by decide) ?_
      exact za_vret hM dX4_goDay_51 ⟨rfl, by unfold p_day; rw [show zn (τ 0 3) = j by rw [hn]; exact zn_nI (by omega)]; rfl⟩
    | succ m ih =>
      intro j hj
      refine za_iload_n dX4_goDay_7 rfl ?_
      refine za_aload_n dX4_goDay_8 rfl ?_
      refine zt_getI hT dX4_goDay_9 zf_X4_21 (by decide) ?_
      rw [p_vis_0 hI p_q_lt j (by omega), hn]
      refine za_icmp_ge 36 dX4_goDay_12 (by decide) (fun c12 => absurd c12 (nI_ge (show j < n by omega) (by omega))) (fun c12 => ?_)
      refine za_aload_n dX4_goDay_15 rfl ?_
      refine za_getR dX4_goDay_16 zf_X4_40 (tn0 hT) rfl ?_
      refine za_iload_n dX4_goDay_19 rfl ?_
      refine zt_iald hT (by decide) dX4_goDay_20 (zv6 (by omega)) ?_
      refine za_if_ne 30 dX4_goDay_21 (by decide) (fun c21 => ?_) (fun c21 => ?_)
      · refine za_iinc (nI (_ + 1)) (lv' := [_, _, _]) dX4_goDay_30 rfl hN (by decide) (znext _) rfl ?_
        refine za_goto 7 dX4_goDay_33 (by decide) ?_
        have hh := ih (j + 1) (by omega)
        first
          | (rw [p_vis_1 (by assumption)] at hh; exact hh)
          | (rw [p_vis_n (by assumption)] at hh; exact hh)
      · refine za_aload_n dX4_goDay_24 rfl ?_
        refine za_iload_n dX4_goDay_25 rfl ?_
        refine za_iload_n dX4_goDay_26 rfl ?_
        have hJ := zTI_vis hI (p_q_lt (τ := τ)) j (by omega)
        refine za_cV2v dX4_goDay_27 zm_X4_78 zw_X4_visit zv_X4_visit (tc_visit hT (by omega) p_q_lt (hJ.2.2.2.2.2.2.1 j (by omega)) hJ.2.2.1 hJ.1 hB) (by decide) (tn0 hT) rfl rfl (Nat.le_of_ble_eq_true rfl) ?_
        refine za_iinc (nI (_ + 1)) (lv' := [_, _, _]) dX4_goDay_30 rfl hN (by decide) (znext _) rfl ?_
        refine za_goto 7 dX4_goDay_33 (by decide) ?_
        have hh := ih (j + 1) (by omega)
        first
          | (rw [p_vis_1 (by assumption)] at hh; exact hh)
          | (rw [p_vis_n (by assumption)] at hh; exact hh)
  refine za_aload_n dX4_goDay_0 rfl ?_
  refine za_cV0 dX4_goDay_1 zm_X4_53 zw_X4_questionOfDay zv_X4_questionOfDay (tc_questionOfDay hT hI.1 hB) (by decide) (tn0 hT) rfl rfl (Nat.le_of_ble_eq_true rfl) ?_
  refine za_istore_n (lv' := [_, _, _]) dX4_goDay_4 hN (by decide) rfl ?_
  refine za_iconst (nI 0) dX4_goDay_5 (by decide) ?_
  refine za_istore_n (lv' := [_, _, _]) dX4_goDay_6 hN (by decide) rfl ?_
  exact hloop n 0 (by omega)

set_option maxRecDepth 20000 in
set_option maxHeartbeats 4000000 in
theorem tc_goDays {g : zG} {σ : zSto} {τ : zTn} {o : Nat} (hT : zTo o) {n B : Nat} (hI : zTI B τ) (hB : B ≤ 1000000) (hn : n ≤ 1000) : zEd g 5 yX4_goDays cX4_goDays 3 none [.ref (zad g o), .int (nI n)] (zpt σ o τ) none (zpt σ o (p_days τ n)) := by
  refine zev_intro (own := RX4) (lv := [some (.ref (zad g o)), some (.int (nI n)), none]) (by decide +kernel) rfl (Nat.le_of_ble_eq_true rfl) rfl (fun C hM hN => ?_)
  have hloop : ∀ (m : Nat) (j : Nat), j + m = n → zAW g C 5 cX4_goDays RX4 2 [some (.ref (zad g o)), some (.int (nI n)), some (.int (nI j))] [] (zpt σ o (p_days τ j)) := by
    intro m
    induction m with
    | zero =>
      intro j hj
      obtain rfl : j = n := by omega
      refine za_iload_n dX4_goDays_2 rfl ?_
      refine za_iload_n dX4_goDays_3 rfl ?_
      refine za_icmp_ge 17 dX4_goDays_4 (by decide) (fun c4 => ?_) (fun c4 => absurd (nI_le (Nat.le_refl _) (by omega)) c4)
      exact za_vret hM dX4_goDays_17 ⟨by rfl, by rfl⟩
    | succ m ih =>
      intro j hj
      refine za_iload_n dX4_goDays_2 rfl ?_
      refine za_iload_n dX4_goDays_3 rfl ?_
      refine za_icmp_ge 17 dX4_goDays_4 (by decide) (fun c4 => absurd c4 (nI_ge (show j < n by omega) (by omega))) (fun c4 => ?_)
      refine za_aload_n dX4_goDays_7 rfl ?_
      refine za_cV0v dX4_goDays_8 zm_X4_75 zw_X4_goDay zv_X4_goDay (tc_goDay hT (zTI_days hI j) (by omega)) (by decide) (tn0 hT) rfl rfl (Nat.le_of_ble_eq_true rfl) ?_
      refine za_iinc (nI (_ + 1)) (lv' := [_, _, _]) dX4_goDays_11 rfl hN (by decide) (znext _) rfl ?_
      refine za_goto 2 dX4_goDays_14 (by decide) ?_
      exact ih (j + 1) (by omega)
  refine za_iconst (nI 0) dX4_goDays_0 (by decide) ?_
  refine za_istore_n (lv' := [_, _, _]) dX4_goDays_1 hN (by decide) rfl ?_
  exact hloop n 0 (by omega)

set_option maxRecDepth 20000 in
set_option maxHeartbeats 4000000 in
theorem tc_add {g : zG} {σ : zSto} {τ : zTn} {o : Nat} (hT : zTo o) {n : Nat} {k : Int32} (h8 : n < 8) (hn : τ 0 3 = nI n) : zEd g 0 yX4_add cX4_add 3 (some .int) [.ref (zad g o), .int k] (zpt σ o τ) (some (.int (nI n))) (zpt σ o (p_ad τ k)) := by
  refine zev_intro (own := RX4) (lv := [some (.ref (zad g o)), some (.int k), none]) (by decide +kernel) rfl (Nat.le_of_ble_eq_true rfl) rfl (fun C hM hN => ?_)
  refine za_aload_n dX4_add_0 rfl ?_
  refine zt_getI hT dX4_add_1 zf_X4_21 (by decide) ?_
  rw [hn]
  refine za_istore_n (lv' := [_, _, _]) dX4_add_4 hN (by decide) rfl ?_
  refine za_aload_n dX4_add_5 rfl ?_
  refine za_getR dX4_add_6 zf_X4_31 (tn0 hT) rfl ?_
  refine za_iload_n dX4_add_9 rfl ?_
  refine za_iload_n dX4_add_10 rfl ?_
  refine zt_iast hT (by decide) dX4_add_11 (by first | exact zv3 h8 | exact zv4 h8 | exact zv5 h8 | exact zv6 h8) ?_
  refine za_aload_n dX4_add_12 rfl ?_
  refine za_getR dX4_add_13 zf_X4_34 (tn0 hT) rfl ?_
  refine za_iload_n dX4_add_16 rfl ?_
  refine za_iconst (nI 0) dX4_add_17 (by decide) ?_
  refine zt_iast hT (by decide) dX4_add_18 (by first | exact zv3 h8 | exact zv4 h8 | exact zv5 h8 | exact zv6 h8) ?_
  refine za_aload_n dX4_add_19 rfl ?_
  refine za_getR dX4_add_20 zf_X4_37 (tn0 hT) rfl ?_
  refine za_iload_n dX4_add_23 rfl ?_
  refine za_bipush (nI 20) dX4_add_24 (by decide) ?_
  refine zt_iast hT (by decide) dX4_add_26 (by first | exact zv3 h8 | exact zv4 h8 | exact zv5 h8 | exact zv6 h8) ?_
  refine za_aload_n dX4_add_27 rfl ?_
  refine za_getR dX4_add_28 zf_X4_40 (tn0 hT) rfl ?_
  refine za_iload_n dX4_add_31 rfl ?_
  refine za_iconst (nI 0) dX4_add_32 (by decide) ?_
  refine zt_iast hT (by decide) dX4_add_33 (by first | exact zv3 h8 | exact zv4 h8 | exact zv5 h8 | exact zv6 h8) ?_
  refine za_aload_n dX4_add_34 rfl ?_
  refine za_dup dX4_add_35 rfl ?_
  refine zt_getI hT dX4_add_36 zf_X4_21 (by decide) ?_
  refine za_iconst (nI 1) dX4_add_39 (by decide) ?_
  refine za_iadd dX4_add_40 ?_
  refine zt_putI hT dX4_add_41 zf_X4_21 zp_X4_3 (by decide) ?_
  refine za_iload_n dX4_add_44 rfl ?_
  exact za_iret hM dX4_add_45 ⟨rfl, by unfold p_ad; rw [show zn (τ 0 3) = n by rw [hn]; exact zn_nI (by omega)]; rfl⟩

def zrow (τ : zTn) (k : Nat) (f : Nat → Int32) (n : Nat) : zTn := fun a b => if a = k ∧ b < n then f b else τ a b
theorem zTo_far {o o' k j : Nat} (hT : zTo o) (hT' : zTo o') (hne : o ≠ o') (hk : k < 7) : ¬ (o ≤ o' + k ∧ zvl (o' + k - o) j) := by
  rintro ⟨h1, h2⟩
  have h3 : o' + k - o < 7 := by
    rcases h2 with h | h | h <;> omega
  rcases hT with rfl | rfl | rfl <;> rcases hT' with rfl | rfl | rfl <;> omega
theorem zpt_far {σ : zSto} {τ : zTn} {o o' k j : Nat} (hT : zTo o) (hT' : zTo o') (hne : o ≠ o') (hk : k < 7) : (zpt σ o τ).1 (o' + k) j = σ.1 (o' + k) j := if_neg (zTo_far hT hT' hne hk)
section ZTB
variable {g : zG} {C : zC} {dd : Nat} {cc : ByteArray} {own : String} {pc : Nat} {lv : List (Option Value)} {st rest : List Value} {σ : zSto} {τ : zTn} {o o' : Nat}
theorem zt_getO {idx j : Nat} (hT : zTo o) (hT' : zTo o') (hne : o ≠ o') (hd : decode cc pc = .ok (.getfield idx, 3)) (hf : zFL own idx 3 j) (hj : j < 4) (k : zAW g C dd cc own (pc + 3) lv (.int (ztw σ o' 0 j) :: st) (zpt σ o τ)) : zAW g C dd cc own pc lv (.ref (zad g o') :: st) (zpt σ o τ) := by
  refine za_getI hd hf (tn0 hT') (by rcases (show j = 0 ∨ j = 1 ∨ j = 2 ∨ j = 3 by omega) with rfl | rfl | rfl | rfl <;> rfl) ?_
  have h := zpt_far (σ := σ) (τ := τ) (k := 0) (j := j) hT hT' hne (by decide)
  rw [Nat.add_zero] at h
  rw [h]
  exact k
theorem zt_copy {idx a n : Nat} (hT : zTo o) (hT' : zTo o') (hne : o ≠ o') (hd : decode cc pc = .ok (.invokestatic idx, 3)) (hm : Cond.methodLink own idx arraycopyName ∈ lw_g) (ha : a < 7) (hv : ∀ b, b < n → zvl a b) (hs' : zsh[o' + a]? = some (.inr (.inl (0, n)))) (hs : zsh[o + a]? = some (.inr (.inl (0, n)))) (hdd : 0 < dd) (hr : (rest.map fun v => v.category).sum ≤ 8) (k : zAW g C dd cc own (pc + 3) lv rest (zpt σ o (zrow τ a (ztw σ o' a) n))) : zAW g C dd cc own pc lv (.int (nI n) :: .int (nI 0) :: .ref (zad g (o + a)) :: .int (nI 0) :: .ref (zad g (o' + a)) :: rest) (zpt σ o τ) := by
  refine za_copyi hd hm hs' hs (by omega) (by omega) hdd hr ?_
  have h : zci (zpt σ o τ) (o' + a) (o + a) 0 0 n = zpt σ o (zrow τ a (ztw σ o' a) n) := by
    refine Prod.ext (funext fun x => funext fun b => ?_) rfl
    show (if x = o + a ∧ 0 ≤ b ∧ b < 0 + n then (zpt σ o τ).1 (o' + a) (0 + (b - 0)) else (zpt σ o τ).1 x b) = (if o ≤ x ∧ zvl (x - o) b then zrow τ a (ztw σ o' a) n (x - o) b else σ.1 x b)
    by_cases h : x = o + a ∧ 0 ≤ b ∧ b < 0 + n
    · obtain ⟨rfl, -, hb⟩ := h
      rw [if_pos ⟨rfl, Nat.zero_le _, hb⟩, Nat.add_sub_cancel_left, if_pos ⟨Nat.le_add_right _ _, hv b (by omega)⟩, zpt_far hT hT' hne ha]
      unfold zrow
      rw [if_pos ⟨rfl, by omega⟩, Nat.zero_add, Nat.sub_zero]
      rfl
    · rw [if_neg h]
      show (if o ≤ x ∧ zvl (x - o) b then τ (x - o) b else σ.1 x b) = _
      by_cases h2 : o ≤ x ∧ zvl (x - o) b
      · rw [if_pos h2, if_pos h2]
        unfold zrow
        rw [if_neg (fun z => h ⟨by omega, Nat.zero_le _, by omega⟩)]
      · rw [if_neg h2, if_neg h2]
  rw [h]
  exact k
end ZTB

set_option maxRecDepth 20000 in
set_option maxHeartbeats 4000000 in
theorem tc_become0 {g : zG} {σ : zSto} {τ : zTn} {o o' : Nat} (hT : zTo o) (hT' : zTo o') (hne : o ≠ o') : zEd g 1 yX4_become cX4_become 2 none [.ref (zad g o), .ref (zad g o')] (zpt σ o τ) none (zpt σ o (ztw σ o')) := by
  refine zev_intro (own := RX4) (lv := [some (.ref (zad g o)), some (.ref (zad g o'))]) (by decide +kernel) rfl (Nat.le_of_ble_eq_true rfl) rfl (fun C hM hN => ?_)
  refine za_aload_n dX4_become_0 rfl ?_
  refine za_aload_n dX4_become_1 rfl ?_
  refine zt_getO hT hT' hne dX4_become_2 zf_X4_9 (by decide) ?_
  refine zt_putI hT dX4_become_5 zf_X4_9 zp_X4_0 (by decide) ?_
  refine za_aload_n dX4_become_8 rfl ?_
  refine za_aload_n dX4_become_9 rfl ?_
  refine zt_getO hT hT' hne dX4_become_10 zf_X4_15 (by decide) ?_
  refine zt_putI hT dX4_become_13 zf_X4_15 zp_X4_1 (by decide) ?_
  refine za_aload_n dX4_become_16 rfl ?_
  refine za_aload_n dX4_become_17 rfl ?_
  refine zt_getO hT hT' hne dX4_become_18 zf_X4_18 (by decide) ?_
  refine zt_putI hT dX4_become_21 zf_X4_18 zp_X4_2 (by decide) ?_
  refine za_aload_n dX4_become_24 rfl ?_
  refine za_aload_n dX4_become_25 rfl ?_
  refine zt_getO hT hT' hne dX4_become_26 zf_X4_21 (by decide) ?_
  refine zt_putI hT dX4_become_29 zf_X4_21 zp_X4_3 (by decide) ?_
  refine za_aload_n dX4_become_32 rfl ?_
  refine za_getR dX4_become_33 zf_X4_24 (tn0 hT') rfl ?_
  refine za_iconst (nI 0) dX4_become_36 (by decide) ?_
  refine za_aload_n dX4_become_37 rfl ?_
  refine za_getR dX4_become_38 zf_X4_24 (tn0 hT) rfl ?_
  refine za_iconst (nI 0) dX4_become_41 (by decide) ?_
  refine za_bipush (nI 6) dX4_become_42 (by decide) ?_
  refine zt_copy hT hT' hne dX4_become_44 zm_X4_43 (by decide) (fun _ h => zv1 h) (tn1 hT') (tn1 hT) (by decide) (Nat.le_of_ble_eq_true rfl) ?_
  refine za_aload_n dX4_become_47 rfl ?_
  refine za_getR dX4_become_48 zf_X4_28 (tn0 hT') rfl ?_
  refine za_iconst (nI 0) dX4_become_51 (by decide) ?_
  refine za_aload_n dX4_become_52 rfl ?_
  refine za_getR dX4_become_53 zf_X4_28 (tn0 hT) rfl ?_
  refine za_iconst (nI 0) dX4_become_56 (by decide) ?_
  refine za_bipush (nI 6) dX4_become_57 (by decide) ?_
  refine zt_copy hT hT' hne dX4_become_59 zm_X4_43 (by decide) (fun _ h => zv2 h) (tn2 hT') (tn2 hT) (by decide) (Nat.le_of_ble_eq_true rfl) ?_
  refine za_aload_n dX4_become_62 rfl ?_
  refine za_getR dX4_become_63 zf_X4_31 (tn0 hT') rfl ?_
  refine za_iconst (nI 0) dX4_become_66 (by decide) ?_
  refine za_aload_n dX4_become_67 rfl ?_
  refine za_getR dX4_become_68 zf_X4_31 (tn0 hT) rfl ?_
  refine za_iconst (nI 0) dX4_become_71 (by decide) ?_
  refine za_bipush (nI 8) dX4_become_72 (by decide) ?_
  refine zt_copy hT hT' hne dX4_become_74 zm_X4_43 (by decide) (fun _ h => zv3 h) (tn3 hT') (tn3 hT) (by decide) (Nat.le_of_ble_eq_true rfl) ?_
  refine za_aload_n dX4_become_77 rfl ?_
  refine za_getR dX4_become_78 zf_X4_34 (tn0 hT') rfl ?_
  refine za_iconst (nI 0) dX4_become_81 (by decide) ?_
  refine za_aload_n dX4_become_82 rfl ?_
  refine za_getR dX4_become_83 zf_X4_34 (tn0 hT) rfl ?_
  refine za_iconst (nI 0) dX4_become_86 (by decide) ?_
  refine za_bipush (nI 8) dX4_become_87 (by decide) ?_
  refine zt_copy hT hT' hne dX4_become_89 zm_X4_43 (by decide) (fun _ h => zv4 h) (tn4 hT') (tn4 hT) (by decide) (Nat.le_of_ble_eq_true rfl) ?_
  refine za_aload_n dX4_become_92 rfl ?_
  refine za_getR dX4_become_93 zf_X4_37 (tn0 hT') rfl ?_
  refine za_iconst (nI 0) dX4_become_96 (by decide) ?_
  refine za_aload_n dX4_become_97 rfl ?_
  refine za_getR dX4_become_98 zf_X4_37 (tn0 hT) rfl ?_
  refine za_iconst (nI 0) dX4_become_101 (by decide) ?_
  refine za_bipush (nI 8) dX4_become_102 (by decide) ?_
  refine zt_copy hT hT' hne dX4_become_104 zm_X4_43 (by decide) (fun _ h => zv5 h) (tn5 hT') (tn5 hT) (by decide) (Nat.le_of_ble_eq_true rfl) ?_
  refine za_aload_n dX4_become_107 rfl ?_
  refine za_getR dX4_become_108 zf_X4_40 (tn0 hT') rfl ?_
  refine za_iconst (nI 0) dX4_become_111 (by decide) ?_
  refine za_aload_n dX4_become_112 rfl ?_
  refine za_getR dX4_become_113 zf_X4_40 (tn0 hT) rfl ?_
  refine za_iconst (nI 0) dX4_become_116 (by decide) ?_
  refine za_bipush (nI 8) dX4_become_117 (by decide) ?_
  refine zt_copy hT hT' hne dX4_become_119 zm_X4_43 (by decide) (fun _ h => zv6 h) (tn6 hT') (tn6 hT) (by decide) (Nat.le_of_ble_eq_true rfl) ?_
  exact za_vret hM dX4_become_122 ⟨rfl, zpt_congr (fun k i hv => by
    unfold zrow zup
    rcases hv with ⟨a, b⟩ | ⟨a | a, b⟩ | ⟨a, b⟩
    · subst a
      rcases (show i = 0 ∨ i = 1 ∨ i = 2 ∨ i = 3 by omega) with rfl | rfl | rfl | rfl <;> rfl
    · subst a; simp [b]
    · subst a; simp [b]
    · rcases (show k = 3 ∨ k = 4 ∨ k = 5 ∨ k = 6 by omega) with rfl | rfl | rfl | rfl <;> simp [b])⟩

theorem tc_become {g : zG} {σ : zSto} {o o' : Nat} (hT : zTo o) (hT' : zTo o') (hne : o ≠ o') : zEd g 1 yX4_become cX4_become 2 none [.ref (zad g o), .ref (zad g o')] σ none (zpt σ o (ztw σ o')) := by
  have h := tc_become0 (g := g) (σ := σ) (τ := ztw σ o) hT hT' hne
  rw [zpt_tw] at h
  exact h
end
