theorem dX6_init_0 : decode cX6_init 0 = .ok (.aload_n 0, 1) := by decide +kernel
theorem dX6_init_1 : decode cX6_init 1 = .ok (.invokespecial 1, 3) := by decide +kernel
theorem dX6_init_4 : decode cX6_init 4 = .ok (.aload_n 0, 1) := by decide +kernel
theorem dX6_init_5 : decode cX6_init 5 = .ok (.bipush 48, 2) := by decide +kernel
theorem dX6_init_7 : decode cX6_init 7 = .ok (.newarray .int, 2) := by decide +kernel
theorem dX6_init_9 : decode cX6_init 9 = .ok (.putfield 7, 3) := by decide +kernel
theorem dX6_init_12 : decode cX6_init 12 = .ok (.aload_n 0, 1) := by decide +kernel
theorem dX6_init_13 : decode cX6_init 13 = .ok (.bipush 48, 2) := by decide +kernel
theorem dX6_init_15 : decode cX6_init 15 = .ok (.newarray .int, 2) := by decide +kernel
theorem dX6_init_17 : decode cX6_init 17 = .ok (.putfield 13, 3) := by decide +kernel
theorem dX6_init_20 : decode cX6_init 20 = .ok (.aload_n 0, 1) := by decide +kernel
theorem dX6_init_21 : decode cX6_init 21 = .ok (.bipush 48, 2) := by decide +kernel
theorem dX6_init_23 : decode cX6_init 23 = .ok (.newarray .int, 2) := by decide +kernel
theorem dX6_init_25 : decode cX6_init 25 = .ok (.putfield 16, 3) := by decide +kernel
theorem dX6_init_28 : decode cX6_init 28 = .ok (.aload_n 0, 1) := by decide +kernel
theorem dX6_init_29 : decode cX6_init 29 = .ok (.bipush 48, 2) := by decide +kernel
theorem dX6_init_31 : decode cX6_init 31 = .ok (.newarray .int, 2) := by decide +kernel
theorem dX6_init_33 : decode cX6_init 33 = .ok (.putfield 19, 3) := by decide +kernel
theorem dX6_init_36 : decode cX6_init 36 = .ok (.aload_n 0, 1) := by decide +kernel
theorem dX6_init_37 : decode cX6_init 37 = .ok (.bipush 7, 2) := by decide +kernel
theorem dX6_init_39 : decode cX6_init 39 = .ok (.newarray .int, 2) := by decide +kernel
theorem dX6_init_41 : decode cX6_init 41 = .ok (.putfield 22, 3) := by decide +kernel
theorem dX6_init_44 : decode cX6_init 44 = .ok (.aload_n 0, 1) := by decide +kernel
theorem dX6_init_45 : decode cX6_init 45 = .ok (.bipush 120, 2) := by decide +kernel
theorem dX6_init_47 : decode cX6_init 47 = .ok (.newarray .int, 2) := by decide +kernel
theorem dX6_init_49 : decode cX6_init 49 = .ok (.putfield 25, 3) := by decide +kernel
theorem dX6_init_52 : decode cX6_init 52 = .ok (.aload_n 0, 1) := by decide +kernel
theorem dX6_init_53 : decode cX6_init 53 = .ok (.iconst 4, 1) := by decide +kernel
theorem dX6_init_54 : decode cX6_init 54 = .ok (.newarray .int, 2) := by decide +kernel
theorem dX6_init_56 : decode cX6_init 56 = .ok (.putfield 28, 3) := by decide +kernel
theorem dX6_init_59 : decode cX6_init 59 = .ok (.aload_n 0, 1) := by decide +kernel
theorem dX6_init_60 : decode cX6_init 60 = .ok (.iconst 4, 1) := by decide +kernel
theorem dX6_init_61 : decode cX6_init 61 = .ok (.newarray .int, 2) := by decide +kernel
theorem dX6_init_63 : decode cX6_init 63 = .ok (.putfield 31, 3) := by decide +kernel
theorem dX6_init_66 : decode cX6_init 66 = .ok (.aload_n 0, 1) := by decide +kernel
theorem dX6_init_67 : decode cX6_init 67 = .ok (.sipush 160, 3) := by decide +kernel
theorem dX6_init_70 : decode cX6_init 70 = .ok (.newarray .long, 2) := by decide +kernel
theorem dX6_init_72 : decode cX6_init 72 = .ok (.putfield 34, 3) := by decide +kernel
theorem dX6_init_75 : decode cX6_init 75 = .ok (.aload_n 0, 1) := by decide +kernel
theorem dX6_init_76 : decode cX6_init 76 = .ok (.bipush 40, 2) := by decide +kernel
theorem dX6_init_78 : decode cX6_init 78 = .ok (.newarray .long, 2) := by decide +kernel
theorem dX6_init_80 : decode cX6_init 80 = .ok (.putfield 38, 3) := by decide +kernel
theorem dX6_init_83 : decode cX6_init 83 = .ok (.return_, 1) := by decide +kernel
theorem dX6_in_0 : decode cX6_in 0 = .ok (.lload_n 0, 1) := by decide +kernel
theorem dX6_in_1 : decode cX6_in 1 = .ok (.lload_n 2, 1) := by decide +kernel
theorem dX6_in_2 : decode cX6_in 2 = .ok (.lcmp, 1) := by decide +kernel
theorem dX6_in_3 : decode cX6_in 3 = .ok (.ifCond .lt 14, 3) := by decide +kernel
theorem dX6_in_6 : decode cX6_in 6 = .ok (.lload_n 0, 1) := by decide +kernel
theorem dX6_in_7 : decode cX6_in 7 = .ok (.lload 4, 2) := by decide +kernel
theorem dX6_in_9 : decode cX6_in 9 = .ok (.lcmp, 1) := by decide +kernel
theorem dX6_in_10 : decode cX6_in 10 = .ok (.ifCond .gt 7, 3) := by decide +kernel
theorem dX6_in_13 : decode cX6_in 13 = .ok (.iconst 1, 1) := by decide +kernel
theorem dX6_in_14 : decode cX6_in 14 = .ok (.goto 4, 3) := by decide +kernel
theorem dX6_in_17 : decode cX6_in 17 = .ok (.iconst 0, 1) := by decide +kernel
theorem dX6_in_18 : decode cX6_in 18 = .ok (.ireturn, 1) := by decide +kernel
theorem dX6_finds_0 : decode cX6_finds 0 = .ok (.aload_n 0, 1) := by decide +kernel
theorem dX6_finds_1 : decode cX6_finds 1 = .ok (.getfield 22, 3) := by decide +kernel
theorem dX6_finds_4 : decode cX6_finds 4 = .ok (.ldc 41, 2) := by decide +kernel
theorem dX6_finds_6 : decode cX6_finds 6 = .ok (.iload_n 1, 1) := by decide +kernel
theorem dX6_finds_7 : decode cX6_finds 7 = .ok (.isub, 1) := by decide +kernel
theorem dX6_finds_8 : decode cX6_finds 8 = .ok (.dup2, 1) := by decide +kernel
theorem dX6_finds_9 : decode cX6_finds 9 = .ok (.iaload, 1) := by decide +kernel
theorem dX6_finds_10 : decode cX6_finds 10 = .ok (.iconst 1, 1) := by decide +kernel
theorem dX6_finds_11 : decode cX6_finds 11 = .ok (.iadd, 1) := by decide +kernel
theorem dX6_finds_12 : decode cX6_finds 12 = .ok (.iastore, 1) := by decide +kernel
theorem dX6_finds_13 : decode cX6_finds 13 = .ok (.iload_n 1, 1) := by decide +kernel
theorem dX6_finds_14 : decode cX6_finds 14 = .ok (.ireturn, 1) := by decide +kernel
theorem dX6_saves_0 : decode cX6_saves 0 = .ok (.iconst 0, 1) := by decide +kernel
theorem dX6_saves_1 : decode cX6_saves 1 = .ok (.istore_n 1, 1) := by decide +kernel
theorem dX6_saves_2 : decode cX6_saves 2 = .ok (.iload_n 1, 1) := by decide +kernel
theorem dX6_saves_3 : decode cX6_saves 3 = .ok (.bipush 48, 2) := by decide +kernel
theorem dX6_saves_5 : decode cX6_saves 5 = .ok (.if_icmp .ge 21, 3) := by decide +kernel
theorem dX6_saves_8 : decode cX6_saves 8 = .ok (.aload_n 0, 1) := by decide +kernel
theorem dX6_saves_9 : decode cX6_saves 9 = .ok (.getfield 16, 3) := by decide +kernel
theorem dX6_saves_12 : decode cX6_saves 12 = .ok (.iload_n 1, 1) := by decide +kernel
theorem dX6_saves_13 : decode cX6_saves 13 = .ok (.aload_n 0, 1) := by decide +kernel
theorem dX6_saves_14 : decode cX6_saves 14 = .ok (.getfield 7, 3) := by decide +kernel
theorem dX6_saves_17 : decode cX6_saves 17 = .ok (.iload_n 1, 1) := by decide +kernel
theorem dX6_saves_18 : decode cX6_saves 18 = .ok (.iaload, 1) := by decide +kernel
theorem dX6_saves_19 : decode cX6_saves 19 = .ok (.iastore, 1) := by decide +kernel
theorem dX6_saves_20 : decode cX6_saves 20 = .ok (.iinc 1 1, 3) := by decide +kernel
theorem dX6_saves_23 : decode cX6_saves 23 = .ok (.goto (-21), 3) := by decide +kernel
theorem dX6_saves_26 : decode cX6_saves 26 = .ok (.return_, 1) := by decide +kernel
theorem dX6_putsBack_0 : decode cX6_putsBack 0 = .ok (.iconst 0, 1) := by decide +kernel
theorem dX6_putsBack_1 : decode cX6_putsBack 1 = .ok (.istore_n 1, 1) := by decide +kernel
theorem dX6_putsBack_2 : decode cX6_putsBack 2 = .ok (.iload_n 1, 1) := by decide +kernel
theorem dX6_putsBack_3 : decode cX6_putsBack 3 = .ok (.bipush 48, 2) := by decide +kernel
theorem dX6_putsBack_5 : decode cX6_putsBack 5 = .ok (.if_icmp .ge 21, 3) := by decide +kernel
theorem dX6_putsBack_8 : decode cX6_putsBack 8 = .ok (.aload_n 0, 1) := by decide +kernel
theorem dX6_putsBack_9 : decode cX6_putsBack 9 = .ok (.getfield 7, 3) := by decide +kernel
theorem dX6_putsBack_12 : decode cX6_putsBack 12 = .ok (.iload_n 1, 1) := by decide +kernel
theorem dX6_putsBack_13 : decode cX6_putsBack 13 = .ok (.aload_n 0, 1) := by decide +kernel
theorem dX6_putsBack_14 : decode cX6_putsBack 14 = .ok (.getfield 16, 3) := by decide +kernel
theorem dX6_putsBack_17 : decode cX6_putsBack 17 = .ok (.iload_n 1, 1) := by decide +kernel
theorem dX6_putsBack_18 : decode cX6_putsBack 18 = .ok (.iaload, 1) := by decide +kernel
theorem dX6_putsBack_19 : decode cX6_putsBack 19 = .ok (.iastore, 1) := by decide +kernel
theorem dX6_putsBack_20 : decode cX6_putsBack 20 = .ok (.iinc 1 1, 3) := by decide +kernel
theorem dX6_putsBack_23 : decode cX6_putsBack 23 = .ok (.goto (-21), 3) := by decide +kernel
theorem dX6_putsBack_26 : decode cX6_putsBack 26 = .ok (.return_, 1) := by decide +kernel
theorem dX6_laysAside_0 : decode cX6_laysAside 0 = .ok (.iconst 0, 1) := by decide +kernel
theorem dX6_laysAside_1 : decode cX6_laysAside 1 = .ok (.istore_n 1, 1) := by decide +kernel
theorem dX6_laysAside_2 : decode cX6_laysAside 2 = .ok (.iload_n 1, 1) := by decide +kernel
theorem dX6_laysAside_3 : decode cX6_laysAside 3 = .ok (.bipush 48, 2) := by decide +kernel
theorem dX6_laysAside_5 : decode cX6_laysAside 5 = .ok (.if_icmp .ge 21, 3) := by decide +kernel
theorem dX6_laysAside_8 : decode cX6_laysAside 8 = .ok (.aload_n 0, 1) := by decide +kernel
theorem dX6_laysAside_9 : decode cX6_laysAside 9 = .ok (.getfield 19, 3) := by decide +kernel
theorem dX6_laysAside_12 : decode cX6_laysAside 12 = .ok (.iload_n 1, 1) := by decide +kernel
theorem dX6_laysAside_13 : decode cX6_laysAside 13 = .ok (.aload_n 0, 1) := by decide +kernel
theorem dX6_laysAside_14 : decode cX6_laysAside 14 = .ok (.getfield 7, 3) := by decide +kernel
theorem dX6_laysAside_17 : decode cX6_laysAside 17 = .ok (.iload_n 1, 1) := by decide +kernel
theorem dX6_laysAside_18 : decode cX6_laysAside 18 = .ok (.iaload, 1) := by decide +kernel
theorem dX6_laysAside_19 : decode cX6_laysAside 19 = .ok (.iastore, 1) := by decide +kernel
theorem dX6_laysAside_20 : decode cX6_laysAside 20 = .ok (.iinc 1 1, 3) := by decide +kernel
theorem dX6_laysAside_23 : decode cX6_laysAside 23 = .ok (.goto (-21), 3) := by decide +kernel
theorem dX6_laysAside_26 : decode cX6_laysAside 26 = .ok (.return_, 1) := by decide +kernel
theorem dX6_takesBack_0 : decode cX6_takesBack 0 = .ok (.iconst 0, 1) := by decide +kernel
theorem dX6_takesBack_1 : decode cX6_takesBack 1 = .ok (.istore_n 2, 1) := by decide +kernel
theorem dX6_takesBack_2 : decode cX6_takesBack 2 = .ok (.iload_n 2, 1) := by decide +kernel
theorem dX6_takesBack_3 : decode cX6_takesBack 3 = .ok (.bipush 48, 2) := by decide +kernel
theorem dX6_takesBack_5 : decode cX6_takesBack 5 = .ok (.if_icmp .ge 21, 3) := by decide +kernel
theorem dX6_takesBack_8 : decode cX6_takesBack 8 = .ok (.aload_n 0, 1) := by decide +kernel
theorem dX6_takesBack_9 : decode cX6_takesBack 9 = .ok (.getfield 7, 3) := by decide +kernel
theorem dX6_takesBack_12 : decode cX6_takesBack 12 = .ok (.iload_n 2, 1) := by decide +kernel
theorem dX6_takesBack_13 : decode cX6_takesBack 13 = .ok (.aload_n 0, 1) := by decide +kernel
theorem dX6_takesBack_14 : decode cX6_takesBack 14 = .ok (.getfield 19, 3) := by decide +kernel
theorem dX6_takesBack_17 : decode cX6_takesBack 17 = .ok (.iload_n 2, 1) := by decide +kernel
theorem dX6_takesBack_18 : decode cX6_takesBack 18 = .ok (.iaload, 1) := by decide +kernel
theorem dX6_takesBack_19 : decode cX6_takesBack 19 = .ok (.iastore, 1) := by decide +kernel
theorem dX6_takesBack_20 : decode cX6_takesBack 20 = .ok (.iinc 2 1, 3) := by decide +kernel
theorem dX6_takesBack_23 : decode cX6_takesBack 23 = .ok (.goto (-21), 3) := by decide +kernel
theorem dX6_takesBack_26 : decode cX6_takesBack 26 = .ok (.iload_n 1, 1) := by decide +kernel
theorem dX6_takesBack_27 : decode cX6_takesBack 27 = .ok (.ireturn, 1) := by decide +kernel
theorem dX6_becomes_0 : decode cX6_becomes 0 = .ok (.aload_n 0, 1) := by decide +kernel
theorem dX6_becomes_1 : decode cX6_becomes 1 = .ok (.getfield 7, 3) := by decide +kernel
theorem dX6_becomes_4 : decode cX6_becomes 4 = .ok (.iload_n 1, 1) := by decide +kernel
theorem dX6_becomes_5 : decode cX6_becomes 5 = .ok (.iaload, 1) := by decide +kernel
theorem dX6_becomes_6 : decode cX6_becomes 6 = .ok (.istore_n 3, 1) := by decide +kernel
theorem dX6_becomes_7 : decode cX6_becomes 7 = .ok (.aload_n 0, 1) := by decide +kernel
theorem dX6_becomes_8 : decode cX6_becomes 8 = .ok (.getfield 7, 3) := by decide +kernel
theorem dX6_becomes_11 : decode cX6_becomes 11 = .ok (.iload_n 1, 1) := by decide +kernel
theorem dX6_becomes_12 : decode cX6_becomes 12 = .ok (.iload_n 2, 1) := by decide +kernel
theorem dX6_becomes_13 : decode cX6_becomes 13 = .ok (.iastore, 1) := by decide +kernel
theorem dX6_becomes_14 : decode cX6_becomes 14 = .ok (.iload_n 3, 1) := by decide +kernel
theorem dX6_becomes_15 : decode cX6_becomes 15 = .ok (.ireturn, 1) := by decide +kernel
theorem dX6_basinSpot_0 : decode cX6_basinSpot 0 = .ok (.iconst 4, 1) := by decide +kernel
theorem dX6_basinSpot_1 : decode cX6_basinSpot 1 = .ok (.iconst 2, 1) := by decide +kernel
theorem dX6_basinSpot_2 : decode cX6_basinSpot 2 = .ok (.iload_n 0, 1) := by decide +kernel
theorem dX6_basinSpot_3 : decode cX6_basinSpot 3 = .ok (.imul, 1) := by decide +kernel
theorem dX6_basinSpot_4 : decode cX6_basinSpot 4 = .ok (.iadd, 1) := by decide +kernel
theorem dX6_basinSpot_5 : decode cX6_basinSpot 5 = .ok (.iload_n 1, 1) := by decide +kernel
theorem dX6_basinSpot_6 : decode cX6_basinSpot 6 = .ok (.iadd, 1) := by decide +kernel
theorem dX6_basinSpot_7 : decode cX6_basinSpot 7 = .ok (.ireturn, 1) := by decide +kernel
theorem dX6_spot_0 : decode cX6_spot 0 = .ok (.bipush 16, 2) := by decide +kernel
theorem dX6_spot_2 : decode cX6_spot 2 = .ok (.iconst 4, 1) := by decide +kernel
theorem dX6_spot_3 : decode cX6_spot 3 = .ok (.iload_n 0, 1) := by decide +kernel
theorem dX6_spot_4 : decode cX6_spot 4 = .ok (.imul, 1) := by decide +kernel
theorem dX6_spot_5 : decode cX6_spot 5 = .ok (.iadd, 1) := by decide +kernel
theorem dX6_spot_6 : decode cX6_spot 6 = .ok (.iload_n 1, 1) := by decide +kernel
theorem dX6_spot_7 : decode cX6_spot 7 = .ok (.iadd, 1) := by decide +kernel
theorem dX6_spot_8 : decode cX6_spot 8 = .ok (.ireturn, 1) := by decide +kernel
theorem dX6_its_0 : decode cX6_its 0 = .ok (.aload_n 0, 1) := by decide +kernel
theorem dX6_its_1 : decode cX6_its 1 = .ok (.getfield 7, 3) := by decide +kernel
theorem dX6_its_4 : decode cX6_its 4 = .ok (.iload_n 1, 1) := by decide +kernel
theorem dX6_its_5 : decode cX6_its 5 = .ok (.iload_n 2, 1) := by decide +kernel
theorem dX6_its_6 : decode cX6_its 6 = .ok (.invokestatic 42, 3) := by decide +kernel
theorem dX6_its_9 : decode cX6_its 9 = .ok (.iaload, 1) := by decide +kernel
theorem dX6_its_10 : decode cX6_its 10 = .ok (.ireturn, 1) := by decide +kernel
theorem dX6_isPerson_0 : decode cX6_isPerson 0 = .ok (.iload_n 1, 1) := by decide +kernel
theorem dX6_isPerson_1 : decode cX6_isPerson 1 = .ok (.i2l, 1) := by decide +kernel
theorem dX6_isPerson_2 : decode cX6_isPerson 2 = .ok (.lconst 0, 1) := by decide +kernel
theorem dX6_isPerson_3 : decode cX6_isPerson 3 = .ok (.aload_n 0, 1) := by decide +kernel
theorem dX6_isPerson_4 : decode cX6_isPerson 4 = .ok (.getfield 7, 3) := by decide +kernel
theorem dX6_isPerson_7 : decode cX6_isPerson 7 = .ok (.iconst 1, 1) := by decide +kernel
theorem dX6_isPerson_8 : decode cX6_isPerson 8 = .ok (.iaload, 1) := by decide +kernel
theorem dX6_isPerson_9 : decode cX6_isPerson 9 = .ok (.iconst 1, 1) := by decide +kernel
theorem dX6_isPerson_10 : decode cX6_isPerson 10 = .ok (.isub, 1) := by decide +kernel
theorem dX6_isPerson_11 : decode cX6_isPerson 11 = .ok (.i2l, 1) := by decide +kernel
theorem dX6_isPerson_12 : decode cX6_isPerson 12 = .ok (.invokestatic 46, 3) := by decide +kernel
theorem dX6_isPerson_15 : decode cX6_isPerson 15 = .ok (.ireturn, 1) := by decide +kernel
theorem dX6_isQuestion_0 : decode cX6_isQuestion 0 = .ok (.iload_n 0, 1) := by decide +kernel
theorem dX6_isQuestion_1 : decode cX6_isQuestion 1 = .ok (.i2l, 1) := by decide +kernel
theorem dX6_isQuestion_2 : decode cX6_isQuestion 2 = .ok (.lconst 0, 1) := by decide +kernel
theorem dX6_isQuestion_3 : decode cX6_isQuestion 3 = .ok (.ldc2_w 50, 3) := by decide +kernel
theorem dX6_isQuestion_6 : decode cX6_isQuestion 6 = .ok (.invokestatic 46, 3) := by decide +kernel
theorem dX6_isQuestion_9 : decode cX6_isQuestion 9 = .ok (.ireturn, 1) := by decide +kernel
theorem dX6_isKind_0 : decode cX6_isKind 0 = .ok (.iload_n 0, 1) := by decide +kernel
theorem dX6_isKind_1 : decode cX6_isKind 1 = .ok (.i2l, 1) := by decide +kernel
theorem dX6_isKind_2 : decode cX6_isKind 2 = .ok (.lconst 0, 1) := by decide +kernel
theorem dX6_isKind_3 : decode cX6_isKind 3 = .ok (.ldc2_w 50, 3) := by decide +kernel
theorem dX6_isKind_6 : decode cX6_isKind 6 = .ok (.invokestatic 46, 3) := by decide +kernel
theorem dX6_isKind_9 : decode cX6_isKind 9 = .ok (.ireturn, 1) := by decide +kernel
theorem dX6_heldTo_0 : decode cX6_heldTo 0 = .ok (.iload_n 0, 1) := by decide +kernel
theorem dX6_heldTo_1 : decode cX6_heldTo 1 = .ok (.iload_n 1, 1) := by decide +kernel
theorem dX6_heldTo_2 : decode cX6_heldTo 2 = .ok (.if_icmp .le 7, 3) := by decide +kernel
theorem dX6_heldTo_5 : decode cX6_heldTo 5 = .ok (.iload_n 1, 1) := by decide +kernel
theorem dX6_heldTo_6 : decode cX6_heldTo 6 = .ok (.goto 4, 3) := by decide +kernel
theorem dX6_heldTo_9 : decode cX6_heldTo 9 = .ok (.iload_n 0, 1) := by decide +kernel
theorem dX6_heldTo_10 : decode cX6_heldTo 10 = .ok (.ireturn, 1) := by decide +kernel
theorem dX6_ofDay_0 : decode cX6_ofDay 0 = .ok (.aload_n 0, 1) := by decide +kernel
theorem dX6_ofDay_1 : decode cX6_ofDay 1 = .ok (.getfield 7, 3) := by decide +kernel
theorem dX6_ofDay_4 : decode cX6_ofDay 4 = .ok (.iconst 0, 1) := by decide +kernel
theorem dX6_ofDay_5 : decode cX6_ofDay 5 = .ok (.iaload, 1) := by decide +kernel
theorem dX6_ofDay_6 : decode cX6_ofDay 6 = .ok (.bipush 6, 2) := by decide +kernel
theorem dX6_ofDay_8 : decode cX6_ofDay 8 = .ok (.irem, 1) := by decide +kernel
theorem dX6_ofDay_9 : decode cX6_ofDay 9 = .ok (.ireturn, 1) := by decide +kernel
theorem dX6_together_0 : decode cX6_together 0 = .ok (.iconst 0, 1) := by decide +kernel
theorem dX6_together_1 : decode cX6_together 1 = .ok (.istore_n 2, 1) := by decide +kernel
theorem dX6_together_2 : decode cX6_together 2 = .ok (.iconst 0, 1) := by decide +kernel
theorem dX6_together_3 : decode cX6_together 3 = .ok (.istore_n 3, 1) := by decide +kernel
theorem dX6_together_4 : decode cX6_together 4 = .ok (.iload_n 3, 1) := by decide +kernel
theorem dX6_together_5 : decode cX6_together 5 = .ok (.bipush 6, 2) := by decide +kernel
theorem dX6_together_7 : decode cX6_together 7 = .ok (.if_icmp .ge 22, 3) := by decide +kernel
theorem dX6_together_10 : decode cX6_together 10 = .ok (.iload_n 2, 1) := by decide +kernel
theorem dX6_together_11 : decode cX6_together 11 = .ok (.aload_n 0, 1) := by decide +kernel
theorem dX6_together_12 : decode cX6_together 12 = .ok (.getfield 7, 3) := by decide +kernel
theorem dX6_together_15 : decode cX6_together 15 = .ok (.iload_n 3, 1) := by decide +kernel
theorem dX6_together_16 : decode cX6_together 16 = .ok (.iload_n 1, 1) := by decide +kernel
theorem dX6_together_17 : decode cX6_together 17 = .ok (.invokestatic 52, 3) := by decide +kernel
theorem dX6_together_20 : decode cX6_together 20 = .ok (.iaload, 1) := by decide +kernel
theorem dX6_together_21 : decode cX6_together 21 = .ok (.iadd, 1) := by decide +kernel
theorem dX6_together_22 : decode cX6_together 22 = .ok (.istore_n 2, 1) := by decide +kernel
theorem dX6_together_23 : decode cX6_together 23 = .ok (.iinc 3 1, 3) := by decide +kernel
theorem dX6_together_26 : decode cX6_together 26 = .ok (.goto (-22), 3) := by decide +kernel
theorem dX6_together_29 : decode cX6_together 29 = .ok (.iload_n 2, 1) := by decide +kernel
theorem dX6_together_30 : decode cX6_together 30 = .ok (.ireturn, 1) := by decide +kernel
theorem dX6_pence_0 : decode cX6_pence 0 = .ok (.iconst 0, 1) := by decide +kernel
theorem dX6_pence_1 : decode cX6_pence 1 = .ok (.istore_n 1, 1) := by decide +kernel
theorem dX6_pence_2 : decode cX6_pence 2 = .ok (.iconst 0, 1) := by decide +kernel
theorem dX6_pence_3 : decode cX6_pence 3 = .ok (.istore_n 2, 1) := by decide +kernel
theorem dX6_pence_4 : decode cX6_pence 4 = .ok (.iload_n 2, 1) := by decide +kernel
theorem dX6_pence_5 : decode cX6_pence 5 = .ok (.aload_n 0, 1) := by decide +kernel
theorem dX6_pence_6 : decode cX6_pence 6 = .ok (.getfield 7, 3) := by decide +kernel
theorem dX6_pence_9 : decode cX6_pence 9 = .ok (.iconst 1, 1) := by decide +kernel
theorem dX6_pence_10 : decode cX6_pence 10 = .ok (.iaload, 1) := by decide +kernel
theorem dX6_pence_11 : decode cX6_pence 11 = .ok (.if_icmp .ge 18, 3) := by decide +kernel
theorem dX6_pence_14 : decode cX6_pence 14 = .ok (.iload_n 1, 1) := by decide +kernel
theorem dX6_pence_15 : decode cX6_pence 15 = .ok (.aload_n 0, 1) := by decide +kernel
theorem dX6_pence_16 : decode cX6_pence 16 = .ok (.iload_n 2, 1) := by decide +kernel
theorem dX6_pence_17 : decode cX6_pence 17 = .ok (.iconst 2, 1) := by decide +kernel
theorem dX6_pence_18 : decode cX6_pence 18 = .ok (.invokevirtual 55, 3) := by decide +kernel
theorem dX6_pence_21 : decode cX6_pence 21 = .ok (.iadd, 1) := by decide +kernel
theorem dX6_pence_22 : decode cX6_pence 22 = .ok (.istore_n 1, 1) := by decide +kernel
theorem dX6_pence_23 : decode cX6_pence 23 = .ok (.iinc 2 1, 3) := by decide +kernel
theorem dX6_pence_26 : decode cX6_pence 26 = .ok (.goto (-22), 3) := by decide +kernel
theorem dX6_pence_29 : decode cX6_pence 29 = .ok (.iload_n 1, 1) := by decide +kernel
theorem dX6_pence_30 : decode cX6_pence 30 = .ok (.ireturn, 1) := by decide +kernel
theorem dX6_lies_0 : decode cX6_lies 0 = .ok (.iload_n 2, 1) := by decide +kernel
theorem dX6_lies_1 : decode cX6_lies 1 = .ok (.i2l, 1) := by decide +kernel
theorem dX6_lies_2 : decode cX6_lies 2 = .ok (.lconst 0, 1) := by decide +kernel
theorem dX6_lies_3 : decode cX6_lies 3 = .ok (.lconst 1, 1) := by decide +kernel
theorem dX6_lies_4 : decode cX6_lies 4 = .ok (.invokestatic 46, 3) := by decide +kernel
theorem dX6_lies_7 : decode cX6_lies 7 = .ok (.ifCond .eq 19, 3) := by decide +kernel
theorem dX6_lies_10 : decode cX6_lies 10 = .ok (.iload_n 3, 1) := by decide +kernel
theorem dX6_lies_11 : decode cX6_lies 11 = .ok (.i2l, 1) := by decide +kernel
theorem dX6_lies_12 : decode cX6_lies 12 = .ok (.lconst 0, 1) := by decide +kernel
theorem dX6_lies_13 : decode cX6_lies 13 = .ok (.ldc2_w 58, 3) := by decide +kernel
theorem dX6_lies_16 : decode cX6_lies 16 = .ok (.invokestatic 46, 3) := by decide +kernel
theorem dX6_lies_19 : decode cX6_lies 19 = .ok (.ifCond .eq 7, 3) := by decide +kernel
theorem dX6_lies_22 : decode cX6_lies 22 = .ok (.iconst 1, 1) := by decide +kernel
theorem dX6_lies_23 : decode cX6_lies 23 = .ok (.goto 4, 3) := by decide +kernel
theorem dX6_lies_26 : decode cX6_lies 26 = .ok (.iconst 0, 1) := by decide +kernel
theorem dX6_lies_27 : decode cX6_lies 27 = .ok (.istore 4, 2) := by decide +kernel
theorem dX6_lies_29 : decode cX6_lies 29 = .ok (.iload_n 1, 1) := by decide +kernel
theorem dX6_lies_30 : decode cX6_lies 30 = .ok (.invokestatic 60, 3) := by decide +kernel
theorem dX6_lies_33 : decode cX6_lies 33 = .ok (.ifCond .eq 21, 3) := by decide +kernel
theorem dX6_lies_36 : decode cX6_lies 36 = .ok (.iload 4, 2) := by decide +kernel
theorem dX6_lies_38 : decode cX6_lies 38 = .ok (.ifCond .eq 16, 3) := by decide +kernel
theorem dX6_lies_41 : decode cX6_lies 41 = .ok (.aload_n 0, 1) := by decide +kernel
theorem dX6_lies_42 : decode cX6_lies 42 = .ok (.iload_n 1, 1) := by decide +kernel
theorem dX6_lies_43 : decode cX6_lies 43 = .ok (.iload_n 2, 1) := by decide +kernel
theorem dX6_lies_44 : decode cX6_lies 44 = .ok (.invokestatic 52, 3) := by decide +kernel
theorem dX6_lies_47 : decode cX6_lies 47 = .ok (.iload_n 3, 1) := by decide +kernel
theorem dX6_lies_48 : decode cX6_lies 48 = .ok (.invokevirtual 64, 3) := by decide +kernel
theorem dX6_lies_51 : decode cX6_lies 51 = .ok (.goto 9, 3) := by decide +kernel
theorem dX6_lies_54 : decode cX6_lies 54 = .ok (.aload_n 0, 1) := by decide +kernel
theorem dX6_lies_55 : decode cX6_lies 55 = .ok (.ldc 41, 2) := by decide +kernel
theorem dX6_lies_57 : decode cX6_lies 57 = .ok (.invokevirtual 67, 3) := by decide +kernel
theorem dX6_lies_60 : decode cX6_lies 60 = .ok (.ireturn, 1) := by decide +kernel
theorem dX6_heldIn_0 : decode cX6_heldIn 0 = .ok (.aload_n 0, 1) := by decide +kernel
theorem dX6_heldIn_1 : decode cX6_heldIn 1 = .ok (.getfield 7, 3) := by decide +kernel
theorem dX6_heldIn_4 : decode cX6_heldIn 4 = .ok (.iconst 2, 1) := by decide +kernel
theorem dX6_heldIn_5 : decode cX6_heldIn 5 = .ok (.iaload, 1) := by decide +kernel
theorem dX6_heldIn_6 : decode cX6_heldIn 6 = .ok (.iload_n 1, 1) := by decide +kernel
theorem dX6_heldIn_7 : decode cX6_heldIn 7 = .ok (.ishr, 1) := by decide +kernel
theorem dX6_heldIn_8 : decode cX6_heldIn 8 = .ok (.iconst 1, 1) := by decide +kernel
theorem dX6_heldIn_9 : decode cX6_heldIn 9 = .ok (.iand, 1) := by decide +kernel
theorem dX6_heldIn_10 : decode cX6_heldIn 10 = .ok (.ireturn, 1) := by decide +kernel
theorem dX6_basin_0 : decode cX6_basin 0 = .ok (.iload_n 1, 1) := by decide +kernel
theorem dX6_basin_1 : decode cX6_basin 1 = .ok (.invokestatic 60, 3) := by decide +kernel
theorem dX6_basin_4 : decode cX6_basin 4 = .ok (.ifCond .eq 15, 3) := by decide +kernel
theorem dX6_basin_7 : decode cX6_basin 7 = .ok (.iload_n 2, 1) := by decide +kernel
theorem dX6_basin_8 : decode cX6_basin 8 = .ok (.i2l, 1) := by decide +kernel
theorem dX6_basin_9 : decode cX6_basin 9 = .ok (.lconst 0, 1) := by decide +kernel
theorem dX6_basin_10 : decode cX6_basin 10 = .ok (.ldc2_w 71, 3) := by decide +kernel
theorem dX6_basin_13 : decode cX6_basin 13 = .ok (.invokestatic 46, 3) := by decide +kernel
theorem dX6_basin_16 : decode cX6_basin 16 = .ok (.ifCond .ne 10, 3) := by decide +kernel
theorem dX6_basin_19 : decode cX6_basin 19 = .ok (.aload_n 0, 1) := by decide +kernel
theorem dX6_basin_20 : decode cX6_basin 20 = .ok (.ldc 41, 2) := by decide +kernel
theorem dX6_basin_22 : decode cX6_basin 22 = .ok (.invokevirtual 67, 3) := by decide +kernel
theorem dX6_basin_25 : decode cX6_basin 25 = .ok (.ireturn, 1) := by decide +kernel
theorem dX6_basin_26 : decode cX6_basin 26 = .ok (.iload_n 2, 1) := by decide +kernel
theorem dX6_basin_27 : decode cX6_basin 27 = .ok (.iconst 2, 1) := by decide +kernel
theorem dX6_basin_28 : decode cX6_basin 28 = .ok (.if_icmp .ne 11, 3) := by decide +kernel
theorem dX6_basin_31 : decode cX6_basin 31 = .ok (.aload_n 0, 1) := by decide +kernel
theorem dX6_basin_32 : decode cX6_basin 32 = .ok (.iload_n 1, 1) := by decide +kernel
theorem dX6_basin_33 : decode cX6_basin 33 = .ok (.invokevirtual 73, 3) := by decide +kernel
theorem dX6_basin_36 : decode cX6_basin 36 = .ok (.goto 13, 3) := by decide +kernel
theorem dX6_basin_39 : decode cX6_basin 39 = .ok (.aload_n 0, 1) := by decide +kernel
theorem dX6_basin_40 : decode cX6_basin 40 = .ok (.getfield 7, 3) := by decide +kernel
theorem dX6_basin_43 : decode cX6_basin 43 = .ok (.iload_n 1, 1) := by decide +kernel
theorem dX6_basin_44 : decode cX6_basin 44 = .ok (.iload_n 2, 1) := by decide +kernel
theorem dX6_basin_45 : decode cX6_basin 45 = .ok (.invokestatic 52, 3) := by decide +kernel
theorem dX6_basin_48 : decode cX6_basin 48 = .ok (.iaload, 1) := by decide +kernel
theorem dX6_basin_49 : decode cX6_basin 49 = .ok (.ireturn, 1) := by decide +kernel
theorem dX6_bribe_0 : decode cX6_bribe 0 = .ok (.iload_n 1, 1) := by decide +kernel
theorem dX6_bribe_1 : decode cX6_bribe 1 = .ok (.i2l, 1) := by decide +kernel
theorem dX6_bribe_2 : decode cX6_bribe 2 = .ok (.lconst 0, 1) := by decide +kernel
theorem dX6_bribe_3 : decode cX6_bribe 3 = .ok (.lconst 1, 1) := by decide +kernel
theorem dX6_bribe_4 : decode cX6_bribe 4 = .ok (.invokestatic 46, 3) := by decide +kernel
theorem dX6_bribe_7 : decode cX6_bribe 7 = .ok (.ifCond .eq 12, 3) := by decide +kernel
theorem dX6_bribe_10 : decode cX6_bribe 10 = .ok (.aload_n 0, 1) := by decide +kernel
theorem dX6_bribe_11 : decode cX6_bribe 11 = .ok (.iconst 3, 1) := by decide +kernel
theorem dX6_bribe_12 : decode cX6_bribe 12 = .ok (.iload_n 1, 1) := by decide +kernel
theorem dX6_bribe_13 : decode cX6_bribe 13 = .ok (.invokevirtual 64, 3) := by decide +kernel
theorem dX6_bribe_16 : decode cX6_bribe 16 = .ok (.goto 9, 3) := by decide +kernel
theorem dX6_bribe_19 : decode cX6_bribe 19 = .ok (.aload_n 0, 1) := by decide +kernel
theorem dX6_bribe_20 : decode cX6_bribe 20 = .ok (.ldc 41, 2) := by decide +kernel
theorem dX6_bribe_22 : decode cX6_bribe 22 = .ok (.invokevirtual 67, 3) := by decide +kernel
theorem dX6_bribe_25 : decode cX6_bribe 25 = .ok (.ireturn, 1) := by decide +kernel
theorem dX6_held_0 : decode cX6_held 0 = .ok (.iload_n 1, 1) := by decide +kernel
theorem dX6_held_1 : decode cX6_held 1 = .ok (.i2l, 1) := by decide +kernel
theorem dX6_held_2 : decode cX6_held 2 = .ok (.lconst 0, 1) := by decide +kernel
theorem dX6_held_3 : decode cX6_held 3 = .ok (.ldc2_w 76, 3) := by decide +kernel
theorem dX6_held_6 : decode cX6_held 6 = .ok (.invokestatic 46, 3) := by decide +kernel
theorem dX6_held_9 : decode cX6_held 9 = .ok (.ifCond .eq 12, 3) := by decide +kernel
theorem dX6_held_12 : decode cX6_held 12 = .ok (.aload_n 0, 1) := by decide +kernel
theorem dX6_held_13 : decode cX6_held 13 = .ok (.iconst 2, 1) := by decide +kernel
theorem dX6_held_14 : decode cX6_held 14 = .ok (.iload_n 1, 1) := by decide +kernel
theorem dX6_held_15 : decode cX6_held 15 = .ok (.invokevirtual 64, 3) := by decide +kernel
theorem dX6_held_18 : decode cX6_held 18 = .ok (.goto 9, 3) := by decide +kernel
theorem dX6_held_21 : decode cX6_held 21 = .ok (.aload_n 0, 1) := by decide +kernel
theorem dX6_held_22 : decode cX6_held 22 = .ok (.ldc 41, 2) := by decide +kernel
theorem dX6_held_24 : decode cX6_held 24 = .ok (.invokevirtual 67, 3) := by decide +kernel
theorem dX6_held_27 : decode cX6_held 27 = .ok (.ireturn, 1) := by decide +kernel
theorem dX6_leftOnes_0 : decode cX6_leftOnes 0 = .ok (.iconst 0, 1) := by decide +kernel
theorem dX6_leftOnes_1 : decode cX6_leftOnes 1 = .ok (.istore_n 1, 1) := by decide +kernel
theorem dX6_leftOnes_2 : decode cX6_leftOnes 2 = .ok (.iconst 0, 1) := by decide +kernel
theorem dX6_leftOnes_3 : decode cX6_leftOnes 3 = .ok (.istore_n 2, 1) := by decide +kernel
theorem dX6_leftOnes_4 : decode cX6_leftOnes 4 = .ok (.iload_n 2, 1) := by decide +kernel
theorem dX6_leftOnes_5 : decode cX6_leftOnes 5 = .ok (.aload_n 0, 1) := by decide +kernel
theorem dX6_leftOnes_6 : decode cX6_leftOnes 6 = .ok (.getfield 7, 3) := by decide +kernel
theorem dX6_leftOnes_9 : decode cX6_leftOnes 9 = .ok (.iconst 1, 1) := by decide +kernel
theorem dX6_leftOnes_10 : decode cX6_leftOnes 10 = .ok (.iaload, 1) := by decide +kernel
theorem dX6_leftOnes_11 : decode cX6_leftOnes 11 = .ok (.if_icmp .ge 40, 3) := by decide +kernel
theorem dX6_leftOnes_14 : decode cX6_leftOnes 14 = .ok (.iload_n 1, 1) := by decide +kernel
theorem dX6_leftOnes_15 : decode cX6_leftOnes 15 = .ok (.aload_n 0, 1) := by decide +kernel
theorem dX6_leftOnes_16 : decode cX6_leftOnes 16 = .ok (.iload_n 2, 1) := by decide +kernel
theorem dX6_leftOnes_17 : decode cX6_leftOnes 17 = .ok (.iconst 3, 1) := by decide +kernel
theorem dX6_leftOnes_18 : decode cX6_leftOnes 18 = .ok (.invokevirtual 55, 3) := by decide +kernel
theorem dX6_leftOnes_21 : decode cX6_leftOnes 21 = .ok (.ifCond .ne 21, 3) := by decide +kernel
theorem dX6_leftOnes_24 : decode cX6_leftOnes 24 = .ok (.aload_n 0, 1) := by decide +kernel
theorem dX6_leftOnes_25 : decode cX6_leftOnes 25 = .ok (.iload_n 2, 1) := by decide +kernel
theorem dX6_leftOnes_26 : decode cX6_leftOnes 26 = .ok (.aload_n 0, 1) := by decide +kernel
theorem dX6_leftOnes_27 : decode cX6_leftOnes 27 = .ok (.invokevirtual 78, 3) := by decide +kernel
theorem dX6_leftOnes_30 : decode cX6_leftOnes 30 = .ok (.invokevirtual 82, 3) := by decide +kernel
theorem dX6_leftOnes_33 : decode cX6_leftOnes 33 = .ok (.ifCond .ne 9, 3) := by decide +kernel
theorem dX6_leftOnes_36 : decode cX6_leftOnes 36 = .ok (.iconst 1, 1) := by decide +kernel
theorem dX6_leftOnes_37 : decode cX6_leftOnes 37 = .ok (.iload_n 2, 1) := by decide +kernel
theorem dX6_leftOnes_38 : decode cX6_leftOnes 38 = .ok (.ishl, 1) := by decide +kernel
theorem dX6_leftOnes_39 : decode cX6_leftOnes 39 = .ok (.goto 4, 3) := by decide +kernel
theorem dX6_leftOnes_42 : decode cX6_leftOnes 42 = .ok (.iconst 0, 1) := by decide +kernel
theorem dX6_leftOnes_43 : decode cX6_leftOnes 43 = .ok (.ior, 1) := by decide +kernel
theorem dX6_leftOnes_44 : decode cX6_leftOnes 44 = .ok (.istore_n 1, 1) := by decide +kernel
theorem dX6_leftOnes_45 : decode cX6_leftOnes 45 = .ok (.iinc 2 1, 3) := by decide +kernel
theorem dX6_leftOnes_48 : decode cX6_leftOnes 48 = .ok (.goto (-44), 3) := by decide +kernel
theorem dX6_leftOnes_51 : decode cX6_leftOnes 51 = .ok (.iload_n 1, 1) := by decide +kernel
theorem dX6_leftOnes_52 : decode cX6_leftOnes 52 = .ok (.ireturn, 1) := by decide +kernel
theorem dX6_now_0 : decode cX6_now 0 = .ok (.iload_n 1, 1) := by decide +kernel
theorem dX6_now_1 : decode cX6_now 1 = .ok (.tableswitch 91 0 6 #[43, 50, 55, 62, 69, 74, 79], 43) := by decide +kernel
theorem dX6_now_44 : decode cX6_now 44 = .ok (.aload_n 0, 1) := by decide +kernel
theorem dX6_now_45 : decode cX6_now 45 = .ok (.getfield 7, 3) := by decide +kernel
theorem dX6_now_48 : decode cX6_now 48 = .ok (.iconst 0, 1) := by decide +kernel
theorem dX6_now_49 : decode cX6_now 49 = .ok (.iaload, 1) := by decide +kernel
theorem dX6_now_50 : decode cX6_now 50 = .ok (.ireturn, 1) := by decide +kernel
theorem dX6_now_51 : decode cX6_now 51 = .ok (.aload_n 0, 1) := by decide +kernel
theorem dX6_now_52 : decode cX6_now 52 = .ok (.invokevirtual 78, 3) := by decide +kernel
theorem dX6_now_55 : decode cX6_now 55 = .ok (.ireturn, 1) := by decide +kernel
theorem dX6_now_56 : decode cX6_now 56 = .ok (.aload_n 0, 1) := by decide +kernel
theorem dX6_now_57 : decode cX6_now 57 = .ok (.getfield 7, 3) := by decide +kernel
theorem dX6_now_60 : decode cX6_now 60 = .ok (.iconst 2, 1) := by decide +kernel
theorem dX6_now_61 : decode cX6_now 61 = .ok (.iaload, 1) := by decide +kernel
theorem dX6_now_62 : decode cX6_now 62 = .ok (.ireturn, 1) := by decide +kernel
theorem dX6_now_63 : decode cX6_now 63 = .ok (.aload_n 0, 1) := by decide +kernel
theorem dX6_now_64 : decode cX6_now 64 = .ok (.getfield 7, 3) := by decide +kernel
theorem dX6_now_67 : decode cX6_now 67 = .ok (.iconst 3, 1) := by decide +kernel
theorem dX6_now_68 : decode cX6_now 68 = .ok (.iaload, 1) := by decide +kernel
theorem dX6_now_69 : decode cX6_now 69 = .ok (.ireturn, 1) := by decide +kernel
theorem dX6_now_70 : decode cX6_now 70 = .ok (.aload_n 0, 1) := by decide +kernel
theorem dX6_now_71 : decode cX6_now 71 = .ok (.invokevirtual 85, 3) := by decide +kernel
theorem dX6_now_74 : decode cX6_now 74 = .ok (.ireturn, 1) := by decide +kernel
theorem dX6_now_75 : decode cX6_now 75 = .ok (.aload_n 0, 1) := by decide +kernel
theorem dX6_now_76 : decode cX6_now 76 = .ok (.invokevirtual 88, 3) := by decide +kernel
theorem dX6_now_79 : decode cX6_now 79 = .ok (.ireturn, 1) := by decide +kernel
theorem dX6_now_80 : decode cX6_now 80 = .ok (.aload_n 0, 1) := by decide +kernel
theorem dX6_now_81 : decode cX6_now 81 = .ok (.iconst 0, 1) := by decide +kernel
theorem dX6_now_82 : decode cX6_now 82 = .ok (.invokevirtual 91, 3) := by decide +kernel
theorem dX6_now_85 : decode cX6_now 85 = .ok (.aload_n 0, 1) := by decide +kernel
theorem dX6_now_86 : decode cX6_now 86 = .ok (.iconst 1, 1) := by decide +kernel
theorem dX6_now_87 : decode cX6_now 87 = .ok (.invokevirtual 91, 3) := by decide +kernel
theorem dX6_now_90 : decode cX6_now 90 = .ok (.iadd, 1) := by decide +kernel
theorem dX6_now_91 : decode cX6_now 91 = .ok (.ireturn, 1) := by decide +kernel
theorem dX6_now_92 : decode cX6_now 92 = .ok (.aload_n 0, 1) := by decide +kernel
theorem dX6_now_93 : decode cX6_now 93 = .ok (.ldc 41, 2) := by decide +kernel
theorem dX6_now_95 : decode cX6_now 95 = .ok (.invokevirtual 67, 3) := by decide +kernel
theorem dX6_now_98 : decode cX6_now 98 = .ok (.ireturn, 1) := by decide +kernel
theorem dX6_ladySide_0 : decode cX6_ladySide 0 = .ok (.iconst 1, 1) := by decide +kernel
theorem dX6_ladySide_1 : decode cX6_ladySide 1 = .ok (.aload_n 0, 1) := by decide +kernel
theorem dX6_ladySide_2 : decode cX6_ladySide 2 = .ok (.iload_n 1, 1) := by decide +kernel
theorem dX6_ladySide_3 : decode cX6_ladySide 3 = .ok (.iconst 1, 1) := by decide +kernel
theorem dX6_ladySide_4 : decode cX6_ladySide 4 = .ok (.invokevirtual 55, 3) := by decide +kernel
theorem dX6_ladySide_7 : decode cX6_ladySide 7 = .ok (.iload_n 2, 1) := by decide +kernel
theorem dX6_ladySide_8 : decode cX6_ladySide 8 = .ok (.ishr, 1) := by decide +kernel
theorem dX6_ladySide_9 : decode cX6_ladySide 9 = .ok (.iconst 1, 1) := by decide +kernel
theorem dX6_ladySide_10 : decode cX6_ladySide 10 = .ok (.iand, 1) := by decide +kernel
theorem dX6_ladySide_11 : decode cX6_ladySide 11 = .ok (.isub, 1) := by decide +kernel
theorem dX6_ladySide_12 : decode cX6_ladySide 12 = .ok (.istore_n 3, 1) := by decide +kernel
theorem dX6_ladySide_13 : decode cX6_ladySide 13 = .ok (.aload_n 0, 1) := by decide +kernel
theorem dX6_ladySide_14 : decode cX6_ladySide 14 = .ok (.getfield 7, 3) := by decide +kernel
theorem dX6_ladySide_17 : decode cX6_ladySide 17 = .ok (.iload_n 2, 1) := by decide +kernel
theorem dX6_ladySide_18 : decode cX6_ladySide 18 = .ok (.iload_n 3, 1) := by decide +kernel
theorem dX6_ladySide_19 : decode cX6_ladySide 19 = .ok (.invokestatic 52, 3) := by decide +kernel
theorem dX6_ladySide_22 : decode cX6_ladySide 22 = .ok (.iaload, 1) := by decide +kernel
theorem dX6_ladySide_23 : decode cX6_ladySide 23 = .ok (.aload_n 0, 1) := by decide +kernel
theorem dX6_ladySide_24 : decode cX6_ladySide 24 = .ok (.getfield 7, 3) := by decide +kernel
theorem dX6_ladySide_27 : decode cX6_ladySide 27 = .ok (.iload_n 2, 1) := by decide +kernel
theorem dX6_ladySide_28 : decode cX6_ladySide 28 = .ok (.iconst 1, 1) := by decide +kernel
theorem dX6_ladySide_29 : decode cX6_ladySide 29 = .ok (.iload_n 3, 1) := by decide +kernel
theorem dX6_ladySide_30 : decode cX6_ladySide 30 = .ok (.isub, 1) := by decide +kernel
theorem dX6_ladySide_31 : decode cX6_ladySide 31 = .ok (.invokestatic 52, 3) := by decide +kernel
theorem dX6_ladySide_34 : decode cX6_ladySide 34 = .ok (.iaload, 1) := by decide +kernel
theorem dX6_ladySide_35 : decode cX6_ladySide 35 = .ok (.isub, 1) := by decide +kernel
theorem dX6_ladySide_36 : decode cX6_ladySide 36 = .ok (.istore 4, 2) := by decide +kernel
theorem dX6_ladySide_38 : decode cX6_ladySide 38 = .ok (.iload 4, 2) := by decide +kernel
theorem dX6_ladySide_40 : decode cX6_ladySide 40 = .ok (.bipush 20, 2) := by decide +kernel
theorem dX6_ladySide_42 : decode cX6_ladySide 42 = .ok (.if_icmp .le 9, 3) := by decide +kernel
theorem dX6_ladySide_45 : decode cX6_ladySide 45 = .ok (.iconst 1, 1) := by decide +kernel
theorem dX6_ladySide_46 : decode cX6_ladySide 46 = .ok (.iload_n 3, 1) := by decide +kernel
theorem dX6_ladySide_47 : decode cX6_ladySide 47 = .ok (.isub, 1) := by decide +kernel
theorem dX6_ladySide_48 : decode cX6_ladySide 48 = .ok (.goto 4, 3) := by decide +kernel
theorem dX6_ladySide_51 : decode cX6_ladySide 51 = .ok (.iload_n 3, 1) := by decide +kernel
theorem dX6_ladySide_52 : decode cX6_ladySide 52 = .ok (.ireturn, 1) := by decide +kernel
theorem dX6_sideOf_0 : decode cX6_sideOf 0 = .ok (.aload_n 0, 1) := by decide +kernel
theorem dX6_sideOf_1 : decode cX6_sideOf 1 = .ok (.getfield 7, 3) := by decide +kernel
theorem dX6_sideOf_4 : decode cX6_sideOf 4 = .ok (.iload_n 2, 1) := by decide +kernel
theorem dX6_sideOf_5 : decode cX6_sideOf 5 = .ok (.iconst 0, 1) := by decide +kernel
theorem dX6_sideOf_6 : decode cX6_sideOf 6 = .ok (.invokestatic 52, 3) := by decide +kernel
theorem dX6_sideOf_9 : decode cX6_sideOf 9 = .ok (.iaload, 1) := by decide +kernel
theorem dX6_sideOf_10 : decode cX6_sideOf 10 = .ok (.aload_n 0, 1) := by decide +kernel
theorem dX6_sideOf_11 : decode cX6_sideOf 11 = .ok (.getfield 7, 3) := by decide +kernel
theorem dX6_sideOf_14 : decode cX6_sideOf 14 = .ok (.iload_n 2, 1) := by decide +kernel
theorem dX6_sideOf_15 : decode cX6_sideOf 15 = .ok (.iconst 1, 1) := by decide +kernel
theorem dX6_sideOf_16 : decode cX6_sideOf 16 = .ok (.invokestatic 52, 3) := by decide +kernel
theorem dX6_sideOf_19 : decode cX6_sideOf 19 = .ok (.iaload, 1) := by decide +kernel
theorem dX6_sideOf_20 : decode cX6_sideOf 20 = .ok (.if_icmp .gt 7, 3) := by decide +kernel
theorem dX6_sideOf_23 : decode cX6_sideOf 23 = .ok (.iconst 1, 1) := by decide +kernel
theorem dX6_sideOf_24 : decode cX6_sideOf 24 = .ok (.goto 4, 3) := by decide +kernel
theorem dX6_sideOf_27 : decode cX6_sideOf 27 = .ok (.iconst 0, 1) := by decide +kernel
theorem dX6_sideOf_28 : decode cX6_sideOf 28 = .ok (.istore_n 3, 1) := by decide +kernel
theorem dX6_sideOf_29 : decode cX6_sideOf 29 = .ok (.aload_n 0, 1) := by decide +kernel
theorem dX6_sideOf_30 : decode cX6_sideOf 30 = .ok (.iload_n 1, 1) := by decide +kernel
theorem dX6_sideOf_31 : decode cX6_sideOf 31 = .ok (.iconst 0, 1) := by decide +kernel
theorem dX6_sideOf_32 : decode cX6_sideOf 32 = .ok (.invokevirtual 55, 3) := by decide +kernel
theorem dX6_sideOf_35 : decode cX6_sideOf 35 = .ok (.tableswitch 66 1 5 #[33, 40, 50, 59, 40], 33) := by decide +kernel
theorem dX6_sideOf_68 : decode cX6_sideOf 68 = .ok (.aload_n 0, 1) := by decide +kernel
theorem dX6_sideOf_69 : decode cX6_sideOf 69 = .ok (.iload_n 1, 1) := by decide +kernel
theorem dX6_sideOf_70 : decode cX6_sideOf 70 = .ok (.iload_n 2, 1) := by decide +kernel
theorem dX6_sideOf_71 : decode cX6_sideOf 71 = .ok (.invokevirtual 94, 3) := by decide +kernel
theorem dX6_sideOf_74 : decode cX6_sideOf 74 = .ok (.ireturn, 1) := by decide +kernel
theorem dX6_sideOf_75 : decode cX6_sideOf 75 = .ok (.iload_n 3, 1) := by decide +kernel
theorem dX6_sideOf_76 : decode cX6_sideOf 76 = .ok (.ifCond .eq 7, 3) := by decide +kernel
theorem dX6_sideOf_79 : decode cX6_sideOf 79 = .ok (.iconst 0, 1) := by decide +kernel
theorem dX6_sideOf_80 : decode cX6_sideOf 80 = .ok (.goto 4, 3) := by decide +kernel
theorem dX6_sideOf_83 : decode cX6_sideOf 83 = .ok (.iconst 1, 1) := by decide +kernel
theorem dX6_sideOf_84 : decode cX6_sideOf 84 = .ok (.ireturn, 1) := by decide +kernel
theorem dX6_sideOf_85 : decode cX6_sideOf 85 = .ok (.aload_n 0, 1) := by decide +kernel
theorem dX6_sideOf_86 : decode cX6_sideOf 86 = .ok (.getfield 7, 3) := by decide +kernel
theorem dX6_sideOf_89 : decode cX6_sideOf 89 = .ok (.iconst 0, 1) := by decide +kernel
theorem dX6_sideOf_90 : decode cX6_sideOf 90 = .ok (.iaload, 1) := by decide +kernel
theorem dX6_sideOf_91 : decode cX6_sideOf 91 = .ok (.iconst 2, 1) := by decide +kernel
theorem dX6_sideOf_92 : decode cX6_sideOf 92 = .ok (.irem, 1) := by decide +kernel
theorem dX6_sideOf_93 : decode cX6_sideOf 93 = .ok (.ireturn, 1) := by decide +kernel
theorem dX6_sideOf_94 : decode cX6_sideOf 94 = .ok (.aload_n 0, 1) := by decide +kernel
theorem dX6_sideOf_95 : decode cX6_sideOf 95 = .ok (.getfield 7, 3) := by decide +kernel
theorem dX6_sideOf_98 : decode cX6_sideOf 98 = .ok (.iconst 3, 1) := by decide +kernel
theorem dX6_sideOf_99 : decode cX6_sideOf 99 = .ok (.iaload, 1) := by decide +kernel
theorem dX6_sideOf_100 : decode cX6_sideOf 100 = .ok (.ireturn, 1) := by decide +kernel
theorem dX6_sideOf_101 : decode cX6_sideOf 101 = .ok (.iconst 1, 1) := by decide +kernel
theorem dX6_sideOf_102 : decode cX6_sideOf 102 = .ok (.aload_n 0, 1) := by decide +kernel
theorem dX6_sideOf_103 : decode cX6_sideOf 103 = .ok (.iload_n 1, 1) := by decide +kernel
theorem dX6_sideOf_104 : decode cX6_sideOf 104 = .ok (.iconst 1, 1) := by decide +kernel
theorem dX6_sideOf_105 : decode cX6_sideOf 105 = .ok (.invokevirtual 55, 3) := by decide +kernel
theorem dX6_sideOf_108 : decode cX6_sideOf 108 = .ok (.iload_n 2, 1) := by decide +kernel
theorem dX6_sideOf_109 : decode cX6_sideOf 109 = .ok (.ishr, 1) := by decide +kernel
theorem dX6_sideOf_110 : decode cX6_sideOf 110 = .ok (.iconst 1, 1) := by decide +kernel
theorem dX6_sideOf_111 : decode cX6_sideOf 111 = .ok (.iand, 1) := by decide +kernel
theorem dX6_sideOf_112 : decode cX6_sideOf 112 = .ok (.isub, 1) := by decide +kernel
theorem dX6_sideOf_113 : decode cX6_sideOf 113 = .ok (.ireturn, 1) := by decide +kernel
theorem dX6_throwsOf_0 : decode cX6_throwsOf 0 = .ok (.aload_n 0, 1) := by decide +kernel
theorem dX6_throwsOf_1 : decode cX6_throwsOf 1 = .ok (.iload_n 1, 1) := by decide +kernel
theorem dX6_throwsOf_2 : decode cX6_throwsOf 2 = .ok (.iconst 2, 1) := by decide +kernel
theorem dX6_throwsOf_3 : decode cX6_throwsOf 3 = .ok (.invokevirtual 55, 3) := by decide +kernel
theorem dX6_throwsOf_6 : decode cX6_throwsOf 6 = .ok (.istore_n 2, 1) := by decide +kernel
theorem dX6_throwsOf_7 : decode cX6_throwsOf 7 = .ok (.iconst 1, 1) := by decide +kernel
theorem dX6_throwsOf_8 : decode cX6_throwsOf 8 = .ok (.iload_n 2, 1) := by decide +kernel
theorem dX6_throwsOf_9 : decode cX6_throwsOf 9 = .ok (.bipush 20, 2) := by decide +kernel
theorem dX6_throwsOf_11 : decode cX6_throwsOf 11 = .ok (.idiv, 1) := by decide +kernel
theorem dX6_throwsOf_12 : decode cX6_throwsOf 12 = .ok (.iadd, 1) := by decide +kernel
theorem dX6_throwsOf_13 : decode cX6_throwsOf 13 = .ok (.istore_n 3, 1) := by decide +kernel
theorem dX6_throwsOf_14 : decode cX6_throwsOf 14 = .ok (.aload_n 0, 1) := by decide +kernel
theorem dX6_throwsOf_15 : decode cX6_throwsOf 15 = .ok (.iload_n 1, 1) := by decide +kernel
theorem dX6_throwsOf_16 : decode cX6_throwsOf 16 = .ok (.iconst 0, 1) := by decide +kernel
theorem dX6_throwsOf_17 : decode cX6_throwsOf 17 = .ok (.invokevirtual 55, 3) := by decide +kernel
theorem dX6_throwsOf_20 : decode cX6_throwsOf 20 = .ok (.tableswitch 58 1 5 #[36, 42, 44, 50, 42], 36) := by decide +kernel
theorem dX6_throwsOf_56 : decode cX6_throwsOf 56 = .ok (.iload_n 3, 1) := by decide +kernel
theorem dX6_throwsOf_57 : decode cX6_throwsOf 57 = .ok (.iload_n 2, 1) := by decide +kernel
theorem dX6_throwsOf_58 : decode cX6_throwsOf 58 = .ok (.invokestatic 97, 3) := by decide +kernel
theorem dX6_throwsOf_61 : decode cX6_throwsOf 61 = .ok (.ireturn, 1) := by decide +kernel
theorem dX6_throwsOf_62 : decode cX6_throwsOf 62 = .ok (.iconst 0, 1) := by decide +kernel
theorem dX6_throwsOf_63 : decode cX6_throwsOf 63 = .ok (.ireturn, 1) := by decide +kernel
theorem dX6_throwsOf_64 : decode cX6_throwsOf 64 = .ok (.iconst 3, 1) := by decide +kernel
theorem dX6_throwsOf_65 : decode cX6_throwsOf 65 = .ok (.iload_n 2, 1) := by decide +kernel
theorem dX6_throwsOf_66 : decode cX6_throwsOf 66 = .ok (.invokestatic 97, 3) := by decide +kernel
theorem dX6_throwsOf_69 : decode cX6_throwsOf 69 = .ok (.ireturn, 1) := by decide +kernel
theorem dX6_throwsOf_70 : decode cX6_throwsOf 70 = .ok (.iconst 2, 1) := by decide +kernel
theorem dX6_throwsOf_71 : decode cX6_throwsOf 71 = .ok (.iload_n 3, 1) := by decide +kernel
theorem dX6_throwsOf_72 : decode cX6_throwsOf 72 = .ok (.imul, 1) := by decide +kernel
theorem dX6_throwsOf_73 : decode cX6_throwsOf 73 = .ok (.iload_n 2, 1) := by decide +kernel
theorem dX6_throwsOf_74 : decode cX6_throwsOf 74 = .ok (.invokestatic 97, 3) := by decide +kernel
theorem dX6_throwsOf_77 : decode cX6_throwsOf 77 = .ok (.ireturn, 1) := by decide +kernel
theorem dX6_throwsOf_78 : decode cX6_throwsOf 78 = .ok (.iconst 1, 1) := by decide +kernel
theorem dX6_throwsOf_79 : decode cX6_throwsOf 79 = .ok (.iload_n 2, 1) := by decide +kernel
theorem dX6_throwsOf_80 : decode cX6_throwsOf 80 = .ok (.invokestatic 97, 3) := by decide +kernel
theorem dX6_throwsOf_83 : decode cX6_throwsOf 83 = .ok (.ireturn, 1) := by decide +kernel
theorem dX6_fuller_0 : decode cX6_fuller 0 = .ok (.aload_n 0, 1) := by decide +kernel
theorem dX6_fuller_1 : decode cX6_fuller 1 = .ok (.getfield 7, 3) := by decide +kernel
theorem dX6_fuller_4 : decode cX6_fuller 4 = .ok (.iload_n 1, 1) := by decide +kernel
theorem dX6_fuller_5 : decode cX6_fuller 5 = .ok (.iconst 1, 1) := by decide +kernel
theorem dX6_fuller_6 : decode cX6_fuller 6 = .ok (.invokestatic 52, 3) := by decide +kernel
theorem dX6_fuller_9 : decode cX6_fuller 9 = .ok (.iaload, 1) := by decide +kernel
theorem dX6_fuller_10 : decode cX6_fuller 10 = .ok (.aload_n 0, 1) := by decide +kernel
theorem dX6_fuller_11 : decode cX6_fuller 11 = .ok (.getfield 7, 3) := by decide +kernel
theorem dX6_fuller_14 : decode cX6_fuller 14 = .ok (.iload_n 1, 1) := by decide +kernel
theorem dX6_fuller_15 : decode cX6_fuller 15 = .ok (.iconst 0, 1) := by decide +kernel
theorem dX6_fuller_16 : decode cX6_fuller 16 = .ok (.invokestatic 52, 3) := by decide +kernel
theorem dX6_fuller_19 : decode cX6_fuller 19 = .ok (.iaload, 1) := by decide +kernel
theorem dX6_fuller_20 : decode cX6_fuller 20 = .ok (.if_icmp .le 7, 3) := by decide +kernel
theorem dX6_fuller_23 : decode cX6_fuller 23 = .ok (.iconst 1, 1) := by decide +kernel
theorem dX6_fuller_24 : decode cX6_fuller 24 = .ok (.goto 4, 3) := by decide +kernel
theorem dX6_fuller_27 : decode cX6_fuller 27 = .ok (.iconst 0, 1) := by decide +kernel
theorem dX6_fuller_28 : decode cX6_fuller 28 = .ok (.ireturn, 1) := by decide +kernel
theorem dX6_divesOf_0 : decode cX6_divesOf 0 = .ok (.aload_n 0, 1) := by decide +kernel
theorem dX6_divesOf_1 : decode cX6_divesOf 1 = .ok (.getfield 7, 3) := by decide +kernel
theorem dX6_divesOf_4 : decode cX6_divesOf 4 = .ok (.iload_n 2, 1) := by decide +kernel
theorem dX6_divesOf_5 : decode cX6_divesOf 5 = .ok (.iconst 0, 1) := by decide +kernel
theorem dX6_divesOf_6 : decode cX6_divesOf 6 = .ok (.invokestatic 52, 3) := by decide +kernel
theorem dX6_divesOf_9 : decode cX6_divesOf 9 = .ok (.iaload, 1) := by decide +kernel
theorem dX6_divesOf_10 : decode cX6_divesOf 10 = .ok (.istore_n 3, 1) := by decide +kernel
theorem dX6_divesOf_11 : decode cX6_divesOf 11 = .ok (.aload_n 0, 1) := by decide +kernel
theorem dX6_divesOf_12 : decode cX6_divesOf 12 = .ok (.getfield 7, 3) := by decide +kernel
theorem dX6_divesOf_15 : decode cX6_divesOf 15 = .ok (.iload_n 2, 1) := by decide +kernel
theorem dX6_divesOf_16 : decode cX6_divesOf 16 = .ok (.iconst 1, 1) := by decide +kernel
theorem dX6_divesOf_17 : decode cX6_divesOf 17 = .ok (.invokestatic 52, 3) := by decide +kernel
theorem dX6_divesOf_20 : decode cX6_divesOf 20 = .ok (.iaload, 1) := by decide +kernel
theorem dX6_divesOf_21 : decode cX6_divesOf 21 = .ok (.istore 4, 2) := by decide +kernel
theorem dX6_divesOf_23 : decode cX6_divesOf 23 = .ok (.aload_n 0, 1) := by decide +kernel
theorem dX6_divesOf_24 : decode cX6_divesOf 24 = .ok (.getfield 7, 3) := by decide +kernel
theorem dX6_divesOf_27 : decode cX6_divesOf 27 = .ok (.iload_n 2, 1) := by decide +kernel
theorem dX6_divesOf_28 : decode cX6_divesOf 28 = .ok (.aload_n 0, 1) := by decide +kernel
theorem dX6_divesOf_29 : decode cX6_divesOf 29 = .ok (.iload_n 2, 1) := by decide +kernel
theorem dX6_divesOf_30 : decode cX6_divesOf 30 = .ok (.invokevirtual 100, 3) := by decide +kernel
theorem dX6_divesOf_33 : decode cX6_divesOf 33 = .ok (.invokestatic 52, 3) := by decide +kernel
theorem dX6_divesOf_36 : decode cX6_divesOf 36 = .ok (.iaload, 1) := by decide +kernel
theorem dX6_divesOf_37 : decode cX6_divesOf 37 = .ok (.istore 5, 2) := by decide +kernel
theorem dX6_divesOf_39 : decode cX6_divesOf 39 = .ok (.aload_n 0, 1) := by decide +kernel
theorem dX6_divesOf_40 : decode cX6_divesOf 40 = .ok (.iload_n 1, 1) := by decide +kernel
theorem dX6_divesOf_41 : decode cX6_divesOf 41 = .ok (.iconst 0, 1) := by decide +kernel
theorem dX6_divesOf_42 : decode cX6_divesOf 42 = .ok (.invokevirtual 55, 3) := by decide +kernel
theorem dX6_divesOf_45 : decode cX6_divesOf 45 = .ok (.lookupswitch 49 #[(2, 27), (5, 34)], 27) := by decide +kernel
theorem dX6_divesOf_72 : decode cX6_divesOf 72 = .ok (.iconst 2, 1) := by decide +kernel
theorem dX6_divesOf_73 : decode cX6_divesOf 73 = .ok (.iload 5, 2) := by decide +kernel
theorem dX6_divesOf_75 : decode cX6_divesOf 75 = .ok (.invokestatic 97, 3) := by decide +kernel
theorem dX6_divesOf_78 : decode cX6_divesOf 78 = .ok (.ireturn, 1) := by decide +kernel
theorem dX6_divesOf_79 : decode cX6_divesOf 79 = .ok (.iconst 2, 1) := by decide +kernel
theorem dX6_divesOf_80 : decode cX6_divesOf 80 = .ok (.iload_n 3, 1) := by decide +kernel
theorem dX6_divesOf_81 : decode cX6_divesOf 81 = .ok (.iload 4, 2) := by decide +kernel
theorem dX6_divesOf_83 : decode cX6_divesOf 83 = .ok (.iadd, 1) := by decide +kernel
theorem dX6_divesOf_84 : decode cX6_divesOf 84 = .ok (.bipush 10, 2) := by decide +kernel
theorem dX6_divesOf_86 : decode cX6_divesOf 86 = .ok (.idiv, 1) := by decide +kernel
theorem dX6_divesOf_87 : decode cX6_divesOf 87 = .ok (.iadd, 1) := by decide +kernel
theorem dX6_divesOf_88 : decode cX6_divesOf 88 = .ok (.iload 5, 2) := by decide +kernel
theorem dX6_divesOf_90 : decode cX6_divesOf 90 = .ok (.invokestatic 97, 3) := by decide +kernel
theorem dX6_divesOf_93 : decode cX6_divesOf 93 = .ok (.ireturn, 1) := by decide +kernel
theorem dX6_divesOf_94 : decode cX6_divesOf 94 = .ok (.iconst 0, 1) := by decide +kernel
theorem dX6_divesOf_95 : decode cX6_divesOf 95 = .ok (.ireturn, 1) := by decide +kernel
theorem dX6_earnsOf_0 : decode cX6_earnsOf 0 = .ok (.aload_n 0, 1) := by decide +kernel
theorem dX6_earnsOf_1 : decode cX6_earnsOf 1 = .ok (.iload_n 1, 1) := by decide +kernel
theorem dX6_earnsOf_2 : decode cX6_earnsOf 2 = .ok (.iconst 0, 1) := by decide +kernel
theorem dX6_earnsOf_3 : decode cX6_earnsOf 3 = .ok (.invokevirtual 55, 3) := by decide +kernel
theorem dX6_earnsOf_6 : decode cX6_earnsOf 6 = .ok (.tableswitch 40 1 5 #[34, 38, 36, 38, 38], 34) := by decide +kernel
theorem dX6_earnsOf_40 : decode cX6_earnsOf 40 = .ok (.iconst 3, 1) := by decide +kernel
theorem dX6_earnsOf_41 : decode cX6_earnsOf 41 = .ok (.ireturn, 1) := by decide +kernel
theorem dX6_earnsOf_42 : decode cX6_earnsOf 42 = .ok (.iconst 4, 1) := by decide +kernel
theorem dX6_earnsOf_43 : decode cX6_earnsOf 43 = .ok (.ireturn, 1) := by decide +kernel
theorem dX6_earnsOf_44 : decode cX6_earnsOf 44 = .ok (.iconst 0, 1) := by decide +kernel
theorem dX6_earnsOf_45 : decode cX6_earnsOf 45 = .ok (.ireturn, 1) := by decide +kernel
theorem dX6_earnsOf_46 : decode cX6_earnsOf 46 = .ok (.iconst 2, 1) := by decide +kernel
theorem dX6_earnsOf_47 : decode cX6_earnsOf 47 = .ok (.ireturn, 1) := by decide +kernel
theorem dX6_adds_0 : decode cX6_adds 0 = .ok (.aload_n 0, 1) := by decide +kernel
theorem dX6_adds_1 : decode cX6_adds 1 = .ok (.getfield 7, 3) := by decide +kernel
theorem dX6_adds_4 : decode cX6_adds 4 = .ok (.iconst 1, 1) := by decide +kernel
theorem dX6_adds_5 : decode cX6_adds 5 = .ok (.iaload, 1) := by decide +kernel
theorem dX6_adds_6 : decode cX6_adds 6 = .ok (.istore_n 2, 1) := by decide +kernel
theorem dX6_adds_7 : decode cX6_adds 7 = .ok (.aload_n 0, 1) := by decide +kernel
theorem dX6_adds_8 : decode cX6_adds 8 = .ok (.getfield 7, 3) := by decide +kernel
theorem dX6_adds_11 : decode cX6_adds 11 = .ok (.iconst 1, 1) := by decide +kernel
theorem dX6_adds_12 : decode cX6_adds 12 = .ok (.dup2, 1) := by decide +kernel
theorem dX6_adds_13 : decode cX6_adds 13 = .ok (.iaload, 1) := by decide +kernel
theorem dX6_adds_14 : decode cX6_adds 14 = .ok (.iconst 1, 1) := by decide +kernel
theorem dX6_adds_15 : decode cX6_adds 15 = .ok (.iadd, 1) := by decide +kernel
theorem dX6_adds_16 : decode cX6_adds 16 = .ok (.iastore, 1) := by decide +kernel
theorem dX6_adds_17 : decode cX6_adds 17 = .ok (.aload_n 0, 1) := by decide +kernel
theorem dX6_adds_18 : decode cX6_adds 18 = .ok (.getfield 7, 3) := by decide +kernel
theorem dX6_adds_21 : decode cX6_adds 21 = .ok (.iload_n 2, 1) := by decide +kernel
theorem dX6_adds_22 : decode cX6_adds 22 = .ok (.iconst 0, 1) := by decide +kernel
theorem dX6_adds_23 : decode cX6_adds 23 = .ok (.invokestatic 42, 3) := by decide +kernel
theorem dX6_adds_26 : decode cX6_adds 26 = .ok (.iload_n 1, 1) := by decide +kernel
theorem dX6_adds_27 : decode cX6_adds 27 = .ok (.iastore, 1) := by decide +kernel
theorem dX6_adds_28 : decode cX6_adds 28 = .ok (.aload_n 0, 1) := by decide +kernel
theorem dX6_adds_29 : decode cX6_adds 29 = .ok (.getfield 7, 3) := by decide +kernel
theorem dX6_adds_32 : decode cX6_adds 32 = .ok (.iload_n 2, 1) := by decide +kernel
theorem dX6_adds_33 : decode cX6_adds 33 = .ok (.iconst 1, 1) := by decide +kernel
theorem dX6_adds_34 : decode cX6_adds 34 = .ok (.invokestatic 42, 3) := by decide +kernel
theorem dX6_adds_37 : decode cX6_adds 37 = .ok (.iconst 0, 1) := by decide +kernel
theorem dX6_adds_38 : decode cX6_adds 38 = .ok (.iastore, 1) := by decide +kernel
theorem dX6_adds_39 : decode cX6_adds 39 = .ok (.aload_n 0, 1) := by decide +kernel
theorem dX6_adds_40 : decode cX6_adds 40 = .ok (.getfield 7, 3) := by decide +kernel
theorem dX6_adds_43 : decode cX6_adds 43 = .ok (.iload_n 2, 1) := by decide +kernel
theorem dX6_adds_44 : decode cX6_adds 44 = .ok (.iconst 2, 1) := by decide +kernel
theorem dX6_adds_45 : decode cX6_adds 45 = .ok (.invokestatic 42, 3) := by decide +kernel
theorem dX6_adds_48 : decode cX6_adds 48 = .ok (.bipush 20, 2) := by decide +kernel
theorem dX6_adds_50 : decode cX6_adds 50 = .ok (.iastore, 1) := by decide +kernel
theorem dX6_adds_51 : decode cX6_adds 51 = .ok (.aload_n 0, 1) := by decide +kernel
theorem dX6_adds_52 : decode cX6_adds 52 = .ok (.getfield 7, 3) := by decide +kernel
theorem dX6_adds_55 : decode cX6_adds 55 = .ok (.iload_n 2, 1) := by decide +kernel
theorem dX6_adds_56 : decode cX6_adds 56 = .ok (.iconst 3, 1) := by decide +kernel
theorem dX6_adds_57 : decode cX6_adds 57 = .ok (.invokestatic 42, 3) := by decide +kernel
theorem dX6_adds_60 : decode cX6_adds 60 = .ok (.iconst 0, 1) := by decide +kernel
theorem dX6_adds_61 : decode cX6_adds 61 = .ok (.iastore, 1) := by decide +kernel
theorem dX6_adds_62 : decode cX6_adds 62 = .ok (.iload_n 2, 1) := by decide +kernel
theorem dX6_adds_63 : decode cX6_adds 63 = .ok (.ireturn, 1) := by decide +kernel
theorem dX6_person_0 : decode cX6_person 0 = .ok (.iload_n 1, 1) := by decide +kernel
theorem dX6_person_1 : decode cX6_person 1 = .ok (.invokestatic 103, 3) := by decide +kernel
theorem dX6_person_4 : decode cX6_person 4 = .ok (.ifCond .ne 10, 3) := by decide +kernel
theorem dX6_person_7 : decode cX6_person 7 = .ok (.aload_n 0, 1) := by decide +kernel
theorem dX6_person_8 : decode cX6_person 8 = .ok (.ldc 41, 2) := by decide +kernel
theorem dX6_person_10 : decode cX6_person 10 = .ok (.invokevirtual 67, 3) := by decide +kernel
theorem dX6_person_13 : decode cX6_person 13 = .ok (.ireturn, 1) := by decide +kernel
theorem dX6_person_14 : decode cX6_person 14 = .ok (.aload_n 0, 1) := by decide +kernel
theorem dX6_person_15 : decode cX6_person 15 = .ok (.getfield 7, 3) := by decide +kernel
theorem dX6_person_18 : decode cX6_person 18 = .ok (.iconst 1, 1) := by decide +kernel
theorem dX6_person_19 : decode cX6_person 19 = .ok (.iaload, 1) := by decide +kernel
theorem dX6_person_20 : decode cX6_person 20 = .ok (.bipush 8, 2) := by decide +kernel
theorem dX6_person_22 : decode cX6_person 22 = .ok (.if_icmp .ne 12, 3) := by decide +kernel
theorem dX6_person_25 : decode cX6_person 25 = .ok (.aload_n 0, 1) := by decide +kernel
theorem dX6_person_26 : decode cX6_person 26 = .ok (.ldc 106, 2) := by decide +kernel
theorem dX6_person_28 : decode cX6_person 28 = .ok (.invokevirtual 67, 3) := by decide +kernel
theorem dX6_person_31 : decode cX6_person 31 = .ok (.goto 8, 3) := by decide +kernel
theorem dX6_person_34 : decode cX6_person 34 = .ok (.aload_n 0, 1) := by decide +kernel
theorem dX6_person_35 : decode cX6_person 35 = .ok (.iload_n 1, 1) := by decide +kernel
theorem dX6_person_36 : decode cX6_person 36 = .ok (.invokevirtual 107, 3) := by decide +kernel
theorem dX6_person_39 : decode cX6_person 39 = .ok (.ireturn, 1) := by decide +kernel
theorem dX6_of_0 : decode cX6_of 0 = .ok (.aload_n 0, 1) := by decide +kernel
theorem dX6_of_1 : decode cX6_of 1 = .ok (.iload_n 1, 1) := by decide +kernel
theorem dX6_of_2 : decode cX6_of 2 = .ok (.invokevirtual 110, 3) := by decide +kernel
theorem dX6_of_5 : decode cX6_of 5 = .ok (.ifCond .eq 15, 3) := by decide +kernel
theorem dX6_of_8 : decode cX6_of 8 = .ok (.iload_n 2, 1) := by decide +kernel
theorem dX6_of_9 : decode cX6_of 9 = .ok (.i2l, 1) := by decide +kernel
theorem dX6_of_10 : decode cX6_of 10 = .ok (.lconst 0, 1) := by decide +kernel
theorem dX6_of_11 : decode cX6_of 11 = .ok (.ldc2_w 50, 3) := by decide +kernel
theorem dX6_of_14 : decode cX6_of 14 = .ok (.invokestatic 46, 3) := by decide +kernel
theorem dX6_of_17 : decode cX6_of 17 = .ok (.ifCond .ne 10, 3) := by decide +kernel
theorem dX6_of_20 : decode cX6_of 20 = .ok (.aload_n 0, 1) := by decide +kernel
theorem dX6_of_21 : decode cX6_of 21 = .ok (.ldc 41, 2) := by decide +kernel
theorem dX6_of_23 : decode cX6_of 23 = .ok (.invokevirtual 67, 3) := by decide +kernel
theorem dX6_of_26 : decode cX6_of 26 = .ok (.ireturn, 1) := by decide +kernel
theorem dX6_of_27 : decode cX6_of 27 = .ok (.iload_n 2, 1) := by decide +kernel
theorem dX6_of_28 : decode cX6_of 28 = .ok (.iconst 3, 1) := by decide +kernel
theorem dX6_of_29 : decode cX6_of 29 = .ok (.if_icmp .gt 12, 3) := by decide +kernel
theorem dX6_of_32 : decode cX6_of 32 = .ok (.aload_n 0, 1) := by decide +kernel
theorem dX6_of_33 : decode cX6_of 33 = .ok (.iload_n 1, 1) := by decide +kernel
theorem dX6_of_34 : decode cX6_of 34 = .ok (.iload_n 2, 1) := by decide +kernel
theorem dX6_of_35 : decode cX6_of 35 = .ok (.invokevirtual 55, 3) := by decide +kernel
theorem dX6_of_38 : decode cX6_of 38 = .ok (.goto 21, 3) := by decide +kernel
theorem dX6_of_41 : decode cX6_of 41 = .ok (.iload_n 2, 1) := by decide +kernel
theorem dX6_of_42 : decode cX6_of 42 = .ok (.iconst 4, 1) := by decide +kernel
theorem dX6_of_43 : decode cX6_of 43 = .ok (.if_icmp .ne 11, 3) := by decide +kernel
theorem dX6_of_46 : decode cX6_of 46 = .ok (.aload_n 0, 1) := by decide +kernel
theorem dX6_of_47 : decode cX6_of 47 = .ok (.iload_n 1, 1) := by decide +kernel
theorem dX6_of_48 : decode cX6_of 48 = .ok (.invokevirtual 113, 3) := by decide +kernel
theorem dX6_of_51 : decode cX6_of 51 = .ok (.goto 8, 3) := by decide +kernel
theorem dX6_of_54 : decode cX6_of 54 = .ok (.aload_n 0, 1) := by decide +kernel
theorem dX6_of_55 : decode cX6_of 55 = .ok (.iload_n 1, 1) := by decide +kernel
theorem dX6_of_56 : decode cX6_of 56 = .ok (.invokevirtual 116, 3) := by decide +kernel
theorem dX6_of_59 : decode cX6_of 59 = .ok (.ireturn, 1) := by decide +kernel
theorem dX6_acts_0 : decode cX6_acts 0 = .ok (.aload_n 0, 1) := by decide +kernel
theorem dX6_acts_1 : decode cX6_acts 1 = .ok (.iload_n 1, 1) := by decide +kernel
theorem dX6_acts_2 : decode cX6_acts 2 = .ok (.invokevirtual 110, 3) := by decide +kernel
theorem dX6_acts_5 : decode cX6_acts 5 = .ok (.ifCond .eq 20, 3) := by decide +kernel
theorem dX6_acts_8 : decode cX6_acts 8 = .ok (.iload_n 2, 1) := by decide +kernel
theorem dX6_acts_9 : decode cX6_acts 9 = .ok (.invokestatic 60, 3) := by decide +kernel
theorem dX6_acts_12 : decode cX6_acts 12 = .ok (.ifCond .eq 13, 3) := by decide +kernel
theorem dX6_acts_15 : decode cX6_acts 15 = .ok (.iload_n 3, 1) := by decide +kernel
theorem dX6_acts_16 : decode cX6_acts 16 = .ok (.i2l, 1) := by decide +kernel
theorem dX6_acts_17 : decode cX6_acts 17 = .ok (.lconst 0, 1) := by decide +kernel
theorem dX6_acts_18 : decode cX6_acts 18 = .ok (.lconst 1, 1) := by decide +kernel
theorem dX6_acts_19 : decode cX6_acts 19 = .ok (.invokestatic 46, 3) := by decide +kernel
theorem dX6_acts_22 : decode cX6_acts 22 = .ok (.ifCond .ne 10, 3) := by decide +kernel
theorem dX6_acts_25 : decode cX6_acts 25 = .ok (.aload_n 0, 1) := by decide +kernel
theorem dX6_acts_26 : decode cX6_acts 26 = .ok (.ldc 41, 2) := by decide +kernel
theorem dX6_acts_28 : decode cX6_acts 28 = .ok (.invokevirtual 67, 3) := by decide +kernel
theorem dX6_acts_31 : decode cX6_acts 31 = .ok (.ireturn, 1) := by decide +kernel
theorem dX6_acts_32 : decode cX6_acts 32 = .ok (.iload_n 3, 1) := by decide +kernel
theorem dX6_acts_33 : decode cX6_acts 33 = .ok (.ifCond .ne 12, 3) := by decide +kernel
theorem dX6_acts_36 : decode cX6_acts 36 = .ok (.aload_n 0, 1) := by decide +kernel
theorem dX6_acts_37 : decode cX6_acts 37 = .ok (.iload_n 1, 1) := by decide +kernel
theorem dX6_acts_38 : decode cX6_acts 38 = .ok (.iload_n 2, 1) := by decide +kernel
theorem dX6_acts_39 : decode cX6_acts 39 = .ok (.invokevirtual 82, 3) := by decide +kernel
theorem dX6_acts_42 : decode cX6_acts 42 = .ok (.goto 9, 3) := by decide +kernel
theorem dX6_acts_45 : decode cX6_acts 45 = .ok (.aload_n 0, 1) := by decide +kernel
theorem dX6_acts_46 : decode cX6_acts 46 = .ok (.iload_n 1, 1) := by decide +kernel
theorem dX6_acts_47 : decode cX6_acts 47 = .ok (.iload_n 2, 1) := by decide +kernel
theorem dX6_acts_48 : decode cX6_acts 48 = .ok (.invokevirtual 119, 3) := by decide +kernel
theorem dX6_acts_51 : decode cX6_acts 51 = .ok (.ireturn, 1) := by decide +kernel
theorem dX6_set_0 : decode cX6_set 0 = .ok (.iload_n 2, 1) := by decide +kernel
theorem dX6_set_1 : decode cX6_set 1 = .ok (.i2l, 1) := by decide +kernel
theorem dX6_set_2 : decode cX6_set 2 = .ok (.lconst 1, 1) := by decide +kernel
theorem dX6_set_3 : decode cX6_set 3 = .ok (.ldc2_w 122, 3) := by decide +kernel
theorem dX6_set_6 : decode cX6_set 6 = .ok (.invokestatic 46, 3) := by decide +kernel
theorem dX6_set_9 : decode cX6_set 9 = .ok (.ifCond .eq 39, 3) := by decide +kernel
theorem dX6_set_12 : decode cX6_set 12 = .ok (.iload_n 3, 1) := by decide +kernel
theorem dX6_set_13 : decode cX6_set 13 = .ok (.i2l, 1) := by decide +kernel
theorem dX6_set_14 : decode cX6_set 14 = .ok (.lconst 0, 1) := by decide +kernel
theorem dX6_set_15 : decode cX6_set 15 = .ok (.iload_n 2, 1) := by decide +kernel
theorem dX6_set_16 : decode cX6_set 16 = .ok (.iconst 1, 1) := by decide +kernel
theorem dX6_set_17 : decode cX6_set 17 = .ok (.if_icmp .ne 9, 3) := by decide +kernel
theorem dX6_set_20 : decode cX6_set 20 = .ok (.ldc2_w 76, 3) := by decide +kernel
theorem dX6_set_23 : decode cX6_set 23 = .ok (.goto 15, 3) := by decide +kernel
theorem dX6_set_26 : decode cX6_set 26 = .ok (.iload_n 2, 1) := by decide +kernel
theorem dX6_set_27 : decode cX6_set 27 = .ok (.iconst 2, 1) := by decide +kernel
theorem dX6_set_28 : decode cX6_set 28 = .ok (.if_icmp .ne 9, 3) := by decide +kernel
theorem dX6_set_31 : decode cX6_set 31 = .ok (.ldc2_w 58, 3) := by decide +kernel
theorem dX6_set_34 : decode cX6_set 34 = .ok (.goto 4, 3) := by decide +kernel
theorem dX6_set_37 : decode cX6_set 37 = .ok (.lconst 1, 1) := by decide +kernel
theorem dX6_set_38 : decode cX6_set 38 = .ok (.invokestatic 46, 3) := by decide +kernel
theorem dX6_set_41 : decode cX6_set 41 = .ok (.ifCond .eq 7, 3) := by decide +kernel
theorem dX6_set_44 : decode cX6_set 44 = .ok (.iconst 1, 1) := by decide +kernel
theorem dX6_set_45 : decode cX6_set 45 = .ok (.goto 4, 3) := by decide +kernel
theorem dX6_set_48 : decode cX6_set 48 = .ok (.iconst 0, 1) := by decide +kernel
theorem dX6_set_49 : decode cX6_set 49 = .ok (.istore 4, 2) := by decide +kernel
theorem dX6_set_51 : decode cX6_set 51 = .ok (.aload_n 0, 1) := by decide +kernel
theorem dX6_set_52 : decode cX6_set 52 = .ok (.iload_n 1, 1) := by decide +kernel
theorem dX6_set_53 : decode cX6_set 53 = .ok (.invokevirtual 110, 3) := by decide +kernel
theorem dX6_set_56 : decode cX6_set 56 = .ok (.ifCond .eq 21, 3) := by decide +kernel
theorem dX6_set_59 : decode cX6_set 59 = .ok (.iload 4, 2) := by decide +kernel
theorem dX6_set_61 : decode cX6_set 61 = .ok (.ifCond .eq 16, 3) := by decide +kernel
theorem dX6_set_64 : decode cX6_set 64 = .ok (.aload_n 0, 1) := by decide +kernel
theorem dX6_set_65 : decode cX6_set 65 = .ok (.iload_n 1, 1) := by decide +kernel
theorem dX6_set_66 : decode cX6_set 66 = .ok (.iload_n 2, 1) := by decide +kernel
theorem dX6_set_67 : decode cX6_set 67 = .ok (.invokestatic 42, 3) := by decide +kernel
theorem dX6_set_70 : decode cX6_set 70 = .ok (.iload_n 3, 1) := by decide +kernel
theorem dX6_set_71 : decode cX6_set 71 = .ok (.invokevirtual 64, 3) := by decide +kernel
theorem dX6_set_74 : decode cX6_set 74 = .ok (.goto 9, 3) := by decide +kernel
theorem dX6_set_77 : decode cX6_set 77 = .ok (.aload_n 0, 1) := by decide +kernel
theorem dX6_set_78 : decode cX6_set 78 = .ok (.ldc 41, 2) := by decide +kernel
theorem dX6_set_80 : decode cX6_set 80 = .ok (.invokevirtual 67, 3) := by decide +kernel
theorem dX6_set_83 : decode cX6_set 83 = .ok (.ireturn, 1) := by decide +kernel
theorem dX6_turn_0 : decode cX6_turn 0 = .ok (.aload_n 0, 1) := by decide +kernel
theorem dX6_turn_1 : decode cX6_turn 1 = .ok (.iload_n 1, 1) := by decide +kernel
theorem dX6_turn_2 : decode cX6_turn 2 = .ok (.invokevirtual 110, 3) := by decide +kernel
theorem dX6_turn_5 : decode cX6_turn 5 = .ok (.ifCond .eq 23, 3) := by decide +kernel
theorem dX6_turn_8 : decode cX6_turn 8 = .ok (.iload_n 2, 1) := by decide +kernel
theorem dX6_turn_9 : decode cX6_turn 9 = .ok (.invokestatic 103, 3) := by decide +kernel
theorem dX6_turn_12 : decode cX6_turn 12 = .ok (.ifCond .eq 16, 3) := by decide +kernel
theorem dX6_turn_15 : decode cX6_turn 15 = .ok (.aload_n 0, 1) := by decide +kernel
theorem dX6_turn_16 : decode cX6_turn 16 = .ok (.iload_n 1, 1) := by decide +kernel
theorem dX6_turn_17 : decode cX6_turn 17 = .ok (.iconst 0, 1) := by decide +kernel
theorem dX6_turn_18 : decode cX6_turn 18 = .ok (.invokestatic 42, 3) := by decide +kernel
theorem dX6_turn_21 : decode cX6_turn 21 = .ok (.iload_n 2, 1) := by decide +kernel
theorem dX6_turn_22 : decode cX6_turn 22 = .ok (.invokevirtual 64, 3) := by decide +kernel
theorem dX6_turn_25 : decode cX6_turn 25 = .ok (.goto 9, 3) := by decide +kernel
theorem dX6_turn_28 : decode cX6_turn 28 = .ok (.aload_n 0, 1) := by decide +kernel
theorem dX6_turn_29 : decode cX6_turn 29 = .ok (.ldc 41, 2) := by decide +kernel
theorem dX6_turn_31 : decode cX6_turn 31 = .ok (.invokevirtual 67, 3) := by decide +kernel
theorem dX6_turn_34 : decode cX6_turn 34 = .ok (.ireturn, 1) := by decide +kernel
theorem dX6_isUnder_0 : decode cX6_isUnder 0 = .ok (.iload_n 1, 1) := by decide +kernel
theorem dX6_isUnder_1 : decode cX6_isUnder 1 = .ok (.ifCond .eq 28, 3) := by decide +kernel
theorem dX6_isUnder_4 : decode cX6_isUnder 4 = .ok (.iload_n 0, 1) := by decide +kernel
theorem dX6_isUnder_5 : decode cX6_isUnder 5 = .ok (.iload_n 1, 1) := by decide +kernel
theorem dX6_isUnder_6 : decode cX6_isUnder 6 = .ok (.if_icmp .eq 23, 3) := by decide +kernel
theorem dX6_isUnder_9 : decode cX6_isUnder 9 = .ok (.iload_n 0, 1) := by decide +kernel
theorem dX6_isUnder_10 : decode cX6_isUnder 10 = .ok (.iconst 4, 1) := by decide +kernel
theorem dX6_isUnder_11 : decode cX6_isUnder 11 = .ok (.if_icmp .ne 8, 3) := by decide +kernel
theorem dX6_isUnder_14 : decode cX6_isUnder 14 = .ok (.iload_n 1, 1) := by decide +kernel
theorem dX6_isUnder_15 : decode cX6_isUnder 15 = .ok (.iconst 1, 1) := by decide +kernel
theorem dX6_isUnder_16 : decode cX6_isUnder 16 = .ok (.if_icmp .eq 13, 3) := by decide +kernel
theorem dX6_isUnder_19 : decode cX6_isUnder 19 = .ok (.iload_n 0, 1) := by decide +kernel
theorem dX6_isUnder_20 : decode cX6_isUnder 20 = .ok (.iconst 5, 1) := by decide +kernel
theorem dX6_isUnder_21 : decode cX6_isUnder 21 = .ok (.if_icmp .ne 12, 3) := by decide +kernel
theorem dX6_isUnder_24 : decode cX6_isUnder 24 = .ok (.iload_n 1, 1) := by decide +kernel
theorem dX6_isUnder_25 : decode cX6_isUnder 25 = .ok (.iconst 2, 1) := by decide +kernel
theorem dX6_isUnder_26 : decode cX6_isUnder 26 = .ok (.if_icmp .ne 7, 3) := by decide +kernel
theorem dX6_isUnder_29 : decode cX6_isUnder 29 = .ok (.iconst 1, 1) := by decide +kernel
theorem dX6_isUnder_30 : decode cX6_isUnder 30 = .ok (.goto 4, 3) := by decide +kernel
theorem dX6_isUnder_33 : decode cX6_isUnder 33 = .ok (.iconst 0, 1) := by decide +kernel
theorem dX6_isUnder_34 : decode cX6_isUnder 34 = .ok (.ireturn, 1) := by decide +kernel
theorem dX6_as_0 : decode cX6_as 0 = .ok (.aload_n 0, 1) := by decide +kernel
theorem dX6_as_1 : decode cX6_as 1 = .ok (.iload_n 1, 1) := by decide +kernel
theorem dX6_as_2 : decode cX6_as 2 = .ok (.invokevirtual 110, 3) := by decide +kernel
theorem dX6_as_5 : decode cX6_as 5 = .ok (.ifCond .eq 10, 3) := by decide +kernel
theorem dX6_as_8 : decode cX6_as 8 = .ok (.iload_n 2, 1) := by decide +kernel
theorem dX6_as_9 : decode cX6_as 9 = .ok (.invokestatic 103, 3) := by decide +kernel
theorem dX6_as_12 : decode cX6_as 12 = .ok (.ifCond .ne 10, 3) := by decide +kernel
theorem dX6_as_15 : decode cX6_as 15 = .ok (.aload_n 0, 1) := by decide +kernel
theorem dX6_as_16 : decode cX6_as 16 = .ok (.ldc 41, 2) := by decide +kernel
theorem dX6_as_18 : decode cX6_as 18 = .ok (.invokevirtual 67, 3) := by decide +kernel
theorem dX6_as_21 : decode cX6_as 21 = .ok (.ireturn, 1) := by decide +kernel
theorem dX6_as_22 : decode cX6_as 22 = .ok (.aload_n 0, 1) := by decide +kernel
theorem dX6_as_23 : decode cX6_as 23 = .ok (.iload_n 1, 1) := by decide +kernel
theorem dX6_as_24 : decode cX6_as 24 = .ok (.iconst 0, 1) := by decide +kernel
theorem dX6_as_25 : decode cX6_as 25 = .ok (.invokevirtual 55, 3) := by decide +kernel
theorem dX6_as_28 : decode cX6_as 28 = .ok (.iload_n 2, 1) := by decide +kernel
theorem dX6_as_29 : decode cX6_as 29 = .ok (.invokestatic 124, 3) := by decide +kernel
theorem dX6_as_32 : decode cX6_as 32 = .ok (.ifCond .eq 12, 3) := by decide +kernel
theorem dX6_as_35 : decode cX6_as 35 = .ok (.aload_n 0, 1) := by decide +kernel
theorem dX6_as_36 : decode cX6_as 36 = .ok (.iload_n 1, 1) := by decide +kernel
theorem dX6_as_37 : decode cX6_as 37 = .ok (.iconst 2, 1) := by decide +kernel
theorem dX6_as_38 : decode cX6_as 38 = .ok (.invokevirtual 55, 3) := by decide +kernel
theorem dX6_as_41 : decode cX6_as 41 = .ok (.goto 9, 3) := by decide +kernel
theorem dX6_as_44 : decode cX6_as 44 = .ok (.aload_n 0, 1) := by decide +kernel
theorem dX6_as_45 : decode cX6_as 45 = .ok (.ldc 128, 2) := by decide +kernel
theorem dX6_as_47 : decode cX6_as 47 = .ok (.invokevirtual 67, 3) := by decide +kernel
theorem dX6_as_50 : decode cX6_as 50 = .ok (.ireturn, 1) := by decide +kernel
theorem dX6_comes_0 : decode cX6_comes 0 = .ok (.aload_n 0, 1) := by decide +kernel
theorem dX6_comes_1 : decode cX6_comes 1 = .ok (.getfield 7, 3) := by decide +kernel
theorem dX6_comes_4 : decode cX6_comes 4 = .ok (.iload_n 1, 1) := by decide +kernel
theorem dX6_comes_5 : decode cX6_comes 5 = .ok (.iconst 2, 1) := by decide +kernel
theorem dX6_comes_6 : decode cX6_comes 6 = .ok (.invokestatic 42, 3) := by decide +kernel
theorem dX6_comes_9 : decode cX6_comes 9 = .ok (.aload_n 0, 1) := by decide +kernel
theorem dX6_comes_10 : decode cX6_comes 10 = .ok (.iload_n 1, 1) := by decide +kernel
theorem dX6_comes_11 : decode cX6_comes 11 = .ok (.iconst 2, 1) := by decide +kernel
theorem dX6_comes_12 : decode cX6_comes 12 = .ok (.invokevirtual 55, 3) := by decide +kernel
theorem dX6_comes_15 : decode cX6_comes 15 = .ok (.aload_n 0, 1) := by decide +kernel
theorem dX6_comes_16 : decode cX6_comes 16 = .ok (.iload_n 1, 1) := by decide +kernel
theorem dX6_comes_17 : decode cX6_comes 17 = .ok (.invokevirtual 116, 3) := by decide +kernel
theorem dX6_comes_20 : decode cX6_comes 20 = .ok (.iadd, 1) := by decide +kernel
theorem dX6_comes_21 : decode cX6_comes 21 = .ok (.sipush 9999, 3) := by decide +kernel
theorem dX6_comes_24 : decode cX6_comes 24 = .ok (.invokestatic 97, 3) := by decide +kernel
theorem dX6_comes_27 : decode cX6_comes 27 = .ok (.iastore, 1) := by decide +kernel
theorem dX6_comes_28 : decode cX6_comes 28 = .ok (.aload_n 0, 1) := by decide +kernel
theorem dX6_comes_29 : decode cX6_comes 29 = .ok (.iload_n 1, 1) := by decide +kernel
theorem dX6_comes_30 : decode cX6_comes 30 = .ok (.invokevirtual 113, 3) := by decide +kernel
theorem dX6_comes_33 : decode cX6_comes 33 = .ok (.istore_n 3, 1) := by decide +kernel
theorem dX6_comes_34 : decode cX6_comes 34 = .ok (.iload_n 2, 1) := by decide +kernel
theorem dX6_comes_35 : decode cX6_comes 35 = .ok (.aload_n 0, 1) := by decide +kernel
theorem dX6_comes_36 : decode cX6_comes 36 = .ok (.iload_n 1, 1) := by decide +kernel
theorem dX6_comes_37 : decode cX6_comes 37 = .ok (.iload_n 2, 1) := by decide +kernel
theorem dX6_comes_38 : decode cX6_comes 38 = .ok (.invokevirtual 82, 3) := by decide +kernel
theorem dX6_comes_41 : decode cX6_comes 41 = .ok (.invokestatic 52, 3) := by decide +kernel
theorem dX6_comes_44 : decode cX6_comes 44 = .ok (.istore 4, 2) := by decide +kernel
theorem dX6_comes_46 : decode cX6_comes 46 = .ok (.aload_n 0, 1) := by decide +kernel
theorem dX6_comes_47 : decode cX6_comes 47 = .ok (.getfield 7, 3) := by decide +kernel
theorem dX6_comes_50 : decode cX6_comes 50 = .ok (.iload_n 1, 1) := by decide +kernel
theorem dX6_comes_51 : decode cX6_comes 51 = .ok (.iconst 2, 1) := by decide +kernel
theorem dX6_comes_52 : decode cX6_comes 52 = .ok (.invokestatic 42, 3) := by decide +kernel
theorem dX6_comes_55 : decode cX6_comes 55 = .ok (.dup2, 1) := by decide +kernel
theorem dX6_comes_56 : decode cX6_comes 56 = .ok (.iaload, 1) := by decide +kernel
theorem dX6_comes_57 : decode cX6_comes 57 = .ok (.iload_n 3, 1) := by decide +kernel
theorem dX6_comes_58 : decode cX6_comes 58 = .ok (.isub, 1) := by decide +kernel
theorem dX6_comes_59 : decode cX6_comes 59 = .ok (.iastore, 1) := by decide +kernel
theorem dX6_comes_60 : decode cX6_comes 60 = .ok (.aload_n 0, 1) := by decide +kernel
theorem dX6_comes_61 : decode cX6_comes 61 = .ok (.getfield 7, 3) := by decide +kernel
theorem dX6_comes_64 : decode cX6_comes 64 = .ok (.iload 4, 2) := by decide +kernel
theorem dX6_comes_66 : decode cX6_comes 66 = .ok (.aload_n 0, 1) := by decide +kernel
theorem dX6_comes_67 : decode cX6_comes 67 = .ok (.getfield 7, 3) := by decide +kernel
theorem dX6_comes_70 : decode cX6_comes 70 = .ok (.iload 4, 2) := by decide +kernel
theorem dX6_comes_72 : decode cX6_comes 72 = .ok (.iaload, 1) := by decide +kernel
theorem dX6_comes_73 : decode cX6_comes 73 = .ok (.iload_n 3, 1) := by decide +kernel
theorem dX6_comes_74 : decode cX6_comes 74 = .ok (.iadd, 1) := by decide +kernel
theorem dX6_comes_75 : decode cX6_comes 75 = .ok (.sipush 9999, 3) := by decide +kernel
theorem dX6_comes_78 : decode cX6_comes 78 = .ok (.invokestatic 97, 3) := by decide +kernel
theorem dX6_comes_81 : decode cX6_comes 81 = .ok (.iastore, 1) := by decide +kernel
theorem dX6_comes_82 : decode cX6_comes 82 = .ok (.aload_n 0, 1) := by decide +kernel
theorem dX6_comes_83 : decode cX6_comes 83 = .ok (.iload_n 1, 1) := by decide +kernel
theorem dX6_comes_84 : decode cX6_comes 84 = .ok (.iload_n 2, 1) := by decide +kernel
theorem dX6_comes_85 : decode cX6_comes 85 = .ok (.invokevirtual 119, 3) := by decide +kernel
theorem dX6_comes_88 : decode cX6_comes 88 = .ok (.istore 5, 2) := by decide +kernel
theorem dX6_comes_90 : decode cX6_comes 90 = .ok (.aload_n 0, 1) := by decide +kernel
theorem dX6_comes_91 : decode cX6_comes 91 = .ok (.getfield 7, 3) := by decide +kernel
theorem dX6_comes_94 : decode cX6_comes 94 = .ok (.iload_n 2, 1) := by decide +kernel
theorem dX6_comes_95 : decode cX6_comes 95 = .ok (.aload_n 0, 1) := by decide +kernel
theorem dX6_comes_96 : decode cX6_comes 96 = .ok (.iload_n 2, 1) := by decide +kernel
theorem dX6_comes_97 : decode cX6_comes 97 = .ok (.invokevirtual 100, 3) := by decide +kernel
theorem dX6_comes_100 : decode cX6_comes 100 = .ok (.invokestatic 52, 3) := by decide +kernel
theorem dX6_comes_103 : decode cX6_comes 103 = .ok (.dup2, 1) := by decide +kernel
theorem dX6_comes_104 : decode cX6_comes 104 = .ok (.iaload, 1) := by decide +kernel
theorem dX6_comes_105 : decode cX6_comes 105 = .ok (.iload 5, 2) := by decide +kernel
theorem dX6_comes_107 : decode cX6_comes 107 = .ok (.isub, 1) := by decide +kernel
theorem dX6_comes_108 : decode cX6_comes 108 = .ok (.iastore, 1) := by decide +kernel
theorem dX6_comes_109 : decode cX6_comes 109 = .ok (.aload_n 0, 1) := by decide +kernel
theorem dX6_comes_110 : decode cX6_comes 110 = .ok (.getfield 7, 3) := by decide +kernel
theorem dX6_comes_113 : decode cX6_comes 113 = .ok (.iload_n 1, 1) := by decide +kernel
theorem dX6_comes_114 : decode cX6_comes 114 = .ok (.iconst 2, 1) := by decide +kernel
theorem dX6_comes_115 : decode cX6_comes 115 = .ok (.invokestatic 42, 3) := by decide +kernel
theorem dX6_comes_118 : decode cX6_comes 118 = .ok (.aload_n 0, 1) := by decide +kernel
theorem dX6_comes_119 : decode cX6_comes 119 = .ok (.iload_n 1, 1) := by decide +kernel
theorem dX6_comes_120 : decode cX6_comes 120 = .ok (.iconst 2, 1) := by decide +kernel
theorem dX6_comes_121 : decode cX6_comes 121 = .ok (.invokevirtual 55, 3) := by decide +kernel
theorem dX6_comes_124 : decode cX6_comes 124 = .ok (.iload 5, 2) := by decide +kernel
theorem dX6_comes_126 : decode cX6_comes 126 = .ok (.iadd, 1) := by decide +kernel
theorem dX6_comes_127 : decode cX6_comes 127 = .ok (.sipush 9999, 3) := by decide +kernel
theorem dX6_comes_130 : decode cX6_comes 130 = .ok (.invokestatic 97, 3) := by decide +kernel
theorem dX6_comes_133 : decode cX6_comes 133 = .ok (.iastore, 1) := by decide +kernel
theorem dX6_comes_134 : decode cX6_comes 134 = .ok (.return_, 1) := by decide +kernel
theorem dX6_net_0 : decode cX6_net 0 = .ok (.aload_n 0, 1) := by decide +kernel
theorem dX6_net_1 : decode cX6_net 1 = .ok (.getfield 7, 3) := by decide +kernel
theorem dX6_net_4 : decode cX6_net 4 = .ok (.iload_n 1, 1) := by decide +kernel
theorem dX6_net_5 : decode cX6_net 5 = .ok (.iconst 0, 1) := by decide +kernel
theorem dX6_net_6 : decode cX6_net 6 = .ok (.invokestatic 52, 3) := by decide +kernel
theorem dX6_net_9 : decode cX6_net 9 = .ok (.iaload, 1) := by decide +kernel
theorem dX6_net_10 : decode cX6_net 10 = .ok (.istore_n 2, 1) := by decide +kernel
theorem dX6_net_11 : decode cX6_net 11 = .ok (.aload_n 0, 1) := by decide +kernel
theorem dX6_net_12 : decode cX6_net 12 = .ok (.getfield 7, 3) := by decide +kernel
theorem dX6_net_15 : decode cX6_net 15 = .ok (.iload_n 1, 1) := by decide +kernel
theorem dX6_net_16 : decode cX6_net 16 = .ok (.iconst 1, 1) := by decide +kernel
theorem dX6_net_17 : decode cX6_net 17 = .ok (.invokestatic 52, 3) := by decide +kernel
theorem dX6_net_20 : decode cX6_net 20 = .ok (.iaload, 1) := by decide +kernel
theorem dX6_net_21 : decode cX6_net 21 = .ok (.istore_n 3, 1) := by decide +kernel
theorem dX6_net_22 : decode cX6_net 22 = .ok (.aload_n 0, 1) := by decide +kernel
theorem dX6_net_23 : decode cX6_net 23 = .ok (.getfield 7, 3) := by decide +kernel
theorem dX6_net_26 : decode cX6_net 26 = .ok (.iconst 2, 1) := by decide +kernel
theorem dX6_net_27 : decode cX6_net 27 = .ok (.iaload, 1) := by decide +kernel
theorem dX6_net_28 : decode cX6_net 28 = .ok (.iconst 1, 1) := by decide +kernel
theorem dX6_net_29 : decode cX6_net 29 = .ok (.iload_n 1, 1) := by decide +kernel
theorem dX6_net_30 : decode cX6_net 30 = .ok (.ishl, 1) := by decide +kernel
theorem dX6_net_31 : decode cX6_net 31 = .ok (.iconst (-1), 1) := by decide +kernel
theorem dX6_net_32 : decode cX6_net 32 = .ok (.ixor, 1) := by decide +kernel
theorem dX6_net_33 : decode cX6_net 33 = .ok (.iand, 1) := by decide +kernel
theorem dX6_net_34 : decode cX6_net 34 = .ok (.istore 4, 2) := by decide +kernel
theorem dX6_net_36 : decode cX6_net 36 = .ok (.aload_n 0, 1) := by decide +kernel
theorem dX6_net_37 : decode cX6_net 37 = .ok (.getfield 7, 3) := by decide +kernel
theorem dX6_net_40 : decode cX6_net 40 = .ok (.iconst 2, 1) := by decide +kernel
theorem dX6_net_41 : decode cX6_net 41 = .ok (.iload_n 2, 1) := by decide +kernel
theorem dX6_net_42 : decode cX6_net 42 = .ok (.iload_n 3, 1) := by decide +kernel
theorem dX6_net_43 : decode cX6_net 43 = .ok (.if_icmp .le 12, 3) := by decide +kernel
theorem dX6_net_46 : decode cX6_net 46 = .ok (.iload 4, 2) := by decide +kernel
theorem dX6_net_48 : decode cX6_net 48 = .ok (.iconst 1, 1) := by decide +kernel
theorem dX6_net_49 : decode cX6_net 49 = .ok (.iload_n 1, 1) := by decide +kernel
theorem dX6_net_50 : decode cX6_net 50 = .ok (.ishl, 1) := by decide +kernel
theorem dX6_net_51 : decode cX6_net 51 = .ok (.ior, 1) := by decide +kernel
theorem dX6_net_52 : decode cX6_net 52 = .ok (.goto 19, 3) := by decide +kernel
theorem dX6_net_55 : decode cX6_net 55 = .ok (.iload_n 3, 1) := by decide +kernel
theorem dX6_net_56 : decode cX6_net 56 = .ok (.iload_n 2, 1) := by decide +kernel
theorem dX6_net_57 : decode cX6_net 57 = .ok (.if_icmp .le 8, 3) := by decide +kernel
theorem dX6_net_60 : decode cX6_net 60 = .ok (.iload 4, 2) := by decide +kernel
theorem dX6_net_62 : decode cX6_net 62 = .ok (.goto 9, 3) := by decide +kernel
theorem dX6_net_65 : decode cX6_net 65 = .ok (.aload_n 0, 1) := by decide +kernel
theorem dX6_net_66 : decode cX6_net 66 = .ok (.getfield 7, 3) := by decide +kernel
theorem dX6_net_69 : decode cX6_net 69 = .ok (.iconst 2, 1) := by decide +kernel
theorem dX6_net_70 : decode cX6_net 70 = .ok (.iaload, 1) := by decide +kernel
theorem dX6_net_71 : decode cX6_net 71 = .ok (.iastore, 1) := by decide +kernel
theorem dX6_net_72 : decode cX6_net 72 = .ok (.aload_n 0, 1) := by decide +kernel
theorem dX6_net_73 : decode cX6_net 73 = .ok (.getfield 7, 3) := by decide +kernel
theorem dX6_net_76 : decode cX6_net 76 = .ok (.iload_n 1, 1) := by decide +kernel
theorem dX6_net_77 : decode cX6_net 77 = .ok (.iconst 0, 1) := by decide +kernel
theorem dX6_net_78 : decode cX6_net 78 = .ok (.invokestatic 52, 3) := by decide +kernel
theorem dX6_net_81 : decode cX6_net 81 = .ok (.iload_n 2, 1) := by decide +kernel
theorem dX6_net_82 : decode cX6_net 82 = .ok (.iconst 2, 1) := by decide +kernel
theorem dX6_net_83 : decode cX6_net 83 = .ok (.idiv, 1) := by decide +kernel
theorem dX6_net_84 : decode cX6_net 84 = .ok (.iastore, 1) := by decide +kernel
theorem dX6_net_85 : decode cX6_net 85 = .ok (.aload_n 0, 1) := by decide +kernel
theorem dX6_net_86 : decode cX6_net 86 = .ok (.getfield 7, 3) := by decide +kernel
theorem dX6_net_89 : decode cX6_net 89 = .ok (.iload_n 1, 1) := by decide +kernel
theorem dX6_net_90 : decode cX6_net 90 = .ok (.iconst 1, 1) := by decide +kernel
theorem dX6_net_91 : decode cX6_net 91 = .ok (.invokestatic 52, 3) := by decide +kernel
theorem dX6_net_94 : decode cX6_net 94 = .ok (.iload_n 3, 1) := by decide +kernel
theorem dX6_net_95 : decode cX6_net 95 = .ok (.iconst 2, 1) := by decide +kernel
theorem dX6_net_96 : decode cX6_net 96 = .ok (.idiv, 1) := by decide +kernel
theorem dX6_net_97 : decode cX6_net 97 = .ok (.iastore, 1) := by decide +kernel
theorem dX6_net_98 : decode cX6_net 98 = .ok (.return_, 1) := by decide +kernel
theorem dX6_day_0 : decode cX6_day 0 = .ok (.aload_n 0, 1) := by decide +kernel
theorem dX6_day_1 : decode cX6_day 1 = .ok (.invokevirtual 78, 3) := by decide +kernel
theorem dX6_day_4 : decode cX6_day 4 = .ok (.istore_n 1, 1) := by decide +kernel
theorem dX6_day_5 : decode cX6_day 5 = .ok (.iconst 0, 1) := by decide +kernel
theorem dX6_day_6 : decode cX6_day 6 = .ok (.istore_n 2, 1) := by decide +kernel
theorem dX6_day_7 : decode cX6_day 7 = .ok (.iload_n 2, 1) := by decide +kernel
theorem dX6_day_8 : decode cX6_day 8 = .ok (.aload_n 0, 1) := by decide +kernel
theorem dX6_day_9 : decode cX6_day 9 = .ok (.getfield 7, 3) := by decide +kernel
theorem dX6_day_12 : decode cX6_day 12 = .ok (.iconst 1, 1) := by decide +kernel
theorem dX6_day_13 : decode cX6_day 13 = .ok (.iaload, 1) := by decide +kernel
theorem dX6_day_14 : decode cX6_day 14 = .ok (.if_icmp .ge 24, 3) := by decide +kernel
theorem dX6_day_17 : decode cX6_day 17 = .ok (.aload_n 0, 1) := by decide +kernel
theorem dX6_day_18 : decode cX6_day 18 = .ok (.iload_n 2, 1) := by decide +kernel
theorem dX6_day_19 : decode cX6_day 19 = .ok (.iconst 3, 1) := by decide +kernel
theorem dX6_day_20 : decode cX6_day 20 = .ok (.invokevirtual 55, 3) := by decide +kernel
theorem dX6_day_23 : decode cX6_day 23 = .ok (.ifCond .ne 9, 3) := by decide +kernel
theorem dX6_day_26 : decode cX6_day 26 = .ok (.aload_n 0, 1) := by decide +kernel
theorem dX6_day_27 : decode cX6_day 27 = .ok (.iload_n 2, 1) := by decide +kernel
theorem dX6_day_28 : decode cX6_day 28 = .ok (.iload_n 1, 1) := by decide +kernel
theorem dX6_day_29 : decode cX6_day 29 = .ok (.invokevirtual 129, 3) := by decide +kernel
theorem dX6_day_32 : decode cX6_day 32 = .ok (.iinc 2 1, 3) := by decide +kernel
theorem dX6_day_35 : decode cX6_day 35 = .ok (.goto (-28), 3) := by decide +kernel
theorem dX6_day_38 : decode cX6_day 38 = .ok (.aload_n 0, 1) := by decide +kernel
theorem dX6_day_39 : decode cX6_day 39 = .ok (.iload_n 1, 1) := by decide +kernel
theorem dX6_day_40 : decode cX6_day 40 = .ok (.invokevirtual 133, 3) := by decide +kernel
theorem dX6_day_43 : decode cX6_day 43 = .ok (.aload_n 0, 1) := by decide +kernel
theorem dX6_day_44 : decode cX6_day 44 = .ok (.getfield 7, 3) := by decide +kernel
theorem dX6_day_47 : decode cX6_day 47 = .ok (.iconst 0, 1) := by decide +kernel
theorem dX6_day_48 : decode cX6_day 48 = .ok (.dup2, 1) := by decide +kernel
theorem dX6_day_49 : decode cX6_day 49 = .ok (.iaload, 1) := by decide +kernel
theorem dX6_day_50 : decode cX6_day 50 = .ok (.iconst 1, 1) := by decide +kernel
theorem dX6_day_51 : decode cX6_day 51 = .ok (.iadd, 1) := by decide +kernel
theorem dX6_day_52 : decode cX6_day 52 = .ok (.iastore, 1) := by decide +kernel
theorem dX6_day_53 : decode cX6_day 53 = .ok (.return_, 1) := by decide +kernel
theorem dX6_daysGo_0 : decode cX6_daysGo 0 = .ok (.iconst 0, 1) := by decide +kernel
theorem dX6_daysGo_1 : decode cX6_daysGo 1 = .ok (.istore_n 2, 1) := by decide +kernel
theorem dX6_daysGo_2 : decode cX6_daysGo 2 = .ok (.iload_n 2, 1) := by decide +kernel
theorem dX6_daysGo_3 : decode cX6_daysGo 3 = .ok (.iload_n 1, 1) := by decide +kernel
theorem dX6_daysGo_4 : decode cX6_daysGo 4 = .ok (.if_icmp .ge 13, 3) := by decide +kernel
theorem dX6_daysGo_7 : decode cX6_daysGo 7 = .ok (.aload_n 0, 1) := by decide +kernel
theorem dX6_daysGo_8 : decode cX6_daysGo 8 = .ok (.invokevirtual 137, 3) := by decide +kernel
theorem dX6_daysGo_11 : decode cX6_daysGo 11 = .ok (.iinc 2 1, 3) := by decide +kernel
theorem dX6_daysGo_14 : decode cX6_daysGo 14 = .ok (.goto (-12), 3) := by decide +kernel
theorem dX6_daysGo_17 : decode cX6_daysGo 17 = .ok (.return_, 1) := by decide +kernel
theorem dX6_days_0 : decode cX6_days 0 = .ok (.iload_n 1, 1) := by decide +kernel
theorem dX6_days_1 : decode cX6_days 1 = .ok (.i2l, 1) := by decide +kernel
theorem dX6_days_2 : decode cX6_days 2 = .ok (.lconst 1, 1) := by decide +kernel
theorem dX6_days_3 : decode cX6_days 3 = .ok (.ldc2_w 140, 3) := by decide +kernel
theorem dX6_days_6 : decode cX6_days 6 = .ok (.invokestatic 46, 3) := by decide +kernel
theorem dX6_days_9 : decode cX6_days 9 = .ok (.ifCond .ne 10, 3) := by decide +kernel
theorem dX6_days_12 : decode cX6_days 12 = .ok (.aload_n 0, 1) := by decide +kernel
theorem dX6_days_13 : decode cX6_days 13 = .ok (.ldc 41, 2) := by decide +kernel
theorem dX6_days_15 : decode cX6_days 15 = .ok (.invokevirtual 67, 3) := by decide +kernel
theorem dX6_days_18 : decode cX6_days 18 = .ok (.ireturn, 1) := by decide +kernel
theorem dX6_days_19 : decode cX6_days 19 = .ok (.aload_n 0, 1) := by decide +kernel
theorem dX6_days_20 : decode cX6_days 20 = .ok (.getfield 7, 3) := by decide +kernel
theorem dX6_days_23 : decode cX6_days 23 = .ok (.iconst 0, 1) := by decide +kernel
theorem dX6_days_24 : decode cX6_days 24 = .ok (.iaload, 1) := by decide +kernel
theorem dX6_days_25 : decode cX6_days 25 = .ok (.iload_n 1, 1) := by decide +kernel
theorem dX6_days_26 : decode cX6_days 26 = .ok (.iadd, 1) := by decide +kernel
theorem dX6_days_27 : decode cX6_days 27 = .ok (.ldc 142, 2) := by decide +kernel
theorem dX6_days_29 : decode cX6_days 29 = .ok (.if_icmp .le 10, 3) := by decide +kernel
theorem dX6_days_32 : decode cX6_days 32 = .ok (.aload_n 0, 1) := by decide +kernel
theorem dX6_days_33 : decode cX6_days 33 = .ok (.ldc 143, 2) := by decide +kernel
theorem dX6_days_35 : decode cX6_days 35 = .ok (.invokevirtual 67, 3) := by decide +kernel
theorem dX6_days_38 : decode cX6_days 38 = .ok (.ireturn, 1) := by decide +kernel
theorem dX6_days_39 : decode cX6_days 39 = .ok (.aload_n 0, 1) := by decide +kernel
theorem dX6_days_40 : decode cX6_days 40 = .ok (.iload_n 1, 1) := by decide +kernel
theorem dX6_days_41 : decode cX6_days 41 = .ok (.invokevirtual 144, 3) := by decide +kernel
theorem dX6_days_44 : decode cX6_days 44 = .ok (.aload_n 0, 1) := by decide +kernel
theorem dX6_days_45 : decode cX6_days 45 = .ok (.getfield 7, 3) := by decide +kernel
theorem dX6_days_48 : decode cX6_days 48 = .ok (.iconst 2, 1) := by decide +kernel
theorem dX6_days_49 : decode cX6_days 49 = .ok (.iaload, 1) := by decide +kernel
theorem dX6_days_50 : decode cX6_days 50 = .ok (.ireturn, 1) := by decide +kernel
theorem dX6_isAhead_0 : decode cX6_isAhead 0 = .ok (.iload_n 0, 1) := by decide +kernel
theorem dX6_isAhead_1 : decode cX6_isAhead 1 = .ok (.i2l, 1) := by decide +kernel
theorem dX6_isAhead_2 : decode cX6_isAhead 2 = .ok (.lconst 0, 1) := by decide +kernel
theorem dX6_isAhead_3 : decode cX6_isAhead 3 = .ok (.ldc2_w 147, 3) := by decide +kernel
theorem dX6_isAhead_6 : decode cX6_isAhead 6 = .ok (.invokestatic 46, 3) := by decide +kernel
theorem dX6_isAhead_9 : decode cX6_isAhead 9 = .ok (.ireturn, 1) := by decide +kernel
theorem dX6_behind_0 : decode cX6_behind 0 = .ok (.aload_n 0, 1) := by decide +kernel
theorem dX6_behind_1 : decode cX6_behind 1 = .ok (.invokevirtual 149, 3) := by decide +kernel
theorem dX6_behind_4 : decode cX6_behind 4 = .ok (.aload_n 0, 1) := by decide +kernel
theorem dX6_behind_5 : decode cX6_behind 5 = .ok (.iload_n 2, 1) := by decide +kernel
theorem dX6_behind_6 : decode cX6_behind 6 = .ok (.invokevirtual 144, 3) := by decide +kernel
theorem dX6_behind_9 : decode cX6_behind 9 = .ok (.aload_n 0, 1) := by decide +kernel
theorem dX6_behind_10 : decode cX6_behind 10 = .ok (.aload_n 0, 1) := by decide +kernel
theorem dX6_behind_11 : decode cX6_behind 11 = .ok (.getfield 7, 3) := by decide +kernel
theorem dX6_behind_14 : decode cX6_behind 14 = .ok (.iload_n 1, 1) := by decide +kernel
theorem dX6_behind_15 : decode cX6_behind 15 = .ok (.iaload, 1) := by decide +kernel
theorem dX6_behind_16 : decode cX6_behind 16 = .ok (.invokevirtual 152, 3) := by decide +kernel
theorem dX6_behind_19 : decode cX6_behind 19 = .ok (.ireturn, 1) := by decide +kernel
theorem dX6_on_0 : decode cX6_on 0 = .ok (.aload_n 0, 1) := by decide +kernel
theorem dX6_on_1 : decode cX6_on 1 = .ok (.iload_n 1, 1) := by decide +kernel
theorem dX6_on_2 : decode cX6_on 2 = .ok (.invokevirtual 110, 3) := by decide +kernel
theorem dX6_on_5 : decode cX6_on 5 = .ok (.ifCond .eq 23, 3) := by decide +kernel
theorem dX6_on_8 : decode cX6_on 8 = .ok (.iload_n 2, 1) := by decide +kernel
theorem dX6_on_9 : decode cX6_on 9 = .ok (.invokestatic 155, 3) := by decide +kernel
theorem dX6_on_12 : decode cX6_on 12 = .ok (.ifCond .eq 16, 3) := by decide +kernel
theorem dX6_on_15 : decode cX6_on 15 = .ok (.aload_n 0, 1) := by decide +kernel
theorem dX6_on_16 : decode cX6_on 16 = .ok (.iload_n 1, 1) := by decide +kernel
theorem dX6_on_17 : decode cX6_on 17 = .ok (.iconst 2, 1) := by decide +kernel
theorem dX6_on_18 : decode cX6_on 18 = .ok (.invokestatic 42, 3) := by decide +kernel
theorem dX6_on_21 : decode cX6_on 21 = .ok (.iload_n 2, 1) := by decide +kernel
theorem dX6_on_22 : decode cX6_on 22 = .ok (.invokevirtual 158, 3) := by decide +kernel
theorem dX6_on_25 : decode cX6_on 25 = .ok (.goto 9, 3) := by decide +kernel
theorem dX6_on_28 : decode cX6_on 28 = .ok (.aload_n 0, 1) := by decide +kernel
theorem dX6_on_29 : decode cX6_on 29 = .ok (.ldc 41, 2) := by decide +kernel
theorem dX6_on_31 : decode cX6_on 31 = .ok (.invokevirtual 67, 3) := by decide +kernel
theorem dX6_on_34 : decode cX6_on 34 = .ok (.ireturn, 1) := by decide +kernel
theorem dX6_then_0 : decode cX6_then 0 = .ok (.iload_n 1, 1) := by decide +kernel
theorem dX6_then_1 : decode cX6_then 1 = .ok (.invokestatic 60, 3) := by decide +kernel
theorem dX6_then_4 : decode cX6_then 4 = .ok (.ifCond .eq 22, 3) := by decide +kernel
theorem dX6_then_7 : decode cX6_then 7 = .ok (.iload_n 2, 1) := by decide +kernel
theorem dX6_then_8 : decode cX6_then 8 = .ok (.invokestatic 155, 3) := by decide +kernel
theorem dX6_then_11 : decode cX6_then 11 = .ok (.ifCond .eq 15, 3) := by decide +kernel
theorem dX6_then_14 : decode cX6_then 14 = .ok (.iload_n 3, 1) := by decide +kernel
theorem dX6_then_15 : decode cX6_then 15 = .ok (.i2l, 1) := by decide +kernel
theorem dX6_then_16 : decode cX6_then 16 = .ok (.lconst 0, 1) := by decide +kernel
theorem dX6_then_17 : decode cX6_then 17 = .ok (.ldc2_w 71, 3) := by decide +kernel
theorem dX6_then_20 : decode cX6_then 20 = .ok (.invokestatic 46, 3) := by decide +kernel
theorem dX6_then_23 : decode cX6_then 23 = .ok (.ifCond .ne 10, 3) := by decide +kernel
theorem dX6_then_26 : decode cX6_then 26 = .ok (.aload_n 0, 1) := by decide +kernel
theorem dX6_then_27 : decode cX6_then 27 = .ok (.ldc 41, 2) := by decide +kernel
theorem dX6_then_29 : decode cX6_then 29 = .ok (.invokevirtual 67, 3) := by decide +kernel
theorem dX6_then_32 : decode cX6_then 32 = .ok (.ireturn, 1) := by decide +kernel
theorem dX6_then_33 : decode cX6_then 33 = .ok (.iload_n 3, 1) := by decide +kernel
theorem dX6_then_34 : decode cX6_then 34 = .ok (.iconst 2, 1) := by decide +kernel
theorem dX6_then_35 : decode cX6_then 35 = .ok (.if_icmp .ne 16, 3) := by decide +kernel
theorem dX6_then_38 : decode cX6_then 38 = .ok (.aload_n 0, 1) := by decide +kernel
theorem dX6_then_39 : decode cX6_then 39 = .ok (.iconst 2, 1) := by decide +kernel
theorem dX6_then_40 : decode cX6_then 40 = .ok (.iload_n 2, 1) := by decide +kernel
theorem dX6_then_41 : decode cX6_then 41 = .ok (.invokevirtual 158, 3) := by decide +kernel
theorem dX6_then_44 : decode cX6_then 44 = .ok (.iload_n 1, 1) := by decide +kernel
theorem dX6_then_45 : decode cX6_then 45 = .ok (.ishr, 1) := by decide +kernel
theorem dX6_then_46 : decode cX6_then 46 = .ok (.iconst 1, 1) := by decide +kernel
theorem dX6_then_47 : decode cX6_then 47 = .ok (.iand, 1) := by decide +kernel
theorem dX6_then_48 : decode cX6_then 48 = .ok (.goto 13, 3) := by decide +kernel
theorem dX6_then_51 : decode cX6_then 51 = .ok (.aload_n 0, 1) := by decide +kernel
theorem dX6_then_52 : decode cX6_then 52 = .ok (.iload_n 1, 1) := by decide +kernel
theorem dX6_then_53 : decode cX6_then 53 = .ok (.iload_n 3, 1) := by decide +kernel
theorem dX6_then_54 : decode cX6_then 54 = .ok (.invokestatic 52, 3) := by decide +kernel
theorem dX6_then_57 : decode cX6_then 57 = .ok (.iload_n 2, 1) := by decide +kernel
theorem dX6_then_58 : decode cX6_then 58 = .ok (.invokevirtual 158, 3) := by decide +kernel
theorem dX6_then_61 : decode cX6_then 61 = .ok (.ireturn, 1) := by decide +kernel
theorem dX6_toldAt_0 : decode cX6_toldAt 0 = .ok (.aload_n 0, 1) := by decide +kernel
theorem dX6_toldAt_1 : decode cX6_toldAt 1 = .ok (.iload_n 1, 1) := by decide +kernel
theorem dX6_toldAt_2 : decode cX6_toldAt 2 = .ok (.invokevirtual 152, 3) := by decide +kernel
theorem dX6_toldAt_5 : decode cX6_toldAt 5 = .ok (.istore_n 2, 1) := by decide +kernel
theorem dX6_toldAt_6 : decode cX6_toldAt 6 = .ok (.iload_n 2, 1) := by decide +kernel
theorem dX6_toldAt_7 : decode cX6_toldAt 7 = .ok (.sipush 200, 3) := by decide +kernel
theorem dX6_toldAt_10 : decode cX6_toldAt 10 = .ok (.if_icmp .le 12, 3) := by decide +kernel
theorem dX6_toldAt_13 : decode cX6_toldAt 13 = .ok (.aload_n 0, 1) := by decide +kernel
theorem dX6_toldAt_14 : decode cX6_toldAt 14 = .ok (.ldc 161, 2) := by decide +kernel
theorem dX6_toldAt_16 : decode cX6_toldAt 16 = .ok (.invokevirtual 67, 3) := by decide +kernel
theorem dX6_toldAt_19 : decode cX6_toldAt 19 = .ok (.goto 4, 3) := by decide +kernel
theorem dX6_toldAt_22 : decode cX6_toldAt 22 = .ok (.iload_n 2, 1) := by decide +kernel
theorem dX6_toldAt_23 : decode cX6_toldAt 23 = .ok (.ireturn, 1) := by decide +kernel
theorem dX6_flips_0 : decode cX6_flips 0 = .ok (.iload_n 1, 1) := by decide +kernel
theorem dX6_flips_1 : decode cX6_flips 1 = .ok (.invokestatic 60, 3) := by decide +kernel
theorem dX6_flips_4 : decode cX6_flips 4 = .ok (.ifCond .ne 10, 3) := by decide +kernel
theorem dX6_flips_7 : decode cX6_flips 7 = .ok (.aload_n 0, 1) := by decide +kernel
theorem dX6_flips_8 : decode cX6_flips 8 = .ok (.ldc 41, 2) := by decide +kernel
theorem dX6_flips_10 : decode cX6_flips 10 = .ok (.invokevirtual 67, 3) := by decide +kernel
theorem dX6_flips_13 : decode cX6_flips 13 = .ok (.ireturn, 1) := by decide +kernel
theorem dX6_flips_14 : decode cX6_flips 14 = .ok (.aload_n 0, 1) := by decide +kernel
theorem dX6_flips_15 : decode cX6_flips 15 = .ok (.invokevirtual 149, 3) := by decide +kernel
theorem dX6_flips_18 : decode cX6_flips 18 = .ok (.aload_n 0, 1) := by decide +kernel
theorem dX6_flips_19 : decode cX6_flips 19 = .ok (.iload_n 1, 1) := by decide +kernel
theorem dX6_flips_20 : decode cX6_flips 20 = .ok (.invokevirtual 73, 3) := by decide +kernel
theorem dX6_flips_23 : decode cX6_flips 23 = .ok (.istore_n 2, 1) := by decide +kernel
theorem dX6_flips_24 : decode cX6_flips 24 = .ok (.iconst 0, 1) := by decide +kernel
theorem dX6_flips_25 : decode cX6_flips 25 = .ok (.istore_n 3, 1) := by decide +kernel
theorem dX6_flips_26 : decode cX6_flips 26 = .ok (.iload_n 3, 1) := by decide +kernel
theorem dX6_flips_27 : decode cX6_flips 27 = .ok (.sipush 200, 3) := by decide +kernel
theorem dX6_flips_30 : decode cX6_flips 30 = .ok (.if_icmp .gt 22, 3) := by decide +kernel
theorem dX6_flips_33 : decode cX6_flips 33 = .ok (.aload_n 0, 1) := by decide +kernel
theorem dX6_flips_34 : decode cX6_flips 34 = .ok (.iload_n 1, 1) := by decide +kernel
theorem dX6_flips_35 : decode cX6_flips 35 = .ok (.invokevirtual 73, 3) := by decide +kernel
theorem dX6_flips_38 : decode cX6_flips 38 = .ok (.iload_n 2, 1) := by decide +kernel
theorem dX6_flips_39 : decode cX6_flips 39 = .ok (.if_icmp .ne 13, 3) := by decide +kernel
theorem dX6_flips_42 : decode cX6_flips 42 = .ok (.aload_n 0, 1) := by decide +kernel
theorem dX6_flips_43 : decode cX6_flips 43 = .ok (.invokevirtual 137, 3) := by decide +kernel
theorem dX6_flips_46 : decode cX6_flips 46 = .ok (.iinc 3 1, 3) := by decide +kernel
theorem dX6_flips_49 : decode cX6_flips 49 = .ok (.goto (-23), 3) := by decide +kernel
theorem dX6_flips_52 : decode cX6_flips 52 = .ok (.aload_n 0, 1) := by decide +kernel
theorem dX6_flips_53 : decode cX6_flips 53 = .ok (.iload_n 3, 1) := by decide +kernel
theorem dX6_flips_54 : decode cX6_flips 54 = .ok (.invokevirtual 162, 3) := by decide +kernel
theorem dX6_flips_57 : decode cX6_flips 57 = .ok (.ireturn, 1) := by decide +kernel
theorem dX6_rich_0 : decode cX6_rich 0 = .ok (.aload_n 0, 1) := by decide +kernel
theorem dX6_rich_1 : decode cX6_rich 1 = .ok (.iload_n 1, 1) := by decide +kernel
theorem dX6_rich_2 : decode cX6_rich 2 = .ok (.invokevirtual 110, 3) := by decide +kernel
theorem dX6_rich_5 : decode cX6_rich 5 = .ok (.ifCond .eq 15, 3) := by decide +kernel
theorem dX6_rich_8 : decode cX6_rich 8 = .ok (.iload_n 2, 1) := by decide +kernel
theorem dX6_rich_9 : decode cX6_rich 9 = .ok (.i2l, 1) := by decide +kernel
theorem dX6_rich_10 : decode cX6_rich 10 = .ok (.lconst 0, 1) := by decide +kernel
theorem dX6_rich_11 : decode cX6_rich 11 = .ok (.ldc2_w 58, 3) := by decide +kernel
theorem dX6_rich_14 : decode cX6_rich 14 = .ok (.invokestatic 46, 3) := by decide +kernel
theorem dX6_rich_17 : decode cX6_rich 17 = .ok (.ifCond .ne 10, 3) := by decide +kernel
theorem dX6_rich_20 : decode cX6_rich 20 = .ok (.aload_n 0, 1) := by decide +kernel
theorem dX6_rich_21 : decode cX6_rich 21 = .ok (.ldc 41, 2) := by decide +kernel
theorem dX6_rich_23 : decode cX6_rich 23 = .ok (.invokevirtual 67, 3) := by decide +kernel
theorem dX6_rich_26 : decode cX6_rich 26 = .ok (.ireturn, 1) := by decide +kernel
theorem dX6_rich_27 : decode cX6_rich 27 = .ok (.aload_n 0, 1) := by decide +kernel
theorem dX6_rich_28 : decode cX6_rich 28 = .ok (.invokevirtual 149, 3) := by decide +kernel
theorem dX6_rich_31 : decode cX6_rich 31 = .ok (.iconst 0, 1) := by decide +kernel
theorem dX6_rich_32 : decode cX6_rich 32 = .ok (.istore_n 3, 1) := by decide +kernel
theorem dX6_rich_33 : decode cX6_rich 33 = .ok (.iload_n 3, 1) := by decide +kernel
theorem dX6_rich_34 : decode cX6_rich 34 = .ok (.sipush 200, 3) := by decide +kernel
theorem dX6_rich_37 : decode cX6_rich 37 = .ok (.if_icmp .gt 23, 3) := by decide +kernel
theorem dX6_rich_40 : decode cX6_rich 40 = .ok (.aload_n 0, 1) := by decide +kernel
theorem dX6_rich_41 : decode cX6_rich 41 = .ok (.iload_n 1, 1) := by decide +kernel
theorem dX6_rich_42 : decode cX6_rich 42 = .ok (.iconst 2, 1) := by decide +kernel
theorem dX6_rich_43 : decode cX6_rich 43 = .ok (.invokevirtual 55, 3) := by decide +kernel
theorem dX6_rich_46 : decode cX6_rich 46 = .ok (.iload_n 2, 1) := by decide +kernel
theorem dX6_rich_47 : decode cX6_rich 47 = .ok (.if_icmp .ge 13, 3) := by decide +kernel
theorem dX6_rich_50 : decode cX6_rich 50 = .ok (.aload_n 0, 1) := by decide +kernel
theorem dX6_rich_51 : decode cX6_rich 51 = .ok (.invokevirtual 137, 3) := by decide +kernel
theorem dX6_rich_54 : decode cX6_rich 54 = .ok (.iinc 3 1, 3) := by decide +kernel
theorem dX6_rich_57 : decode cX6_rich 57 = .ok (.goto (-24), 3) := by decide +kernel
theorem dX6_rich_60 : decode cX6_rich 60 = .ok (.aload_n 0, 1) := by decide +kernel
theorem dX6_rich_61 : decode cX6_rich 61 = .ok (.iload_n 3, 1) := by decide +kernel
theorem dX6_rich_62 : decode cX6_rich 62 = .ok (.invokevirtual 162, 3) := by decide +kernel
theorem dX6_rich_65 : decode cX6_rich 65 = .ok (.ireturn, 1) := by decide +kernel
theorem dX6_isSoon_0 : decode cX6_isSoon 0 = .ok (.iload_n 0, 1) := by decide +kernel
theorem dX6_isSoon_1 : decode cX6_isSoon 1 = .ok (.i2l, 1) := by decide +kernel
theorem dX6_isSoon_2 : decode cX6_isSoon 2 = .ok (.lconst 1, 1) := by decide +kernel
theorem dX6_isSoon_3 : decode cX6_isSoon 3 = .ok (.ldc2_w 165, 3) := by decide +kernel
theorem dX6_isSoon_6 : decode cX6_isSoon 6 = .ok (.invokestatic 46, 3) := by decide +kernel
theorem dX6_isSoon_9 : decode cX6_isSoon 9 = .ok (.ireturn, 1) := by decide +kernel
theorem dX6_ones_0 : decode cX6_ones 0 = .ok (.iconst 0, 1) := by decide +kernel
theorem dX6_ones_1 : decode cX6_ones 1 = .ok (.istore_n 1, 1) := by decide +kernel
theorem dX6_ones_2 : decode cX6_ones 2 = .ok (.iconst 0, 1) := by decide +kernel
theorem dX6_ones_3 : decode cX6_ones 3 = .ok (.istore_n 2, 1) := by decide +kernel
theorem dX6_ones_4 : decode cX6_ones 4 = .ok (.iload_n 2, 1) := by decide +kernel
theorem dX6_ones_5 : decode cX6_ones 5 = .ok (.bipush 6, 2) := by decide +kernel
theorem dX6_ones_7 : decode cX6_ones 7 = .ok (.if_icmp .ge 17, 3) := by decide +kernel
theorem dX6_ones_10 : decode cX6_ones 10 = .ok (.iload_n 1, 1) := by decide +kernel
theorem dX6_ones_11 : decode cX6_ones 11 = .ok (.iload_n 0, 1) := by decide +kernel
theorem dX6_ones_12 : decode cX6_ones 12 = .ok (.iload_n 2, 1) := by decide +kernel
theorem dX6_ones_13 : decode cX6_ones 13 = .ok (.ishr, 1) := by decide +kernel
theorem dX6_ones_14 : decode cX6_ones 14 = .ok (.iconst 1, 1) := by decide +kernel
theorem dX6_ones_15 : decode cX6_ones 15 = .ok (.iand, 1) := by decide +kernel
theorem dX6_ones_16 : decode cX6_ones 16 = .ok (.iadd, 1) := by decide +kernel
theorem dX6_ones_17 : decode cX6_ones 17 = .ok (.istore_n 1, 1) := by decide +kernel
theorem dX6_ones_18 : decode cX6_ones 18 = .ok (.iinc 2 1, 3) := by decide +kernel
theorem dX6_ones_21 : decode cX6_ones 21 = .ok (.goto (-17), 3) := by decide +kernel
theorem dX6_ones_24 : decode cX6_ones 24 = .ok (.iload_n 1, 1) := by decide +kernel
theorem dX6_ones_25 : decode cX6_ones 25 = .ok (.ireturn, 1) := by decide +kernel
theorem dX6_kind_0 : decode cX6_kind 0 = .ok (.aload_n 0, 1) := by decide +kernel
theorem dX6_kind_1 : decode cX6_kind 1 = .ok (.iload_n 1, 1) := by decide +kernel
theorem dX6_kind_2 : decode cX6_kind 2 = .ok (.invokevirtual 110, 3) := by decide +kernel
theorem dX6_kind_5 : decode cX6_kind 5 = .ok (.ifCond .eq 10, 3) := by decide +kernel
theorem dX6_kind_8 : decode cX6_kind 8 = .ok (.iload_n 2, 1) := by decide +kernel
theorem dX6_kind_9 : decode cX6_kind 9 = .ok (.invokestatic 167, 3) := by decide +kernel
theorem dX6_kind_12 : decode cX6_kind 12 = .ok (.ifCond .ne 10, 3) := by decide +kernel
theorem dX6_kind_15 : decode cX6_kind 15 = .ok (.aload_n 0, 1) := by decide +kernel
theorem dX6_kind_16 : decode cX6_kind 16 = .ok (.ldc 41, 2) := by decide +kernel
theorem dX6_kind_18 : decode cX6_kind 18 = .ok (.invokevirtual 67, 3) := by decide +kernel
theorem dX6_kind_21 : decode cX6_kind 21 = .ok (.ireturn, 1) := by decide +kernel
theorem dX6_kind_22 : decode cX6_kind 22 = .ok (.aload_n 0, 1) := by decide +kernel
theorem dX6_kind_23 : decode cX6_kind 23 = .ok (.iload_n 1, 1) := by decide +kernel
theorem dX6_kind_24 : decode cX6_kind 24 = .ok (.iconst 0, 1) := by decide +kernel
theorem dX6_kind_25 : decode cX6_kind 25 = .ok (.invokevirtual 55, 3) := by decide +kernel
theorem dX6_kind_28 : decode cX6_kind 28 = .ok (.istore_n 3, 1) := by decide +kernel
theorem dX6_kind_29 : decode cX6_kind 29 = .ok (.iconst 0, 1) := by decide +kernel
theorem dX6_kind_30 : decode cX6_kind 30 = .ok (.istore 4, 2) := by decide +kernel
theorem dX6_kind_32 : decode cX6_kind 32 = .ok (.iconst (-1), 1) := by decide +kernel
theorem dX6_kind_33 : decode cX6_kind 33 = .ok (.istore 5, 2) := by decide +kernel
theorem dX6_kind_35 : decode cX6_kind 35 = .ok (.iconst 0, 1) := by decide +kernel
theorem dX6_kind_36 : decode cX6_kind 36 = .ok (.istore 6, 2) := by decide +kernel
theorem dX6_kind_38 : decode cX6_kind 38 = .ok (.iload 6, 2) := by decide +kernel
theorem dX6_kind_40 : decode cX6_kind 40 = .ok (.iconst 5, 1) := by decide +kernel
theorem dX6_kind_41 : decode cX6_kind 41 = .ok (.if_icmp .gt 65, 3) := by decide +kernel
theorem dX6_kind_44 : decode cX6_kind 44 = .ok (.aload_n 0, 1) := by decide +kernel
theorem dX6_kind_45 : decode cX6_kind 45 = .ok (.getfield 7, 3) := by decide +kernel
theorem dX6_kind_48 : decode cX6_kind 48 = .ok (.iload_n 1, 1) := by decide +kernel
theorem dX6_kind_49 : decode cX6_kind 49 = .ok (.iconst 0, 1) := by decide +kernel
theorem dX6_kind_50 : decode cX6_kind 50 = .ok (.invokestatic 42, 3) := by decide +kernel
theorem dX6_kind_53 : decode cX6_kind 53 = .ok (.iload 6, 2) := by decide +kernel
theorem dX6_kind_55 : decode cX6_kind 55 = .ok (.iastore, 1) := by decide +kernel
theorem dX6_kind_56 : decode cX6_kind 56 = .ok (.aload_n 0, 1) := by decide +kernel
theorem dX6_kind_57 : decode cX6_kind 57 = .ok (.iload_n 1, 1) := by decide +kernel
theorem dX6_kind_58 : decode cX6_kind 58 = .ok (.iconst 2, 1) := by decide +kernel
theorem dX6_kind_59 : decode cX6_kind 59 = .ok (.invokestatic 42, 3) := by decide +kernel
theorem dX6_kind_62 : decode cX6_kind 62 = .ok (.iload_n 2, 1) := by decide +kernel
theorem dX6_kind_63 : decode cX6_kind 63 = .ok (.invokevirtual 158, 3) := by decide +kernel
theorem dX6_kind_66 : decode cX6_kind 66 = .ok (.istore 7, 2) := by decide +kernel
theorem dX6_kind_68 : decode cX6_kind 68 = .ok (.iload 7, 2) := by decide +kernel
theorem dX6_kind_70 : decode cX6_kind 70 = .ok (.iload 5, 2) := by decide +kernel
theorem dX6_kind_72 : decode cX6_kind 72 = .ok (.if_icmp .le 8, 3) := by decide +kernel
theorem dX6_kind_75 : decode cX6_kind 75 = .ok (.iload 6, 2) := by decide +kernel
theorem dX6_kind_77 : decode cX6_kind 77 = .ok (.goto 5, 3) := by decide +kernel
theorem dX6_kind_80 : decode cX6_kind 80 = .ok (.iload 4, 2) := by decide +kernel
theorem dX6_kind_82 : decode cX6_kind 82 = .ok (.istore 4, 2) := by decide +kernel
theorem dX6_kind_84 : decode cX6_kind 84 = .ok (.iload 7, 2) := by decide +kernel
theorem dX6_kind_86 : decode cX6_kind 86 = .ok (.iload 5, 2) := by decide +kernel
theorem dX6_kind_88 : decode cX6_kind 88 = .ok (.if_icmp .le 8, 3) := by decide +kernel
theorem dX6_kind_91 : decode cX6_kind 91 = .ok (.iload 7, 2) := by decide +kernel
theorem dX6_kind_93 : decode cX6_kind 93 = .ok (.goto 5, 3) := by decide +kernel
theorem dX6_kind_96 : decode cX6_kind 96 = .ok (.iload 5, 2) := by decide +kernel
theorem dX6_kind_98 : decode cX6_kind 98 = .ok (.istore 5, 2) := by decide +kernel
theorem dX6_kind_100 : decode cX6_kind 100 = .ok (.iinc 6 1, 3) := by decide +kernel
theorem dX6_kind_103 : decode cX6_kind 103 = .ok (.goto (-65), 3) := by decide +kernel
theorem dX6_kind_106 : decode cX6_kind 106 = .ok (.aload_n 0, 1) := by decide +kernel
theorem dX6_kind_107 : decode cX6_kind 107 = .ok (.getfield 7, 3) := by decide +kernel
theorem dX6_kind_110 : decode cX6_kind 110 = .ok (.iload_n 1, 1) := by decide +kernel
theorem dX6_kind_111 : decode cX6_kind 111 = .ok (.iconst 0, 1) := by decide +kernel
theorem dX6_kind_112 : decode cX6_kind 112 = .ok (.invokestatic 42, 3) := by decide +kernel
theorem dX6_kind_115 : decode cX6_kind 115 = .ok (.iload_n 3, 1) := by decide +kernel
theorem dX6_kind_116 : decode cX6_kind 116 = .ok (.iastore, 1) := by decide +kernel
theorem dX6_kind_117 : decode cX6_kind 117 = .ok (.iload 4, 2) := by decide +kernel
theorem dX6_kind_119 : decode cX6_kind 119 = .ok (.ireturn, 1) := by decide +kernel
theorem dX6_lean_0 : decode cX6_lean 0 = .ok (.aload_n 0, 1) := by decide +kernel
theorem dX6_lean_1 : decode cX6_lean 1 = .ok (.iload_n 1, 1) := by decide +kernel
theorem dX6_lean_2 : decode cX6_lean 2 = .ok (.invokevirtual 110, 3) := by decide +kernel
theorem dX6_lean_5 : decode cX6_lean 5 = .ok (.ifCond .eq 15, 3) := by decide +kernel
theorem dX6_lean_8 : decode cX6_lean 8 = .ok (.iload_n 2, 1) := by decide +kernel
theorem dX6_lean_9 : decode cX6_lean 9 = .ok (.i2l, 1) := by decide +kernel
theorem dX6_lean_10 : decode cX6_lean 10 = .ok (.lconst 1, 1) := by decide +kernel
theorem dX6_lean_11 : decode cX6_lean 11 = .ok (.ldc2_w 170, 3) := by decide +kernel
theorem dX6_lean_14 : decode cX6_lean 14 = .ok (.invokestatic 46, 3) := by decide +kernel
theorem dX6_lean_17 : decode cX6_lean 17 = .ok (.ifCond .ne 10, 3) := by decide +kernel
theorem dX6_lean_20 : decode cX6_lean 20 = .ok (.aload_n 0, 1) := by decide +kernel
theorem dX6_lean_21 : decode cX6_lean 21 = .ok (.ldc 41, 2) := by decide +kernel
theorem dX6_lean_23 : decode cX6_lean 23 = .ok (.invokevirtual 67, 3) := by decide +kernel
theorem dX6_lean_26 : decode cX6_lean 26 = .ok (.ireturn, 1) := by decide +kernel
theorem dX6_lean_27 : decode cX6_lean 27 = .ok (.aload_n 0, 1) := by decide +kernel
theorem dX6_lean_28 : decode cX6_lean 28 = .ok (.iload_n 1, 1) := by decide +kernel
theorem dX6_lean_29 : decode cX6_lean 29 = .ok (.iconst 1, 1) := by decide +kernel
theorem dX6_lean_30 : decode cX6_lean 30 = .ok (.invokevirtual 55, 3) := by decide +kernel
theorem dX6_lean_33 : decode cX6_lean 33 = .ok (.istore_n 3, 1) := by decide +kernel
theorem dX6_lean_34 : decode cX6_lean 34 = .ok (.iconst 0, 1) := by decide +kernel
theorem dX6_lean_35 : decode cX6_lean 35 = .ok (.istore 4, 2) := by decide +kernel
theorem dX6_lean_37 : decode cX6_lean 37 = .ok (.iconst (-1), 1) := by decide +kernel
theorem dX6_lean_38 : decode cX6_lean 38 = .ok (.istore 5, 2) := by decide +kernel
theorem dX6_lean_40 : decode cX6_lean 40 = .ok (.iconst 0, 1) := by decide +kernel
theorem dX6_lean_41 : decode cX6_lean 41 = .ok (.istore 6, 2) := by decide +kernel
theorem dX6_lean_43 : decode cX6_lean 43 = .ok (.iload 6, 2) := by decide +kernel
theorem dX6_lean_45 : decode cX6_lean 45 = .ok (.bipush 63, 2) := by decide +kernel
theorem dX6_lean_47 : decode cX6_lean 47 = .ok (.if_icmp .gt 71, 3) := by decide +kernel
theorem dX6_lean_50 : decode cX6_lean 50 = .ok (.aload_n 0, 1) := by decide +kernel
theorem dX6_lean_51 : decode cX6_lean 51 = .ok (.getfield 7, 3) := by decide +kernel
theorem dX6_lean_54 : decode cX6_lean 54 = .ok (.iload_n 1, 1) := by decide +kernel
theorem dX6_lean_55 : decode cX6_lean 55 = .ok (.iconst 1, 1) := by decide +kernel
theorem dX6_lean_56 : decode cX6_lean 56 = .ok (.invokestatic 42, 3) := by decide +kernel
theorem dX6_lean_59 : decode cX6_lean 59 = .ok (.iload 6, 2) := by decide +kernel
theorem dX6_lean_61 : decode cX6_lean 61 = .ok (.iastore, 1) := by decide +kernel
theorem dX6_lean_62 : decode cX6_lean 62 = .ok (.aload_n 0, 1) := by decide +kernel
theorem dX6_lean_63 : decode cX6_lean 63 = .ok (.iconst 2, 1) := by decide +kernel
theorem dX6_lean_64 : decode cX6_lean 64 = .ok (.iload_n 2, 1) := by decide +kernel
theorem dX6_lean_65 : decode cX6_lean 65 = .ok (.invokevirtual 158, 3) := by decide +kernel
theorem dX6_lean_68 : decode cX6_lean 68 = .ok (.aload_n 0, 1) := by decide +kernel
theorem dX6_lean_69 : decode cX6_lean 69 = .ok (.getfield 7, 3) := by decide +kernel
theorem dX6_lean_72 : decode cX6_lean 72 = .ok (.iconst 2, 1) := by decide +kernel
theorem dX6_lean_73 : decode cX6_lean 73 = .ok (.iaload, 1) := by decide +kernel
theorem dX6_lean_74 : decode cX6_lean 74 = .ok (.ixor, 1) := by decide +kernel
theorem dX6_lean_75 : decode cX6_lean 75 = .ok (.invokestatic 172, 3) := by decide +kernel
theorem dX6_lean_78 : decode cX6_lean 78 = .ok (.istore 7, 2) := by decide +kernel
theorem dX6_lean_80 : decode cX6_lean 80 = .ok (.iload 7, 2) := by decide +kernel
theorem dX6_lean_82 : decode cX6_lean 82 = .ok (.iload 5, 2) := by decide +kernel
theorem dX6_lean_84 : decode cX6_lean 84 = .ok (.if_icmp .le 8, 3) := by decide +kernel
theorem dX6_lean_87 : decode cX6_lean 87 = .ok (.iload 6, 2) := by decide +kernel
theorem dX6_lean_89 : decode cX6_lean 89 = .ok (.goto 5, 3) := by decide +kernel
theorem dX6_lean_92 : decode cX6_lean 92 = .ok (.iload 4, 2) := by decide +kernel
theorem dX6_lean_94 : decode cX6_lean 94 = .ok (.istore 4, 2) := by decide +kernel
theorem dX6_lean_96 : decode cX6_lean 96 = .ok (.iload 7, 2) := by decide +kernel
theorem dX6_lean_98 : decode cX6_lean 98 = .ok (.iload 5, 2) := by decide +kernel
theorem dX6_lean_100 : decode cX6_lean 100 = .ok (.if_icmp .le 8, 3) := by decide +kernel
theorem dX6_lean_103 : decode cX6_lean 103 = .ok (.iload 7, 2) := by decide +kernel
theorem dX6_lean_105 : decode cX6_lean 105 = .ok (.goto 5, 3) := by decide +kernel
theorem dX6_lean_108 : decode cX6_lean 108 = .ok (.iload 5, 2) := by decide +kernel
theorem dX6_lean_110 : decode cX6_lean 110 = .ok (.istore 5, 2) := by decide +kernel
theorem dX6_lean_112 : decode cX6_lean 112 = .ok (.iinc 6 1, 3) := by decide +kernel
theorem dX6_lean_115 : decode cX6_lean 115 = .ok (.goto (-72), 3) := by decide +kernel
theorem dX6_lean_118 : decode cX6_lean 118 = .ok (.aload_n 0, 1) := by decide +kernel
theorem dX6_lean_119 : decode cX6_lean 119 = .ok (.getfield 7, 3) := by decide +kernel
theorem dX6_lean_122 : decode cX6_lean 122 = .ok (.iload_n 1, 1) := by decide +kernel
theorem dX6_lean_123 : decode cX6_lean 123 = .ok (.iconst 1, 1) := by decide +kernel
theorem dX6_lean_124 : decode cX6_lean 124 = .ok (.invokestatic 42, 3) := by decide +kernel
theorem dX6_lean_127 : decode cX6_lean 127 = .ok (.iload_n 3, 1) := by decide +kernel
theorem dX6_lean_128 : decode cX6_lean 128 = .ok (.iastore, 1) := by decide +kernel
theorem dX6_lean_129 : decode cX6_lean 129 = .ok (.iload 4, 2) := by decide +kernel
theorem dX6_lean_131 : decode cX6_lean 131 = .ok (.ireturn, 1) := by decide +kernel
theorem dX6_buys_0 : decode cX6_buys 0 = .ok (.aload_n 0, 1) := by decide +kernel
theorem dX6_buys_1 : decode cX6_buys 1 = .ok (.iload_n 1, 1) := by decide +kernel
theorem dX6_buys_2 : decode cX6_buys 2 = .ok (.invokevirtual 110, 3) := by decide +kernel
theorem dX6_buys_5 : decode cX6_buys 5 = .ok (.ifCond .eq 17, 3) := by decide +kernel
theorem dX6_buys_8 : decode cX6_buys 8 = .ok (.iload_n 2, 1) := by decide +kernel
theorem dX6_buys_9 : decode cX6_buys 9 = .ok (.invokestatic 60, 3) := by decide +kernel
theorem dX6_buys_12 : decode cX6_buys 12 = .ok (.ifCond .eq 10, 3) := by decide +kernel
theorem dX6_buys_15 : decode cX6_buys 15 = .ok (.iload_n 3, 1) := by decide +kernel
theorem dX6_buys_16 : decode cX6_buys 16 = .ok (.invokestatic 167, 3) := by decide +kernel
theorem dX6_buys_19 : decode cX6_buys 19 = .ok (.ifCond .ne 10, 3) := by decide +kernel
theorem dX6_buys_22 : decode cX6_buys 22 = .ok (.aload_n 0, 1) := by decide +kernel
theorem dX6_buys_23 : decode cX6_buys 23 = .ok (.ldc 41, 2) := by decide +kernel
theorem dX6_buys_25 : decode cX6_buys 25 = .ok (.invokevirtual 67, 3) := by decide +kernel
theorem dX6_buys_28 : decode cX6_buys 28 = .ok (.ireturn, 1) := by decide +kernel
theorem dX6_buys_29 : decode cX6_buys 29 = .ok (.iload_n 1, 1) := by decide +kernel
theorem dX6_buys_30 : decode cX6_buys 30 = .ok (.iconst 2, 1) := by decide +kernel
theorem dX6_buys_31 : decode cX6_buys 31 = .ok (.invokestatic 42, 3) := by decide +kernel
theorem dX6_buys_34 : decode cX6_buys 34 = .ok (.istore 4, 2) := by decide +kernel
theorem dX6_buys_36 : decode cX6_buys 36 = .ok (.aload_n 0, 1) := by decide +kernel
theorem dX6_buys_37 : decode cX6_buys 37 = .ok (.getfield 7, 3) := by decide +kernel
theorem dX6_buys_40 : decode cX6_buys 40 = .ok (.iload 4, 2) := by decide +kernel
theorem dX6_buys_42 : decode cX6_buys 42 = .ok (.iaload, 1) := by decide +kernel
theorem dX6_buys_43 : decode cX6_buys 43 = .ok (.istore 5, 2) := by decide +kernel
theorem dX6_buys_45 : decode cX6_buys 45 = .ok (.iconst (-1), 1) := by decide +kernel
theorem dX6_buys_46 : decode cX6_buys 46 = .ok (.istore 6, 2) := by decide +kernel
theorem dX6_buys_48 : decode cX6_buys 48 = .ok (.iconst 0, 1) := by decide +kernel
theorem dX6_buys_49 : decode cX6_buys 49 = .ok (.istore 7, 2) := by decide +kernel
theorem dX6_buys_51 : decode cX6_buys 51 = .ok (.iload 7, 2) := by decide +kernel
theorem dX6_buys_53 : decode cX6_buys 53 = .ok (.sipush 1000, 3) := by decide +kernel
theorem dX6_buys_56 : decode cX6_buys 56 = .ok (.if_icmp .gt 49, 3) := by decide +kernel
theorem dX6_buys_59 : decode cX6_buys 59 = .ok (.iload 6, 2) := by decide +kernel
theorem dX6_buys_61 : decode cX6_buys 61 = .ok (.ifCond .ge 44, 3) := by decide +kernel
theorem dX6_buys_64 : decode cX6_buys 64 = .ok (.aload_n 0, 1) := by decide +kernel
theorem dX6_buys_65 : decode cX6_buys 65 = .ok (.getfield 7, 3) := by decide +kernel
theorem dX6_buys_68 : decode cX6_buys 68 = .ok (.iload 4, 2) := by decide +kernel
theorem dX6_buys_70 : decode cX6_buys 70 = .ok (.iload 7, 2) := by decide +kernel
theorem dX6_buys_72 : decode cX6_buys 72 = .ok (.iastore, 1) := by decide +kernel
theorem dX6_buys_73 : decode cX6_buys 73 = .ok (.aload_n 0, 1) := by decide +kernel
theorem dX6_buys_74 : decode cX6_buys 74 = .ok (.iconst 2, 1) := by decide +kernel
theorem dX6_buys_75 : decode cX6_buys 75 = .ok (.iload_n 3, 1) := by decide +kernel
theorem dX6_buys_76 : decode cX6_buys 76 = .ok (.invokevirtual 158, 3) := by decide +kernel
theorem dX6_buys_79 : decode cX6_buys 79 = .ok (.iload_n 2, 1) := by decide +kernel
theorem dX6_buys_80 : decode cX6_buys 80 = .ok (.ishr, 1) := by decide +kernel
theorem dX6_buys_81 : decode cX6_buys 81 = .ok (.iconst 1, 1) := by decide +kernel
theorem dX6_buys_82 : decode cX6_buys 82 = .ok (.iand, 1) := by decide +kernel
theorem dX6_buys_83 : decode cX6_buys 83 = .ok (.aload_n 0, 1) := by decide +kernel
theorem dX6_buys_84 : decode cX6_buys 84 = .ok (.iload_n 2, 1) := by decide +kernel
theorem dX6_buys_85 : decode cX6_buys 85 = .ok (.invokevirtual 73, 3) := by decide +kernel
theorem dX6_buys_88 : decode cX6_buys 88 = .ok (.if_icmp .eq 8, 3) := by decide +kernel
theorem dX6_buys_91 : decode cX6_buys 91 = .ok (.iload 7, 2) := by decide +kernel
theorem dX6_buys_93 : decode cX6_buys 93 = .ok (.goto 4, 3) := by decide +kernel
theorem dX6_buys_96 : decode cX6_buys 96 = .ok (.iconst (-1), 1) := by decide +kernel
theorem dX6_buys_97 : decode cX6_buys 97 = .ok (.istore 6, 2) := by decide +kernel
theorem dX6_buys_99 : decode cX6_buys 99 = .ok (.iinc 7 10, 3) := by decide +kernel
theorem dX6_buys_102 : decode cX6_buys 102 = .ok (.goto (-51), 3) := by decide +kernel
theorem dX6_buys_105 : decode cX6_buys 105 = .ok (.aload_n 0, 1) := by decide +kernel
theorem dX6_buys_106 : decode cX6_buys 106 = .ok (.getfield 7, 3) := by decide +kernel
theorem dX6_buys_109 : decode cX6_buys 109 = .ok (.iload 4, 2) := by decide +kernel
theorem dX6_buys_111 : decode cX6_buys 111 = .ok (.iload 5, 2) := by decide +kernel
theorem dX6_buys_113 : decode cX6_buys 113 = .ok (.iastore, 1) := by decide +kernel
theorem dX6_buys_114 : decode cX6_buys 114 = .ok (.iload 6, 2) := by decide +kernel
theorem dX6_buys_116 : decode cX6_buys 116 = .ok (.ifCond .ge 12, 3) := by decide +kernel
theorem dX6_buys_119 : decode cX6_buys 119 = .ok (.aload_n 0, 1) := by decide +kernel
theorem dX6_buys_120 : decode cX6_buys 120 = .ok (.ldc 161, 2) := by decide +kernel
theorem dX6_buys_122 : decode cX6_buys 122 = .ok (.invokevirtual 67, 3) := by decide +kernel
theorem dX6_buys_125 : decode cX6_buys 125 = .ok (.goto 5, 3) := by decide +kernel
theorem dX6_buys_128 : decode cX6_buys 128 = .ok (.iload 6, 2) := by decide +kernel
theorem dX6_buys_130 : decode cX6_buys 130 = .ok (.ireturn, 1) := by decide +kernel
theorem dX6_swing_0 : decode cX6_swing 0 = .ok (.iload_n 1, 1) := by decide +kernel
theorem dX6_swing_1 : decode cX6_swing 1 = .ok (.invokestatic 167, 3) := by decide +kernel
theorem dX6_swing_4 : decode cX6_swing 4 = .ok (.ifCond .ne 10, 3) := by decide +kernel
theorem dX6_swing_7 : decode cX6_swing 7 = .ok (.aload_n 0, 1) := by decide +kernel
theorem dX6_swing_8 : decode cX6_swing 8 = .ok (.ldc 41, 2) := by decide +kernel
theorem dX6_swing_10 : decode cX6_swing 10 = .ok (.invokevirtual 67, 3) := by decide +kernel
theorem dX6_swing_13 : decode cX6_swing 13 = .ok (.ireturn, 1) := by decide +kernel
theorem dX6_swing_14 : decode cX6_swing 14 = .ok (.aload_n 0, 1) := by decide +kernel
theorem dX6_swing_15 : decode cX6_swing 15 = .ok (.iconst 2, 1) := by decide +kernel
theorem dX6_swing_16 : decode cX6_swing 16 = .ok (.iload_n 1, 1) := by decide +kernel
theorem dX6_swing_17 : decode cX6_swing 17 = .ok (.invokevirtual 158, 3) := by decide +kernel
theorem dX6_swing_20 : decode cX6_swing 20 = .ok (.istore_n 2, 1) := by decide +kernel
theorem dX6_swing_21 : decode cX6_swing 21 = .ok (.iconst (-1), 1) := by decide +kernel
theorem dX6_swing_22 : decode cX6_swing 22 = .ok (.istore_n 3, 1) := by decide +kernel
theorem dX6_swing_23 : decode cX6_swing 23 = .ok (.iconst 0, 1) := by decide +kernel
theorem dX6_swing_24 : decode cX6_swing 24 = .ok (.istore 4, 2) := by decide +kernel
theorem dX6_swing_26 : decode cX6_swing 26 = .ok (.iconst 0, 1) := by decide +kernel
theorem dX6_swing_27 : decode cX6_swing 27 = .ok (.istore 5, 2) := by decide +kernel
theorem dX6_swing_29 : decode cX6_swing 29 = .ok (.iload 5, 2) := by decide +kernel
theorem dX6_swing_31 : decode cX6_swing 31 = .ok (.aload_n 0, 1) := by decide +kernel
theorem dX6_swing_32 : decode cX6_swing 32 = .ok (.getfield 7, 3) := by decide +kernel
theorem dX6_swing_35 : decode cX6_swing 35 = .ok (.iconst 1, 1) := by decide +kernel
theorem dX6_swing_36 : decode cX6_swing 36 = .ok (.iaload, 1) := by decide +kernel
theorem dX6_swing_37 : decode cX6_swing 37 = .ok (.if_icmp .ge 86, 3) := by decide +kernel
theorem dX6_swing_40 : decode cX6_swing 40 = .ok (.aload_n 0, 1) := by decide +kernel
theorem dX6_swing_41 : decode cX6_swing 41 = .ok (.iload 5, 2) := by decide +kernel
theorem dX6_swing_43 : decode cX6_swing 43 = .ok (.iconst 3, 1) := by decide +kernel
theorem dX6_swing_44 : decode cX6_swing 44 = .ok (.invokevirtual 55, 3) := by decide +kernel
theorem dX6_swing_47 : decode cX6_swing 47 = .ok (.ifCond .ne 70, 3) := by decide +kernel
theorem dX6_swing_50 : decode cX6_swing 50 = .ok (.aload_n 0, 1) := by decide +kernel
theorem dX6_swing_51 : decode cX6_swing 51 = .ok (.getfield 7, 3) := by decide +kernel
theorem dX6_swing_54 : decode cX6_swing 54 = .ok (.iload 5, 2) := by decide +kernel
theorem dX6_swing_56 : decode cX6_swing 56 = .ok (.iconst 3, 1) := by decide +kernel
theorem dX6_swing_57 : decode cX6_swing 57 = .ok (.invokestatic 42, 3) := by decide +kernel
theorem dX6_swing_60 : decode cX6_swing 60 = .ok (.iconst 1, 1) := by decide +kernel
theorem dX6_swing_61 : decode cX6_swing 61 = .ok (.iastore, 1) := by decide +kernel
theorem dX6_swing_62 : decode cX6_swing 62 = .ok (.aload_n 0, 1) := by decide +kernel
theorem dX6_swing_63 : decode cX6_swing 63 = .ok (.iconst 2, 1) := by decide +kernel
theorem dX6_swing_64 : decode cX6_swing 64 = .ok (.iload_n 1, 1) := by decide +kernel
theorem dX6_swing_65 : decode cX6_swing 65 = .ok (.invokevirtual 158, 3) := by decide +kernel
theorem dX6_swing_68 : decode cX6_swing 68 = .ok (.iload_n 2, 1) := by decide +kernel
theorem dX6_swing_69 : decode cX6_swing 69 = .ok (.ixor, 1) := by decide +kernel
theorem dX6_swing_70 : decode cX6_swing 70 = .ok (.invokestatic 172, 3) := by decide +kernel
theorem dX6_swing_73 : decode cX6_swing 73 = .ok (.istore 6, 2) := by decide +kernel
theorem dX6_swing_75 : decode cX6_swing 75 = .ok (.aload_n 0, 1) := by decide +kernel
theorem dX6_swing_76 : decode cX6_swing 76 = .ok (.getfield 7, 3) := by decide +kernel
theorem dX6_swing_79 : decode cX6_swing 79 = .ok (.iload 5, 2) := by decide +kernel
theorem dX6_swing_81 : decode cX6_swing 81 = .ok (.iconst 3, 1) := by decide +kernel
theorem dX6_swing_82 : decode cX6_swing 82 = .ok (.invokestatic 42, 3) := by decide +kernel
theorem dX6_swing_85 : decode cX6_swing 85 = .ok (.iconst 0, 1) := by decide +kernel
theorem dX6_swing_86 : decode cX6_swing 86 = .ok (.iastore, 1) := by decide +kernel
theorem dX6_swing_87 : decode cX6_swing 87 = .ok (.iload 6, 2) := by decide +kernel
theorem dX6_swing_89 : decode cX6_swing 89 = .ok (.iload 4, 2) := by decide +kernel
theorem dX6_swing_91 : decode cX6_swing 91 = .ok (.if_icmp .le 8, 3) := by decide +kernel
theorem dX6_swing_94 : decode cX6_swing 94 = .ok (.iload 5, 2) := by decide +kernel
theorem dX6_swing_96 : decode cX6_swing 96 = .ok (.goto 4, 3) := by decide +kernel
theorem dX6_swing_99 : decode cX6_swing 99 = .ok (.iload_n 3, 1) := by decide +kernel
theorem dX6_swing_100 : decode cX6_swing 100 = .ok (.istore_n 3, 1) := by decide +kernel
theorem dX6_swing_101 : decode cX6_swing 101 = .ok (.iload 6, 2) := by decide +kernel
theorem dX6_swing_103 : decode cX6_swing 103 = .ok (.iload 4, 2) := by decide +kernel
theorem dX6_swing_105 : decode cX6_swing 105 = .ok (.if_icmp .le 8, 3) := by decide +kernel
theorem dX6_swing_108 : decode cX6_swing 108 = .ok (.iload 6, 2) := by decide +kernel
theorem dX6_swing_110 : decode cX6_swing 110 = .ok (.goto 5, 3) := by decide +kernel
theorem dX6_swing_113 : decode cX6_swing 113 = .ok (.iload 4, 2) := by decide +kernel
theorem dX6_swing_115 : decode cX6_swing 115 = .ok (.istore 4, 2) := by decide +kernel
theorem dX6_swing_117 : decode cX6_swing 117 = .ok (.iinc 5 1, 3) := by decide +kernel
theorem dX6_swing_120 : decode cX6_swing 120 = .ok (.goto (-91), 3) := by decide +kernel
theorem dX6_swing_123 : decode cX6_swing 123 = .ok (.iload_n 3, 1) := by decide +kernel
theorem dX6_swing_124 : decode cX6_swing 124 = .ok (.ifCond .ge 12, 3) := by decide +kernel
theorem dX6_swing_127 : decode cX6_swing 127 = .ok (.aload_n 0, 1) := by decide +kernel
theorem dX6_swing_128 : decode cX6_swing 128 = .ok (.ldc 161, 2) := by decide +kernel
theorem dX6_swing_130 : decode cX6_swing 130 = .ok (.invokevirtual 67, 3) := by decide +kernel
theorem dX6_swing_133 : decode cX6_swing 133 = .ok (.goto 4, 3) := by decide +kernel
theorem dX6_swing_136 : decode cX6_swing 136 = .ok (.iload_n 3, 1) := by decide +kernel
theorem dX6_swing_137 : decode cX6_swing 137 = .ok (.ireturn, 1) := by decide +kernel
theorem dX6_pays_0 : decode cX6_pays 0 = .ok (.iload_n 1, 1) := by decide +kernel
theorem dX6_pays_1 : decode cX6_pays 1 = .ok (.invokestatic 167, 3) := by decide +kernel
theorem dX6_pays_4 : decode cX6_pays 4 = .ok (.ifCond .ne 10, 3) := by decide +kernel
theorem dX6_pays_7 : decode cX6_pays 7 = .ok (.aload_n 0, 1) := by decide +kernel
theorem dX6_pays_8 : decode cX6_pays 8 = .ok (.ldc 41, 2) := by decide +kernel
theorem dX6_pays_10 : decode cX6_pays 10 = .ok (.invokevirtual 67, 3) := by decide +kernel
theorem dX6_pays_13 : decode cX6_pays 13 = .ok (.ireturn, 1) := by decide +kernel
theorem dX6_pays_14 : decode cX6_pays 14 = .ok (.aload_n 0, 1) := by decide +kernel
theorem dX6_pays_15 : decode cX6_pays 15 = .ok (.iconst 3, 1) := by decide +kernel
theorem dX6_pays_16 : decode cX6_pays 16 = .ok (.iconst 0, 1) := by decide +kernel
theorem dX6_pays_17 : decode cX6_pays 17 = .ok (.invokevirtual 64, 3) := by decide +kernel
theorem dX6_pays_20 : decode cX6_pays 20 = .ok (.istore_n 2, 1) := by decide +kernel
theorem dX6_pays_21 : decode cX6_pays 21 = .ok (.aload_n 0, 1) := by decide +kernel
theorem dX6_pays_22 : decode cX6_pays 22 = .ok (.iconst 2, 1) := by decide +kernel
theorem dX6_pays_23 : decode cX6_pays 23 = .ok (.iload_n 1, 1) := by decide +kernel
theorem dX6_pays_24 : decode cX6_pays 24 = .ok (.invokevirtual 158, 3) := by decide +kernel
theorem dX6_pays_27 : decode cX6_pays 27 = .ok (.invokestatic 172, 3) := by decide +kernel
theorem dX6_pays_30 : decode cX6_pays 30 = .ok (.istore_n 3, 1) := by decide +kernel
theorem dX6_pays_31 : decode cX6_pays 31 = .ok (.aload_n 0, 1) := by decide +kernel
theorem dX6_pays_32 : decode cX6_pays 32 = .ok (.getfield 7, 3) := by decide +kernel
theorem dX6_pays_35 : decode cX6_pays 35 = .ok (.iconst 3, 1) := by decide +kernel
theorem dX6_pays_36 : decode cX6_pays 36 = .ok (.iconst 1, 1) := by decide +kernel
theorem dX6_pays_37 : decode cX6_pays 37 = .ok (.iastore, 1) := by decide +kernel
theorem dX6_pays_38 : decode cX6_pays 38 = .ok (.aload_n 0, 1) := by decide +kernel
theorem dX6_pays_39 : decode cX6_pays 39 = .ok (.iconst 2, 1) := by decide +kernel
theorem dX6_pays_40 : decode cX6_pays 40 = .ok (.iload_n 1, 1) := by decide +kernel
theorem dX6_pays_41 : decode cX6_pays 41 = .ok (.invokevirtual 158, 3) := by decide +kernel
theorem dX6_pays_44 : decode cX6_pays 44 = .ok (.invokestatic 172, 3) := by decide +kernel
theorem dX6_pays_47 : decode cX6_pays 47 = .ok (.istore 4, 2) := by decide +kernel
theorem dX6_pays_49 : decode cX6_pays 49 = .ok (.aload_n 0, 1) := by decide +kernel
theorem dX6_pays_50 : decode cX6_pays 50 = .ok (.getfield 7, 3) := by decide +kernel
theorem dX6_pays_53 : decode cX6_pays 53 = .ok (.iconst 3, 1) := by decide +kernel
theorem dX6_pays_54 : decode cX6_pays 54 = .ok (.iload_n 2, 1) := by decide +kernel
theorem dX6_pays_55 : decode cX6_pays 55 = .ok (.iastore, 1) := by decide +kernel
theorem dX6_pays_56 : decode cX6_pays 56 = .ok (.iload 4, 2) := by decide +kernel
theorem dX6_pays_58 : decode cX6_pays 58 = .ok (.iload_n 3, 1) := by decide +kernel
theorem dX6_pays_59 : decode cX6_pays 59 = .ok (.if_icmp .le 7, 3) := by decide +kernel
theorem dX6_pays_62 : decode cX6_pays 62 = .ok (.iconst 1, 1) := by decide +kernel
theorem dX6_pays_63 : decode cX6_pays 63 = .ok (.goto 4, 3) := by decide +kernel
theorem dX6_pays_66 : decode cX6_pays 66 = .ok (.iconst 0, 1) := by decide +kernel
theorem dX6_pays_67 : decode cX6_pays 67 = .ok (.ireturn, 1) := by decide +kernel
theorem dX6_richest_0 : decode cX6_richest 0 = .ok (.iload_n 1, 1) := by decide +kernel
theorem dX6_richest_1 : decode cX6_richest 1 = .ok (.invokestatic 155, 3) := by decide +kernel
theorem dX6_richest_4 : decode cX6_richest 4 = .ok (.ifCond .ne 10, 3) := by decide +kernel
theorem dX6_richest_7 : decode cX6_richest 7 = .ok (.aload_n 0, 1) := by decide +kernel
theorem dX6_richest_8 : decode cX6_richest 8 = .ok (.ldc 41, 2) := by decide +kernel
theorem dX6_richest_10 : decode cX6_richest 10 = .ok (.invokevirtual 67, 3) := by decide +kernel
theorem dX6_richest_13 : decode cX6_richest 13 = .ok (.ireturn, 1) := by decide +kernel
theorem dX6_richest_14 : decode cX6_richest 14 = .ok (.aload_n 0, 1) := by decide +kernel
theorem dX6_richest_15 : decode cX6_richest 15 = .ok (.getfield 7, 3) := by decide +kernel
theorem dX6_richest_18 : decode cX6_richest 18 = .ok (.iconst 1, 1) := by decide +kernel
theorem dX6_richest_19 : decode cX6_richest 19 = .ok (.iaload, 1) := by decide +kernel
theorem dX6_richest_20 : decode cX6_richest 20 = .ok (.ifCond .ne 10, 3) := by decide +kernel
theorem dX6_richest_23 : decode cX6_richest 23 = .ok (.aload_n 0, 1) := by decide +kernel
theorem dX6_richest_24 : decode cX6_richest 24 = .ok (.ldc 161, 2) := by decide +kernel
theorem dX6_richest_26 : decode cX6_richest 26 = .ok (.invokevirtual 67, 3) := by decide +kernel
theorem dX6_richest_29 : decode cX6_richest 29 = .ok (.ireturn, 1) := by decide +kernel
theorem dX6_richest_30 : decode cX6_richest 30 = .ok (.aload_n 0, 1) := by decide +kernel
theorem dX6_richest_31 : decode cX6_richest 31 = .ok (.invokevirtual 149, 3) := by decide +kernel
theorem dX6_richest_34 : decode cX6_richest 34 = .ok (.aload_n 0, 1) := by decide +kernel
theorem dX6_richest_35 : decode cX6_richest 35 = .ok (.iload_n 1, 1) := by decide +kernel
theorem dX6_richest_36 : decode cX6_richest 36 = .ok (.invokevirtual 144, 3) := by decide +kernel
theorem dX6_richest_39 : decode cX6_richest 39 = .ok (.iconst 0, 1) := by decide +kernel
theorem dX6_richest_40 : decode cX6_richest 40 = .ok (.istore_n 2, 1) := by decide +kernel
theorem dX6_richest_41 : decode cX6_richest 41 = .ok (.iconst 1, 1) := by decide +kernel
theorem dX6_richest_42 : decode cX6_richest 42 = .ok (.istore_n 3, 1) := by decide +kernel
theorem dX6_richest_43 : decode cX6_richest 43 = .ok (.iload_n 3, 1) := by decide +kernel
theorem dX6_richest_44 : decode cX6_richest 44 = .ok (.aload_n 0, 1) := by decide +kernel
theorem dX6_richest_45 : decode cX6_richest 45 = .ok (.getfield 7, 3) := by decide +kernel
theorem dX6_richest_48 : decode cX6_richest 48 = .ok (.iconst 1, 1) := by decide +kernel
theorem dX6_richest_49 : decode cX6_richest 49 = .ok (.iaload, 1) := by decide +kernel
theorem dX6_richest_50 : decode cX6_richest 50 = .ok (.if_icmp .ge 30, 3) := by decide +kernel
theorem dX6_richest_53 : decode cX6_richest 53 = .ok (.aload_n 0, 1) := by decide +kernel
theorem dX6_richest_54 : decode cX6_richest 54 = .ok (.iload_n 3, 1) := by decide +kernel
theorem dX6_richest_55 : decode cX6_richest 55 = .ok (.iconst 2, 1) := by decide +kernel
theorem dX6_richest_56 : decode cX6_richest 56 = .ok (.invokevirtual 55, 3) := by decide +kernel
theorem dX6_richest_59 : decode cX6_richest 59 = .ok (.aload_n 0, 1) := by decide +kernel
theorem dX6_richest_60 : decode cX6_richest 60 = .ok (.iload_n 2, 1) := by decide +kernel
theorem dX6_richest_61 : decode cX6_richest 61 = .ok (.iconst 2, 1) := by decide +kernel
theorem dX6_richest_62 : decode cX6_richest 62 = .ok (.invokevirtual 55, 3) := by decide +kernel
theorem dX6_richest_65 : decode cX6_richest 65 = .ok (.if_icmp .le 7, 3) := by decide +kernel
theorem dX6_richest_68 : decode cX6_richest 68 = .ok (.iload_n 3, 1) := by decide +kernel
theorem dX6_richest_69 : decode cX6_richest 69 = .ok (.goto 4, 3) := by decide +kernel
theorem dX6_richest_72 : decode cX6_richest 72 = .ok (.iload_n 2, 1) := by decide +kernel
theorem dX6_richest_73 : decode cX6_richest 73 = .ok (.istore_n 2, 1) := by decide +kernel
theorem dX6_richest_74 : decode cX6_richest 74 = .ok (.iinc 3 1, 3) := by decide +kernel
theorem dX6_richest_77 : decode cX6_richest 77 = .ok (.goto (-34), 3) := by decide +kernel
theorem dX6_richest_80 : decode cX6_richest 80 = .ok (.aload_n 0, 1) := by decide +kernel
theorem dX6_richest_81 : decode cX6_richest 81 = .ok (.iload_n 2, 1) := by decide +kernel
theorem dX6_richest_82 : decode cX6_richest 82 = .ok (.invokevirtual 152, 3) := by decide +kernel
theorem dX6_richest_85 : decode cX6_richest 85 = .ok (.ireturn, 1) := by decide +kernel
theorem dX6_feed_0 : decode cX6_feed 0 = .ok (.iload_n 2, 1) := by decide +kernel
theorem dX6_feed_1 : decode cX6_feed 1 = .ok (.i2l, 1) := by decide +kernel
theorem dX6_feed_2 : decode cX6_feed 2 = .ok (.lconst 1, 1) := by decide +kernel
theorem dX6_feed_3 : decode cX6_feed 3 = .ok (.ldc2_w 175, 3) := by decide +kernel
theorem dX6_feed_6 : decode cX6_feed 6 = .ok (.invokestatic 46, 3) := by decide +kernel
theorem dX6_feed_9 : decode cX6_feed 9 = .ok (.ifCond .ne 10, 3) := by decide +kernel
theorem dX6_feed_12 : decode cX6_feed 12 = .ok (.aload_n 0, 1) := by decide +kernel
theorem dX6_feed_13 : decode cX6_feed 13 = .ok (.ldc 41, 2) := by decide +kernel
theorem dX6_feed_15 : decode cX6_feed 15 = .ok (.invokevirtual 67, 3) := by decide +kernel
theorem dX6_feed_18 : decode cX6_feed 18 = .ok (.ireturn, 1) := by decide +kernel
theorem dX6_feed_19 : decode cX6_feed 19 = .ok (.aload_n 0, 1) := by decide +kernel
theorem dX6_feed_20 : decode cX6_feed 20 = .ok (.getfield 177, 3) := by decide +kernel
theorem dX6_feed_23 : decode cX6_feed 23 = .ok (.iload_n 2, 1) := by decide +kernel
theorem dX6_feed_24 : decode cX6_feed 24 = .ok (.iadd, 1) := by decide +kernel
theorem dX6_feed_25 : decode cX6_feed 25 = .ok (.bipush 120, 2) := by decide +kernel
theorem dX6_feed_27 : decode cX6_feed 27 = .ok (.if_icmp .le 10, 3) := by decide +kernel
theorem dX6_feed_30 : decode cX6_feed 30 = .ok (.aload_n 0, 1) := by decide +kernel
theorem dX6_feed_31 : decode cX6_feed 31 = .ok (.ldc 106, 2) := by decide +kernel
theorem dX6_feed_33 : decode cX6_feed 33 = .ok (.invokevirtual 67, 3) := by decide +kernel
theorem dX6_feed_36 : decode cX6_feed 36 = .ok (.ireturn, 1) := by decide +kernel
theorem dX6_feed_37 : decode cX6_feed 37 = .ok (.iload_n 2, 1) := by decide +kernel
theorem dX6_feed_38 : decode cX6_feed 38 = .ok (.iconst 1, 1) := by decide +kernel
theorem dX6_feed_39 : decode cX6_feed 39 = .ok (.isub, 1) := by decide +kernel
theorem dX6_feed_40 : decode cX6_feed 40 = .ok (.istore_n 3, 1) := by decide +kernel
theorem dX6_feed_41 : decode cX6_feed 41 = .ok (.iload_n 3, 1) := by decide +kernel
theorem dX6_feed_42 : decode cX6_feed 42 = .ok (.ifCond .lt 38, 3) := by decide +kernel
theorem dX6_feed_45 : decode cX6_feed 45 = .ok (.aload_n 0, 1) := by decide +kernel
theorem dX6_feed_46 : decode cX6_feed 46 = .ok (.getfield 25, 3) := by decide +kernel
theorem dX6_feed_49 : decode cX6_feed 49 = .ok (.aload_n 0, 1) := by decide +kernel
theorem dX6_feed_50 : decode cX6_feed 50 = .ok (.getfield 177, 3) := by decide +kernel
theorem dX6_feed_53 : decode cX6_feed 53 = .ok (.iload_n 1, 1) := by decide +kernel
theorem dX6_feed_54 : decode cX6_feed 54 = .ok (.bipush 8, 2) := by decide +kernel
theorem dX6_feed_56 : decode cX6_feed 56 = .ok (.iload_n 3, 1) := by decide +kernel
theorem dX6_feed_57 : decode cX6_feed 57 = .ok (.imul, 1) := by decide +kernel
theorem dX6_feed_58 : decode cX6_feed 58 = .ok (.ishr, 1) := by decide +kernel
theorem dX6_feed_59 : decode cX6_feed 59 = .ok (.sipush 255, 3) := by decide +kernel
theorem dX6_feed_62 : decode cX6_feed 62 = .ok (.iand, 1) := by decide +kernel
theorem dX6_feed_63 : decode cX6_feed 63 = .ok (.iastore, 1) := by decide +kernel
theorem dX6_feed_64 : decode cX6_feed 64 = .ok (.aload_n 0, 1) := by decide +kernel
theorem dX6_feed_65 : decode cX6_feed 65 = .ok (.dup, 1) := by decide +kernel
theorem dX6_feed_66 : decode cX6_feed 66 = .ok (.getfield 177, 3) := by decide +kernel
theorem dX6_feed_69 : decode cX6_feed 69 = .ok (.iconst 1, 1) := by decide +kernel
theorem dX6_feed_70 : decode cX6_feed 70 = .ok (.iadd, 1) := by decide +kernel
theorem dX6_feed_71 : decode cX6_feed 71 = .ok (.putfield 177, 3) := by decide +kernel
theorem dX6_feed_74 : decode cX6_feed 74 = .ok (.iinc 3 (-1), 3) := by decide +kernel
theorem dX6_feed_77 : decode cX6_feed 77 = .ok (.goto (-36), 3) := by decide +kernel
theorem dX6_feed_80 : decode cX6_feed 80 = .ok (.aload_n 0, 1) := by decide +kernel
theorem dX6_feed_81 : decode cX6_feed 81 = .ok (.getfield 177, 3) := by decide +kernel
theorem dX6_feed_84 : decode cX6_feed 84 = .ok (.ireturn, 1) := by decide +kernel
theorem dX6_wipe_0 : decode cX6_wipe 0 = .ok (.aload_n 0, 1) := by decide +kernel
theorem dX6_wipe_1 : decode cX6_wipe 1 = .ok (.getfield 177, 3) := by decide +kernel
theorem dX6_wipe_4 : decode cX6_wipe 4 = .ok (.istore_n 1, 1) := by decide +kernel
theorem dX6_wipe_5 : decode cX6_wipe 5 = .ok (.aload_n 0, 1) := by decide +kernel
theorem dX6_wipe_6 : decode cX6_wipe 6 = .ok (.iconst 0, 1) := by decide +kernel
theorem dX6_wipe_7 : decode cX6_wipe 7 = .ok (.putfield 177, 3) := by decide +kernel
theorem dX6_wipe_10 : decode cX6_wipe 10 = .ok (.iload_n 1, 1) := by decide +kernel
theorem dX6_wipe_11 : decode cX6_wipe 11 = .ok (.ireturn, 1) := by decide +kernel
theorem dX6_byteAt_0 : decode cX6_byteAt 0 = .ok (.iload_n 1, 1) := by decide +kernel
theorem dX6_byteAt_1 : decode cX6_byteAt 1 = .ok (.aload_n 0, 1) := by decide +kernel
theorem dX6_byteAt_2 : decode cX6_byteAt 2 = .ok (.getfield 177, 3) := by decide +kernel
theorem dX6_byteAt_5 : decode cX6_byteAt 5 = .ok (.if_icmp .ge 12, 3) := by decide +kernel
theorem dX6_byteAt_8 : decode cX6_byteAt 8 = .ok (.aload_n 0, 1) := by decide +kernel
theorem dX6_byteAt_9 : decode cX6_byteAt 9 = .ok (.getfield 25, 3) := by decide +kernel
theorem dX6_byteAt_12 : decode cX6_byteAt 12 = .ok (.iload_n 1, 1) := by decide +kernel
theorem dX6_byteAt_13 : decode cX6_byteAt 13 = .ok (.iaload, 1) := by decide +kernel
theorem dX6_byteAt_14 : decode cX6_byteAt 14 = .ok (.goto 4, 3) := by decide +kernel
theorem dX6_byteAt_17 : decode cX6_byteAt 17 = .ok (.iconst (-1), 1) := by decide +kernel
theorem dX6_byteAt_18 : decode cX6_byteAt 18 = .ok (.ireturn, 1) := by decide +kernel
theorem dX6_isLetter_0 : decode cX6_isLetter 0 = .ok (.iload_n 0, 1) := by decide +kernel
theorem dX6_isLetter_1 : decode cX6_isLetter 1 = .ok (.i2l, 1) := by decide +kernel
theorem dX6_isLetter_2 : decode cX6_isLetter 2 = .ok (.ldc2_w 181, 3) := by decide +kernel
theorem dX6_isLetter_5 : decode cX6_isLetter 5 = .ok (.ldc2_w 183, 3) := by decide +kernel
theorem dX6_isLetter_8 : decode cX6_isLetter 8 = .ok (.invokestatic 46, 3) := by decide +kernel
theorem dX6_isLetter_11 : decode cX6_isLetter 11 = .ok (.ireturn, 1) := by decide +kernel
theorem dX6_isDigit_0 : decode cX6_isDigit 0 = .ok (.iload_n 0, 1) := by decide +kernel
theorem dX6_isDigit_1 : decode cX6_isDigit 1 = .ok (.i2l, 1) := by decide +kernel
theorem dX6_isDigit_2 : decode cX6_isDigit 2 = .ok (.ldc2_w 185, 3) := by decide +kernel
theorem dX6_isDigit_5 : decode cX6_isDigit 5 = .ok (.ldc2_w 187, 3) := by decide +kernel
theorem dX6_isDigit_8 : decode cX6_isDigit 8 = .ok (.invokestatic 46, 3) := by decide +kernel
theorem dX6_isDigit_11 : decode cX6_isDigit 11 = .ok (.ireturn, 1) := by decide +kernel
theorem dX6_token_0 : decode cX6_token 0 = .ok (.aload_n 0, 1) := by decide +kernel
theorem dX6_token_1 : decode cX6_token 1 = .ok (.aload_n 0, 1) := by decide +kernel
theorem dX6_token_2 : decode cX6_token 2 = .ok (.getfield 189, 3) := by decide +kernel
theorem dX6_token_5 : decode cX6_token 5 = .ok (.putfield 192, 3) := by decide +kernel
theorem dX6_token_8 : decode cX6_token 8 = .ok (.aload_n 0, 1) := by decide +kernel
theorem dX6_token_9 : decode cX6_token 9 = .ok (.aload_n 0, 1) := by decide +kernel
theorem dX6_token_10 : decode cX6_token 10 = .ok (.getfield 192, 3) := by decide +kernel
theorem dX6_token_13 : decode cX6_token 13 = .ok (.invokevirtual 195, 3) := by decide +kernel
theorem dX6_token_16 : decode cX6_token 16 = .ok (.bipush 32, 2) := by decide +kernel
theorem dX6_token_18 : decode cX6_token 18 = .ok (.if_icmp .ne 16, 3) := by decide +kernel
theorem dX6_token_21 : decode cX6_token 21 = .ok (.aload_n 0, 1) := by decide +kernel
theorem dX6_token_22 : decode cX6_token 22 = .ok (.dup, 1) := by decide +kernel
theorem dX6_token_23 : decode cX6_token 23 = .ok (.getfield 192, 3) := by decide +kernel
theorem dX6_token_26 : decode cX6_token 26 = .ok (.iconst 1, 1) := by decide +kernel
theorem dX6_token_27 : decode cX6_token 27 = .ok (.iadd, 1) := by decide +kernel
theorem dX6_token_28 : decode cX6_token 28 = .ok (.putfield 192, 3) := by decide +kernel
theorem dX6_token_31 : decode cX6_token 31 = .ok (.goto (-23), 3) := by decide +kernel
theorem dX6_token_34 : decode cX6_token 34 = .ok (.aload_n 0, 1) := by decide +kernel
theorem dX6_token_35 : decode cX6_token 35 = .ok (.aload_n 0, 1) := by decide +kernel
theorem dX6_token_36 : decode cX6_token 36 = .ok (.getfield 192, 3) := by decide +kernel
theorem dX6_token_39 : decode cX6_token 39 = .ok (.invokevirtual 195, 3) := by decide +kernel
theorem dX6_token_42 : decode cX6_token 42 = .ok (.invokestatic 198, 3) := by decide +kernel
theorem dX6_token_45 : decode cX6_token 45 = .ok (.istore_n 1, 1) := by decide +kernel
theorem dX6_token_46 : decode cX6_token 46 = .ok (.aload_n 0, 1) := by decide +kernel
theorem dX6_token_47 : decode cX6_token 47 = .ok (.aload_n 0, 1) := by decide +kernel
theorem dX6_token_48 : decode cX6_token 48 = .ok (.getfield 192, 3) := by decide +kernel
theorem dX6_token_51 : decode cX6_token 51 = .ok (.invokevirtual 195, 3) := by decide +kernel
theorem dX6_token_54 : decode cX6_token 54 = .ok (.invokestatic 201, 3) := by decide +kernel
theorem dX6_token_57 : decode cX6_token 57 = .ok (.istore_n 2, 1) := by decide +kernel
theorem dX6_token_58 : decode cX6_token 58 = .ok (.aload_n 0, 1) := by decide +kernel
theorem dX6_token_59 : decode cX6_token 59 = .ok (.aload_n 0, 1) := by decide +kernel
theorem dX6_token_60 : decode cX6_token 60 = .ok (.getfield 192, 3) := by decide +kernel
theorem dX6_token_63 : decode cX6_token 63 = .ok (.aload_n 0, 1) := by decide +kernel
theorem dX6_token_64 : decode cX6_token 64 = .ok (.getfield 177, 3) := by decide +kernel
theorem dX6_token_67 : decode cX6_token 67 = .ok (.if_icmp .ge 12, 3) := by decide +kernel
theorem dX6_token_70 : decode cX6_token 70 = .ok (.aload_n 0, 1) := by decide +kernel
theorem dX6_token_71 : decode cX6_token 71 = .ok (.getfield 192, 3) := by decide +kernel
theorem dX6_token_74 : decode cX6_token 74 = .ok (.iconst 1, 1) := by decide +kernel
theorem dX6_token_75 : decode cX6_token 75 = .ok (.iadd, 1) := by decide +kernel
theorem dX6_token_76 : decode cX6_token 76 = .ok (.goto 7, 3) := by decide +kernel
theorem dX6_token_79 : decode cX6_token 79 = .ok (.aload_n 0, 1) := by decide +kernel
theorem dX6_token_80 : decode cX6_token 80 = .ok (.getfield 192, 3) := by decide +kernel
theorem dX6_token_83 : decode cX6_token 83 = .ok (.putfield 189, 3) := by decide +kernel
theorem dX6_token_86 : decode cX6_token 86 = .ok (.iload_n 1, 1) := by decide +kernel
theorem dX6_token_87 : decode cX6_token 87 = .ok (.ifCond .eq 17, 3) := by decide +kernel
theorem dX6_token_90 : decode cX6_token 90 = .ok (.aload_n 0, 1) := by decide +kernel
theorem dX6_token_91 : decode cX6_token 91 = .ok (.aload_n 0, 1) := by decide +kernel
theorem dX6_token_92 : decode cX6_token 92 = .ok (.getfield 189, 3) := by decide +kernel
theorem dX6_token_95 : decode cX6_token 95 = .ok (.invokevirtual 195, 3) := by decide +kernel
theorem dX6_token_98 : decode cX6_token 98 = .ok (.invokestatic 198, 3) := by decide +kernel
theorem dX6_token_101 : decode cX6_token 101 = .ok (.ifCond .ne 21, 3) := by decide +kernel
theorem dX6_token_104 : decode cX6_token 104 = .ok (.iload_n 2, 1) := by decide +kernel
theorem dX6_token_105 : decode cX6_token 105 = .ok (.ifCond .eq 30, 3) := by decide +kernel
theorem dX6_token_108 : decode cX6_token 108 = .ok (.aload_n 0, 1) := by decide +kernel
theorem dX6_token_109 : decode cX6_token 109 = .ok (.aload_n 0, 1) := by decide +kernel
theorem dX6_token_110 : decode cX6_token 110 = .ok (.getfield 189, 3) := by decide +kernel
theorem dX6_token_113 : decode cX6_token 113 = .ok (.invokevirtual 195, 3) := by decide +kernel
theorem dX6_token_116 : decode cX6_token 116 = .ok (.invokestatic 201, 3) := by decide +kernel
theorem dX6_token_119 : decode cX6_token 119 = .ok (.ifCond .eq 16, 3) := by decide +kernel
theorem dX6_token_122 : decode cX6_token 122 = .ok (.aload_n 0, 1) := by decide +kernel
theorem dX6_token_123 : decode cX6_token 123 = .ok (.dup, 1) := by decide +kernel
theorem dX6_token_124 : decode cX6_token 124 = .ok (.getfield 189, 3) := by decide +kernel
theorem dX6_token_127 : decode cX6_token 127 = .ok (.iconst 1, 1) := by decide +kernel
theorem dX6_token_128 : decode cX6_token 128 = .ok (.iadd, 1) := by decide +kernel
theorem dX6_token_129 : decode cX6_token 129 = .ok (.putfield 189, 3) := by decide +kernel
theorem dX6_token_132 : decode cX6_token 132 = .ok (.goto (-46), 3) := by decide +kernel
theorem dX6_token_135 : decode cX6_token 135 = .ok (.return_, 1) := by decide +kernel
theorem dX6_must_0 : decode cX6_must 0 = .ok (.aload_n 0, 1) := by decide +kernel
theorem dX6_must_1 : decode cX6_must 1 = .ok (.aload_n 0, 1) := by decide +kernel
theorem dX6_must_2 : decode cX6_must 2 = .ok (.getfield 204, 3) := by decide +kernel
theorem dX6_must_5 : decode cX6_must 5 = .ok (.ifCond .ne 7, 3) := by decide +kernel
theorem dX6_must_8 : decode cX6_must 8 = .ok (.iload_n 1, 1) := by decide +kernel
theorem dX6_must_9 : decode cX6_must 9 = .ok (.ifCond .ne 7, 3) := by decide +kernel
theorem dX6_must_12 : decode cX6_must 12 = .ok (.iconst 1, 1) := by decide +kernel
theorem dX6_must_13 : decode cX6_must 13 = .ok (.goto 4, 3) := by decide +kernel
theorem dX6_must_16 : decode cX6_must 16 = .ok (.iconst 0, 1) := by decide +kernel
theorem dX6_must_17 : decode cX6_must 17 = .ok (.putfield 204, 3) := by decide +kernel
theorem dX6_must_20 : decode cX6_must 20 = .ok (.aload_n 0, 1) := by decide +kernel
theorem dX6_must_21 : decode cX6_must 21 = .ok (.getfield 204, 3) := by decide +kernel
theorem dX6_must_24 : decode cX6_must 24 = .ok (.ifCond .ne 7, 3) := by decide +kernel
theorem dX6_must_27 : decode cX6_must 27 = .ok (.aload_n 0, 1) := by decide +kernel
theorem dX6_must_28 : decode cX6_must 28 = .ok (.invokevirtual 208, 3) := by decide +kernel
theorem dX6_must_31 : decode cX6_must 31 = .ok (.return_, 1) := by decide +kernel
theorem dX6_word_0 : decode cX6_word 0 = .ok (.lconst 0, 1) := by decide +kernel
theorem dX6_word_1 : decode cX6_word 1 = .ok (.lstore_n 1, 1) := by decide +kernel
theorem dX6_word_2 : decode cX6_word 2 = .ok (.aload_n 0, 1) := by decide +kernel
theorem dX6_word_3 : decode cX6_word 3 = .ok (.getfield 192, 3) := by decide +kernel
theorem dX6_word_6 : decode cX6_word 6 = .ok (.istore_n 3, 1) := by decide +kernel
theorem dX6_word_7 : decode cX6_word 7 = .ok (.iload_n 3, 1) := by decide +kernel
theorem dX6_word_8 : decode cX6_word 8 = .ok (.aload_n 0, 1) := by decide +kernel
theorem dX6_word_9 : decode cX6_word 9 = .ok (.getfield 189, 3) := by decide +kernel
theorem dX6_word_12 : decode cX6_word 12 = .ok (.if_icmp .ge 38, 3) := by decide +kernel
theorem dX6_word_15 : decode cX6_word 15 = .ok (.lload_n 1, 1) := by decide +kernel
theorem dX6_word_16 : decode cX6_word 16 = .ok (.ldc2_w 211, 3) := by decide +kernel
theorem dX6_word_19 : decode cX6_word 19 = .ok (.lcmp, 1) := by decide +kernel
theorem dX6_word_20 : decode cX6_word 20 = .ok (.ifCond .le 7, 3) := by decide +kernel
theorem dX6_word_23 : decode cX6_word 23 = .ok (.lload_n 1, 1) := by decide +kernel
theorem dX6_word_24 : decode cX6_word 24 = .ok (.goto 19, 3) := by decide +kernel
theorem dX6_word_27 : decode cX6_word 27 = .ok (.ldc2_w 213, 3) := by decide +kernel
theorem dX6_word_30 : decode cX6_word 30 = .ok (.lload_n 1, 1) := by decide +kernel
theorem dX6_word_31 : decode cX6_word 31 = .ok (.lmul, 1) := by decide +kernel
theorem dX6_word_32 : decode cX6_word 32 = .ok (.aload_n 0, 1) := by decide +kernel
theorem dX6_word_33 : decode cX6_word 33 = .ok (.getfield 25, 3) := by decide +kernel
theorem dX6_word_36 : decode cX6_word 36 = .ok (.iload_n 3, 1) := by decide +kernel
theorem dX6_word_37 : decode cX6_word 37 = .ok (.iaload, 1) := by decide +kernel
theorem dX6_word_38 : decode cX6_word 38 = .ok (.bipush 96, 2) := by decide +kernel
theorem dX6_word_40 : decode cX6_word 40 = .ok (.isub, 1) := by decide +kernel
theorem dX6_word_41 : decode cX6_word 41 = .ok (.i2l, 1) := by decide +kernel
theorem dX6_word_42 : decode cX6_word 42 = .ok (.ladd, 1) := by decide +kernel
theorem dX6_word_43 : decode cX6_word 43 = .ok (.lstore_n 1, 1) := by decide +kernel
theorem dX6_word_44 : decode cX6_word 44 = .ok (.iinc 3 1, 3) := by decide +kernel
theorem dX6_word_47 : decode cX6_word 47 = .ok (.goto (-40), 3) := by decide +kernel
theorem dX6_word_50 : decode cX6_word 50 = .ok (.aload_n 0, 1) := by decide +kernel
theorem dX6_word_51 : decode cX6_word 51 = .ok (.getfield 204, 3) := by decide +kernel
theorem dX6_word_54 : decode cX6_word 54 = .ok (.ifCond .ne 17, 3) := by decide +kernel
theorem dX6_word_57 : decode cX6_word 57 = .ok (.aload_n 0, 1) := by decide +kernel
theorem dX6_word_58 : decode cX6_word 58 = .ok (.aload_n 0, 1) := by decide +kernel
theorem dX6_word_59 : decode cX6_word 59 = .ok (.getfield 192, 3) := by decide +kernel
theorem dX6_word_62 : decode cX6_word 62 = .ok (.invokevirtual 195, 3) := by decide +kernel
theorem dX6_word_65 : decode cX6_word 65 = .ok (.invokestatic 198, 3) := by decide +kernel
theorem dX6_word_68 : decode cX6_word 68 = .ok (.ifCond .ne 7, 3) := by decide +kernel
theorem dX6_word_71 : decode cX6_word 71 = .ok (.lconst 0, 1) := by decide +kernel
theorem dX6_word_72 : decode cX6_word 72 = .ok (.goto 4, 3) := by decide +kernel
theorem dX6_word_75 : decode cX6_word 75 = .ok (.lload_n 1, 1) := by decide +kernel
theorem dX6_word_76 : decode cX6_word 76 = .ok (.lreturn, 1) := by decide +kernel
theorem dX6_number_0 : decode cX6_number 0 = .ok (.aload_n 0, 1) := by decide +kernel
theorem dX6_number_1 : decode cX6_number 1 = .ok (.getfield 204, 3) := by decide +kernel
theorem dX6_number_4 : decode cX6_number 4 = .ok (.ifCond .eq 4, 3) := by decide +kernel
theorem dX6_number_7 : decode cX6_number 7 = .ok (.return_, 1) := by decide +kernel
theorem dX6_number_8 : decode cX6_number 8 = .ok (.aload_n 0, 1) := by decide +kernel
theorem dX6_number_9 : decode cX6_number 9 = .ok (.aload_n 0, 1) := by decide +kernel
theorem dX6_number_10 : decode cX6_number 10 = .ok (.getfield 192, 3) := by decide +kernel
theorem dX6_number_13 : decode cX6_number 13 = .ok (.invokevirtual 195, 3) := by decide +kernel
theorem dX6_number_16 : decode cX6_number 16 = .ok (.invokestatic 201, 3) := by decide +kernel
theorem dX6_number_19 : decode cX6_number 19 = .ok (.istore_n 3, 1) := by decide +kernel
theorem dX6_number_20 : decode cX6_number 20 = .ok (.iconst 0, 1) := by decide +kernel
theorem dX6_number_21 : decode cX6_number 21 = .ok (.istore 4, 2) := by decide +kernel
theorem dX6_number_23 : decode cX6_number 23 = .ok (.aload_n 0, 1) := by decide +kernel
theorem dX6_number_24 : decode cX6_number 24 = .ok (.getfield 192, 3) := by decide +kernel
theorem dX6_number_27 : decode cX6_number 27 = .ok (.istore 5, 2) := by decide +kernel
theorem dX6_number_29 : decode cX6_number 29 = .ok (.iload 5, 2) := by decide +kernel
theorem dX6_number_31 : decode cX6_number 31 = .ok (.aload_n 0, 1) := by decide +kernel
theorem dX6_number_32 : decode cX6_number 32 = .ok (.getfield 189, 3) := by decide +kernel
theorem dX6_number_35 : decode cX6_number 35 = .ok (.if_icmp .ge 44, 3) := by decide +kernel
theorem dX6_number_38 : decode cX6_number 38 = .ok (.iload_n 3, 1) := by decide +kernel
theorem dX6_number_39 : decode cX6_number 39 = .ok (.ifCond .eq 40, 3) := by decide +kernel
theorem dX6_number_42 : decode cX6_number 42 = .ok (.iload 4, 2) := by decide +kernel
theorem dX6_number_44 : decode cX6_number 44 = .ok (.sipush 9999, 3) := by decide +kernel
theorem dX6_number_47 : decode cX6_number 47 = .ok (.if_icmp .le 8, 3) := by decide +kernel
theorem dX6_number_50 : decode cX6_number 50 = .ok (.iload 4, 2) := by decide +kernel
theorem dX6_number_52 : decode cX6_number 52 = .ok (.goto 19, 3) := by decide +kernel
theorem dX6_number_55 : decode cX6_number 55 = .ok (.bipush 10, 2) := by decide +kernel
theorem dX6_number_57 : decode cX6_number 57 = .ok (.iload 4, 2) := by decide +kernel
theorem dX6_number_59 : decode cX6_number 59 = .ok (.imul, 1) := by decide +kernel
theorem dX6_number_60 : decode cX6_number 60 = .ok (.aload_n 0, 1) := by decide +kernel
theorem dX6_number_61 : decode cX6_number 61 = .ok (.getfield 25, 3) := by decide +kernel
theorem dX6_number_64 : decode cX6_number 64 = .ok (.iload 5, 2) := by decide +kernel
theorem dX6_number_66 : decode cX6_number 66 = .ok (.iaload, 1) := by decide +kernel
theorem dX6_number_67 : decode cX6_number 67 = .ok (.iadd, 1) := by decide +kernel
theorem dX6_number_68 : decode cX6_number 68 = .ok (.bipush 48, 2) := by decide +kernel
theorem dX6_number_70 : decode cX6_number 70 = .ok (.isub, 1) := by decide +kernel
theorem dX6_number_71 : decode cX6_number 71 = .ok (.istore 4, 2) := by decide +kernel
theorem dX6_number_73 : decode cX6_number 73 = .ok (.iinc 5 1, 3) := by decide +kernel
theorem dX6_number_76 : decode cX6_number 76 = .ok (.goto (-47), 3) := by decide +kernel
theorem dX6_number_79 : decode cX6_number 79 = .ok (.aload_n 0, 1) := by decide +kernel
theorem dX6_number_80 : decode cX6_number 80 = .ok (.iload 4, 2) := by decide +kernel
theorem dX6_number_82 : decode cX6_number 82 = .ok (.putfield 215, 3) := by decide +kernel
theorem dX6_number_85 : decode cX6_number 85 = .ok (.aload_n 0, 1) := by decide +kernel
theorem dX6_number_86 : decode cX6_number 86 = .ok (.iload_n 3, 1) := by decide +kernel
theorem dX6_number_87 : decode cX6_number 87 = .ok (.ifCond .eq 20, 3) := by decide +kernel
theorem dX6_number_90 : decode cX6_number 90 = .ok (.iload 4, 2) := by decide +kernel
theorem dX6_number_92 : decode cX6_number 92 = .ok (.i2l, 1) := by decide +kernel
theorem dX6_number_93 : decode cX6_number 93 = .ok (.iload_n 1, 1) := by decide +kernel
theorem dX6_number_94 : decode cX6_number 94 = .ok (.i2l, 1) := by decide +kernel
theorem dX6_number_95 : decode cX6_number 95 = .ok (.iload_n 2, 1) := by decide +kernel
theorem dX6_number_96 : decode cX6_number 96 = .ok (.i2l, 1) := by decide +kernel
theorem dX6_number_97 : decode cX6_number 97 = .ok (.invokestatic 46, 3) := by decide +kernel
theorem dX6_number_100 : decode cX6_number 100 = .ok (.ifCond .eq 7, 3) := by decide +kernel
theorem dX6_number_103 : decode cX6_number 103 = .ok (.iconst 1, 1) := by decide +kernel
theorem dX6_number_104 : decode cX6_number 104 = .ok (.goto 4, 3) := by decide +kernel
theorem dX6_number_107 : decode cX6_number 107 = .ok (.iconst 0, 1) := by decide +kernel
theorem dX6_number_108 : decode cX6_number 108 = .ok (.invokevirtual 218, 3) := by decide +kernel
theorem dX6_number_111 : decode cX6_number 111 = .ok (.return_, 1) := by decide +kernel
theorem dX6_kindHere_0 : decode cX6_kindHere 0 = .ok (.aload_n 0, 1) := by decide +kernel
theorem dX6_kindHere_1 : decode cX6_kindHere 1 = .ok (.invokevirtual 222, 3) := by decide +kernel
theorem dX6_kindHere_4 : decode cX6_kindHere 4 = .ok (.lstore_n 1, 1) := by decide +kernel
theorem dX6_kindHere_5 : decode cX6_kindHere 5 = .ok (.lload_n 1, 1) := by decide +kernel
theorem dX6_kindHere_6 : decode cX6_kindHere 6 = .ok (.ldc2_w 226, 3) := by decide +kernel
theorem dX6_kindHere_9 : decode cX6_kindHere 9 = .ok (.lcmp, 1) := by decide +kernel
theorem dX6_kindHere_10 : decode cX6_kindHere 10 = .ok (.ifCond .ne 7, 3) := by decide +kernel
theorem dX6_kindHere_13 : decode cX6_kindHere 13 = .ok (.iconst 0, 1) := by decide +kernel
theorem dX6_kindHere_14 : decode cX6_kindHere 14 = .ok (.goto 64, 3) := by decide +kernel
theorem dX6_kindHere_17 : decode cX6_kindHere 17 = .ok (.lload_n 1, 1) := by decide +kernel
theorem dX6_kindHere_18 : decode cX6_kindHere 18 = .ok (.ldc2_w 228, 3) := by decide +kernel
theorem dX6_kindHere_21 : decode cX6_kindHere 21 = .ok (.lcmp, 1) := by decide +kernel
theorem dX6_kindHere_22 : decode cX6_kindHere 22 = .ok (.ifCond .ne 7, 3) := by decide +kernel
theorem dX6_kindHere_25 : decode cX6_kindHere 25 = .ok (.iconst 1, 1) := by decide +kernel
theorem dX6_kindHere_26 : decode cX6_kindHere 26 = .ok (.goto 52, 3) := by decide +kernel
theorem dX6_kindHere_29 : decode cX6_kindHere 29 = .ok (.lload_n 1, 1) := by decide +kernel
theorem dX6_kindHere_30 : decode cX6_kindHere 30 = .ok (.ldc2_w 230, 3) := by decide +kernel
theorem dX6_kindHere_33 : decode cX6_kindHere 33 = .ok (.lcmp, 1) := by decide +kernel
theorem dX6_kindHere_34 : decode cX6_kindHere 34 = .ok (.ifCond .ne 7, 3) := by decide +kernel
theorem dX6_kindHere_37 : decode cX6_kindHere 37 = .ok (.iconst 2, 1) := by decide +kernel
theorem dX6_kindHere_38 : decode cX6_kindHere 38 = .ok (.goto 40, 3) := by decide +kernel
theorem dX6_kindHere_41 : decode cX6_kindHere 41 = .ok (.lload_n 1, 1) := by decide +kernel
theorem dX6_kindHere_42 : decode cX6_kindHere 42 = .ok (.ldc2_w 232, 3) := by decide +kernel
theorem dX6_kindHere_45 : decode cX6_kindHere 45 = .ok (.lcmp, 1) := by decide +kernel
theorem dX6_kindHere_46 : decode cX6_kindHere 46 = .ok (.ifCond .ne 7, 3) := by decide +kernel
theorem dX6_kindHere_49 : decode cX6_kindHere 49 = .ok (.iconst 3, 1) := by decide +kernel
theorem dX6_kindHere_50 : decode cX6_kindHere 50 = .ok (.goto 28, 3) := by decide +kernel
theorem dX6_kindHere_53 : decode cX6_kindHere 53 = .ok (.lload_n 1, 1) := by decide +kernel
theorem dX6_kindHere_54 : decode cX6_kindHere 54 = .ok (.ldc2_w 234, 3) := by decide +kernel
theorem dX6_kindHere_57 : decode cX6_kindHere 57 = .ok (.lcmp, 1) := by decide +kernel
theorem dX6_kindHere_58 : decode cX6_kindHere 58 = .ok (.ifCond .ne 7, 3) := by decide +kernel
theorem dX6_kindHere_61 : decode cX6_kindHere 61 = .ok (.iconst 4, 1) := by decide +kernel
theorem dX6_kindHere_62 : decode cX6_kindHere 62 = .ok (.goto 16, 3) := by decide +kernel
theorem dX6_kindHere_65 : decode cX6_kindHere 65 = .ok (.lload_n 1, 1) := by decide +kernel
theorem dX6_kindHere_66 : decode cX6_kindHere 66 = .ok (.ldc2_w 236, 3) := by decide +kernel
theorem dX6_kindHere_69 : decode cX6_kindHere 69 = .ok (.lcmp, 1) := by decide +kernel
theorem dX6_kindHere_70 : decode cX6_kindHere 70 = .ok (.ifCond .ne 7, 3) := by decide +kernel
theorem dX6_kindHere_73 : decode cX6_kindHere 73 = .ok (.iconst 5, 1) := by decide +kernel
theorem dX6_kindHere_74 : decode cX6_kindHere 74 = .ok (.goto 4, 3) := by decide +kernel
theorem dX6_kindHere_77 : decode cX6_kindHere 77 = .ok (.iconst (-1), 1) := by decide +kernel
theorem dX6_kindHere_78 : decode cX6_kindHere 78 = .ok (.ireturn, 1) := by decide +kernel
theorem dX6_sideHere_0 : decode cX6_sideHere 0 = .ok (.aload_n 0, 1) := by decide +kernel
theorem dX6_sideHere_1 : decode cX6_sideHere 1 = .ok (.invokevirtual 222, 3) := by decide +kernel
theorem dX6_sideHere_4 : decode cX6_sideHere 4 = .ok (.lstore_n 1, 1) := by decide +kernel
theorem dX6_sideHere_5 : decode cX6_sideHere 5 = .ok (.lload_n 1, 1) := by decide +kernel
theorem dX6_sideHere_6 : decode cX6_sideHere 6 = .ok (.ldc2_w 238, 3) := by decide +kernel
theorem dX6_sideHere_9 : decode cX6_sideHere 9 = .ok (.lcmp, 1) := by decide +kernel
theorem dX6_sideHere_10 : decode cX6_sideHere 10 = .ok (.ifCond .ne 7, 3) := by decide +kernel
theorem dX6_sideHere_13 : decode cX6_sideHere 13 = .ok (.iconst 0, 1) := by decide +kernel
theorem dX6_sideHere_14 : decode cX6_sideHere 14 = .ok (.goto 16, 3) := by decide +kernel
theorem dX6_sideHere_17 : decode cX6_sideHere 17 = .ok (.lload_n 1, 1) := by decide +kernel
theorem dX6_sideHere_18 : decode cX6_sideHere 18 = .ok (.ldc2_w 240, 3) := by decide +kernel
theorem dX6_sideHere_21 : decode cX6_sideHere 21 = .ok (.lcmp, 1) := by decide +kernel
theorem dX6_sideHere_22 : decode cX6_sideHere 22 = .ok (.ifCond .ne 7, 3) := by decide +kernel
theorem dX6_sideHere_25 : decode cX6_sideHere 25 = .ok (.iconst 1, 1) := by decide +kernel
theorem dX6_sideHere_26 : decode cX6_sideHere 26 = .ok (.goto 4, 3) := by decide +kernel
theorem dX6_sideHere_29 : decode cX6_sideHere 29 = .ok (.iconst (-1), 1) := by decide +kernel
theorem dX6_sideHere_30 : decode cX6_sideHere 30 = .ok (.ireturn, 1) := by decide +kernel
theorem dX6_partItem_0 : decode cX6_partItem 0 = .ok (.aload_n 0, 1) := by decide +kernel
theorem dX6_partItem_1 : decode cX6_partItem 1 = .ok (.invokevirtual 222, 3) := by decide +kernel
theorem dX6_partItem_4 : decode cX6_partItem 4 = .ok (.lload_n 1, 1) := by decide +kernel
theorem dX6_partItem_5 : decode cX6_partItem 5 = .ok (.lcmp, 1) := by decide +kernel
theorem dX6_partItem_6 : decode cX6_partItem 6 = .ok (.ifCond .ne 41, 3) := by decide +kernel
theorem dX6_partItem_9 : decode cX6_partItem 9 = .ok (.aload_n 0, 1) := by decide +kernel
theorem dX6_partItem_10 : decode cX6_partItem 10 = .ok (.iconst 1, 1) := by decide +kernel
theorem dX6_partItem_11 : decode cX6_partItem 11 = .ok (.invokevirtual 218, 3) := by decide +kernel
theorem dX6_partItem_14 : decode cX6_partItem 14 = .ok (.aload_n 0, 1) := by decide +kernel
theorem dX6_partItem_15 : decode cX6_partItem 15 = .ok (.iconst 0, 1) := by decide +kernel
theorem dX6_partItem_16 : decode cX6_partItem 16 = .ok (.iload 4, 2) := by decide +kernel
theorem dX6_partItem_18 : decode cX6_partItem 18 = .ok (.invokevirtual 242, 3) := by decide +kernel
theorem dX6_partItem_21 : decode cX6_partItem 21 = .ok (.aload_n 0, 1) := by decide +kernel
theorem dX6_partItem_22 : decode cX6_partItem 22 = .ok (.getfield 7, 3) := by decide +kernel
theorem dX6_partItem_25 : decode cX6_partItem 25 = .ok (.iload_n 3, 1) := by decide +kernel
theorem dX6_partItem_26 : decode cX6_partItem 26 = .ok (.aload_n 0, 1) := by decide +kernel
theorem dX6_partItem_27 : decode cX6_partItem 27 = .ok (.getfield 204, 3) := by decide +kernel
theorem dX6_partItem_30 : decode cX6_partItem 30 = .ok (.ifCond .eq 12, 3) := by decide +kernel
theorem dX6_partItem_33 : decode cX6_partItem 33 = .ok (.aload_n 0, 1) := by decide +kernel
theorem dX6_partItem_34 : decode cX6_partItem 34 = .ok (.getfield 7, 3) := by decide +kernel
theorem dX6_partItem_37 : decode cX6_partItem 37 = .ok (.iload_n 3, 1) := by decide +kernel
theorem dX6_partItem_38 : decode cX6_partItem 38 = .ok (.iaload, 1) := by decide +kernel
theorem dX6_partItem_39 : decode cX6_partItem 39 = .ok (.goto 7, 3) := by decide +kernel
theorem dX6_partItem_42 : decode cX6_partItem 42 = .ok (.aload_n 0, 1) := by decide +kernel
theorem dX6_partItem_43 : decode cX6_partItem 43 = .ok (.getfield 215, 3) := by decide +kernel
theorem dX6_partItem_46 : decode cX6_partItem 46 = .ok (.iastore, 1) := by decide +kernel
theorem dX6_partItem_47 : decode cX6_partItem 47 = .ok (.return_, 1) := by decide +kernel
theorem dX6_personItem_0 : decode cX6_personItem 0 = .ok (.aload_n 0, 1) := by decide +kernel
theorem dX6_personItem_1 : decode cX6_personItem 1 = .ok (.aload_n 0, 1) := by decide +kernel
theorem dX6_personItem_2 : decode cX6_personItem 2 = .ok (.getfield 7, 3) := by decide +kernel
theorem dX6_personItem_5 : decode cX6_personItem 5 = .ok (.iconst 1, 1) := by decide +kernel
theorem dX6_personItem_6 : decode cX6_personItem 6 = .ok (.iaload, 1) := by decide +kernel
theorem dX6_personItem_7 : decode cX6_personItem 7 = .ok (.bipush 8, 2) := by decide +kernel
theorem dX6_personItem_9 : decode cX6_personItem 9 = .ok (.if_icmp .ge 7, 3) := by decide +kernel
theorem dX6_personItem_12 : decode cX6_personItem 12 = .ok (.iconst 1, 1) := by decide +kernel
theorem dX6_personItem_13 : decode cX6_personItem 13 = .ok (.goto 4, 3) := by decide +kernel
theorem dX6_personItem_16 : decode cX6_personItem 16 = .ok (.iconst 0, 1) := by decide +kernel
theorem dX6_personItem_17 : decode cX6_personItem 17 = .ok (.invokevirtual 218, 3) := by decide +kernel
theorem dX6_personItem_20 : decode cX6_personItem 20 = .ok (.aload_n 0, 1) := by decide +kernel
theorem dX6_personItem_21 : decode cX6_personItem 21 = .ok (.getfield 204, 3) := by decide +kernel
theorem dX6_personItem_24 : decode cX6_personItem 24 = .ok (.ifCond .eq 4, 3) := by decide +kernel
theorem dX6_personItem_27 : decode cX6_personItem 27 = .ok (.return_, 1) := by decide +kernel
theorem dX6_personItem_28 : decode cX6_personItem 28 = .ok (.aload_n 0, 1) := by decide +kernel
theorem dX6_personItem_29 : decode cX6_personItem 29 = .ok (.iload_n 1, 1) := by decide +kernel
theorem dX6_personItem_30 : decode cX6_personItem 30 = .ok (.invokevirtual 107, 3) := by decide +kernel
theorem dX6_personItem_33 : decode cX6_personItem 33 = .ok (.istore_n 2, 1) := by decide +kernel
theorem dX6_personItem_34 : decode cX6_personItem 34 = .ok (.aload_n 0, 1) := by decide +kernel
theorem dX6_personItem_35 : decode cX6_personItem 35 = .ok (.ldc2_w 245, 3) := by decide +kernel
theorem dX6_personItem_38 : decode cX6_personItem 38 = .ok (.iload_n 2, 1) := by decide +kernel
theorem dX6_personItem_39 : decode cX6_personItem 39 = .ok (.iconst 1, 1) := by decide +kernel
theorem dX6_personItem_40 : decode cX6_personItem 40 = .ok (.invokestatic 42, 3) := by decide +kernel
theorem dX6_personItem_43 : decode cX6_personItem 43 = .ok (.bipush 63, 2) := by decide +kernel
theorem dX6_personItem_45 : decode cX6_personItem 45 = .ok (.invokevirtual 247, 3) := by decide +kernel
theorem dX6_personItem_48 : decode cX6_personItem 48 = .ok (.aload_n 0, 1) := by decide +kernel
theorem dX6_personItem_49 : decode cX6_personItem 49 = .ok (.ldc2_w 251, 3) := by decide +kernel
theorem dX6_personItem_52 : decode cX6_personItem 52 = .ok (.iload_n 2, 1) := by decide +kernel
theorem dX6_personItem_53 : decode cX6_personItem 53 = .ok (.iconst 2, 1) := by decide +kernel
theorem dX6_personItem_54 : decode cX6_personItem 54 = .ok (.invokestatic 42, 3) := by decide +kernel
theorem dX6_personItem_57 : decode cX6_personItem 57 = .ok (.sipush 9999, 3) := by decide +kernel
theorem dX6_personItem_60 : decode cX6_personItem 60 = .ok (.invokevirtual 247, 3) := by decide +kernel
theorem dX6_personItem_63 : decode cX6_personItem 63 = .ok (.return_, 1) := by decide +kernel
theorem dX6_sideItem_0 : decode cX6_sideItem 0 = .ok (.aload_n 0, 1) := by decide +kernel
theorem dX6_sideItem_1 : decode cX6_sideItem 1 = .ok (.iconst 1, 1) := by decide +kernel
theorem dX6_sideItem_2 : decode cX6_sideItem 2 = .ok (.invokevirtual 218, 3) := by decide +kernel
theorem dX6_sideItem_5 : decode cX6_sideItem 5 = .ok (.aload_n 0, 1) := by decide +kernel
theorem dX6_sideItem_6 : decode cX6_sideItem 6 = .ok (.iconst 0, 1) := by decide +kernel
theorem dX6_sideItem_7 : decode cX6_sideItem 7 = .ok (.iconst 5, 1) := by decide +kernel
theorem dX6_sideItem_8 : decode cX6_sideItem 8 = .ok (.invokevirtual 242, 3) := by decide +kernel
theorem dX6_sideItem_11 : decode cX6_sideItem 11 = .ok (.aload_n 0, 1) := by decide +kernel
theorem dX6_sideItem_12 : decode cX6_sideItem 12 = .ok (.getfield 215, 3) := by decide +kernel
theorem dX6_sideItem_15 : decode cX6_sideItem 15 = .ok (.istore_n 2, 1) := by decide +kernel
theorem dX6_sideItem_16 : decode cX6_sideItem 16 = .ok (.aload_n 0, 1) := by decide +kernel
theorem dX6_sideItem_17 : decode cX6_sideItem 17 = .ok (.iconst 0, 1) := by decide +kernel
theorem dX6_sideItem_18 : decode cX6_sideItem 18 = .ok (.sipush 9999, 3) := by decide +kernel
theorem dX6_sideItem_21 : decode cX6_sideItem 21 = .ok (.invokevirtual 242, 3) := by decide +kernel
theorem dX6_sideItem_24 : decode cX6_sideItem 24 = .ok (.aload_n 0, 1) := by decide +kernel
theorem dX6_sideItem_25 : decode cX6_sideItem 25 = .ok (.getfield 204, 3) := by decide +kernel
theorem dX6_sideItem_28 : decode cX6_sideItem 28 = .ok (.ifCond .ne 17, 3) := by decide +kernel
theorem dX6_sideItem_31 : decode cX6_sideItem 31 = .ok (.aload_n 0, 1) := by decide +kernel
theorem dX6_sideItem_32 : decode cX6_sideItem 32 = .ok (.getfield 7, 3) := by decide +kernel
theorem dX6_sideItem_35 : decode cX6_sideItem 35 = .ok (.iload_n 2, 1) := by decide +kernel
theorem dX6_sideItem_36 : decode cX6_sideItem 36 = .ok (.iload_n 1, 1) := by decide +kernel
theorem dX6_sideItem_37 : decode cX6_sideItem 37 = .ok (.invokestatic 52, 3) := by decide +kernel
theorem dX6_sideItem_40 : decode cX6_sideItem 40 = .ok (.aload_n 0, 1) := by decide +kernel
theorem dX6_sideItem_41 : decode cX6_sideItem 41 = .ok (.getfield 215, 3) := by decide +kernel
theorem dX6_sideItem_44 : decode cX6_sideItem 44 = .ok (.iastore, 1) := by decide +kernel
theorem dX6_sideItem_45 : decode cX6_sideItem 45 = .ok (.return_, 1) := by decide +kernel
theorem dX6_bribeItem_0 : decode cX6_bribeItem 0 = .ok (.aload_n 0, 1) := by decide +kernel
theorem dX6_bribeItem_1 : decode cX6_bribeItem 1 = .ok (.iconst 1, 1) := by decide +kernel
theorem dX6_bribeItem_2 : decode cX6_bribeItem 2 = .ok (.invokevirtual 218, 3) := by decide +kernel
theorem dX6_bribeItem_5 : decode cX6_bribeItem 5 = .ok (.aload_n 0, 1) := by decide +kernel
theorem dX6_bribeItem_6 : decode cX6_bribeItem 6 = .ok (.invokevirtual 253, 3) := by decide +kernel
theorem dX6_bribeItem_9 : decode cX6_bribeItem 9 = .ok (.istore_n 1, 1) := by decide +kernel
theorem dX6_bribeItem_10 : decode cX6_bribeItem 10 = .ok (.aload_n 0, 1) := by decide +kernel
theorem dX6_bribeItem_11 : decode cX6_bribeItem 11 = .ok (.iload_n 1, 1) := by decide +kernel
theorem dX6_bribeItem_12 : decode cX6_bribeItem 12 = .ok (.ifCond .lt 7, 3) := by decide +kernel
theorem dX6_bribeItem_15 : decode cX6_bribeItem 15 = .ok (.iconst 1, 1) := by decide +kernel
theorem dX6_bribeItem_16 : decode cX6_bribeItem 16 = .ok (.goto 4, 3) := by decide +kernel
theorem dX6_bribeItem_19 : decode cX6_bribeItem 19 = .ok (.iconst 0, 1) := by decide +kernel
theorem dX6_bribeItem_20 : decode cX6_bribeItem 20 = .ok (.invokevirtual 218, 3) := by decide +kernel
theorem dX6_bribeItem_23 : decode cX6_bribeItem 23 = .ok (.aload_n 0, 1) := by decide +kernel
theorem dX6_bribeItem_24 : decode cX6_bribeItem 24 = .ok (.getfield 7, 3) := by decide +kernel
theorem dX6_bribeItem_27 : decode cX6_bribeItem 27 = .ok (.iconst 3, 1) := by decide +kernel
theorem dX6_bribeItem_28 : decode cX6_bribeItem 28 = .ok (.aload_n 0, 1) := by decide +kernel
theorem dX6_bribeItem_29 : decode cX6_bribeItem 29 = .ok (.getfield 204, 3) := by decide +kernel
theorem dX6_bribeItem_32 : decode cX6_bribeItem 32 = .ok (.ifCond .eq 12, 3) := by decide +kernel
theorem dX6_bribeItem_35 : decode cX6_bribeItem 35 = .ok (.aload_n 0, 1) := by decide +kernel
theorem dX6_bribeItem_36 : decode cX6_bribeItem 36 = .ok (.getfield 7, 3) := by decide +kernel
theorem dX6_bribeItem_39 : decode cX6_bribeItem 39 = .ok (.iconst 3, 1) := by decide +kernel
theorem dX6_bribeItem_40 : decode cX6_bribeItem 40 = .ok (.iaload, 1) := by decide +kernel
theorem dX6_bribeItem_41 : decode cX6_bribeItem 41 = .ok (.goto 4, 3) := by decide +kernel
theorem dX6_bribeItem_44 : decode cX6_bribeItem 44 = .ok (.iload_n 1, 1) := by decide +kernel
theorem dX6_bribeItem_45 : decode cX6_bribeItem 45 = .ok (.iastore, 1) := by decide +kernel
theorem dX6_bribeItem_46 : decode cX6_bribeItem 46 = .ok (.return_, 1) := by decide +kernel
theorem dX6_awayItem_0 : decode cX6_awayItem 0 = .ok (.aload_n 0, 1) := by decide +kernel
theorem dX6_awayItem_1 : decode cX6_awayItem 1 = .ok (.iconst 1, 1) := by decide +kernel
theorem dX6_awayItem_2 : decode cX6_awayItem 2 = .ok (.invokevirtual 218, 3) := by decide +kernel
theorem dX6_awayItem_5 : decode cX6_awayItem 5 = .ok (.aload_n 0, 1) := by decide +kernel
theorem dX6_awayItem_6 : decode cX6_awayItem 6 = .ok (.iconst 0, 1) := by decide +kernel
theorem dX6_awayItem_7 : decode cX6_awayItem 7 = .ok (.aload_n 0, 1) := by decide +kernel
theorem dX6_awayItem_8 : decode cX6_awayItem 8 = .ok (.getfield 7, 3) := by decide +kernel
theorem dX6_awayItem_11 : decode cX6_awayItem 11 = .ok (.iconst 1, 1) := by decide +kernel
theorem dX6_awayItem_12 : decode cX6_awayItem 12 = .ok (.iaload, 1) := by decide +kernel
theorem dX6_awayItem_13 : decode cX6_awayItem 13 = .ok (.iconst 1, 1) := by decide +kernel
theorem dX6_awayItem_14 : decode cX6_awayItem 14 = .ok (.isub, 1) := by decide +kernel
theorem dX6_awayItem_15 : decode cX6_awayItem 15 = .ok (.invokevirtual 242, 3) := by decide +kernel
theorem dX6_awayItem_18 : decode cX6_awayItem 18 = .ok (.aload_n 0, 1) := by decide +kernel
theorem dX6_awayItem_19 : decode cX6_awayItem 19 = .ok (.getfield 204, 3) := by decide +kernel
theorem dX6_awayItem_22 : decode cX6_awayItem 22 = .ok (.ifCond .ne 17, 3) := by decide +kernel
theorem dX6_awayItem_25 : decode cX6_awayItem 25 = .ok (.aload_n 0, 1) := by decide +kernel
theorem dX6_awayItem_26 : decode cX6_awayItem 26 = .ok (.getfield 7, 3) := by decide +kernel
theorem dX6_awayItem_29 : decode cX6_awayItem 29 = .ok (.aload_n 0, 1) := by decide +kernel
theorem dX6_awayItem_30 : decode cX6_awayItem 30 = .ok (.getfield 215, 3) := by decide +kernel
theorem dX6_awayItem_33 : decode cX6_awayItem 33 = .ok (.iconst 3, 1) := by decide +kernel
theorem dX6_awayItem_34 : decode cX6_awayItem 34 = .ok (.invokestatic 42, 3) := by decide +kernel
theorem dX6_awayItem_37 : decode cX6_awayItem 37 = .ok (.iconst 1, 1) := by decide +kernel
theorem dX6_awayItem_38 : decode cX6_awayItem 38 = .ok (.iastore, 1) := by decide +kernel
theorem dX6_awayItem_39 : decode cX6_awayItem 39 = .ok (.return_, 1) := by decide +kernel
theorem dX6_item_0 : decode cX6_item 0 = .ok (.aload_n 0, 1) := by decide +kernel
theorem dX6_item_1 : decode cX6_item 1 = .ok (.invokevirtual 256, 3) := by decide +kernel
theorem dX6_item_4 : decode cX6_item 4 = .ok (.istore_n 1, 1) := by decide +kernel
theorem dX6_item_5 : decode cX6_item 5 = .ok (.aload_n 0, 1) := by decide +kernel
theorem dX6_item_6 : decode cX6_item 6 = .ok (.invokevirtual 253, 3) := by decide +kernel
theorem dX6_item_9 : decode cX6_item 9 = .ok (.istore_n 2, 1) := by decide +kernel
theorem dX6_item_10 : decode cX6_item 10 = .ok (.aload_n 0, 1) := by decide +kernel
theorem dX6_item_11 : decode cX6_item 11 = .ok (.invokevirtual 222, 3) := by decide +kernel
theorem dX6_item_14 : decode cX6_item 14 = .ok (.lstore_n 3, 1) := by decide +kernel
theorem dX6_item_15 : decode cX6_item 15 = .ok (.iload_n 1, 1) := by decide +kernel
theorem dX6_item_16 : decode cX6_item 16 = .ok (.ifCond .lt 11, 3) := by decide +kernel
theorem dX6_item_19 : decode cX6_item 19 = .ok (.aload_n 0, 1) := by decide +kernel
theorem dX6_item_20 : decode cX6_item 20 = .ok (.iload_n 1, 1) := by decide +kernel
theorem dX6_item_21 : decode cX6_item 21 = .ok (.invokevirtual 259, 3) := by decide +kernel
theorem dX6_item_24 : decode cX6_item 24 = .ok (.goto 50, 3) := by decide +kernel
theorem dX6_item_27 : decode cX6_item 27 = .ok (.iload_n 2, 1) := by decide +kernel
theorem dX6_item_28 : decode cX6_item 28 = .ok (.ifCond .lt 11, 3) := by decide +kernel
theorem dX6_item_31 : decode cX6_item 31 = .ok (.aload_n 0, 1) := by decide +kernel
theorem dX6_item_32 : decode cX6_item 32 = .ok (.iload_n 2, 1) := by decide +kernel
theorem dX6_item_33 : decode cX6_item 33 = .ok (.invokevirtual 262, 3) := by decide +kernel
theorem dX6_item_36 : decode cX6_item 36 = .ok (.goto 38, 3) := by decide +kernel
theorem dX6_item_39 : decode cX6_item 39 = .ok (.lload_n 3, 1) := by decide +kernel
theorem dX6_item_40 : decode cX6_item 40 = .ok (.ldc2_w 265, 3) := by decide +kernel
theorem dX6_item_43 : decode cX6_item 43 = .ok (.lcmp, 1) := by decide +kernel
theorem dX6_item_44 : decode cX6_item 44 = .ok (.ifCond .ne 10, 3) := by decide +kernel
theorem dX6_item_47 : decode cX6_item 47 = .ok (.aload_n 0, 1) := by decide +kernel
theorem dX6_item_48 : decode cX6_item 48 = .ok (.invokevirtual 267, 3) := by decide +kernel
theorem dX6_item_51 : decode cX6_item 51 = .ok (.goto 23, 3) := by decide +kernel
theorem dX6_item_54 : decode cX6_item 54 = .ok (.lload_n 3, 1) := by decide +kernel
theorem dX6_item_55 : decode cX6_item 55 = .ok (.ldc2_w 270, 3) := by decide +kernel
theorem dX6_item_58 : decode cX6_item 58 = .ok (.lcmp, 1) := by decide +kernel
theorem dX6_item_59 : decode cX6_item 59 = .ok (.ifCond .ne 10, 3) := by decide +kernel
theorem dX6_item_62 : decode cX6_item 62 = .ok (.aload_n 0, 1) := by decide +kernel
theorem dX6_item_63 : decode cX6_item 63 = .ok (.invokevirtual 272, 3) := by decide +kernel
theorem dX6_item_66 : decode cX6_item 66 = .ok (.goto 8, 3) := by decide +kernel
theorem dX6_item_69 : decode cX6_item 69 = .ok (.aload_n 0, 1) := by decide +kernel
theorem dX6_item_70 : decode cX6_item 70 = .ok (.iconst 0, 1) := by decide +kernel
theorem dX6_item_71 : decode cX6_item 71 = .ok (.invokevirtual 218, 3) := by decide +kernel
theorem dX6_item_74 : decode cX6_item 74 = .ok (.return_, 1) := by decide +kernel
theorem dX6_town_0 : decode cX6_town 0 = .ok (.aload_n 0, 1) := by decide +kernel
theorem dX6_town_1 : decode cX6_town 1 = .ok (.invokevirtual 275, 3) := by decide +kernel
theorem dX6_town_4 : decode cX6_town 4 = .ok (.aload_n 0, 1) := by decide +kernel
theorem dX6_town_5 : decode cX6_town 5 = .ok (.iconst 0, 1) := by decide +kernel
theorem dX6_town_6 : decode cX6_town 6 = .ok (.putfield 204, 3) := by decide +kernel
theorem dX6_town_9 : decode cX6_town 9 = .ok (.aload_n 0, 1) := by decide +kernel
theorem dX6_town_10 : decode cX6_town 10 = .ok (.iconst 0, 1) := by decide +kernel
theorem dX6_town_11 : decode cX6_town 11 = .ok (.putfield 189, 3) := by decide +kernel
theorem dX6_town_14 : decode cX6_town 14 = .ok (.aload_n 0, 1) := by decide +kernel
theorem dX6_town_15 : decode cX6_town 15 = .ok (.invokevirtual 208, 3) := by decide +kernel
theorem dX6_town_18 : decode cX6_town 18 = .ok (.iconst 1, 1) := by decide +kernel
theorem dX6_town_19 : decode cX6_town 19 = .ok (.istore_n 1, 1) := by decide +kernel
theorem dX6_town_20 : decode cX6_town 20 = .ok (.aload_n 0, 1) := by decide +kernel
theorem dX6_town_21 : decode cX6_town 21 = .ok (.invokevirtual 278, 3) := by decide +kernel
theorem dX6_town_24 : decode cX6_town 24 = .ok (.aload_n 0, 1) := by decide +kernel
theorem dX6_town_25 : decode cX6_town 25 = .ok (.getfield 204, 3) := by decide +kernel
theorem dX6_town_28 : decode cX6_town 28 = .ok (.ifCond .ne 31, 3) := by decide +kernel
theorem dX6_town_31 : decode cX6_town 31 = .ok (.aload_n 0, 1) := by decide +kernel
theorem dX6_town_32 : decode cX6_town 32 = .ok (.aload_n 0, 1) := by decide +kernel
theorem dX6_town_33 : decode cX6_town 33 = .ok (.getfield 192, 3) := by decide +kernel
theorem dX6_town_36 : decode cX6_town 36 = .ok (.invokevirtual 195, 3) := by decide +kernel
theorem dX6_town_39 : decode cX6_town 39 = .ok (.bipush 59, 2) := by decide +kernel
theorem dX6_town_41 : decode cX6_town 41 = .ok (.if_icmp .ne 18, 3) := by decide +kernel
theorem dX6_town_44 : decode cX6_town 44 = .ok (.aload_n 0, 1) := by decide +kernel
theorem dX6_town_45 : decode cX6_town 45 = .ok (.iconst 1, 1) := by decide +kernel
theorem dX6_town_46 : decode cX6_town 46 = .ok (.invokevirtual 218, 3) := by decide +kernel
theorem dX6_town_49 : decode cX6_town 49 = .ok (.aload_n 0, 1) := by decide +kernel
theorem dX6_town_50 : decode cX6_town 50 = .ok (.invokevirtual 278, 3) := by decide +kernel
theorem dX6_town_53 : decode cX6_town 53 = .ok (.iinc 1 1, 3) := by decide +kernel
theorem dX6_town_56 : decode cX6_town 56 = .ok (.goto (-32), 3) := by decide +kernel
theorem dX6_town_59 : decode cX6_town 59 = .ok (.aload_n 0, 1) := by decide +kernel
theorem dX6_town_60 : decode cX6_town 60 = .ok (.aload_n 0, 1) := by decide +kernel
theorem dX6_town_61 : decode cX6_town 61 = .ok (.getfield 204, 3) := by decide +kernel
theorem dX6_town_64 : decode cX6_town 64 = .ok (.ifCond .ne 14, 3) := by decide +kernel
theorem dX6_town_67 : decode cX6_town 67 = .ok (.aload_n 0, 1) := by decide +kernel
theorem dX6_town_68 : decode cX6_town 68 = .ok (.getfield 192, 3) := by decide +kernel
theorem dX6_town_71 : decode cX6_town 71 = .ok (.aload_n 0, 1) := by decide +kernel
theorem dX6_town_72 : decode cX6_town 72 = .ok (.getfield 177, 3) := by decide +kernel
theorem dX6_town_75 : decode cX6_town 75 = .ok (.if_icmp .ge 7, 3) := by decide +kernel
theorem dX6_town_78 : decode cX6_town 78 = .ok (.iconst 1, 1) := by decide +kernel
theorem dX6_town_79 : decode cX6_town 79 = .ok (.goto 4, 3) := by decide +kernel
theorem dX6_town_82 : decode cX6_town 82 = .ok (.iconst 0, 1) := by decide +kernel
theorem dX6_town_83 : decode cX6_town 83 = .ok (.putfield 204, 3) := by decide +kernel
theorem dX6_town_86 : decode cX6_town 86 = .ok (.aload_n 0, 1) := by decide +kernel
theorem dX6_town_87 : decode cX6_town 87 = .ok (.getfield 204, 3) := by decide +kernel
theorem dX6_town_90 : decode cX6_town 90 = .ok (.ifCond .eq 7, 3) := by decide +kernel
theorem dX6_town_93 : decode cX6_town 93 = .ok (.aload_n 0, 1) := by decide +kernel
theorem dX6_town_94 : decode cX6_town 94 = .ok (.invokevirtual 281, 3) := by decide +kernel
theorem dX6_town_97 : decode cX6_town 97 = .ok (.aload_n 0, 1) := by decide +kernel
theorem dX6_town_98 : decode cX6_town 98 = .ok (.iconst 0, 1) := by decide +kernel
theorem dX6_town_99 : decode cX6_town 99 = .ok (.putfield 177, 3) := by decide +kernel
theorem dX6_town_102 : decode cX6_town 102 = .ok (.aload_n 0, 1) := by decide +kernel
theorem dX6_town_103 : decode cX6_town 103 = .ok (.getfield 204, 3) := by decide +kernel
theorem dX6_town_106 : decode cX6_town 106 = .ok (.ifCond .eq 12, 3) := by decide +kernel
theorem dX6_town_109 : decode cX6_town 109 = .ok (.iconst (-1), 1) := by decide +kernel
theorem dX6_town_110 : decode cX6_town 110 = .ok (.aload_n 0, 1) := by decide +kernel
theorem dX6_town_111 : decode cX6_town 111 = .ok (.getfield 192, 3) := by decide +kernel
theorem dX6_town_114 : decode cX6_town 114 = .ok (.isub, 1) := by decide +kernel
theorem dX6_town_115 : decode cX6_town 115 = .ok (.goto 4, 3) := by decide +kernel
theorem dX6_town_118 : decode cX6_town 118 = .ok (.iload_n 1, 1) := by decide +kernel
theorem dX6_town_119 : decode cX6_town 119 = .ok (.ireturn, 1) := by decide +kernel
theorem dX6_isOne_0 : decode cX6_isOne 0 = .ok (.iload_n 0, 1) := by decide +kernel
theorem dX6_isOne_1 : decode cX6_isOne 1 = .ok (.i2l, 1) := by decide +kernel
theorem dX6_isOne_2 : decode cX6_isOne 2 = .ok (.lconst 0, 1) := by decide +kernel
theorem dX6_isOne_3 : decode cX6_isOne 3 = .ok (.ldc2_w 122, 3) := by decide +kernel
theorem dX6_isOne_6 : decode cX6_isOne 6 = .ok (.invokestatic 46, 3) := by decide +kernel
theorem dX6_isOne_9 : decode cX6_isOne 9 = .ok (.ireturn, 1) := by decide +kernel
theorem dX6_sheet_0 : decode cX6_sheet 0 = .ok (.iload_n 1, 1) := by decide +kernel
theorem dX6_sheet_1 : decode cX6_sheet 1 = .ok (.invokestatic 284, 3) := by decide +kernel
theorem dX6_sheet_4 : decode cX6_sheet 4 = .ok (.ifCond .eq 25, 3) := by decide +kernel
theorem dX6_sheet_7 : decode cX6_sheet 7 = .ok (.iload_n 2, 1) := by decide +kernel
theorem dX6_sheet_8 : decode cX6_sheet 8 = .ok (.ifCond .eq 28, 3) := by decide +kernel
theorem dX6_sheet_11 : decode cX6_sheet 11 = .ok (.iload_n 2, 1) := by decide +kernel
theorem dX6_sheet_12 : decode cX6_sheet 12 = .ok (.bipush 8, 2) := by decide +kernel
theorem dX6_sheet_14 : decode cX6_sheet 14 = .ok (.if_icmp .eq 22, 3) := by decide +kernel
theorem dX6_sheet_17 : decode cX6_sheet 17 = .ok (.iload_n 2, 1) := by decide +kernel
theorem dX6_sheet_18 : decode cX6_sheet 18 = .ok (.bipush 16, 2) := by decide +kernel
theorem dX6_sheet_20 : decode cX6_sheet 20 = .ok (.if_icmp .eq 16, 3) := by decide +kernel
theorem dX6_sheet_23 : decode cX6_sheet 23 = .ok (.iload_n 2, 1) := by decide +kernel
theorem dX6_sheet_24 : decode cX6_sheet 24 = .ok (.bipush 64, 2) := by decide +kernel
theorem dX6_sheet_26 : decode cX6_sheet 26 = .ok (.if_icmp .eq 10, 3) := by decide +kernel
theorem dX6_sheet_29 : decode cX6_sheet 29 = .ok (.aload_n 0, 1) := by decide +kernel
theorem dX6_sheet_30 : decode cX6_sheet 30 = .ok (.ldc 41, 2) := by decide +kernel
theorem dX6_sheet_32 : decode cX6_sheet 32 = .ok (.invokevirtual 67, 3) := by decide +kernel
theorem dX6_sheet_35 : decode cX6_sheet 35 = .ok (.ireturn, 1) := by decide +kernel
theorem dX6_sheet_36 : decode cX6_sheet 36 = .ok (.iload_n 3, 1) := by decide +kernel
theorem dX6_sheet_37 : decode cX6_sheet 37 = .ok (.ifCond .ge 11, 3) := by decide +kernel
theorem dX6_sheet_40 : decode cX6_sheet 40 = .ok (.aload_n 0, 1) := by decide +kernel
theorem dX6_sheet_41 : decode cX6_sheet 41 = .ok (.ldc_w 287, 3) := by decide +kernel
theorem dX6_sheet_44 : decode cX6_sheet 44 = .ok (.invokevirtual 67, 3) := by decide +kernel
theorem dX6_sheet_47 : decode cX6_sheet 47 = .ok (.ireturn, 1) := by decide +kernel
theorem dX6_sheet_48 : decode cX6_sheet 48 = .ok (.iload_n 3, 1) := by decide +kernel
theorem dX6_sheet_49 : decode cX6_sheet 49 = .ok (.bipush 40, 2) := by decide +kernel
theorem dX6_sheet_51 : decode cX6_sheet 51 = .ok (.if_icmp .le 10, 3) := by decide +kernel
theorem dX6_sheet_54 : decode cX6_sheet 54 = .ok (.aload_n 0, 1) := by decide +kernel
theorem dX6_sheet_55 : decode cX6_sheet 55 = .ok (.ldc 41, 2) := by decide +kernel
theorem dX6_sheet_57 : decode cX6_sheet 57 = .ok (.invokevirtual 67, 3) := by decide +kernel
theorem dX6_sheet_60 : decode cX6_sheet 60 = .ok (.ireturn, 1) := by decide +kernel
theorem dX6_sheet_61 : decode cX6_sheet 61 = .ok (.aload_n 0, 1) := by decide +kernel
theorem dX6_sheet_62 : decode cX6_sheet 62 = .ok (.getfield 28, 3) := by decide +kernel
theorem dX6_sheet_65 : decode cX6_sheet 65 = .ok (.iload_n 1, 1) := by decide +kernel
theorem dX6_sheet_66 : decode cX6_sheet 66 = .ok (.iload_n 2, 1) := by decide +kernel
theorem dX6_sheet_67 : decode cX6_sheet 67 = .ok (.iastore, 1) := by decide +kernel
theorem dX6_sheet_68 : decode cX6_sheet 68 = .ok (.aload_n 0, 1) := by decide +kernel
theorem dX6_sheet_69 : decode cX6_sheet 69 = .ok (.getfield 31, 3) := by decide +kernel
theorem dX6_sheet_72 : decode cX6_sheet 72 = .ok (.iload_n 1, 1) := by decide +kernel
theorem dX6_sheet_73 : decode cX6_sheet 73 = .ok (.iload_n 2, 1) := by decide +kernel
theorem dX6_sheet_74 : decode cX6_sheet 74 = .ok (.ifCond .ne 7, 3) := by decide +kernel
theorem dX6_sheet_77 : decode cX6_sheet 77 = .ok (.iconst 0, 1) := by decide +kernel
theorem dX6_sheet_78 : decode cX6_sheet 78 = .ok (.goto 4, 3) := by decide +kernel
theorem dX6_sheet_81 : decode cX6_sheet 81 = .ok (.iload_n 3, 1) := by decide +kernel
theorem dX6_sheet_82 : decode cX6_sheet 82 = .ok (.iastore, 1) := by decide +kernel
theorem dX6_sheet_83 : decode cX6_sheet 83 = .ok (.iconst 0, 1) := by decide +kernel
theorem dX6_sheet_84 : decode cX6_sheet 84 = .ok (.istore 4, 2) := by decide +kernel
theorem dX6_sheet_86 : decode cX6_sheet 86 = .ok (.iload 4, 2) := by decide +kernel
theorem dX6_sheet_88 : decode cX6_sheet 88 = .ok (.bipush 40, 2) := by decide +kernel
theorem dX6_sheet_90 : decode cX6_sheet 90 = .ok (.if_icmp .ge 22, 3) := by decide +kernel
theorem dX6_sheet_93 : decode cX6_sheet 93 = .ok (.aload_n 0, 1) := by decide +kernel
theorem dX6_sheet_94 : decode cX6_sheet 94 = .ok (.getfield 34, 3) := by decide +kernel
theorem dX6_sheet_97 : decode cX6_sheet 97 = .ok (.bipush 40, 2) := by decide +kernel
theorem dX6_sheet_99 : decode cX6_sheet 99 = .ok (.iload_n 1, 1) := by decide +kernel
theorem dX6_sheet_100 : decode cX6_sheet 100 = .ok (.imul, 1) := by decide +kernel
theorem dX6_sheet_101 : decode cX6_sheet 101 = .ok (.iload 4, 2) := by decide +kernel
theorem dX6_sheet_103 : decode cX6_sheet 103 = .ok (.iadd, 1) := by decide +kernel
theorem dX6_sheet_104 : decode cX6_sheet 104 = .ok (.lconst 0, 1) := by decide +kernel
theorem dX6_sheet_105 : decode cX6_sheet 105 = .ok (.lastore, 1) := by decide +kernel
theorem dX6_sheet_106 : decode cX6_sheet 106 = .ok (.iinc 4 1, 3) := by decide +kernel
theorem dX6_sheet_109 : decode cX6_sheet 109 = .ok (.goto (-23), 3) := by decide +kernel
theorem dX6_sheet_112 : decode cX6_sheet 112 = .ok (.aload_n 0, 1) := by decide +kernel
theorem dX6_sheet_113 : decode cX6_sheet 113 = .ok (.getfield 31, 3) := by decide +kernel
theorem dX6_sheet_116 : decode cX6_sheet 116 = .ok (.iload_n 1, 1) := by decide +kernel
theorem dX6_sheet_117 : decode cX6_sheet 117 = .ok (.iaload, 1) := by decide +kernel
theorem dX6_sheet_118 : decode cX6_sheet 118 = .ok (.ireturn, 1) := by decide +kernel
theorem dX6_narrowed_0 : decode cX6_narrowed 0 = .ok (.iload_n 0, 1) := by decide +kernel
theorem dX6_narrowed_1 : decode cX6_narrowed 1 = .ok (.bipush 8, 2) := by decide +kernel
theorem dX6_narrowed_3 : decode cX6_narrowed 3 = .ok (.if_icmp .ne 10, 3) := by decide +kernel
theorem dX6_narrowed_6 : decode cX6_narrowed 6 = .ok (.lload_n 1, 1) := by decide +kernel
theorem dX6_narrowed_7 : decode cX6_narrowed 7 = .ok (.l2i, 1) := by decide +kernel
theorem dX6_narrowed_8 : decode cX6_narrowed 8 = .ok (.i2b, 1) := by decide +kernel
theorem dX6_narrowed_9 : decode cX6_narrowed 9 = .ok (.i2l, 1) := by decide +kernel
theorem dX6_narrowed_10 : decode cX6_narrowed 10 = .ok (.goto 17, 3) := by decide +kernel
theorem dX6_narrowed_13 : decode cX6_narrowed 13 = .ok (.iload_n 0, 1) := by decide +kernel
theorem dX6_narrowed_14 : decode cX6_narrowed 14 = .ok (.bipush 16, 2) := by decide +kernel
theorem dX6_narrowed_16 : decode cX6_narrowed 16 = .ok (.if_icmp .ne 10, 3) := by decide +kernel
theorem dX6_narrowed_19 : decode cX6_narrowed 19 = .ok (.lload_n 1, 1) := by decide +kernel
theorem dX6_narrowed_20 : decode cX6_narrowed 20 = .ok (.l2i, 1) := by decide +kernel
theorem dX6_narrowed_21 : decode cX6_narrowed 21 = .ok (.i2s, 1) := by decide +kernel
theorem dX6_narrowed_22 : decode cX6_narrowed 22 = .ok (.i2l, 1) := by decide +kernel
theorem dX6_narrowed_23 : decode cX6_narrowed 23 = .ok (.goto 4, 3) := by decide +kernel
theorem dX6_narrowed_26 : decode cX6_narrowed 26 = .ok (.lload_n 1, 1) := by decide +kernel
theorem dX6_narrowed_27 : decode cX6_narrowed 27 = .ok (.lreturn, 1) := by decide +kernel
theorem dX6_wrongSheet_0 : decode cX6_wrongSheet 0 = .ok (.iload_n 1, 1) := by decide +kernel
theorem dX6_wrongSheet_1 : decode cX6_wrongSheet 1 = .ok (.invokestatic 284, 3) := by decide +kernel
theorem dX6_wrongSheet_4 : decode cX6_wrongSheet 4 = .ok (.ifCond .ne 8, 3) := by decide +kernel
theorem dX6_wrongSheet_7 : decode cX6_wrongSheet 7 = .ok (.ldc 41, 2) := by decide +kernel
theorem dX6_wrongSheet_9 : decode cX6_wrongSheet 9 = .ok (.goto 19, 3) := by decide +kernel
theorem dX6_wrongSheet_12 : decode cX6_wrongSheet 12 = .ok (.aload_n 0, 1) := by decide +kernel
theorem dX6_wrongSheet_13 : decode cX6_wrongSheet 13 = .ok (.getfield 28, 3) := by decide +kernel
theorem dX6_wrongSheet_16 : decode cX6_wrongSheet 16 = .ok (.iload_n 1, 1) := by decide +kernel
theorem dX6_wrongSheet_17 : decode cX6_wrongSheet 17 = .ok (.iaload, 1) := by decide +kernel
theorem dX6_wrongSheet_18 : decode cX6_wrongSheet 18 = .ok (.ifCond .ne 9, 3) := by decide +kernel
theorem dX6_wrongSheet_21 : decode cX6_wrongSheet 21 = .ok (.ldc_w 288, 3) := by decide +kernel
theorem dX6_wrongSheet_24 : decode cX6_wrongSheet 24 = .ok (.goto 4, 3) := by decide +kernel
theorem dX6_wrongSheet_27 : decode cX6_wrongSheet 27 = .ok (.iconst 0, 1) := by decide +kernel
theorem dX6_wrongSheet_28 : decode cX6_wrongSheet 28 = .ok (.ireturn, 1) := by decide +kernel
theorem dX6_write_0 : decode cX6_write 0 = .ok (.aload_n 0, 1) := by decide +kernel
theorem dX6_write_1 : decode cX6_write 1 = .ok (.iload_n 1, 1) := by decide +kernel
theorem dX6_write_2 : decode cX6_write 2 = .ok (.invokevirtual 289, 3) := by decide +kernel
theorem dX6_write_5 : decode cX6_write 5 = .ok (.istore 5, 2) := by decide +kernel
theorem dX6_write_7 : decode cX6_write 7 = .ok (.iload 5, 2) := by decide +kernel
theorem dX6_write_9 : decode cX6_write 9 = .ok (.ifCond .eq 11, 3) := by decide +kernel
theorem dX6_write_12 : decode cX6_write 12 = .ok (.aload_n 0, 1) := by decide +kernel
theorem dX6_write_13 : decode cX6_write 13 = .ok (.iload 5, 2) := by decide +kernel
theorem dX6_write_15 : decode cX6_write 15 = .ok (.invokevirtual 67, 3) := by decide +kernel
theorem dX6_write_18 : decode cX6_write 18 = .ok (.i2l, 1) := by decide +kernel
theorem dX6_write_19 : decode cX6_write 19 = .ok (.lreturn, 1) := by decide +kernel
theorem dX6_write_20 : decode cX6_write 20 = .ok (.iload_n 2, 1) := by decide +kernel
theorem dX6_write_21 : decode cX6_write 21 = .ok (.i2l, 1) := by decide +kernel
theorem dX6_write_22 : decode cX6_write 22 = .ok (.lconst 0, 1) := by decide +kernel
theorem dX6_write_23 : decode cX6_write 23 = .ok (.aload_n 0, 1) := by decide +kernel
theorem dX6_write_24 : decode cX6_write 24 = .ok (.getfield 31, 3) := by decide +kernel
theorem dX6_write_27 : decode cX6_write 27 = .ok (.iload_n 1, 1) := by decide +kernel
theorem dX6_write_28 : decode cX6_write 28 = .ok (.iaload, 1) := by decide +kernel
theorem dX6_write_29 : decode cX6_write 29 = .ok (.iconst 1, 1) := by decide +kernel
theorem dX6_write_30 : decode cX6_write 30 = .ok (.isub, 1) := by decide +kernel
theorem dX6_write_31 : decode cX6_write 31 = .ok (.i2l, 1) := by decide +kernel
theorem dX6_write_32 : decode cX6_write 32 = .ok (.invokestatic 46, 3) := by decide +kernel
theorem dX6_write_35 : decode cX6_write 35 = .ok (.ifCond .ne 11, 3) := by decide +kernel
theorem dX6_write_38 : decode cX6_write 38 = .ok (.aload_n 0, 1) := by decide +kernel
theorem dX6_write_39 : decode cX6_write 39 = .ok (.ldc 41, 2) := by decide +kernel
theorem dX6_write_41 : decode cX6_write 41 = .ok (.invokevirtual 67, 3) := by decide +kernel
theorem dX6_write_44 : decode cX6_write 44 = .ok (.i2l, 1) := by decide +kernel
theorem dX6_write_45 : decode cX6_write 45 = .ok (.lreturn, 1) := by decide +kernel
theorem dX6_write_46 : decode cX6_write 46 = .ok (.aload_n 0, 1) := by decide +kernel
theorem dX6_write_47 : decode cX6_write 47 = .ok (.getfield 34, 3) := by decide +kernel
theorem dX6_write_50 : decode cX6_write 50 = .ok (.bipush 40, 2) := by decide +kernel
theorem dX6_write_52 : decode cX6_write 52 = .ok (.iload_n 1, 1) := by decide +kernel
theorem dX6_write_53 : decode cX6_write 53 = .ok (.imul, 1) := by decide +kernel
theorem dX6_write_54 : decode cX6_write 54 = .ok (.iload_n 2, 1) := by decide +kernel
theorem dX6_write_55 : decode cX6_write 55 = .ok (.iadd, 1) := by decide +kernel
theorem dX6_write_56 : decode cX6_write 56 = .ok (.laload, 1) := by decide +kernel
theorem dX6_write_57 : decode cX6_write 57 = .ok (.lstore 6, 2) := by decide +kernel
theorem dX6_write_59 : decode cX6_write 59 = .ok (.aload_n 0, 1) := by decide +kernel
theorem dX6_write_60 : decode cX6_write 60 = .ok (.getfield 34, 3) := by decide +kernel
theorem dX6_write_63 : decode cX6_write 63 = .ok (.bipush 40, 2) := by decide +kernel
theorem dX6_write_65 : decode cX6_write 65 = .ok (.iload_n 1, 1) := by decide +kernel
theorem dX6_write_66 : decode cX6_write 66 = .ok (.imul, 1) := by decide +kernel
theorem dX6_write_67 : decode cX6_write 67 = .ok (.iload_n 2, 1) := by decide +kernel
theorem dX6_write_68 : decode cX6_write 68 = .ok (.iadd, 1) := by decide +kernel
theorem dX6_write_69 : decode cX6_write 69 = .ok (.aload_n 0, 1) := by decide +kernel
theorem dX6_write_70 : decode cX6_write 70 = .ok (.getfield 28, 3) := by decide +kernel
theorem dX6_write_73 : decode cX6_write 73 = .ok (.iload_n 1, 1) := by decide +kernel
theorem dX6_write_74 : decode cX6_write 74 = .ok (.iaload, 1) := by decide +kernel
theorem dX6_write_75 : decode cX6_write 75 = .ok (.lload_n 3, 1) := by decide +kernel
theorem dX6_write_76 : decode cX6_write 76 = .ok (.invokestatic 292, 3) := by decide +kernel
theorem dX6_write_79 : decode cX6_write 79 = .ok (.lastore, 1) := by decide +kernel
theorem dX6_write_80 : decode cX6_write 80 = .ok (.lload 6, 2) := by decide +kernel
theorem dX6_write_82 : decode cX6_write 82 = .ok (.lreturn, 1) := by decide +kernel
theorem dX6_copy_0 : decode cX6_copy 0 = .ok (.iload_n 1, 1) := by decide +kernel
theorem dX6_copy_1 : decode cX6_copy 1 = .ok (.invokestatic 284, 3) := by decide +kernel
theorem dX6_copy_4 : decode cX6_copy 4 = .ok (.ifCond .eq 10, 3) := by decide +kernel
theorem dX6_copy_7 : decode cX6_copy 7 = .ok (.iload_n 3, 1) := by decide +kernel
theorem dX6_copy_8 : decode cX6_copy 8 = .ok (.invokestatic 284, 3) := by decide +kernel
theorem dX6_copy_11 : decode cX6_copy 11 = .ok (.ifCond .ne 10, 3) := by decide +kernel
theorem dX6_copy_14 : decode cX6_copy 14 = .ok (.aload_n 0, 1) := by decide +kernel
theorem dX6_copy_15 : decode cX6_copy 15 = .ok (.ldc 41, 2) := by decide +kernel
theorem dX6_copy_17 : decode cX6_copy 17 = .ok (.invokevirtual 67, 3) := by decide +kernel
theorem dX6_copy_20 : decode cX6_copy 20 = .ok (.ireturn, 1) := by decide +kernel
theorem dX6_copy_21 : decode cX6_copy 21 = .ok (.aload_n 0, 1) := by decide +kernel
theorem dX6_copy_22 : decode cX6_copy 22 = .ok (.getfield 28, 3) := by decide +kernel
theorem dX6_copy_25 : decode cX6_copy 25 = .ok (.iload_n 1, 1) := by decide +kernel
theorem dX6_copy_26 : decode cX6_copy 26 = .ok (.iaload, 1) := by decide +kernel
theorem dX6_copy_27 : decode cX6_copy 27 = .ok (.ifCond .eq 12, 3) := by decide +kernel
theorem dX6_copy_30 : decode cX6_copy 30 = .ok (.aload_n 0, 1) := by decide +kernel
theorem dX6_copy_31 : decode cX6_copy 31 = .ok (.getfield 28, 3) := by decide +kernel
theorem dX6_copy_34 : decode cX6_copy 34 = .ok (.iload_n 3, 1) := by decide +kernel
theorem dX6_copy_35 : decode cX6_copy 35 = .ok (.iaload, 1) := by decide +kernel
theorem dX6_copy_36 : decode cX6_copy 36 = .ok (.ifCond .ne 11, 3) := by decide +kernel
theorem dX6_copy_39 : decode cX6_copy 39 = .ok (.aload_n 0, 1) := by decide +kernel
theorem dX6_copy_40 : decode cX6_copy 40 = .ok (.ldc_w 288, 3) := by decide +kernel
theorem dX6_copy_43 : decode cX6_copy 43 = .ok (.invokevirtual 67, 3) := by decide +kernel
theorem dX6_copy_46 : decode cX6_copy 46 = .ok (.ireturn, 1) := by decide +kernel
theorem dX6_copy_47 : decode cX6_copy 47 = .ok (.aload_n 0, 1) := by decide +kernel
theorem dX6_copy_48 : decode cX6_copy 48 = .ok (.getfield 28, 3) := by decide +kernel
theorem dX6_copy_51 : decode cX6_copy 51 = .ok (.iload_n 1, 1) := by decide +kernel
theorem dX6_copy_52 : decode cX6_copy 52 = .ok (.iaload, 1) := by decide +kernel
theorem dX6_copy_53 : decode cX6_copy 53 = .ok (.aload_n 0, 1) := by decide +kernel
theorem dX6_copy_54 : decode cX6_copy 54 = .ok (.getfield 28, 3) := by decide +kernel
theorem dX6_copy_57 : decode cX6_copy 57 = .ok (.iload_n 3, 1) := by decide +kernel
theorem dX6_copy_58 : decode cX6_copy 58 = .ok (.iaload, 1) := by decide +kernel
theorem dX6_copy_59 : decode cX6_copy 59 = .ok (.if_icmp .eq 10, 3) := by decide +kernel
theorem dX6_copy_62 : decode cX6_copy 62 = .ok (.aload_n 0, 1) := by decide +kernel
theorem dX6_copy_63 : decode cX6_copy 63 = .ok (.ldc 128, 2) := by decide +kernel
theorem dX6_copy_65 : decode cX6_copy 65 = .ok (.invokevirtual 67, 3) := by decide +kernel
theorem dX6_copy_68 : decode cX6_copy 68 = .ok (.ireturn, 1) := by decide +kernel
theorem dX6_copy_69 : decode cX6_copy 69 = .ok (.iload_n 2, 1) := by decide +kernel
theorem dX6_copy_70 : decode cX6_copy 70 = .ok (.ifCond .lt 40, 3) := by decide +kernel
theorem dX6_copy_73 : decode cX6_copy 73 = .ok (.iload 4, 2) := by decide +kernel
theorem dX6_copy_75 : decode cX6_copy 75 = .ok (.ifCond .lt 35, 3) := by decide +kernel
theorem dX6_copy_78 : decode cX6_copy 78 = .ok (.iload 5, 2) := by decide +kernel
theorem dX6_copy_80 : decode cX6_copy 80 = .ok (.ifCond .lt 30, 3) := by decide +kernel
theorem dX6_copy_83 : decode cX6_copy 83 = .ok (.iload 5, 2) := by decide +kernel
theorem dX6_copy_85 : decode cX6_copy 85 = .ok (.aload_n 0, 1) := by decide +kernel
theorem dX6_copy_86 : decode cX6_copy 86 = .ok (.getfield 31, 3) := by decide +kernel
theorem dX6_copy_89 : decode cX6_copy 89 = .ok (.iload_n 1, 1) := by decide +kernel
theorem dX6_copy_90 : decode cX6_copy 90 = .ok (.iaload, 1) := by decide +kernel
theorem dX6_copy_91 : decode cX6_copy 91 = .ok (.iload_n 2, 1) := by decide +kernel
theorem dX6_copy_92 : decode cX6_copy 92 = .ok (.isub, 1) := by decide +kernel
theorem dX6_copy_93 : decode cX6_copy 93 = .ok (.if_icmp .gt 17, 3) := by decide +kernel
theorem dX6_copy_96 : decode cX6_copy 96 = .ok (.iload 5, 2) := by decide +kernel
theorem dX6_copy_98 : decode cX6_copy 98 = .ok (.aload_n 0, 1) := by decide +kernel
theorem dX6_copy_99 : decode cX6_copy 99 = .ok (.getfield 31, 3) := by decide +kernel
theorem dX6_copy_102 : decode cX6_copy 102 = .ok (.iload_n 3, 1) := by decide +kernel
theorem dX6_copy_103 : decode cX6_copy 103 = .ok (.iaload, 1) := by decide +kernel
theorem dX6_copy_104 : decode cX6_copy 104 = .ok (.iload 4, 2) := by decide +kernel
theorem dX6_copy_106 : decode cX6_copy 106 = .ok (.isub, 1) := by decide +kernel
theorem dX6_copy_107 : decode cX6_copy 107 = .ok (.if_icmp .le 10, 3) := by decide +kernel
theorem dX6_copy_110 : decode cX6_copy 110 = .ok (.aload_n 0, 1) := by decide +kernel
theorem dX6_copy_111 : decode cX6_copy 111 = .ok (.ldc 41, 2) := by decide +kernel
theorem dX6_copy_113 : decode cX6_copy 113 = .ok (.invokevirtual 67, 3) := by decide +kernel
theorem dX6_copy_116 : decode cX6_copy 116 = .ok (.ireturn, 1) := by decide +kernel
theorem dX6_copy_117 : decode cX6_copy 117 = .ok (.iconst 0, 1) := by decide +kernel
theorem dX6_copy_118 : decode cX6_copy 118 = .ok (.istore 6, 2) := by decide +kernel
theorem dX6_copy_120 : decode cX6_copy 120 = .ok (.iload 6, 2) := by decide +kernel
theorem dX6_copy_122 : decode cX6_copy 122 = .ok (.iload 5, 2) := by decide +kernel
theorem dX6_copy_124 : decode cX6_copy 124 = .ok (.if_icmp .ge 30, 3) := by decide +kernel
theorem dX6_copy_127 : decode cX6_copy 127 = .ok (.aload_n 0, 1) := by decide +kernel
theorem dX6_copy_128 : decode cX6_copy 128 = .ok (.getfield 38, 3) := by decide +kernel
theorem dX6_copy_131 : decode cX6_copy 131 = .ok (.iload 6, 2) := by decide +kernel
theorem dX6_copy_133 : decode cX6_copy 133 = .ok (.aload_n 0, 1) := by decide +kernel
theorem dX6_copy_134 : decode cX6_copy 134 = .ok (.getfield 34, 3) := by decide +kernel
theorem dX6_copy_137 : decode cX6_copy 137 = .ok (.bipush 40, 2) := by decide +kernel
theorem dX6_copy_139 : decode cX6_copy 139 = .ok (.iload_n 1, 1) := by decide +kernel
theorem dX6_copy_140 : decode cX6_copy 140 = .ok (.imul, 1) := by decide +kernel
theorem dX6_copy_141 : decode cX6_copy 141 = .ok (.iload_n 2, 1) := by decide +kernel
theorem dX6_copy_142 : decode cX6_copy 142 = .ok (.iadd, 1) := by decide +kernel
theorem dX6_copy_143 : decode cX6_copy 143 = .ok (.iload 6, 2) := by decide +kernel
theorem dX6_copy_145 : decode cX6_copy 145 = .ok (.iadd, 1) := by decide +kernel
theorem dX6_copy_146 : decode cX6_copy 146 = .ok (.laload, 1) := by decide +kernel
theorem dX6_copy_147 : decode cX6_copy 147 = .ok (.lastore, 1) := by decide +kernel
theorem dX6_copy_148 : decode cX6_copy 148 = .ok (.iinc 6 1, 3) := by decide +kernel
theorem dX6_copy_151 : decode cX6_copy 151 = .ok (.goto (-31), 3) := by decide +kernel
theorem dX6_copy_154 : decode cX6_copy 154 = .ok (.iconst 0, 1) := by decide +kernel
theorem dX6_copy_155 : decode cX6_copy 155 = .ok (.istore 6, 2) := by decide +kernel
theorem dX6_copy_157 : decode cX6_copy 157 = .ok (.iload 6, 2) := by decide +kernel
theorem dX6_copy_159 : decode cX6_copy 159 = .ok (.iload 5, 2) := by decide +kernel
theorem dX6_copy_161 : decode cX6_copy 161 = .ok (.if_icmp .ge 31, 3) := by decide +kernel
theorem dX6_copy_164 : decode cX6_copy 164 = .ok (.aload_n 0, 1) := by decide +kernel
theorem dX6_copy_165 : decode cX6_copy 165 = .ok (.getfield 34, 3) := by decide +kernel
theorem dX6_copy_168 : decode cX6_copy 168 = .ok (.bipush 40, 2) := by decide +kernel
theorem dX6_copy_170 : decode cX6_copy 170 = .ok (.iload_n 3, 1) := by decide +kernel
theorem dX6_copy_171 : decode cX6_copy 171 = .ok (.imul, 1) := by decide +kernel
theorem dX6_copy_172 : decode cX6_copy 172 = .ok (.iload 4, 2) := by decide +kernel
theorem dX6_copy_174 : decode cX6_copy 174 = .ok (.iadd, 1) := by decide +kernel
theorem dX6_copy_175 : decode cX6_copy 175 = .ok (.iload 6, 2) := by decide +kernel
theorem dX6_copy_177 : decode cX6_copy 177 = .ok (.iadd, 1) := by decide +kernel
theorem dX6_copy_178 : decode cX6_copy 178 = .ok (.aload_n 0, 1) := by decide +kernel
theorem dX6_copy_179 : decode cX6_copy 179 = .ok (.getfield 38, 3) := by decide +kernel
theorem dX6_copy_182 : decode cX6_copy 182 = .ok (.iload 6, 2) := by decide +kernel
theorem dX6_copy_184 : decode cX6_copy 184 = .ok (.laload, 1) := by decide +kernel
theorem dX6_copy_185 : decode cX6_copy 185 = .ok (.lastore, 1) := by decide +kernel
theorem dX6_copy_186 : decode cX6_copy 186 = .ok (.iinc 6 1, 3) := by decide +kernel
theorem dX6_copy_189 : decode cX6_copy 189 = .ok (.goto (-32), 3) := by decide +kernel
theorem dX6_copy_192 : decode cX6_copy 192 = .ok (.iload 5, 2) := by decide +kernel
theorem dX6_copy_194 : decode cX6_copy 194 = .ok (.ireturn, 1) := by decide +kernel
theorem dX6_lays_0 : decode cX6_lays 0 = .ok (.aload_n 0, 1) := by decide +kernel
theorem dX6_lays_1 : decode cX6_lays 1 = .ok (.iload_n 1, 1) := by decide +kernel
theorem dX6_lays_2 : decode cX6_lays 2 = .ok (.invokevirtual 289, 3) := by decide +kernel
theorem dX6_lays_5 : decode cX6_lays 5 = .ok (.istore_n 2, 1) := by decide +kernel
theorem dX6_lays_6 : decode cX6_lays 6 = .ok (.iload_n 2, 1) := by decide +kernel
theorem dX6_lays_7 : decode cX6_lays 7 = .ok (.ifCond .eq 9, 3) := by decide +kernel
theorem dX6_lays_10 : decode cX6_lays 10 = .ok (.aload_n 0, 1) := by decide +kernel
theorem dX6_lays_11 : decode cX6_lays 11 = .ok (.iload_n 2, 1) := by decide +kernel
theorem dX6_lays_12 : decode cX6_lays 12 = .ok (.invokevirtual 67, 3) := by decide +kernel
theorem dX6_lays_15 : decode cX6_lays 15 = .ok (.ireturn, 1) := by decide +kernel
theorem dX6_lays_16 : decode cX6_lays 16 = .ok (.iconst 0, 1) := by decide +kernel
theorem dX6_lays_17 : decode cX6_lays 17 = .ok (.istore_n 3, 1) := by decide +kernel
theorem dX6_lays_18 : decode cX6_lays 18 = .ok (.iconst 0, 1) := by decide +kernel
theorem dX6_lays_19 : decode cX6_lays 19 = .ok (.istore 4, 2) := by decide +kernel
theorem dX6_lays_21 : decode cX6_lays 21 = .ok (.iload 4, 2) := by decide +kernel
theorem dX6_lays_23 : decode cX6_lays 23 = .ok (.aload_n 0, 1) := by decide +kernel
theorem dX6_lays_24 : decode cX6_lays 24 = .ok (.getfield 31, 3) := by decide +kernel
theorem dX6_lays_27 : decode cX6_lays 27 = .ok (.iload_n 1, 1) := by decide +kernel
theorem dX6_lays_28 : decode cX6_lays 28 = .ok (.iaload, 1) := by decide +kernel
theorem dX6_lays_29 : decode cX6_lays 29 = .ok (.if_icmp .ge 93, 3) := by decide +kernel
theorem dX6_lays_32 : decode cX6_lays 32 = .ok (.iload 4, 2) := by decide +kernel
theorem dX6_lays_34 : decode cX6_lays 34 = .ok (.aload_n 0, 1) := by decide +kernel
theorem dX6_lays_35 : decode cX6_lays 35 = .ok (.getfield 7, 3) := by decide +kernel
theorem dX6_lays_38 : decode cX6_lays 38 = .ok (.iconst 1, 1) := by decide +kernel
theorem dX6_lays_39 : decode cX6_lays 39 = .ok (.iaload, 1) := by decide +kernel
theorem dX6_lays_40 : decode cX6_lays 40 = .ok (.if_icmp .ge 82, 3) := by decide +kernel
theorem dX6_lays_43 : decode cX6_lays 43 = .ok (.aload_n 0, 1) := by decide +kernel
theorem dX6_lays_44 : decode cX6_lays 44 = .ok (.getfield 34, 3) := by decide +kernel
theorem dX6_lays_47 : decode cX6_lays 47 = .ok (.bipush 40, 2) := by decide +kernel
theorem dX6_lays_49 : decode cX6_lays 49 = .ok (.iload_n 1, 1) := by decide +kernel
theorem dX6_lays_50 : decode cX6_lays 50 = .ok (.imul, 1) := by decide +kernel
theorem dX6_lays_51 : decode cX6_lays 51 = .ok (.iload 4, 2) := by decide +kernel
theorem dX6_lays_53 : decode cX6_lays 53 = .ok (.iadd, 1) := by decide +kernel
theorem dX6_lays_54 : decode cX6_lays 54 = .ok (.laload, 1) := by decide +kernel
theorem dX6_lays_55 : decode cX6_lays 55 = .ok (.lconst 0, 1) := by decide +kernel
theorem dX6_lays_56 : decode cX6_lays 56 = .ok (.ldc2_w 58, 3) := by decide +kernel
theorem dX6_lays_59 : decode cX6_lays 59 = .ok (.invokestatic 46, 3) := by decide +kernel
theorem dX6_lays_62 : decode cX6_lays 62 = .ok (.istore 5, 2) := by decide +kernel
theorem dX6_lays_64 : decode cX6_lays 64 = .ok (.aload_n 0, 1) := by decide +kernel
theorem dX6_lays_65 : decode cX6_lays 65 = .ok (.getfield 7, 3) := by decide +kernel
theorem dX6_lays_68 : decode cX6_lays 68 = .ok (.iload 4, 2) := by decide +kernel
theorem dX6_lays_70 : decode cX6_lays 70 = .ok (.iconst 2, 1) := by decide +kernel
theorem dX6_lays_71 : decode cX6_lays 71 = .ok (.invokestatic 42, 3) := by decide +kernel
theorem dX6_lays_74 : decode cX6_lays 74 = .ok (.iload 5, 2) := by decide +kernel
theorem dX6_lays_76 : decode cX6_lays 76 = .ok (.ifCond .eq 19, 3) := by decide +kernel
theorem dX6_lays_79 : decode cX6_lays 79 = .ok (.aload_n 0, 1) := by decide +kernel
theorem dX6_lays_80 : decode cX6_lays 80 = .ok (.getfield 34, 3) := by decide +kernel
theorem dX6_lays_83 : decode cX6_lays 83 = .ok (.bipush 40, 2) := by decide +kernel
theorem dX6_lays_85 : decode cX6_lays 85 = .ok (.iload_n 1, 1) := by decide +kernel
theorem dX6_lays_86 : decode cX6_lays 86 = .ok (.imul, 1) := by decide +kernel
theorem dX6_lays_87 : decode cX6_lays 87 = .ok (.iload 4, 2) := by decide +kernel
theorem dX6_lays_89 : decode cX6_lays 89 = .ok (.iadd, 1) := by decide +kernel
theorem dX6_lays_90 : decode cX6_lays 90 = .ok (.laload, 1) := by decide +kernel
theorem dX6_lays_91 : decode cX6_lays 91 = .ok (.l2i, 1) := by decide +kernel
theorem dX6_lays_92 : decode cX6_lays 92 = .ok (.goto 10, 3) := by decide +kernel
theorem dX6_lays_95 : decode cX6_lays 95 = .ok (.aload_n 0, 1) := by decide +kernel
theorem dX6_lays_96 : decode cX6_lays 96 = .ok (.iload 4, 2) := by decide +kernel
theorem dX6_lays_98 : decode cX6_lays 98 = .ok (.iconst 2, 1) := by decide +kernel
theorem dX6_lays_99 : decode cX6_lays 99 = .ok (.invokevirtual 55, 3) := by decide +kernel
theorem dX6_lays_102 : decode cX6_lays 102 = .ok (.iastore, 1) := by decide +kernel
theorem dX6_lays_103 : decode cX6_lays 103 = .ok (.iload_n 3, 1) := by decide +kernel
theorem dX6_lays_104 : decode cX6_lays 104 = .ok (.iload 5, 2) := by decide +kernel
theorem dX6_lays_106 : decode cX6_lays 106 = .ok (.ifCond .eq 7, 3) := by decide +kernel
theorem dX6_lays_109 : decode cX6_lays 109 = .ok (.iconst 1, 1) := by decide +kernel
theorem dX6_lays_110 : decode cX6_lays 110 = .ok (.goto 4, 3) := by decide +kernel
theorem dX6_lays_113 : decode cX6_lays 113 = .ok (.iconst 0, 1) := by decide +kernel
theorem dX6_lays_114 : decode cX6_lays 114 = .ok (.iadd, 1) := by decide +kernel
theorem dX6_lays_115 : decode cX6_lays 115 = .ok (.istore_n 3, 1) := by decide +kernel
theorem dX6_lays_116 : decode cX6_lays 116 = .ok (.iinc 4 1, 3) := by decide +kernel
theorem dX6_lays_119 : decode cX6_lays 119 = .ok (.goto (-98), 3) := by decide +kernel
theorem dX6_lays_122 : decode cX6_lays 122 = .ok (.iload_n 3, 1) := by decide +kernel
theorem dX6_lays_123 : decode cX6_lays 123 = .ok (.ireturn, 1) := by decide +kernel
theorem dX6_book_0 : decode cX6_book 0 = .ok (.aload_n 0, 1) := by decide +kernel
theorem dX6_book_1 : decode cX6_book 1 = .ok (.iload_n 1, 1) := by decide +kernel
theorem dX6_book_2 : decode cX6_book 2 = .ok (.invokevirtual 289, 3) := by decide +kernel
theorem dX6_book_5 : decode cX6_book 5 = .ok (.istore_n 3, 1) := by decide +kernel
theorem dX6_book_6 : decode cX6_book 6 = .ok (.iload_n 3, 1) := by decide +kernel
theorem dX6_book_7 : decode cX6_book 7 = .ok (.ifCond .eq 9, 3) := by decide +kernel
theorem dX6_book_10 : decode cX6_book 10 = .ok (.aload_n 0, 1) := by decide +kernel
theorem dX6_book_11 : decode cX6_book 11 = .ok (.iload_n 3, 1) := by decide +kernel
theorem dX6_book_12 : decode cX6_book 12 = .ok (.invokevirtual 67, 3) := by decide +kernel
theorem dX6_book_15 : decode cX6_book 15 = .ok (.ireturn, 1) := by decide +kernel
theorem dX6_book_16 : decode cX6_book 16 = .ok (.aload_n 0, 1) := by decide +kernel
theorem dX6_book_17 : decode cX6_book 17 = .ok (.iload_n 2, 1) := by decide +kernel
theorem dX6_book_18 : decode cX6_book 18 = .ok (.invokevirtual 110, 3) := by decide +kernel
theorem dX6_book_21 : decode cX6_book 21 = .ok (.ifCond .ne 10, 3) := by decide +kernel
theorem dX6_book_24 : decode cX6_book 24 = .ok (.aload_n 0, 1) := by decide +kernel
theorem dX6_book_25 : decode cX6_book 25 = .ok (.ldc 41, 2) := by decide +kernel
theorem dX6_book_27 : decode cX6_book 27 = .ok (.invokevirtual 67, 3) := by decide +kernel
theorem dX6_book_30 : decode cX6_book 30 = .ok (.ireturn, 1) := by decide +kernel
theorem dX6_book_31 : decode cX6_book 31 = .ok (.aload_n 0, 1) := by decide +kernel
theorem dX6_book_32 : decode cX6_book 32 = .ok (.invokevirtual 149, 3) := by decide +kernel
theorem dX6_book_35 : decode cX6_book 35 = .ok (.iconst 0, 1) := by decide +kernel
theorem dX6_book_36 : decode cX6_book 36 = .ok (.istore 4, 2) := by decide +kernel
theorem dX6_book_38 : decode cX6_book 38 = .ok (.iload 4, 2) := by decide +kernel
theorem dX6_book_40 : decode cX6_book 40 = .ok (.aload_n 0, 1) := by decide +kernel
theorem dX6_book_41 : decode cX6_book 41 = .ok (.getfield 31, 3) := by decide +kernel
theorem dX6_book_44 : decode cX6_book 44 = .ok (.iload_n 1, 1) := by decide +kernel
theorem dX6_book_45 : decode cX6_book 45 = .ok (.iaload, 1) := by decide +kernel
theorem dX6_book_46 : decode cX6_book 46 = .ok (.if_icmp .ge 41, 3) := by decide +kernel
theorem dX6_book_49 : decode cX6_book 49 = .ok (.aload_n 0, 1) := by decide +kernel
theorem dX6_book_50 : decode cX6_book 50 = .ok (.getfield 34, 3) := by decide +kernel
theorem dX6_book_53 : decode cX6_book 53 = .ok (.bipush 40, 2) := by decide +kernel
theorem dX6_book_55 : decode cX6_book 55 = .ok (.iload_n 1, 1) := by decide +kernel
theorem dX6_book_56 : decode cX6_book 56 = .ok (.imul, 1) := by decide +kernel
theorem dX6_book_57 : decode cX6_book 57 = .ok (.iload 4, 2) := by decide +kernel
theorem dX6_book_59 : decode cX6_book 59 = .ok (.iadd, 1) := by decide +kernel
theorem dX6_book_60 : decode cX6_book 60 = .ok (.aload_n 0, 1) := by decide +kernel
theorem dX6_book_61 : decode cX6_book 61 = .ok (.getfield 28, 3) := by decide +kernel
theorem dX6_book_64 : decode cX6_book 64 = .ok (.iload_n 1, 1) := by decide +kernel
theorem dX6_book_65 : decode cX6_book 65 = .ok (.iaload, 1) := by decide +kernel
theorem dX6_book_66 : decode cX6_book 66 = .ok (.aload_n 0, 1) := by decide +kernel
theorem dX6_book_67 : decode cX6_book 67 = .ok (.iload_n 2, 1) := by decide +kernel
theorem dX6_book_68 : decode cX6_book 68 = .ok (.iconst 2, 1) := by decide +kernel
theorem dX6_book_69 : decode cX6_book 69 = .ok (.invokevirtual 55, 3) := by decide +kernel
theorem dX6_book_72 : decode cX6_book 72 = .ok (.i2l, 1) := by decide +kernel
theorem dX6_book_73 : decode cX6_book 73 = .ok (.invokestatic 292, 3) := by decide +kernel
theorem dX6_book_76 : decode cX6_book 76 = .ok (.lastore, 1) := by decide +kernel
theorem dX6_book_77 : decode cX6_book 77 = .ok (.aload_n 0, 1) := by decide +kernel
theorem dX6_book_78 : decode cX6_book 78 = .ok (.invokevirtual 137, 3) := by decide +kernel
theorem dX6_book_81 : decode cX6_book 81 = .ok (.iinc 4 1, 3) := by decide +kernel
theorem dX6_book_84 : decode cX6_book 84 = .ok (.goto (-46), 3) := by decide +kernel
theorem dX6_book_87 : decode cX6_book 87 = .ok (.aload_n 0, 1) := by decide +kernel
theorem dX6_book_88 : decode cX6_book 88 = .ok (.aload_n 0, 1) := by decide +kernel
theorem dX6_book_89 : decode cX6_book 89 = .ok (.getfield 31, 3) := by decide +kernel
theorem dX6_book_92 : decode cX6_book 92 = .ok (.iload_n 1, 1) := by decide +kernel
theorem dX6_book_93 : decode cX6_book 93 = .ok (.iaload, 1) := by decide +kernel
theorem dX6_book_94 : decode cX6_book 94 = .ok (.invokevirtual 152, 3) := by decide +kernel
theorem dX6_book_97 : decode cX6_book 97 = .ok (.ireturn, 1) := by decide +kernel
theorem dX6_isBook_0 : decode cX6_isBook 0 = .ok (.iconst 0, 1) := by decide +kernel
theorem dX6_isBook_1 : decode cX6_isBook 1 = .ok (.istore_n 3, 1) := by decide +kernel
theorem dX6_isBook_2 : decode cX6_isBook 2 = .ok (.iload_n 3, 1) := by decide +kernel
theorem dX6_isBook_3 : decode cX6_isBook 3 = .ok (.aload_n 0, 1) := by decide +kernel
theorem dX6_isBook_4 : decode cX6_isBook 4 = .ok (.getfield 31, 3) := by decide +kernel
theorem dX6_isBook_7 : decode cX6_isBook 7 = .ok (.iload_n 1, 1) := by decide +kernel
theorem dX6_isBook_8 : decode cX6_isBook 8 = .ok (.iaload, 1) := by decide +kernel
theorem dX6_isBook_9 : decode cX6_isBook 9 = .ok (.if_icmp .ge 37, 3) := by decide +kernel
theorem dX6_isBook_12 : decode cX6_isBook 12 = .ok (.aload_n 0, 1) := by decide +kernel
theorem dX6_isBook_13 : decode cX6_isBook 13 = .ok (.getfield 34, 3) := by decide +kernel
theorem dX6_isBook_16 : decode cX6_isBook 16 = .ok (.bipush 40, 2) := by decide +kernel
theorem dX6_isBook_18 : decode cX6_isBook 18 = .ok (.iload_n 1, 1) := by decide +kernel
theorem dX6_isBook_19 : decode cX6_isBook 19 = .ok (.imul, 1) := by decide +kernel
theorem dX6_isBook_20 : decode cX6_isBook 20 = .ok (.iload_n 3, 1) := by decide +kernel
theorem dX6_isBook_21 : decode cX6_isBook 21 = .ok (.iadd, 1) := by decide +kernel
theorem dX6_isBook_22 : decode cX6_isBook 22 = .ok (.laload, 1) := by decide +kernel
theorem dX6_isBook_23 : decode cX6_isBook 23 = .ok (.aload_n 0, 1) := by decide +kernel
theorem dX6_isBook_24 : decode cX6_isBook 24 = .ok (.iload_n 2, 1) := by decide +kernel
theorem dX6_isBook_25 : decode cX6_isBook 25 = .ok (.iconst 2, 1) := by decide +kernel
theorem dX6_isBook_26 : decode cX6_isBook 26 = .ok (.invokevirtual 55, 3) := by decide +kernel
theorem dX6_isBook_29 : decode cX6_isBook 29 = .ok (.i2l, 1) := by decide +kernel
theorem dX6_isBook_30 : decode cX6_isBook 30 = .ok (.lcmp, 1) := by decide +kernel
theorem dX6_isBook_31 : decode cX6_isBook 31 = .ok (.ifCond .eq 5, 3) := by decide +kernel
theorem dX6_isBook_34 : decode cX6_isBook 34 = .ok (.iconst 0, 1) := by decide +kernel
theorem dX6_isBook_35 : decode cX6_isBook 35 = .ok (.ireturn, 1) := by decide +kernel
theorem dX6_isBook_36 : decode cX6_isBook 36 = .ok (.aload_n 0, 1) := by decide +kernel
theorem dX6_isBook_37 : decode cX6_isBook 37 = .ok (.invokevirtual 137, 3) := by decide +kernel
theorem dX6_isBook_40 : decode cX6_isBook 40 = .ok (.iinc 3 1, 3) := by decide +kernel
theorem dX6_isBook_43 : decode cX6_isBook 43 = .ok (.goto (-41), 3) := by decide +kernel
theorem dX6_isBook_46 : decode cX6_isBook 46 = .ok (.iconst 1, 1) := by decide +kernel
theorem dX6_isBook_47 : decode cX6_isBook 47 = .ok (.ireturn, 1) := by decide +kernel
theorem dX6_read_0 : decode cX6_read 0 = .ok (.aload_n 0, 1) := by decide +kernel
theorem dX6_read_1 : decode cX6_read 1 = .ok (.iload_n 1, 1) := by decide +kernel
theorem dX6_read_2 : decode cX6_read 2 = .ok (.invokevirtual 289, 3) := by decide +kernel
theorem dX6_read_5 : decode cX6_read 5 = .ok (.istore 4, 2) := by decide +kernel
theorem dX6_read_7 : decode cX6_read 7 = .ok (.iload 4, 2) := by decide +kernel
theorem dX6_read_9 : decode cX6_read 9 = .ok (.ifCond .eq 10, 3) := by decide +kernel
theorem dX6_read_12 : decode cX6_read 12 = .ok (.aload_n 0, 1) := by decide +kernel
theorem dX6_read_13 : decode cX6_read 13 = .ok (.iload 4, 2) := by decide +kernel
theorem dX6_read_15 : decode cX6_read 15 = .ok (.invokevirtual 67, 3) := by decide +kernel
theorem dX6_read_18 : decode cX6_read 18 = .ok (.ireturn, 1) := by decide +kernel
theorem dX6_read_19 : decode cX6_read 19 = .ok (.aload_n 0, 1) := by decide +kernel
theorem dX6_read_20 : decode cX6_read 20 = .ok (.iload_n 2, 1) := by decide +kernel
theorem dX6_read_21 : decode cX6_read 21 = .ok (.invokevirtual 110, 3) := by decide +kernel
theorem dX6_read_24 : decode cX6_read 24 = .ok (.ifCond .eq 16, 3) := by decide +kernel
theorem dX6_read_27 : decode cX6_read 27 = .ok (.aload_n 0, 1) := by decide +kernel
theorem dX6_read_28 : decode cX6_read 28 = .ok (.iload_n 3, 1) := by decide +kernel
theorem dX6_read_29 : decode cX6_read 29 = .ok (.invokevirtual 110, 3) := by decide +kernel
theorem dX6_read_32 : decode cX6_read 32 = .ok (.ifCond .eq 8, 3) := by decide +kernel
theorem dX6_read_35 : decode cX6_read 35 = .ok (.iload_n 2, 1) := by decide +kernel
theorem dX6_read_36 : decode cX6_read 36 = .ok (.iload_n 3, 1) := by decide +kernel
theorem dX6_read_37 : decode cX6_read 37 = .ok (.if_icmp .ne 10, 3) := by decide +kernel
theorem dX6_read_40 : decode cX6_read 40 = .ok (.aload_n 0, 1) := by decide +kernel
theorem dX6_read_41 : decode cX6_read 41 = .ok (.ldc 41, 2) := by decide +kernel
theorem dX6_read_43 : decode cX6_read 43 = .ok (.invokevirtual 67, 3) := by decide +kernel
theorem dX6_read_46 : decode cX6_read 46 = .ok (.ireturn, 1) := by decide +kernel
theorem dX6_read_47 : decode cX6_read 47 = .ok (.aload_n 0, 1) := by decide +kernel
theorem dX6_read_48 : decode cX6_read 48 = .ok (.invokevirtual 149, 3) := by decide +kernel
theorem dX6_read_51 : decode cX6_read 51 = .ok (.iconst 0, 1) := by decide +kernel
theorem dX6_read_52 : decode cX6_read 52 = .ok (.istore 5, 2) := by decide +kernel
theorem dX6_read_54 : decode cX6_read 54 = .ok (.iconst 0, 1) := by decide +kernel
theorem dX6_read_55 : decode cX6_read 55 = .ok (.istore 6, 2) := by decide +kernel
theorem dX6_read_57 : decode cX6_read 57 = .ok (.iload 6, 2) := by decide +kernel
theorem dX6_read_59 : decode cX6_read 59 = .ok (.bipush 36, 2) := by decide +kernel
theorem dX6_read_61 : decode cX6_read 61 = .ok (.if_icmp .ge 62, 3) := by decide +kernel
theorem dX6_read_64 : decode cX6_read 64 = .ok (.aload_n 0, 1) := by decide +kernel
theorem dX6_read_65 : decode cX6_read 65 = .ok (.getfield 7, 3) := by decide +kernel
theorem dX6_read_68 : decode cX6_read 68 = .ok (.iload_n 2, 1) := by decide +kernel
theorem dX6_read_69 : decode cX6_read 69 = .ok (.iconst 0, 1) := by decide +kernel
theorem dX6_read_70 : decode cX6_read 70 = .ok (.invokestatic 42, 3) := by decide +kernel
theorem dX6_read_73 : decode cX6_read 73 = .ok (.iload 6, 2) := by decide +kernel
theorem dX6_read_75 : decode cX6_read 75 = .ok (.bipush 6, 2) := by decide +kernel
theorem dX6_read_77 : decode cX6_read 77 = .ok (.idiv, 1) := by decide +kernel
theorem dX6_read_78 : decode cX6_read 78 = .ok (.iastore, 1) := by decide +kernel
theorem dX6_read_79 : decode cX6_read 79 = .ok (.aload_n 0, 1) := by decide +kernel
theorem dX6_read_80 : decode cX6_read 80 = .ok (.getfield 7, 3) := by decide +kernel
theorem dX6_read_83 : decode cX6_read 83 = .ok (.iload_n 3, 1) := by decide +kernel
theorem dX6_read_84 : decode cX6_read 84 = .ok (.iconst 0, 1) := by decide +kernel
theorem dX6_read_85 : decode cX6_read 85 = .ok (.invokestatic 42, 3) := by decide +kernel
theorem dX6_read_88 : decode cX6_read 88 = .ok (.iload 6, 2) := by decide +kernel
theorem dX6_read_90 : decode cX6_read 90 = .ok (.bipush 6, 2) := by decide +kernel
theorem dX6_read_92 : decode cX6_read 92 = .ok (.irem, 1) := by decide +kernel
theorem dX6_read_93 : decode cX6_read 93 = .ok (.iastore, 1) := by decide +kernel
theorem dX6_read_94 : decode cX6_read 94 = .ok (.aload_n 0, 1) := by decide +kernel
theorem dX6_read_95 : decode cX6_read 95 = .ok (.iload 5, 2) := by decide +kernel
theorem dX6_read_97 : decode cX6_read 97 = .ok (.aload_n 0, 1) := by decide +kernel
theorem dX6_read_98 : decode cX6_read 98 = .ok (.iload_n 1, 1) := by decide +kernel
theorem dX6_read_99 : decode cX6_read 99 = .ok (.iload_n 2, 1) := by decide +kernel
theorem dX6_read_100 : decode cX6_read 100 = .ok (.invokevirtual 296, 3) := by decide +kernel
theorem dX6_read_103 : decode cX6_read 103 = .ok (.ifCond .eq 7, 3) := by decide +kernel
theorem dX6_read_106 : decode cX6_read 106 = .ok (.iconst 1, 1) := by decide +kernel
theorem dX6_read_107 : decode cX6_read 107 = .ok (.goto 4, 3) := by decide +kernel
theorem dX6_read_110 : decode cX6_read 110 = .ok (.iconst 0, 1) := by decide +kernel
theorem dX6_read_111 : decode cX6_read 111 = .ok (.iadd, 1) := by decide +kernel
theorem dX6_read_112 : decode cX6_read 112 = .ok (.invokevirtual 152, 3) := by decide +kernel
theorem dX6_read_115 : decode cX6_read 115 = .ok (.istore 5, 2) := by decide +kernel
theorem dX6_read_117 : decode cX6_read 117 = .ok (.iinc 6 1, 3) := by decide +kernel
theorem dX6_read_120 : decode cX6_read 120 = .ok (.goto (-63), 3) := by decide +kernel
theorem dX6_read_123 : decode cX6_read 123 = .ok (.iload 5, 2) := by decide +kernel
theorem dX6_read_125 : decode cX6_read 125 = .ok (.ireturn, 1) := by decide +kernel
theorem dX6_image_0 : decode cX6_image 0 = .ok (.iconst 0, 1) := by decide +kernel
theorem dX6_image_1 : decode cX6_image 1 = .ok (.istore_n 1, 1) := by decide +kernel
theorem dX6_image_2 : decode cX6_image 2 = .ok (.iload_n 1, 1) := by decide +kernel
theorem dX6_image_3 : decode cX6_image 3 = .ok (.bipush 48, 2) := by decide +kernel
theorem dX6_image_5 : decode cX6_image 5 = .ok (.if_icmp .ge 21, 3) := by decide +kernel
theorem dX6_image_8 : decode cX6_image 8 = .ok (.aload_n 0, 1) := by decide +kernel
theorem dX6_image_9 : decode cX6_image 9 = .ok (.getfield 13, 3) := by decide +kernel
theorem dX6_image_12 : decode cX6_image 12 = .ok (.iload_n 1, 1) := by decide +kernel
theorem dX6_image_13 : decode cX6_image 13 = .ok (.aload_n 0, 1) := by decide +kernel
theorem dX6_image_14 : decode cX6_image 14 = .ok (.getfield 7, 3) := by decide +kernel
theorem dX6_image_17 : decode cX6_image 17 = .ok (.iload_n 1, 1) := by decide +kernel
theorem dX6_image_18 : decode cX6_image 18 = .ok (.iaload, 1) := by decide +kernel
theorem dX6_image_19 : decode cX6_image 19 = .ok (.iastore, 1) := by decide +kernel
theorem dX6_image_20 : decode cX6_image 20 = .ok (.iinc 1 1, 3) := by decide +kernel
theorem dX6_image_23 : decode cX6_image 23 = .ok (.goto (-21), 3) := by decide +kernel
theorem dX6_image_26 : decode cX6_image 26 = .ok (.aload_n 0, 1) := by decide +kernel
theorem dX6_image_27 : decode cX6_image 27 = .ok (.iconst 1, 1) := by decide +kernel
theorem dX6_image_28 : decode cX6_image 28 = .ok (.putfield 299, 3) := by decide +kernel
theorem dX6_image_31 : decode cX6_image 31 = .ok (.iconst 1, 1) := by decide +kernel
theorem dX6_image_32 : decode cX6_image 32 = .ok (.ireturn, 1) := by decide +kernel
theorem dX6_undo_0 : decode cX6_undo 0 = .ok (.aload_n 0, 1) := by decide +kernel
theorem dX6_undo_1 : decode cX6_undo 1 = .ok (.getfield 299, 3) := by decide +kernel
theorem dX6_undo_4 : decode cX6_undo 4 = .ok (.ifCond .ne 10, 3) := by decide +kernel
theorem dX6_undo_7 : decode cX6_undo 7 = .ok (.aload_n 0, 1) := by decide +kernel
theorem dX6_undo_8 : decode cX6_undo 8 = .ok (.ldc 161, 2) := by decide +kernel
theorem dX6_undo_10 : decode cX6_undo 10 = .ok (.invokevirtual 67, 3) := by decide +kernel
theorem dX6_undo_13 : decode cX6_undo 13 = .ok (.ireturn, 1) := by decide +kernel
theorem dX6_undo_14 : decode cX6_undo 14 = .ok (.iconst 0, 1) := by decide +kernel
theorem dX6_undo_15 : decode cX6_undo 15 = .ok (.istore_n 1, 1) := by decide +kernel
theorem dX6_undo_16 : decode cX6_undo 16 = .ok (.iload_n 1, 1) := by decide +kernel
theorem dX6_undo_17 : decode cX6_undo 17 = .ok (.bipush 48, 2) := by decide +kernel
theorem dX6_undo_19 : decode cX6_undo 19 = .ok (.if_icmp .ge 21, 3) := by decide +kernel
theorem dX6_undo_22 : decode cX6_undo 22 = .ok (.aload_n 0, 1) := by decide +kernel
theorem dX6_undo_23 : decode cX6_undo 23 = .ok (.getfield 7, 3) := by decide +kernel
theorem dX6_undo_26 : decode cX6_undo 26 = .ok (.iload_n 1, 1) := by decide +kernel
theorem dX6_undo_27 : decode cX6_undo 27 = .ok (.aload_n 0, 1) := by decide +kernel
theorem dX6_undo_28 : decode cX6_undo 28 = .ok (.getfield 13, 3) := by decide +kernel
theorem dX6_undo_31 : decode cX6_undo 31 = .ok (.iload_n 1, 1) := by decide +kernel
theorem dX6_undo_32 : decode cX6_undo 32 = .ok (.iaload, 1) := by decide +kernel
theorem dX6_undo_33 : decode cX6_undo 33 = .ok (.iastore, 1) := by decide +kernel
theorem dX6_undo_34 : decode cX6_undo 34 = .ok (.iinc 1 1, 3) := by decide +kernel
theorem dX6_undo_37 : decode cX6_undo 37 = .ok (.goto (-21), 3) := by decide +kernel
theorem dX6_undo_40 : decode cX6_undo 40 = .ok (.aload_n 0, 1) := by decide +kernel
theorem dX6_undo_41 : decode cX6_undo 41 = .ok (.getfield 7, 3) := by decide +kernel
theorem dX6_undo_44 : decode cX6_undo 44 = .ok (.iconst 1, 1) := by decide +kernel
theorem dX6_undo_45 : decode cX6_undo 45 = .ok (.iaload, 1) := by decide +kernel
theorem dX6_undo_46 : decode cX6_undo 46 = .ok (.ireturn, 1) := by decide +kernel
theorem dX6_tear_0 : decode cX6_tear 0 = .ok (.aload_n 0, 1) := by decide +kernel
theorem dX6_tear_1 : decode cX6_tear 1 = .ok (.getfield 299, 3) := by decide +kernel
theorem dX6_tear_4 : decode cX6_tear 4 = .ok (.ifCond .eq 7, 3) := by decide +kernel
theorem dX6_tear_7 : decode cX6_tear 7 = .ok (.iconst 1, 1) := by decide +kernel
theorem dX6_tear_8 : decode cX6_tear 8 = .ok (.goto 4, 3) := by decide +kernel
theorem dX6_tear_11 : decode cX6_tear 11 = .ok (.iconst 0, 1) := by decide +kernel
theorem dX6_tear_12 : decode cX6_tear 12 = .ok (.istore_n 1, 1) := by decide +kernel
theorem dX6_tear_13 : decode cX6_tear 13 = .ok (.aload_n 0, 1) := by decide +kernel
theorem dX6_tear_14 : decode cX6_tear 14 = .ok (.iconst 0, 1) := by decide +kernel
theorem dX6_tear_15 : decode cX6_tear 15 = .ok (.putfield 299, 3) := by decide +kernel
theorem dX6_tear_18 : decode cX6_tear 18 = .ok (.iload_n 1, 1) := by decide +kernel
theorem dX6_tear_19 : decode cX6_tear 19 = .ok (.ireturn, 1) := by decide +kernel
theorem dX6_count_0 : decode cX6_count 0 = .ok (.iload_n 1, 1) := by decide +kernel
theorem dX6_count_1 : decode cX6_count 1 = .ok (.tableswitch 55 0 3 #[31, 38, 43, 49], 31) := by decide +kernel
theorem dX6_count_32 : decode cX6_count 32 = .ok (.aload_n 0, 1) := by decide +kernel
theorem dX6_count_33 : decode cX6_count 33 = .ok (.getfield 7, 3) := by decide +kernel
theorem dX6_count_36 : decode cX6_count 36 = .ok (.iconst 1, 1) := by decide +kernel
theorem dX6_count_37 : decode cX6_count 37 = .ok (.iaload, 1) := by decide +kernel
theorem dX6_count_38 : decode cX6_count 38 = .ok (.ireturn, 1) := by decide +kernel
theorem dX6_count_39 : decode cX6_count 39 = .ok (.aload_n 0, 1) := by decide +kernel
theorem dX6_count_40 : decode cX6_count 40 = .ok (.getfield 177, 3) := by decide +kernel
theorem dX6_count_43 : decode cX6_count 43 = .ok (.ireturn, 1) := by decide +kernel
theorem dX6_count_44 : decode cX6_count 44 = .ok (.aload_n 0, 1) := by decide +kernel
theorem dX6_count_45 : decode cX6_count 45 = .ok (.iconst 0, 1) := by decide +kernel
theorem dX6_count_46 : decode cX6_count 46 = .ok (.invokevirtual 91, 3) := by decide +kernel
theorem dX6_count_49 : decode cX6_count 49 = .ok (.ireturn, 1) := by decide +kernel
theorem dX6_count_50 : decode cX6_count 50 = .ok (.aload_n 0, 1) := by decide +kernel
theorem dX6_count_51 : decode cX6_count 51 = .ok (.iconst 1, 1) := by decide +kernel
theorem dX6_count_52 : decode cX6_count 52 = .ok (.invokevirtual 91, 3) := by decide +kernel
theorem dX6_count_55 : decode cX6_count 55 = .ok (.ireturn, 1) := by decide +kernel
theorem dX6_count_56 : decode cX6_count 56 = .ok (.aload_n 0, 1) := by decide +kernel
theorem dX6_count_57 : decode cX6_count 57 = .ok (.ldc 41, 2) := by decide +kernel
theorem dX6_count_59 : decode cX6_count 59 = .ok (.invokevirtual 67, 3) := by decide +kernel
theorem dX6_count_62 : decode cX6_count 62 = .ok (.ireturn, 1) := by decide +kernel
theorem dX6_status_0 : decode cX6_status 0 = .ok (.iload_n 1, 1) := by decide +kernel
theorem dX6_status_1 : decode cX6_status 1 = .ok (.i2l, 1) := by decide +kernel
theorem dX6_status_2 : decode cX6_status 2 = .ok (.ldc2_w 302, 3) := by decide +kernel
theorem dX6_status_5 : decode cX6_status 5 = .ok (.ldc2_w 304, 3) := by decide +kernel
theorem dX6_status_8 : decode cX6_status 8 = .ok (.invokestatic 46, 3) := by decide +kernel
theorem dX6_status_11 : decode cX6_status 11 = .ok (.ifCond .ne 10, 3) := by decide +kernel
theorem dX6_status_14 : decode cX6_status 14 = .ok (.aload_n 0, 1) := by decide +kernel
theorem dX6_status_15 : decode cX6_status 15 = .ok (.ldc 41, 2) := by decide +kernel
theorem dX6_status_17 : decode cX6_status 17 = .ok (.invokevirtual 67, 3) := by decide +kernel
theorem dX6_status_20 : decode cX6_status 20 = .ok (.ireturn, 1) := by decide +kernel
theorem dX6_status_21 : decode cX6_status 21 = .ok (.iconst 0, 1) := by decide +kernel
theorem dX6_status_22 : decode cX6_status 22 = .ok (.istore_n 2, 1) := by decide +kernel
theorem dX6_status_23 : decode cX6_status 23 = .ok (.iconst 0, 1) := by decide +kernel
theorem dX6_status_24 : decode cX6_status 24 = .ok (.istore_n 3, 1) := by decide +kernel
theorem dX6_status_25 : decode cX6_status 25 = .ok (.iload_n 3, 1) := by decide +kernel
theorem dX6_status_26 : decode cX6_status 26 = .ok (.bipush 7, 2) := by decide +kernel
theorem dX6_status_28 : decode cX6_status 28 = .ok (.if_icmp .ge 31, 3) := by decide +kernel
theorem dX6_status_31 : decode cX6_status 31 = .ok (.iload_n 2, 1) := by decide +kernel
theorem dX6_status_32 : decode cX6_status 32 = .ok (.iload_n 1, 1) := by decide +kernel
theorem dX6_status_33 : decode cX6_status 33 = .ok (.ifCond .lt 8, 3) := by decide +kernel
theorem dX6_status_36 : decode cX6_status 36 = .ok (.iload_n 3, 1) := by decide +kernel
theorem dX6_status_37 : decode cX6_status 37 = .ok (.iload_n 1, 1) := by decide +kernel
theorem dX6_status_38 : decode cX6_status 38 = .ok (.if_icmp .ne 12, 3) := by decide +kernel
theorem dX6_status_41 : decode cX6_status 41 = .ok (.aload_n 0, 1) := by decide +kernel
theorem dX6_status_42 : decode cX6_status 42 = .ok (.getfield 22, 3) := by decide +kernel
theorem dX6_status_45 : decode cX6_status 45 = .ok (.iload_n 3, 1) := by decide +kernel
theorem dX6_status_46 : decode cX6_status 46 = .ok (.iaload, 1) := by decide +kernel
theorem dX6_status_47 : decode cX6_status 47 = .ok (.goto 4, 3) := by decide +kernel
theorem dX6_status_50 : decode cX6_status 50 = .ok (.iconst 0, 1) := by decide +kernel
theorem dX6_status_51 : decode cX6_status 51 = .ok (.iadd, 1) := by decide +kernel
theorem dX6_status_52 : decode cX6_status 52 = .ok (.istore_n 2, 1) := by decide +kernel
theorem dX6_status_53 : decode cX6_status 53 = .ok (.iinc 3 1, 3) := by decide +kernel
theorem dX6_status_56 : decode cX6_status 56 = .ok (.goto (-31), 3) := by decide +kernel
theorem dX6_status_59 : decode cX6_status 59 = .ok (.iload_n 2, 1) := by decide +kernel
theorem dX6_status_60 : decode cX6_status 60 = .ok (.ireturn, 1) := by decide +kernel
