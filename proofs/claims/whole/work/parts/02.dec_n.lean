theorem dX0_isUnder_0 : decode cX0_isUnder 0 = .ok (.iload_n 0, 1) := by decide +kernel
theorem dX0_isUnder_1 : decode cX0_isUnder 1 = .ok (.istore_n 2, 1) := by decide +kernel
theorem dX0_isUnder_2 : decode cX0_isUnder 2 = .ok (.iconst 0, 1) := by decide +kernel
theorem dX0_isUnder_3 : decode cX0_isUnder 3 = .ok (.istore_n 3, 1) := by decide +kernel
theorem dX0_isUnder_4 : decode cX0_isUnder 4 = .ok (.iload_n 3, 1) := by decide +kernel
theorem dX0_isUnder_5 : decode cX0_isUnder 5 = .ok (.bipush 6, 2) := by decide +kernel
theorem dX0_isUnder_7 : decode cX0_isUnder 7 = .ok (.if_icmp .ge 29, 3) := by decide +kernel
theorem dX0_isUnder_10 : decode cX0_isUnder 10 = .ok (.iload_n 2, 1) := by decide +kernel
theorem dX0_isUnder_11 : decode cX0_isUnder 11 = .ok (.invokestatic 9, 3) := by decide +kernel
theorem dX0_isUnder_14 : decode cX0_isUnder 14 = .ok (.ifCond .eq 22, 3) := by decide +kernel
theorem dX0_isUnder_17 : decode cX0_isUnder 17 = .ok (.iload_n 2, 1) := by decide +kernel
theorem dX0_isUnder_18 : decode cX0_isUnder 18 = .ok (.iload_n 1, 1) := by decide +kernel
theorem dX0_isUnder_19 : decode cX0_isUnder 19 = .ok (.if_icmp .ne 5, 3) := by decide +kernel
theorem dX0_isUnder_22 : decode cX0_isUnder 22 = .ok (.iconst 1, 1) := by decide +kernel
theorem dX0_isUnder_23 : decode cX0_isUnder 23 = .ok (.ireturn, 1) := by decide +kernel
theorem dX0_isUnder_24 : decode cX0_isUnder 24 = .ok (.getstatic 13, 3) := by decide +kernel
theorem dX0_isUnder_27 : decode cX0_isUnder 27 = .ok (.iload_n 2, 1) := by decide +kernel
theorem dX0_isUnder_28 : decode cX0_isUnder 28 = .ok (.iaload, 1) := by decide +kernel
theorem dX0_isUnder_29 : decode cX0_isUnder 29 = .ok (.istore_n 2, 1) := by decide +kernel
theorem dX0_isUnder_30 : decode cX0_isUnder 30 = .ok (.iinc 3 1, 3) := by decide +kernel
theorem dX0_isUnder_33 : decode cX0_isUnder 33 = .ok (.goto (-29), 3) := by decide +kernel
theorem dX0_isUnder_36 : decode cX0_isUnder 36 = .ok (.iconst 0, 1) := by decide +kernel
theorem dX0_isUnder_37 : decode cX0_isUnder 37 = .ok (.ireturn, 1) := by decide +kernel
theorem dX0_earns_0 : decode cX0_earns 0 = .ok (.iload_n 0, 1) := by decide +kernel
theorem dX0_earns_1 : decode cX0_earns 1 = .ok (.invokestatic 9, 3) := by decide +kernel
theorem dX0_earns_4 : decode cX0_earns 4 = .ok (.ifCond .eq 11, 3) := by decide +kernel
theorem dX0_earns_7 : decode cX0_earns 7 = .ok (.getstatic 19, 3) := by decide +kernel
theorem dX0_earns_10 : decode cX0_earns 10 = .ok (.iload_n 0, 1) := by decide +kernel
theorem dX0_earns_11 : decode cX0_earns 11 = .ok (.iaload, 1) := by decide +kernel
theorem dX0_earns_12 : decode cX0_earns 12 = .ok (.goto 4, 3) := by decide +kernel
theorem dX0_earns_15 : decode cX0_earns 15 = .ok (.iconst 0, 1) := by decide +kernel
theorem dX0_earns_16 : decode cX0_earns 16 = .ok (.ireturn, 1) := by decide +kernel
theorem dX0_throwsWith_0 : decode cX0_throwsWith 0 = .ok (.iload_n 0, 1) := by decide +kernel
theorem dX0_throwsWith_1 : decode cX0_throwsWith 1 = .ok (.iload_n 1, 1) := by decide +kernel
theorem dX0_throwsWith_2 : decode cX0_throwsWith 2 = .ok (.invokestatic 22, 3) := by decide +kernel
theorem dX0_throwsWith_5 : decode cX0_throwsWith 5 = .ok (.iload_n 1, 1) := by decide +kernel
theorem dX0_throwsWith_6 : decode cX0_throwsWith 6 = .ok (.invokestatic 26, 3) := by decide +kernel
theorem dX0_throwsWith_9 : decode cX0_throwsWith 9 = .ok (.ireturn, 1) := by decide +kernel
theorem dX0_wouldThrow_0 : decode cX0_wouldThrow 0 = .ok (.iload_n 0, 1) := by decide +kernel
theorem dX0_wouldThrow_1 : decode cX0_wouldThrow 1 = .ok (.tableswitch 55 1 5 #[35, 42, 44, 46, 42], 35) := by decide +kernel
theorem dX0_wouldThrow_36 : decode cX0_wouldThrow 36 = .ok (.iconst 1, 1) := by decide +kernel
theorem dX0_wouldThrow_37 : decode cX0_wouldThrow 37 = .ok (.iload_n 1, 1) := by decide +kernel
theorem dX0_wouldThrow_38 : decode cX0_wouldThrow 38 = .ok (.bipush 20, 2) := by decide +kernel
theorem dX0_wouldThrow_40 : decode cX0_wouldThrow 40 = .ok (.idiv, 1) := by decide +kernel
theorem dX0_wouldThrow_41 : decode cX0_wouldThrow 41 = .ok (.iadd, 1) := by decide +kernel
theorem dX0_wouldThrow_42 : decode cX0_wouldThrow 42 = .ok (.ireturn, 1) := by decide +kernel
theorem dX0_wouldThrow_43 : decode cX0_wouldThrow 43 = .ok (.iconst 0, 1) := by decide +kernel
theorem dX0_wouldThrow_44 : decode cX0_wouldThrow 44 = .ok (.ireturn, 1) := by decide +kernel
theorem dX0_wouldThrow_45 : decode cX0_wouldThrow 45 = .ok (.iconst 3, 1) := by decide +kernel
theorem dX0_wouldThrow_46 : decode cX0_wouldThrow 46 = .ok (.ireturn, 1) := by decide +kernel
theorem dX0_wouldThrow_47 : decode cX0_wouldThrow 47 = .ok (.iconst 2, 1) := by decide +kernel
theorem dX0_wouldThrow_48 : decode cX0_wouldThrow 48 = .ok (.iconst 1, 1) := by decide +kernel
theorem dX0_wouldThrow_49 : decode cX0_wouldThrow 49 = .ok (.iload_n 1, 1) := by decide +kernel
theorem dX0_wouldThrow_50 : decode cX0_wouldThrow 50 = .ok (.bipush 20, 2) := by decide +kernel
theorem dX0_wouldThrow_52 : decode cX0_wouldThrow 52 = .ok (.idiv, 1) := by decide +kernel
theorem dX0_wouldThrow_53 : decode cX0_wouldThrow 53 = .ok (.iadd, 1) := by decide +kernel
theorem dX0_wouldThrow_54 : decode cX0_wouldThrow 54 = .ok (.imul, 1) := by decide +kernel
theorem dX0_wouldThrow_55 : decode cX0_wouldThrow 55 = .ok (.ireturn, 1) := by decide +kernel
theorem dX0_wouldThrow_56 : decode cX0_wouldThrow 56 = .ok (.iconst 1, 1) := by decide +kernel
theorem dX0_wouldThrow_57 : decode cX0_wouldThrow 57 = .ok (.ireturn, 1) := by decide +kernel
theorem dX0_dives_0 : decode cX0_dives 0 = .ok (.iload_n 0, 1) := by decide +kernel
theorem dX0_dives_1 : decode cX0_dives 1 = .ok (.lookupswitch 54 #[(2, 27), (5, 37)], 27) := by decide +kernel
theorem dX0_dives_28 : decode cX0_dives 28 = .ok (.iconst 2, 1) := by decide +kernel
theorem dX0_dives_29 : decode cX0_dives 29 = .ok (.iload_n 1, 1) := by decide +kernel
theorem dX0_dives_30 : decode cX0_dives 30 = .ok (.iload_n 2, 1) := by decide +kernel
theorem dX0_dives_31 : decode cX0_dives 31 = .ok (.invokestatic 31, 3) := by decide +kernel
theorem dX0_dives_34 : decode cX0_dives 34 = .ok (.invokestatic 26, 3) := by decide +kernel
theorem dX0_dives_37 : decode cX0_dives 37 = .ok (.ireturn, 1) := by decide +kernel
theorem dX0_dives_38 : decode cX0_dives 38 = .ok (.iconst 2, 1) := by decide +kernel
theorem dX0_dives_39 : decode cX0_dives 39 = .ok (.iload_n 1, 1) := by decide +kernel
theorem dX0_dives_40 : decode cX0_dives 40 = .ok (.iload_n 2, 1) := by decide +kernel
theorem dX0_dives_41 : decode cX0_dives 41 = .ok (.iadd, 1) := by decide +kernel
theorem dX0_dives_42 : decode cX0_dives 42 = .ok (.bipush 10, 2) := by decide +kernel
theorem dX0_dives_44 : decode cX0_dives 44 = .ok (.idiv, 1) := by decide +kernel
theorem dX0_dives_45 : decode cX0_dives 45 = .ok (.iadd, 1) := by decide +kernel
theorem dX0_dives_46 : decode cX0_dives 46 = .ok (.iload_n 1, 1) := by decide +kernel
theorem dX0_dives_47 : decode cX0_dives 47 = .ok (.iload_n 2, 1) := by decide +kernel
theorem dX0_dives_48 : decode cX0_dives 48 = .ok (.invokestatic 31, 3) := by decide +kernel
theorem dX0_dives_51 : decode cX0_dives 51 = .ok (.invokestatic 26, 3) := by decide +kernel
theorem dX0_dives_54 : decode cX0_dives 54 = .ok (.ireturn, 1) := by decide +kernel
theorem dX0_dives_55 : decode cX0_dives 55 = .ok (.iconst 0, 1) := by decide +kernel
theorem dX0_dives_56 : decode cX0_dives 56 = .ok (.ireturn, 1) := by decide +kernel
theorem dX1_init_0 : decode cX1_init 0 = .ok (.aload_n 0, 1) := by decide +kernel
theorem dX1_init_1 : decode cX1_init 1 = .ok (.invokespecial 1, 3) := by decide +kernel
theorem dX1_init_4 : decode cX1_init 4 = .ok (.aload_n 0, 1) := by decide +kernel
theorem dX1_init_5 : decode cX1_init 5 = .ok (.iconst 4, 1) := by decide +kernel
theorem dX1_init_6 : decode cX1_init 6 = .ok (.bipush 40, 2) := by decide +kernel
theorem dX1_init_8 : decode cX1_init 8 = .ok (.multianewarray 9 2, 4) := by decide +kernel
theorem dX1_init_12 : decode cX1_init 12 = .ok (.putfield 11, 3) := by decide +kernel
theorem dX1_init_15 : decode cX1_init 15 = .ok (.aload_n 0, 1) := by decide +kernel
theorem dX1_init_16 : decode cX1_init 16 = .ok (.iconst 4, 1) := by decide +kernel
theorem dX1_init_17 : decode cX1_init 17 = .ok (.newarray .int, 2) := by decide +kernel
theorem dX1_init_19 : decode cX1_init 19 = .ok (.putfield 14, 3) := by decide +kernel
theorem dX1_init_22 : decode cX1_init 22 = .ok (.aload_n 0, 1) := by decide +kernel
theorem dX1_init_23 : decode cX1_init 23 = .ok (.iconst 4, 1) := by decide +kernel
theorem dX1_init_24 : decode cX1_init 24 = .ok (.newarray .int, 2) := by decide +kernel
theorem dX1_init_26 : decode cX1_init 26 = .ok (.putfield 18, 3) := by decide +kernel
theorem dX1_init_29 : decode cX1_init 29 = .ok (.return_, 1) := by decide +kernel
theorem dX1_areBits_0 : decode cX1_areBits 0 = .ok (.iload_n 0, 1) := by decide +kernel
theorem dX1_areBits_1 : decode cX1_areBits 1 = .ok (.ifCond .eq 21, 3) := by decide +kernel
theorem dX1_areBits_4 : decode cX1_areBits 4 = .ok (.iload_n 0, 1) := by decide +kernel
theorem dX1_areBits_5 : decode cX1_areBits 5 = .ok (.bipush 8, 2) := by decide +kernel
theorem dX1_areBits_7 : decode cX1_areBits 7 = .ok (.if_icmp .eq 15, 3) := by decide +kernel
theorem dX1_areBits_10 : decode cX1_areBits 10 = .ok (.iload_n 0, 1) := by decide +kernel
theorem dX1_areBits_11 : decode cX1_areBits 11 = .ok (.bipush 16, 2) := by decide +kernel
theorem dX1_areBits_13 : decode cX1_areBits 13 = .ok (.if_icmp .eq 9, 3) := by decide +kernel
theorem dX1_areBits_16 : decode cX1_areBits 16 = .ok (.iload_n 0, 1) := by decide +kernel
theorem dX1_areBits_17 : decode cX1_areBits 17 = .ok (.bipush 64, 2) := by decide +kernel
theorem dX1_areBits_19 : decode cX1_areBits 19 = .ok (.if_icmp .ne 7, 3) := by decide +kernel
theorem dX1_areBits_22 : decode cX1_areBits 22 = .ok (.iconst 1, 1) := by decide +kernel
theorem dX1_areBits_23 : decode cX1_areBits 23 = .ok (.goto 4, 3) := by decide +kernel
theorem dX1_areBits_26 : decode cX1_areBits 26 = .ok (.iconst 0, 1) := by decide +kernel
theorem dX1_areBits_27 : decode cX1_areBits 27 = .ok (.ireturn, 1) := by decide +kernel
theorem dX1_isMissing_0 : decode cX1_isMissing 0 = .ok (.aload_n 0, 1) := by decide +kernel
theorem dX1_isMissing_1 : decode cX1_isMissing 1 = .ok (.getfield 14, 3) := by decide +kernel
theorem dX1_isMissing_4 : decode cX1_isMissing 4 = .ok (.iload_n 1, 1) := by decide +kernel
theorem dX1_isMissing_5 : decode cX1_isMissing 5 = .ok (.iaload, 1) := by decide +kernel
theorem dX1_isMissing_6 : decode cX1_isMissing 6 = .ok (.ifCond .ne 7, 3) := by decide +kernel
theorem dX1_isMissing_9 : decode cX1_isMissing 9 = .ok (.iconst 1, 1) := by decide +kernel
theorem dX1_isMissing_10 : decode cX1_isMissing 10 = .ok (.goto 4, 3) := by decide +kernel
theorem dX1_isMissing_13 : decode cX1_isMissing 13 = .ok (.iconst 0, 1) := by decide +kernel
theorem dX1_isMissing_14 : decode cX1_isMissing 14 = .ok (.ireturn, 1) := by decide +kernel
theorem dX1_make_0 : decode cX1_make 0 = .ok (.aload_n 0, 1) := by decide +kernel
theorem dX1_make_1 : decode cX1_make 1 = .ok (.getfield 14, 3) := by decide +kernel
theorem dX1_make_4 : decode cX1_make 4 = .ok (.iload_n 1, 1) := by decide +kernel
theorem dX1_make_5 : decode cX1_make 5 = .ok (.iload_n 2, 1) := by decide +kernel
theorem dX1_make_6 : decode cX1_make 6 = .ok (.iastore, 1) := by decide +kernel
theorem dX1_make_7 : decode cX1_make 7 = .ok (.aload_n 0, 1) := by decide +kernel
theorem dX1_make_8 : decode cX1_make 8 = .ok (.getfield 18, 3) := by decide +kernel
theorem dX1_make_11 : decode cX1_make 11 = .ok (.iload_n 1, 1) := by decide +kernel
theorem dX1_make_12 : decode cX1_make 12 = .ok (.iload_n 2, 1) := by decide +kernel
theorem dX1_make_13 : decode cX1_make 13 = .ok (.ifCond .ne 7, 3) := by decide +kernel
theorem dX1_make_16 : decode cX1_make 16 = .ok (.iconst 0, 1) := by decide +kernel
theorem dX1_make_17 : decode cX1_make 17 = .ok (.goto 4, 3) := by decide +kernel
theorem dX1_make_20 : decode cX1_make 20 = .ok (.iload_n 3, 1) := by decide +kernel
theorem dX1_make_21 : decode cX1_make 21 = .ok (.iastore, 1) := by decide +kernel
theorem dX1_make_22 : decode cX1_make 22 = .ok (.iconst 0, 1) := by decide +kernel
theorem dX1_make_23 : decode cX1_make 23 = .ok (.istore 4, 2) := by decide +kernel
theorem dX1_make_25 : decode cX1_make 25 = .ok (.iload 4, 2) := by decide +kernel
theorem dX1_make_27 : decode cX1_make 27 = .ok (.bipush 40, 2) := by decide +kernel
theorem dX1_make_29 : decode cX1_make 29 = .ok (.if_icmp .ge 19, 3) := by decide +kernel
theorem dX1_make_32 : decode cX1_make 32 = .ok (.aload_n 0, 1) := by decide +kernel
theorem dX1_make_33 : decode cX1_make 33 = .ok (.getfield 11, 3) := by decide +kernel
theorem dX1_make_36 : decode cX1_make 36 = .ok (.iload_n 1, 1) := by decide +kernel
theorem dX1_make_37 : decode cX1_make 37 = .ok (.aaload, 1) := by decide +kernel
theorem dX1_make_38 : decode cX1_make 38 = .ok (.iload 4, 2) := by decide +kernel
theorem dX1_make_40 : decode cX1_make 40 = .ok (.lconst 0, 1) := by decide +kernel
theorem dX1_make_41 : decode cX1_make 41 = .ok (.lastore, 1) := by decide +kernel
theorem dX1_make_42 : decode cX1_make 42 = .ok (.iinc 4 1, 3) := by decide +kernel
theorem dX1_make_45 : decode cX1_make 45 = .ok (.goto (-20), 3) := by decide +kernel
theorem dX1_make_48 : decode cX1_make 48 = .ok (.return_, 1) := by decide +kernel
theorem dX1_hasPart_0 : decode cX1_hasPart 0 = .ok (.iload_n 2, 1) := by decide +kernel
theorem dX1_hasPart_1 : decode cX1_hasPart 1 = .ok (.ifCond .lt 33, 3) := by decide +kernel
theorem dX1_hasPart_4 : decode cX1_hasPart 4 = .ok (.iload_n 3, 1) := by decide +kernel
theorem dX1_hasPart_5 : decode cX1_hasPart 5 = .ok (.ifCond .lt 29, 3) := by decide +kernel
theorem dX1_hasPart_8 : decode cX1_hasPart 8 = .ok (.iload_n 2, 1) := by decide +kernel
theorem dX1_hasPart_9 : decode cX1_hasPart 9 = .ok (.aload_n 0, 1) := by decide +kernel
theorem dX1_hasPart_10 : decode cX1_hasPart 10 = .ok (.getfield 18, 3) := by decide +kernel
theorem dX1_hasPart_13 : decode cX1_hasPart 13 = .ok (.iload_n 1, 1) := by decide +kernel
theorem dX1_hasPart_14 : decode cX1_hasPart 14 = .ok (.iaload, 1) := by decide +kernel
theorem dX1_hasPart_15 : decode cX1_hasPart 15 = .ok (.if_icmp .gt 19, 3) := by decide +kernel
theorem dX1_hasPart_18 : decode cX1_hasPart 18 = .ok (.iload_n 3, 1) := by decide +kernel
theorem dX1_hasPart_19 : decode cX1_hasPart 19 = .ok (.aload_n 0, 1) := by decide +kernel
theorem dX1_hasPart_20 : decode cX1_hasPart 20 = .ok (.getfield 18, 3) := by decide +kernel
theorem dX1_hasPart_23 : decode cX1_hasPart 23 = .ok (.iload_n 1, 1) := by decide +kernel
theorem dX1_hasPart_24 : decode cX1_hasPart 24 = .ok (.iaload, 1) := by decide +kernel
theorem dX1_hasPart_25 : decode cX1_hasPart 25 = .ok (.iload_n 2, 1) := by decide +kernel
theorem dX1_hasPart_26 : decode cX1_hasPart 26 = .ok (.isub, 1) := by decide +kernel
theorem dX1_hasPart_27 : decode cX1_hasPart 27 = .ok (.if_icmp .gt 7, 3) := by decide +kernel
theorem dX1_hasPart_30 : decode cX1_hasPart 30 = .ok (.iconst 1, 1) := by decide +kernel
theorem dX1_hasPart_31 : decode cX1_hasPart 31 = .ok (.goto 4, 3) := by decide +kernel
theorem dX1_hasPart_34 : decode cX1_hasPart 34 = .ok (.iconst 0, 1) := by decide +kernel
theorem dX1_hasPart_35 : decode cX1_hasPart 35 = .ok (.ireturn, 1) := by decide +kernel
theorem dX1_put_0 : decode cX1_put 0 = .ok (.aload_n 0, 1) := by decide +kernel
theorem dX1_put_1 : decode cX1_put 1 = .ok (.getfield 14, 3) := by decide +kernel
theorem dX1_put_4 : decode cX1_put 4 = .ok (.iload_n 1, 1) := by decide +kernel
theorem dX1_put_5 : decode cX1_put 5 = .ok (.iaload, 1) := by decide +kernel
theorem dX1_put_6 : decode cX1_put 6 = .ok (.bipush 8, 2) := by decide +kernel
theorem dX1_put_8 : decode cX1_put 8 = .ok (.if_icmp .ne 18, 3) := by decide +kernel
theorem dX1_put_11 : decode cX1_put 11 = .ok (.aload_n 0, 1) := by decide +kernel
theorem dX1_put_12 : decode cX1_put 12 = .ok (.getfield 11, 3) := by decide +kernel
theorem dX1_put_15 : decode cX1_put 15 = .ok (.iload_n 1, 1) := by decide +kernel
theorem dX1_put_16 : decode cX1_put 16 = .ok (.aaload, 1) := by decide +kernel
theorem dX1_put_17 : decode cX1_put 17 = .ok (.iload_n 2, 1) := by decide +kernel
theorem dX1_put_18 : decode cX1_put 18 = .ok (.lload_n 3, 1) := by decide +kernel
theorem dX1_put_19 : decode cX1_put 19 = .ok (.l2i, 1) := by decide +kernel
theorem dX1_put_20 : decode cX1_put 20 = .ok (.i2b, 1) := by decide +kernel
theorem dX1_put_21 : decode cX1_put 21 = .ok (.i2l, 1) := by decide +kernel
theorem dX1_put_22 : decode cX1_put 22 = .ok (.lastore, 1) := by decide +kernel
theorem dX1_put_23 : decode cX1_put 23 = .ok (.goto 38, 3) := by decide +kernel
theorem dX1_put_26 : decode cX1_put 26 = .ok (.aload_n 0, 1) := by decide +kernel
theorem dX1_put_27 : decode cX1_put 27 = .ok (.getfield 14, 3) := by decide +kernel
theorem dX1_put_30 : decode cX1_put 30 = .ok (.iload_n 1, 1) := by decide +kernel
theorem dX1_put_31 : decode cX1_put 31 = .ok (.iaload, 1) := by decide +kernel
theorem dX1_put_32 : decode cX1_put 32 = .ok (.bipush 16, 2) := by decide +kernel
theorem dX1_put_34 : decode cX1_put 34 = .ok (.if_icmp .ne 18, 3) := by decide +kernel
theorem dX1_put_37 : decode cX1_put 37 = .ok (.aload_n 0, 1) := by decide +kernel
theorem dX1_put_38 : decode cX1_put 38 = .ok (.getfield 11, 3) := by decide +kernel
theorem dX1_put_41 : decode cX1_put 41 = .ok (.iload_n 1, 1) := by decide +kernel
theorem dX1_put_42 : decode cX1_put 42 = .ok (.aaload, 1) := by decide +kernel
theorem dX1_put_43 : decode cX1_put 43 = .ok (.iload_n 2, 1) := by decide +kernel
theorem dX1_put_44 : decode cX1_put 44 = .ok (.lload_n 3, 1) := by decide +kernel
theorem dX1_put_45 : decode cX1_put 45 = .ok (.l2i, 1) := by decide +kernel
theorem dX1_put_46 : decode cX1_put 46 = .ok (.i2s, 1) := by decide +kernel
theorem dX1_put_47 : decode cX1_put 47 = .ok (.i2l, 1) := by decide +kernel
theorem dX1_put_48 : decode cX1_put 48 = .ok (.lastore, 1) := by decide +kernel
theorem dX1_put_49 : decode cX1_put 49 = .ok (.goto 12, 3) := by decide +kernel
theorem dX1_put_52 : decode cX1_put 52 = .ok (.aload_n 0, 1) := by decide +kernel
theorem dX1_put_53 : decode cX1_put 53 = .ok (.getfield 11, 3) := by decide +kernel
theorem dX1_put_56 : decode cX1_put 56 = .ok (.iload_n 1, 1) := by decide +kernel
theorem dX1_put_57 : decode cX1_put 57 = .ok (.aaload, 1) := by decide +kernel
theorem dX1_put_58 : decode cX1_put 58 = .ok (.iload_n 2, 1) := by decide +kernel
theorem dX1_put_59 : decode cX1_put 59 = .ok (.lload_n 3, 1) := by decide +kernel
theorem dX1_put_60 : decode cX1_put 60 = .ok (.lastore, 1) := by decide +kernel
theorem dX1_put_61 : decode cX1_put 61 = .ok (.return_, 1) := by decide +kernel
theorem dX2_init_0 : decode cX2_init 0 = .ok (.aload_n 0, 1) := by decide +kernel
theorem dX2_init_1 : decode cX2_init 1 = .ok (.invokespecial 1, 3) := by decide +kernel
theorem dX2_init_4 : decode cX2_init 4 = .ok (.aload_n 0, 1) := by decide +kernel
theorem dX2_init_5 : decode cX2_init 5 = .ok (.bipush 120, 2) := by decide +kernel
theorem dX2_init_7 : decode cX2_init 7 = .ok (.newarray .byte, 2) := by decide +kernel
theorem dX2_init_9 : decode cX2_init 9 = .ok (.putfield 9, 3) := by decide +kernel
theorem dX2_init_12 : decode cX2_init 12 = .ok (.aload_n 0, 1) := by decide +kernel
theorem dX2_init_13 : decode cX2_init 13 = .ok (.iconst 0, 1) := by decide +kernel
theorem dX2_init_14 : decode cX2_init 14 = .ok (.putfield 13, 3) := by decide +kernel
theorem dX2_init_17 : decode cX2_init 17 = .ok (.return_, 1) := by decide +kernel
theorem dX2_hasRoom_0 : decode cX2_hasRoom 0 = .ok (.aload_n 0, 1) := by decide +kernel
theorem dX2_hasRoom_1 : decode cX2_hasRoom 1 = .ok (.getfield 13, 3) := by decide +kernel
theorem dX2_hasRoom_4 : decode cX2_hasRoom 4 = .ok (.iload_n 1, 1) := by decide +kernel
theorem dX2_hasRoom_5 : decode cX2_hasRoom 5 = .ok (.iadd, 1) := by decide +kernel
theorem dX2_hasRoom_6 : decode cX2_hasRoom 6 = .ok (.bipush 120, 2) := by decide +kernel
theorem dX2_hasRoom_8 : decode cX2_hasRoom 8 = .ok (.if_icmp .gt 7, 3) := by decide +kernel
theorem dX2_hasRoom_11 : decode cX2_hasRoom 11 = .ok (.iconst 1, 1) := by decide +kernel
theorem dX2_hasRoom_12 : decode cX2_hasRoom 12 = .ok (.goto 4, 3) := by decide +kernel
theorem dX2_hasRoom_15 : decode cX2_hasRoom 15 = .ok (.iconst 0, 1) := by decide +kernel
theorem dX2_hasRoom_16 : decode cX2_hasRoom 16 = .ok (.ireturn, 1) := by decide +kernel
theorem dX2_add_0 : decode cX2_add 0 = .ok (.aload_n 0, 1) := by decide +kernel
theorem dX2_add_1 : decode cX2_add 1 = .ok (.getfield 13, 3) := by decide +kernel
theorem dX2_add_4 : decode cX2_add 4 = .ok (.bipush 120, 2) := by decide +kernel
theorem dX2_add_6 : decode cX2_add 6 = .ok (.if_icmp .ge 23, 3) := by decide +kernel
theorem dX2_add_9 : decode cX2_add 9 = .ok (.aload_n 0, 1) := by decide +kernel
theorem dX2_add_10 : decode cX2_add 10 = .ok (.getfield 9, 3) := by decide +kernel
theorem dX2_add_13 : decode cX2_add 13 = .ok (.aload_n 0, 1) := by decide +kernel
theorem dX2_add_14 : decode cX2_add 14 = .ok (.getfield 13, 3) := by decide +kernel
theorem dX2_add_17 : decode cX2_add 17 = .ok (.iload_n 1, 1) := by decide +kernel
theorem dX2_add_18 : decode cX2_add 18 = .ok (.bastore, 1) := by decide +kernel
theorem dX2_add_19 : decode cX2_add 19 = .ok (.aload_n 0, 1) := by decide +kernel
theorem dX2_add_20 : decode cX2_add 20 = .ok (.dup, 1) := by decide +kernel
theorem dX2_add_21 : decode cX2_add 21 = .ok (.getfield 13, 3) := by decide +kernel
theorem dX2_add_24 : decode cX2_add 24 = .ok (.iconst 1, 1) := by decide +kernel
theorem dX2_add_25 : decode cX2_add 25 = .ok (.iadd, 1) := by decide +kernel
theorem dX2_add_26 : decode cX2_add 26 = .ok (.putfield 13, 3) := by decide +kernel
theorem dX2_add_29 : decode cX2_add 29 = .ok (.return_, 1) := by decide +kernel
theorem dX3_init_0 : decode cX3_init 0 = .ok (.aload_n 0, 1) := by decide +kernel
theorem dX3_init_1 : decode cX3_init 1 = .ok (.invokespecial 3, 3) := by decide +kernel
theorem dX3_init_4 : decode cX3_init 4 = .ok (.aload_n 0, 1) := by decide +kernel
theorem dX3_init_5 : decode cX3_init 5 = .ok (.aload_n 1, 1) := by decide +kernel
theorem dX3_init_6 : decode cX3_init 6 = .ok (.putfield 9, 3) := by decide +kernel
theorem dX3_init_9 : decode cX3_init 9 = .ok (.aload_n 0, 1) := by decide +kernel
theorem dX3_init_10 : decode cX3_init 10 = .ok (.aload_n 2, 1) := by decide +kernel
theorem dX3_init_11 : decode cX3_init 11 = .ok (.putfield 15, 3) := by decide +kernel
theorem dX3_init_14 : decode cX3_init 14 = .ok (.return_, 1) := by decide +kernel
theorem dX3_items_0 : decode cX3_items 0 = .ok (.aload_n 0, 1) := by decide +kernel
theorem dX3_items_1 : decode cX3_items 1 = .ok (.iconst 0, 1) := by decide +kernel
theorem dX3_items_2 : decode cX3_items 2 = .ok (.putfield 19, 3) := by decide +kernel
theorem dX3_items_5 : decode cX3_items 5 = .ok (.iconst 1, 1) := by decide +kernel
theorem dX3_items_6 : decode cX3_items 6 = .ok (.istore_n 1, 1) := by decide +kernel
theorem dX3_items_7 : decode cX3_items 7 = .ok (.iload_n 1, 1) := by decide +kernel
theorem dX3_items_8 : decode cX3_items 8 = .ok (.bipush 120, 2) := by decide +kernel
theorem dX3_items_10 : decode cX3_items 10 = .ok (.if_icmp .gt 43, 3) := by decide +kernel
theorem dX3_items_13 : decode cX3_items 13 = .ok (.aload_n 0, 1) := by decide +kernel
theorem dX3_items_14 : decode cX3_items 14 = .ok (.invokevirtual 25, 3) := by decide +kernel
theorem dX3_items_17 : decode cX3_items 17 = .ok (.aload_n 0, 1) := by decide +kernel
theorem dX3_items_18 : decode cX3_items 18 = .ok (.invokevirtual 28, 3) := by decide +kernel
theorem dX3_items_21 : decode cX3_items 21 = .ok (.ifCond .ne 6, 3) := by decide +kernel
theorem dX3_items_24 : decode cX3_items 24 = .ok (.goto 29, 3) := by decide +kernel
theorem dX3_items_27 : decode cX3_items 27 = .ok (.aload_n 0, 1) := by decide +kernel
theorem dX3_items_28 : decode cX3_items 28 = .ok (.getfield 32, 3) := by decide +kernel
theorem dX3_items_31 : decode cX3_items 31 = .ok (.ifCond .ne 5, 3) := by decide +kernel
theorem dX3_items_34 : decode cX3_items 34 = .ok (.iload_n 1, 1) := by decide +kernel
theorem dX3_items_35 : decode cX3_items 35 = .ok (.ireturn, 1) := by decide +kernel
theorem dX3_items_36 : decode cX3_items 36 = .ok (.aload_n 0, 1) := by decide +kernel
theorem dX3_items_37 : decode cX3_items 37 = .ok (.getfield 32, 3) := by decide +kernel
theorem dX3_items_40 : decode cX3_items 40 = .ok (.iconst 3, 1) := by decide +kernel
theorem dX3_items_41 : decode cX3_items 41 = .ok (.if_icmp .eq 6, 3) := by decide +kernel
theorem dX3_items_44 : decode cX3_items 44 = .ok (.goto 9, 3) := by decide +kernel
theorem dX3_items_47 : decode cX3_items 47 = .ok (.iinc 1 1, 3) := by decide +kernel
theorem dX3_items_50 : decode cX3_items 50 = .ok (.goto (-43), 3) := by decide +kernel
theorem dX3_items_53 : decode cX3_items 53 = .ok (.iconst (-1), 1) := by decide +kernel
theorem dX3_items_54 : decode cX3_items 54 = .ok (.aload_n 0, 1) := by decide +kernel
theorem dX3_items_55 : decode cX3_items 55 = .ok (.getfield 35, 3) := by decide +kernel
theorem dX3_items_58 : decode cX3_items 58 = .ok (.isub, 1) := by decide +kernel
theorem dX3_items_59 : decode cX3_items 59 = .ok (.ireturn, 1) := by decide +kernel
theorem dX3_readItem_0 : decode cX3_readItem 0 = .ok (.aload_n 0, 1) := by decide +kernel
theorem dX3_readItem_1 : decode cX3_readItem 1 = .ok (.invokevirtual 38, 3) := by decide +kernel
theorem dX3_readItem_4 : decode cX3_readItem 4 = .ok (.istore_n 1, 1) := by decide +kernel
theorem dX3_readItem_5 : decode cX3_readItem 5 = .ok (.iload_n 1, 1) := by decide +kernel
theorem dX3_readItem_6 : decode cX3_readItem 6 = .ok (.invokestatic 42, 3) := by decide +kernel
theorem dX3_readItem_9 : decode cX3_readItem 9 = .ok (.ifCond .eq 9, 3) := by decide +kernel
theorem dX3_readItem_12 : decode cX3_readItem 12 = .ok (.aload_n 0, 1) := by decide +kernel
theorem dX3_readItem_13 : decode cX3_readItem 13 = .ok (.iload_n 1, 1) := by decide +kernel
theorem dX3_readItem_14 : decode cX3_readItem 14 = .ok (.invokevirtual 46, 3) := by decide +kernel
theorem dX3_readItem_17 : decode cX3_readItem 17 = .ok (.ireturn, 1) := by decide +kernel
theorem dX3_readItem_18 : decode cX3_readItem 18 = .ok (.aload_n 0, 1) := by decide +kernel
theorem dX3_readItem_19 : decode cX3_readItem 19 = .ok (.ldc 49, 2) := by decide +kernel
theorem dX3_readItem_21 : decode cX3_readItem 21 = .ok (.invokevirtual 51, 3) := by decide +kernel
theorem dX3_readItem_24 : decode cX3_readItem 24 = .ok (.ifCond .eq 9, 3) := by decide +kernel
theorem dX3_readItem_27 : decode cX3_readItem 27 = .ok (.aload_n 0, 1) := by decide +kernel
theorem dX3_readItem_28 : decode cX3_readItem 28 = .ok (.iconst 0, 1) := by decide +kernel
theorem dX3_readItem_29 : decode cX3_readItem 29 = .ok (.invokevirtual 55, 3) := by decide +kernel
theorem dX3_readItem_32 : decode cX3_readItem 32 = .ok (.ireturn, 1) := by decide +kernel
theorem dX3_readItem_33 : decode cX3_readItem 33 = .ok (.aload_n 0, 1) := by decide +kernel
theorem dX3_readItem_34 : decode cX3_readItem 34 = .ok (.ldc 58, 2) := by decide +kernel
theorem dX3_readItem_36 : decode cX3_readItem 36 = .ok (.invokevirtual 51, 3) := by decide +kernel
theorem dX3_readItem_39 : decode cX3_readItem 39 = .ok (.ifCond .eq 9, 3) := by decide +kernel
theorem dX3_readItem_42 : decode cX3_readItem 42 = .ok (.aload_n 0, 1) := by decide +kernel
theorem dX3_readItem_43 : decode cX3_readItem 43 = .ok (.iconst 1, 1) := by decide +kernel
theorem dX3_readItem_44 : decode cX3_readItem 44 = .ok (.invokevirtual 55, 3) := by decide +kernel
theorem dX3_readItem_47 : decode cX3_readItem 47 = .ok (.ireturn, 1) := by decide +kernel
theorem dX3_readItem_48 : decode cX3_readItem 48 = .ok (.aload_n 0, 1) := by decide +kernel
theorem dX3_readItem_49 : decode cX3_readItem 49 = .ok (.ldc 60, 2) := by decide +kernel
theorem dX3_readItem_51 : decode cX3_readItem 51 = .ok (.invokevirtual 51, 3) := by decide +kernel
theorem dX3_readItem_54 : decode cX3_readItem 54 = .ok (.ifCond .eq 8, 3) := by decide +kernel
theorem dX3_readItem_57 : decode cX3_readItem 57 = .ok (.aload_n 0, 1) := by decide +kernel
theorem dX3_readItem_58 : decode cX3_readItem 58 = .ok (.invokevirtual 62, 3) := by decide +kernel
theorem dX3_readItem_61 : decode cX3_readItem 61 = .ok (.ireturn, 1) := by decide +kernel
theorem dX3_readItem_62 : decode cX3_readItem 62 = .ok (.aload_n 0, 1) := by decide +kernel
theorem dX3_readItem_63 : decode cX3_readItem 63 = .ok (.ldc 65, 2) := by decide +kernel
theorem dX3_readItem_65 : decode cX3_readItem 65 = .ok (.invokevirtual 51, 3) := by decide +kernel
theorem dX3_readItem_68 : decode cX3_readItem 68 = .ok (.ifCond .eq 14, 3) := by decide +kernel
theorem dX3_readItem_71 : decode cX3_readItem 71 = .ok (.aload_n 0, 1) := by decide +kernel
theorem dX3_readItem_72 : decode cX3_readItem 72 = .ok (.invokevirtual 67, 3) := by decide +kernel
theorem dX3_readItem_75 : decode cX3_readItem 75 = .ok (.ifCond .eq 7, 3) := by decide +kernel
theorem dX3_readItem_78 : decode cX3_readItem 78 = .ok (.iconst 1, 1) := by decide +kernel
theorem dX3_readItem_79 : decode cX3_readItem 79 = .ok (.goto 4, 3) := by decide +kernel
theorem dX3_readItem_82 : decode cX3_readItem 82 = .ok (.iconst 0, 1) := by decide +kernel
theorem dX3_readItem_83 : decode cX3_readItem 83 = .ok (.ireturn, 1) := by decide +kernel
theorem dX3_kindNamed_0 : decode cX3_kindNamed 0 = .ok (.aload_n 0, 1) := by decide +kernel
theorem dX3_kindNamed_1 : decode cX3_kindNamed 1 = .ok (.ldc 70, 2) := by decide +kernel
theorem dX3_kindNamed_3 : decode cX3_kindNamed 3 = .ok (.invokevirtual 51, 3) := by decide +kernel
theorem dX3_kindNamed_6 : decode cX3_kindNamed 6 = .ok (.ifCond .eq 5, 3) := by decide +kernel
theorem dX3_kindNamed_9 : decode cX3_kindNamed 9 = .ok (.iconst 0, 1) := by decide +kernel
theorem dX3_kindNamed_10 : decode cX3_kindNamed 10 = .ok (.ireturn, 1) := by decide +kernel
theorem dX3_kindNamed_11 : decode cX3_kindNamed 11 = .ok (.aload_n 0, 1) := by decide +kernel
theorem dX3_kindNamed_12 : decode cX3_kindNamed 12 = .ok (.ldc 72, 2) := by decide +kernel
theorem dX3_kindNamed_14 : decode cX3_kindNamed 14 = .ok (.invokevirtual 51, 3) := by decide +kernel
theorem dX3_kindNamed_17 : decode cX3_kindNamed 17 = .ok (.ifCond .eq 5, 3) := by decide +kernel
theorem dX3_kindNamed_20 : decode cX3_kindNamed 20 = .ok (.iconst 1, 1) := by decide +kernel
theorem dX3_kindNamed_21 : decode cX3_kindNamed 21 = .ok (.ireturn, 1) := by decide +kernel
theorem dX3_kindNamed_22 : decode cX3_kindNamed 22 = .ok (.aload_n 0, 1) := by decide +kernel
theorem dX3_kindNamed_23 : decode cX3_kindNamed 23 = .ok (.ldc 74, 2) := by decide +kernel
theorem dX3_kindNamed_25 : decode cX3_kindNamed 25 = .ok (.invokevirtual 51, 3) := by decide +kernel
theorem dX3_kindNamed_28 : decode cX3_kindNamed 28 = .ok (.ifCond .eq 5, 3) := by decide +kernel
theorem dX3_kindNamed_31 : decode cX3_kindNamed 31 = .ok (.iconst 2, 1) := by decide +kernel
theorem dX3_kindNamed_32 : decode cX3_kindNamed 32 = .ok (.ireturn, 1) := by decide +kernel
theorem dX3_kindNamed_33 : decode cX3_kindNamed 33 = .ok (.aload_n 0, 1) := by decide +kernel
theorem dX3_kindNamed_34 : decode cX3_kindNamed 34 = .ok (.ldc 76, 2) := by decide +kernel
theorem dX3_kindNamed_36 : decode cX3_kindNamed 36 = .ok (.invokevirtual 51, 3) := by decide +kernel
theorem dX3_kindNamed_39 : decode cX3_kindNamed 39 = .ok (.ifCond .eq 5, 3) := by decide +kernel
theorem dX3_kindNamed_42 : decode cX3_kindNamed 42 = .ok (.iconst 3, 1) := by decide +kernel
theorem dX3_kindNamed_43 : decode cX3_kindNamed 43 = .ok (.ireturn, 1) := by decide +kernel
theorem dX3_kindNamed_44 : decode cX3_kindNamed 44 = .ok (.aload_n 0, 1) := by decide +kernel
theorem dX3_kindNamed_45 : decode cX3_kindNamed 45 = .ok (.ldc 78, 2) := by decide +kernel
theorem dX3_kindNamed_47 : decode cX3_kindNamed 47 = .ok (.invokevirtual 51, 3) := by decide +kernel
theorem dX3_kindNamed_50 : decode cX3_kindNamed 50 = .ok (.ifCond .eq 5, 3) := by decide +kernel
theorem dX3_kindNamed_53 : decode cX3_kindNamed 53 = .ok (.iconst 4, 1) := by decide +kernel
theorem dX3_kindNamed_54 : decode cX3_kindNamed 54 = .ok (.ireturn, 1) := by decide +kernel
theorem dX3_kindNamed_55 : decode cX3_kindNamed 55 = .ok (.aload_n 0, 1) := by decide +kernel
theorem dX3_kindNamed_56 : decode cX3_kindNamed 56 = .ok (.ldc 80, 2) := by decide +kernel
theorem dX3_kindNamed_58 : decode cX3_kindNamed 58 = .ok (.invokevirtual 51, 3) := by decide +kernel
theorem dX3_kindNamed_61 : decode cX3_kindNamed 61 = .ok (.ifCond .eq 7, 3) := by decide +kernel
theorem dX3_kindNamed_64 : decode cX3_kindNamed 64 = .ok (.iconst 5, 1) := by decide +kernel
theorem dX3_kindNamed_65 : decode cX3_kindNamed 65 = .ok (.goto 4, 3) := by decide +kernel
theorem dX3_kindNamed_68 : decode cX3_kindNamed 68 = .ok (.iconst (-1), 1) := by decide +kernel
theorem dX3_kindNamed_69 : decode cX3_kindNamed 69 = .ok (.ireturn, 1) := by decide +kernel
theorem dX3_readPerson_0 : decode cX3_readPerson 0 = .ok (.aload_n 0, 1) := by decide +kernel
theorem dX3_readPerson_1 : decode cX3_readPerson 1 = .ok (.getfield 15, 3) := by decide +kernel
theorem dX3_readPerson_4 : decode cX3_readPerson 4 = .ok (.invokevirtual 82, 3) := by decide +kernel
theorem dX3_readPerson_7 : decode cX3_readPerson 7 = .ok (.ifCond .eq 5, 3) := by decide +kernel
theorem dX3_readPerson_10 : decode cX3_readPerson 10 = .ok (.iconst 0, 1) := by decide +kernel
theorem dX3_readPerson_11 : decode cX3_readPerson 11 = .ok (.ireturn, 1) := by decide +kernel
theorem dX3_readPerson_12 : decode cX3_readPerson 12 = .ok (.aload_n 0, 1) := by decide +kernel
theorem dX3_readPerson_13 : decode cX3_readPerson 13 = .ok (.getfield 15, 3) := by decide +kernel
theorem dX3_readPerson_16 : decode cX3_readPerson 16 = .ok (.iload_n 1, 1) := by decide +kernel
theorem dX3_readPerson_17 : decode cX3_readPerson 17 = .ok (.invokevirtual 87, 3) := by decide +kernel
theorem dX3_readPerson_20 : decode cX3_readPerson 20 = .ok (.istore_n 2, 1) := by decide +kernel
theorem dX3_readPerson_21 : decode cX3_readPerson 21 = .ok (.aload_n 0, 1) := by decide +kernel
theorem dX3_readPerson_22 : decode cX3_readPerson 22 = .ok (.invokevirtual 25, 3) := by decide +kernel
theorem dX3_readPerson_25 : decode cX3_readPerson 25 = .ok (.aload_n 0, 1) := by decide +kernel
theorem dX3_readPerson_26 : decode cX3_readPerson 26 = .ok (.ldc 91, 2) := by decide +kernel
theorem dX3_readPerson_28 : decode cX3_readPerson 28 = .ok (.invokevirtual 51, 3) := by decide +kernel
theorem dX3_readPerson_31 : decode cX3_readPerson 31 = .ok (.ifCond .eq 35, 3) := by decide +kernel
theorem dX3_readPerson_34 : decode cX3_readPerson 34 = .ok (.aload_n 0, 1) := by decide +kernel
theorem dX3_readPerson_35 : decode cX3_readPerson 35 = .ok (.invokevirtual 25, 3) := by decide +kernel
theorem dX3_readPerson_38 : decode cX3_readPerson 38 = .ok (.aload_n 0, 1) := by decide +kernel
theorem dX3_readPerson_39 : decode cX3_readPerson 39 = .ok (.bipush 63, 2) := by decide +kernel
theorem dX3_readPerson_41 : decode cX3_readPerson 41 = .ok (.invokevirtual 93, 3) := by decide +kernel
theorem dX3_readPerson_44 : decode cX3_readPerson 44 = .ok (.ifCond .ne 5, 3) := by decide +kernel
theorem dX3_readPerson_47 : decode cX3_readPerson 47 = .ok (.iconst 0, 1) := by decide +kernel
theorem dX3_readPerson_48 : decode cX3_readPerson 48 = .ok (.ireturn, 1) := by decide +kernel
theorem dX3_readPerson_49 : decode cX3_readPerson 49 = .ok (.aload_n 0, 1) := by decide +kernel
theorem dX3_readPerson_50 : decode cX3_readPerson 50 = .ok (.getfield 15, 3) := by decide +kernel
theorem dX3_readPerson_53 : decode cX3_readPerson 53 = .ok (.getfield 96, 3) := by decide +kernel
theorem dX3_readPerson_56 : decode cX3_readPerson 56 = .ok (.iload_n 2, 1) := by decide +kernel
theorem dX3_readPerson_57 : decode cX3_readPerson 57 = .ok (.aload_n 0, 1) := by decide +kernel
theorem dX3_readPerson_58 : decode cX3_readPerson 58 = .ok (.getfield 99, 3) := by decide +kernel
theorem dX3_readPerson_61 : decode cX3_readPerson 61 = .ok (.iastore, 1) := by decide +kernel
theorem dX3_readPerson_62 : decode cX3_readPerson 62 = .ok (.aload_n 0, 1) := by decide +kernel
theorem dX3_readPerson_63 : decode cX3_readPerson 63 = .ok (.invokevirtual 25, 3) := by decide +kernel
theorem dX3_readPerson_66 : decode cX3_readPerson 66 = .ok (.aload_n 0, 1) := by decide +kernel
theorem dX3_readPerson_67 : decode cX3_readPerson 67 = .ok (.ldc 102, 2) := by decide +kernel
theorem dX3_readPerson_69 : decode cX3_readPerson 69 = .ok (.invokevirtual 51, 3) := by decide +kernel
theorem dX3_readPerson_72 : decode cX3_readPerson 72 = .ok (.ifCond .eq 36, 3) := by decide +kernel
theorem dX3_readPerson_75 : decode cX3_readPerson 75 = .ok (.aload_n 0, 1) := by decide +kernel
theorem dX3_readPerson_76 : decode cX3_readPerson 76 = .ok (.invokevirtual 25, 3) := by decide +kernel
theorem dX3_readPerson_79 : decode cX3_readPerson 79 = .ok (.aload_n 0, 1) := by decide +kernel
theorem dX3_readPerson_80 : decode cX3_readPerson 80 = .ok (.sipush 9999, 3) := by decide +kernel
theorem dX3_readPerson_83 : decode cX3_readPerson 83 = .ok (.invokevirtual 93, 3) := by decide +kernel
theorem dX3_readPerson_86 : decode cX3_readPerson 86 = .ok (.ifCond .ne 5, 3) := by decide +kernel
theorem dX3_readPerson_89 : decode cX3_readPerson 89 = .ok (.iconst 0, 1) := by decide +kernel
theorem dX3_readPerson_90 : decode cX3_readPerson 90 = .ok (.ireturn, 1) := by decide +kernel
theorem dX3_readPerson_91 : decode cX3_readPerson 91 = .ok (.aload_n 0, 1) := by decide +kernel
theorem dX3_readPerson_92 : decode cX3_readPerson 92 = .ok (.getfield 15, 3) := by decide +kernel
theorem dX3_readPerson_95 : decode cX3_readPerson 95 = .ok (.getfield 104, 3) := by decide +kernel
theorem dX3_readPerson_98 : decode cX3_readPerson 98 = .ok (.iload_n 2, 1) := by decide +kernel
theorem dX3_readPerson_99 : decode cX3_readPerson 99 = .ok (.aload_n 0, 1) := by decide +kernel
theorem dX3_readPerson_100 : decode cX3_readPerson 100 = .ok (.getfield 99, 3) := by decide +kernel
theorem dX3_readPerson_103 : decode cX3_readPerson 103 = .ok (.iastore, 1) := by decide +kernel
theorem dX3_readPerson_104 : decode cX3_readPerson 104 = .ok (.aload_n 0, 1) := by decide +kernel
theorem dX3_readPerson_105 : decode cX3_readPerson 105 = .ok (.invokevirtual 25, 3) := by decide +kernel
theorem dX3_readPerson_108 : decode cX3_readPerson 108 = .ok (.iconst 1, 1) := by decide +kernel
theorem dX3_readPerson_109 : decode cX3_readPerson 109 = .ok (.ireturn, 1) := by decide +kernel
theorem dX3_readLying_0 : decode cX3_readLying 0 = .ok (.aload_n 0, 1) := by decide +kernel
theorem dX3_readLying_1 : decode cX3_readLying 1 = .ok (.invokevirtual 25, 3) := by decide +kernel
theorem dX3_readLying_4 : decode cX3_readLying 4 = .ok (.aload_n 0, 1) := by decide +kernel
theorem dX3_readLying_5 : decode cX3_readLying 5 = .ok (.iconst 5, 1) := by decide +kernel
theorem dX3_readLying_6 : decode cX3_readLying 6 = .ok (.invokevirtual 93, 3) := by decide +kernel
theorem dX3_readLying_9 : decode cX3_readLying 9 = .ok (.ifCond .ne 5, 3) := by decide +kernel
theorem dX3_readLying_12 : decode cX3_readLying 12 = .ok (.iconst 0, 1) := by decide +kernel
theorem dX3_readLying_13 : decode cX3_readLying 13 = .ok (.ireturn, 1) := by decide +kernel
theorem dX3_readLying_14 : decode cX3_readLying 14 = .ok (.aload_n 0, 1) := by decide +kernel
theorem dX3_readLying_15 : decode cX3_readLying 15 = .ok (.getfield 99, 3) := by decide +kernel
theorem dX3_readLying_18 : decode cX3_readLying 18 = .ok (.istore_n 2, 1) := by decide +kernel
theorem dX3_readLying_19 : decode cX3_readLying 19 = .ok (.aload_n 0, 1) := by decide +kernel
theorem dX3_readLying_20 : decode cX3_readLying 20 = .ok (.invokevirtual 25, 3) := by decide +kernel
theorem dX3_readLying_23 : decode cX3_readLying 23 = .ok (.aload_n 0, 1) := by decide +kernel
theorem dX3_readLying_24 : decode cX3_readLying 24 = .ok (.sipush 9999, 3) := by decide +kernel
theorem dX3_readLying_27 : decode cX3_readLying 27 = .ok (.invokevirtual 93, 3) := by decide +kernel
theorem dX3_readLying_30 : decode cX3_readLying 30 = .ok (.ifCond .ne 5, 3) := by decide +kernel
theorem dX3_readLying_33 : decode cX3_readLying 33 = .ok (.iconst 0, 1) := by decide +kernel
theorem dX3_readLying_34 : decode cX3_readLying 34 = .ok (.ireturn, 1) := by decide +kernel
theorem dX3_readLying_35 : decode cX3_readLying 35 = .ok (.aload_n 0, 1) := by decide +kernel
theorem dX3_readLying_36 : decode cX3_readLying 36 = .ok (.getfield 15, 3) := by decide +kernel
theorem dX3_readLying_39 : decode cX3_readLying 39 = .ok (.iload_n 2, 1) := by decide +kernel
theorem dX3_readLying_40 : decode cX3_readLying 40 = .ok (.iload_n 1, 1) := by decide +kernel
theorem dX3_readLying_41 : decode cX3_readLying 41 = .ok (.aload_n 0, 1) := by decide +kernel
theorem dX3_readLying_42 : decode cX3_readLying 42 = .ok (.getfield 99, 3) := by decide +kernel
theorem dX3_readLying_45 : decode cX3_readLying 45 = .ok (.invokevirtual 106, 3) := by decide +kernel
theorem dX3_readLying_48 : decode cX3_readLying 48 = .ok (.aload_n 0, 1) := by decide +kernel
theorem dX3_readLying_49 : decode cX3_readLying 49 = .ok (.invokevirtual 25, 3) := by decide +kernel
theorem dX3_readLying_52 : decode cX3_readLying 52 = .ok (.iconst 1, 1) := by decide +kernel
theorem dX3_readLying_53 : decode cX3_readLying 53 = .ok (.ireturn, 1) := by decide +kernel
theorem dX3_readBribe_0 : decode cX3_readBribe 0 = .ok (.aload_n 0, 1) := by decide +kernel
theorem dX3_readBribe_1 : decode cX3_readBribe 1 = .ok (.invokevirtual 25, 3) := by decide +kernel
theorem dX3_readBribe_4 : decode cX3_readBribe 4 = .ok (.aload_n 0, 1) := by decide +kernel
theorem dX3_readBribe_5 : decode cX3_readBribe 5 = .ok (.ldc 49, 2) := by decide +kernel
theorem dX3_readBribe_7 : decode cX3_readBribe 7 = .ok (.invokevirtual 51, 3) := by decide +kernel
theorem dX3_readBribe_10 : decode cX3_readBribe 10 = .ok (.ifCond .eq 14, 3) := by decide +kernel
theorem dX3_readBribe_13 : decode cX3_readBribe 13 = .ok (.aload_n 0, 1) := by decide +kernel
theorem dX3_readBribe_14 : decode cX3_readBribe 14 = .ok (.getfield 15, 3) := by decide +kernel
theorem dX3_readBribe_17 : decode cX3_readBribe 17 = .ok (.iconst 0, 1) := by decide +kernel
theorem dX3_readBribe_18 : decode cX3_readBribe 18 = .ok (.putfield 110, 3) := by decide +kernel
theorem dX3_readBribe_21 : decode cX3_readBribe 21 = .ok (.goto 25, 3) := by decide +kernel
theorem dX3_readBribe_24 : decode cX3_readBribe 24 = .ok (.aload_n 0, 1) := by decide +kernel
theorem dX3_readBribe_25 : decode cX3_readBribe 25 = .ok (.ldc 58, 2) := by decide +kernel
theorem dX3_readBribe_27 : decode cX3_readBribe 27 = .ok (.invokevirtual 51, 3) := by decide +kernel
theorem dX3_readBribe_30 : decode cX3_readBribe 30 = .ok (.ifCond .eq 14, 3) := by decide +kernel
theorem dX3_readBribe_33 : decode cX3_readBribe 33 = .ok (.aload_n 0, 1) := by decide +kernel
theorem dX3_readBribe_34 : decode cX3_readBribe 34 = .ok (.getfield 15, 3) := by decide +kernel
theorem dX3_readBribe_37 : decode cX3_readBribe 37 = .ok (.iconst 1, 1) := by decide +kernel
theorem dX3_readBribe_38 : decode cX3_readBribe 38 = .ok (.putfield 110, 3) := by decide +kernel
theorem dX3_readBribe_41 : decode cX3_readBribe 41 = .ok (.goto 5, 3) := by decide +kernel
theorem dX3_readBribe_44 : decode cX3_readBribe 44 = .ok (.iconst 0, 1) := by decide +kernel
theorem dX3_readBribe_45 : decode cX3_readBribe 45 = .ok (.ireturn, 1) := by decide +kernel
theorem dX3_readBribe_46 : decode cX3_readBribe 46 = .ok (.aload_n 0, 1) := by decide +kernel
theorem dX3_readBribe_47 : decode cX3_readBribe 47 = .ok (.invokevirtual 25, 3) := by decide +kernel
theorem dX3_readBribe_50 : decode cX3_readBribe 50 = .ok (.iconst 1, 1) := by decide +kernel
theorem dX3_readBribe_51 : decode cX3_readBribe 51 = .ok (.ireturn, 1) := by decide +kernel
theorem dX3_readAway_0 : decode cX3_readAway 0 = .ok (.aload_n 0, 1) := by decide +kernel
theorem dX3_readAway_1 : decode cX3_readAway 1 = .ok (.invokevirtual 25, 3) := by decide +kernel
theorem dX3_readAway_4 : decode cX3_readAway 4 = .ok (.aload_n 0, 1) := by decide +kernel
theorem dX3_readAway_5 : decode cX3_readAway 5 = .ok (.aload_n 0, 1) := by decide +kernel
theorem dX3_readAway_6 : decode cX3_readAway 6 = .ok (.getfield 15, 3) := by decide +kernel
theorem dX3_readAway_9 : decode cX3_readAway 9 = .ok (.getfield 113, 3) := by decide +kernel
theorem dX3_readAway_12 : decode cX3_readAway 12 = .ok (.iconst 1, 1) := by decide +kernel
theorem dX3_readAway_13 : decode cX3_readAway 13 = .ok (.isub, 1) := by decide +kernel
theorem dX3_readAway_14 : decode cX3_readAway 14 = .ok (.invokevirtual 93, 3) := by decide +kernel
theorem dX3_readAway_17 : decode cX3_readAway 17 = .ok (.ifCond .ne 5, 3) := by decide +kernel
theorem dX3_readAway_20 : decode cX3_readAway 20 = .ok (.iconst 0, 1) := by decide +kernel
theorem dX3_readAway_21 : decode cX3_readAway 21 = .ok (.ireturn, 1) := by decide +kernel
theorem dX3_readAway_22 : decode cX3_readAway 22 = .ok (.aload_n 0, 1) := by decide +kernel
theorem dX3_readAway_23 : decode cX3_readAway 23 = .ok (.getfield 15, 3) := by decide +kernel
theorem dX3_readAway_26 : decode cX3_readAway 26 = .ok (.getfield 116, 3) := by decide +kernel
theorem dX3_readAway_29 : decode cX3_readAway 29 = .ok (.aload_n 0, 1) := by decide +kernel
theorem dX3_readAway_30 : decode cX3_readAway 30 = .ok (.getfield 99, 3) := by decide +kernel
theorem dX3_readAway_33 : decode cX3_readAway 33 = .ok (.iconst 1, 1) := by decide +kernel
theorem dX3_readAway_34 : decode cX3_readAway 34 = .ok (.iastore, 1) := by decide +kernel
theorem dX3_readAway_35 : decode cX3_readAway 35 = .ok (.aload_n 0, 1) := by decide +kernel
theorem dX3_readAway_36 : decode cX3_readAway 36 = .ok (.invokevirtual 25, 3) := by decide +kernel
theorem dX3_readAway_39 : decode cX3_readAway 39 = .ok (.iconst 1, 1) := by decide +kernel
theorem dX3_readAway_40 : decode cX3_readAway 40 = .ok (.ireturn, 1) := by decide +kernel
theorem dX3_isNumber_0 : decode cX3_isNumber 0 = .ok (.aload_n 0, 1) := by decide +kernel
theorem dX3_isNumber_1 : decode cX3_isNumber 1 = .ok (.getfield 32, 3) := by decide +kernel
theorem dX3_isNumber_4 : decode cX3_isNumber 4 = .ok (.iconst 2, 1) := by decide +kernel
theorem dX3_isNumber_5 : decode cX3_isNumber 5 = .ok (.if_icmp .ne 15, 3) := by decide +kernel
theorem dX3_isNumber_8 : decode cX3_isNumber 8 = .ok (.aload_n 0, 1) := by decide +kernel
theorem dX3_isNumber_9 : decode cX3_isNumber 9 = .ok (.getfield 99, 3) := by decide +kernel
theorem dX3_isNumber_12 : decode cX3_isNumber 12 = .ok (.iload_n 1, 1) := by decide +kernel
theorem dX3_isNumber_13 : decode cX3_isNumber 13 = .ok (.if_icmp .gt 7, 3) := by decide +kernel
theorem dX3_isNumber_16 : decode cX3_isNumber 16 = .ok (.iconst 1, 1) := by decide +kernel
theorem dX3_isNumber_17 : decode cX3_isNumber 17 = .ok (.goto 4, 3) := by decide +kernel
theorem dX3_isNumber_20 : decode cX3_isNumber 20 = .ok (.iconst 0, 1) := by decide +kernel
theorem dX3_isNumber_21 : decode cX3_isNumber 21 = .ok (.ireturn, 1) := by decide +kernel
theorem dX3_isWord_0 : decode cX3_isWord 0 = .ok (.aload_n 0, 1) := by decide +kernel
theorem dX3_isWord_1 : decode cX3_isWord 1 = .ok (.getfield 32, 3) := by decide +kernel
theorem dX3_isWord_4 : decode cX3_isWord 4 = .ok (.iconst 1, 1) := by decide +kernel
theorem dX3_isWord_5 : decode cX3_isWord 5 = .ok (.if_icmp .ne 19, 3) := by decide +kernel
theorem dX3_isWord_8 : decode cX3_isWord 8 = .ok (.aload_n 0, 1) := by decide +kernel
theorem dX3_isWord_9 : decode cX3_isWord 9 = .ok (.getfield 19, 3) := by decide +kernel
theorem dX3_isWord_12 : decode cX3_isWord 12 = .ok (.aload_n 0, 1) := by decide +kernel
theorem dX3_isWord_13 : decode cX3_isWord 13 = .ok (.getfield 35, 3) := by decide +kernel
theorem dX3_isWord_16 : decode cX3_isWord 16 = .ok (.isub, 1) := by decide +kernel
theorem dX3_isWord_17 : decode cX3_isWord 17 = .ok (.aload_n 1, 1) := by decide +kernel
theorem dX3_isWord_18 : decode cX3_isWord 18 = .ok (.invokevirtual 118, 3) := by decide +kernel
theorem dX3_isWord_21 : decode cX3_isWord 21 = .ok (.if_icmp .eq 5, 3) := by decide +kernel
theorem dX3_isWord_24 : decode cX3_isWord 24 = .ok (.iconst 0, 1) := by decide +kernel
theorem dX3_isWord_25 : decode cX3_isWord 25 = .ok (.ireturn, 1) := by decide +kernel
theorem dX3_isWord_26 : decode cX3_isWord 26 = .ok (.iconst 0, 1) := by decide +kernel
theorem dX3_isWord_27 : decode cX3_isWord 27 = .ok (.istore_n 2, 1) := by decide +kernel
theorem dX3_isWord_28 : decode cX3_isWord 28 = .ok (.iload_n 2, 1) := by decide +kernel
theorem dX3_isWord_29 : decode cX3_isWord 29 = .ok (.aload_n 1, 1) := by decide +kernel
theorem dX3_isWord_30 : decode cX3_isWord 30 = .ok (.invokevirtual 118, 3) := by decide +kernel
theorem dX3_isWord_33 : decode cX3_isWord 33 = .ok (.if_icmp .ge 29, 3) := by decide +kernel
theorem dX3_isWord_36 : decode cX3_isWord 36 = .ok (.aload_n 0, 1) := by decide +kernel
theorem dX3_isWord_37 : decode cX3_isWord 37 = .ok (.aload_n 0, 1) := by decide +kernel
theorem dX3_isWord_38 : decode cX3_isWord 38 = .ok (.getfield 35, 3) := by decide +kernel
theorem dX3_isWord_41 : decode cX3_isWord 41 = .ok (.iload_n 2, 1) := by decide +kernel
theorem dX3_isWord_42 : decode cX3_isWord 42 = .ok (.iadd, 1) := by decide +kernel
theorem dX3_isWord_43 : decode cX3_isWord 43 = .ok (.invokevirtual 123, 3) := by decide +kernel
theorem dX3_isWord_46 : decode cX3_isWord 46 = .ok (.aload_n 1, 1) := by decide +kernel
theorem dX3_isWord_47 : decode cX3_isWord 47 = .ok (.iload_n 2, 1) := by decide +kernel
theorem dX3_isWord_48 : decode cX3_isWord 48 = .ok (.invokevirtual 126, 3) := by decide +kernel
theorem dX3_isWord_51 : decode cX3_isWord 51 = .ok (.if_icmp .eq 5, 3) := by decide +kernel
theorem dX3_isWord_54 : decode cX3_isWord 54 = .ok (.iconst 0, 1) := by decide +kernel
theorem dX3_isWord_55 : decode cX3_isWord 55 = .ok (.ireturn, 1) := by decide +kernel
theorem dX3_isWord_56 : decode cX3_isWord 56 = .ok (.iinc 2 1, 3) := by decide +kernel
theorem dX3_isWord_59 : decode cX3_isWord 59 = .ok (.goto (-31), 3) := by decide +kernel
theorem dX3_isWord_62 : decode cX3_isWord 62 = .ok (.iconst 1, 1) := by decide +kernel
theorem dX3_isWord_63 : decode cX3_isWord 63 = .ok (.ireturn, 1) := by decide +kernel
theorem dX3_next_0 : decode cX3_next 0 = .ok (.aload_n 0, 1) := by decide +kernel
theorem dX3_next_1 : decode cX3_next 1 = .ok (.getfield 19, 3) := by decide +kernel
theorem dX3_next_4 : decode cX3_next 4 = .ok (.aload_n 0, 1) := by decide +kernel
theorem dX3_next_5 : decode cX3_next 5 = .ok (.getfield 9, 3) := by decide +kernel
theorem dX3_next_8 : decode cX3_next 8 = .ok (.getfield 130, 3) := by decide +kernel
theorem dX3_next_11 : decode cX3_next 11 = .ok (.if_icmp .ge 29, 3) := by decide +kernel
theorem dX3_next_14 : decode cX3_next 14 = .ok (.aload_n 0, 1) := by decide +kernel
theorem dX3_next_15 : decode cX3_next 15 = .ok (.aload_n 0, 1) := by decide +kernel
theorem dX3_next_16 : decode cX3_next 16 = .ok (.getfield 19, 3) := by decide +kernel
theorem dX3_next_19 : decode cX3_next 19 = .ok (.invokevirtual 123, 3) := by decide +kernel
theorem dX3_next_22 : decode cX3_next 22 = .ok (.bipush 32, 2) := by decide +kernel
theorem dX3_next_24 : decode cX3_next 24 = .ok (.if_icmp .ne 16, 3) := by decide +kernel
theorem dX3_next_27 : decode cX3_next 27 = .ok (.aload_n 0, 1) := by decide +kernel
theorem dX3_next_28 : decode cX3_next 28 = .ok (.dup, 1) := by decide +kernel
theorem dX3_next_29 : decode cX3_next 29 = .ok (.getfield 19, 3) := by decide +kernel
theorem dX3_next_32 : decode cX3_next 32 = .ok (.iconst 1, 1) := by decide +kernel
theorem dX3_next_33 : decode cX3_next 33 = .ok (.iadd, 1) := by decide +kernel
theorem dX3_next_34 : decode cX3_next 34 = .ok (.putfield 19, 3) := by decide +kernel
theorem dX3_next_37 : decode cX3_next 37 = .ok (.goto (-37), 3) := by decide +kernel
theorem dX3_next_40 : decode cX3_next 40 = .ok (.aload_n 0, 1) := by decide +kernel
theorem dX3_next_41 : decode cX3_next 41 = .ok (.aload_n 0, 1) := by decide +kernel
theorem dX3_next_42 : decode cX3_next 42 = .ok (.getfield 19, 3) := by decide +kernel
theorem dX3_next_45 : decode cX3_next 45 = .ok (.putfield 35, 3) := by decide +kernel
theorem dX3_next_48 : decode cX3_next 48 = .ok (.aload_n 0, 1) := by decide +kernel
theorem dX3_next_49 : decode cX3_next 49 = .ok (.getfield 35, 3) := by decide +kernel
theorem dX3_next_52 : decode cX3_next 52 = .ok (.aload_n 0, 1) := by decide +kernel
theorem dX3_next_53 : decode cX3_next 53 = .ok (.getfield 9, 3) := by decide +kernel
theorem dX3_next_56 : decode cX3_next 56 = .ok (.getfield 130, 3) := by decide +kernel
theorem dX3_next_59 : decode cX3_next 59 = .ok (.if_icmp .lt 11, 3) := by decide +kernel
theorem dX3_next_62 : decode cX3_next 62 = .ok (.aload_n 0, 1) := by decide +kernel
theorem dX3_next_63 : decode cX3_next 63 = .ok (.iconst 0, 1) := by decide +kernel
theorem dX3_next_64 : decode cX3_next 64 = .ok (.putfield 32, 3) := by decide +kernel
theorem dX3_next_67 : decode cX3_next 67 = .ok (.goto 77, 3) := by decide +kernel
theorem dX3_next_70 : decode cX3_next 70 = .ok (.aload_n 0, 1) := by decide +kernel
theorem dX3_next_71 : decode cX3_next 71 = .ok (.aload_n 0, 1) := by decide +kernel
theorem dX3_next_72 : decode cX3_next 72 = .ok (.getfield 35, 3) := by decide +kernel
theorem dX3_next_75 : decode cX3_next 75 = .ok (.invokevirtual 123, 3) := by decide +kernel
theorem dX3_next_78 : decode cX3_next 78 = .ok (.invokestatic 132, 3) := by decide +kernel
theorem dX3_next_81 : decode cX3_next 81 = .ok (.ifCond .eq 10, 3) := by decide +kernel
theorem dX3_next_84 : decode cX3_next 84 = .ok (.aload_n 0, 1) := by decide +kernel
theorem dX3_next_85 : decode cX3_next 85 = .ok (.invokevirtual 135, 3) := by decide +kernel
theorem dX3_next_88 : decode cX3_next 88 = .ok (.goto 56, 3) := by decide +kernel
theorem dX3_next_91 : decode cX3_next 91 = .ok (.aload_n 0, 1) := by decide +kernel
theorem dX3_next_92 : decode cX3_next 92 = .ok (.aload_n 0, 1) := by decide +kernel
theorem dX3_next_93 : decode cX3_next 93 = .ok (.getfield 35, 3) := by decide +kernel
theorem dX3_next_96 : decode cX3_next 96 = .ok (.invokevirtual 123, 3) := by decide +kernel
theorem dX3_next_99 : decode cX3_next 99 = .ok (.invokestatic 138, 3) := by decide +kernel
theorem dX3_next_102 : decode cX3_next 102 = .ok (.ifCond .eq 10, 3) := by decide +kernel
theorem dX3_next_105 : decode cX3_next 105 = .ok (.aload_n 0, 1) := by decide +kernel
theorem dX3_next_106 : decode cX3_next 106 = .ok (.invokevirtual 141, 3) := by decide +kernel
theorem dX3_next_109 : decode cX3_next 109 = .ok (.goto 35, 3) := by decide +kernel
theorem dX3_next_112 : decode cX3_next 112 = .ok (.aload_n 0, 1) := by decide +kernel
theorem dX3_next_113 : decode cX3_next 113 = .ok (.aload_n 0, 1) := by decide +kernel
theorem dX3_next_114 : decode cX3_next 114 = .ok (.aload_n 0, 1) := by decide +kernel
theorem dX3_next_115 : decode cX3_next 115 = .ok (.getfield 35, 3) := by decide +kernel
theorem dX3_next_118 : decode cX3_next 118 = .ok (.invokevirtual 123, 3) := by decide +kernel
theorem dX3_next_121 : decode cX3_next 121 = .ok (.bipush 59, 2) := by decide +kernel
theorem dX3_next_123 : decode cX3_next 123 = .ok (.if_icmp .ne 7, 3) := by decide +kernel
theorem dX3_next_126 : decode cX3_next 126 = .ok (.iconst 3, 1) := by decide +kernel
theorem dX3_next_127 : decode cX3_next 127 = .ok (.goto 4, 3) := by decide +kernel
theorem dX3_next_130 : decode cX3_next 130 = .ok (.iconst 4, 1) := by decide +kernel
theorem dX3_next_131 : decode cX3_next 131 = .ok (.putfield 32, 3) := by decide +kernel
theorem dX3_next_134 : decode cX3_next 134 = .ok (.aload_n 0, 1) := by decide +kernel
theorem dX3_next_135 : decode cX3_next 135 = .ok (.dup, 1) := by decide +kernel
theorem dX3_next_136 : decode cX3_next 136 = .ok (.getfield 19, 3) := by decide +kernel
theorem dX3_next_139 : decode cX3_next 139 = .ok (.iconst 1, 1) := by decide +kernel
theorem dX3_next_140 : decode cX3_next 140 = .ok (.iadd, 1) := by decide +kernel
theorem dX3_next_141 : decode cX3_next 141 = .ok (.putfield 19, 3) := by decide +kernel
theorem dX3_next_144 : decode cX3_next 144 = .ok (.return_, 1) := by decide +kernel
theorem dX3_nextWord_0 : decode cX3_nextWord 0 = .ok (.aload_n 0, 1) := by decide +kernel
theorem dX3_nextWord_1 : decode cX3_nextWord 1 = .ok (.iconst 1, 1) := by decide +kernel
theorem dX3_nextWord_2 : decode cX3_nextWord 2 = .ok (.putfield 32, 3) := by decide +kernel
theorem dX3_nextWord_5 : decode cX3_nextWord 5 = .ok (.aload_n 0, 1) := by decide +kernel
theorem dX3_nextWord_6 : decode cX3_nextWord 6 = .ok (.getfield 19, 3) := by decide +kernel
theorem dX3_nextWord_9 : decode cX3_nextWord 9 = .ok (.aload_n 0, 1) := by decide +kernel
theorem dX3_nextWord_10 : decode cX3_nextWord 10 = .ok (.getfield 9, 3) := by decide +kernel
theorem dX3_nextWord_13 : decode cX3_nextWord 13 = .ok (.getfield 130, 3) := by decide +kernel
theorem dX3_nextWord_16 : decode cX3_nextWord 16 = .ok (.if_icmp .ge 30, 3) := by decide +kernel
theorem dX3_nextWord_19 : decode cX3_nextWord 19 = .ok (.aload_n 0, 1) := by decide +kernel
theorem dX3_nextWord_20 : decode cX3_nextWord 20 = .ok (.aload_n 0, 1) := by decide +kernel
theorem dX3_nextWord_21 : decode cX3_nextWord 21 = .ok (.getfield 19, 3) := by decide +kernel
theorem dX3_nextWord_24 : decode cX3_nextWord 24 = .ok (.invokevirtual 123, 3) := by decide +kernel
theorem dX3_nextWord_27 : decode cX3_nextWord 27 = .ok (.invokestatic 132, 3) := by decide +kernel
theorem dX3_nextWord_30 : decode cX3_nextWord 30 = .ok (.ifCond .eq 16, 3) := by decide +kernel
theorem dX3_nextWord_33 : decode cX3_nextWord 33 = .ok (.aload_n 0, 1) := by decide +kernel
theorem dX3_nextWord_34 : decode cX3_nextWord 34 = .ok (.dup, 1) := by decide +kernel
theorem dX3_nextWord_35 : decode cX3_nextWord 35 = .ok (.getfield 19, 3) := by decide +kernel
theorem dX3_nextWord_38 : decode cX3_nextWord 38 = .ok (.iconst 1, 1) := by decide +kernel
theorem dX3_nextWord_39 : decode cX3_nextWord 39 = .ok (.iadd, 1) := by decide +kernel
theorem dX3_nextWord_40 : decode cX3_nextWord 40 = .ok (.putfield 19, 3) := by decide +kernel
theorem dX3_nextWord_43 : decode cX3_nextWord 43 = .ok (.goto (-38), 3) := by decide +kernel
theorem dX3_nextWord_46 : decode cX3_nextWord 46 = .ok (.return_, 1) := by decide +kernel
theorem dX3_nextNumber_0 : decode cX3_nextNumber 0 = .ok (.aload_n 0, 1) := by decide +kernel
theorem dX3_nextNumber_1 : decode cX3_nextNumber 1 = .ok (.iconst 2, 1) := by decide +kernel
theorem dX3_nextNumber_2 : decode cX3_nextNumber 2 = .ok (.putfield 32, 3) := by decide +kernel
theorem dX3_nextNumber_5 : decode cX3_nextNumber 5 = .ok (.aload_n 0, 1) := by decide +kernel
theorem dX3_nextNumber_6 : decode cX3_nextNumber 6 = .ok (.iconst 0, 1) := by decide +kernel
theorem dX3_nextNumber_7 : decode cX3_nextNumber 7 = .ok (.putfield 99, 3) := by decide +kernel
theorem dX3_nextNumber_10 : decode cX3_nextNumber 10 = .ok (.aload_n 0, 1) := by decide +kernel
theorem dX3_nextNumber_11 : decode cX3_nextNumber 11 = .ok (.getfield 19, 3) := by decide +kernel
theorem dX3_nextNumber_14 : decode cX3_nextNumber 14 = .ok (.aload_n 0, 1) := by decide +kernel
theorem dX3_nextNumber_15 : decode cX3_nextNumber 15 = .ok (.getfield 9, 3) := by decide +kernel
theorem dX3_nextNumber_18 : decode cX3_nextNumber 18 = .ok (.getfield 130, 3) := by decide +kernel
theorem dX3_nextNumber_21 : decode cX3_nextNumber 21 = .ok (.if_icmp .ge 59, 3) := by decide +kernel
theorem dX3_nextNumber_24 : decode cX3_nextNumber 24 = .ok (.aload_n 0, 1) := by decide +kernel
theorem dX3_nextNumber_25 : decode cX3_nextNumber 25 = .ok (.aload_n 0, 1) := by decide +kernel
theorem dX3_nextNumber_26 : decode cX3_nextNumber 26 = .ok (.getfield 19, 3) := by decide +kernel
theorem dX3_nextNumber_29 : decode cX3_nextNumber 29 = .ok (.invokevirtual 123, 3) := by decide +kernel
theorem dX3_nextNumber_32 : decode cX3_nextNumber 32 = .ok (.invokestatic 138, 3) := by decide +kernel
theorem dX3_nextNumber_35 : decode cX3_nextNumber 35 = .ok (.ifCond .eq 45, 3) := by decide +kernel
theorem dX3_nextNumber_38 : decode cX3_nextNumber 38 = .ok (.aload_n 0, 1) := by decide +kernel
theorem dX3_nextNumber_39 : decode cX3_nextNumber 39 = .ok (.aload_n 0, 1) := by decide +kernel
theorem dX3_nextNumber_40 : decode cX3_nextNumber 40 = .ok (.getfield 99, 3) := by decide +kernel
theorem dX3_nextNumber_43 : decode cX3_nextNumber 43 = .ok (.bipush 10, 2) := by decide +kernel
theorem dX3_nextNumber_45 : decode cX3_nextNumber 45 = .ok (.imul, 1) := by decide +kernel
theorem dX3_nextNumber_46 : decode cX3_nextNumber 46 = .ok (.aload_n 0, 1) := by decide +kernel
theorem dX3_nextNumber_47 : decode cX3_nextNumber 47 = .ok (.aload_n 0, 1) := by decide +kernel
theorem dX3_nextNumber_48 : decode cX3_nextNumber 48 = .ok (.getfield 19, 3) := by decide +kernel
theorem dX3_nextNumber_51 : decode cX3_nextNumber 51 = .ok (.invokevirtual 123, 3) := by decide +kernel
theorem dX3_nextNumber_54 : decode cX3_nextNumber 54 = .ok (.iadd, 1) := by decide +kernel
theorem dX3_nextNumber_55 : decode cX3_nextNumber 55 = .ok (.bipush 48, 2) := by decide +kernel
theorem dX3_nextNumber_57 : decode cX3_nextNumber 57 = .ok (.isub, 1) := by decide +kernel
theorem dX3_nextNumber_58 : decode cX3_nextNumber 58 = .ok (.sipush 10000, 3) := by decide +kernel
theorem dX3_nextNumber_61 : decode cX3_nextNumber 61 = .ok (.invokestatic 144, 3) := by decide +kernel
theorem dX3_nextNumber_64 : decode cX3_nextNumber 64 = .ok (.putfield 99, 3) := by decide +kernel
theorem dX3_nextNumber_67 : decode cX3_nextNumber 67 = .ok (.aload_n 0, 1) := by decide +kernel
theorem dX3_nextNumber_68 : decode cX3_nextNumber 68 = .ok (.dup, 1) := by decide +kernel
theorem dX3_nextNumber_69 : decode cX3_nextNumber 69 = .ok (.getfield 19, 3) := by decide +kernel
theorem dX3_nextNumber_72 : decode cX3_nextNumber 72 = .ok (.iconst 1, 1) := by decide +kernel
theorem dX3_nextNumber_73 : decode cX3_nextNumber 73 = .ok (.iadd, 1) := by decide +kernel
theorem dX3_nextNumber_74 : decode cX3_nextNumber 74 = .ok (.putfield 19, 3) := by decide +kernel
theorem dX3_nextNumber_77 : decode cX3_nextNumber 77 = .ok (.goto (-67), 3) := by decide +kernel
theorem dX3_nextNumber_80 : decode cX3_nextNumber 80 = .ok (.return_, 1) := by decide +kernel
theorem dX3_byteAt_0 : decode cX3_byteAt 0 = .ok (.iload_n 1, 1) := by decide +kernel
theorem dX3_byteAt_1 : decode cX3_byteAt 1 = .ok (.ifCond .lt 21, 3) := by decide +kernel
theorem dX3_byteAt_4 : decode cX3_byteAt 4 = .ok (.iload_n 1, 1) := by decide +kernel
theorem dX3_byteAt_5 : decode cX3_byteAt 5 = .ok (.bipush 120, 2) := by decide +kernel
theorem dX3_byteAt_7 : decode cX3_byteAt 7 = .ok (.if_icmp .ge 15, 3) := by decide +kernel
theorem dX3_byteAt_10 : decode cX3_byteAt 10 = .ok (.aload_n 0, 1) := by decide +kernel
theorem dX3_byteAt_11 : decode cX3_byteAt 11 = .ok (.getfield 9, 3) := by decide +kernel
theorem dX3_byteAt_14 : decode cX3_byteAt 14 = .ok (.getfield 150, 3) := by decide +kernel
theorem dX3_byteAt_17 : decode cX3_byteAt 17 = .ok (.iload_n 1, 1) := by decide +kernel
theorem dX3_byteAt_18 : decode cX3_byteAt 18 = .ok (.baload, 1) := by decide +kernel
theorem dX3_byteAt_19 : decode cX3_byteAt 19 = .ok (.goto 4, 3) := by decide +kernel
theorem dX3_byteAt_22 : decode cX3_byteAt 22 = .ok (.iconst 0, 1) := by decide +kernel
theorem dX3_byteAt_23 : decode cX3_byteAt 23 = .ok (.ireturn, 1) := by decide +kernel
theorem dX3_isLetter_0 : decode cX3_isLetter 0 = .ok (.iload_n 0, 1) := by decide +kernel
theorem dX3_isLetter_1 : decode cX3_isLetter 1 = .ok (.bipush 97, 2) := by decide +kernel
theorem dX3_isLetter_3 : decode cX3_isLetter 3 = .ok (.if_icmp .lt 13, 3) := by decide +kernel
theorem dX3_isLetter_6 : decode cX3_isLetter 6 = .ok (.iload_n 0, 1) := by decide +kernel
theorem dX3_isLetter_7 : decode cX3_isLetter 7 = .ok (.bipush 122, 2) := by decide +kernel
theorem dX3_isLetter_9 : decode cX3_isLetter 9 = .ok (.if_icmp .gt 7, 3) := by decide +kernel
theorem dX3_isLetter_12 : decode cX3_isLetter 12 = .ok (.iconst 1, 1) := by decide +kernel
theorem dX3_isLetter_13 : decode cX3_isLetter 13 = .ok (.goto 4, 3) := by decide +kernel
theorem dX3_isLetter_16 : decode cX3_isLetter 16 = .ok (.iconst 0, 1) := by decide +kernel
theorem dX3_isLetter_17 : decode cX3_isLetter 17 = .ok (.ireturn, 1) := by decide +kernel
theorem dX3_isDigit_0 : decode cX3_isDigit 0 = .ok (.iload_n 0, 1) := by decide +kernel
theorem dX3_isDigit_1 : decode cX3_isDigit 1 = .ok (.bipush 48, 2) := by decide +kernel
theorem dX3_isDigit_3 : decode cX3_isDigit 3 = .ok (.if_icmp .lt 13, 3) := by decide +kernel
theorem dX3_isDigit_6 : decode cX3_isDigit 6 = .ok (.iload_n 0, 1) := by decide +kernel
theorem dX3_isDigit_7 : decode cX3_isDigit 7 = .ok (.bipush 57, 2) := by decide +kernel
theorem dX3_isDigit_9 : decode cX3_isDigit 9 = .ok (.if_icmp .gt 7, 3) := by decide +kernel
theorem dX3_isDigit_12 : decode cX3_isDigit 12 = .ok (.iconst 1, 1) := by decide +kernel
theorem dX3_isDigit_13 : decode cX3_isDigit 13 = .ok (.goto 4, 3) := by decide +kernel
theorem dX3_isDigit_16 : decode cX3_isDigit 16 = .ok (.iconst 0, 1) := by decide +kernel
theorem dX3_isDigit_17 : decode cX3_isDigit 17 = .ok (.ireturn, 1) := by decide +kernel
theorem dX4_init_0 : decode cX4_init 0 = .ok (.aload_n 0, 1) := by decide +kernel
theorem dX4_init_1 : decode cX4_init 1 = .ok (.invokespecial 3, 3) := by decide +kernel
theorem dX4_init_4 : decode cX4_init 4 = .ok (.aload_n 0, 1) := by decide +kernel
theorem dX4_init_5 : decode cX4_init 5 = .ok (.iconst 0, 1) := by decide +kernel
theorem dX4_init_6 : decode cX4_init 6 = .ok (.putfield 9, 3) := by decide +kernel
theorem dX4_init_9 : decode cX4_init 9 = .ok (.aload_n 0, 1) := by decide +kernel
theorem dX4_init_10 : decode cX4_init 10 = .ok (.iconst 0, 1) := by decide +kernel
theorem dX4_init_11 : decode cX4_init 11 = .ok (.putfield 15, 3) := by decide +kernel
theorem dX4_init_14 : decode cX4_init 14 = .ok (.aload_n 0, 1) := by decide +kernel
theorem dX4_init_15 : decode cX4_init 15 = .ok (.iconst 0, 1) := by decide +kernel
theorem dX4_init_16 : decode cX4_init 16 = .ok (.putfield 18, 3) := by decide +kernel
theorem dX4_init_19 : decode cX4_init 19 = .ok (.aload_n 0, 1) := by decide +kernel
theorem dX4_init_20 : decode cX4_init 20 = .ok (.iconst 0, 1) := by decide +kernel
theorem dX4_init_21 : decode cX4_init 21 = .ok (.putfield 21, 3) := by decide +kernel
theorem dX4_init_24 : decode cX4_init 24 = .ok (.aload_n 0, 1) := by decide +kernel
theorem dX4_init_25 : decode cX4_init 25 = .ok (.bipush 6, 2) := by decide +kernel
theorem dX4_init_27 : decode cX4_init 27 = .ok (.newarray .int, 2) := by decide +kernel
theorem dX4_init_29 : decode cX4_init 29 = .ok (.putfield 24, 3) := by decide +kernel
theorem dX4_init_32 : decode cX4_init 32 = .ok (.aload_n 0, 1) := by decide +kernel
theorem dX4_init_33 : decode cX4_init 33 = .ok (.bipush 6, 2) := by decide +kernel
theorem dX4_init_35 : decode cX4_init 35 = .ok (.newarray .int, 2) := by decide +kernel
theorem dX4_init_37 : decode cX4_init 37 = .ok (.putfield 28, 3) := by decide +kernel
theorem dX4_init_40 : decode cX4_init 40 = .ok (.aload_n 0, 1) := by decide +kernel
theorem dX4_init_41 : decode cX4_init 41 = .ok (.bipush 8, 2) := by decide +kernel
theorem dX4_init_43 : decode cX4_init 43 = .ok (.newarray .int, 2) := by decide +kernel
theorem dX4_init_45 : decode cX4_init 45 = .ok (.putfield 31, 3) := by decide +kernel
theorem dX4_init_48 : decode cX4_init 48 = .ok (.aload_n 0, 1) := by decide +kernel
theorem dX4_init_49 : decode cX4_init 49 = .ok (.bipush 8, 2) := by decide +kernel
theorem dX4_init_51 : decode cX4_init 51 = .ok (.newarray .int, 2) := by decide +kernel
theorem dX4_init_53 : decode cX4_init 53 = .ok (.putfield 34, 3) := by decide +kernel
theorem dX4_init_56 : decode cX4_init 56 = .ok (.aload_n 0, 1) := by decide +kernel
theorem dX4_init_57 : decode cX4_init 57 = .ok (.bipush 8, 2) := by decide +kernel
theorem dX4_init_59 : decode cX4_init 59 = .ok (.newarray .int, 2) := by decide +kernel
theorem dX4_init_61 : decode cX4_init 61 = .ok (.putfield 37, 3) := by decide +kernel
theorem dX4_init_64 : decode cX4_init 64 = .ok (.aload_n 0, 1) := by decide +kernel
theorem dX4_init_65 : decode cX4_init 65 = .ok (.bipush 8, 2) := by decide +kernel
theorem dX4_init_67 : decode cX4_init 67 = .ok (.newarray .int, 2) := by decide +kernel
theorem dX4_init_69 : decode cX4_init 69 = .ok (.putfield 40, 3) := by decide +kernel
theorem dX4_init_72 : decode cX4_init 72 = .ok (.return_, 1) := by decide +kernel
theorem dX4_become_0 : decode cX4_become 0 = .ok (.aload_n 0, 1) := by decide +kernel
theorem dX4_become_1 : decode cX4_become 1 = .ok (.aload_n 1, 1) := by decide +kernel
theorem dX4_become_2 : decode cX4_become 2 = .ok (.getfield 9, 3) := by decide +kernel
theorem dX4_become_5 : decode cX4_become 5 = .ok (.putfield 9, 3) := by decide +kernel
theorem dX4_become_8 : decode cX4_become 8 = .ok (.aload_n 0, 1) := by decide +kernel
theorem dX4_become_9 : decode cX4_become 9 = .ok (.aload_n 1, 1) := by decide +kernel
theorem dX4_become_10 : decode cX4_become 10 = .ok (.getfield 15, 3) := by decide +kernel
theorem dX4_become_13 : decode cX4_become 13 = .ok (.putfield 15, 3) := by decide +kernel
theorem dX4_become_16 : decode cX4_become 16 = .ok (.aload_n 0, 1) := by decide +kernel
theorem dX4_become_17 : decode cX4_become 17 = .ok (.aload_n 1, 1) := by decide +kernel
theorem dX4_become_18 : decode cX4_become 18 = .ok (.getfield 18, 3) := by decide +kernel
theorem dX4_become_21 : decode cX4_become 21 = .ok (.putfield 18, 3) := by decide +kernel
theorem dX4_become_24 : decode cX4_become 24 = .ok (.aload_n 0, 1) := by decide +kernel
theorem dX4_become_25 : decode cX4_become 25 = .ok (.aload_n 1, 1) := by decide +kernel
theorem dX4_become_26 : decode cX4_become 26 = .ok (.getfield 21, 3) := by decide +kernel
theorem dX4_become_29 : decode cX4_become 29 = .ok (.putfield 21, 3) := by decide +kernel
theorem dX4_become_32 : decode cX4_become 32 = .ok (.aload_n 1, 1) := by decide +kernel
theorem dX4_become_33 : decode cX4_become 33 = .ok (.getfield 24, 3) := by decide +kernel
theorem dX4_become_36 : decode cX4_become 36 = .ok (.iconst 0, 1) := by decide +kernel
theorem dX4_become_37 : decode cX4_become 37 = .ok (.aload_n 0, 1) := by decide +kernel
theorem dX4_become_38 : decode cX4_become 38 = .ok (.getfield 24, 3) := by decide +kernel
theorem dX4_become_41 : decode cX4_become 41 = .ok (.iconst 0, 1) := by decide +kernel
theorem dX4_become_42 : decode cX4_become 42 = .ok (.bipush 6, 2) := by decide +kernel
theorem dX4_become_44 : decode cX4_become 44 = .ok (.invokestatic 43, 3) := by decide +kernel
theorem dX4_become_47 : decode cX4_become 47 = .ok (.aload_n 1, 1) := by decide +kernel
theorem dX4_become_48 : decode cX4_become 48 = .ok (.getfield 28, 3) := by decide +kernel
theorem dX4_become_51 : decode cX4_become 51 = .ok (.iconst 0, 1) := by decide +kernel
theorem dX4_become_52 : decode cX4_become 52 = .ok (.aload_n 0, 1) := by decide +kernel
theorem dX4_become_53 : decode cX4_become 53 = .ok (.getfield 28, 3) := by decide +kernel
theorem dX4_become_56 : decode cX4_become 56 = .ok (.iconst 0, 1) := by decide +kernel
theorem dX4_become_57 : decode cX4_become 57 = .ok (.bipush 6, 2) := by decide +kernel
theorem dX4_become_59 : decode cX4_become 59 = .ok (.invokestatic 43, 3) := by decide +kernel
theorem dX4_become_62 : decode cX4_become 62 = .ok (.aload_n 1, 1) := by decide +kernel
theorem dX4_become_63 : decode cX4_become 63 = .ok (.getfield 31, 3) := by decide +kernel
theorem dX4_become_66 : decode cX4_become 66 = .ok (.iconst 0, 1) := by decide +kernel
theorem dX4_become_67 : decode cX4_become 67 = .ok (.aload_n 0, 1) := by decide +kernel
theorem dX4_become_68 : decode cX4_become 68 = .ok (.getfield 31, 3) := by decide +kernel
theorem dX4_become_71 : decode cX4_become 71 = .ok (.iconst 0, 1) := by decide +kernel
theorem dX4_become_72 : decode cX4_become 72 = .ok (.bipush 8, 2) := by decide +kernel
theorem dX4_become_74 : decode cX4_become 74 = .ok (.invokestatic 43, 3) := by decide +kernel
theorem dX4_become_77 : decode cX4_become 77 = .ok (.aload_n 1, 1) := by decide +kernel
theorem dX4_become_78 : decode cX4_become 78 = .ok (.getfield 34, 3) := by decide +kernel
theorem dX4_become_81 : decode cX4_become 81 = .ok (.iconst 0, 1) := by decide +kernel
theorem dX4_become_82 : decode cX4_become 82 = .ok (.aload_n 0, 1) := by decide +kernel
theorem dX4_become_83 : decode cX4_become 83 = .ok (.getfield 34, 3) := by decide +kernel
theorem dX4_become_86 : decode cX4_become 86 = .ok (.iconst 0, 1) := by decide +kernel
theorem dX4_become_87 : decode cX4_become 87 = .ok (.bipush 8, 2) := by decide +kernel
theorem dX4_become_89 : decode cX4_become 89 = .ok (.invokestatic 43, 3) := by decide +kernel
theorem dX4_become_92 : decode cX4_become 92 = .ok (.aload_n 1, 1) := by decide +kernel
theorem dX4_become_93 : decode cX4_become 93 = .ok (.getfield 37, 3) := by decide +kernel
theorem dX4_become_96 : decode cX4_become 96 = .ok (.iconst 0, 1) := by decide +kernel
theorem dX4_become_97 : decode cX4_become 97 = .ok (.aload_n 0, 1) := by decide +kernel
theorem dX4_become_98 : decode cX4_become 98 = .ok (.getfield 37, 3) := by decide +kernel
theorem dX4_become_101 : decode cX4_become 101 = .ok (.iconst 0, 1) := by decide +kernel
theorem dX4_become_102 : decode cX4_become 102 = .ok (.bipush 8, 2) := by decide +kernel
theorem dX4_become_104 : decode cX4_become 104 = .ok (.invokestatic 43, 3) := by decide +kernel
theorem dX4_become_107 : decode cX4_become 107 = .ok (.aload_n 1, 1) := by decide +kernel
theorem dX4_become_108 : decode cX4_become 108 = .ok (.getfield 40, 3) := by decide +kernel
theorem dX4_become_111 : decode cX4_become 111 = .ok (.iconst 0, 1) := by decide +kernel
theorem dX4_become_112 : decode cX4_become 112 = .ok (.aload_n 0, 1) := by decide +kernel
theorem dX4_become_113 : decode cX4_become 113 = .ok (.getfield 40, 3) := by decide +kernel
theorem dX4_become_116 : decode cX4_become 116 = .ok (.iconst 0, 1) := by decide +kernel
theorem dX4_become_117 : decode cX4_become 117 = .ok (.bipush 8, 2) := by decide +kernel
theorem dX4_become_119 : decode cX4_become 119 = .ok (.invokestatic 43, 3) := by decide +kernel
theorem dX4_become_122 : decode cX4_become 122 = .ok (.return_, 1) := by decide +kernel
theorem dX4_isFull_0 : decode cX4_isFull 0 = .ok (.aload_n 0, 1) := by decide +kernel
theorem dX4_isFull_1 : decode cX4_isFull 1 = .ok (.getfield 21, 3) := by decide +kernel
theorem dX4_isFull_4 : decode cX4_isFull 4 = .ok (.bipush 8, 2) := by decide +kernel
theorem dX4_isFull_6 : decode cX4_isFull 6 = .ok (.if_icmp .lt 7, 3) := by decide +kernel
theorem dX4_isFull_9 : decode cX4_isFull 9 = .ok (.iconst 1, 1) := by decide +kernel
theorem dX4_isFull_10 : decode cX4_isFull 10 = .ok (.goto 4, 3) := by decide +kernel
theorem dX4_isFull_13 : decode cX4_isFull 13 = .ok (.iconst 0, 1) := by decide +kernel
theorem dX4_isFull_14 : decode cX4_isFull 14 = .ok (.ireturn, 1) := by decide +kernel
theorem dX4_add_0 : decode cX4_add 0 = .ok (.aload_n 0, 1) := by decide +kernel
theorem dX4_add_1 : decode cX4_add 1 = .ok (.getfield 21, 3) := by decide +kernel
theorem dX4_add_4 : decode cX4_add 4 = .ok (.istore_n 2, 1) := by decide +kernel
theorem dX4_add_5 : decode cX4_add 5 = .ok (.aload_n 0, 1) := by decide +kernel
theorem dX4_add_6 : decode cX4_add 6 = .ok (.getfield 31, 3) := by decide +kernel
theorem dX4_add_9 : decode cX4_add 9 = .ok (.iload_n 2, 1) := by decide +kernel
theorem dX4_add_10 : decode cX4_add 10 = .ok (.iload_n 1, 1) := by decide +kernel
theorem dX4_add_11 : decode cX4_add 11 = .ok (.iastore, 1) := by decide +kernel
theorem dX4_add_12 : decode cX4_add 12 = .ok (.aload_n 0, 1) := by decide +kernel
theorem dX4_add_13 : decode cX4_add 13 = .ok (.getfield 34, 3) := by decide +kernel
theorem dX4_add_16 : decode cX4_add 16 = .ok (.iload_n 2, 1) := by decide +kernel
theorem dX4_add_17 : decode cX4_add 17 = .ok (.iconst 0, 1) := by decide +kernel
theorem dX4_add_18 : decode cX4_add 18 = .ok (.iastore, 1) := by decide +kernel
theorem dX4_add_19 : decode cX4_add 19 = .ok (.aload_n 0, 1) := by decide +kernel
theorem dX4_add_20 : decode cX4_add 20 = .ok (.getfield 37, 3) := by decide +kernel
theorem dX4_add_23 : decode cX4_add 23 = .ok (.iload_n 2, 1) := by decide +kernel
theorem dX4_add_24 : decode cX4_add 24 = .ok (.bipush 20, 2) := by decide +kernel
theorem dX4_add_26 : decode cX4_add 26 = .ok (.iastore, 1) := by decide +kernel
theorem dX4_add_27 : decode cX4_add 27 = .ok (.aload_n 0, 1) := by decide +kernel
theorem dX4_add_28 : decode cX4_add 28 = .ok (.getfield 40, 3) := by decide +kernel
theorem dX4_add_31 : decode cX4_add 31 = .ok (.iload_n 2, 1) := by decide +kernel
theorem dX4_add_32 : decode cX4_add 32 = .ok (.iconst 0, 1) := by decide +kernel
theorem dX4_add_33 : decode cX4_add 33 = .ok (.iastore, 1) := by decide +kernel
theorem dX4_add_34 : decode cX4_add 34 = .ok (.aload_n 0, 1) := by decide +kernel
theorem dX4_add_35 : decode cX4_add 35 = .ok (.dup, 1) := by decide +kernel
theorem dX4_add_36 : decode cX4_add 36 = .ok (.getfield 21, 3) := by decide +kernel
theorem dX4_add_39 : decode cX4_add 39 = .ok (.iconst 1, 1) := by decide +kernel
theorem dX4_add_40 : decode cX4_add 40 = .ok (.iadd, 1) := by decide +kernel
theorem dX4_add_41 : decode cX4_add 41 = .ok (.putfield 21, 3) := by decide +kernel
theorem dX4_add_44 : decode cX4_add 44 = .ok (.iload_n 2, 1) := by decide +kernel
theorem dX4_add_45 : decode cX4_add 45 = .ok (.ireturn, 1) := by decide +kernel
theorem dX4_questionOfDay_0 : decode cX4_questionOfDay 0 = .ok (.aload_n 0, 1) := by decide +kernel
theorem dX4_questionOfDay_1 : decode cX4_questionOfDay 1 = .ok (.getfield 9, 3) := by decide +kernel
theorem dX4_questionOfDay_4 : decode cX4_questionOfDay 4 = .ok (.bipush 6, 2) := by decide +kernel
theorem dX4_questionOfDay_6 : decode cX4_questionOfDay 6 = .ok (.irem, 1) := by decide +kernel
theorem dX4_questionOfDay_7 : decode cX4_questionOfDay 7 = .ok (.ireturn, 1) := by decide +kernel
theorem dX4_lying_0 : decode cX4_lying 0 = .ok (.iload_n 2, 1) := by decide +kernel
theorem dX4_lying_1 : decode cX4_lying 1 = .ok (.ifCond .ne 12, 3) := by decide +kernel
theorem dX4_lying_4 : decode cX4_lying 4 = .ok (.aload_n 0, 1) := by decide +kernel
theorem dX4_lying_5 : decode cX4_lying 5 = .ok (.getfield 24, 3) := by decide +kernel
theorem dX4_lying_8 : decode cX4_lying 8 = .ok (.iload_n 1, 1) := by decide +kernel
theorem dX4_lying_9 : decode cX4_lying 9 = .ok (.iaload, 1) := by decide +kernel
theorem dX4_lying_10 : decode cX4_lying 10 = .ok (.goto 9, 3) := by decide +kernel
theorem dX4_lying_13 : decode cX4_lying 13 = .ok (.aload_n 0, 1) := by decide +kernel
theorem dX4_lying_14 : decode cX4_lying 14 = .ok (.getfield 28, 3) := by decide +kernel
theorem dX4_lying_17 : decode cX4_lying 17 = .ok (.iload_n 1, 1) := by decide +kernel
theorem dX4_lying_18 : decode cX4_lying 18 = .ok (.iaload, 1) := by decide +kernel
theorem dX4_lying_19 : decode cX4_lying 19 = .ok (.ireturn, 1) := by decide +kernel
theorem dX4_lay_0 : decode cX4_lay 0 = .ok (.iload_n 2, 1) := by decide +kernel
theorem dX4_lay_1 : decode cX4_lay 1 = .ok (.ifCond .ne 13, 3) := by decide +kernel
theorem dX4_lay_4 : decode cX4_lay 4 = .ok (.aload_n 0, 1) := by decide +kernel
theorem dX4_lay_5 : decode cX4_lay 5 = .ok (.getfield 24, 3) := by decide +kernel
theorem dX4_lay_8 : decode cX4_lay 8 = .ok (.iload_n 1, 1) := by decide +kernel
theorem dX4_lay_9 : decode cX4_lay 9 = .ok (.iload_n 3, 1) := by decide +kernel
theorem dX4_lay_10 : decode cX4_lay 10 = .ok (.iastore, 1) := by decide +kernel
theorem dX4_lay_11 : decode cX4_lay 11 = .ok (.goto 10, 3) := by decide +kernel
theorem dX4_lay_14 : decode cX4_lay 14 = .ok (.aload_n 0, 1) := by decide +kernel
theorem dX4_lay_15 : decode cX4_lay 15 = .ok (.getfield 28, 3) := by decide +kernel
theorem dX4_lay_18 : decode cX4_lay 18 = .ok (.iload_n 1, 1) := by decide +kernel
theorem dX4_lay_19 : decode cX4_lay 19 = .ok (.iload_n 3, 1) := by decide +kernel
theorem dX4_lay_20 : decode cX4_lay 20 = .ok (.iastore, 1) := by decide +kernel
theorem dX4_lay_21 : decode cX4_lay 21 = .ok (.return_, 1) := by decide +kernel
theorem dX4_tell_0 : decode cX4_tell 0 = .ok (.iload_n 2, 1) := by decide +kernel
theorem dX4_tell_1 : decode cX4_tell 1 = .ok (.iconst 2, 1) := by decide +kernel
theorem dX4_tell_2 : decode cX4_tell 2 = .ok (.if_icmp .ne 14, 3) := by decide +kernel
theorem dX4_tell_5 : decode cX4_tell 5 = .ok (.aload_n 0, 1) := by decide +kernel
theorem dX4_tell_6 : decode cX4_tell 6 = .ok (.getfield 15, 3) := by decide +kernel
theorem dX4_tell_9 : decode cX4_tell 9 = .ok (.iload_n 1, 1) := by decide +kernel
theorem dX4_tell_10 : decode cX4_tell 10 = .ok (.ishr, 1) := by decide +kernel
theorem dX4_tell_11 : decode cX4_tell 11 = .ok (.iconst 1, 1) := by decide +kernel
theorem dX4_tell_12 : decode cX4_tell 12 = .ok (.iand, 1) := by decide +kernel
theorem dX4_tell_13 : decode cX4_tell 13 = .ok (.goto 9, 3) := by decide +kernel
theorem dX4_tell_16 : decode cX4_tell 16 = .ok (.aload_n 0, 1) := by decide +kernel
theorem dX4_tell_17 : decode cX4_tell 17 = .ok (.iload_n 1, 1) := by decide +kernel
theorem dX4_tell_18 : decode cX4_tell 18 = .ok (.iload_n 2, 1) := by decide +kernel
theorem dX4_tell_19 : decode cX4_tell 19 = .ok (.invokevirtual 49, 3) := by decide +kernel
theorem dX4_tell_22 : decode cX4_tell 22 = .ok (.ireturn, 1) := by decide +kernel
theorem dX4_allLying_0 : decode cX4_allLying 0 = .ok (.iconst 0, 1) := by decide +kernel
theorem dX4_allLying_1 : decode cX4_allLying 1 = .ok (.istore_n 2, 1) := by decide +kernel
theorem dX4_allLying_2 : decode cX4_allLying 2 = .ok (.iconst 0, 1) := by decide +kernel
theorem dX4_allLying_3 : decode cX4_allLying 3 = .ok (.istore_n 3, 1) := by decide +kernel
theorem dX4_allLying_4 : decode cX4_allLying 4 = .ok (.iload_n 3, 1) := by decide +kernel
theorem dX4_allLying_5 : decode cX4_allLying 5 = .ok (.bipush 6, 2) := by decide +kernel
theorem dX4_allLying_7 : decode cX4_allLying 7 = .ok (.if_icmp .ge 18, 3) := by decide +kernel
theorem dX4_allLying_10 : decode cX4_allLying 10 = .ok (.iload_n 2, 1) := by decide +kernel
theorem dX4_allLying_11 : decode cX4_allLying 11 = .ok (.aload_n 0, 1) := by decide +kernel
theorem dX4_allLying_12 : decode cX4_allLying 12 = .ok (.iload_n 3, 1) := by decide +kernel
theorem dX4_allLying_13 : decode cX4_allLying 13 = .ok (.iload_n 1, 1) := by decide +kernel
theorem dX4_allLying_14 : decode cX4_allLying 14 = .ok (.invokevirtual 49, 3) := by decide +kernel
theorem dX4_allLying_17 : decode cX4_allLying 17 = .ok (.iadd, 1) := by decide +kernel
theorem dX4_allLying_18 : decode cX4_allLying 18 = .ok (.istore_n 2, 1) := by decide +kernel
theorem dX4_allLying_19 : decode cX4_allLying 19 = .ok (.iinc 3 1, 3) := by decide +kernel
theorem dX4_allLying_22 : decode cX4_allLying 22 = .ok (.goto (-18), 3) := by decide +kernel
theorem dX4_allLying_25 : decode cX4_allLying 25 = .ok (.iload_n 2, 1) := by decide +kernel
theorem dX4_allLying_26 : decode cX4_allLying 26 = .ok (.ireturn, 1) := by decide +kernel
theorem dX4_allPence_0 : decode cX4_allPence 0 = .ok (.iconst 0, 1) := by decide +kernel
theorem dX4_allPence_1 : decode cX4_allPence 1 = .ok (.istore_n 1, 1) := by decide +kernel
theorem dX4_allPence_2 : decode cX4_allPence 2 = .ok (.iconst 0, 1) := by decide +kernel
theorem dX4_allPence_3 : decode cX4_allPence 3 = .ok (.istore_n 2, 1) := by decide +kernel
theorem dX4_allPence_4 : decode cX4_allPence 4 = .ok (.iload_n 2, 1) := by decide +kernel
theorem dX4_allPence_5 : decode cX4_allPence 5 = .ok (.aload_n 0, 1) := by decide +kernel
theorem dX4_allPence_6 : decode cX4_allPence 6 = .ok (.getfield 21, 3) := by decide +kernel
theorem dX4_allPence_9 : decode cX4_allPence 9 = .ok (.if_icmp .ge 18, 3) := by decide +kernel
theorem dX4_allPence_12 : decode cX4_allPence 12 = .ok (.iload_n 1, 1) := by decide +kernel
theorem dX4_allPence_13 : decode cX4_allPence 13 = .ok (.aload_n 0, 1) := by decide +kernel
theorem dX4_allPence_14 : decode cX4_allPence 14 = .ok (.getfield 37, 3) := by decide +kernel
theorem dX4_allPence_17 : decode cX4_allPence 17 = .ok (.iload_n 2, 1) := by decide +kernel
theorem dX4_allPence_18 : decode cX4_allPence 18 = .ok (.iaload, 1) := by decide +kernel
theorem dX4_allPence_19 : decode cX4_allPence 19 = .ok (.iadd, 1) := by decide +kernel
theorem dX4_allPence_20 : decode cX4_allPence 20 = .ok (.istore_n 1, 1) := by decide +kernel
theorem dX4_allPence_21 : decode cX4_allPence 21 = .ok (.iinc 2 1, 3) := by decide +kernel
theorem dX4_allPence_24 : decode cX4_allPence 24 = .ok (.goto (-20), 3) := by decide +kernel
theorem dX4_allPence_27 : decode cX4_allPence 27 = .ok (.iload_n 1, 1) := by decide +kernel
theorem dX4_allPence_28 : decode cX4_allPence 28 = .ok (.ireturn, 1) := by decide +kernel
theorem dX4_thoseForLeft_0 : decode cX4_thoseForLeft 0 = .ok (.iconst 0, 1) := by decide +kernel
theorem dX4_thoseForLeft_1 : decode cX4_thoseForLeft 1 = .ok (.istore_n 1, 1) := by decide +kernel
theorem dX4_thoseForLeft_2 : decode cX4_thoseForLeft 2 = .ok (.iconst 0, 1) := by decide +kernel
theorem dX4_thoseForLeft_3 : decode cX4_thoseForLeft 3 = .ok (.istore_n 2, 1) := by decide +kernel
theorem dX4_thoseForLeft_4 : decode cX4_thoseForLeft 4 = .ok (.iload_n 2, 1) := by decide +kernel
theorem dX4_thoseForLeft_5 : decode cX4_thoseForLeft 5 = .ok (.aload_n 0, 1) := by decide +kernel
theorem dX4_thoseForLeft_6 : decode cX4_thoseForLeft 6 = .ok (.getfield 21, 3) := by decide +kernel
theorem dX4_thoseForLeft_9 : decode cX4_thoseForLeft 9 = .ok (.if_icmp .ge 36, 3) := by decide +kernel
theorem dX4_thoseForLeft_12 : decode cX4_thoseForLeft 12 = .ok (.aload_n 0, 1) := by decide +kernel
theorem dX4_thoseForLeft_13 : decode cX4_thoseForLeft 13 = .ok (.getfield 40, 3) := by decide +kernel
theorem dX4_thoseForLeft_16 : decode cX4_thoseForLeft 16 = .ok (.iload_n 2, 1) := by decide +kernel
theorem dX4_thoseForLeft_17 : decode cX4_thoseForLeft 17 = .ok (.iaload, 1) := by decide +kernel
theorem dX4_thoseForLeft_18 : decode cX4_thoseForLeft 18 = .ok (.ifCond .ne 21, 3) := by decide +kernel
theorem dX4_thoseForLeft_21 : decode cX4_thoseForLeft 21 = .ok (.aload_n 0, 1) := by decide +kernel
theorem dX4_thoseForLeft_22 : decode cX4_thoseForLeft 22 = .ok (.iload_n 2, 1) := by decide +kernel
theorem dX4_thoseForLeft_23 : decode cX4_thoseForLeft 23 = .ok (.aload_n 0, 1) := by decide +kernel
theorem dX4_thoseForLeft_24 : decode cX4_thoseForLeft 24 = .ok (.invokevirtual 53, 3) := by decide +kernel
theorem dX4_thoseForLeft_27 : decode cX4_thoseForLeft 27 = .ok (.invokevirtual 57, 3) := by decide +kernel
theorem dX4_thoseForLeft_30 : decode cX4_thoseForLeft 30 = .ok (.ifCond .ne 9, 3) := by decide +kernel
theorem dX4_thoseForLeft_33 : decode cX4_thoseForLeft 33 = .ok (.iload_n 1, 1) := by decide +kernel
theorem dX4_thoseForLeft_34 : decode cX4_thoseForLeft 34 = .ok (.iconst 1, 1) := by decide +kernel
theorem dX4_thoseForLeft_35 : decode cX4_thoseForLeft 35 = .ok (.iload_n 2, 1) := by decide +kernel
theorem dX4_thoseForLeft_36 : decode cX4_thoseForLeft 36 = .ok (.ishl, 1) := by decide +kernel
theorem dX4_thoseForLeft_37 : decode cX4_thoseForLeft 37 = .ok (.ior, 1) := by decide +kernel
theorem dX4_thoseForLeft_38 : decode cX4_thoseForLeft 38 = .ok (.istore_n 1, 1) := by decide +kernel
theorem dX4_thoseForLeft_39 : decode cX4_thoseForLeft 39 = .ok (.iinc 2 1, 3) := by decide +kernel
theorem dX4_thoseForLeft_42 : decode cX4_thoseForLeft 42 = .ok (.goto (-38), 3) := by decide +kernel
theorem dX4_thoseForLeft_45 : decode cX4_thoseForLeft 45 = .ok (.iload_n 1, 1) := by decide +kernel
theorem dX4_thoseForLeft_46 : decode cX4_thoseForLeft 46 = .ok (.ireturn, 1) := by decide +kernel
theorem dX4_sideOf_0 : decode cX4_sideOf 0 = .ok (.aload_n 0, 1) := by decide +kernel
theorem dX4_sideOf_1 : decode cX4_sideOf 1 = .ok (.getfield 31, 3) := by decide +kernel
theorem dX4_sideOf_4 : decode cX4_sideOf 4 = .ok (.iload_n 1, 1) := by decide +kernel
theorem dX4_sideOf_5 : decode cX4_sideOf 5 = .ok (.iaload, 1) := by decide +kernel
theorem dX4_sideOf_6 : decode cX4_sideOf 6 = .ok (.tableswitch 74 1 5 #[34, 41, 62, 69, 41], 34) := by decide +kernel
theorem dX4_sideOf_40 : decode cX4_sideOf 40 = .ok (.aload_n 0, 1) := by decide +kernel
theorem dX4_sideOf_41 : decode cX4_sideOf 41 = .ok (.iload_n 1, 1) := by decide +kernel
theorem dX4_sideOf_42 : decode cX4_sideOf 42 = .ok (.iload_n 2, 1) := by decide +kernel
theorem dX4_sideOf_43 : decode cX4_sideOf 43 = .ok (.invokevirtual 60, 3) := by decide +kernel
theorem dX4_sideOf_46 : decode cX4_sideOf 46 = .ok (.ireturn, 1) := by decide +kernel
theorem dX4_sideOf_47 : decode cX4_sideOf 47 = .ok (.aload_n 0, 1) := by decide +kernel
theorem dX4_sideOf_48 : decode cX4_sideOf 48 = .ok (.getfield 24, 3) := by decide +kernel
theorem dX4_sideOf_51 : decode cX4_sideOf 51 = .ok (.iload_n 2, 1) := by decide +kernel
theorem dX4_sideOf_52 : decode cX4_sideOf 52 = .ok (.iaload, 1) := by decide +kernel
theorem dX4_sideOf_53 : decode cX4_sideOf 53 = .ok (.aload_n 0, 1) := by decide +kernel
theorem dX4_sideOf_54 : decode cX4_sideOf 54 = .ok (.getfield 28, 3) := by decide +kernel
theorem dX4_sideOf_57 : decode cX4_sideOf 57 = .ok (.iload_n 2, 1) := by decide +kernel
theorem dX4_sideOf_58 : decode cX4_sideOf 58 = .ok (.iaload, 1) := by decide +kernel
theorem dX4_sideOf_59 : decode cX4_sideOf 59 = .ok (.if_icmp .gt 7, 3) := by decide +kernel
theorem dX4_sideOf_62 : decode cX4_sideOf 62 = .ok (.iconst 0, 1) := by decide +kernel
theorem dX4_sideOf_63 : decode cX4_sideOf 63 = .ok (.goto 4, 3) := by decide +kernel
theorem dX4_sideOf_66 : decode cX4_sideOf 66 = .ok (.iconst 1, 1) := by decide +kernel
theorem dX4_sideOf_67 : decode cX4_sideOf 67 = .ok (.ireturn, 1) := by decide +kernel
theorem dX4_sideOf_68 : decode cX4_sideOf 68 = .ok (.aload_n 0, 1) := by decide +kernel
theorem dX4_sideOf_69 : decode cX4_sideOf 69 = .ok (.getfield 9, 3) := by decide +kernel
theorem dX4_sideOf_72 : decode cX4_sideOf 72 = .ok (.iconst 2, 1) := by decide +kernel
theorem dX4_sideOf_73 : decode cX4_sideOf 73 = .ok (.irem, 1) := by decide +kernel
theorem dX4_sideOf_74 : decode cX4_sideOf 74 = .ok (.ireturn, 1) := by decide +kernel
theorem dX4_sideOf_75 : decode cX4_sideOf 75 = .ok (.aload_n 0, 1) := by decide +kernel
theorem dX4_sideOf_76 : decode cX4_sideOf 76 = .ok (.getfield 18, 3) := by decide +kernel
theorem dX4_sideOf_79 : decode cX4_sideOf 79 = .ok (.ireturn, 1) := by decide +kernel
theorem dX4_sideOf_80 : decode cX4_sideOf 80 = .ok (.aload_n 0, 1) := by decide +kernel
theorem dX4_sideOf_81 : decode cX4_sideOf 81 = .ok (.iload_n 1, 1) := by decide +kernel
theorem dX4_sideOf_82 : decode cX4_sideOf 82 = .ok (.iload_n 2, 1) := by decide +kernel
theorem dX4_sideOf_83 : decode cX4_sideOf 83 = .ok (.invokevirtual 63, 3) := by decide +kernel
theorem dX4_sideOf_86 : decode cX4_sideOf 86 = .ok (.ireturn, 1) := by decide +kernel
theorem dX4_throwerSide_0 : decode cX4_throwerSide 0 = .ok (.aload_n 0, 1) := by decide +kernel
theorem dX4_throwerSide_1 : decode cX4_throwerSide 1 = .ok (.getfield 34, 3) := by decide +kernel
theorem dX4_throwerSide_4 : decode cX4_throwerSide 4 = .ok (.iload_n 1, 1) := by decide +kernel
theorem dX4_throwerSide_5 : decode cX4_throwerSide 5 = .ok (.iaload, 1) := by decide +kernel
theorem dX4_throwerSide_6 : decode cX4_throwerSide 6 = .ok (.iload_n 2, 1) := by decide +kernel
theorem dX4_throwerSide_7 : decode cX4_throwerSide 7 = .ok (.ishr, 1) := by decide +kernel
theorem dX4_throwerSide_8 : decode cX4_throwerSide 8 = .ok (.iconst 1, 1) := by decide +kernel
theorem dX4_throwerSide_9 : decode cX4_throwerSide 9 = .ok (.iand, 1) := by decide +kernel
theorem dX4_throwerSide_10 : decode cX4_throwerSide 10 = .ok (.iconst 1, 1) := by decide +kernel
theorem dX4_throwerSide_11 : decode cX4_throwerSide 11 = .ok (.if_icmp .ne 7, 3) := by decide +kernel
theorem dX4_throwerSide_14 : decode cX4_throwerSide 14 = .ok (.iconst 0, 1) := by decide +kernel
theorem dX4_throwerSide_15 : decode cX4_throwerSide 15 = .ok (.goto 4, 3) := by decide +kernel
theorem dX4_throwerSide_18 : decode cX4_throwerSide 18 = .ok (.iconst 1, 1) := by decide +kernel
theorem dX4_throwerSide_19 : decode cX4_throwerSide 19 = .ok (.ireturn, 1) := by decide +kernel
theorem dX4_ladySide_0 : decode cX4_ladySide 0 = .ok (.aload_n 0, 1) := by decide +kernel
theorem dX4_ladySide_1 : decode cX4_ladySide 1 = .ok (.iload_n 1, 1) := by decide +kernel
theorem dX4_ladySide_2 : decode cX4_ladySide 2 = .ok (.iload_n 2, 1) := by decide +kernel
theorem dX4_ladySide_3 : decode cX4_ladySide 3 = .ok (.invokevirtual 63, 3) := by decide +kernel
theorem dX4_ladySide_6 : decode cX4_ladySide 6 = .ok (.istore_n 3, 1) := by decide +kernel
theorem dX4_ladySide_7 : decode cX4_ladySide 7 = .ok (.iconst 1, 1) := by decide +kernel
theorem dX4_ladySide_8 : decode cX4_ladySide 8 = .ok (.iload_n 3, 1) := by decide +kernel
theorem dX4_ladySide_9 : decode cX4_ladySide 9 = .ok (.isub, 1) := by decide +kernel
theorem dX4_ladySide_10 : decode cX4_ladySide 10 = .ok (.istore 4, 2) := by decide +kernel
theorem dX4_ladySide_12 : decode cX4_ladySide 12 = .ok (.aload_n 0, 1) := by decide +kernel
theorem dX4_ladySide_13 : decode cX4_ladySide 13 = .ok (.iload_n 2, 1) := by decide +kernel
theorem dX4_ladySide_14 : decode cX4_ladySide 14 = .ok (.iload_n 3, 1) := by decide +kernel
theorem dX4_ladySide_15 : decode cX4_ladySide 15 = .ok (.invokevirtual 49, 3) := by decide +kernel
theorem dX4_ladySide_18 : decode cX4_ladySide 18 = .ok (.aload_n 0, 1) := by decide +kernel
theorem dX4_ladySide_19 : decode cX4_ladySide 19 = .ok (.iload_n 2, 1) := by decide +kernel
theorem dX4_ladySide_20 : decode cX4_ladySide 20 = .ok (.iload 4, 2) := by decide +kernel
theorem dX4_ladySide_22 : decode cX4_ladySide 22 = .ok (.invokevirtual 49, 3) := by decide +kernel
theorem dX4_ladySide_25 : decode cX4_ladySide 25 = .ok (.isub, 1) := by decide +kernel
theorem dX4_ladySide_26 : decode cX4_ladySide 26 = .ok (.bipush 20, 2) := by decide +kernel
theorem dX4_ladySide_28 : decode cX4_ladySide 28 = .ok (.if_icmp .le 8, 3) := by decide +kernel
theorem dX4_ladySide_31 : decode cX4_ladySide 31 = .ok (.iload 4, 2) := by decide +kernel
theorem dX4_ladySide_33 : decode cX4_ladySide 33 = .ok (.goto 4, 3) := by decide +kernel
theorem dX4_ladySide_36 : decode cX4_ladySide 36 = .ok (.iload_n 3, 1) := by decide +kernel
theorem dX4_ladySide_37 : decode cX4_ladySide 37 = .ok (.ireturn, 1) := by decide +kernel
theorem dX4_throwsOf_0 : decode cX4_throwsOf 0 = .ok (.aload_n 0, 1) := by decide +kernel
theorem dX4_throwsOf_1 : decode cX4_throwsOf 1 = .ok (.getfield 31, 3) := by decide +kernel
theorem dX4_throwsOf_4 : decode cX4_throwsOf 4 = .ok (.iload_n 1, 1) := by decide +kernel
theorem dX4_throwsOf_5 : decode cX4_throwsOf 5 = .ok (.iaload, 1) := by decide +kernel
theorem dX4_throwsOf_6 : decode cX4_throwsOf 6 = .ok (.aload_n 0, 1) := by decide +kernel
theorem dX4_throwsOf_7 : decode cX4_throwsOf 7 = .ok (.getfield 37, 3) := by decide +kernel
theorem dX4_throwsOf_10 : decode cX4_throwsOf 10 = .ok (.iload_n 1, 1) := by decide +kernel
theorem dX4_throwsOf_11 : decode cX4_throwsOf 11 = .ok (.iaload, 1) := by decide +kernel
theorem dX4_throwsOf_12 : decode cX4_throwsOf 12 = .ok (.invokestatic 66, 3) := by decide +kernel
theorem dX4_throwsOf_15 : decode cX4_throwsOf 15 = .ok (.ireturn, 1) := by decide +kernel
theorem dX4_divesOf_0 : decode cX4_divesOf 0 = .ok (.aload_n 0, 1) := by decide +kernel
theorem dX4_divesOf_1 : decode cX4_divesOf 1 = .ok (.getfield 31, 3) := by decide +kernel
theorem dX4_divesOf_4 : decode cX4_divesOf 4 = .ok (.iload_n 1, 1) := by decide +kernel
theorem dX4_divesOf_5 : decode cX4_divesOf 5 = .ok (.iaload, 1) := by decide +kernel
theorem dX4_divesOf_6 : decode cX4_divesOf 6 = .ok (.aload_n 0, 1) := by decide +kernel
theorem dX4_divesOf_7 : decode cX4_divesOf 7 = .ok (.getfield 24, 3) := by decide +kernel
theorem dX4_divesOf_10 : decode cX4_divesOf 10 = .ok (.iload_n 2, 1) := by decide +kernel
theorem dX4_divesOf_11 : decode cX4_divesOf 11 = .ok (.iaload, 1) := by decide +kernel
theorem dX4_divesOf_12 : decode cX4_divesOf 12 = .ok (.aload_n 0, 1) := by decide +kernel
theorem dX4_divesOf_13 : decode cX4_divesOf 13 = .ok (.getfield 28, 3) := by decide +kernel
theorem dX4_divesOf_16 : decode cX4_divesOf 16 = .ok (.iload_n 2, 1) := by decide +kernel
theorem dX4_divesOf_17 : decode cX4_divesOf 17 = .ok (.iaload, 1) := by decide +kernel
theorem dX4_divesOf_18 : decode cX4_divesOf 18 = .ok (.invokestatic 71, 3) := by decide +kernel
theorem dX4_divesOf_21 : decode cX4_divesOf 21 = .ok (.ireturn, 1) := by decide +kernel
theorem dX4_goDays_0 : decode cX4_goDays 0 = .ok (.iconst 0, 1) := by decide +kernel
theorem dX4_goDays_1 : decode cX4_goDays 1 = .ok (.istore_n 2, 1) := by decide +kernel
theorem dX4_goDays_2 : decode cX4_goDays 2 = .ok (.iload_n 2, 1) := by decide +kernel
theorem dX4_goDays_3 : decode cX4_goDays 3 = .ok (.iload_n 1, 1) := by decide +kernel
theorem dX4_goDays_4 : decode cX4_goDays 4 = .ok (.if_icmp .ge 13, 3) := by decide +kernel
theorem dX4_goDays_7 : decode cX4_goDays 7 = .ok (.aload_n 0, 1) := by decide +kernel
theorem dX4_goDays_8 : decode cX4_goDays 8 = .ok (.invokevirtual 75, 3) := by decide +kernel
theorem dX4_goDays_11 : decode cX4_goDays 11 = .ok (.iinc 2 1, 3) := by decide +kernel
theorem dX4_goDays_14 : decode cX4_goDays 14 = .ok (.goto (-12), 3) := by decide +kernel
theorem dX4_goDays_17 : decode cX4_goDays 17 = .ok (.return_, 1) := by decide +kernel
theorem dX4_goDay_0 : decode cX4_goDay 0 = .ok (.aload_n 0, 1) := by decide +kernel
theorem dX4_goDay_1 : decode cX4_goDay 1 = .ok (.invokevirtual 53, 3) := by decide +kernel
theorem dX4_goDay_4 : decode cX4_goDay 4 = .ok (.istore_n 1, 1) := by decide +kernel
theorem dX4_goDay_5 : decode cX4_goDay 5 = .ok (.iconst 0, 1) := by decide +kernel
theorem dX4_goDay_6 : decode cX4_goDay 6 = .ok (.istore_n 2, 1) := by decide +kernel
theorem dX4_goDay_7 : decode cX4_goDay 7 = .ok (.iload_n 2, 1) := by decide +kernel
theorem dX4_goDay_8 : decode cX4_goDay 8 = .ok (.aload_n 0, 1) := by decide +kernel
theorem dX4_goDay_9 : decode cX4_goDay 9 = .ok (.getfield 21, 3) := by decide +kernel
theorem dX4_goDay_12 : decode cX4_goDay 12 = .ok (.if_icmp .ge 24, 3) := by decide +kernel
theorem dX4_goDay_15 : decode cX4_goDay 15 = .ok (.aload_n 0, 1) := by decide +kernel
theorem dX4_goDay_16 : decode cX4_goDay 16 = .ok (.getfield 40, 3) := by decide +kernel
theorem dX4_goDay_19 : decode cX4_goDay 19 = .ok (.iload_n 2, 1) := by decide +kernel
theorem dX4_goDay_20 : decode cX4_goDay 20 = .ok (.iaload, 1) := by decide +kernel
theorem dX4_goDay_21 : decode cX4_goDay 21 = .ok (.ifCond .ne 9, 3) := by decide +kernel
theorem dX4_goDay_24 : decode cX4_goDay 24 = .ok (.aload_n 0, 1) := by decide +kernel
theorem dX4_goDay_25 : decode cX4_goDay 25 = .ok (.iload_n 2, 1) := by decide +kernel
theorem dX4_goDay_26 : decode cX4_goDay 26 = .ok (.iload_n 1, 1) := by decide +kernel
theorem dX4_goDay_27 : decode cX4_goDay 27 = .ok (.invokevirtual 78, 3) := by decide +kernel
theorem dX4_goDay_30 : decode cX4_goDay 30 = .ok (.iinc 2 1, 3) := by decide +kernel
theorem dX4_goDay_33 : decode cX4_goDay 33 = .ok (.goto (-26), 3) := by decide +kernel
theorem dX4_goDay_36 : decode cX4_goDay 36 = .ok (.aload_n 0, 1) := by decide +kernel
theorem dX4_goDay_37 : decode cX4_goDay 37 = .ok (.iload_n 1, 1) := by decide +kernel
theorem dX4_goDay_38 : decode cX4_goDay 38 = .ok (.invokevirtual 82, 3) := by decide +kernel
theorem dX4_goDay_41 : decode cX4_goDay 41 = .ok (.aload_n 0, 1) := by decide +kernel
theorem dX4_goDay_42 : decode cX4_goDay 42 = .ok (.dup, 1) := by decide +kernel
theorem dX4_goDay_43 : decode cX4_goDay 43 = .ok (.getfield 9, 3) := by decide +kernel
theorem dX4_goDay_46 : decode cX4_goDay 46 = .ok (.iconst 1, 1) := by decide +kernel
theorem dX4_goDay_47 : decode cX4_goDay 47 = .ok (.iadd, 1) := by decide +kernel
theorem dX4_goDay_48 : decode cX4_goDay 48 = .ok (.putfield 9, 3) := by decide +kernel
theorem dX4_goDay_51 : decode cX4_goDay 51 = .ok (.return_, 1) := by decide +kernel
theorem dX4_visit_0 : decode cX4_visit 0 = .ok (.aload_n 0, 1) := by decide +kernel
theorem dX4_visit_1 : decode cX4_visit 1 = .ok (.getfield 37, 3) := by decide +kernel
theorem dX4_visit_4 : decode cX4_visit 4 = .ok (.iload_n 1, 1) := by decide +kernel
theorem dX4_visit_5 : decode cX4_visit 5 = .ok (.aload_n 0, 1) := by decide +kernel
theorem dX4_visit_6 : decode cX4_visit 6 = .ok (.getfield 37, 3) := by decide +kernel
theorem dX4_visit_9 : decode cX4_visit 9 = .ok (.iload_n 1, 1) := by decide +kernel
theorem dX4_visit_10 : decode cX4_visit 10 = .ok (.iaload, 1) := by decide +kernel
theorem dX4_visit_11 : decode cX4_visit 11 = .ok (.aload_n 0, 1) := by decide +kernel
theorem dX4_visit_12 : decode cX4_visit 12 = .ok (.getfield 31, 3) := by decide +kernel
theorem dX4_visit_15 : decode cX4_visit 15 = .ok (.iload_n 1, 1) := by decide +kernel
theorem dX4_visit_16 : decode cX4_visit 16 = .ok (.iaload, 1) := by decide +kernel
theorem dX4_visit_17 : decode cX4_visit 17 = .ok (.invokestatic 86, 3) := by decide +kernel
theorem dX4_visit_20 : decode cX4_visit 20 = .ok (.iadd, 1) := by decide +kernel
theorem dX4_visit_21 : decode cX4_visit 21 = .ok (.sipush 9999, 3) := by decide +kernel
theorem dX4_visit_24 : decode cX4_visit 24 = .ok (.invokestatic 90, 3) := by decide +kernel
theorem dX4_visit_27 : decode cX4_visit 27 = .ok (.iastore, 1) := by decide +kernel
theorem dX4_visit_28 : decode cX4_visit 28 = .ok (.aload_n 0, 1) := by decide +kernel
theorem dX4_visit_29 : decode cX4_visit 29 = .ok (.iload_n 1, 1) := by decide +kernel
theorem dX4_visit_30 : decode cX4_visit 30 = .ok (.invokevirtual 95, 3) := by decide +kernel
theorem dX4_visit_33 : decode cX4_visit 33 = .ok (.istore_n 3, 1) := by decide +kernel
theorem dX4_visit_34 : decode cX4_visit 34 = .ok (.aload_n 0, 1) := by decide +kernel
theorem dX4_visit_35 : decode cX4_visit 35 = .ok (.iload_n 1, 1) := by decide +kernel
theorem dX4_visit_36 : decode cX4_visit 36 = .ok (.iload_n 2, 1) := by decide +kernel
theorem dX4_visit_37 : decode cX4_visit 37 = .ok (.invokevirtual 57, 3) := by decide +kernel
theorem dX4_visit_40 : decode cX4_visit 40 = .ok (.istore 4, 2) := by decide +kernel
theorem dX4_visit_42 : decode cX4_visit 42 = .ok (.aload_n 0, 1) := by decide +kernel
theorem dX4_visit_43 : decode cX4_visit 43 = .ok (.iload_n 2, 1) := by decide +kernel
theorem dX4_visit_44 : decode cX4_visit 44 = .ok (.iload 4, 2) := by decide +kernel
theorem dX4_visit_46 : decode cX4_visit 46 = .ok (.aload_n 0, 1) := by decide +kernel
theorem dX4_visit_47 : decode cX4_visit 47 = .ok (.iload_n 2, 1) := by decide +kernel
theorem dX4_visit_48 : decode cX4_visit 48 = .ok (.iload 4, 2) := by decide +kernel
theorem dX4_visit_50 : decode cX4_visit 50 = .ok (.invokevirtual 49, 3) := by decide +kernel
theorem dX4_visit_53 : decode cX4_visit 53 = .ok (.iload_n 3, 1) := by decide +kernel
theorem dX4_visit_54 : decode cX4_visit 54 = .ok (.iadd, 1) := by decide +kernel
theorem dX4_visit_55 : decode cX4_visit 55 = .ok (.sipush 9999, 3) := by decide +kernel
theorem dX4_visit_58 : decode cX4_visit 58 = .ok (.invokestatic 90, 3) := by decide +kernel
theorem dX4_visit_61 : decode cX4_visit 61 = .ok (.invokevirtual 98, 3) := by decide +kernel
theorem dX4_visit_64 : decode cX4_visit 64 = .ok (.aload_n 0, 1) := by decide +kernel
theorem dX4_visit_65 : decode cX4_visit 65 = .ok (.getfield 37, 3) := by decide +kernel
theorem dX4_visit_68 : decode cX4_visit 68 = .ok (.iload_n 1, 1) := by decide +kernel
theorem dX4_visit_69 : decode cX4_visit 69 = .ok (.dup2, 1) := by decide +kernel
theorem dX4_visit_70 : decode cX4_visit 70 = .ok (.iaload, 1) := by decide +kernel
theorem dX4_visit_71 : decode cX4_visit 71 = .ok (.iload_n 3, 1) := by decide +kernel
theorem dX4_visit_72 : decode cX4_visit 72 = .ok (.isub, 1) := by decide +kernel
theorem dX4_visit_73 : decode cX4_visit 73 = .ok (.iastore, 1) := by decide +kernel
theorem dX4_visit_74 : decode cX4_visit 74 = .ok (.aload_n 0, 1) := by decide +kernel
theorem dX4_visit_75 : decode cX4_visit 75 = .ok (.iload_n 1, 1) := by decide +kernel
theorem dX4_visit_76 : decode cX4_visit 76 = .ok (.iload_n 2, 1) := by decide +kernel
theorem dX4_visit_77 : decode cX4_visit 77 = .ok (.invokevirtual 102, 3) := by decide +kernel
theorem dX4_visit_80 : decode cX4_visit 80 = .ok (.istore 5, 2) := by decide +kernel
theorem dX4_visit_82 : decode cX4_visit 82 = .ok (.aload_n 0, 1) := by decide +kernel
theorem dX4_visit_83 : decode cX4_visit 83 = .ok (.getfield 24, 3) := by decide +kernel
theorem dX4_visit_86 : decode cX4_visit 86 = .ok (.iload_n 2, 1) := by decide +kernel
theorem dX4_visit_87 : decode cX4_visit 87 = .ok (.iaload, 1) := by decide +kernel
theorem dX4_visit_88 : decode cX4_visit 88 = .ok (.aload_n 0, 1) := by decide +kernel
theorem dX4_visit_89 : decode cX4_visit 89 = .ok (.getfield 28, 3) := by decide +kernel
theorem dX4_visit_92 : decode cX4_visit 92 = .ok (.iload_n 2, 1) := by decide +kernel
theorem dX4_visit_93 : decode cX4_visit 93 = .ok (.iaload, 1) := by decide +kernel
theorem dX4_visit_94 : decode cX4_visit 94 = .ok (.if_icmp .lt 7, 3) := by decide +kernel
theorem dX4_visit_97 : decode cX4_visit 97 = .ok (.iconst 0, 1) := by decide +kernel
theorem dX4_visit_98 : decode cX4_visit 98 = .ok (.goto 4, 3) := by decide +kernel
theorem dX4_visit_101 : decode cX4_visit 101 = .ok (.iconst 1, 1) := by decide +kernel
theorem dX4_visit_102 : decode cX4_visit 102 = .ok (.istore 6, 2) := by decide +kernel
theorem dX4_visit_104 : decode cX4_visit 104 = .ok (.aload_n 0, 1) := by decide +kernel
theorem dX4_visit_105 : decode cX4_visit 105 = .ok (.iload_n 2, 1) := by decide +kernel
theorem dX4_visit_106 : decode cX4_visit 106 = .ok (.iload 6, 2) := by decide +kernel
theorem dX4_visit_108 : decode cX4_visit 108 = .ok (.aload_n 0, 1) := by decide +kernel
theorem dX4_visit_109 : decode cX4_visit 109 = .ok (.iload_n 2, 1) := by decide +kernel
theorem dX4_visit_110 : decode cX4_visit 110 = .ok (.iload 6, 2) := by decide +kernel
theorem dX4_visit_112 : decode cX4_visit 112 = .ok (.invokevirtual 49, 3) := by decide +kernel
theorem dX4_visit_115 : decode cX4_visit 115 = .ok (.iload 5, 2) := by decide +kernel
theorem dX4_visit_117 : decode cX4_visit 117 = .ok (.isub, 1) := by decide +kernel
theorem dX4_visit_118 : decode cX4_visit 118 = .ok (.invokevirtual 98, 3) := by decide +kernel
theorem dX4_visit_121 : decode cX4_visit 121 = .ok (.aload_n 0, 1) := by decide +kernel
theorem dX4_visit_122 : decode cX4_visit 122 = .ok (.getfield 37, 3) := by decide +kernel
theorem dX4_visit_125 : decode cX4_visit 125 = .ok (.iload_n 1, 1) := by decide +kernel
theorem dX4_visit_126 : decode cX4_visit 126 = .ok (.aload_n 0, 1) := by decide +kernel
theorem dX4_visit_127 : decode cX4_visit 127 = .ok (.getfield 37, 3) := by decide +kernel
theorem dX4_visit_130 : decode cX4_visit 130 = .ok (.iload_n 1, 1) := by decide +kernel
theorem dX4_visit_131 : decode cX4_visit 131 = .ok (.iaload, 1) := by decide +kernel
theorem dX4_visit_132 : decode cX4_visit 132 = .ok (.iload 5, 2) := by decide +kernel
theorem dX4_visit_134 : decode cX4_visit 134 = .ok (.iadd, 1) := by decide +kernel
theorem dX4_visit_135 : decode cX4_visit 135 = .ok (.sipush 9999, 3) := by decide +kernel
theorem dX4_visit_138 : decode cX4_visit 138 = .ok (.invokestatic 90, 3) := by decide +kernel
theorem dX4_visit_141 : decode cX4_visit 141 = .ok (.iastore, 1) := by decide +kernel
theorem dX4_visit_142 : decode cX4_visit 142 = .ok (.return_, 1) := by decide +kernel
theorem dX4_net_0 : decode cX4_net 0 = .ok (.aload_n 0, 1) := by decide +kernel
theorem dX4_net_1 : decode cX4_net 1 = .ok (.getfield 24, 3) := by decide +kernel
theorem dX4_net_4 : decode cX4_net 4 = .ok (.iload_n 1, 1) := by decide +kernel
theorem dX4_net_5 : decode cX4_net 5 = .ok (.iaload, 1) := by decide +kernel
theorem dX4_net_6 : decode cX4_net 6 = .ok (.aload_n 0, 1) := by decide +kernel
theorem dX4_net_7 : decode cX4_net 7 = .ok (.getfield 28, 3) := by decide +kernel
theorem dX4_net_10 : decode cX4_net 10 = .ok (.iload_n 1, 1) := by decide +kernel
theorem dX4_net_11 : decode cX4_net 11 = .ok (.iaload, 1) := by decide +kernel
theorem dX4_net_12 : decode cX4_net 12 = .ok (.if_icmp .le 18, 3) := by decide +kernel
theorem dX4_net_15 : decode cX4_net 15 = .ok (.aload_n 0, 1) := by decide +kernel
theorem dX4_net_16 : decode cX4_net 16 = .ok (.dup, 1) := by decide +kernel
theorem dX4_net_17 : decode cX4_net 17 = .ok (.getfield 15, 3) := by decide +kernel
theorem dX4_net_20 : decode cX4_net 20 = .ok (.iconst 1, 1) := by decide +kernel
theorem dX4_net_21 : decode cX4_net 21 = .ok (.iload_n 1, 1) := by decide +kernel
theorem dX4_net_22 : decode cX4_net 22 = .ok (.ishl, 1) := by decide +kernel
theorem dX4_net_23 : decode cX4_net 23 = .ok (.ior, 1) := by decide +kernel
theorem dX4_net_24 : decode cX4_net 24 = .ok (.putfield 15, 3) := by decide +kernel
theorem dX4_net_27 : decode cX4_net 27 = .ok (.goto 32, 3) := by decide +kernel
theorem dX4_net_30 : decode cX4_net 30 = .ok (.aload_n 0, 1) := by decide +kernel
theorem dX4_net_31 : decode cX4_net 31 = .ok (.getfield 24, 3) := by decide +kernel
theorem dX4_net_34 : decode cX4_net 34 = .ok (.iload_n 1, 1) := by decide +kernel
theorem dX4_net_35 : decode cX4_net 35 = .ok (.iaload, 1) := by decide +kernel
theorem dX4_net_36 : decode cX4_net 36 = .ok (.aload_n 0, 1) := by decide +kernel
theorem dX4_net_37 : decode cX4_net 37 = .ok (.getfield 28, 3) := by decide +kernel
theorem dX4_net_40 : decode cX4_net 40 = .ok (.iload_n 1, 1) := by decide +kernel
theorem dX4_net_41 : decode cX4_net 41 = .ok (.iaload, 1) := by decide +kernel
theorem dX4_net_42 : decode cX4_net 42 = .ok (.if_icmp .ge 17, 3) := by decide +kernel
theorem dX4_net_45 : decode cX4_net 45 = .ok (.aload_n 0, 1) := by decide +kernel
theorem dX4_net_46 : decode cX4_net 46 = .ok (.dup, 1) := by decide +kernel
theorem dX4_net_47 : decode cX4_net 47 = .ok (.getfield 15, 3) := by decide +kernel
theorem dX4_net_50 : decode cX4_net 50 = .ok (.iconst 1, 1) := by decide +kernel
theorem dX4_net_51 : decode cX4_net 51 = .ok (.iload_n 1, 1) := by decide +kernel
theorem dX4_net_52 : decode cX4_net 52 = .ok (.ishl, 1) := by decide +kernel
theorem dX4_net_53 : decode cX4_net 53 = .ok (.iconst (-1), 1) := by decide +kernel
theorem dX4_net_54 : decode cX4_net 54 = .ok (.ixor, 1) := by decide +kernel
theorem dX4_net_55 : decode cX4_net 55 = .ok (.iand, 1) := by decide +kernel
theorem dX4_net_56 : decode cX4_net 56 = .ok (.putfield 15, 3) := by decide +kernel
theorem dX4_net_59 : decode cX4_net 59 = .ok (.aload_n 0, 1) := by decide +kernel
theorem dX4_net_60 : decode cX4_net 60 = .ok (.getfield 24, 3) := by decide +kernel
theorem dX4_net_63 : decode cX4_net 63 = .ok (.iload_n 1, 1) := by decide +kernel
theorem dX4_net_64 : decode cX4_net 64 = .ok (.dup2, 1) := by decide +kernel
theorem dX4_net_65 : decode cX4_net 65 = .ok (.iaload, 1) := by decide +kernel
theorem dX4_net_66 : decode cX4_net 66 = .ok (.iconst 2, 1) := by decide +kernel
theorem dX4_net_67 : decode cX4_net 67 = .ok (.idiv, 1) := by decide +kernel
theorem dX4_net_68 : decode cX4_net 68 = .ok (.iastore, 1) := by decide +kernel
theorem dX4_net_69 : decode cX4_net 69 = .ok (.aload_n 0, 1) := by decide +kernel
theorem dX4_net_70 : decode cX4_net 70 = .ok (.getfield 28, 3) := by decide +kernel
theorem dX4_net_73 : decode cX4_net 73 = .ok (.iload_n 1, 1) := by decide +kernel
theorem dX4_net_74 : decode cX4_net 74 = .ok (.dup2, 1) := by decide +kernel
theorem dX4_net_75 : decode cX4_net 75 = .ok (.iaload, 1) := by decide +kernel
theorem dX4_net_76 : decode cX4_net 76 = .ok (.iconst 2, 1) := by decide +kernel
theorem dX4_net_77 : decode cX4_net 77 = .ok (.idiv, 1) := by decide +kernel
theorem dX4_net_78 : decode cX4_net 78 = .ok (.iastore, 1) := by decide +kernel
theorem dX4_net_79 : decode cX4_net 79 = .ok (.return_, 1) := by decide +kernel
