theorem dX5_init_0 : decode cX5_init 0 = .ok (.aload_n 0, 1) := by decide +kernel
theorem dX5_init_1 : decode cX5_init 1 = .ok (.invokespecial 1, 3) := by decide +kernel
theorem dX5_init_4 : decode cX5_init 4 = .ok (.aload_n 0, 1) := by decide +kernel
theorem dX5_init_5 : decode cX5_init 5 = .ok (.new 7, 3) := by decide +kernel
theorem dX5_init_8 : decode cX5_init 8 = .ok (.dup, 1) := by decide +kernel
theorem dX5_init_9 : decode cX5_init 9 = .ok (.invokespecial 9, 3) := by decide +kernel
theorem dX5_init_12 : decode cX5_init 12 = .ok (.putfield 10, 3) := by decide +kernel
theorem dX5_init_15 : decode cX5_init 15 = .ok (.aload_n 0, 1) := by decide +kernel
theorem dX5_init_16 : decode cX5_init 16 = .ok (.new 7, 3) := by decide +kernel
theorem dX5_init_19 : decode cX5_init 19 = .ok (.dup, 1) := by decide +kernel
theorem dX5_init_20 : decode cX5_init 20 = .ok (.invokespecial 9, 3) := by decide +kernel
theorem dX5_init_23 : decode cX5_init 23 = .ok (.putfield 16, 3) := by decide +kernel
theorem dX5_init_26 : decode cX5_init 26 = .ok (.aload_n 0, 1) := by decide +kernel
theorem dX5_init_27 : decode cX5_init 27 = .ok (.new 7, 3) := by decide +kernel
theorem dX5_init_30 : decode cX5_init 30 = .ok (.dup, 1) := by decide +kernel
theorem dX5_init_31 : decode cX5_init 31 = .ok (.invokespecial 9, 3) := by decide +kernel
theorem dX5_init_34 : decode cX5_init 34 = .ok (.putfield 19, 3) := by decide +kernel
theorem dX5_init_37 : decode cX5_init 37 = .ok (.aload_n 0, 1) := by decide +kernel
theorem dX5_init_38 : decode cX5_init 38 = .ok (.iconst 0, 1) := by decide +kernel
theorem dX5_init_39 : decode cX5_init 39 = .ok (.putfield 22, 3) := by decide +kernel
theorem dX5_init_42 : decode cX5_init 42 = .ok (.aload_n 0, 1) := by decide +kernel
theorem dX5_init_43 : decode cX5_init 43 = .ok (.new 26, 3) := by decide +kernel
theorem dX5_init_46 : decode cX5_init 46 = .ok (.dup, 1) := by decide +kernel
theorem dX5_init_47 : decode cX5_init 47 = .ok (.invokespecial 28, 3) := by decide +kernel
theorem dX5_init_50 : decode cX5_init 50 = .ok (.putfield 29, 3) := by decide +kernel
theorem dX5_init_53 : decode cX5_init 53 = .ok (.aload_n 0, 1) := by decide +kernel
theorem dX5_init_54 : decode cX5_init 54 = .ok (.new 33, 3) := by decide +kernel
theorem dX5_init_57 : decode cX5_init 57 = .ok (.dup, 1) := by decide +kernel
theorem dX5_init_58 : decode cX5_init 58 = .ok (.aload_n 0, 1) := by decide +kernel
theorem dX5_init_59 : decode cX5_init 59 = .ok (.getfield 29, 3) := by decide +kernel
theorem dX5_init_62 : decode cX5_init 62 = .ok (.aload_n 0, 1) := by decide +kernel
theorem dX5_init_63 : decode cX5_init 63 = .ok (.getfield 16, 3) := by decide +kernel
theorem dX5_init_66 : decode cX5_init 66 = .ok (.invokespecial 35, 3) := by decide +kernel
theorem dX5_init_69 : decode cX5_init 69 = .ok (.putfield 38, 3) := by decide +kernel
theorem dX5_init_72 : decode cX5_init 72 = .ok (.aload_n 0, 1) := by decide +kernel
theorem dX5_init_73 : decode cX5_init 73 = .ok (.new 42, 3) := by decide +kernel
theorem dX5_init_76 : decode cX5_init 76 = .ok (.dup, 1) := by decide +kernel
theorem dX5_init_77 : decode cX5_init 77 = .ok (.invokespecial 44, 3) := by decide +kernel
theorem dX5_init_80 : decode cX5_init 80 = .ok (.putfield 45, 3) := by decide +kernel
theorem dX5_init_83 : decode cX5_init 83 = .ok (.aload_n 0, 1) := by decide +kernel
theorem dX5_init_84 : decode cX5_init 84 = .ok (.bipush 7, 2) := by decide +kernel
theorem dX5_init_86 : decode cX5_init 86 = .ok (.newarray .int, 2) := by decide +kernel
theorem dX5_init_88 : decode cX5_init 88 = .ok (.putfield 49, 3) := by decide +kernel
theorem dX5_init_91 : decode cX5_init 91 = .ok (.return_, 1) := by decide +kernel
theorem dX5_lies_0 : decode cX5_lies 0 = .ok (.iload_n 1, 1) := by decide +kernel
theorem dX5_lies_1 : decode cX5_lies 1 = .ok (.invokestatic 53, 3) := by decide +kernel
theorem dX5_lies_4 : decode cX5_lies 4 = .ok (.ifCond .eq 17, 3) := by decide +kernel
theorem dX5_lies_7 : decode cX5_lies 7 = .ok (.iload_n 2, 1) := by decide +kernel
theorem dX5_lies_8 : decode cX5_lies 8 = .ok (.invokestatic 57, 3) := by decide +kernel
theorem dX5_lies_11 : decode cX5_lies 11 = .ok (.ifCond .eq 10, 3) := by decide +kernel
theorem dX5_lies_14 : decode cX5_lies 14 = .ok (.iload_n 3, 1) := by decide +kernel
theorem dX5_lies_15 : decode cX5_lies 15 = .ok (.invokestatic 60, 3) := by decide +kernel
theorem dX5_lies_18 : decode cX5_lies 18 = .ok (.ifCond .ne 9, 3) := by decide +kernel
theorem dX5_lies_21 : decode cX5_lies 21 = .ok (.aload_n 0, 1) := by decide +kernel
theorem dX5_lies_22 : decode cX5_lies 22 = .ok (.iconst 0, 1) := by decide +kernel
theorem dX5_lies_23 : decode cX5_lies 23 = .ok (.invokevirtual 63, 3) := by decide +kernel
theorem dX5_lies_26 : decode cX5_lies 26 = .ok (.ireturn, 1) := by decide +kernel
theorem dX5_lies_27 : decode cX5_lies 27 = .ok (.aload_n 0, 1) := by decide +kernel
theorem dX5_lies_28 : decode cX5_lies 28 = .ok (.getfield 10, 3) := by decide +kernel
theorem dX5_lies_31 : decode cX5_lies 31 = .ok (.iload_n 1, 1) := by decide +kernel
theorem dX5_lies_32 : decode cX5_lies 32 = .ok (.iload_n 2, 1) := by decide +kernel
theorem dX5_lies_33 : decode cX5_lies 33 = .ok (.invokevirtual 67, 3) := by decide +kernel
theorem dX5_lies_36 : decode cX5_lies 36 = .ok (.istore 4, 2) := by decide +kernel
theorem dX5_lies_38 : decode cX5_lies 38 = .ok (.aload_n 0, 1) := by decide +kernel
theorem dX5_lies_39 : decode cX5_lies 39 = .ok (.getfield 10, 3) := by decide +kernel
theorem dX5_lies_42 : decode cX5_lies 42 = .ok (.iload_n 1, 1) := by decide +kernel
theorem dX5_lies_43 : decode cX5_lies 43 = .ok (.iload_n 2, 1) := by decide +kernel
theorem dX5_lies_44 : decode cX5_lies 44 = .ok (.iload_n 3, 1) := by decide +kernel
theorem dX5_lies_45 : decode cX5_lies 45 = .ok (.invokevirtual 71, 3) := by decide +kernel
theorem dX5_lies_48 : decode cX5_lies 48 = .ok (.iload 4, 2) := by decide +kernel
theorem dX5_lies_50 : decode cX5_lies 50 = .ok (.ireturn, 1) := by decide +kernel
theorem dX5_basin_0 : decode cX5_basin 0 = .ok (.iload_n 1, 1) := by decide +kernel
theorem dX5_basin_1 : decode cX5_basin 1 = .ok (.invokestatic 53, 3) := by decide +kernel
theorem dX5_basin_4 : decode cX5_basin 4 = .ok (.ifCond .eq 12, 3) := by decide +kernel
theorem dX5_basin_7 : decode cX5_basin 7 = .ok (.iload_n 2, 1) := by decide +kernel
theorem dX5_basin_8 : decode cX5_basin 8 = .ok (.iconst 0, 1) := by decide +kernel
theorem dX5_basin_9 : decode cX5_basin 9 = .ok (.iconst 2, 1) := by decide +kernel
theorem dX5_basin_10 : decode cX5_basin 10 = .ok (.invokestatic 75, 3) := by decide +kernel
theorem dX5_basin_13 : decode cX5_basin 13 = .ok (.ifCond .ne 9, 3) := by decide +kernel
theorem dX5_basin_16 : decode cX5_basin 16 = .ok (.aload_n 0, 1) := by decide +kernel
theorem dX5_basin_17 : decode cX5_basin 17 = .ok (.iconst 0, 1) := by decide +kernel
theorem dX5_basin_18 : decode cX5_basin 18 = .ok (.invokevirtual 63, 3) := by decide +kernel
theorem dX5_basin_21 : decode cX5_basin 21 = .ok (.ireturn, 1) := by decide +kernel
theorem dX5_basin_22 : decode cX5_basin 22 = .ok (.aload_n 0, 1) := by decide +kernel
theorem dX5_basin_23 : decode cX5_basin 23 = .ok (.getfield 10, 3) := by decide +kernel
theorem dX5_basin_26 : decode cX5_basin 26 = .ok (.iload_n 1, 1) := by decide +kernel
theorem dX5_basin_27 : decode cX5_basin 27 = .ok (.iload_n 2, 1) := by decide +kernel
theorem dX5_basin_28 : decode cX5_basin 28 = .ok (.invokevirtual 79, 3) := by decide +kernel
theorem dX5_basin_31 : decode cX5_basin 31 = .ok (.ireturn, 1) := by decide +kernel
theorem dX5_bribe_0 : decode cX5_bribe 0 = .ok (.iload_n 1, 1) := by decide +kernel
theorem dX5_bribe_1 : decode cX5_bribe 1 = .ok (.invokestatic 57, 3) := by decide +kernel
theorem dX5_bribe_4 : decode cX5_bribe 4 = .ok (.ifCond .ne 9, 3) := by decide +kernel
theorem dX5_bribe_7 : decode cX5_bribe 7 = .ok (.aload_n 0, 1) := by decide +kernel
theorem dX5_bribe_8 : decode cX5_bribe 8 = .ok (.iconst 0, 1) := by decide +kernel
theorem dX5_bribe_9 : decode cX5_bribe 9 = .ok (.invokevirtual 63, 3) := by decide +kernel
theorem dX5_bribe_12 : decode cX5_bribe 12 = .ok (.ireturn, 1) := by decide +kernel
theorem dX5_bribe_13 : decode cX5_bribe 13 = .ok (.aload_n 0, 1) := by decide +kernel
theorem dX5_bribe_14 : decode cX5_bribe 14 = .ok (.getfield 10, 3) := by decide +kernel
theorem dX5_bribe_17 : decode cX5_bribe 17 = .ok (.getfield 82, 3) := by decide +kernel
theorem dX5_bribe_20 : decode cX5_bribe 20 = .ok (.istore_n 2, 1) := by decide +kernel
theorem dX5_bribe_21 : decode cX5_bribe 21 = .ok (.aload_n 0, 1) := by decide +kernel
theorem dX5_bribe_22 : decode cX5_bribe 22 = .ok (.getfield 10, 3) := by decide +kernel
theorem dX5_bribe_25 : decode cX5_bribe 25 = .ok (.iload_n 1, 1) := by decide +kernel
theorem dX5_bribe_26 : decode cX5_bribe 26 = .ok (.putfield 82, 3) := by decide +kernel
theorem dX5_bribe_29 : decode cX5_bribe 29 = .ok (.iload_n 2, 1) := by decide +kernel
theorem dX5_bribe_30 : decode cX5_bribe 30 = .ok (.ireturn, 1) := by decide +kernel
theorem dX5_held_0 : decode cX5_held 0 = .ok (.iload_n 1, 1) := by decide +kernel
theorem dX5_held_1 : decode cX5_held 1 = .ok (.invokestatic 86, 3) := by decide +kernel
theorem dX5_held_4 : decode cX5_held 4 = .ok (.ifCond .ne 9, 3) := by decide +kernel
theorem dX5_held_7 : decode cX5_held 7 = .ok (.aload_n 0, 1) := by decide +kernel
theorem dX5_held_8 : decode cX5_held 8 = .ok (.iconst 0, 1) := by decide +kernel
theorem dX5_held_9 : decode cX5_held 9 = .ok (.invokevirtual 63, 3) := by decide +kernel
theorem dX5_held_12 : decode cX5_held 12 = .ok (.ireturn, 1) := by decide +kernel
theorem dX5_held_13 : decode cX5_held 13 = .ok (.aload_n 0, 1) := by decide +kernel
theorem dX5_held_14 : decode cX5_held 14 = .ok (.getfield 10, 3) := by decide +kernel
theorem dX5_held_17 : decode cX5_held 17 = .ok (.getfield 89, 3) := by decide +kernel
theorem dX5_held_20 : decode cX5_held 20 = .ok (.istore_n 2, 1) := by decide +kernel
theorem dX5_held_21 : decode cX5_held 21 = .ok (.aload_n 0, 1) := by decide +kernel
theorem dX5_held_22 : decode cX5_held 22 = .ok (.getfield 10, 3) := by decide +kernel
theorem dX5_held_25 : decode cX5_held 25 = .ok (.iload_n 1, 1) := by decide +kernel
theorem dX5_held_26 : decode cX5_held 26 = .ok (.putfield 89, 3) := by decide +kernel
theorem dX5_held_29 : decode cX5_held 29 = .ok (.iload_n 2, 1) := by decide +kernel
theorem dX5_held_30 : decode cX5_held 30 = .ok (.ireturn, 1) := by decide +kernel
theorem dX5_now_0 : decode cX5_now 0 = .ok (.iload_n 1, 1) := by decide +kernel
theorem dX5_now_1 : decode cX5_now 1 = .ok (.tableswitch 109 0 6 #[43, 51, 59, 67, 75, 83, 91], 43) := by decide +kernel
theorem dX5_now_44 : decode cX5_now 44 = .ok (.aload_n 0, 1) := by decide +kernel
theorem dX5_now_45 : decode cX5_now 45 = .ok (.getfield 10, 3) := by decide +kernel
theorem dX5_now_48 : decode cX5_now 48 = .ok (.getfield 92, 3) := by decide +kernel
theorem dX5_now_51 : decode cX5_now 51 = .ok (.ireturn, 1) := by decide +kernel
theorem dX5_now_52 : decode cX5_now 52 = .ok (.aload_n 0, 1) := by decide +kernel
theorem dX5_now_53 : decode cX5_now 53 = .ok (.getfield 10, 3) := by decide +kernel
theorem dX5_now_56 : decode cX5_now 56 = .ok (.invokevirtual 95, 3) := by decide +kernel
theorem dX5_now_59 : decode cX5_now 59 = .ok (.ireturn, 1) := by decide +kernel
theorem dX5_now_60 : decode cX5_now 60 = .ok (.aload_n 0, 1) := by decide +kernel
theorem dX5_now_61 : decode cX5_now 61 = .ok (.getfield 10, 3) := by decide +kernel
theorem dX5_now_64 : decode cX5_now 64 = .ok (.getfield 89, 3) := by decide +kernel
theorem dX5_now_67 : decode cX5_now 67 = .ok (.ireturn, 1) := by decide +kernel
theorem dX5_now_68 : decode cX5_now 68 = .ok (.aload_n 0, 1) := by decide +kernel
theorem dX5_now_69 : decode cX5_now 69 = .ok (.getfield 10, 3) := by decide +kernel
theorem dX5_now_72 : decode cX5_now 72 = .ok (.getfield 82, 3) := by decide +kernel
theorem dX5_now_75 : decode cX5_now 75 = .ok (.ireturn, 1) := by decide +kernel
theorem dX5_now_76 : decode cX5_now 76 = .ok (.aload_n 0, 1) := by decide +kernel
theorem dX5_now_77 : decode cX5_now 77 = .ok (.getfield 10, 3) := by decide +kernel
theorem dX5_now_80 : decode cX5_now 80 = .ok (.invokevirtual 99, 3) := by decide +kernel
theorem dX5_now_83 : decode cX5_now 83 = .ok (.ireturn, 1) := by decide +kernel
theorem dX5_now_84 : decode cX5_now 84 = .ok (.aload_n 0, 1) := by decide +kernel
theorem dX5_now_85 : decode cX5_now 85 = .ok (.getfield 10, 3) := by decide +kernel
theorem dX5_now_88 : decode cX5_now 88 = .ok (.invokevirtual 102, 3) := by decide +kernel
theorem dX5_now_91 : decode cX5_now 91 = .ok (.ireturn, 1) := by decide +kernel
theorem dX5_now_92 : decode cX5_now 92 = .ok (.aload_n 0, 1) := by decide +kernel
theorem dX5_now_93 : decode cX5_now 93 = .ok (.getfield 10, 3) := by decide +kernel
theorem dX5_now_96 : decode cX5_now 96 = .ok (.iconst 0, 1) := by decide +kernel
theorem dX5_now_97 : decode cX5_now 97 = .ok (.invokevirtual 105, 3) := by decide +kernel
theorem dX5_now_100 : decode cX5_now 100 = .ok (.aload_n 0, 1) := by decide +kernel
theorem dX5_now_101 : decode cX5_now 101 = .ok (.getfield 10, 3) := by decide +kernel
theorem dX5_now_104 : decode cX5_now 104 = .ok (.iconst 1, 1) := by decide +kernel
theorem dX5_now_105 : decode cX5_now 105 = .ok (.invokevirtual 105, 3) := by decide +kernel
theorem dX5_now_108 : decode cX5_now 108 = .ok (.iadd, 1) := by decide +kernel
theorem dX5_now_109 : decode cX5_now 109 = .ok (.ireturn, 1) := by decide +kernel
theorem dX5_now_110 : decode cX5_now 110 = .ok (.aload_n 0, 1) := by decide +kernel
theorem dX5_now_111 : decode cX5_now 111 = .ok (.iconst 0, 1) := by decide +kernel
theorem dX5_now_112 : decode cX5_now 112 = .ok (.invokevirtual 63, 3) := by decide +kernel
theorem dX5_now_115 : decode cX5_now 115 = .ok (.ireturn, 1) := by decide +kernel
theorem dX5_person_0 : decode cX5_person 0 = .ok (.iload_n 1, 1) := by decide +kernel
theorem dX5_person_1 : decode cX5_person 1 = .ok (.invokestatic 108, 3) := by decide +kernel
theorem dX5_person_4 : decode cX5_person 4 = .ok (.ifCond .ne 9, 3) := by decide +kernel
theorem dX5_person_7 : decode cX5_person 7 = .ok (.aload_n 0, 1) := by decide +kernel
theorem dX5_person_8 : decode cX5_person 8 = .ok (.iconst 0, 1) := by decide +kernel
theorem dX5_person_9 : decode cX5_person 9 = .ok (.invokevirtual 63, 3) := by decide +kernel
theorem dX5_person_12 : decode cX5_person 12 = .ok (.ireturn, 1) := by decide +kernel
theorem dX5_person_13 : decode cX5_person 13 = .ok (.aload_n 0, 1) := by decide +kernel
theorem dX5_person_14 : decode cX5_person 14 = .ok (.getfield 10, 3) := by decide +kernel
theorem dX5_person_17 : decode cX5_person 17 = .ok (.invokevirtual 111, 3) := by decide +kernel
theorem dX5_person_20 : decode cX5_person 20 = .ok (.ifCond .eq 9, 3) := by decide +kernel
theorem dX5_person_23 : decode cX5_person 23 = .ok (.aload_n 0, 1) := by decide +kernel
theorem dX5_person_24 : decode cX5_person 24 = .ok (.iconst 1, 1) := by decide +kernel
theorem dX5_person_25 : decode cX5_person 25 = .ok (.invokevirtual 63, 3) := by decide +kernel
theorem dX5_person_28 : decode cX5_person 28 = .ok (.ireturn, 1) := by decide +kernel
theorem dX5_person_29 : decode cX5_person 29 = .ok (.aload_n 0, 1) := by decide +kernel
theorem dX5_person_30 : decode cX5_person 30 = .ok (.getfield 10, 3) := by decide +kernel
theorem dX5_person_33 : decode cX5_person 33 = .ok (.iload_n 1, 1) := by decide +kernel
theorem dX5_person_34 : decode cX5_person 34 = .ok (.invokevirtual 115, 3) := by decide +kernel
theorem dX5_person_37 : decode cX5_person 37 = .ok (.ireturn, 1) := by decide +kernel
theorem dX5_of_0 : decode cX5_of 0 = .ok (.aload_n 0, 1) := by decide +kernel
theorem dX5_of_1 : decode cX5_of 1 = .ok (.iload_n 1, 1) := by decide +kernel
theorem dX5_of_2 : decode cX5_of 2 = .ok (.invokevirtual 118, 3) := by decide +kernel
theorem dX5_of_5 : decode cX5_of 5 = .ok (.ifCond .ne 9, 3) := by decide +kernel
theorem dX5_of_8 : decode cX5_of 8 = .ok (.aload_n 0, 1) := by decide +kernel
theorem dX5_of_9 : decode cX5_of 9 = .ok (.iconst 0, 1) := by decide +kernel
theorem dX5_of_10 : decode cX5_of 10 = .ok (.invokevirtual 63, 3) := by decide +kernel
theorem dX5_of_13 : decode cX5_of 13 = .ok (.ireturn, 1) := by decide +kernel
theorem dX5_of_14 : decode cX5_of 14 = .ok (.iload_n 2, 1) := by decide +kernel
theorem dX5_of_15 : decode cX5_of 15 = .ok (.tableswitch 99 0 5 #[37, 47, 57, 67, 77, 86], 37) := by decide +kernel
theorem dX5_of_52 : decode cX5_of 52 = .ok (.aload_n 0, 1) := by decide +kernel
theorem dX5_of_53 : decode cX5_of 53 = .ok (.getfield 10, 3) := by decide +kernel
theorem dX5_of_56 : decode cX5_of 56 = .ok (.getfield 121, 3) := by decide +kernel
theorem dX5_of_59 : decode cX5_of 59 = .ok (.iload_n 1, 1) := by decide +kernel
theorem dX5_of_60 : decode cX5_of 60 = .ok (.iaload, 1) := by decide +kernel
theorem dX5_of_61 : decode cX5_of 61 = .ok (.ireturn, 1) := by decide +kernel
theorem dX5_of_62 : decode cX5_of 62 = .ok (.aload_n 0, 1) := by decide +kernel
theorem dX5_of_63 : decode cX5_of 63 = .ok (.getfield 10, 3) := by decide +kernel
theorem dX5_of_66 : decode cX5_of 66 = .ok (.getfield 124, 3) := by decide +kernel
theorem dX5_of_69 : decode cX5_of 69 = .ok (.iload_n 1, 1) := by decide +kernel
theorem dX5_of_70 : decode cX5_of 70 = .ok (.iaload, 1) := by decide +kernel
theorem dX5_of_71 : decode cX5_of 71 = .ok (.ireturn, 1) := by decide +kernel
theorem dX5_of_72 : decode cX5_of 72 = .ok (.aload_n 0, 1) := by decide +kernel
theorem dX5_of_73 : decode cX5_of 73 = .ok (.getfield 10, 3) := by decide +kernel
theorem dX5_of_76 : decode cX5_of 76 = .ok (.getfield 127, 3) := by decide +kernel
theorem dX5_of_79 : decode cX5_of 79 = .ok (.iload_n 1, 1) := by decide +kernel
theorem dX5_of_80 : decode cX5_of 80 = .ok (.iaload, 1) := by decide +kernel
theorem dX5_of_81 : decode cX5_of 81 = .ok (.ireturn, 1) := by decide +kernel
theorem dX5_of_82 : decode cX5_of 82 = .ok (.aload_n 0, 1) := by decide +kernel
theorem dX5_of_83 : decode cX5_of 83 = .ok (.getfield 10, 3) := by decide +kernel
theorem dX5_of_86 : decode cX5_of 86 = .ok (.getfield 130, 3) := by decide +kernel
theorem dX5_of_89 : decode cX5_of 89 = .ok (.iload_n 1, 1) := by decide +kernel
theorem dX5_of_90 : decode cX5_of 90 = .ok (.iaload, 1) := by decide +kernel
theorem dX5_of_91 : decode cX5_of 91 = .ok (.ireturn, 1) := by decide +kernel
theorem dX5_of_92 : decode cX5_of 92 = .ok (.aload_n 0, 1) := by decide +kernel
theorem dX5_of_93 : decode cX5_of 93 = .ok (.getfield 10, 3) := by decide +kernel
theorem dX5_of_96 : decode cX5_of 96 = .ok (.iload_n 1, 1) := by decide +kernel
theorem dX5_of_97 : decode cX5_of 97 = .ok (.invokevirtual 133, 3) := by decide +kernel
theorem dX5_of_100 : decode cX5_of 100 = .ok (.ireturn, 1) := by decide +kernel
theorem dX5_of_101 : decode cX5_of 101 = .ok (.aload_n 0, 1) := by decide +kernel
theorem dX5_of_102 : decode cX5_of 102 = .ok (.getfield 10, 3) := by decide +kernel
theorem dX5_of_105 : decode cX5_of 105 = .ok (.getfield 121, 3) := by decide +kernel
theorem dX5_of_108 : decode cX5_of 108 = .ok (.iload_n 1, 1) := by decide +kernel
theorem dX5_of_109 : decode cX5_of 109 = .ok (.iaload, 1) := by decide +kernel
theorem dX5_of_110 : decode cX5_of 110 = .ok (.invokestatic 136, 3) := by decide +kernel
theorem dX5_of_113 : decode cX5_of 113 = .ok (.ireturn, 1) := by decide +kernel
theorem dX5_of_114 : decode cX5_of 114 = .ok (.aload_n 0, 1) := by decide +kernel
theorem dX5_of_115 : decode cX5_of 115 = .ok (.iconst 0, 1) := by decide +kernel
theorem dX5_of_116 : decode cX5_of 116 = .ok (.invokevirtual 63, 3) := by decide +kernel
theorem dX5_of_119 : decode cX5_of 119 = .ok (.ireturn, 1) := by decide +kernel
theorem dX5_acts_0 : decode cX5_acts 0 = .ok (.aload_n 0, 1) := by decide +kernel
theorem dX5_acts_1 : decode cX5_acts 1 = .ok (.iload_n 1, 1) := by decide +kernel
theorem dX5_acts_2 : decode cX5_acts 2 = .ok (.invokevirtual 118, 3) := by decide +kernel
theorem dX5_acts_5 : decode cX5_acts 5 = .ok (.ifCond .eq 19, 3) := by decide +kernel
theorem dX5_acts_8 : decode cX5_acts 8 = .ok (.iload_n 2, 1) := by decide +kernel
theorem dX5_acts_9 : decode cX5_acts 9 = .ok (.invokestatic 53, 3) := by decide +kernel
theorem dX5_acts_12 : decode cX5_acts 12 = .ok (.ifCond .eq 12, 3) := by decide +kernel
theorem dX5_acts_15 : decode cX5_acts 15 = .ok (.iload_n 3, 1) := by decide +kernel
theorem dX5_acts_16 : decode cX5_acts 16 = .ok (.iconst 0, 1) := by decide +kernel
theorem dX5_acts_17 : decode cX5_acts 17 = .ok (.iconst 1, 1) := by decide +kernel
theorem dX5_acts_18 : decode cX5_acts 18 = .ok (.invokestatic 75, 3) := by decide +kernel
theorem dX5_acts_21 : decode cX5_acts 21 = .ok (.ifCond .ne 9, 3) := by decide +kernel
theorem dX5_acts_24 : decode cX5_acts 24 = .ok (.aload_n 0, 1) := by decide +kernel
theorem dX5_acts_25 : decode cX5_acts 25 = .ok (.iconst 0, 1) := by decide +kernel
theorem dX5_acts_26 : decode cX5_acts 26 = .ok (.invokevirtual 63, 3) := by decide +kernel
theorem dX5_acts_29 : decode cX5_acts 29 = .ok (.ireturn, 1) := by decide +kernel
theorem dX5_acts_30 : decode cX5_acts 30 = .ok (.iload_n 3, 1) := by decide +kernel
theorem dX5_acts_31 : decode cX5_acts 31 = .ok (.ifCond .ne 15, 3) := by decide +kernel
theorem dX5_acts_34 : decode cX5_acts 34 = .ok (.aload_n 0, 1) := by decide +kernel
theorem dX5_acts_35 : decode cX5_acts 35 = .ok (.getfield 10, 3) := by decide +kernel
theorem dX5_acts_38 : decode cX5_acts 38 = .ok (.iload_n 1, 1) := by decide +kernel
theorem dX5_acts_39 : decode cX5_acts 39 = .ok (.iload_n 2, 1) := by decide +kernel
theorem dX5_acts_40 : decode cX5_acts 40 = .ok (.invokevirtual 141, 3) := by decide +kernel
theorem dX5_acts_43 : decode cX5_acts 43 = .ok (.goto 12, 3) := by decide +kernel
theorem dX5_acts_46 : decode cX5_acts 46 = .ok (.aload_n 0, 1) := by decide +kernel
theorem dX5_acts_47 : decode cX5_acts 47 = .ok (.getfield 10, 3) := by decide +kernel
theorem dX5_acts_50 : decode cX5_acts 50 = .ok (.iload_n 1, 1) := by decide +kernel
theorem dX5_acts_51 : decode cX5_acts 51 = .ok (.iload_n 2, 1) := by decide +kernel
theorem dX5_acts_52 : decode cX5_acts 52 = .ok (.invokevirtual 144, 3) := by decide +kernel
theorem dX5_acts_55 : decode cX5_acts 55 = .ok (.ireturn, 1) := by decide +kernel
theorem dX5_set_0 : decode cX5_set 0 = .ok (.aload_n 0, 1) := by decide +kernel
theorem dX5_set_1 : decode cX5_set 1 = .ok (.iload_n 1, 1) := by decide +kernel
theorem dX5_set_2 : decode cX5_set 2 = .ok (.invokevirtual 118, 3) := by decide +kernel
theorem dX5_set_5 : decode cX5_set 5 = .ok (.ifCond .ne 9, 3) := by decide +kernel
theorem dX5_set_8 : decode cX5_set 8 = .ok (.aload_n 0, 1) := by decide +kernel
theorem dX5_set_9 : decode cX5_set 9 = .ok (.iconst 0, 1) := by decide +kernel
theorem dX5_set_10 : decode cX5_set 10 = .ok (.invokevirtual 63, 3) := by decide +kernel
theorem dX5_set_13 : decode cX5_set 13 = .ok (.ireturn, 1) := by decide +kernel
theorem dX5_set_14 : decode cX5_set 14 = .ok (.iload_n 2, 1) := by decide +kernel
theorem dX5_set_15 : decode cX5_set 15 = .ok (.iconst 1, 1) := by decide +kernel
theorem dX5_set_16 : decode cX5_set 16 = .ok (.if_icmp .ne 23, 3) := by decide +kernel
theorem dX5_set_19 : decode cX5_set 19 = .ok (.iload_n 3, 1) := by decide +kernel
theorem dX5_set_20 : decode cX5_set 20 = .ok (.invokestatic 86, 3) := by decide +kernel
theorem dX5_set_23 : decode cX5_set 23 = .ok (.ifCond .eq 16, 3) := by decide +kernel
theorem dX5_set_26 : decode cX5_set 26 = .ok (.aload_n 0, 1) := by decide +kernel
theorem dX5_set_27 : decode cX5_set 27 = .ok (.getfield 10, 3) := by decide +kernel
theorem dX5_set_30 : decode cX5_set 30 = .ok (.getfield 124, 3) := by decide +kernel
theorem dX5_set_33 : decode cX5_set 33 = .ok (.iload_n 1, 1) := by decide +kernel
theorem dX5_set_34 : decode cX5_set 34 = .ok (.iload_n 3, 1) := by decide +kernel
theorem dX5_set_35 : decode cX5_set 35 = .ok (.invokestatic 147, 3) := by decide +kernel
theorem dX5_set_38 : decode cX5_set 38 = .ok (.ireturn, 1) := by decide +kernel
theorem dX5_set_39 : decode cX5_set 39 = .ok (.iload_n 2, 1) := by decide +kernel
theorem dX5_set_40 : decode cX5_set 40 = .ok (.iconst 2, 1) := by decide +kernel
theorem dX5_set_41 : decode cX5_set 41 = .ok (.if_icmp .ne 23, 3) := by decide +kernel
theorem dX5_set_44 : decode cX5_set 44 = .ok (.iload_n 3, 1) := by decide +kernel
theorem dX5_set_45 : decode cX5_set 45 = .ok (.invokestatic 60, 3) := by decide +kernel
theorem dX5_set_48 : decode cX5_set 48 = .ok (.ifCond .eq 16, 3) := by decide +kernel
theorem dX5_set_51 : decode cX5_set 51 = .ok (.aload_n 0, 1) := by decide +kernel
theorem dX5_set_52 : decode cX5_set 52 = .ok (.getfield 10, 3) := by decide +kernel
theorem dX5_set_55 : decode cX5_set 55 = .ok (.getfield 127, 3) := by decide +kernel
theorem dX5_set_58 : decode cX5_set 58 = .ok (.iload_n 1, 1) := by decide +kernel
theorem dX5_set_59 : decode cX5_set 59 = .ok (.iload_n 3, 1) := by decide +kernel
theorem dX5_set_60 : decode cX5_set 60 = .ok (.invokestatic 147, 3) := by decide +kernel
theorem dX5_set_63 : decode cX5_set 63 = .ok (.ireturn, 1) := by decide +kernel
theorem dX5_set_64 : decode cX5_set 64 = .ok (.iload_n 2, 1) := by decide +kernel
theorem dX5_set_65 : decode cX5_set 65 = .ok (.iconst 3, 1) := by decide +kernel
theorem dX5_set_66 : decode cX5_set 66 = .ok (.if_icmp .ne 25, 3) := by decide +kernel
theorem dX5_set_69 : decode cX5_set 69 = .ok (.iload_n 3, 1) := by decide +kernel
theorem dX5_set_70 : decode cX5_set 70 = .ok (.iconst 0, 1) := by decide +kernel
theorem dX5_set_71 : decode cX5_set 71 = .ok (.iconst 1, 1) := by decide +kernel
theorem dX5_set_72 : decode cX5_set 72 = .ok (.invokestatic 75, 3) := by decide +kernel
theorem dX5_set_75 : decode cX5_set 75 = .ok (.ifCond .eq 16, 3) := by decide +kernel
theorem dX5_set_78 : decode cX5_set 78 = .ok (.aload_n 0, 1) := by decide +kernel
theorem dX5_set_79 : decode cX5_set 79 = .ok (.getfield 10, 3) := by decide +kernel
theorem dX5_set_82 : decode cX5_set 82 = .ok (.getfield 130, 3) := by decide +kernel
theorem dX5_set_85 : decode cX5_set 85 = .ok (.iload_n 1, 1) := by decide +kernel
theorem dX5_set_86 : decode cX5_set 86 = .ok (.iload_n 3, 1) := by decide +kernel
theorem dX5_set_87 : decode cX5_set 87 = .ok (.invokestatic 147, 3) := by decide +kernel
theorem dX5_set_90 : decode cX5_set 90 = .ok (.ireturn, 1) := by decide +kernel
theorem dX5_set_91 : decode cX5_set 91 = .ok (.aload_n 0, 1) := by decide +kernel
theorem dX5_set_92 : decode cX5_set 92 = .ok (.iconst 0, 1) := by decide +kernel
theorem dX5_set_93 : decode cX5_set 93 = .ok (.invokevirtual 63, 3) := by decide +kernel
theorem dX5_set_96 : decode cX5_set 96 = .ok (.ireturn, 1) := by decide +kernel
theorem dX5_turn_0 : decode cX5_turn 0 = .ok (.aload_n 0, 1) := by decide +kernel
theorem dX5_turn_1 : decode cX5_turn 1 = .ok (.iload_n 1, 1) := by decide +kernel
theorem dX5_turn_2 : decode cX5_turn 2 = .ok (.invokevirtual 118, 3) := by decide +kernel
theorem dX5_turn_5 : decode cX5_turn 5 = .ok (.ifCond .eq 10, 3) := by decide +kernel
theorem dX5_turn_8 : decode cX5_turn 8 = .ok (.iload_n 2, 1) := by decide +kernel
theorem dX5_turn_9 : decode cX5_turn 9 = .ok (.invokestatic 108, 3) := by decide +kernel
theorem dX5_turn_12 : decode cX5_turn 12 = .ok (.ifCond .ne 9, 3) := by decide +kernel
theorem dX5_turn_15 : decode cX5_turn 15 = .ok (.aload_n 0, 1) := by decide +kernel
theorem dX5_turn_16 : decode cX5_turn 16 = .ok (.iconst 0, 1) := by decide +kernel
theorem dX5_turn_17 : decode cX5_turn 17 = .ok (.invokevirtual 63, 3) := by decide +kernel
theorem dX5_turn_20 : decode cX5_turn 20 = .ok (.ireturn, 1) := by decide +kernel
theorem dX5_turn_21 : decode cX5_turn 21 = .ok (.aload_n 0, 1) := by decide +kernel
theorem dX5_turn_22 : decode cX5_turn 22 = .ok (.getfield 10, 3) := by decide +kernel
theorem dX5_turn_25 : decode cX5_turn 25 = .ok (.getfield 121, 3) := by decide +kernel
theorem dX5_turn_28 : decode cX5_turn 28 = .ok (.iload_n 1, 1) := by decide +kernel
theorem dX5_turn_29 : decode cX5_turn 29 = .ok (.iload_n 2, 1) := by decide +kernel
theorem dX5_turn_30 : decode cX5_turn 30 = .ok (.invokestatic 147, 3) := by decide +kernel
theorem dX5_turn_33 : decode cX5_turn 33 = .ok (.ireturn, 1) := by decide +kernel
theorem dX5_as_0 : decode cX5_as 0 = .ok (.aload_n 0, 1) := by decide +kernel
theorem dX5_as_1 : decode cX5_as 1 = .ok (.iload_n 1, 1) := by decide +kernel
theorem dX5_as_2 : decode cX5_as 2 = .ok (.invokevirtual 118, 3) := by decide +kernel
theorem dX5_as_5 : decode cX5_as 5 = .ok (.ifCond .eq 10, 3) := by decide +kernel
theorem dX5_as_8 : decode cX5_as 8 = .ok (.iload_n 2, 1) := by decide +kernel
theorem dX5_as_9 : decode cX5_as 9 = .ok (.invokestatic 108, 3) := by decide +kernel
theorem dX5_as_12 : decode cX5_as 12 = .ok (.ifCond .ne 9, 3) := by decide +kernel
theorem dX5_as_15 : decode cX5_as 15 = .ok (.aload_n 0, 1) := by decide +kernel
theorem dX5_as_16 : decode cX5_as 16 = .ok (.iconst 0, 1) := by decide +kernel
theorem dX5_as_17 : decode cX5_as 17 = .ok (.invokevirtual 63, 3) := by decide +kernel
theorem dX5_as_20 : decode cX5_as 20 = .ok (.ireturn, 1) := by decide +kernel
theorem dX5_as_21 : decode cX5_as 21 = .ok (.aload_n 0, 1) := by decide +kernel
theorem dX5_as_22 : decode cX5_as 22 = .ok (.getfield 10, 3) := by decide +kernel
theorem dX5_as_25 : decode cX5_as 25 = .ok (.getfield 121, 3) := by decide +kernel
theorem dX5_as_28 : decode cX5_as 28 = .ok (.iload_n 1, 1) := by decide +kernel
theorem dX5_as_29 : decode cX5_as 29 = .ok (.iaload, 1) := by decide +kernel
theorem dX5_as_30 : decode cX5_as 30 = .ok (.iload_n 2, 1) := by decide +kernel
theorem dX5_as_31 : decode cX5_as 31 = .ok (.invokestatic 151, 3) := by decide +kernel
theorem dX5_as_34 : decode cX5_as 34 = .ok (.ifCond .ne 9, 3) := by decide +kernel
theorem dX5_as_37 : decode cX5_as 37 = .ok (.aload_n 0, 1) := by decide +kernel
theorem dX5_as_38 : decode cX5_as 38 = .ok (.iconst 2, 1) := by decide +kernel
theorem dX5_as_39 : decode cX5_as 39 = .ok (.invokevirtual 63, 3) := by decide +kernel
theorem dX5_as_42 : decode cX5_as 42 = .ok (.ireturn, 1) := by decide +kernel
theorem dX5_as_43 : decode cX5_as 43 = .ok (.aload_n 0, 1) := by decide +kernel
theorem dX5_as_44 : decode cX5_as 44 = .ok (.getfield 10, 3) := by decide +kernel
theorem dX5_as_47 : decode cX5_as 47 = .ok (.getfield 127, 3) := by decide +kernel
theorem dX5_as_50 : decode cX5_as 50 = .ok (.iload_n 1, 1) := by decide +kernel
theorem dX5_as_51 : decode cX5_as 51 = .ok (.iaload, 1) := by decide +kernel
theorem dX5_as_52 : decode cX5_as 52 = .ok (.ireturn, 1) := by decide +kernel
theorem dX5_days_0 : decode cX5_days 0 = .ok (.iload_n 1, 1) := by decide +kernel
theorem dX5_days_1 : decode cX5_days 1 = .ok (.iconst 1, 1) := by decide +kernel
theorem dX5_days_2 : decode cX5_days 2 = .ok (.bipush 100, 2) := by decide +kernel
theorem dX5_days_4 : decode cX5_days 4 = .ok (.invokestatic 75, 3) := by decide +kernel
theorem dX5_days_7 : decode cX5_days 7 = .ok (.ifCond .ne 9, 3) := by decide +kernel
theorem dX5_days_10 : decode cX5_days 10 = .ok (.aload_n 0, 1) := by decide +kernel
theorem dX5_days_11 : decode cX5_days 11 = .ok (.iconst 0, 1) := by decide +kernel
theorem dX5_days_12 : decode cX5_days 12 = .ok (.invokevirtual 63, 3) := by decide +kernel
theorem dX5_days_15 : decode cX5_days 15 = .ok (.ireturn, 1) := by decide +kernel
theorem dX5_days_16 : decode cX5_days 16 = .ok (.aload_n 0, 1) := by decide +kernel
theorem dX5_days_17 : decode cX5_days 17 = .ok (.getfield 10, 3) := by decide +kernel
theorem dX5_days_20 : decode cX5_days 20 = .ok (.getfield 92, 3) := by decide +kernel
theorem dX5_days_23 : decode cX5_days 23 = .ok (.iload_n 1, 1) := by decide +kernel
theorem dX5_days_24 : decode cX5_days 24 = .ok (.iadd, 1) := by decide +kernel
theorem dX5_days_25 : decode cX5_days 25 = .ok (.ldc 155, 2) := by decide +kernel
theorem dX5_days_27 : decode cX5_days 27 = .ok (.if_icmp .le 9, 3) := by decide +kernel
theorem dX5_days_30 : decode cX5_days 30 = .ok (.aload_n 0, 1) := by decide +kernel
theorem dX5_days_31 : decode cX5_days 31 = .ok (.iconst 4, 1) := by decide +kernel
theorem dX5_days_32 : decode cX5_days 32 = .ok (.invokevirtual 63, 3) := by decide +kernel
theorem dX5_days_35 : decode cX5_days 35 = .ok (.ireturn, 1) := by decide +kernel
theorem dX5_days_36 : decode cX5_days 36 = .ok (.aload_n 0, 1) := by decide +kernel
theorem dX5_days_37 : decode cX5_days 37 = .ok (.getfield 10, 3) := by decide +kernel
theorem dX5_days_40 : decode cX5_days 40 = .ok (.iload_n 1, 1) := by decide +kernel
theorem dX5_days_41 : decode cX5_days 41 = .ok (.invokevirtual 156, 3) := by decide +kernel
theorem dX5_days_44 : decode cX5_days 44 = .ok (.aload_n 0, 1) := by decide +kernel
theorem dX5_days_45 : decode cX5_days 45 = .ok (.getfield 10, 3) := by decide +kernel
theorem dX5_days_48 : decode cX5_days 48 = .ok (.getfield 89, 3) := by decide +kernel
theorem dX5_days_51 : decode cX5_days 51 = .ok (.ireturn, 1) := by decide +kernel
theorem dX5_on_0 : decode cX5_on 0 = .ok (.aload_n 0, 1) := by decide +kernel
theorem dX5_on_1 : decode cX5_on 1 = .ok (.iload_n 1, 1) := by decide +kernel
theorem dX5_on_2 : decode cX5_on 2 = .ok (.invokevirtual 118, 3) := by decide +kernel
theorem dX5_on_5 : decode cX5_on 5 = .ok (.ifCond .eq 14, 3) := by decide +kernel
theorem dX5_on_8 : decode cX5_on 8 = .ok (.iload_n 2, 1) := by decide +kernel
theorem dX5_on_9 : decode cX5_on 9 = .ok (.iconst 0, 1) := by decide +kernel
theorem dX5_on_10 : decode cX5_on 10 = .ok (.sipush 200, 3) := by decide +kernel
theorem dX5_on_13 : decode cX5_on 13 = .ok (.invokestatic 75, 3) := by decide +kernel
theorem dX5_on_16 : decode cX5_on 16 = .ok (.ifCond .ne 9, 3) := by decide +kernel
theorem dX5_on_19 : decode cX5_on 19 = .ok (.aload_n 0, 1) := by decide +kernel
theorem dX5_on_20 : decode cX5_on 20 = .ok (.iconst 0, 1) := by decide +kernel
theorem dX5_on_21 : decode cX5_on 21 = .ok (.invokevirtual 63, 3) := by decide +kernel
theorem dX5_on_24 : decode cX5_on 24 = .ok (.ireturn, 1) := by decide +kernel
theorem dX5_on_25 : decode cX5_on 25 = .ok (.aload_n 0, 1) := by decide +kernel
theorem dX5_on_26 : decode cX5_on 26 = .ok (.iload_n 2, 1) := by decide +kernel
theorem dX5_on_27 : decode cX5_on 27 = .ok (.invokevirtual 160, 3) := by decide +kernel
theorem dX5_on_30 : decode cX5_on 30 = .ok (.aload_n 0, 1) := by decide +kernel
theorem dX5_on_31 : decode cX5_on 31 = .ok (.getfield 16, 3) := by decide +kernel
theorem dX5_on_34 : decode cX5_on 34 = .ok (.getfield 127, 3) := by decide +kernel
theorem dX5_on_37 : decode cX5_on 37 = .ok (.iload_n 1, 1) := by decide +kernel
theorem dX5_on_38 : decode cX5_on 38 = .ok (.iaload, 1) := by decide +kernel
theorem dX5_on_39 : decode cX5_on 39 = .ok (.ireturn, 1) := by decide +kernel
theorem dX5_then_0 : decode cX5_then 0 = .ok (.iload_n 1, 1) := by decide +kernel
theorem dX5_then_1 : decode cX5_then 1 = .ok (.invokestatic 53, 3) := by decide +kernel
theorem dX5_then_4 : decode cX5_then 4 = .ok (.ifCond .eq 23, 3) := by decide +kernel
theorem dX5_then_7 : decode cX5_then 7 = .ok (.iload_n 2, 1) := by decide +kernel
theorem dX5_then_8 : decode cX5_then 8 = .ok (.iconst 0, 1) := by decide +kernel
theorem dX5_then_9 : decode cX5_then 9 = .ok (.sipush 200, 3) := by decide +kernel
theorem dX5_then_12 : decode cX5_then 12 = .ok (.invokestatic 75, 3) := by decide +kernel
theorem dX5_then_15 : decode cX5_then 15 = .ok (.ifCond .eq 12, 3) := by decide +kernel
theorem dX5_then_18 : decode cX5_then 18 = .ok (.iload_n 3, 1) := by decide +kernel
theorem dX5_then_19 : decode cX5_then 19 = .ok (.iconst 0, 1) := by decide +kernel
theorem dX5_then_20 : decode cX5_then 20 = .ok (.iconst 2, 1) := by decide +kernel
theorem dX5_then_21 : decode cX5_then 21 = .ok (.invokestatic 75, 3) := by decide +kernel
theorem dX5_then_24 : decode cX5_then 24 = .ok (.ifCond .ne 9, 3) := by decide +kernel
theorem dX5_then_27 : decode cX5_then 27 = .ok (.aload_n 0, 1) := by decide +kernel
theorem dX5_then_28 : decode cX5_then 28 = .ok (.iconst 0, 1) := by decide +kernel
theorem dX5_then_29 : decode cX5_then 29 = .ok (.invokevirtual 63, 3) := by decide +kernel
theorem dX5_then_32 : decode cX5_then 32 = .ok (.ireturn, 1) := by decide +kernel
theorem dX5_then_33 : decode cX5_then 33 = .ok (.aload_n 0, 1) := by decide +kernel
theorem dX5_then_34 : decode cX5_then 34 = .ok (.iload_n 2, 1) := by decide +kernel
theorem dX5_then_35 : decode cX5_then 35 = .ok (.invokevirtual 160, 3) := by decide +kernel
theorem dX5_then_38 : decode cX5_then 38 = .ok (.aload_n 0, 1) := by decide +kernel
theorem dX5_then_39 : decode cX5_then 39 = .ok (.getfield 16, 3) := by decide +kernel
theorem dX5_then_42 : decode cX5_then 42 = .ok (.iload_n 1, 1) := by decide +kernel
theorem dX5_then_43 : decode cX5_then 43 = .ok (.iload_n 3, 1) := by decide +kernel
theorem dX5_then_44 : decode cX5_then 44 = .ok (.invokevirtual 79, 3) := by decide +kernel
theorem dX5_then_47 : decode cX5_then 47 = .ok (.ireturn, 1) := by decide +kernel
theorem dX5_flips_0 : decode cX5_flips 0 = .ok (.iload_n 1, 1) := by decide +kernel
theorem dX5_flips_1 : decode cX5_flips 1 = .ok (.invokestatic 53, 3) := by decide +kernel
theorem dX5_flips_4 : decode cX5_flips 4 = .ok (.ifCond .ne 9, 3) := by decide +kernel
theorem dX5_flips_7 : decode cX5_flips 7 = .ok (.aload_n 0, 1) := by decide +kernel
theorem dX5_flips_8 : decode cX5_flips 8 = .ok (.iconst 0, 1) := by decide +kernel
theorem dX5_flips_9 : decode cX5_flips 9 = .ok (.invokevirtual 63, 3) := by decide +kernel
theorem dX5_flips_12 : decode cX5_flips 12 = .ok (.ireturn, 1) := by decide +kernel
theorem dX5_flips_13 : decode cX5_flips 13 = .ok (.aload_n 0, 1) := by decide +kernel
theorem dX5_flips_14 : decode cX5_flips 14 = .ok (.getfield 10, 3) := by decide +kernel
theorem dX5_flips_17 : decode cX5_flips 17 = .ok (.iload_n 1, 1) := by decide +kernel
theorem dX5_flips_18 : decode cX5_flips 18 = .ok (.iconst 2, 1) := by decide +kernel
theorem dX5_flips_19 : decode cX5_flips 19 = .ok (.invokevirtual 79, 3) := by decide +kernel
theorem dX5_flips_22 : decode cX5_flips 22 = .ok (.istore_n 2, 1) := by decide +kernel
theorem dX5_flips_23 : decode cX5_flips 23 = .ok (.aload_n 0, 1) := by decide +kernel
theorem dX5_flips_24 : decode cX5_flips 24 = .ok (.getfield 16, 3) := by decide +kernel
theorem dX5_flips_27 : decode cX5_flips 27 = .ok (.aload_n 0, 1) := by decide +kernel
theorem dX5_flips_28 : decode cX5_flips 28 = .ok (.getfield 10, 3) := by decide +kernel
theorem dX5_flips_31 : decode cX5_flips 31 = .ok (.invokevirtual 163, 3) := by decide +kernel
theorem dX5_flips_34 : decode cX5_flips 34 = .ok (.iconst 1, 1) := by decide +kernel
theorem dX5_flips_35 : decode cX5_flips 35 = .ok (.istore_n 3, 1) := by decide +kernel
theorem dX5_flips_36 : decode cX5_flips 36 = .ok (.iload_n 3, 1) := by decide +kernel
theorem dX5_flips_37 : decode cX5_flips 37 = .ok (.sipush 200, 3) := by decide +kernel
theorem dX5_flips_40 : decode cX5_flips 40 = .ok (.if_icmp .gt 31, 3) := by decide +kernel
theorem dX5_flips_43 : decode cX5_flips 43 = .ok (.aload_n 0, 1) := by decide +kernel
theorem dX5_flips_44 : decode cX5_flips 44 = .ok (.getfield 16, 3) := by decide +kernel
theorem dX5_flips_47 : decode cX5_flips 47 = .ok (.invokevirtual 167, 3) := by decide +kernel
theorem dX5_flips_50 : decode cX5_flips 50 = .ok (.aload_n 0, 1) := by decide +kernel
theorem dX5_flips_51 : decode cX5_flips 51 = .ok (.getfield 16, 3) := by decide +kernel
theorem dX5_flips_54 : decode cX5_flips 54 = .ok (.iload_n 1, 1) := by decide +kernel
theorem dX5_flips_55 : decode cX5_flips 55 = .ok (.iconst 2, 1) := by decide +kernel
theorem dX5_flips_56 : decode cX5_flips 56 = .ok (.invokevirtual 79, 3) := by decide +kernel
theorem dX5_flips_59 : decode cX5_flips 59 = .ok (.iload_n 2, 1) := by decide +kernel
theorem dX5_flips_60 : decode cX5_flips 60 = .ok (.if_icmp .eq 5, 3) := by decide +kernel
theorem dX5_flips_63 : decode cX5_flips 63 = .ok (.iload_n 3, 1) := by decide +kernel
theorem dX5_flips_64 : decode cX5_flips 64 = .ok (.ireturn, 1) := by decide +kernel
theorem dX5_flips_65 : decode cX5_flips 65 = .ok (.iinc 3 1, 3) := by decide +kernel
theorem dX5_flips_68 : decode cX5_flips 68 = .ok (.goto (-32), 3) := by decide +kernel
theorem dX5_flips_71 : decode cX5_flips 71 = .ok (.aload_n 0, 1) := by decide +kernel
theorem dX5_flips_72 : decode cX5_flips 72 = .ok (.iconst 3, 1) := by decide +kernel
theorem dX5_flips_73 : decode cX5_flips 73 = .ok (.invokevirtual 63, 3) := by decide +kernel
theorem dX5_flips_76 : decode cX5_flips 76 = .ok (.ireturn, 1) := by decide +kernel
theorem dX5_rich_0 : decode cX5_rich 0 = .ok (.aload_n 0, 1) := by decide +kernel
theorem dX5_rich_1 : decode cX5_rich 1 = .ok (.iload_n 1, 1) := by decide +kernel
theorem dX5_rich_2 : decode cX5_rich 2 = .ok (.invokevirtual 118, 3) := by decide +kernel
theorem dX5_rich_5 : decode cX5_rich 5 = .ok (.ifCond .eq 10, 3) := by decide +kernel
theorem dX5_rich_8 : decode cX5_rich 8 = .ok (.iload_n 2, 1) := by decide +kernel
theorem dX5_rich_9 : decode cX5_rich 9 = .ok (.invokestatic 60, 3) := by decide +kernel
theorem dX5_rich_12 : decode cX5_rich 12 = .ok (.ifCond .ne 9, 3) := by decide +kernel
theorem dX5_rich_15 : decode cX5_rich 15 = .ok (.aload_n 0, 1) := by decide +kernel
theorem dX5_rich_16 : decode cX5_rich 16 = .ok (.iconst 0, 1) := by decide +kernel
theorem dX5_rich_17 : decode cX5_rich 17 = .ok (.invokevirtual 63, 3) := by decide +kernel
theorem dX5_rich_20 : decode cX5_rich 20 = .ok (.ireturn, 1) := by decide +kernel
theorem dX5_rich_21 : decode cX5_rich 21 = .ok (.aload_n 0, 1) := by decide +kernel
theorem dX5_rich_22 : decode cX5_rich 22 = .ok (.getfield 16, 3) := by decide +kernel
theorem dX5_rich_25 : decode cX5_rich 25 = .ok (.aload_n 0, 1) := by decide +kernel
theorem dX5_rich_26 : decode cX5_rich 26 = .ok (.getfield 10, 3) := by decide +kernel
theorem dX5_rich_29 : decode cX5_rich 29 = .ok (.invokevirtual 163, 3) := by decide +kernel
theorem dX5_rich_32 : decode cX5_rich 32 = .ok (.iconst 0, 1) := by decide +kernel
theorem dX5_rich_33 : decode cX5_rich 33 = .ok (.istore_n 3, 1) := by decide +kernel
theorem dX5_rich_34 : decode cX5_rich 34 = .ok (.iload_n 3, 1) := by decide +kernel
theorem dX5_rich_35 : decode cX5_rich 35 = .ok (.sipush 200, 3) := by decide +kernel
theorem dX5_rich_38 : decode cX5_rich 38 = .ok (.if_icmp .gt 31, 3) := by decide +kernel
theorem dX5_rich_41 : decode cX5_rich 41 = .ok (.aload_n 0, 1) := by decide +kernel
theorem dX5_rich_42 : decode cX5_rich 42 = .ok (.getfield 16, 3) := by decide +kernel
theorem dX5_rich_45 : decode cX5_rich 45 = .ok (.getfield 127, 3) := by decide +kernel
theorem dX5_rich_48 : decode cX5_rich 48 = .ok (.iload_n 1, 1) := by decide +kernel
theorem dX5_rich_49 : decode cX5_rich 49 = .ok (.iaload, 1) := by decide +kernel
theorem dX5_rich_50 : decode cX5_rich 50 = .ok (.iload_n 2, 1) := by decide +kernel
theorem dX5_rich_51 : decode cX5_rich 51 = .ok (.if_icmp .lt 5, 3) := by decide +kernel
theorem dX5_rich_54 : decode cX5_rich 54 = .ok (.iload_n 3, 1) := by decide +kernel
theorem dX5_rich_55 : decode cX5_rich 55 = .ok (.ireturn, 1) := by decide +kernel
theorem dX5_rich_56 : decode cX5_rich 56 = .ok (.aload_n 0, 1) := by decide +kernel
theorem dX5_rich_57 : decode cX5_rich 57 = .ok (.getfield 16, 3) := by decide +kernel
theorem dX5_rich_60 : decode cX5_rich 60 = .ok (.invokevirtual 167, 3) := by decide +kernel
theorem dX5_rich_63 : decode cX5_rich 63 = .ok (.iinc 3 1, 3) := by decide +kernel
theorem dX5_rich_66 : decode cX5_rich 66 = .ok (.goto (-32), 3) := by decide +kernel
theorem dX5_rich_69 : decode cX5_rich 69 = .ok (.aload_n 0, 1) := by decide +kernel
theorem dX5_rich_70 : decode cX5_rich 70 = .ok (.iconst 3, 1) := by decide +kernel
theorem dX5_rich_71 : decode cX5_rich 71 = .ok (.invokevirtual 63, 3) := by decide +kernel
theorem dX5_rich_74 : decode cX5_rich 74 = .ok (.ireturn, 1) := by decide +kernel
theorem dX5_kind_0 : decode cX5_kind 0 = .ok (.aload_n 0, 1) := by decide +kernel
theorem dX5_kind_1 : decode cX5_kind 1 = .ok (.iload_n 1, 1) := by decide +kernel
theorem dX5_kind_2 : decode cX5_kind 2 = .ok (.invokevirtual 118, 3) := by decide +kernel
theorem dX5_kind_5 : decode cX5_kind 5 = .ok (.ifCond .eq 13, 3) := by decide +kernel
theorem dX5_kind_8 : decode cX5_kind 8 = .ok (.iload_n 2, 1) := by decide +kernel
theorem dX5_kind_9 : decode cX5_kind 9 = .ok (.iconst 1, 1) := by decide +kernel
theorem dX5_kind_10 : decode cX5_kind 10 = .ok (.bipush 60, 2) := by decide +kernel
theorem dX5_kind_12 : decode cX5_kind 12 = .ok (.invokestatic 75, 3) := by decide +kernel
theorem dX5_kind_15 : decode cX5_kind 15 = .ok (.ifCond .ne 9, 3) := by decide +kernel
theorem dX5_kind_18 : decode cX5_kind 18 = .ok (.aload_n 0, 1) := by decide +kernel
theorem dX5_kind_19 : decode cX5_kind 19 = .ok (.iconst 0, 1) := by decide +kernel
theorem dX5_kind_20 : decode cX5_kind 20 = .ok (.invokevirtual 63, 3) := by decide +kernel
theorem dX5_kind_23 : decode cX5_kind 23 = .ok (.ireturn, 1) := by decide +kernel
theorem dX5_kind_24 : decode cX5_kind 24 = .ok (.iconst 0, 1) := by decide +kernel
theorem dX5_kind_25 : decode cX5_kind 25 = .ok (.istore_n 3, 1) := by decide +kernel
theorem dX5_kind_26 : decode cX5_kind 26 = .ok (.iconst (-1), 1) := by decide +kernel
theorem dX5_kind_27 : decode cX5_kind 27 = .ok (.istore 4, 2) := by decide +kernel
theorem dX5_kind_29 : decode cX5_kind 29 = .ok (.iconst 0, 1) := by decide +kernel
theorem dX5_kind_30 : decode cX5_kind 30 = .ok (.istore 5, 2) := by decide +kernel
theorem dX5_kind_32 : decode cX5_kind 32 = .ok (.iload 5, 2) := by decide +kernel
theorem dX5_kind_34 : decode cX5_kind 34 = .ok (.bipush 6, 2) := by decide +kernel
theorem dX5_kind_36 : decode cX5_kind 36 = .ok (.if_icmp .ge 67, 3) := by decide +kernel
theorem dX5_kind_39 : decode cX5_kind 39 = .ok (.aload_n 0, 1) := by decide +kernel
theorem dX5_kind_40 : decode cX5_kind 40 = .ok (.getfield 16, 3) := by decide +kernel
theorem dX5_kind_43 : decode cX5_kind 43 = .ok (.aload_n 0, 1) := by decide +kernel
theorem dX5_kind_44 : decode cX5_kind 44 = .ok (.getfield 10, 3) := by decide +kernel
theorem dX5_kind_47 : decode cX5_kind 47 = .ok (.invokevirtual 163, 3) := by decide +kernel
theorem dX5_kind_50 : decode cX5_kind 50 = .ok (.aload_n 0, 1) := by decide +kernel
theorem dX5_kind_51 : decode cX5_kind 51 = .ok (.getfield 16, 3) := by decide +kernel
theorem dX5_kind_54 : decode cX5_kind 54 = .ok (.getfield 121, 3) := by decide +kernel
theorem dX5_kind_57 : decode cX5_kind 57 = .ok (.iload_n 1, 1) := by decide +kernel
theorem dX5_kind_58 : decode cX5_kind 58 = .ok (.iload 5, 2) := by decide +kernel
theorem dX5_kind_60 : decode cX5_kind 60 = .ok (.iastore, 1) := by decide +kernel
theorem dX5_kind_61 : decode cX5_kind 61 = .ok (.aload_n 0, 1) := by decide +kernel
theorem dX5_kind_62 : decode cX5_kind 62 = .ok (.getfield 16, 3) := by decide +kernel
theorem dX5_kind_65 : decode cX5_kind 65 = .ok (.iload_n 2, 1) := by decide +kernel
theorem dX5_kind_66 : decode cX5_kind 66 = .ok (.invokevirtual 156, 3) := by decide +kernel
theorem dX5_kind_69 : decode cX5_kind 69 = .ok (.aload_n 0, 1) := by decide +kernel
theorem dX5_kind_70 : decode cX5_kind 70 = .ok (.getfield 16, 3) := by decide +kernel
theorem dX5_kind_73 : decode cX5_kind 73 = .ok (.getfield 127, 3) := by decide +kernel
theorem dX5_kind_76 : decode cX5_kind 76 = .ok (.iload_n 1, 1) := by decide +kernel
theorem dX5_kind_77 : decode cX5_kind 77 = .ok (.iaload, 1) := by decide +kernel
theorem dX5_kind_78 : decode cX5_kind 78 = .ok (.iload 4, 2) := by decide +kernel
theorem dX5_kind_80 : decode cX5_kind 80 = .ok (.if_icmp .le 17, 3) := by decide +kernel
theorem dX5_kind_83 : decode cX5_kind 83 = .ok (.aload_n 0, 1) := by decide +kernel
theorem dX5_kind_84 : decode cX5_kind 84 = .ok (.getfield 16, 3) := by decide +kernel
theorem dX5_kind_87 : decode cX5_kind 87 = .ok (.getfield 127, 3) := by decide +kernel
theorem dX5_kind_90 : decode cX5_kind 90 = .ok (.iload_n 1, 1) := by decide +kernel
theorem dX5_kind_91 : decode cX5_kind 91 = .ok (.iaload, 1) := by decide +kernel
theorem dX5_kind_92 : decode cX5_kind 92 = .ok (.istore 4, 2) := by decide +kernel
theorem dX5_kind_94 : decode cX5_kind 94 = .ok (.iload 5, 2) := by decide +kernel
theorem dX5_kind_96 : decode cX5_kind 96 = .ok (.istore_n 3, 1) := by decide +kernel
theorem dX5_kind_97 : decode cX5_kind 97 = .ok (.iinc 5 1, 3) := by decide +kernel
theorem dX5_kind_100 : decode cX5_kind 100 = .ok (.goto (-68), 3) := by decide +kernel
theorem dX5_kind_103 : decode cX5_kind 103 = .ok (.iload_n 3, 1) := by decide +kernel
theorem dX5_kind_104 : decode cX5_kind 104 = .ok (.ireturn, 1) := by decide +kernel
theorem dX5_lean_0 : decode cX5_lean 0 = .ok (.aload_n 0, 1) := by decide +kernel
theorem dX5_lean_1 : decode cX5_lean 1 = .ok (.iload_n 1, 1) := by decide +kernel
theorem dX5_lean_2 : decode cX5_lean 2 = .ok (.invokevirtual 118, 3) := by decide +kernel
theorem dX5_lean_5 : decode cX5_lean 5 = .ok (.ifCond .eq 13, 3) := by decide +kernel
theorem dX5_lean_8 : decode cX5_lean 8 = .ok (.iload_n 2, 1) := by decide +kernel
theorem dX5_lean_9 : decode cX5_lean 9 = .ok (.iconst 1, 1) := by decide +kernel
theorem dX5_lean_10 : decode cX5_lean 10 = .ok (.bipush 40, 2) := by decide +kernel
theorem dX5_lean_12 : decode cX5_lean 12 = .ok (.invokestatic 75, 3) := by decide +kernel
theorem dX5_lean_15 : decode cX5_lean 15 = .ok (.ifCond .ne 9, 3) := by decide +kernel
theorem dX5_lean_18 : decode cX5_lean 18 = .ok (.aload_n 0, 1) := by decide +kernel
theorem dX5_lean_19 : decode cX5_lean 19 = .ok (.iconst 0, 1) := by decide +kernel
theorem dX5_lean_20 : decode cX5_lean 20 = .ok (.invokevirtual 63, 3) := by decide +kernel
theorem dX5_lean_23 : decode cX5_lean 23 = .ok (.ireturn, 1) := by decide +kernel
theorem dX5_lean_24 : decode cX5_lean 24 = .ok (.iconst 0, 1) := by decide +kernel
theorem dX5_lean_25 : decode cX5_lean 25 = .ok (.istore_n 3, 1) := by decide +kernel
theorem dX5_lean_26 : decode cX5_lean 26 = .ok (.iconst (-1), 1) := by decide +kernel
theorem dX5_lean_27 : decode cX5_lean 27 = .ok (.istore 4, 2) := by decide +kernel
theorem dX5_lean_29 : decode cX5_lean 29 = .ok (.iconst 0, 1) := by decide +kernel
theorem dX5_lean_30 : decode cX5_lean 30 = .ok (.istore 5, 2) := by decide +kernel
theorem dX5_lean_32 : decode cX5_lean 32 = .ok (.iload 5, 2) := by decide +kernel
theorem dX5_lean_34 : decode cX5_lean 34 = .ok (.bipush 63, 2) := by decide +kernel
theorem dX5_lean_36 : decode cX5_lean 36 = .ok (.if_icmp .gt 73, 3) := by decide +kernel
theorem dX5_lean_39 : decode cX5_lean 39 = .ok (.aload_n 0, 1) := by decide +kernel
theorem dX5_lean_40 : decode cX5_lean 40 = .ok (.getfield 16, 3) := by decide +kernel
theorem dX5_lean_43 : decode cX5_lean 43 = .ok (.aload_n 0, 1) := by decide +kernel
theorem dX5_lean_44 : decode cX5_lean 44 = .ok (.getfield 10, 3) := by decide +kernel
theorem dX5_lean_47 : decode cX5_lean 47 = .ok (.invokevirtual 163, 3) := by decide +kernel
theorem dX5_lean_50 : decode cX5_lean 50 = .ok (.aload_n 0, 1) := by decide +kernel
theorem dX5_lean_51 : decode cX5_lean 51 = .ok (.getfield 16, 3) := by decide +kernel
theorem dX5_lean_54 : decode cX5_lean 54 = .ok (.getfield 124, 3) := by decide +kernel
theorem dX5_lean_57 : decode cX5_lean 57 = .ok (.iload_n 1, 1) := by decide +kernel
theorem dX5_lean_58 : decode cX5_lean 58 = .ok (.iload 5, 2) := by decide +kernel
theorem dX5_lean_60 : decode cX5_lean 60 = .ok (.iastore, 1) := by decide +kernel
theorem dX5_lean_61 : decode cX5_lean 61 = .ok (.aload_n 0, 1) := by decide +kernel
theorem dX5_lean_62 : decode cX5_lean 62 = .ok (.getfield 16, 3) := by decide +kernel
theorem dX5_lean_65 : decode cX5_lean 65 = .ok (.iload_n 2, 1) := by decide +kernel
theorem dX5_lean_66 : decode cX5_lean 66 = .ok (.invokevirtual 156, 3) := by decide +kernel
theorem dX5_lean_69 : decode cX5_lean 69 = .ok (.aload_n 0, 1) := by decide +kernel
theorem dX5_lean_70 : decode cX5_lean 70 = .ok (.getfield 16, 3) := by decide +kernel
theorem dX5_lean_73 : decode cX5_lean 73 = .ok (.getfield 89, 3) := by decide +kernel
theorem dX5_lean_76 : decode cX5_lean 76 = .ok (.aload_n 0, 1) := by decide +kernel
theorem dX5_lean_77 : decode cX5_lean 77 = .ok (.getfield 10, 3) := by decide +kernel
theorem dX5_lean_80 : decode cX5_lean 80 = .ok (.getfield 89, 3) := by decide +kernel
theorem dX5_lean_83 : decode cX5_lean 83 = .ok (.ixor, 1) := by decide +kernel
theorem dX5_lean_84 : decode cX5_lean 84 = .ok (.invokestatic 170, 3) := by decide +kernel
theorem dX5_lean_87 : decode cX5_lean 87 = .ok (.istore 6, 2) := by decide +kernel
theorem dX5_lean_89 : decode cX5_lean 89 = .ok (.iload 6, 2) := by decide +kernel
theorem dX5_lean_91 : decode cX5_lean 91 = .ok (.iload 4, 2) := by decide +kernel
theorem dX5_lean_93 : decode cX5_lean 93 = .ok (.if_icmp .le 10, 3) := by decide +kernel
theorem dX5_lean_96 : decode cX5_lean 96 = .ok (.iload 6, 2) := by decide +kernel
theorem dX5_lean_98 : decode cX5_lean 98 = .ok (.istore 4, 2) := by decide +kernel
theorem dX5_lean_100 : decode cX5_lean 100 = .ok (.iload 5, 2) := by decide +kernel
theorem dX5_lean_102 : decode cX5_lean 102 = .ok (.istore_n 3, 1) := by decide +kernel
theorem dX5_lean_103 : decode cX5_lean 103 = .ok (.iinc 5 1, 3) := by decide +kernel
theorem dX5_lean_106 : decode cX5_lean 106 = .ok (.goto (-74), 3) := by decide +kernel
theorem dX5_lean_109 : decode cX5_lean 109 = .ok (.iload_n 3, 1) := by decide +kernel
theorem dX5_lean_110 : decode cX5_lean 110 = .ok (.ireturn, 1) := by decide +kernel
theorem dX5_buys_0 : decode cX5_buys 0 = .ok (.aload_n 0, 1) := by decide +kernel
theorem dX5_buys_1 : decode cX5_buys 1 = .ok (.iload_n 1, 1) := by decide +kernel
theorem dX5_buys_2 : decode cX5_buys 2 = .ok (.invokevirtual 118, 3) := by decide +kernel
theorem dX5_buys_5 : decode cX5_buys 5 = .ok (.ifCond .eq 20, 3) := by decide +kernel
theorem dX5_buys_8 : decode cX5_buys 8 = .ok (.iload_n 2, 1) := by decide +kernel
theorem dX5_buys_9 : decode cX5_buys 9 = .ok (.invokestatic 53, 3) := by decide +kernel
theorem dX5_buys_12 : decode cX5_buys 12 = .ok (.ifCond .eq 13, 3) := by decide +kernel
theorem dX5_buys_15 : decode cX5_buys 15 = .ok (.iload_n 3, 1) := by decide +kernel
theorem dX5_buys_16 : decode cX5_buys 16 = .ok (.iconst 1, 1) := by decide +kernel
theorem dX5_buys_17 : decode cX5_buys 17 = .ok (.bipush 60, 2) := by decide +kernel
theorem dX5_buys_19 : decode cX5_buys 19 = .ok (.invokestatic 75, 3) := by decide +kernel
theorem dX5_buys_22 : decode cX5_buys 22 = .ok (.ifCond .ne 9, 3) := by decide +kernel
theorem dX5_buys_25 : decode cX5_buys 25 = .ok (.aload_n 0, 1) := by decide +kernel
theorem dX5_buys_26 : decode cX5_buys 26 = .ok (.iconst 0, 1) := by decide +kernel
theorem dX5_buys_27 : decode cX5_buys 27 = .ok (.invokevirtual 63, 3) := by decide +kernel
theorem dX5_buys_30 : decode cX5_buys 30 = .ok (.ireturn, 1) := by decide +kernel
theorem dX5_buys_31 : decode cX5_buys 31 = .ok (.aload_n 0, 1) := by decide +kernel
theorem dX5_buys_32 : decode cX5_buys 32 = .ok (.getfield 10, 3) := by decide +kernel
theorem dX5_buys_35 : decode cX5_buys 35 = .ok (.iload_n 2, 1) := by decide +kernel
theorem dX5_buys_36 : decode cX5_buys 36 = .ok (.iconst 2, 1) := by decide +kernel
theorem dX5_buys_37 : decode cX5_buys 37 = .ok (.invokevirtual 79, 3) := by decide +kernel
theorem dX5_buys_40 : decode cX5_buys 40 = .ok (.istore 4, 2) := by decide +kernel
theorem dX5_buys_42 : decode cX5_buys 42 = .ok (.iconst 0, 1) := by decide +kernel
theorem dX5_buys_43 : decode cX5_buys 43 = .ok (.istore 5, 2) := by decide +kernel
theorem dX5_buys_45 : decode cX5_buys 45 = .ok (.iload 5, 2) := by decide +kernel
theorem dX5_buys_47 : decode cX5_buys 47 = .ok (.sipush 1000, 3) := by decide +kernel
theorem dX5_buys_50 : decode cX5_buys 50 = .ok (.if_icmp .gt 56, 3) := by decide +kernel
theorem dX5_buys_53 : decode cX5_buys 53 = .ok (.aload_n 0, 1) := by decide +kernel
theorem dX5_buys_54 : decode cX5_buys 54 = .ok (.getfield 16, 3) := by decide +kernel
theorem dX5_buys_57 : decode cX5_buys 57 = .ok (.aload_n 0, 1) := by decide +kernel
theorem dX5_buys_58 : decode cX5_buys 58 = .ok (.getfield 10, 3) := by decide +kernel
theorem dX5_buys_61 : decode cX5_buys 61 = .ok (.invokevirtual 163, 3) := by decide +kernel
theorem dX5_buys_64 : decode cX5_buys 64 = .ok (.aload_n 0, 1) := by decide +kernel
theorem dX5_buys_65 : decode cX5_buys 65 = .ok (.getfield 16, 3) := by decide +kernel
theorem dX5_buys_68 : decode cX5_buys 68 = .ok (.getfield 127, 3) := by decide +kernel
theorem dX5_buys_71 : decode cX5_buys 71 = .ok (.iload_n 1, 1) := by decide +kernel
theorem dX5_buys_72 : decode cX5_buys 72 = .ok (.iload 5, 2) := by decide +kernel
theorem dX5_buys_74 : decode cX5_buys 74 = .ok (.iastore, 1) := by decide +kernel
theorem dX5_buys_75 : decode cX5_buys 75 = .ok (.aload_n 0, 1) := by decide +kernel
theorem dX5_buys_76 : decode cX5_buys 76 = .ok (.getfield 16, 3) := by decide +kernel
theorem dX5_buys_79 : decode cX5_buys 79 = .ok (.iload_n 3, 1) := by decide +kernel
theorem dX5_buys_80 : decode cX5_buys 80 = .ok (.invokevirtual 156, 3) := by decide +kernel
theorem dX5_buys_83 : decode cX5_buys 83 = .ok (.aload_n 0, 1) := by decide +kernel
theorem dX5_buys_84 : decode cX5_buys 84 = .ok (.getfield 16, 3) := by decide +kernel
theorem dX5_buys_87 : decode cX5_buys 87 = .ok (.iload_n 2, 1) := by decide +kernel
theorem dX5_buys_88 : decode cX5_buys 88 = .ok (.iconst 2, 1) := by decide +kernel
theorem dX5_buys_89 : decode cX5_buys 89 = .ok (.invokevirtual 79, 3) := by decide +kernel
theorem dX5_buys_92 : decode cX5_buys 92 = .ok (.iload 4, 2) := by decide +kernel
theorem dX5_buys_94 : decode cX5_buys 94 = .ok (.if_icmp .eq 6, 3) := by decide +kernel
theorem dX5_buys_97 : decode cX5_buys 97 = .ok (.iload 5, 2) := by decide +kernel
theorem dX5_buys_99 : decode cX5_buys 99 = .ok (.ireturn, 1) := by decide +kernel
theorem dX5_buys_100 : decode cX5_buys 100 = .ok (.iinc 5 10, 3) := by decide +kernel
theorem dX5_buys_103 : decode cX5_buys 103 = .ok (.goto (-58), 3) := by decide +kernel
theorem dX5_buys_106 : decode cX5_buys 106 = .ok (.aload_n 0, 1) := by decide +kernel
theorem dX5_buys_107 : decode cX5_buys 107 = .ok (.iconst 3, 1) := by decide +kernel
theorem dX5_buys_108 : decode cX5_buys 108 = .ok (.invokevirtual 63, 3) := by decide +kernel
theorem dX5_buys_111 : decode cX5_buys 111 = .ok (.ireturn, 1) := by decide +kernel
theorem dX5_swing_0 : decode cX5_swing 0 = .ok (.iload_n 1, 1) := by decide +kernel
theorem dX5_swing_1 : decode cX5_swing 1 = .ok (.iconst 1, 1) := by decide +kernel
theorem dX5_swing_2 : decode cX5_swing 2 = .ok (.bipush 60, 2) := by decide +kernel
theorem dX5_swing_4 : decode cX5_swing 4 = .ok (.invokestatic 75, 3) := by decide +kernel
theorem dX5_swing_7 : decode cX5_swing 7 = .ok (.ifCond .ne 9, 3) := by decide +kernel
theorem dX5_swing_10 : decode cX5_swing 10 = .ok (.aload_n 0, 1) := by decide +kernel
theorem dX5_swing_11 : decode cX5_swing 11 = .ok (.iconst 0, 1) := by decide +kernel
theorem dX5_swing_12 : decode cX5_swing 12 = .ok (.invokevirtual 63, 3) := by decide +kernel
theorem dX5_swing_15 : decode cX5_swing 15 = .ok (.ireturn, 1) := by decide +kernel
theorem dX5_swing_16 : decode cX5_swing 16 = .ok (.aload_n 0, 1) := by decide +kernel
theorem dX5_swing_17 : decode cX5_swing 17 = .ok (.iload_n 1, 1) := by decide +kernel
theorem dX5_swing_18 : decode cX5_swing 18 = .ok (.invokevirtual 160, 3) := by decide +kernel
theorem dX5_swing_21 : decode cX5_swing 21 = .ok (.aload_n 0, 1) := by decide +kernel
theorem dX5_swing_22 : decode cX5_swing 22 = .ok (.getfield 16, 3) := by decide +kernel
theorem dX5_swing_25 : decode cX5_swing 25 = .ok (.getfield 89, 3) := by decide +kernel
theorem dX5_swing_28 : decode cX5_swing 28 = .ok (.istore_n 2, 1) := by decide +kernel
theorem dX5_swing_29 : decode cX5_swing 29 = .ok (.iconst (-1), 1) := by decide +kernel
theorem dX5_swing_30 : decode cX5_swing 30 = .ok (.istore_n 3, 1) := by decide +kernel
theorem dX5_swing_31 : decode cX5_swing 31 = .ok (.iconst 0, 1) := by decide +kernel
theorem dX5_swing_32 : decode cX5_swing 32 = .ok (.istore 4, 2) := by decide +kernel
theorem dX5_swing_34 : decode cX5_swing 34 = .ok (.iconst 0, 1) := by decide +kernel
theorem dX5_swing_35 : decode cX5_swing 35 = .ok (.istore 5, 2) := by decide +kernel
theorem dX5_swing_37 : decode cX5_swing 37 = .ok (.iload 5, 2) := by decide +kernel
theorem dX5_swing_39 : decode cX5_swing 39 = .ok (.aload_n 0, 1) := by decide +kernel
theorem dX5_swing_40 : decode cX5_swing 40 = .ok (.getfield 10, 3) := by decide +kernel
theorem dX5_swing_43 : decode cX5_swing 43 = .ok (.getfield 175, 3) := by decide +kernel
theorem dX5_swing_46 : decode cX5_swing 46 = .ok (.if_icmp .ge 80, 3) := by decide +kernel
theorem dX5_swing_49 : decode cX5_swing 49 = .ok (.aload_n 0, 1) := by decide +kernel
theorem dX5_swing_50 : decode cX5_swing 50 = .ok (.getfield 10, 3) := by decide +kernel
theorem dX5_swing_53 : decode cX5_swing 53 = .ok (.getfield 130, 3) := by decide +kernel
theorem dX5_swing_56 : decode cX5_swing 56 = .ok (.iload 5, 2) := by decide +kernel
theorem dX5_swing_58 : decode cX5_swing 58 = .ok (.iaload, 1) := by decide +kernel
theorem dX5_swing_59 : decode cX5_swing 59 = .ok (.ifCond .ne 61, 3) := by decide +kernel
theorem dX5_swing_62 : decode cX5_swing 62 = .ok (.aload_n 0, 1) := by decide +kernel
theorem dX5_swing_63 : decode cX5_swing 63 = .ok (.getfield 16, 3) := by decide +kernel
theorem dX5_swing_66 : decode cX5_swing 66 = .ok (.aload_n 0, 1) := by decide +kernel
theorem dX5_swing_67 : decode cX5_swing 67 = .ok (.getfield 10, 3) := by decide +kernel
theorem dX5_swing_70 : decode cX5_swing 70 = .ok (.invokevirtual 163, 3) := by decide +kernel
theorem dX5_swing_73 : decode cX5_swing 73 = .ok (.aload_n 0, 1) := by decide +kernel
theorem dX5_swing_74 : decode cX5_swing 74 = .ok (.getfield 16, 3) := by decide +kernel
theorem dX5_swing_77 : decode cX5_swing 77 = .ok (.getfield 130, 3) := by decide +kernel
theorem dX5_swing_80 : decode cX5_swing 80 = .ok (.iload 5, 2) := by decide +kernel
theorem dX5_swing_82 : decode cX5_swing 82 = .ok (.iconst 1, 1) := by decide +kernel
theorem dX5_swing_83 : decode cX5_swing 83 = .ok (.iastore, 1) := by decide +kernel
theorem dX5_swing_84 : decode cX5_swing 84 = .ok (.aload_n 0, 1) := by decide +kernel
theorem dX5_swing_85 : decode cX5_swing 85 = .ok (.getfield 16, 3) := by decide +kernel
theorem dX5_swing_88 : decode cX5_swing 88 = .ok (.iload_n 1, 1) := by decide +kernel
theorem dX5_swing_89 : decode cX5_swing 89 = .ok (.invokevirtual 156, 3) := by decide +kernel
theorem dX5_swing_92 : decode cX5_swing 92 = .ok (.aload_n 0, 1) := by decide +kernel
theorem dX5_swing_93 : decode cX5_swing 93 = .ok (.getfield 16, 3) := by decide +kernel
theorem dX5_swing_96 : decode cX5_swing 96 = .ok (.getfield 89, 3) := by decide +kernel
theorem dX5_swing_99 : decode cX5_swing 99 = .ok (.iload_n 2, 1) := by decide +kernel
theorem dX5_swing_100 : decode cX5_swing 100 = .ok (.ixor, 1) := by decide +kernel
theorem dX5_swing_101 : decode cX5_swing 101 = .ok (.invokestatic 170, 3) := by decide +kernel
theorem dX5_swing_104 : decode cX5_swing 104 = .ok (.istore 6, 2) := by decide +kernel
theorem dX5_swing_106 : decode cX5_swing 106 = .ok (.iload 6, 2) := by decide +kernel
theorem dX5_swing_108 : decode cX5_swing 108 = .ok (.iload 4, 2) := by decide +kernel
theorem dX5_swing_110 : decode cX5_swing 110 = .ok (.if_icmp .le 10, 3) := by decide +kernel
theorem dX5_swing_113 : decode cX5_swing 113 = .ok (.iload 6, 2) := by decide +kernel
theorem dX5_swing_115 : decode cX5_swing 115 = .ok (.istore 4, 2) := by decide +kernel
theorem dX5_swing_117 : decode cX5_swing 117 = .ok (.iload 5, 2) := by decide +kernel
theorem dX5_swing_119 : decode cX5_swing 119 = .ok (.istore_n 3, 1) := by decide +kernel
theorem dX5_swing_120 : decode cX5_swing 120 = .ok (.iinc 5 1, 3) := by decide +kernel
theorem dX5_swing_123 : decode cX5_swing 123 = .ok (.goto (-86), 3) := by decide +kernel
theorem dX5_swing_126 : decode cX5_swing 126 = .ok (.iload_n 3, 1) := by decide +kernel
theorem dX5_swing_127 : decode cX5_swing 127 = .ok (.ifCond .ge 11, 3) := by decide +kernel
theorem dX5_swing_130 : decode cX5_swing 130 = .ok (.aload_n 0, 1) := by decide +kernel
theorem dX5_swing_131 : decode cX5_swing 131 = .ok (.iconst 3, 1) := by decide +kernel
theorem dX5_swing_132 : decode cX5_swing 132 = .ok (.invokevirtual 63, 3) := by decide +kernel
theorem dX5_swing_135 : decode cX5_swing 135 = .ok (.goto 4, 3) := by decide +kernel
theorem dX5_swing_138 : decode cX5_swing 138 = .ok (.iload_n 3, 1) := by decide +kernel
theorem dX5_swing_139 : decode cX5_swing 139 = .ok (.ireturn, 1) := by decide +kernel
theorem dX5_pays_0 : decode cX5_pays 0 = .ok (.iload_n 1, 1) := by decide +kernel
theorem dX5_pays_1 : decode cX5_pays 1 = .ok (.iconst 1, 1) := by decide +kernel
theorem dX5_pays_2 : decode cX5_pays 2 = .ok (.bipush 60, 2) := by decide +kernel
theorem dX5_pays_4 : decode cX5_pays 4 = .ok (.invokestatic 75, 3) := by decide +kernel
theorem dX5_pays_7 : decode cX5_pays 7 = .ok (.ifCond .ne 9, 3) := by decide +kernel
theorem dX5_pays_10 : decode cX5_pays 10 = .ok (.aload_n 0, 1) := by decide +kernel
theorem dX5_pays_11 : decode cX5_pays 11 = .ok (.iconst 0, 1) := by decide +kernel
theorem dX5_pays_12 : decode cX5_pays 12 = .ok (.invokevirtual 63, 3) := by decide +kernel
theorem dX5_pays_15 : decode cX5_pays 15 = .ok (.ireturn, 1) := by decide +kernel
theorem dX5_pays_16 : decode cX5_pays 16 = .ok (.aload_n 0, 1) := by decide +kernel
theorem dX5_pays_17 : decode cX5_pays 17 = .ok (.iconst 1, 1) := by decide +kernel
theorem dX5_pays_18 : decode cX5_pays 18 = .ok (.iload_n 1, 1) := by decide +kernel
theorem dX5_pays_19 : decode cX5_pays 19 = .ok (.invokevirtual 178, 3) := by decide +kernel
theorem dX5_pays_22 : decode cX5_pays 22 = .ok (.aload_n 0, 1) := by decide +kernel
theorem dX5_pays_23 : decode cX5_pays 23 = .ok (.iconst 0, 1) := by decide +kernel
theorem dX5_pays_24 : decode cX5_pays 24 = .ok (.iload_n 1, 1) := by decide +kernel
theorem dX5_pays_25 : decode cX5_pays 25 = .ok (.invokevirtual 178, 3) := by decide +kernel
theorem dX5_pays_28 : decode cX5_pays 28 = .ok (.if_icmp .le 7, 3) := by decide +kernel
theorem dX5_pays_31 : decode cX5_pays 31 = .ok (.iconst 1, 1) := by decide +kernel
theorem dX5_pays_32 : decode cX5_pays 32 = .ok (.goto 4, 3) := by decide +kernel
theorem dX5_pays_35 : decode cX5_pays 35 = .ok (.iconst 0, 1) := by decide +kernel
theorem dX5_pays_36 : decode cX5_pays 36 = .ok (.ireturn, 1) := by decide +kernel
theorem dX5_richest_0 : decode cX5_richest 0 = .ok (.iload_n 1, 1) := by decide +kernel
theorem dX5_richest_1 : decode cX5_richest 1 = .ok (.iconst 0, 1) := by decide +kernel
theorem dX5_richest_2 : decode cX5_richest 2 = .ok (.sipush 200, 3) := by decide +kernel
theorem dX5_richest_5 : decode cX5_richest 5 = .ok (.invokestatic 75, 3) := by decide +kernel
theorem dX5_richest_8 : decode cX5_richest 8 = .ok (.ifCond .ne 9, 3) := by decide +kernel
theorem dX5_richest_11 : decode cX5_richest 11 = .ok (.aload_n 0, 1) := by decide +kernel
theorem dX5_richest_12 : decode cX5_richest 12 = .ok (.iconst 0, 1) := by decide +kernel
theorem dX5_richest_13 : decode cX5_richest 13 = .ok (.invokevirtual 63, 3) := by decide +kernel
theorem dX5_richest_16 : decode cX5_richest 16 = .ok (.ireturn, 1) := by decide +kernel
theorem dX5_richest_17 : decode cX5_richest 17 = .ok (.aload_n 0, 1) := by decide +kernel
theorem dX5_richest_18 : decode cX5_richest 18 = .ok (.getfield 10, 3) := by decide +kernel
theorem dX5_richest_21 : decode cX5_richest 21 = .ok (.getfield 175, 3) := by decide +kernel
theorem dX5_richest_24 : decode cX5_richest 24 = .ok (.ifCond .ne 9, 3) := by decide +kernel
theorem dX5_richest_27 : decode cX5_richest 27 = .ok (.aload_n 0, 1) := by decide +kernel
theorem dX5_richest_28 : decode cX5_richest 28 = .ok (.iconst 3, 1) := by decide +kernel
theorem dX5_richest_29 : decode cX5_richest 29 = .ok (.invokevirtual 63, 3) := by decide +kernel
theorem dX5_richest_32 : decode cX5_richest 32 = .ok (.ireturn, 1) := by decide +kernel
theorem dX5_richest_33 : decode cX5_richest 33 = .ok (.aload_n 0, 1) := by decide +kernel
theorem dX5_richest_34 : decode cX5_richest 34 = .ok (.iload_n 1, 1) := by decide +kernel
theorem dX5_richest_35 : decode cX5_richest 35 = .ok (.invokevirtual 160, 3) := by decide +kernel
theorem dX5_richest_38 : decode cX5_richest 38 = .ok (.iconst 0, 1) := by decide +kernel
theorem dX5_richest_39 : decode cX5_richest 39 = .ok (.istore_n 2, 1) := by decide +kernel
theorem dX5_richest_40 : decode cX5_richest 40 = .ok (.iconst 1, 1) := by decide +kernel
theorem dX5_richest_41 : decode cX5_richest 41 = .ok (.istore_n 3, 1) := by decide +kernel
theorem dX5_richest_42 : decode cX5_richest 42 = .ok (.iload_n 3, 1) := by decide +kernel
theorem dX5_richest_43 : decode cX5_richest 43 = .ok (.aload_n 0, 1) := by decide +kernel
theorem dX5_richest_44 : decode cX5_richest 44 = .ok (.getfield 16, 3) := by decide +kernel
theorem dX5_richest_47 : decode cX5_richest 47 = .ok (.getfield 175, 3) := by decide +kernel
theorem dX5_richest_50 : decode cX5_richest 50 = .ok (.if_icmp .ge 32, 3) := by decide +kernel
theorem dX5_richest_53 : decode cX5_richest 53 = .ok (.aload_n 0, 1) := by decide +kernel
theorem dX5_richest_54 : decode cX5_richest 54 = .ok (.getfield 16, 3) := by decide +kernel
theorem dX5_richest_57 : decode cX5_richest 57 = .ok (.getfield 127, 3) := by decide +kernel
theorem dX5_richest_60 : decode cX5_richest 60 = .ok (.iload_n 3, 1) := by decide +kernel
theorem dX5_richest_61 : decode cX5_richest 61 = .ok (.iaload, 1) := by decide +kernel
theorem dX5_richest_62 : decode cX5_richest 62 = .ok (.aload_n 0, 1) := by decide +kernel
theorem dX5_richest_63 : decode cX5_richest 63 = .ok (.getfield 16, 3) := by decide +kernel
theorem dX5_richest_66 : decode cX5_richest 66 = .ok (.getfield 127, 3) := by decide +kernel
theorem dX5_richest_69 : decode cX5_richest 69 = .ok (.iload_n 2, 1) := by decide +kernel
theorem dX5_richest_70 : decode cX5_richest 70 = .ok (.iaload, 1) := by decide +kernel
theorem dX5_richest_71 : decode cX5_richest 71 = .ok (.if_icmp .le 5, 3) := by decide +kernel
theorem dX5_richest_74 : decode cX5_richest 74 = .ok (.iload_n 3, 1) := by decide +kernel
theorem dX5_richest_75 : decode cX5_richest 75 = .ok (.istore_n 2, 1) := by decide +kernel
theorem dX5_richest_76 : decode cX5_richest 76 = .ok (.iinc 3 1, 3) := by decide +kernel
theorem dX5_richest_79 : decode cX5_richest 79 = .ok (.goto (-37), 3) := by decide +kernel
theorem dX5_richest_82 : decode cX5_richest 82 = .ok (.iload_n 2, 1) := by decide +kernel
theorem dX5_richest_83 : decode cX5_richest 83 = .ok (.ireturn, 1) := by decide +kernel
theorem dX5_feed_0 : decode cX5_feed 0 = .ok (.iload_n 2, 1) := by decide +kernel
theorem dX5_feed_1 : decode cX5_feed 1 = .ok (.iconst 1, 1) := by decide +kernel
theorem dX5_feed_2 : decode cX5_feed 2 = .ok (.iconst 4, 1) := by decide +kernel
theorem dX5_feed_3 : decode cX5_feed 3 = .ok (.invokestatic 75, 3) := by decide +kernel
theorem dX5_feed_6 : decode cX5_feed 6 = .ok (.ifCond .ne 9, 3) := by decide +kernel
theorem dX5_feed_9 : decode cX5_feed 9 = .ok (.aload_n 0, 1) := by decide +kernel
theorem dX5_feed_10 : decode cX5_feed 10 = .ok (.iconst 0, 1) := by decide +kernel
theorem dX5_feed_11 : decode cX5_feed 11 = .ok (.invokevirtual 63, 3) := by decide +kernel
theorem dX5_feed_14 : decode cX5_feed 14 = .ok (.ireturn, 1) := by decide +kernel
theorem dX5_feed_15 : decode cX5_feed 15 = .ok (.aload_n 0, 1) := by decide +kernel
theorem dX5_feed_16 : decode cX5_feed 16 = .ok (.getfield 29, 3) := by decide +kernel
theorem dX5_feed_19 : decode cX5_feed 19 = .ok (.iload_n 2, 1) := by decide +kernel
theorem dX5_feed_20 : decode cX5_feed 20 = .ok (.invokevirtual 181, 3) := by decide +kernel
theorem dX5_feed_23 : decode cX5_feed 23 = .ok (.ifCond .ne 9, 3) := by decide +kernel
theorem dX5_feed_26 : decode cX5_feed 26 = .ok (.aload_n 0, 1) := by decide +kernel
theorem dX5_feed_27 : decode cX5_feed 27 = .ok (.iconst 1, 1) := by decide +kernel
theorem dX5_feed_28 : decode cX5_feed 28 = .ok (.invokevirtual 63, 3) := by decide +kernel
theorem dX5_feed_31 : decode cX5_feed 31 = .ok (.ireturn, 1) := by decide +kernel
theorem dX5_feed_32 : decode cX5_feed 32 = .ok (.iload_n 2, 1) := by decide +kernel
theorem dX5_feed_33 : decode cX5_feed 33 = .ok (.iconst 1, 1) := by decide +kernel
theorem dX5_feed_34 : decode cX5_feed 34 = .ok (.isub, 1) := by decide +kernel
theorem dX5_feed_35 : decode cX5_feed 35 = .ok (.istore_n 3, 1) := by decide +kernel
theorem dX5_feed_36 : decode cX5_feed 36 = .ok (.iload_n 3, 1) := by decide +kernel
theorem dX5_feed_37 : decode cX5_feed 37 = .ok (.ifCond .lt 23, 3) := by decide +kernel
theorem dX5_feed_40 : decode cX5_feed 40 = .ok (.aload_n 0, 1) := by decide +kernel
theorem dX5_feed_41 : decode cX5_feed 41 = .ok (.getfield 29, 3) := by decide +kernel
theorem dX5_feed_44 : decode cX5_feed 44 = .ok (.iload_n 1, 1) := by decide +kernel
theorem dX5_feed_45 : decode cX5_feed 45 = .ok (.bipush 8, 2) := by decide +kernel
theorem dX5_feed_47 : decode cX5_feed 47 = .ok (.iload_n 3, 1) := by decide +kernel
theorem dX5_feed_48 : decode cX5_feed 48 = .ok (.imul, 1) := by decide +kernel
theorem dX5_feed_49 : decode cX5_feed 49 = .ok (.ishr, 1) := by decide +kernel
theorem dX5_feed_50 : decode cX5_feed 50 = .ok (.i2b, 1) := by decide +kernel
theorem dX5_feed_51 : decode cX5_feed 51 = .ok (.invokevirtual 184, 3) := by decide +kernel
theorem dX5_feed_54 : decode cX5_feed 54 = .ok (.iinc 3 (-1), 3) := by decide +kernel
theorem dX5_feed_57 : decode cX5_feed 57 = .ok (.goto (-21), 3) := by decide +kernel
theorem dX5_feed_60 : decode cX5_feed 60 = .ok (.aload_n 0, 1) := by decide +kernel
theorem dX5_feed_61 : decode cX5_feed 61 = .ok (.getfield 29, 3) := by decide +kernel
theorem dX5_feed_64 : decode cX5_feed 64 = .ok (.getfield 187, 3) := by decide +kernel
theorem dX5_feed_67 : decode cX5_feed 67 = .ok (.ireturn, 1) := by decide +kernel
theorem dX5_wipe_0 : decode cX5_wipe 0 = .ok (.aload_n 0, 1) := by decide +kernel
theorem dX5_wipe_1 : decode cX5_wipe 1 = .ok (.getfield 29, 3) := by decide +kernel
theorem dX5_wipe_4 : decode cX5_wipe 4 = .ok (.getfield 187, 3) := by decide +kernel
theorem dX5_wipe_7 : decode cX5_wipe 7 = .ok (.istore_n 1, 1) := by decide +kernel
theorem dX5_wipe_8 : decode cX5_wipe 8 = .ok (.aload_n 0, 1) := by decide +kernel
theorem dX5_wipe_9 : decode cX5_wipe 9 = .ok (.getfield 29, 3) := by decide +kernel
theorem dX5_wipe_12 : decode cX5_wipe 12 = .ok (.iconst 0, 1) := by decide +kernel
theorem dX5_wipe_13 : decode cX5_wipe 13 = .ok (.putfield 187, 3) := by decide +kernel
theorem dX5_wipe_16 : decode cX5_wipe 16 = .ok (.iload_n 1, 1) := by decide +kernel
theorem dX5_wipe_17 : decode cX5_wipe 17 = .ok (.ireturn, 1) := by decide +kernel
theorem dX5_town_0 : decode cX5_town 0 = .ok (.aload_n 0, 1) := by decide +kernel
theorem dX5_town_1 : decode cX5_town 1 = .ok (.getfield 16, 3) := by decide +kernel
theorem dX5_town_4 : decode cX5_town 4 = .ok (.aload_n 0, 1) := by decide +kernel
theorem dX5_town_5 : decode cX5_town 5 = .ok (.getfield 10, 3) := by decide +kernel
theorem dX5_town_8 : decode cX5_town 8 = .ok (.invokevirtual 163, 3) := by decide +kernel
theorem dX5_town_11 : decode cX5_town 11 = .ok (.aload_n 0, 1) := by decide +kernel
theorem dX5_town_12 : decode cX5_town 12 = .ok (.getfield 38, 3) := by decide +kernel
theorem dX5_town_15 : decode cX5_town 15 = .ok (.invokevirtual 190, 3) := by decide +kernel
theorem dX5_town_18 : decode cX5_town 18 = .ok (.istore_n 1, 1) := by decide +kernel
theorem dX5_town_19 : decode cX5_town 19 = .ok (.iload_n 1, 1) := by decide +kernel
theorem dX5_town_20 : decode cX5_town 20 = .ok (.ifCond .le 14, 3) := by decide +kernel
theorem dX5_town_23 : decode cX5_town 23 = .ok (.aload_n 0, 1) := by decide +kernel
theorem dX5_town_24 : decode cX5_town 24 = .ok (.getfield 10, 3) := by decide +kernel
theorem dX5_town_27 : decode cX5_town 27 = .ok (.aload_n 0, 1) := by decide +kernel
theorem dX5_town_28 : decode cX5_town 28 = .ok (.getfield 16, 3) := by decide +kernel
theorem dX5_town_31 : decode cX5_town 31 = .ok (.invokevirtual 163, 3) := by decide +kernel
theorem dX5_town_34 : decode cX5_town 34 = .ok (.aload_n 0, 1) := by decide +kernel
theorem dX5_town_35 : decode cX5_town 35 = .ok (.getfield 29, 3) := by decide +kernel
theorem dX5_town_38 : decode cX5_town 38 = .ok (.iconst 0, 1) := by decide +kernel
theorem dX5_town_39 : decode cX5_town 39 = .ok (.putfield 187, 3) := by decide +kernel
theorem dX5_town_42 : decode cX5_town 42 = .ok (.iload_n 1, 1) := by decide +kernel
theorem dX5_town_43 : decode cX5_town 43 = .ok (.ireturn, 1) := by decide +kernel
theorem dX5_sheet_0 : decode cX5_sheet 0 = .ok (.iload_n 1, 1) := by decide +kernel
theorem dX5_sheet_1 : decode cX5_sheet 1 = .ok (.invokestatic 193, 3) := by decide +kernel
theorem dX5_sheet_4 : decode cX5_sheet 4 = .ok (.ifCond .eq 10, 3) := by decide +kernel
theorem dX5_sheet_7 : decode cX5_sheet 7 = .ok (.iload_n 2, 1) := by decide +kernel
theorem dX5_sheet_8 : decode cX5_sheet 8 = .ok (.invokestatic 196, 3) := by decide +kernel
theorem dX5_sheet_11 : decode cX5_sheet 11 = .ok (.ifCond .ne 9, 3) := by decide +kernel
theorem dX5_sheet_14 : decode cX5_sheet 14 = .ok (.aload_n 0, 1) := by decide +kernel
theorem dX5_sheet_15 : decode cX5_sheet 15 = .ok (.iconst 0, 1) := by decide +kernel
theorem dX5_sheet_16 : decode cX5_sheet 16 = .ok (.invokevirtual 63, 3) := by decide +kernel
theorem dX5_sheet_19 : decode cX5_sheet 19 = .ok (.ireturn, 1) := by decide +kernel
theorem dX5_sheet_20 : decode cX5_sheet 20 = .ok (.iload_n 3, 1) := by decide +kernel
theorem dX5_sheet_21 : decode cX5_sheet 21 = .ok (.ifCond .ge 10, 3) := by decide +kernel
theorem dX5_sheet_24 : decode cX5_sheet 24 = .ok (.aload_n 0, 1) := by decide +kernel
theorem dX5_sheet_25 : decode cX5_sheet 25 = .ok (.bipush 6, 2) := by decide +kernel
theorem dX5_sheet_27 : decode cX5_sheet 27 = .ok (.invokevirtual 63, 3) := by decide +kernel
theorem dX5_sheet_30 : decode cX5_sheet 30 = .ok (.ireturn, 1) := by decide +kernel
theorem dX5_sheet_31 : decode cX5_sheet 31 = .ok (.iload_n 3, 1) := by decide +kernel
theorem dX5_sheet_32 : decode cX5_sheet 32 = .ok (.bipush 40, 2) := by decide +kernel
theorem dX5_sheet_34 : decode cX5_sheet 34 = .ok (.if_icmp .le 9, 3) := by decide +kernel
theorem dX5_sheet_37 : decode cX5_sheet 37 = .ok (.aload_n 0, 1) := by decide +kernel
theorem dX5_sheet_38 : decode cX5_sheet 38 = .ok (.iconst 0, 1) := by decide +kernel
theorem dX5_sheet_39 : decode cX5_sheet 39 = .ok (.invokevirtual 63, 3) := by decide +kernel
theorem dX5_sheet_42 : decode cX5_sheet 42 = .ok (.ireturn, 1) := by decide +kernel
theorem dX5_sheet_43 : decode cX5_sheet 43 = .ok (.aload_n 0, 1) := by decide +kernel
theorem dX5_sheet_44 : decode cX5_sheet 44 = .ok (.getfield 45, 3) := by decide +kernel
theorem dX5_sheet_47 : decode cX5_sheet 47 = .ok (.iload_n 1, 1) := by decide +kernel
theorem dX5_sheet_48 : decode cX5_sheet 48 = .ok (.iload_n 2, 1) := by decide +kernel
theorem dX5_sheet_49 : decode cX5_sheet 49 = .ok (.iload_n 3, 1) := by decide +kernel
theorem dX5_sheet_50 : decode cX5_sheet 50 = .ok (.invokevirtual 199, 3) := by decide +kernel
theorem dX5_sheet_53 : decode cX5_sheet 53 = .ok (.aload_n 0, 1) := by decide +kernel
theorem dX5_sheet_54 : decode cX5_sheet 54 = .ok (.getfield 45, 3) := by decide +kernel
theorem dX5_sheet_57 : decode cX5_sheet 57 = .ok (.getfield 202, 3) := by decide +kernel
theorem dX5_sheet_60 : decode cX5_sheet 60 = .ok (.iload_n 1, 1) := by decide +kernel
theorem dX5_sheet_61 : decode cX5_sheet 61 = .ok (.iaload, 1) := by decide +kernel
theorem dX5_sheet_62 : decode cX5_sheet 62 = .ok (.ireturn, 1) := by decide +kernel
theorem dX5_write_0 : decode cX5_write 0 = .ok (.iload_n 1, 1) := by decide +kernel
theorem dX5_write_1 : decode cX5_write 1 = .ok (.invokestatic 193, 3) := by decide +kernel
theorem dX5_write_4 : decode cX5_write 4 = .ok (.ifCond .ne 10, 3) := by decide +kernel
theorem dX5_write_7 : decode cX5_write 7 = .ok (.aload_n 0, 1) := by decide +kernel
theorem dX5_write_8 : decode cX5_write 8 = .ok (.iconst 0, 1) := by decide +kernel
theorem dX5_write_9 : decode cX5_write 9 = .ok (.invokevirtual 63, 3) := by decide +kernel
theorem dX5_write_12 : decode cX5_write 12 = .ok (.i2l, 1) := by decide +kernel
theorem dX5_write_13 : decode cX5_write 13 = .ok (.lreturn, 1) := by decide +kernel
theorem dX5_write_14 : decode cX5_write 14 = .ok (.aload_n 0, 1) := by decide +kernel
theorem dX5_write_15 : decode cX5_write 15 = .ok (.getfield 45, 3) := by decide +kernel
theorem dX5_write_18 : decode cX5_write 18 = .ok (.iload_n 1, 1) := by decide +kernel
theorem dX5_write_19 : decode cX5_write 19 = .ok (.invokevirtual 205, 3) := by decide +kernel
theorem dX5_write_22 : decode cX5_write 22 = .ok (.ifCond .eq 10, 3) := by decide +kernel
theorem dX5_write_25 : decode cX5_write 25 = .ok (.aload_n 0, 1) := by decide +kernel
theorem dX5_write_26 : decode cX5_write 26 = .ok (.iconst 5, 1) := by decide +kernel
theorem dX5_write_27 : decode cX5_write 27 = .ok (.invokevirtual 63, 3) := by decide +kernel
theorem dX5_write_30 : decode cX5_write 30 = .ok (.i2l, 1) := by decide +kernel
theorem dX5_write_31 : decode cX5_write 31 = .ok (.lreturn, 1) := by decide +kernel
theorem dX5_write_32 : decode cX5_write 32 = .ok (.iload_n 2, 1) := by decide +kernel
theorem dX5_write_33 : decode cX5_write 33 = .ok (.iconst 0, 1) := by decide +kernel
theorem dX5_write_34 : decode cX5_write 34 = .ok (.aload_n 0, 1) := by decide +kernel
theorem dX5_write_35 : decode cX5_write 35 = .ok (.getfield 45, 3) := by decide +kernel
theorem dX5_write_38 : decode cX5_write 38 = .ok (.getfield 202, 3) := by decide +kernel
theorem dX5_write_41 : decode cX5_write 41 = .ok (.iload_n 1, 1) := by decide +kernel
theorem dX5_write_42 : decode cX5_write 42 = .ok (.iaload, 1) := by decide +kernel
theorem dX5_write_43 : decode cX5_write 43 = .ok (.iconst 1, 1) := by decide +kernel
theorem dX5_write_44 : decode cX5_write 44 = .ok (.isub, 1) := by decide +kernel
theorem dX5_write_45 : decode cX5_write 45 = .ok (.invokestatic 75, 3) := by decide +kernel
theorem dX5_write_48 : decode cX5_write 48 = .ok (.ifCond .ne 10, 3) := by decide +kernel
theorem dX5_write_51 : decode cX5_write 51 = .ok (.aload_n 0, 1) := by decide +kernel
theorem dX5_write_52 : decode cX5_write 52 = .ok (.iconst 0, 1) := by decide +kernel
theorem dX5_write_53 : decode cX5_write 53 = .ok (.invokevirtual 63, 3) := by decide +kernel
theorem dX5_write_56 : decode cX5_write 56 = .ok (.i2l, 1) := by decide +kernel
theorem dX5_write_57 : decode cX5_write 57 = .ok (.lreturn, 1) := by decide +kernel
theorem dX5_write_58 : decode cX5_write 58 = .ok (.aload_n 0, 1) := by decide +kernel
theorem dX5_write_59 : decode cX5_write 59 = .ok (.getfield 45, 3) := by decide +kernel
theorem dX5_write_62 : decode cX5_write 62 = .ok (.getfield 208, 3) := by decide +kernel
theorem dX5_write_65 : decode cX5_write 65 = .ok (.iload_n 1, 1) := by decide +kernel
theorem dX5_write_66 : decode cX5_write 66 = .ok (.aaload, 1) := by decide +kernel
theorem dX5_write_67 : decode cX5_write 67 = .ok (.iload_n 2, 1) := by decide +kernel
theorem dX5_write_68 : decode cX5_write 68 = .ok (.laload, 1) := by decide +kernel
theorem dX5_write_69 : decode cX5_write 69 = .ok (.lstore 5, 2) := by decide +kernel
theorem dX5_write_71 : decode cX5_write 71 = .ok (.aload_n 0, 1) := by decide +kernel
theorem dX5_write_72 : decode cX5_write 72 = .ok (.getfield 45, 3) := by decide +kernel
theorem dX5_write_75 : decode cX5_write 75 = .ok (.iload_n 1, 1) := by decide +kernel
theorem dX5_write_76 : decode cX5_write 76 = .ok (.iload_n 2, 1) := by decide +kernel
theorem dX5_write_77 : decode cX5_write 77 = .ok (.lload_n 3, 1) := by decide +kernel
theorem dX5_write_78 : decode cX5_write 78 = .ok (.invokevirtual 212, 3) := by decide +kernel
theorem dX5_write_81 : decode cX5_write 81 = .ok (.lload 5, 2) := by decide +kernel
theorem dX5_write_83 : decode cX5_write 83 = .ok (.lreturn, 1) := by decide +kernel
theorem dX5_copy_0 : decode cX5_copy 0 = .ok (.iload_n 1, 1) := by decide +kernel
theorem dX5_copy_1 : decode cX5_copy 1 = .ok (.invokestatic 193, 3) := by decide +kernel
theorem dX5_copy_4 : decode cX5_copy 4 = .ok (.ifCond .eq 10, 3) := by decide +kernel
theorem dX5_copy_7 : decode cX5_copy 7 = .ok (.iload_n 3, 1) := by decide +kernel
theorem dX5_copy_8 : decode cX5_copy 8 = .ok (.invokestatic 193, 3) := by decide +kernel
theorem dX5_copy_11 : decode cX5_copy 11 = .ok (.ifCond .ne 9, 3) := by decide +kernel
theorem dX5_copy_14 : decode cX5_copy 14 = .ok (.aload_n 0, 1) := by decide +kernel
theorem dX5_copy_15 : decode cX5_copy 15 = .ok (.iconst 0, 1) := by decide +kernel
theorem dX5_copy_16 : decode cX5_copy 16 = .ok (.invokevirtual 63, 3) := by decide +kernel
theorem dX5_copy_19 : decode cX5_copy 19 = .ok (.ireturn, 1) := by decide +kernel
theorem dX5_copy_20 : decode cX5_copy 20 = .ok (.aload_n 0, 1) := by decide +kernel
theorem dX5_copy_21 : decode cX5_copy 21 = .ok (.getfield 45, 3) := by decide +kernel
theorem dX5_copy_24 : decode cX5_copy 24 = .ok (.iload_n 1, 1) := by decide +kernel
theorem dX5_copy_25 : decode cX5_copy 25 = .ok (.invokevirtual 205, 3) := by decide +kernel
theorem dX5_copy_28 : decode cX5_copy 28 = .ok (.ifCond .ne 14, 3) := by decide +kernel
theorem dX5_copy_31 : decode cX5_copy 31 = .ok (.aload_n 0, 1) := by decide +kernel
theorem dX5_copy_32 : decode cX5_copy 32 = .ok (.getfield 45, 3) := by decide +kernel
theorem dX5_copy_35 : decode cX5_copy 35 = .ok (.iload_n 3, 1) := by decide +kernel
theorem dX5_copy_36 : decode cX5_copy 36 = .ok (.invokevirtual 205, 3) := by decide +kernel
theorem dX5_copy_39 : decode cX5_copy 39 = .ok (.ifCond .eq 9, 3) := by decide +kernel
theorem dX5_copy_42 : decode cX5_copy 42 = .ok (.aload_n 0, 1) := by decide +kernel
theorem dX5_copy_43 : decode cX5_copy 43 = .ok (.iconst 5, 1) := by decide +kernel
theorem dX5_copy_44 : decode cX5_copy 44 = .ok (.invokevirtual 63, 3) := by decide +kernel
theorem dX5_copy_47 : decode cX5_copy 47 = .ok (.ireturn, 1) := by decide +kernel
theorem dX5_copy_48 : decode cX5_copy 48 = .ok (.aload_n 0, 1) := by decide +kernel
theorem dX5_copy_49 : decode cX5_copy 49 = .ok (.getfield 45, 3) := by decide +kernel
theorem dX5_copy_52 : decode cX5_copy 52 = .ok (.getfield 216, 3) := by decide +kernel
theorem dX5_copy_55 : decode cX5_copy 55 = .ok (.iload_n 1, 1) := by decide +kernel
theorem dX5_copy_56 : decode cX5_copy 56 = .ok (.iaload, 1) := by decide +kernel
theorem dX5_copy_57 : decode cX5_copy 57 = .ok (.aload_n 0, 1) := by decide +kernel
theorem dX5_copy_58 : decode cX5_copy 58 = .ok (.getfield 45, 3) := by decide +kernel
theorem dX5_copy_61 : decode cX5_copy 61 = .ok (.getfield 216, 3) := by decide +kernel
theorem dX5_copy_64 : decode cX5_copy 64 = .ok (.iload_n 3, 1) := by decide +kernel
theorem dX5_copy_65 : decode cX5_copy 65 = .ok (.iaload, 1) := by decide +kernel
theorem dX5_copy_66 : decode cX5_copy 66 = .ok (.if_icmp .eq 9, 3) := by decide +kernel
theorem dX5_copy_69 : decode cX5_copy 69 = .ok (.aload_n 0, 1) := by decide +kernel
theorem dX5_copy_70 : decode cX5_copy 70 = .ok (.iconst 2, 1) := by decide +kernel
theorem dX5_copy_71 : decode cX5_copy 71 = .ok (.invokevirtual 63, 3) := by decide +kernel
theorem dX5_copy_74 : decode cX5_copy 74 = .ok (.ireturn, 1) := by decide +kernel
theorem dX5_copy_75 : decode cX5_copy 75 = .ok (.aload_n 0, 1) := by decide +kernel
theorem dX5_copy_76 : decode cX5_copy 76 = .ok (.getfield 45, 3) := by decide +kernel
theorem dX5_copy_79 : decode cX5_copy 79 = .ok (.iload_n 1, 1) := by decide +kernel
theorem dX5_copy_80 : decode cX5_copy 80 = .ok (.iload_n 2, 1) := by decide +kernel
theorem dX5_copy_81 : decode cX5_copy 81 = .ok (.iload 5, 2) := by decide +kernel
theorem dX5_copy_83 : decode cX5_copy 83 = .ok (.invokevirtual 219, 3) := by decide +kernel
theorem dX5_copy_86 : decode cX5_copy 86 = .ok (.ifCond .eq 18, 3) := by decide +kernel
theorem dX5_copy_89 : decode cX5_copy 89 = .ok (.aload_n 0, 1) := by decide +kernel
theorem dX5_copy_90 : decode cX5_copy 90 = .ok (.getfield 45, 3) := by decide +kernel
theorem dX5_copy_93 : decode cX5_copy 93 = .ok (.iload_n 3, 1) := by decide +kernel
theorem dX5_copy_94 : decode cX5_copy 94 = .ok (.iload 4, 2) := by decide +kernel
theorem dX5_copy_96 : decode cX5_copy 96 = .ok (.iload 5, 2) := by decide +kernel
theorem dX5_copy_98 : decode cX5_copy 98 = .ok (.invokevirtual 219, 3) := by decide +kernel
theorem dX5_copy_101 : decode cX5_copy 101 = .ok (.ifCond .ne 9, 3) := by decide +kernel
theorem dX5_copy_104 : decode cX5_copy 104 = .ok (.aload_n 0, 1) := by decide +kernel
theorem dX5_copy_105 : decode cX5_copy 105 = .ok (.iconst 0, 1) := by decide +kernel
theorem dX5_copy_106 : decode cX5_copy 106 = .ok (.invokevirtual 63, 3) := by decide +kernel
theorem dX5_copy_109 : decode cX5_copy 109 = .ok (.ireturn, 1) := by decide +kernel
theorem dX5_copy_110 : decode cX5_copy 110 = .ok (.aload_n 0, 1) := by decide +kernel
theorem dX5_copy_111 : decode cX5_copy 111 = .ok (.getfield 45, 3) := by decide +kernel
theorem dX5_copy_114 : decode cX5_copy 114 = .ok (.getfield 208, 3) := by decide +kernel
theorem dX5_copy_117 : decode cX5_copy 117 = .ok (.iload_n 1, 1) := by decide +kernel
theorem dX5_copy_118 : decode cX5_copy 118 = .ok (.aaload, 1) := by decide +kernel
theorem dX5_copy_119 : decode cX5_copy 119 = .ok (.iload_n 2, 1) := by decide +kernel
theorem dX5_copy_120 : decode cX5_copy 120 = .ok (.aload_n 0, 1) := by decide +kernel
theorem dX5_copy_121 : decode cX5_copy 121 = .ok (.getfield 45, 3) := by decide +kernel
theorem dX5_copy_124 : decode cX5_copy 124 = .ok (.getfield 208, 3) := by decide +kernel
theorem dX5_copy_127 : decode cX5_copy 127 = .ok (.iload_n 3, 1) := by decide +kernel
theorem dX5_copy_128 : decode cX5_copy 128 = .ok (.aaload, 1) := by decide +kernel
theorem dX5_copy_129 : decode cX5_copy 129 = .ok (.iload 4, 2) := by decide +kernel
theorem dX5_copy_131 : decode cX5_copy 131 = .ok (.iload 5, 2) := by decide +kernel
theorem dX5_copy_133 : decode cX5_copy 133 = .ok (.invokestatic 222, 3) := by decide +kernel
theorem dX5_copy_136 : decode cX5_copy 136 = .ok (.iload 5, 2) := by decide +kernel
theorem dX5_copy_138 : decode cX5_copy 138 = .ok (.ireturn, 1) := by decide +kernel
theorem dX5_lays_0 : decode cX5_lays 0 = .ok (.iload_n 1, 1) := by decide +kernel
theorem dX5_lays_1 : decode cX5_lays 1 = .ok (.invokestatic 193, 3) := by decide +kernel
theorem dX5_lays_4 : decode cX5_lays 4 = .ok (.ifCond .ne 9, 3) := by decide +kernel
theorem dX5_lays_7 : decode cX5_lays 7 = .ok (.aload_n 0, 1) := by decide +kernel
theorem dX5_lays_8 : decode cX5_lays 8 = .ok (.iconst 0, 1) := by decide +kernel
theorem dX5_lays_9 : decode cX5_lays 9 = .ok (.invokevirtual 63, 3) := by decide +kernel
theorem dX5_lays_12 : decode cX5_lays 12 = .ok (.ireturn, 1) := by decide +kernel
theorem dX5_lays_13 : decode cX5_lays 13 = .ok (.aload_n 0, 1) := by decide +kernel
theorem dX5_lays_14 : decode cX5_lays 14 = .ok (.getfield 45, 3) := by decide +kernel
theorem dX5_lays_17 : decode cX5_lays 17 = .ok (.iload_n 1, 1) := by decide +kernel
theorem dX5_lays_18 : decode cX5_lays 18 = .ok (.invokevirtual 205, 3) := by decide +kernel
theorem dX5_lays_21 : decode cX5_lays 21 = .ok (.ifCond .eq 9, 3) := by decide +kernel
theorem dX5_lays_24 : decode cX5_lays 24 = .ok (.aload_n 0, 1) := by decide +kernel
theorem dX5_lays_25 : decode cX5_lays 25 = .ok (.iconst 5, 1) := by decide +kernel
theorem dX5_lays_26 : decode cX5_lays 26 = .ok (.invokevirtual 63, 3) := by decide +kernel
theorem dX5_lays_29 : decode cX5_lays 29 = .ok (.ireturn, 1) := by decide +kernel
theorem dX5_lays_30 : decode cX5_lays 30 = .ok (.iconst 0, 1) := by decide +kernel
theorem dX5_lays_31 : decode cX5_lays 31 = .ok (.istore_n 2, 1) := by decide +kernel
theorem dX5_lays_32 : decode cX5_lays 32 = .ok (.aload_n 0, 1) := by decide +kernel
theorem dX5_lays_33 : decode cX5_lays 33 = .ok (.getfield 45, 3) := by decide +kernel
theorem dX5_lays_36 : decode cX5_lays 36 = .ok (.getfield 202, 3) := by decide +kernel
theorem dX5_lays_39 : decode cX5_lays 39 = .ok (.iload_n 1, 1) := by decide +kernel
theorem dX5_lays_40 : decode cX5_lays 40 = .ok (.iaload, 1) := by decide +kernel
theorem dX5_lays_41 : decode cX5_lays 41 = .ok (.aload_n 0, 1) := by decide +kernel
theorem dX5_lays_42 : decode cX5_lays 42 = .ok (.getfield 10, 3) := by decide +kernel
theorem dX5_lays_45 : decode cX5_lays 45 = .ok (.getfield 175, 3) := by decide +kernel
theorem dX5_lays_48 : decode cX5_lays 48 = .ok (.invokestatic 228, 3) := by decide +kernel
theorem dX5_lays_51 : decode cX5_lays 51 = .ok (.istore_n 3, 1) := by decide +kernel
theorem dX5_lays_52 : decode cX5_lays 52 = .ok (.iconst 0, 1) := by decide +kernel
theorem dX5_lays_53 : decode cX5_lays 53 = .ok (.istore 4, 2) := by decide +kernel
theorem dX5_lays_55 : decode cX5_lays 55 = .ok (.iload 4, 2) := by decide +kernel
theorem dX5_lays_57 : decode cX5_lays 57 = .ok (.iload_n 3, 1) := by decide +kernel
theorem dX5_lays_58 : decode cX5_lays 58 = .ok (.if_icmp .ge 55, 3) := by decide +kernel
theorem dX5_lays_61 : decode cX5_lays 61 = .ok (.aload_n 0, 1) := by decide +kernel
theorem dX5_lays_62 : decode cX5_lays 62 = .ok (.getfield 45, 3) := by decide +kernel
theorem dX5_lays_65 : decode cX5_lays 65 = .ok (.getfield 208, 3) := by decide +kernel
theorem dX5_lays_68 : decode cX5_lays 68 = .ok (.iload_n 1, 1) := by decide +kernel
theorem dX5_lays_69 : decode cX5_lays 69 = .ok (.aaload, 1) := by decide +kernel
theorem dX5_lays_70 : decode cX5_lays 70 = .ok (.iload 4, 2) := by decide +kernel
theorem dX5_lays_72 : decode cX5_lays 72 = .ok (.laload, 1) := by decide +kernel
theorem dX5_lays_73 : decode cX5_lays 73 = .ok (.lstore 5, 2) := by decide +kernel
theorem dX5_lays_75 : decode cX5_lays 75 = .ok (.lload 5, 2) := by decide +kernel
theorem dX5_lays_77 : decode cX5_lays 77 = .ok (.lconst 0, 1) := by decide +kernel
theorem dX5_lays_78 : decode cX5_lays 78 = .ok (.lcmp, 1) := by decide +kernel
theorem dX5_lays_79 : decode cX5_lays 79 = .ok (.ifCond .lt 28, 3) := by decide +kernel
theorem dX5_lays_82 : decode cX5_lays 82 = .ok (.lload 5, 2) := by decide +kernel
theorem dX5_lays_84 : decode cX5_lays 84 = .ok (.ldc2_w 233, 3) := by decide +kernel
theorem dX5_lays_87 : decode cX5_lays 87 = .ok (.lcmp, 1) := by decide +kernel
theorem dX5_lays_88 : decode cX5_lays 88 = .ok (.ifCond .gt 19, 3) := by decide +kernel
theorem dX5_lays_91 : decode cX5_lays 91 = .ok (.aload_n 0, 1) := by decide +kernel
theorem dX5_lays_92 : decode cX5_lays 92 = .ok (.getfield 10, 3) := by decide +kernel
theorem dX5_lays_95 : decode cX5_lays 95 = .ok (.getfield 127, 3) := by decide +kernel
theorem dX5_lays_98 : decode cX5_lays 98 = .ok (.iload 4, 2) := by decide +kernel
theorem dX5_lays_100 : decode cX5_lays 100 = .ok (.lload 5, 2) := by decide +kernel
theorem dX5_lays_102 : decode cX5_lays 102 = .ok (.l2i, 1) := by decide +kernel
theorem dX5_lays_103 : decode cX5_lays 103 = .ok (.iastore, 1) := by decide +kernel
theorem dX5_lays_104 : decode cX5_lays 104 = .ok (.iinc 2 1, 3) := by decide +kernel
theorem dX5_lays_107 : decode cX5_lays 107 = .ok (.iinc 4 1, 3) := by decide +kernel
theorem dX5_lays_110 : decode cX5_lays 110 = .ok (.goto (-55), 3) := by decide +kernel
theorem dX5_lays_113 : decode cX5_lays 113 = .ok (.iload_n 2, 1) := by decide +kernel
theorem dX5_lays_114 : decode cX5_lays 114 = .ok (.ireturn, 1) := by decide +kernel
theorem dX5_book_0 : decode cX5_book 0 = .ok (.iload_n 1, 1) := by decide +kernel
theorem dX5_book_1 : decode cX5_book 1 = .ok (.invokestatic 193, 3) := by decide +kernel
theorem dX5_book_4 : decode cX5_book 4 = .ok (.ifCond .ne 9, 3) := by decide +kernel
theorem dX5_book_7 : decode cX5_book 7 = .ok (.aload_n 0, 1) := by decide +kernel
theorem dX5_book_8 : decode cX5_book 8 = .ok (.iconst 0, 1) := by decide +kernel
theorem dX5_book_9 : decode cX5_book 9 = .ok (.invokevirtual 63, 3) := by decide +kernel
theorem dX5_book_12 : decode cX5_book 12 = .ok (.ireturn, 1) := by decide +kernel
theorem dX5_book_13 : decode cX5_book 13 = .ok (.aload_n 0, 1) := by decide +kernel
theorem dX5_book_14 : decode cX5_book 14 = .ok (.getfield 45, 3) := by decide +kernel
theorem dX5_book_17 : decode cX5_book 17 = .ok (.iload_n 1, 1) := by decide +kernel
theorem dX5_book_18 : decode cX5_book 18 = .ok (.invokevirtual 205, 3) := by decide +kernel
theorem dX5_book_21 : decode cX5_book 21 = .ok (.ifCond .eq 9, 3) := by decide +kernel
theorem dX5_book_24 : decode cX5_book 24 = .ok (.aload_n 0, 1) := by decide +kernel
theorem dX5_book_25 : decode cX5_book 25 = .ok (.iconst 5, 1) := by decide +kernel
theorem dX5_book_26 : decode cX5_book 26 = .ok (.invokevirtual 63, 3) := by decide +kernel
theorem dX5_book_29 : decode cX5_book 29 = .ok (.ireturn, 1) := by decide +kernel
theorem dX5_book_30 : decode cX5_book 30 = .ok (.aload_n 0, 1) := by decide +kernel
theorem dX5_book_31 : decode cX5_book 31 = .ok (.iload_n 2, 1) := by decide +kernel
theorem dX5_book_32 : decode cX5_book 32 = .ok (.invokevirtual 118, 3) := by decide +kernel
theorem dX5_book_35 : decode cX5_book 35 = .ok (.ifCond .ne 9, 3) := by decide +kernel
theorem dX5_book_38 : decode cX5_book 38 = .ok (.aload_n 0, 1) := by decide +kernel
theorem dX5_book_39 : decode cX5_book 39 = .ok (.iconst 0, 1) := by decide +kernel
theorem dX5_book_40 : decode cX5_book 40 = .ok (.invokevirtual 63, 3) := by decide +kernel
theorem dX5_book_43 : decode cX5_book 43 = .ok (.ireturn, 1) := by decide +kernel
theorem dX5_book_44 : decode cX5_book 44 = .ok (.aload_n 0, 1) := by decide +kernel
theorem dX5_book_45 : decode cX5_book 45 = .ok (.getfield 16, 3) := by decide +kernel
theorem dX5_book_48 : decode cX5_book 48 = .ok (.aload_n 0, 1) := by decide +kernel
theorem dX5_book_49 : decode cX5_book 49 = .ok (.getfield 10, 3) := by decide +kernel
theorem dX5_book_52 : decode cX5_book 52 = .ok (.invokevirtual 163, 3) := by decide +kernel
theorem dX5_book_55 : decode cX5_book 55 = .ok (.iconst 0, 1) := by decide +kernel
theorem dX5_book_56 : decode cX5_book 56 = .ok (.istore_n 3, 1) := by decide +kernel
theorem dX5_book_57 : decode cX5_book 57 = .ok (.iload_n 3, 1) := by decide +kernel
theorem dX5_book_58 : decode cX5_book 58 = .ok (.aload_n 0, 1) := by decide +kernel
theorem dX5_book_59 : decode cX5_book 59 = .ok (.getfield 45, 3) := by decide +kernel
theorem dX5_book_62 : decode cX5_book 62 = .ok (.getfield 202, 3) := by decide +kernel
theorem dX5_book_65 : decode cX5_book 65 = .ok (.iload_n 1, 1) := by decide +kernel
theorem dX5_book_66 : decode cX5_book 66 = .ok (.iaload, 1) := by decide +kernel
theorem dX5_book_67 : decode cX5_book 67 = .ok (.if_icmp .ge 35, 3) := by decide +kernel
theorem dX5_book_70 : decode cX5_book 70 = .ok (.aload_n 0, 1) := by decide +kernel
theorem dX5_book_71 : decode cX5_book 71 = .ok (.getfield 45, 3) := by decide +kernel
theorem dX5_book_74 : decode cX5_book 74 = .ok (.iload_n 1, 1) := by decide +kernel
theorem dX5_book_75 : decode cX5_book 75 = .ok (.iload_n 3, 1) := by decide +kernel
theorem dX5_book_76 : decode cX5_book 76 = .ok (.aload_n 0, 1) := by decide +kernel
theorem dX5_book_77 : decode cX5_book 77 = .ok (.getfield 16, 3) := by decide +kernel
theorem dX5_book_80 : decode cX5_book 80 = .ok (.getfield 127, 3) := by decide +kernel
theorem dX5_book_83 : decode cX5_book 83 = .ok (.iload_n 2, 1) := by decide +kernel
theorem dX5_book_84 : decode cX5_book 84 = .ok (.iaload, 1) := by decide +kernel
theorem dX5_book_85 : decode cX5_book 85 = .ok (.i2l, 1) := by decide +kernel
theorem dX5_book_86 : decode cX5_book 86 = .ok (.invokevirtual 212, 3) := by decide +kernel
theorem dX5_book_89 : decode cX5_book 89 = .ok (.aload_n 0, 1) := by decide +kernel
theorem dX5_book_90 : decode cX5_book 90 = .ok (.getfield 16, 3) := by decide +kernel
theorem dX5_book_93 : decode cX5_book 93 = .ok (.invokevirtual 167, 3) := by decide +kernel
theorem dX5_book_96 : decode cX5_book 96 = .ok (.iinc 3 1, 3) := by decide +kernel
theorem dX5_book_99 : decode cX5_book 99 = .ok (.goto (-42), 3) := by decide +kernel
theorem dX5_book_102 : decode cX5_book 102 = .ok (.aload_n 0, 1) := by decide +kernel
theorem dX5_book_103 : decode cX5_book 103 = .ok (.getfield 45, 3) := by decide +kernel
theorem dX5_book_106 : decode cX5_book 106 = .ok (.getfield 202, 3) := by decide +kernel
theorem dX5_book_109 : decode cX5_book 109 = .ok (.iload_n 1, 1) := by decide +kernel
theorem dX5_book_110 : decode cX5_book 110 = .ok (.iaload, 1) := by decide +kernel
theorem dX5_book_111 : decode cX5_book 111 = .ok (.ireturn, 1) := by decide +kernel
theorem dX5_read_0 : decode cX5_read 0 = .ok (.iload_n 1, 1) := by decide +kernel
theorem dX5_read_1 : decode cX5_read 1 = .ok (.invokestatic 193, 3) := by decide +kernel
theorem dX5_read_4 : decode cX5_read 4 = .ok (.ifCond .ne 9, 3) := by decide +kernel
theorem dX5_read_7 : decode cX5_read 7 = .ok (.aload_n 0, 1) := by decide +kernel
theorem dX5_read_8 : decode cX5_read 8 = .ok (.iconst 0, 1) := by decide +kernel
theorem dX5_read_9 : decode cX5_read 9 = .ok (.invokevirtual 63, 3) := by decide +kernel
theorem dX5_read_12 : decode cX5_read 12 = .ok (.ireturn, 1) := by decide +kernel
theorem dX5_read_13 : decode cX5_read 13 = .ok (.aload_n 0, 1) := by decide +kernel
theorem dX5_read_14 : decode cX5_read 14 = .ok (.getfield 45, 3) := by decide +kernel
theorem dX5_read_17 : decode cX5_read 17 = .ok (.iload_n 1, 1) := by decide +kernel
theorem dX5_read_18 : decode cX5_read 18 = .ok (.invokevirtual 205, 3) := by decide +kernel
theorem dX5_read_21 : decode cX5_read 21 = .ok (.ifCond .eq 9, 3) := by decide +kernel
theorem dX5_read_24 : decode cX5_read 24 = .ok (.aload_n 0, 1) := by decide +kernel
theorem dX5_read_25 : decode cX5_read 25 = .ok (.iconst 5, 1) := by decide +kernel
theorem dX5_read_26 : decode cX5_read 26 = .ok (.invokevirtual 63, 3) := by decide +kernel
theorem dX5_read_29 : decode cX5_read 29 = .ok (.ireturn, 1) := by decide +kernel
theorem dX5_read_30 : decode cX5_read 30 = .ok (.aload_n 0, 1) := by decide +kernel
theorem dX5_read_31 : decode cX5_read 31 = .ok (.iload_n 2, 1) := by decide +kernel
theorem dX5_read_32 : decode cX5_read 32 = .ok (.invokevirtual 118, 3) := by decide +kernel
theorem dX5_read_35 : decode cX5_read 35 = .ok (.ifCond .eq 16, 3) := by decide +kernel
theorem dX5_read_38 : decode cX5_read 38 = .ok (.aload_n 0, 1) := by decide +kernel
theorem dX5_read_39 : decode cX5_read 39 = .ok (.iload_n 3, 1) := by decide +kernel
theorem dX5_read_40 : decode cX5_read 40 = .ok (.invokevirtual 118, 3) := by decide +kernel
theorem dX5_read_43 : decode cX5_read 43 = .ok (.ifCond .eq 8, 3) := by decide +kernel
theorem dX5_read_46 : decode cX5_read 46 = .ok (.iload_n 2, 1) := by decide +kernel
theorem dX5_read_47 : decode cX5_read 47 = .ok (.iload_n 3, 1) := by decide +kernel
theorem dX5_read_48 : decode cX5_read 48 = .ok (.if_icmp .ne 9, 3) := by decide +kernel
theorem dX5_read_51 : decode cX5_read 51 = .ok (.aload_n 0, 1) := by decide +kernel
theorem dX5_read_52 : decode cX5_read 52 = .ok (.iconst 0, 1) := by decide +kernel
theorem dX5_read_53 : decode cX5_read 53 = .ok (.invokevirtual 63, 3) := by decide +kernel
theorem dX5_read_56 : decode cX5_read 56 = .ok (.ireturn, 1) := by decide +kernel
theorem dX5_read_57 : decode cX5_read 57 = .ok (.iconst 0, 1) := by decide +kernel
theorem dX5_read_58 : decode cX5_read 58 = .ok (.istore 4, 2) := by decide +kernel
theorem dX5_read_60 : decode cX5_read 60 = .ok (.iconst 0, 1) := by decide +kernel
theorem dX5_read_61 : decode cX5_read 61 = .ok (.istore 5, 2) := by decide +kernel
theorem dX5_read_63 : decode cX5_read 63 = .ok (.iload 5, 2) := by decide +kernel
theorem dX5_read_65 : decode cX5_read 65 = .ok (.bipush 6, 2) := by decide +kernel
theorem dX5_read_67 : decode cX5_read 67 = .ok (.if_icmp .ge 70, 3) := by decide +kernel
theorem dX5_read_70 : decode cX5_read 70 = .ok (.iconst 0, 1) := by decide +kernel
theorem dX5_read_71 : decode cX5_read 71 = .ok (.istore 6, 2) := by decide +kernel
theorem dX5_read_73 : decode cX5_read 73 = .ok (.iload 6, 2) := by decide +kernel
theorem dX5_read_75 : decode cX5_read 75 = .ok (.bipush 6, 2) := by decide +kernel
theorem dX5_read_77 : decode cX5_read 77 = .ok (.if_icmp .ge 54, 3) := by decide +kernel
theorem dX5_read_80 : decode cX5_read 80 = .ok (.aload_n 0, 1) := by decide +kernel
theorem dX5_read_81 : decode cX5_read 81 = .ok (.getfield 16, 3) := by decide +kernel
theorem dX5_read_84 : decode cX5_read 84 = .ok (.aload_n 0, 1) := by decide +kernel
theorem dX5_read_85 : decode cX5_read 85 = .ok (.getfield 10, 3) := by decide +kernel
theorem dX5_read_88 : decode cX5_read 88 = .ok (.invokevirtual 163, 3) := by decide +kernel
theorem dX5_read_91 : decode cX5_read 91 = .ok (.aload_n 0, 1) := by decide +kernel
theorem dX5_read_92 : decode cX5_read 92 = .ok (.getfield 16, 3) := by decide +kernel
theorem dX5_read_95 : decode cX5_read 95 = .ok (.getfield 121, 3) := by decide +kernel
theorem dX5_read_98 : decode cX5_read 98 = .ok (.iload_n 2, 1) := by decide +kernel
theorem dX5_read_99 : decode cX5_read 99 = .ok (.iload 5, 2) := by decide +kernel
theorem dX5_read_101 : decode cX5_read 101 = .ok (.iastore, 1) := by decide +kernel
theorem dX5_read_102 : decode cX5_read 102 = .ok (.aload_n 0, 1) := by decide +kernel
theorem dX5_read_103 : decode cX5_read 103 = .ok (.getfield 16, 3) := by decide +kernel
theorem dX5_read_106 : decode cX5_read 106 = .ok (.getfield 121, 3) := by decide +kernel
theorem dX5_read_109 : decode cX5_read 109 = .ok (.iload_n 3, 1) := by decide +kernel
theorem dX5_read_110 : decode cX5_read 110 = .ok (.iload 6, 2) := by decide +kernel
theorem dX5_read_112 : decode cX5_read 112 = .ok (.iastore, 1) := by decide +kernel
theorem dX5_read_113 : decode cX5_read 113 = .ok (.aload_n 0, 1) := by decide +kernel
theorem dX5_read_114 : decode cX5_read 114 = .ok (.iload_n 1, 1) := by decide +kernel
theorem dX5_read_115 : decode cX5_read 115 = .ok (.iload_n 2, 1) := by decide +kernel
theorem dX5_read_116 : decode cX5_read 116 = .ok (.invokevirtual 235, 3) := by decide +kernel
theorem dX5_read_119 : decode cX5_read 119 = .ok (.ifCond .eq 6, 3) := by decide +kernel
theorem dX5_read_122 : decode cX5_read 122 = .ok (.iinc 4 1, 3) := by decide +kernel
theorem dX5_read_125 : decode cX5_read 125 = .ok (.iinc 6 1, 3) := by decide +kernel
theorem dX5_read_128 : decode cX5_read 128 = .ok (.goto (-55), 3) := by decide +kernel
theorem dX5_read_131 : decode cX5_read 131 = .ok (.iinc 5 1, 3) := by decide +kernel
theorem dX5_read_134 : decode cX5_read 134 = .ok (.goto (-71), 3) := by decide +kernel
theorem dX5_read_137 : decode cX5_read 137 = .ok (.iload 4, 2) := by decide +kernel
theorem dX5_read_139 : decode cX5_read 139 = .ok (.ireturn, 1) := by decide +kernel
theorem dX5_image_0 : decode cX5_image 0 = .ok (.aload_n 0, 1) := by decide +kernel
theorem dX5_image_1 : decode cX5_image 1 = .ok (.getfield 19, 3) := by decide +kernel
theorem dX5_image_4 : decode cX5_image 4 = .ok (.aload_n 0, 1) := by decide +kernel
theorem dX5_image_5 : decode cX5_image 5 = .ok (.getfield 10, 3) := by decide +kernel
theorem dX5_image_8 : decode cX5_image 8 = .ok (.invokevirtual 163, 3) := by decide +kernel
theorem dX5_image_11 : decode cX5_image 11 = .ok (.aload_n 0, 1) := by decide +kernel
theorem dX5_image_12 : decode cX5_image 12 = .ok (.iconst 1, 1) := by decide +kernel
theorem dX5_image_13 : decode cX5_image 13 = .ok (.putfield 22, 3) := by decide +kernel
theorem dX5_image_16 : decode cX5_image 16 = .ok (.iconst 1, 1) := by decide +kernel
theorem dX5_image_17 : decode cX5_image 17 = .ok (.ireturn, 1) := by decide +kernel
theorem dX5_undo_0 : decode cX5_undo 0 = .ok (.aload_n 0, 1) := by decide +kernel
theorem dX5_undo_1 : decode cX5_undo 1 = .ok (.getfield 22, 3) := by decide +kernel
theorem dX5_undo_4 : decode cX5_undo 4 = .ok (.ifCond .ne 9, 3) := by decide +kernel
theorem dX5_undo_7 : decode cX5_undo 7 = .ok (.aload_n 0, 1) := by decide +kernel
theorem dX5_undo_8 : decode cX5_undo 8 = .ok (.iconst 3, 1) := by decide +kernel
theorem dX5_undo_9 : decode cX5_undo 9 = .ok (.invokevirtual 63, 3) := by decide +kernel
theorem dX5_undo_12 : decode cX5_undo 12 = .ok (.ireturn, 1) := by decide +kernel
theorem dX5_undo_13 : decode cX5_undo 13 = .ok (.aload_n 0, 1) := by decide +kernel
theorem dX5_undo_14 : decode cX5_undo 14 = .ok (.getfield 10, 3) := by decide +kernel
theorem dX5_undo_17 : decode cX5_undo 17 = .ok (.aload_n 0, 1) := by decide +kernel
theorem dX5_undo_18 : decode cX5_undo 18 = .ok (.getfield 19, 3) := by decide +kernel
theorem dX5_undo_21 : decode cX5_undo 21 = .ok (.invokevirtual 163, 3) := by decide +kernel
theorem dX5_undo_24 : decode cX5_undo 24 = .ok (.aload_n 0, 1) := by decide +kernel
theorem dX5_undo_25 : decode cX5_undo 25 = .ok (.getfield 10, 3) := by decide +kernel
theorem dX5_undo_28 : decode cX5_undo 28 = .ok (.getfield 175, 3) := by decide +kernel
theorem dX5_undo_31 : decode cX5_undo 31 = .ok (.ireturn, 1) := by decide +kernel
theorem dX5_tear_0 : decode cX5_tear 0 = .ok (.aload_n 0, 1) := by decide +kernel
theorem dX5_tear_1 : decode cX5_tear 1 = .ok (.getfield 22, 3) := by decide +kernel
theorem dX5_tear_4 : decode cX5_tear 4 = .ok (.ifCond .eq 7, 3) := by decide +kernel
theorem dX5_tear_7 : decode cX5_tear 7 = .ok (.iconst 1, 1) := by decide +kernel
theorem dX5_tear_8 : decode cX5_tear 8 = .ok (.goto 4, 3) := by decide +kernel
theorem dX5_tear_11 : decode cX5_tear 11 = .ok (.iconst 0, 1) := by decide +kernel
theorem dX5_tear_12 : decode cX5_tear 12 = .ok (.istore_n 1, 1) := by decide +kernel
theorem dX5_tear_13 : decode cX5_tear 13 = .ok (.aload_n 0, 1) := by decide +kernel
theorem dX5_tear_14 : decode cX5_tear 14 = .ok (.iconst 0, 1) := by decide +kernel
theorem dX5_tear_15 : decode cX5_tear 15 = .ok (.putfield 22, 3) := by decide +kernel
theorem dX5_tear_18 : decode cX5_tear 18 = .ok (.iload_n 1, 1) := by decide +kernel
theorem dX5_tear_19 : decode cX5_tear 19 = .ok (.ireturn, 1) := by decide +kernel
theorem dX5_count_0 : decode cX5_count 0 = .ok (.iload_n 1, 1) := by decide +kernel
theorem dX5_count_1 : decode cX5_count 1 = .ok (.tableswitch 65 0 3 #[31, 39, 47, 56], 31) := by decide +kernel
theorem dX5_count_32 : decode cX5_count 32 = .ok (.aload_n 0, 1) := by decide +kernel
theorem dX5_count_33 : decode cX5_count 33 = .ok (.getfield 10, 3) := by decide +kernel
theorem dX5_count_36 : decode cX5_count 36 = .ok (.getfield 175, 3) := by decide +kernel
theorem dX5_count_39 : decode cX5_count 39 = .ok (.ireturn, 1) := by decide +kernel
theorem dX5_count_40 : decode cX5_count 40 = .ok (.aload_n 0, 1) := by decide +kernel
theorem dX5_count_41 : decode cX5_count 41 = .ok (.getfield 29, 3) := by decide +kernel
theorem dX5_count_44 : decode cX5_count 44 = .ok (.getfield 187, 3) := by decide +kernel
theorem dX5_count_47 : decode cX5_count 47 = .ok (.ireturn, 1) := by decide +kernel
theorem dX5_count_48 : decode cX5_count 48 = .ok (.aload_n 0, 1) := by decide +kernel
theorem dX5_count_49 : decode cX5_count 49 = .ok (.getfield 10, 3) := by decide +kernel
theorem dX5_count_52 : decode cX5_count 52 = .ok (.iconst 0, 1) := by decide +kernel
theorem dX5_count_53 : decode cX5_count 53 = .ok (.invokevirtual 105, 3) := by decide +kernel
theorem dX5_count_56 : decode cX5_count 56 = .ok (.ireturn, 1) := by decide +kernel
theorem dX5_count_57 : decode cX5_count 57 = .ok (.aload_n 0, 1) := by decide +kernel
theorem dX5_count_58 : decode cX5_count 58 = .ok (.getfield 10, 3) := by decide +kernel
theorem dX5_count_61 : decode cX5_count 61 = .ok (.iconst 1, 1) := by decide +kernel
theorem dX5_count_62 : decode cX5_count 62 = .ok (.invokevirtual 105, 3) := by decide +kernel
theorem dX5_count_65 : decode cX5_count 65 = .ok (.ireturn, 1) := by decide +kernel
theorem dX5_count_66 : decode cX5_count 66 = .ok (.aload_n 0, 1) := by decide +kernel
theorem dX5_count_67 : decode cX5_count 67 = .ok (.iconst 0, 1) := by decide +kernel
theorem dX5_count_68 : decode cX5_count 68 = .ok (.invokevirtual 63, 3) := by decide +kernel
theorem dX5_count_71 : decode cX5_count 71 = .ok (.ireturn, 1) := by decide +kernel
theorem dX5_status_0 : decode cX5_status 0 = .ok (.iload_n 1, 1) := by decide +kernel
theorem dX5_status_1 : decode cX5_status 1 = .ok (.iconst (-1), 1) := by decide +kernel
theorem dX5_status_2 : decode cX5_status 2 = .ok (.if_icmp .ne 30, 3) := by decide +kernel
theorem dX5_status_5 : decode cX5_status 5 = .ok (.iconst 0, 1) := by decide +kernel
theorem dX5_status_6 : decode cX5_status 6 = .ok (.istore_n 2, 1) := by decide +kernel
theorem dX5_status_7 : decode cX5_status 7 = .ok (.iconst 0, 1) := by decide +kernel
theorem dX5_status_8 : decode cX5_status 8 = .ok (.istore_n 3, 1) := by decide +kernel
theorem dX5_status_9 : decode cX5_status 9 = .ok (.iload_n 3, 1) := by decide +kernel
theorem dX5_status_10 : decode cX5_status 10 = .ok (.bipush 7, 2) := by decide +kernel
theorem dX5_status_12 : decode cX5_status 12 = .ok (.if_icmp .ge 18, 3) := by decide +kernel
theorem dX5_status_15 : decode cX5_status 15 = .ok (.iload_n 2, 1) := by decide +kernel
theorem dX5_status_16 : decode cX5_status 16 = .ok (.aload_n 0, 1) := by decide +kernel
theorem dX5_status_17 : decode cX5_status 17 = .ok (.getfield 49, 3) := by decide +kernel
theorem dX5_status_20 : decode cX5_status 20 = .ok (.iload_n 3, 1) := by decide +kernel
theorem dX5_status_21 : decode cX5_status 21 = .ok (.iaload, 1) := by decide +kernel
theorem dX5_status_22 : decode cX5_status 22 = .ok (.iadd, 1) := by decide +kernel
theorem dX5_status_23 : decode cX5_status 23 = .ok (.istore_n 2, 1) := by decide +kernel
theorem dX5_status_24 : decode cX5_status 24 = .ok (.iinc 3 1, 3) := by decide +kernel
theorem dX5_status_27 : decode cX5_status 27 = .ok (.goto (-18), 3) := by decide +kernel
theorem dX5_status_30 : decode cX5_status 30 = .ok (.iload_n 2, 1) := by decide +kernel
theorem dX5_status_31 : decode cX5_status 31 = .ok (.ireturn, 1) := by decide +kernel
theorem dX5_status_32 : decode cX5_status 32 = .ok (.iload_n 1, 1) := by decide +kernel
theorem dX5_status_33 : decode cX5_status 33 = .ok (.iconst 0, 1) := by decide +kernel
theorem dX5_status_34 : decode cX5_status 34 = .ok (.bipush 6, 2) := by decide +kernel
theorem dX5_status_36 : decode cX5_status 36 = .ok (.invokestatic 75, 3) := by decide +kernel
theorem dX5_status_39 : decode cX5_status 39 = .ok (.ifCond .ne 9, 3) := by decide +kernel
theorem dX5_status_42 : decode cX5_status 42 = .ok (.aload_n 0, 1) := by decide +kernel
theorem dX5_status_43 : decode cX5_status 43 = .ok (.iconst 0, 1) := by decide +kernel
theorem dX5_status_44 : decode cX5_status 44 = .ok (.invokevirtual 63, 3) := by decide +kernel
theorem dX5_status_47 : decode cX5_status 47 = .ok (.ireturn, 1) := by decide +kernel
theorem dX5_status_48 : decode cX5_status 48 = .ok (.aload_n 0, 1) := by decide +kernel
theorem dX5_status_49 : decode cX5_status 49 = .ok (.getfield 49, 3) := by decide +kernel
theorem dX5_status_52 : decode cX5_status 52 = .ok (.iload_n 1, 1) := by decide +kernel
theorem dX5_status_53 : decode cX5_status 53 = .ok (.iaload, 1) := by decide +kernel
theorem dX5_status_54 : decode cX5_status 54 = .ok (.ireturn, 1) := by decide +kernel
theorem dX5_finding_0 : decode cX5_finding 0 = .ok (.iload_n 1, 1) := by decide +kernel
theorem dX5_finding_1 : decode cX5_finding 1 = .ok (.iconst 0, 1) := by decide +kernel
theorem dX5_finding_2 : decode cX5_finding 2 = .ok (.bipush 6, 2) := by decide +kernel
theorem dX5_finding_4 : decode cX5_finding 4 = .ok (.invokestatic 75, 3) := by decide +kernel
theorem dX5_finding_7 : decode cX5_finding 7 = .ok (.ifCond .eq 13, 3) := by decide +kernel
theorem dX5_finding_10 : decode cX5_finding 10 = .ok (.aload_n 0, 1) := by decide +kernel
theorem dX5_finding_11 : decode cX5_finding 11 = .ok (.getfield 49, 3) := by decide +kernel
theorem dX5_finding_14 : decode cX5_finding 14 = .ok (.iload_n 1, 1) := by decide +kernel
theorem dX5_finding_15 : decode cX5_finding 15 = .ok (.dup2, 1) := by decide +kernel
theorem dX5_finding_16 : decode cX5_finding 16 = .ok (.iaload, 1) := by decide +kernel
theorem dX5_finding_17 : decode cX5_finding 17 = .ok (.iconst 1, 1) := by decide +kernel
theorem dX5_finding_18 : decode cX5_finding 18 = .ok (.iadd, 1) := by decide +kernel
theorem dX5_finding_19 : decode cX5_finding 19 = .ok (.iastore, 1) := by decide +kernel
theorem dX5_finding_20 : decode cX5_finding 20 = .ok (.ldc 238, 2) := by decide +kernel
theorem dX5_finding_22 : decode cX5_finding 22 = .ok (.iload_n 1, 1) := by decide +kernel
theorem dX5_finding_23 : decode cX5_finding 23 = .ok (.isub, 1) := by decide +kernel
theorem dX5_finding_24 : decode cX5_finding 24 = .ok (.ireturn, 1) := by decide +kernel
theorem dX5_change_0 : decode cX5_change 0 = .ok (.aload_n 0, 1) := by decide +kernel
theorem dX5_change_1 : decode cX5_change 1 = .ok (.iload_n 1, 1) := by decide +kernel
theorem dX5_change_2 : decode cX5_change 2 = .ok (.iaload, 1) := by decide +kernel
theorem dX5_change_3 : decode cX5_change 3 = .ok (.istore_n 3, 1) := by decide +kernel
theorem dX5_change_4 : decode cX5_change 4 = .ok (.aload_n 0, 1) := by decide +kernel
theorem dX5_change_5 : decode cX5_change 5 = .ok (.iload_n 1, 1) := by decide +kernel
theorem dX5_change_6 : decode cX5_change 6 = .ok (.iload_n 2, 1) := by decide +kernel
theorem dX5_change_7 : decode cX5_change 7 = .ok (.iastore, 1) := by decide +kernel
theorem dX5_change_8 : decode cX5_change 8 = .ok (.iload_n 3, 1) := by decide +kernel
theorem dX5_change_9 : decode cX5_change 9 = .ok (.ireturn, 1) := by decide +kernel
theorem dX5_tryDays_0 : decode cX5_tryDays 0 = .ok (.aload_n 0, 1) := by decide +kernel
theorem dX5_tryDays_1 : decode cX5_tryDays 1 = .ok (.getfield 16, 3) := by decide +kernel
theorem dX5_tryDays_4 : decode cX5_tryDays 4 = .ok (.aload_n 0, 1) := by decide +kernel
theorem dX5_tryDays_5 : decode cX5_tryDays 5 = .ok (.getfield 10, 3) := by decide +kernel
theorem dX5_tryDays_8 : decode cX5_tryDays 8 = .ok (.invokevirtual 163, 3) := by decide +kernel
theorem dX5_tryDays_11 : decode cX5_tryDays 11 = .ok (.aload_n 0, 1) := by decide +kernel
theorem dX5_tryDays_12 : decode cX5_tryDays 12 = .ok (.getfield 16, 3) := by decide +kernel
theorem dX5_tryDays_15 : decode cX5_tryDays 15 = .ok (.iload_n 1, 1) := by decide +kernel
theorem dX5_tryDays_16 : decode cX5_tryDays 16 = .ok (.invokevirtual 156, 3) := by decide +kernel
theorem dX5_tryDays_19 : decode cX5_tryDays 19 = .ok (.return_, 1) := by decide +kernel
theorem dX5_heldIfBribed_0 : decode cX5_heldIfBribed 0 = .ok (.aload_n 0, 1) := by decide +kernel
theorem dX5_heldIfBribed_1 : decode cX5_heldIfBribed 1 = .ok (.getfield 16, 3) := by decide +kernel
theorem dX5_heldIfBribed_4 : decode cX5_heldIfBribed 4 = .ok (.aload_n 0, 1) := by decide +kernel
theorem dX5_heldIfBribed_5 : decode cX5_heldIfBribed 5 = .ok (.getfield 10, 3) := by decide +kernel
theorem dX5_heldIfBribed_8 : decode cX5_heldIfBribed 8 = .ok (.invokevirtual 163, 3) := by decide +kernel
theorem dX5_heldIfBribed_11 : decode cX5_heldIfBribed 11 = .ok (.aload_n 0, 1) := by decide +kernel
theorem dX5_heldIfBribed_12 : decode cX5_heldIfBribed 12 = .ok (.getfield 16, 3) := by decide +kernel
theorem dX5_heldIfBribed_15 : decode cX5_heldIfBribed 15 = .ok (.iload_n 1, 1) := by decide +kernel
theorem dX5_heldIfBribed_16 : decode cX5_heldIfBribed 16 = .ok (.putfield 82, 3) := by decide +kernel
theorem dX5_heldIfBribed_19 : decode cX5_heldIfBribed 19 = .ok (.aload_n 0, 1) := by decide +kernel
theorem dX5_heldIfBribed_20 : decode cX5_heldIfBribed 20 = .ok (.getfield 16, 3) := by decide +kernel
theorem dX5_heldIfBribed_23 : decode cX5_heldIfBribed 23 = .ok (.iload_n 2, 1) := by decide +kernel
theorem dX5_heldIfBribed_24 : decode cX5_heldIfBribed 24 = .ok (.invokevirtual 156, 3) := by decide +kernel
theorem dX5_heldIfBribed_27 : decode cX5_heldIfBribed 27 = .ok (.aload_n 0, 1) := by decide +kernel
theorem dX5_heldIfBribed_28 : decode cX5_heldIfBribed 28 = .ok (.getfield 16, 3) := by decide +kernel
theorem dX5_heldIfBribed_31 : decode cX5_heldIfBribed 31 = .ok (.getfield 89, 3) := by decide +kernel
theorem dX5_heldIfBribed_34 : decode cX5_heldIfBribed 34 = .ok (.invokestatic 170, 3) := by decide +kernel
theorem dX5_heldIfBribed_37 : decode cX5_heldIfBribed 37 = .ok (.ireturn, 1) := by decide +kernel
theorem dX5_trialGoesAsBooked_0 : decode cX5_trialGoesAsBooked 0 = .ok (.iconst 0, 1) := by decide +kernel
theorem dX5_trialGoesAsBooked_1 : decode cX5_trialGoesAsBooked 1 = .ok (.istore_n 3, 1) := by decide +kernel
theorem dX5_trialGoesAsBooked_2 : decode cX5_trialGoesAsBooked 2 = .ok (.iload_n 3, 1) := by decide +kernel
theorem dX5_trialGoesAsBooked_3 : decode cX5_trialGoesAsBooked 3 = .ok (.aload_n 0, 1) := by decide +kernel
theorem dX5_trialGoesAsBooked_4 : decode cX5_trialGoesAsBooked 4 = .ok (.getfield 45, 3) := by decide +kernel
theorem dX5_trialGoesAsBooked_7 : decode cX5_trialGoesAsBooked 7 = .ok (.getfield 202, 3) := by decide +kernel
theorem dX5_trialGoesAsBooked_10 : decode cX5_trialGoesAsBooked 10 = .ok (.iload_n 1, 1) := by decide +kernel
theorem dX5_trialGoesAsBooked_11 : decode cX5_trialGoesAsBooked 11 = .ok (.iaload, 1) := by decide +kernel
theorem dX5_trialGoesAsBooked_12 : decode cX5_trialGoesAsBooked 12 = .ok (.if_icmp .ge 43, 3) := by decide +kernel
theorem dX5_trialGoesAsBooked_15 : decode cX5_trialGoesAsBooked 15 = .ok (.aload_n 0, 1) := by decide +kernel
theorem dX5_trialGoesAsBooked_16 : decode cX5_trialGoesAsBooked 16 = .ok (.getfield 45, 3) := by decide +kernel
theorem dX5_trialGoesAsBooked_19 : decode cX5_trialGoesAsBooked 19 = .ok (.getfield 208, 3) := by decide +kernel
theorem dX5_trialGoesAsBooked_22 : decode cX5_trialGoesAsBooked 22 = .ok (.iload_n 1, 1) := by decide +kernel
theorem dX5_trialGoesAsBooked_23 : decode cX5_trialGoesAsBooked 23 = .ok (.aaload, 1) := by decide +kernel
theorem dX5_trialGoesAsBooked_24 : decode cX5_trialGoesAsBooked 24 = .ok (.iload_n 3, 1) := by decide +kernel
theorem dX5_trialGoesAsBooked_25 : decode cX5_trialGoesAsBooked 25 = .ok (.laload, 1) := by decide +kernel
theorem dX5_trialGoesAsBooked_26 : decode cX5_trialGoesAsBooked 26 = .ok (.aload_n 0, 1) := by decide +kernel
theorem dX5_trialGoesAsBooked_27 : decode cX5_trialGoesAsBooked 27 = .ok (.getfield 16, 3) := by decide +kernel
theorem dX5_trialGoesAsBooked_30 : decode cX5_trialGoesAsBooked 30 = .ok (.getfield 127, 3) := by decide +kernel
theorem dX5_trialGoesAsBooked_33 : decode cX5_trialGoesAsBooked 33 = .ok (.iload_n 2, 1) := by decide +kernel
theorem dX5_trialGoesAsBooked_34 : decode cX5_trialGoesAsBooked 34 = .ok (.iaload, 1) := by decide +kernel
theorem dX5_trialGoesAsBooked_35 : decode cX5_trialGoesAsBooked 35 = .ok (.i2l, 1) := by decide +kernel
theorem dX5_trialGoesAsBooked_36 : decode cX5_trialGoesAsBooked 36 = .ok (.lcmp, 1) := by decide +kernel
theorem dX5_trialGoesAsBooked_37 : decode cX5_trialGoesAsBooked 37 = .ok (.ifCond .eq 5, 3) := by decide +kernel
theorem dX5_trialGoesAsBooked_40 : decode cX5_trialGoesAsBooked 40 = .ok (.iconst 0, 1) := by decide +kernel
theorem dX5_trialGoesAsBooked_41 : decode cX5_trialGoesAsBooked 41 = .ok (.ireturn, 1) := by decide +kernel
theorem dX5_trialGoesAsBooked_42 : decode cX5_trialGoesAsBooked 42 = .ok (.aload_n 0, 1) := by decide +kernel
theorem dX5_trialGoesAsBooked_43 : decode cX5_trialGoesAsBooked 43 = .ok (.getfield 16, 3) := by decide +kernel
theorem dX5_trialGoesAsBooked_46 : decode cX5_trialGoesAsBooked 46 = .ok (.invokevirtual 167, 3) := by decide +kernel
theorem dX5_trialGoesAsBooked_49 : decode cX5_trialGoesAsBooked 49 = .ok (.iinc 3 1, 3) := by decide +kernel
theorem dX5_trialGoesAsBooked_52 : decode cX5_trialGoesAsBooked 52 = .ok (.goto (-50), 3) := by decide +kernel
theorem dX5_trialGoesAsBooked_55 : decode cX5_trialGoesAsBooked 55 = .ok (.iconst 1, 1) := by decide +kernel
theorem dX5_trialGoesAsBooked_56 : decode cX5_trialGoesAsBooked 56 = .ok (.ireturn, 1) := by decide +kernel
theorem dX5_isPerson_0 : decode cX5_isPerson 0 = .ok (.iload_n 1, 1) := by decide +kernel
theorem dX5_isPerson_1 : decode cX5_isPerson 1 = .ok (.iconst 0, 1) := by decide +kernel
theorem dX5_isPerson_2 : decode cX5_isPerson 2 = .ok (.aload_n 0, 1) := by decide +kernel
theorem dX5_isPerson_3 : decode cX5_isPerson 3 = .ok (.getfield 10, 3) := by decide +kernel
theorem dX5_isPerson_6 : decode cX5_isPerson 6 = .ok (.getfield 175, 3) := by decide +kernel
theorem dX5_isPerson_9 : decode cX5_isPerson 9 = .ok (.iconst 1, 1) := by decide +kernel
theorem dX5_isPerson_10 : decode cX5_isPerson 10 = .ok (.isub, 1) := by decide +kernel
theorem dX5_isPerson_11 : decode cX5_isPerson 11 = .ok (.invokestatic 75, 3) := by decide +kernel
theorem dX5_isPerson_14 : decode cX5_isPerson 14 = .ok (.ireturn, 1) := by decide +kernel
theorem dX5_isQuestion_0 : decode cX5_isQuestion 0 = .ok (.iload_n 0, 1) := by decide +kernel
theorem dX5_isQuestion_1 : decode cX5_isQuestion 1 = .ok (.iconst 0, 1) := by decide +kernel
theorem dX5_isQuestion_2 : decode cX5_isQuestion 2 = .ok (.iconst 5, 1) := by decide +kernel
theorem dX5_isQuestion_3 : decode cX5_isQuestion 3 = .ok (.invokestatic 75, 3) := by decide +kernel
theorem dX5_isQuestion_6 : decode cX5_isQuestion 6 = .ok (.ireturn, 1) := by decide +kernel
theorem dX5_isSide_0 : decode cX5_isSide 0 = .ok (.iload_n 0, 1) := by decide +kernel
theorem dX5_isSide_1 : decode cX5_isSide 1 = .ok (.iconst 0, 1) := by decide +kernel
theorem dX5_isSide_2 : decode cX5_isSide 2 = .ok (.iconst 1, 1) := by decide +kernel
theorem dX5_isSide_3 : decode cX5_isSide 3 = .ok (.invokestatic 75, 3) := by decide +kernel
theorem dX5_isSide_6 : decode cX5_isSide 6 = .ok (.ireturn, 1) := by decide +kernel
theorem dX5_isKind_0 : decode cX5_isKind 0 = .ok (.iload_n 0, 1) := by decide +kernel
theorem dX5_isKind_1 : decode cX5_isKind 1 = .ok (.iconst 0, 1) := by decide +kernel
theorem dX5_isKind_2 : decode cX5_isKind 2 = .ok (.iconst 5, 1) := by decide +kernel
theorem dX5_isKind_3 : decode cX5_isKind 3 = .ok (.invokestatic 75, 3) := by decide +kernel
theorem dX5_isKind_6 : decode cX5_isKind 6 = .ok (.ireturn, 1) := by decide +kernel
theorem dX5_isSet_0 : decode cX5_isSet 0 = .ok (.iload_n 0, 1) := by decide +kernel
theorem dX5_isSet_1 : decode cX5_isSet 1 = .ok (.iconst 0, 1) := by decide +kernel
theorem dX5_isSet_2 : decode cX5_isSet 2 = .ok (.bipush 63, 2) := by decide +kernel
theorem dX5_isSet_4 : decode cX5_isSet 4 = .ok (.invokestatic 75, 3) := by decide +kernel
theorem dX5_isSet_7 : decode cX5_isSet 7 = .ok (.ireturn, 1) := by decide +kernel
theorem dX5_isPence_0 : decode cX5_isPence 0 = .ok (.iload_n 0, 1) := by decide +kernel
theorem dX5_isPence_1 : decode cX5_isPence 1 = .ok (.iconst 0, 1) := by decide +kernel
theorem dX5_isPence_2 : decode cX5_isPence 2 = .ok (.sipush 9999, 3) := by decide +kernel
theorem dX5_isPence_5 : decode cX5_isPence 5 = .ok (.invokestatic 75, 3) := by decide +kernel
theorem dX5_isPence_8 : decode cX5_isPence 8 = .ok (.ireturn, 1) := by decide +kernel
theorem dX5_isSheet_0 : decode cX5_isSheet 0 = .ok (.iload_n 0, 1) := by decide +kernel
theorem dX5_isSheet_1 : decode cX5_isSheet 1 = .ok (.iconst 0, 1) := by decide +kernel
theorem dX5_isSheet_2 : decode cX5_isSheet 2 = .ok (.iconst 3, 1) := by decide +kernel
theorem dX5_isSheet_3 : decode cX5_isSheet 3 = .ok (.invokestatic 75, 3) := by decide +kernel
theorem dX5_isSheet_6 : decode cX5_isSheet 6 = .ok (.ireturn, 1) := by decide +kernel
theorem dX5_isWithin_0 : decode cX5_isWithin 0 = .ok (.iload_n 0, 1) := by decide +kernel
theorem dX5_isWithin_1 : decode cX5_isWithin 1 = .ok (.iload_n 1, 1) := by decide +kernel
theorem dX5_isWithin_2 : decode cX5_isWithin 2 = .ok (.if_icmp .lt 12, 3) := by decide +kernel
theorem dX5_isWithin_5 : decode cX5_isWithin 5 = .ok (.iload_n 0, 1) := by decide +kernel
theorem dX5_isWithin_6 : decode cX5_isWithin 6 = .ok (.iload_n 2, 1) := by decide +kernel
theorem dX5_isWithin_7 : decode cX5_isWithin 7 = .ok (.if_icmp .gt 7, 3) := by decide +kernel
theorem dX5_isWithin_10 : decode cX5_isWithin 10 = .ok (.iconst 1, 1) := by decide +kernel
theorem dX5_isWithin_11 : decode cX5_isWithin 11 = .ok (.goto 4, 3) := by decide +kernel
theorem dX5_isWithin_14 : decode cX5_isWithin 14 = .ok (.iconst 0, 1) := by decide +kernel
theorem dX5_isWithin_15 : decode cX5_isWithin 15 = .ok (.ireturn, 1) := by decide +kernel
