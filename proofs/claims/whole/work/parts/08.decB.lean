theorem dX5_init_0 : decode cX5_init 0 = .ok (.aload_n 0, 1) := by decide +kernel
theorem dX5_init_1 : decode cX5_init 1 = .ok (.invokespecial 1, 3) := by decide +kernel
theorem dX5_init_4 : decode cX5_init 4 = .ok (.aload_n 0, 1) := by decide +kernel
theorem dX5_init_5 : decode cX5_init 5 = .ok (.new 7, 3) := by decide +kernel
theorem dX5_init_8 : decode cX5_init 8 = .ok (.dup, 1) := by decide +kernel
theorem dX5_init_9 : decode cX5_init 9 = .ok (.invokespecial 9, 3) := by decide +kernel
theorem dX5_init_12 : decode cX5_init 12 = .ok (.putfield 10, 3) := by decide +kernel
theorem dX5_init_15 : decode cX5_init 15 = .ok (.aload_n 0, 1) := by decide +kernel
theorem dX5_init_16 : decode cX5_init 16 = .ok (.new 7, 3) := by decide +kernel
theorem dX5_init_19 : decode cX5_init 19 = .ok (.dup, 1) := by decide +kernel
theorem dX5_init_20 : decode cX5_init 20 = .ok (.invokespecial 9, 3) := by decide +kernel
theorem dX5_init_23 : decode cX5_init 23 = .ok (.putfield 16, 3) := by decide +kernel
theorem dX5_init_26 : decode cX5_init 26 = .ok (.aload_n 0, 1) := by decide +kernel
theorem dX5_init_27 : decode cX5_init 27 = .ok (.new 7, 3) := by decide +kernel
theorem dX5_init_30 : decode cX5_init 30 = .ok (.dup, 1) := by decide +kernel
theorem dX5_init_31 : decode cX5_init 31 = .ok (.invokespecial 9, 3) := by decide +kernel
theorem dX5_init_34 : decode cX5_init 34 = .ok (.putfield 19, 3) := by decide +kernel
theorem dX5_init_37 : decode cX5_init 37 = .ok (.aload_n 0, 1) := by decide +kernel
theorem dX5_init_38 : decode cX5_init 38 = .ok (.iconst 0, 1) := by decide +kernel
theorem dX5_init_39 : decode cX5_init 39 = .ok (.putfield 22, 3) := by decide +kernel
theorem dX5_init_42 : decode cX5_init 42 = .ok (.aload_n 0, 1) := by decide +kernel
theorem dX5_init_43 : decode cX5_init 43 = .ok (.new 26, 3) := by decide +kernel
theorem dX5_init_46 : decode cX5_init 46 = .ok (.dup, 1) := by decide +kernel
theorem dX5_init_47 : decode cX5_init 47 = .ok (.invokespecial 28, 3) := by decide +kernel
theorem dX5_init_50 : decode cX5_init 50 = .ok (.putfield 29, 3) := by decide +kernel
theorem dX5_init_53 : decode cX5_init 53 = .ok (.aload_n 0, 1) := by decide +kernel
theorem dX5_init_54 : decode cX5_init 54 = .ok (.bipush 16, 2) := by decide +kernel
theorem dX5_init_56 : decode cX5_init 56 = .ok (.newarray .int, 2) := by decide +kernel
theorem dX5_init_58 : decode cX5_init 58 = .ok (.putfield 33, 3) := by decide +kernel
theorem dX5_init_61 : decode cX5_init 61 = .ok (.aload_n 0, 1) := by decide +kernel
theorem dX5_init_62 : decode cX5_init 62 = .ok (.iconst 0, 1) := by decide +kernel
theorem dX5_init_63 : decode cX5_init 63 = .ok (.putfield 37, 3) := by decide +kernel
theorem dX5_init_66 : decode cX5_init 66 = .ok (.aload_n 0, 1) := by decide +kernel
theorem dX5_init_67 : decode cX5_init 67 = .ok (.bipush 6, 2) := by decide +kernel
theorem dX5_init_69 : decode cX5_init 69 = .ok (.newarray .int, 2) := by decide +kernel
theorem dX5_init_71 : decode cX5_init 71 = .ok (.putfield 41, 3) := by decide +kernel
theorem dX5_init_74 : decode cX5_init 74 = .ok (.aload_n 0, 1) := by decide +kernel
theorem dX5_init_75 : decode cX5_init 75 = .ok (.new 44, 3) := by decide +kernel
theorem dX5_init_78 : decode cX5_init 78 = .ok (.dup, 1) := by decide +kernel
theorem dX5_init_79 : decode cX5_init 79 = .ok (.invokespecial 46, 3) := by decide +kernel
theorem dX5_init_82 : decode cX5_init 82 = .ok (.putfield 47, 3) := by decide +kernel
theorem dX5_init_85 : decode cX5_init 85 = .ok (.aload_n 0, 1) := by decide +kernel
theorem dX5_init_86 : decode cX5_init 86 = .ok (.new 51, 3) := by decide +kernel
theorem dX5_init_89 : decode cX5_init 89 = .ok (.dup, 1) := by decide +kernel
theorem dX5_init_90 : decode cX5_init 90 = .ok (.invokespecial 53, 3) := by decide +kernel
theorem dX5_init_93 : decode cX5_init 93 = .ok (.putfield 54, 3) := by decide +kernel
theorem dX5_init_96 : decode cX5_init 96 = .ok (.aload_n 0, 1) := by decide +kernel
theorem dX5_init_97 : decode cX5_init 97 = .ok (.new 58, 3) := by decide +kernel
theorem dX5_init_100 : decode cX5_init 100 = .ok (.dup, 1) := by decide +kernel
theorem dX5_init_101 : decode cX5_init 101 = .ok (.invokespecial 60, 3) := by decide +kernel
theorem dX5_init_104 : decode cX5_init 104 = .ok (.putfield 61, 3) := by decide +kernel
theorem dX5_init_107 : decode cX5_init 107 = .ok (.return_, 1) := by decide +kernel
theorem dX5_letter_0 : decode cX5_letter 0 = .ok (.iload_n 1, 1) := by decide +kernel
theorem dX5_letter_1 : decode cX5_letter 1 = .ok (.ifCond .ge 10, 3) := by decide +kernel
theorem dX5_letter_4 : decode cX5_letter 4 = .ok (.aload_n 0, 1) := by decide +kernel
theorem dX5_letter_5 : decode cX5_letter 5 = .ok (.bipush (-4), 2) := by decide +kernel
theorem dX5_letter_7 : decode cX5_letter 7 = .ok (.invokevirtual 65, 3) := by decide +kernel
theorem dX5_letter_10 : decode cX5_letter 10 = .ok (.ireturn, 1) := by decide +kernel
theorem dX5_letter_11 : decode cX5_letter 11 = .ok (.iload_n 1, 1) := by decide +kernel
theorem dX5_letter_12 : decode cX5_letter 12 = .ok (.sipush 255, 3) := by decide +kernel
theorem dX5_letter_15 : decode cX5_letter 15 = .ok (.if_icmp .gt 13, 3) := by decide +kernel
theorem dX5_letter_18 : decode cX5_letter 18 = .ok (.aload_n 0, 1) := by decide +kernel
theorem dX5_letter_19 : decode cX5_letter 19 = .ok (.getfield 29, 3) := by decide +kernel
theorem dX5_letter_22 : decode cX5_letter 22 = .ok (.invokevirtual 69, 3) := by decide +kernel
theorem dX5_letter_25 : decode cX5_letter 25 = .ok (.ifCond .eq 10, 3) := by decide +kernel
theorem dX5_letter_28 : decode cX5_letter 28 = .ok (.aload_n 0, 1) := by decide +kernel
theorem dX5_letter_29 : decode cX5_letter 29 = .ok (.bipush (-6), 2) := by decide +kernel
theorem dX5_letter_31 : decode cX5_letter 31 = .ok (.invokevirtual 65, 3) := by decide +kernel
theorem dX5_letter_34 : decode cX5_letter 34 = .ok (.ireturn, 1) := by decide +kernel
theorem dX5_letter_35 : decode cX5_letter 35 = .ok (.aload_n 0, 1) := by decide +kernel
theorem dX5_letter_36 : decode cX5_letter 36 = .ok (.getfield 29, 3) := by decide +kernel
theorem dX5_letter_39 : decode cX5_letter 39 = .ok (.iload_n 1, 1) := by decide +kernel
theorem dX5_letter_40 : decode cX5_letter 40 = .ok (.invokevirtual 73, 3) := by decide +kernel
theorem dX5_letter_43 : decode cX5_letter 43 = .ok (.aload_n 0, 1) := by decide +kernel
theorem dX5_letter_44 : decode cX5_letter 44 = .ok (.getfield 29, 3) := by decide +kernel
theorem dX5_letter_47 : decode cX5_letter 47 = .ok (.invokevirtual 77, 3) := by decide +kernel
theorem dX5_letter_50 : decode cX5_letter 50 = .ok (.ireturn, 1) := by decide +kernel
theorem dX5_sea_0 : decode cX5_sea 0 = .ok (.aload_n 0, 1) := by decide +kernel
theorem dX5_sea_1 : decode cX5_sea 1 = .ok (.getfield 29, 3) := by decide +kernel
theorem dX5_sea_4 : decode cX5_sea 4 = .ok (.invokevirtual 81, 3) := by decide +kernel
theorem dX5_sea_7 : decode cX5_sea 7 = .ok (.istore_n 1, 1) := by decide +kernel
theorem dX5_sea_8 : decode cX5_sea 8 = .ok (.iload_n 1, 1) := by decide +kernel
theorem dX5_sea_9 : decode cX5_sea 9 = .ok (.ifCond .ne 49, 3) := by decide +kernel
theorem dX5_sea_12 : decode cX5_sea 12 = .ok (.aload_n 0, 1) := by decide +kernel
theorem dX5_sea_13 : decode cX5_sea 13 = .ok (.getfield 16, 3) := by decide +kernel
theorem dX5_sea_16 : decode cX5_sea 16 = .ok (.aload_n 0, 1) := by decide +kernel
theorem dX5_sea_17 : decode cX5_sea 17 = .ok (.getfield 10, 3) := by decide +kernel
theorem dX5_sea_20 : decode cX5_sea 20 = .ok (.invokevirtual 84, 3) := by decide +kernel
theorem dX5_sea_23 : decode cX5_sea 23 = .ok (.aload_n 0, 1) := by decide +kernel
theorem dX5_sea_24 : decode cX5_sea 24 = .ok (.getfield 29, 3) := by decide +kernel
theorem dX5_sea_27 : decode cX5_sea 27 = .ok (.aload_n 0, 1) := by decide +kernel
theorem dX5_sea_28 : decode cX5_sea 28 = .ok (.getfield 16, 3) := by decide +kernel
theorem dX5_sea_31 : decode cX5_sea 31 = .ok (.aload_n 0, 1) := by decide +kernel
theorem dX5_sea_32 : decode cX5_sea 32 = .ok (.getfield 47, 3) := by decide +kernel
theorem dX5_sea_35 : decode cX5_sea 35 = .ok (.aload_n 0, 1) := by decide +kernel
theorem dX5_sea_36 : decode cX5_sea 36 = .ok (.getfield 54, 3) := by decide +kernel
theorem dX5_sea_39 : decode cX5_sea 39 = .ok (.invokevirtual 88, 3) := by decide +kernel
theorem dX5_sea_42 : decode cX5_sea 42 = .ok (.istore_n 1, 1) := by decide +kernel
theorem dX5_sea_43 : decode cX5_sea 43 = .ok (.iload_n 1, 1) := by decide +kernel
theorem dX5_sea_44 : decode cX5_sea 44 = .ok (.ifCond .le 14, 3) := by decide +kernel
theorem dX5_sea_47 : decode cX5_sea 47 = .ok (.aload_n 0, 1) := by decide +kernel
theorem dX5_sea_48 : decode cX5_sea 48 = .ok (.getfield 10, 3) := by decide +kernel
theorem dX5_sea_51 : decode cX5_sea 51 = .ok (.aload_n 0, 1) := by decide +kernel
theorem dX5_sea_52 : decode cX5_sea 52 = .ok (.getfield 16, 3) := by decide +kernel
theorem dX5_sea_55 : decode cX5_sea 55 = .ok (.invokevirtual 84, 3) := by decide +kernel
theorem dX5_sea_58 : decode cX5_sea 58 = .ok (.aload_n 0, 1) := by decide +kernel
theorem dX5_sea_59 : decode cX5_sea 59 = .ok (.getfield 29, 3) := by decide +kernel
theorem dX5_sea_62 : decode cX5_sea 62 = .ok (.invokevirtual 92, 3) := by decide +kernel
theorem dX5_sea_65 : decode cX5_sea 65 = .ok (.iload_n 1, 1) := by decide +kernel
theorem dX5_sea_66 : decode cX5_sea 66 = .ok (.ireturn, 1) := by decide +kernel
theorem dX5_square_0 : decode cX5_square 0 = .ok (.iload_n 1, 1) := by decide +kernel
theorem dX5_square_1 : decode cX5_square 1 = .ok (.invokestatic 95, 3) := by decide +kernel
theorem dX5_square_4 : decode cX5_square 4 = .ok (.ifCond .ne 9, 3) := by decide +kernel
theorem dX5_square_7 : decode cX5_square 7 = .ok (.aload_n 0, 1) := by decide +kernel
theorem dX5_square_8 : decode cX5_square 8 = .ok (.iconst (-1), 1) := by decide +kernel
theorem dX5_square_9 : decode cX5_square 9 = .ok (.invokevirtual 65, 3) := by decide +kernel
theorem dX5_square_12 : decode cX5_square 12 = .ok (.ireturn, 1) := by decide +kernel
theorem dX5_square_13 : decode cX5_square 13 = .ok (.iload_n 2, 1) := by decide +kernel
theorem dX5_square_14 : decode cX5_square 14 = .ok (.tableswitch 61 0 2 #[26, 35, 52], 26) := by decide +kernel
theorem dX5_square_40 : decode cX5_square 40 = .ok (.aload_n 0, 1) := by decide +kernel
theorem dX5_square_41 : decode cX5_square 41 = .ok (.getfield 10, 3) := by decide +kernel
theorem dX5_square_44 : decode cX5_square 44 = .ok (.iload_n 1, 1) := by decide +kernel
theorem dX5_square_45 : decode cX5_square 45 = .ok (.invokevirtual 99, 3) := by decide +kernel
theorem dX5_square_48 : decode cX5_square 48 = .ok (.ireturn, 1) := by decide +kernel
theorem dX5_square_49 : decode cX5_square 49 = .ok (.aload_n 0, 1) := by decide +kernel
theorem dX5_square_50 : decode cX5_square 50 = .ok (.getfield 10, 3) := by decide +kernel
theorem dX5_square_53 : decode cX5_square 53 = .ok (.iload_n 1, 1) := by decide +kernel
theorem dX5_square_54 : decode cX5_square 54 = .ok (.invokevirtual 102, 3) := by decide +kernel
theorem dX5_square_57 : decode cX5_square 57 = .ok (.ifCond .eq 7, 3) := by decide +kernel
theorem dX5_square_60 : decode cX5_square 60 = .ok (.iconst 1, 1) := by decide +kernel
theorem dX5_square_61 : decode cX5_square 61 = .ok (.goto 4, 3) := by decide +kernel
theorem dX5_square_64 : decode cX5_square 64 = .ok (.iconst 0, 1) := by decide +kernel
theorem dX5_square_65 : decode cX5_square 65 = .ok (.ireturn, 1) := by decide +kernel
theorem dX5_square_66 : decode cX5_square 66 = .ok (.aload_n 0, 1) := by decide +kernel
theorem dX5_square_67 : decode cX5_square 67 = .ok (.getfield 10, 3) := by decide +kernel
theorem dX5_square_70 : decode cX5_square 70 = .ok (.iload_n 1, 1) := by decide +kernel
theorem dX5_square_71 : decode cX5_square 71 = .ok (.invokevirtual 105, 3) := by decide +kernel
theorem dX5_square_74 : decode cX5_square 74 = .ok (.ireturn, 1) := by decide +kernel
theorem dX5_square_75 : decode cX5_square 75 = .ok (.aload_n 0, 1) := by decide +kernel
theorem dX5_square_76 : decode cX5_square 76 = .ok (.bipush (-2), 2) := by decide +kernel
theorem dX5_square_78 : decode cX5_square 78 = .ok (.invokevirtual 65, 3) := by decide +kernel
theorem dX5_square_81 : decode cX5_square 81 = .ok (.ireturn, 1) := by decide +kernel
theorem dX5_turnTo_0 : decode cX5_turnTo 0 = .ok (.iload_n 1, 1) := by decide +kernel
theorem dX5_turnTo_1 : decode cX5_turnTo 1 = .ok (.invokestatic 95, 3) := by decide +kernel
theorem dX5_turnTo_4 : decode cX5_turnTo 4 = .ok (.ifCond .ne 9, 3) := by decide +kernel
theorem dX5_turnTo_7 : decode cX5_turnTo 7 = .ok (.aload_n 0, 1) := by decide +kernel
theorem dX5_turnTo_8 : decode cX5_turnTo 8 = .ok (.iconst (-1), 1) := by decide +kernel
theorem dX5_turnTo_9 : decode cX5_turnTo 9 = .ok (.invokevirtual 65, 3) := by decide +kernel
theorem dX5_turnTo_12 : decode cX5_turnTo 12 = .ok (.ireturn, 1) := by decide +kernel
theorem dX5_turnTo_13 : decode cX5_turnTo 13 = .ok (.iload_n 2, 1) := by decide +kernel
theorem dX5_turnTo_14 : decode cX5_turnTo 14 = .ok (.invokestatic 108, 3) := by decide +kernel
theorem dX5_turnTo_17 : decode cX5_turnTo 17 = .ok (.ifCond .ne 10, 3) := by decide +kernel
theorem dX5_turnTo_20 : decode cX5_turnTo 20 = .ok (.aload_n 0, 1) := by decide +kernel
theorem dX5_turnTo_21 : decode cX5_turnTo 21 = .ok (.bipush (-2), 2) := by decide +kernel
theorem dX5_turnTo_23 : decode cX5_turnTo 23 = .ok (.invokevirtual 65, 3) := by decide +kernel
theorem dX5_turnTo_26 : decode cX5_turnTo 26 = .ok (.ireturn, 1) := by decide +kernel
theorem dX5_turnTo_27 : decode cX5_turnTo 27 = .ok (.iload_n 1, 1) := by decide +kernel
theorem dX5_turnTo_28 : decode cX5_turnTo 28 = .ok (.aload_n 0, 1) := by decide +kernel
theorem dX5_turnTo_29 : decode cX5_turnTo 29 = .ok (.getfield 10, 3) := by decide +kernel
theorem dX5_turnTo_32 : decode cX5_turnTo 32 = .ok (.iconst 0, 1) := by decide +kernel
theorem dX5_turnTo_33 : decode cX5_turnTo 33 = .ok (.invokevirtual 111, 3) := by decide +kernel
theorem dX5_turnTo_36 : decode cX5_turnTo 36 = .ok (.if_icmp .ne 7, 3) := by decide +kernel
theorem dX5_turnTo_39 : decode cX5_turnTo 39 = .ok (.iconst 1, 1) := by decide +kernel
theorem dX5_turnTo_40 : decode cX5_turnTo 40 = .ok (.goto 4, 3) := by decide +kernel
theorem dX5_turnTo_43 : decode cX5_turnTo 43 = .ok (.iconst 0, 1) := by decide +kernel
theorem dX5_turnTo_44 : decode cX5_turnTo 44 = .ok (.istore_n 3, 1) := by decide +kernel
theorem dX5_turnTo_45 : decode cX5_turnTo 45 = .ok (.iload_n 3, 1) := by decide +kernel
theorem dX5_turnTo_46 : decode cX5_turnTo 46 = .ok (.ifCond .eq 25, 3) := by decide +kernel
theorem dX5_turnTo_49 : decode cX5_turnTo 49 = .ok (.iload_n 2, 1) := by decide +kernel
theorem dX5_turnTo_50 : decode cX5_turnTo 50 = .ok (.aload_n 0, 1) := by decide +kernel
theorem dX5_turnTo_51 : decode cX5_turnTo 51 = .ok (.getfield 10, 3) := by decide +kernel
theorem dX5_turnTo_54 : decode cX5_turnTo 54 = .ok (.iconst 1, 1) := by decide +kernel
theorem dX5_turnTo_55 : decode cX5_turnTo 55 = .ok (.invokevirtual 111, 3) := by decide +kernel
theorem dX5_turnTo_58 : decode cX5_turnTo 58 = .ok (.invokestatic 114, 3) := by decide +kernel
theorem dX5_turnTo_61 : decode cX5_turnTo 61 = .ok (.ifCond .ne 10, 3) := by decide +kernel
theorem dX5_turnTo_64 : decode cX5_turnTo 64 = .ok (.aload_n 0, 1) := by decide +kernel
theorem dX5_turnTo_65 : decode cX5_turnTo 65 = .ok (.bipush (-3), 2) := by decide +kernel
theorem dX5_turnTo_67 : decode cX5_turnTo 67 = .ok (.invokevirtual 65, 3) := by decide +kernel
theorem dX5_turnTo_70 : decode cX5_turnTo 70 = .ok (.ireturn, 1) := by decide +kernel
theorem dX5_turnTo_71 : decode cX5_turnTo 71 = .ok (.aload_n 0, 1) := by decide +kernel
theorem dX5_turnTo_72 : decode cX5_turnTo 72 = .ok (.getfield 10, 3) := by decide +kernel
theorem dX5_turnTo_75 : decode cX5_turnTo 75 = .ok (.iload_n 1, 1) := by decide +kernel
theorem dX5_turnTo_76 : decode cX5_turnTo 76 = .ok (.invokevirtual 99, 3) := by decide +kernel
theorem dX5_turnTo_79 : decode cX5_turnTo 79 = .ok (.istore 4, 2) := by decide +kernel
theorem dX5_turnTo_81 : decode cX5_turnTo 81 = .ok (.aload_n 0, 1) := by decide +kernel
theorem dX5_turnTo_82 : decode cX5_turnTo 82 = .ok (.getfield 10, 3) := by decide +kernel
theorem dX5_turnTo_85 : decode cX5_turnTo 85 = .ok (.iload_n 1, 1) := by decide +kernel
theorem dX5_turnTo_86 : decode cX5_turnTo 86 = .ok (.iload_n 2, 1) := by decide +kernel
theorem dX5_turnTo_87 : decode cX5_turnTo 87 = .ok (.invokevirtual 118, 3) := by decide +kernel
theorem dX5_turnTo_90 : decode cX5_turnTo 90 = .ok (.iload 4, 2) := by decide +kernel
theorem dX5_turnTo_92 : decode cX5_turnTo 92 = .ok (.ireturn, 1) := by decide +kernel
theorem dX5_make_0 : decode cX5_make 0 = .ok (.iload_n 1, 1) := by decide +kernel
theorem dX5_make_1 : decode cX5_make 1 = .ok (.invokestatic 95, 3) := by decide +kernel
theorem dX5_make_4 : decode cX5_make 4 = .ok (.ifCond .ne 9, 3) := by decide +kernel
theorem dX5_make_7 : decode cX5_make 7 = .ok (.aload_n 0, 1) := by decide +kernel
theorem dX5_make_8 : decode cX5_make 8 = .ok (.iconst (-1), 1) := by decide +kernel
theorem dX5_make_9 : decode cX5_make 9 = .ok (.invokevirtual 65, 3) := by decide +kernel
theorem dX5_make_12 : decode cX5_make 12 = .ok (.ireturn, 1) := by decide +kernel
theorem dX5_make_13 : decode cX5_make 13 = .ok (.iload_n 2, 1) := by decide +kernel
theorem dX5_make_14 : decode cX5_make 14 = .ok (.ifCond .ge 10, 3) := by decide +kernel
theorem dX5_make_17 : decode cX5_make 17 = .ok (.aload_n 0, 1) := by decide +kernel
theorem dX5_make_18 : decode cX5_make 18 = .ok (.bipush (-4), 2) := by decide +kernel
theorem dX5_make_20 : decode cX5_make 20 = .ok (.invokevirtual 65, 3) := by decide +kernel
theorem dX5_make_23 : decode cX5_make 23 = .ok (.ireturn, 1) := by decide +kernel
theorem dX5_make_24 : decode cX5_make 24 = .ok (.iload_n 2, 1) := by decide +kernel
theorem dX5_make_25 : decode cX5_make 25 = .ok (.bipush 9, 2) := by decide +kernel
theorem dX5_make_27 : decode cX5_make 27 = .ok (.if_icmp .le 10, 3) := by decide +kernel
theorem dX5_make_30 : decode cX5_make 30 = .ok (.aload_n 0, 1) := by decide +kernel
theorem dX5_make_31 : decode cX5_make 31 = .ok (.bipush (-6), 2) := by decide +kernel
theorem dX5_make_33 : decode cX5_make 33 = .ok (.invokevirtual 65, 3) := by decide +kernel
theorem dX5_make_36 : decode cX5_make 36 = .ok (.ireturn, 1) := by decide +kernel
theorem dX5_make_37 : decode cX5_make 37 = .ok (.aload_n 0, 1) := by decide +kernel
theorem dX5_make_38 : decode cX5_make 38 = .ok (.getfield 10, 3) := by decide +kernel
theorem dX5_make_41 : decode cX5_make 41 = .ok (.iload_n 1, 1) := by decide +kernel
theorem dX5_make_42 : decode cX5_make 42 = .ok (.invokevirtual 105, 3) := by decide +kernel
theorem dX5_make_45 : decode cX5_make 45 = .ok (.istore_n 3, 1) := by decide +kernel
theorem dX5_make_46 : decode cX5_make 46 = .ok (.aload_n 0, 1) := by decide +kernel
theorem dX5_make_47 : decode cX5_make 47 = .ok (.getfield 10, 3) := by decide +kernel
theorem dX5_make_50 : decode cX5_make 50 = .ok (.iload_n 1, 1) := by decide +kernel
theorem dX5_make_51 : decode cX5_make 51 = .ok (.iload_n 2, 1) := by decide +kernel
theorem dX5_make_52 : decode cX5_make 52 = .ok (.invokevirtual 122, 3) := by decide +kernel
theorem dX5_make_55 : decode cX5_make 55 = .ok (.iload_n 3, 1) := by decide +kernel
theorem dX5_make_56 : decode cX5_make 56 = .ok (.ireturn, 1) := by decide +kernel
theorem dX5_set_0 : decode cX5_set 0 = .ok (.iload_n 1, 1) := by decide +kernel
theorem dX5_set_1 : decode cX5_set 1 = .ok (.ifCond .lt 8, 3) := by decide +kernel
theorem dX5_set_4 : decode cX5_set 4 = .ok (.iload_n 1, 1) := by decide +kernel
theorem dX5_set_5 : decode cX5_set 5 = .ok (.iconst 5, 1) := by decide +kernel
theorem dX5_set_6 : decode cX5_set 6 = .ok (.if_icmp .lt 10, 3) := by decide +kernel
theorem dX5_set_9 : decode cX5_set 9 = .ok (.aload_n 0, 1) := by decide +kernel
theorem dX5_set_10 : decode cX5_set 10 = .ok (.bipush (-2), 2) := by decide +kernel
theorem dX5_set_12 : decode cX5_set 12 = .ok (.invokevirtual 65, 3) := by decide +kernel
theorem dX5_set_15 : decode cX5_set 15 = .ok (.ireturn, 1) := by decide +kernel
theorem dX5_set_16 : decode cX5_set 16 = .ok (.iload_n 1, 1) := by decide +kernel
theorem dX5_set_17 : decode cX5_set 17 = .ok (.ifCond .ne 16, 3) := by decide +kernel
theorem dX5_set_20 : decode cX5_set 20 = .ok (.iload_n 2, 1) := by decide +kernel
theorem dX5_set_21 : decode cX5_set 21 = .ok (.invokestatic 95, 3) := by decide +kernel
theorem dX5_set_24 : decode cX5_set 24 = .ok (.ifCond .ne 9, 3) := by decide +kernel
theorem dX5_set_27 : decode cX5_set 27 = .ok (.aload_n 0, 1) := by decide +kernel
theorem dX5_set_28 : decode cX5_set 28 = .ok (.iconst (-1), 1) := by decide +kernel
theorem dX5_set_29 : decode cX5_set 29 = .ok (.invokevirtual 65, 3) := by decide +kernel
theorem dX5_set_32 : decode cX5_set 32 = .ok (.ireturn, 1) := by decide +kernel
theorem dX5_set_33 : decode cX5_set 33 = .ok (.iload_n 2, 1) := by decide +kernel
theorem dX5_set_34 : decode cX5_set 34 = .ok (.getstatic 125, 3) := by decide +kernel
theorem dX5_set_37 : decode cX5_set 37 = .ok (.iload_n 1, 1) := by decide +kernel
theorem dX5_set_38 : decode cX5_set 38 = .ok (.iaload, 1) := by decide +kernel
theorem dX5_set_39 : decode cX5_set 39 = .ok (.if_icmp .ge 10, 3) := by decide +kernel
theorem dX5_set_42 : decode cX5_set 42 = .ok (.aload_n 0, 1) := by decide +kernel
theorem dX5_set_43 : decode cX5_set 43 = .ok (.bipush (-4), 2) := by decide +kernel
theorem dX5_set_45 : decode cX5_set 45 = .ok (.invokevirtual 65, 3) := by decide +kernel
theorem dX5_set_48 : decode cX5_set 48 = .ok (.ireturn, 1) := by decide +kernel
theorem dX5_set_49 : decode cX5_set 49 = .ok (.iload_n 2, 1) := by decide +kernel
theorem dX5_set_50 : decode cX5_set 50 = .ok (.getstatic 128, 3) := by decide +kernel
theorem dX5_set_53 : decode cX5_set 53 = .ok (.iload_n 1, 1) := by decide +kernel
theorem dX5_set_54 : decode cX5_set 54 = .ok (.iaload, 1) := by decide +kernel
theorem dX5_set_55 : decode cX5_set 55 = .ok (.if_icmp .le 10, 3) := by decide +kernel
theorem dX5_set_58 : decode cX5_set 58 = .ok (.aload_n 0, 1) := by decide +kernel
theorem dX5_set_59 : decode cX5_set 59 = .ok (.bipush (-6), 2) := by decide +kernel
theorem dX5_set_61 : decode cX5_set 61 = .ok (.invokevirtual 65, 3) := by decide +kernel
theorem dX5_set_64 : decode cX5_set 64 = .ok (.ireturn, 1) := by decide +kernel
theorem dX5_set_65 : decode cX5_set 65 = .ok (.aload_n 0, 1) := by decide +kernel
theorem dX5_set_66 : decode cX5_set 66 = .ok (.getfield 10, 3) := by decide +kernel
theorem dX5_set_69 : decode cX5_set 69 = .ok (.iload_n 1, 1) := by decide +kernel
theorem dX5_set_70 : decode cX5_set 70 = .ok (.invokevirtual 111, 3) := by decide +kernel
theorem dX5_set_73 : decode cX5_set 73 = .ok (.istore_n 3, 1) := by decide +kernel
theorem dX5_set_74 : decode cX5_set 74 = .ok (.aload_n 0, 1) := by decide +kernel
theorem dX5_set_75 : decode cX5_set 75 = .ok (.getfield 10, 3) := by decide +kernel
theorem dX5_set_78 : decode cX5_set 78 = .ok (.iload_n 1, 1) := by decide +kernel
theorem dX5_set_79 : decode cX5_set 79 = .ok (.iload_n 2, 1) := by decide +kernel
theorem dX5_set_80 : decode cX5_set 80 = .ok (.invokevirtual 131, 3) := by decide +kernel
theorem dX5_set_83 : decode cX5_set 83 = .ok (.aload_n 0, 1) := by decide +kernel
theorem dX5_set_84 : decode cX5_set 84 = .ok (.getfield 10, 3) := by decide +kernel
theorem dX5_set_87 : decode cX5_set 87 = .ok (.invokevirtual 134, 3) := by decide +kernel
theorem dX5_set_90 : decode cX5_set 90 = .ok (.ifCond .ne 19, 3) := by decide +kernel
theorem dX5_set_93 : decode cX5_set 93 = .ok (.aload_n 0, 1) := by decide +kernel
theorem dX5_set_94 : decode cX5_set 94 = .ok (.getfield 10, 3) := by decide +kernel
theorem dX5_set_97 : decode cX5_set 97 = .ok (.iload_n 1, 1) := by decide +kernel
theorem dX5_set_98 : decode cX5_set 98 = .ok (.iload_n 3, 1) := by decide +kernel
theorem dX5_set_99 : decode cX5_set 99 = .ok (.invokevirtual 131, 3) := by decide +kernel
theorem dX5_set_102 : decode cX5_set 102 = .ok (.aload_n 0, 1) := by decide +kernel
theorem dX5_set_103 : decode cX5_set 103 = .ok (.bipush (-3), 2) := by decide +kernel
theorem dX5_set_105 : decode cX5_set 105 = .ok (.invokevirtual 65, 3) := by decide +kernel
theorem dX5_set_108 : decode cX5_set 108 = .ok (.ireturn, 1) := by decide +kernel
theorem dX5_set_109 : decode cX5_set 109 = .ok (.iload_n 3, 1) := by decide +kernel
theorem dX5_set_110 : decode cX5_set 110 = .ok (.ireturn, 1) := by decide +kernel
theorem dX5_learn_0 : decode cX5_learn 0 = .ok (.iload_n 1, 1) := by decide +kernel
theorem dX5_learn_1 : decode cX5_learn 1 = .ok (.invokestatic 108, 3) := by decide +kernel
theorem dX5_learn_4 : decode cX5_learn 4 = .ok (.ifCond .ne 10, 3) := by decide +kernel
theorem dX5_learn_7 : decode cX5_learn 7 = .ok (.aload_n 0, 1) := by decide +kernel
theorem dX5_learn_8 : decode cX5_learn 8 = .ok (.bipush (-2), 2) := by decide +kernel
theorem dX5_learn_10 : decode cX5_learn 10 = .ok (.invokevirtual 65, 3) := by decide +kernel
theorem dX5_learn_13 : decode cX5_learn 13 = .ok (.ireturn, 1) := by decide +kernel
theorem dX5_learn_14 : decode cX5_learn 14 = .ok (.iload_n 2, 1) := by decide +kernel
theorem dX5_learn_15 : decode cX5_learn 15 = .ok (.ifCond .ge 10, 3) := by decide +kernel
theorem dX5_learn_18 : decode cX5_learn 18 = .ok (.aload_n 0, 1) := by decide +kernel
theorem dX5_learn_19 : decode cX5_learn 19 = .ok (.bipush (-4), 2) := by decide +kernel
theorem dX5_learn_21 : decode cX5_learn 21 = .ok (.invokevirtual 65, 3) := by decide +kernel
theorem dX5_learn_24 : decode cX5_learn 24 = .ok (.ireturn, 1) := by decide +kernel
theorem dX5_learn_25 : decode cX5_learn 25 = .ok (.iload_n 2, 1) := by decide +kernel
theorem dX5_learn_26 : decode cX5_learn 26 = .ok (.bipush 99, 2) := by decide +kernel
theorem dX5_learn_28 : decode cX5_learn 28 = .ok (.if_icmp .le 10, 3) := by decide +kernel
theorem dX5_learn_31 : decode cX5_learn 31 = .ok (.aload_n 0, 1) := by decide +kernel
theorem dX5_learn_32 : decode cX5_learn 32 = .ok (.bipush (-6), 2) := by decide +kernel
theorem dX5_learn_34 : decode cX5_learn 34 = .ok (.invokevirtual 65, 3) := by decide +kernel
theorem dX5_learn_37 : decode cX5_learn 37 = .ok (.ireturn, 1) := by decide +kernel
theorem dX5_learn_38 : decode cX5_learn 38 = .ok (.aload_n 0, 1) := by decide +kernel
theorem dX5_learn_39 : decode cX5_learn 39 = .ok (.getfield 54, 3) := by decide +kernel
theorem dX5_learn_42 : decode cX5_learn 42 = .ok (.aload_n 0, 1) := by decide +kernel
theorem dX5_learn_43 : decode cX5_learn 43 = .ok (.getfield 10, 3) := by decide +kernel
theorem dX5_learn_46 : decode cX5_learn 46 = .ok (.aload_n 0, 1) := by decide +kernel
theorem dX5_learn_47 : decode cX5_learn 47 = .ok (.getfield 47, 3) := by decide +kernel
theorem dX5_learn_50 : decode cX5_learn 50 = .ok (.invokevirtual 137, 3) := by decide +kernel
theorem dX5_learn_53 : decode cX5_learn 53 = .ok (.aload_n 0, 1) := by decide +kernel
theorem dX5_learn_54 : decode cX5_learn 54 = .ok (.getfield 54, 3) := by decide +kernel
theorem dX5_learn_57 : decode cX5_learn 57 = .ok (.aload_n 0, 1) := by decide +kernel
theorem dX5_learn_58 : decode cX5_learn 58 = .ok (.getfield 10, 3) := by decide +kernel
theorem dX5_learn_61 : decode cX5_learn 61 = .ok (.iload_n 1, 1) := by decide +kernel
theorem dX5_learn_62 : decode cX5_learn 62 = .ok (.iload_n 2, 1) := by decide +kernel
theorem dX5_learn_63 : decode cX5_learn 63 = .ok (.invokevirtual 141, 3) := by decide +kernel
theorem dX5_learn_66 : decode cX5_learn 66 = .ok (.ifCond .ne 10, 3) := by decide +kernel
theorem dX5_learn_69 : decode cX5_learn 69 = .ok (.aload_n 0, 1) := by decide +kernel
theorem dX5_learn_70 : decode cX5_learn 70 = .ok (.bipush (-3), 2) := by decide +kernel
theorem dX5_learn_72 : decode cX5_learn 72 = .ok (.invokevirtual 65, 3) := by decide +kernel
theorem dX5_learn_75 : decode cX5_learn 75 = .ok (.ireturn, 1) := by decide +kernel
theorem dX5_learn_76 : decode cX5_learn 76 = .ok (.aload_n 0, 1) := by decide +kernel
theorem dX5_learn_77 : decode cX5_learn 77 = .ok (.getfield 10, 3) := by decide +kernel
theorem dX5_learn_80 : decode cX5_learn 80 = .ok (.invokevirtual 145, 3) := by decide +kernel
theorem dX5_learn_83 : decode cX5_learn 83 = .ok (.ireturn, 1) := by decide +kernel
theorem dX5_days_0 : decode cX5_days 0 = .ok (.iload_n 1, 1) := by decide +kernel
theorem dX5_days_1 : decode cX5_days 1 = .ok (.invokestatic 95, 3) := by decide +kernel
theorem dX5_days_4 : decode cX5_days 4 = .ok (.ifCond .eq 10, 3) := by decide +kernel
theorem dX5_days_7 : decode cX5_days 7 = .ok (.iload_n 2, 1) := by decide +kernel
theorem dX5_days_8 : decode cX5_days 8 = .ok (.invokestatic 95, 3) := by decide +kernel
theorem dX5_days_11 : decode cX5_days 11 = .ok (.ifCond .ne 9, 3) := by decide +kernel
theorem dX5_days_14 : decode cX5_days 14 = .ok (.aload_n 0, 1) := by decide +kernel
theorem dX5_days_15 : decode cX5_days 15 = .ok (.iconst (-1), 1) := by decide +kernel
theorem dX5_days_16 : decode cX5_days 16 = .ok (.invokevirtual 65, 3) := by decide +kernel
theorem dX5_days_19 : decode cX5_days 19 = .ok (.ireturn, 1) := by decide +kernel
theorem dX5_days_20 : decode cX5_days 20 = .ok (.aload_n 0, 1) := by decide +kernel
theorem dX5_days_21 : decode cX5_days 21 = .ok (.iload_n 1, 1) := by decide +kernel
theorem dX5_days_22 : decode cX5_days 22 = .ok (.iload_n 2, 1) := by decide +kernel
theorem dX5_days_23 : decode cX5_days 23 = .ok (.invokevirtual 148, 3) := by decide +kernel
theorem dX5_days_26 : decode cX5_days 26 = .ok (.ireturn, 1) := by decide +kernel
theorem dX5_way_0 : decode cX5_way 0 = .ok (.iload_n 1, 1) := by decide +kernel
theorem dX5_way_1 : decode cX5_way 1 = .ok (.invokestatic 95, 3) := by decide +kernel
theorem dX5_way_4 : decode cX5_way 4 = .ok (.ifCond .eq 10, 3) := by decide +kernel
theorem dX5_way_7 : decode cX5_way 7 = .ok (.iload_n 2, 1) := by decide +kernel
theorem dX5_way_8 : decode cX5_way 8 = .ok (.invokestatic 95, 3) := by decide +kernel
theorem dX5_way_11 : decode cX5_way 11 = .ok (.ifCond .ne 9, 3) := by decide +kernel
theorem dX5_way_14 : decode cX5_way 14 = .ok (.aload_n 0, 1) := by decide +kernel
theorem dX5_way_15 : decode cX5_way 15 = .ok (.iconst (-1), 1) := by decide +kernel
theorem dX5_way_16 : decode cX5_way 16 = .ok (.invokevirtual 65, 3) := by decide +kernel
theorem dX5_way_19 : decode cX5_way 19 = .ok (.ireturn, 1) := by decide +kernel
theorem dX5_way_20 : decode cX5_way 20 = .ok (.aload_n 0, 1) := by decide +kernel
theorem dX5_way_21 : decode cX5_way 21 = .ok (.iload_n 1, 1) := by decide +kernel
theorem dX5_way_22 : decode cX5_way 22 = .ok (.iload_n 2, 1) := by decide +kernel
theorem dX5_way_23 : decode cX5_way 23 = .ok (.invokevirtual 148, 3) := by decide +kernel
theorem dX5_way_26 : decode cX5_way 26 = .ok (.istore_n 3, 1) := by decide +kernel
theorem dX5_way_27 : decode cX5_way 27 = .ok (.iload_n 3, 1) := by decide +kernel
theorem dX5_way_28 : decode cX5_way 28 = .ok (.ifCond .gt 6, 3) := by decide +kernel
theorem dX5_way_31 : decode cX5_way 31 = .ok (.bipush (-9), 2) := by decide +kernel
theorem dX5_way_33 : decode cX5_way 33 = .ok (.ireturn, 1) := by decide +kernel
theorem dX5_way_34 : decode cX5_way 34 = .ok (.iconst 0, 1) := by decide +kernel
theorem dX5_way_35 : decode cX5_way 35 = .ok (.istore 4, 2) := by decide +kernel
theorem dX5_way_37 : decode cX5_way 37 = .ok (.iload 4, 2) := by decide +kernel
theorem dX5_way_39 : decode cX5_way 39 = .ok (.iconst 4, 1) := by decide +kernel
theorem dX5_way_40 : decode cX5_way 40 = .ok (.if_icmp .ge 63, 3) := by decide +kernel
theorem dX5_way_43 : decode cX5_way 43 = .ok (.aload_n 0, 1) := by decide +kernel
theorem dX5_way_44 : decode cX5_way 44 = .ok (.getfield 10, 3) := by decide +kernel
theorem dX5_way_47 : decode cX5_way 47 = .ok (.iload_n 1, 1) := by decide +kernel
theorem dX5_way_48 : decode cX5_way 48 = .ok (.iload 4, 2) := by decide +kernel
theorem dX5_way_50 : decode cX5_way 50 = .ok (.invokevirtual 152, 3) := by decide +kernel
theorem dX5_way_53 : decode cX5_way 53 = .ok (.istore 5, 2) := by decide +kernel
theorem dX5_way_55 : decode cX5_way 55 = .ok (.iload 5, 2) := by decide +kernel
theorem dX5_way_57 : decode cX5_way 57 = .ok (.bipush (-9), 2) := by decide +kernel
theorem dX5_way_59 : decode cX5_way 59 = .ok (.if_icmp .ne 6, 3) := by decide +kernel
theorem dX5_way_62 : decode cX5_way 62 = .ok (.goto 35, 3) := by decide +kernel
theorem dX5_way_65 : decode cX5_way 65 = .ok (.aload_n 0, 1) := by decide +kernel
theorem dX5_way_66 : decode cX5_way 66 = .ok (.iload_n 1, 1) := by decide +kernel
theorem dX5_way_67 : decode cX5_way 67 = .ok (.iload 4, 2) := by decide +kernel
theorem dX5_way_69 : decode cX5_way 69 = .ok (.invokestatic 155, 3) := by decide +kernel
theorem dX5_way_72 : decode cX5_way 72 = .ok (.iload_n 2, 1) := by decide +kernel
theorem dX5_way_73 : decode cX5_way 73 = .ok (.invokevirtual 148, 3) := by decide +kernel
theorem dX5_way_76 : decode cX5_way 76 = .ok (.istore 6, 2) := by decide +kernel
theorem dX5_way_78 : decode cX5_way 78 = .ok (.iload 6, 2) := by decide +kernel
theorem dX5_way_80 : decode cX5_way 80 = .ok (.bipush (-9), 2) := by decide +kernel
theorem dX5_way_82 : decode cX5_way 82 = .ok (.if_icmp .eq 15, 3) := by decide +kernel
theorem dX5_way_85 : decode cX5_way 85 = .ok (.iload 5, 2) := by decide +kernel
theorem dX5_way_87 : decode cX5_way 87 = .ok (.iload 6, 2) := by decide +kernel
theorem dX5_way_89 : decode cX5_way 89 = .ok (.iadd, 1) := by decide +kernel
theorem dX5_way_90 : decode cX5_way 90 = .ok (.iload_n 3, 1) := by decide +kernel
theorem dX5_way_91 : decode cX5_way 91 = .ok (.if_icmp .ne 6, 3) := by decide +kernel
theorem dX5_way_94 : decode cX5_way 94 = .ok (.iload 4, 2) := by decide +kernel
theorem dX5_way_96 : decode cX5_way 96 = .ok (.ireturn, 1) := by decide +kernel
theorem dX5_way_97 : decode cX5_way 97 = .ok (.iinc 4 1, 3) := by decide +kernel
theorem dX5_way_100 : decode cX5_way 100 = .ok (.goto (-63), 3) := by decide +kernel
theorem dX5_way_103 : decode cX5_way 103 = .ok (.bipush (-9), 2) := by decide +kernel
theorem dX5_way_105 : decode cX5_way 105 = .ok (.ireturn, 1) := by decide +kernel
theorem dX5_shake_0 : decode cX5_shake 0 = .ok (.iload_n 1, 1) := by decide +kernel
theorem dX5_shake_1 : decode cX5_shake 1 = .ok (.invokestatic 95, 3) := by decide +kernel
theorem dX5_shake_4 : decode cX5_shake 4 = .ok (.ifCond .ne 9, 3) := by decide +kernel
theorem dX5_shake_7 : decode cX5_shake 7 = .ok (.aload_n 0, 1) := by decide +kernel
theorem dX5_shake_8 : decode cX5_shake 8 = .ok (.iconst (-1), 1) := by decide +kernel
theorem dX5_shake_9 : decode cX5_shake 9 = .ok (.invokevirtual 65, 3) := by decide +kernel
theorem dX5_shake_12 : decode cX5_shake 12 = .ok (.ireturn, 1) := by decide +kernel
theorem dX5_shake_13 : decode cX5_shake 13 = .ok (.aload_n 0, 1) := by decide +kernel
theorem dX5_shake_14 : decode cX5_shake 14 = .ok (.iload_n 1, 1) := by decide +kernel
theorem dX5_shake_15 : decode cX5_shake 15 = .ok (.invokevirtual 158, 3) := by decide +kernel
theorem dX5_shake_18 : decode cX5_shake 18 = .ok (.ireturn, 1) := by decide +kernel
theorem dX5_led_0 : decode cX5_led 0 = .ok (.iload_n 1, 1) := by decide +kernel
theorem dX5_led_1 : decode cX5_led 1 = .ok (.invokestatic 95, 3) := by decide +kernel
theorem dX5_led_4 : decode cX5_led 4 = .ok (.ifCond .ne 9, 3) := by decide +kernel
theorem dX5_led_7 : decode cX5_led 7 = .ok (.aload_n 0, 1) := by decide +kernel
theorem dX5_led_8 : decode cX5_led 8 = .ok (.iconst (-1), 1) := by decide +kernel
theorem dX5_led_9 : decode cX5_led 9 = .ok (.invokevirtual 65, 3) := by decide +kernel
theorem dX5_led_12 : decode cX5_led 12 = .ok (.ireturn, 1) := by decide +kernel
theorem dX5_led_13 : decode cX5_led 13 = .ok (.aload_n 0, 1) := by decide +kernel
theorem dX5_led_14 : decode cX5_led 14 = .ok (.iload_n 1, 1) := by decide +kernel
theorem dX5_led_15 : decode cX5_led 15 = .ok (.invokevirtual 158, 3) := by decide +kernel
theorem dX5_led_18 : decode cX5_led 18 = .ok (.istore_n 2, 1) := by decide +kernel
theorem dX5_led_19 : decode cX5_led 19 = .ok (.aload_n 0, 1) := by decide +kernel
theorem dX5_led_20 : decode cX5_led 20 = .ok (.aload_n 0, 1) := by decide +kernel
theorem dX5_led_21 : decode cX5_led 21 = .ok (.getfield 10, 3) := by decide +kernel
theorem dX5_led_24 : decode cX5_led 24 = .ok (.iconst 0, 1) := by decide +kernel
theorem dX5_led_25 : decode cX5_led 25 = .ok (.invokevirtual 111, 3) := by decide +kernel
theorem dX5_led_28 : decode cX5_led 28 = .ok (.iload_n 1, 1) := by decide +kernel
theorem dX5_led_29 : decode cX5_led 29 = .ok (.invokevirtual 148, 3) := by decide +kernel
theorem dX5_led_32 : decode cX5_led 32 = .ok (.istore_n 3, 1) := by decide +kernel
theorem dX5_led_33 : decode cX5_led 33 = .ok (.iload_n 2, 1) := by decide +kernel
theorem dX5_led_34 : decode cX5_led 34 = .ok (.bipush (-9), 2) := by decide +kernel
theorem dX5_led_36 : decode cX5_led 36 = .ok (.if_icmp .eq 9, 3) := by decide +kernel
theorem dX5_led_39 : decode cX5_led 39 = .ok (.iload_n 3, 1) := by decide +kernel
theorem dX5_led_40 : decode cX5_led 40 = .ok (.bipush (-9), 2) := by decide +kernel
theorem dX5_led_42 : decode cX5_led 42 = .ok (.if_icmp .ne 8, 3) := by decide +kernel
theorem dX5_led_45 : decode cX5_led 45 = .ok (.bipush (-9), 2) := by decide +kernel
theorem dX5_led_47 : decode cX5_led 47 = .ok (.goto 6, 3) := by decide +kernel
theorem dX5_led_50 : decode cX5_led 50 = .ok (.iload_n 2, 1) := by decide +kernel
theorem dX5_led_51 : decode cX5_led 51 = .ok (.iload_n 3, 1) := by decide +kernel
theorem dX5_led_52 : decode cX5_led 52 = .ok (.isub, 1) := by decide +kernel
theorem dX5_led_53 : decode cX5_led 53 = .ok (.ireturn, 1) := by decide +kernel
theorem dX5_wreck_0 : decode cX5_wreck 0 = .ok (.iload_n 1, 1) := by decide +kernel
theorem dX5_wreck_1 : decode cX5_wreck 1 = .ok (.invokestatic 161, 3) := by decide +kernel
theorem dX5_wreck_4 : decode cX5_wreck 4 = .ok (.ifCond .ne 10, 3) := by decide +kernel
theorem dX5_wreck_7 : decode cX5_wreck 7 = .ok (.aload_n 0, 1) := by decide +kernel
theorem dX5_wreck_8 : decode cX5_wreck 8 = .ok (.bipush (-2), 2) := by decide +kernel
theorem dX5_wreck_10 : decode cX5_wreck 10 = .ok (.invokevirtual 65, 3) := by decide +kernel
theorem dX5_wreck_13 : decode cX5_wreck 13 = .ok (.ireturn, 1) := by decide +kernel
theorem dX5_wreck_14 : decode cX5_wreck 14 = .ok (.aload_n 0, 1) := by decide +kernel
theorem dX5_wreck_15 : decode cX5_wreck 15 = .ok (.invokevirtual 164, 3) := by decide +kernel
theorem dX5_wreck_18 : decode cX5_wreck 18 = .ok (.istore_n 2, 1) := by decide +kernel
theorem dX5_wreck_19 : decode cX5_wreck 19 = .ok (.iload_n 1, 1) := by decide +kernel
theorem dX5_wreck_20 : decode cX5_wreck 20 = .ok (.iconst 1, 1) := by decide +kernel
theorem dX5_wreck_21 : decode cX5_wreck 21 = .ok (.if_icmp .ne 7, 3) := by decide +kernel
theorem dX5_wreck_24 : decode cX5_wreck 24 = .ok (.iload_n 2, 1) := by decide +kernel
theorem dX5_wreck_25 : decode cX5_wreck 25 = .ok (.goto 11, 3) := by decide +kernel
theorem dX5_wreck_28 : decode cX5_wreck 28 = .ok (.aload_n 0, 1) := by decide +kernel
theorem dX5_wreck_29 : decode cX5_wreck 29 = .ok (.getfield 47, 3) := by decide +kernel
theorem dX5_wreck_32 : decode cX5_wreck 32 = .ok (.iload_n 2, 1) := by decide +kernel
theorem dX5_wreck_33 : decode cX5_wreck 33 = .ok (.invokevirtual 167, 3) := by decide +kernel
theorem dX5_wreck_36 : decode cX5_wreck 36 = .ok (.ireturn, 1) := by decide +kernel
theorem dX5_pay_0 : decode cX5_pay 0 = .ok (.iload_n 1, 1) := by decide +kernel
theorem dX5_pay_1 : decode cX5_pay 1 = .ok (.invokestatic 161, 3) := by decide +kernel
theorem dX5_pay_4 : decode cX5_pay 4 = .ok (.ifCond .ne 10, 3) := by decide +kernel
theorem dX5_pay_7 : decode cX5_pay 7 = .ok (.aload_n 0, 1) := by decide +kernel
theorem dX5_pay_8 : decode cX5_pay 8 = .ok (.bipush (-2), 2) := by decide +kernel
theorem dX5_pay_10 : decode cX5_pay 10 = .ok (.invokevirtual 65, 3) := by decide +kernel
theorem dX5_pay_13 : decode cX5_pay 13 = .ok (.ireturn, 1) := by decide +kernel
theorem dX5_pay_14 : decode cX5_pay 14 = .ok (.aload_n 0, 1) := by decide +kernel
theorem dX5_pay_15 : decode cX5_pay 15 = .ok (.getfield 47, 3) := by decide +kernel
theorem dX5_pay_18 : decode cX5_pay 18 = .ok (.aload_n 0, 1) := by decide +kernel
theorem dX5_pay_19 : decode cX5_pay 19 = .ok (.invokevirtual 164, 3) := by decide +kernel
theorem dX5_pay_22 : decode cX5_pay 22 = .ok (.invokevirtual 167, 3) := by decide +kernel
theorem dX5_pay_25 : decode cX5_pay 25 = .ok (.istore_n 2, 1) := by decide +kernel
theorem dX5_pay_26 : decode cX5_pay 26 = .ok (.iload_n 2, 1) := by decide +kernel
theorem dX5_pay_27 : decode cX5_pay 27 = .ok (.bipush (-9), 2) := by decide +kernel
theorem dX5_pay_29 : decode cX5_pay 29 = .ok (.if_icmp .ne 6, 3) := by decide +kernel
theorem dX5_pay_32 : decode cX5_pay 32 = .ok (.bipush (-9), 2) := by decide +kernel
theorem dX5_pay_34 : decode cX5_pay 34 = .ok (.ireturn, 1) := by decide +kernel
theorem dX5_pay_35 : decode cX5_pay 35 = .ok (.iconst 0, 1) := by decide +kernel
theorem dX5_pay_36 : decode cX5_pay 36 = .ok (.aload_n 0, 1) := by decide +kernel
theorem dX5_pay_37 : decode cX5_pay 37 = .ok (.getfield 10, 3) := by decide +kernel
theorem dX5_pay_40 : decode cX5_pay 40 = .ok (.iconst 3, 1) := by decide +kernel
theorem dX5_pay_41 : decode cX5_pay 41 = .ok (.invokevirtual 111, 3) := by decide +kernel
theorem dX5_pay_44 : decode cX5_pay 44 = .ok (.bipush 10, 2) := by decide +kernel
theorem dX5_pay_46 : decode cX5_pay 46 = .ok (.aload_n 0, 1) := by decide +kernel
theorem dX5_pay_47 : decode cX5_pay 47 = .ok (.getfield 10, 3) := by decide +kernel
theorem dX5_pay_50 : decode cX5_pay 50 = .ok (.iconst 2, 1) := by decide +kernel
theorem dX5_pay_51 : decode cX5_pay 51 = .ok (.invokevirtual 111, 3) := by decide +kernel
theorem dX5_pay_54 : decode cX5_pay 54 = .ok (.imul, 1) := by decide +kernel
theorem dX5_pay_55 : decode cX5_pay 55 = .ok (.iadd, 1) := by decide +kernel
theorem dX5_pay_56 : decode cX5_pay 56 = .ok (.iload_n 2, 1) := by decide +kernel
theorem dX5_pay_57 : decode cX5_pay 57 = .ok (.isub, 1) := by decide +kernel
theorem dX5_pay_58 : decode cX5_pay 58 = .ok (.invokestatic 170, 3) := by decide +kernel
theorem dX5_pay_61 : decode cX5_pay 61 = .ok (.istore_n 3, 1) := by decide +kernel
theorem dX5_pay_62 : decode cX5_pay 62 = .ok (.iload_n 1, 1) := by decide +kernel
theorem dX5_pay_63 : decode cX5_pay 63 = .ok (.ifCond .ne 5, 3) := by decide +kernel
theorem dX5_pay_66 : decode cX5_pay 66 = .ok (.iload_n 3, 1) := by decide +kernel
theorem dX5_pay_67 : decode cX5_pay 67 = .ok (.ireturn, 1) := by decide +kernel
theorem dX5_pay_68 : decode cX5_pay 68 = .ok (.aload_n 0, 1) := by decide +kernel
theorem dX5_pay_69 : decode cX5_pay 69 = .ok (.getfield 10, 3) := by decide +kernel
theorem dX5_pay_72 : decode cX5_pay 72 = .ok (.iconst 4, 1) := by decide +kernel
theorem dX5_pay_73 : decode cX5_pay 73 = .ok (.invokevirtual 111, 3) := by decide +kernel
theorem dX5_pay_76 : decode cX5_pay 76 = .ok (.aload_n 0, 1) := by decide +kernel
theorem dX5_pay_77 : decode cX5_pay 77 = .ok (.getfield 10, 3) := by decide +kernel
theorem dX5_pay_80 : decode cX5_pay 80 = .ok (.invokevirtual 145, 3) := by decide +kernel
theorem dX5_pay_83 : decode cX5_pay 83 = .ok (.imul, 1) := by decide +kernel
theorem dX5_pay_84 : decode cX5_pay 84 = .ok (.iload_n 3, 1) := by decide +kernel
theorem dX5_pay_85 : decode cX5_pay 85 = .ok (.if_icmp .le 7, 3) := by decide +kernel
theorem dX5_pay_88 : decode cX5_pay 88 = .ok (.iconst 1, 1) := by decide +kernel
theorem dX5_pay_89 : decode cX5_pay 89 = .ok (.goto 4, 3) := by decide +kernel
theorem dX5_pay_92 : decode cX5_pay 92 = .ok (.iconst 0, 1) := by decide +kernel
theorem dX5_pay_93 : decode cX5_pay 93 = .ok (.ireturn, 1) := by decide +kernel
theorem dX5_found_0 : decode cX5_found 0 = .ok (.iload_n 1, 1) := by decide +kernel
theorem dX5_found_1 : decode cX5_found 1 = .ok (.invokestatic 95, 3) := by decide +kernel
theorem dX5_found_4 : decode cX5_found 4 = .ok (.ifCond .ne 9, 3) := by decide +kernel
theorem dX5_found_7 : decode cX5_found 7 = .ok (.aload_n 0, 1) := by decide +kernel
theorem dX5_found_8 : decode cX5_found 8 = .ok (.iconst (-1), 1) := by decide +kernel
theorem dX5_found_9 : decode cX5_found 9 = .ok (.invokevirtual 65, 3) := by decide +kernel
theorem dX5_found_12 : decode cX5_found 12 = .ok (.ireturn, 1) := by decide +kernel
theorem dX5_found_13 : decode cX5_found 13 = .ok (.aload_n 0, 1) := by decide +kernel
theorem dX5_found_14 : decode cX5_found 14 = .ok (.getfield 10, 3) := by decide +kernel
theorem dX5_found_17 : decode cX5_found 17 = .ok (.iload_n 1, 1) := by decide +kernel
theorem dX5_found_18 : decode cX5_found 18 = .ok (.invokevirtual 105, 3) := by decide +kernel
theorem dX5_found_21 : decode cX5_found 21 = .ok (.ifCond .ne 10, 3) := by decide +kernel
theorem dX5_found_24 : decode cX5_found 24 = .ok (.aload_n 0, 1) := by decide +kernel
theorem dX5_found_25 : decode cX5_found 25 = .ok (.bipush (-3), 2) := by decide +kernel
theorem dX5_found_27 : decode cX5_found 27 = .ok (.invokevirtual 65, 3) := by decide +kernel
theorem dX5_found_30 : decode cX5_found 30 = .ok (.ireturn, 1) := by decide +kernel
theorem dX5_found_31 : decode cX5_found 31 = .ok (.aload_n 0, 1) := by decide +kernel
theorem dX5_found_32 : decode cX5_found 32 = .ok (.getfield 61, 3) := by decide +kernel
theorem dX5_found_35 : decode cX5_found 35 = .ok (.aload_n 0, 1) := by decide +kernel
theorem dX5_found_36 : decode cX5_found 36 = .ok (.getfield 10, 3) := by decide +kernel
theorem dX5_found_39 : decode cX5_found 39 = .ok (.aload_n 0, 1) := by decide +kernel
theorem dX5_found_40 : decode cX5_found 40 = .ok (.getfield 47, 3) := by decide +kernel
theorem dX5_found_43 : decode cX5_found 43 = .ok (.invokevirtual 175, 3) := by decide +kernel
theorem dX5_found_46 : decode cX5_found 46 = .ok (.aload_n 0, 1) := by decide +kernel
theorem dX5_found_47 : decode cX5_found 47 = .ok (.getfield 61, 3) := by decide +kernel
theorem dX5_found_50 : decode cX5_found 50 = .ok (.iload_n 1, 1) := by decide +kernel
theorem dX5_found_51 : decode cX5_found 51 = .ok (.invokevirtual 178, 3) := by decide +kernel
theorem dX5_found_54 : decode cX5_found 54 = .ok (.ireturn, 1) := by decide +kernel
theorem dX5_mean_0 : decode cX5_mean 0 = .ok (.iload_n 1, 1) := by decide +kernel
theorem dX5_mean_1 : decode cX5_mean 1 = .ok (.invokestatic 161, 3) := by decide +kernel
theorem dX5_mean_4 : decode cX5_mean 4 = .ok (.ifCond .ne 15, 3) := by decide +kernel
theorem dX5_mean_7 : decode cX5_mean 7 = .ok (.ldc2_w 181, 3) := by decide +kernel
theorem dX5_mean_10 : decode cX5_mean 10 = .ok (.aload_n 0, 1) := by decide +kernel
theorem dX5_mean_11 : decode cX5_mean 11 = .ok (.bipush (-2), 2) := by decide +kernel
theorem dX5_mean_13 : decode cX5_mean 13 = .ok (.invokevirtual 65, 3) := by decide +kernel
theorem dX5_mean_16 : decode cX5_mean 16 = .ok (.i2l, 1) := by decide +kernel
theorem dX5_mean_17 : decode cX5_mean 17 = .ok (.lsub, 1) := by decide +kernel
theorem dX5_mean_18 : decode cX5_mean 18 = .ok (.lreturn, 1) := by decide +kernel
theorem dX5_mean_19 : decode cX5_mean 19 = .ok (.aload_n 0, 1) := by decide +kernel
theorem dX5_mean_20 : decode cX5_mean 20 = .ok (.getfield 61, 3) := by decide +kernel
theorem dX5_mean_23 : decode cX5_mean 23 = .ok (.aload_n 0, 1) := by decide +kernel
theorem dX5_mean_24 : decode cX5_mean 24 = .ok (.getfield 10, 3) := by decide +kernel
theorem dX5_mean_27 : decode cX5_mean 27 = .ok (.aload_n 0, 1) := by decide +kernel
theorem dX5_mean_28 : decode cX5_mean 28 = .ok (.getfield 47, 3) := by decide +kernel
theorem dX5_mean_31 : decode cX5_mean 31 = .ok (.invokevirtual 175, 3) := by decide +kernel
theorem dX5_mean_34 : decode cX5_mean 34 = .ok (.aload_n 0, 1) := by decide +kernel
theorem dX5_mean_35 : decode cX5_mean 35 = .ok (.getfield 61, 3) := by decide +kernel
theorem dX5_mean_38 : decode cX5_mean 38 = .ok (.aload_n 0, 1) := by decide +kernel
theorem dX5_mean_39 : decode cX5_mean 39 = .ok (.getfield 10, 3) := by decide +kernel
theorem dX5_mean_42 : decode cX5_mean 42 = .ok (.invokevirtual 183, 3) := by decide +kernel
theorem dX5_mean_45 : decode cX5_mean 45 = .ok (.lstore_n 2, 1) := by decide +kernel
theorem dX5_mean_46 : decode cX5_mean 46 = .ok (.aload_n 0, 1) := by decide +kernel
theorem dX5_mean_47 : decode cX5_mean 47 = .ok (.getfield 61, 3) := by decide +kernel
theorem dX5_mean_50 : decode cX5_mean 50 = .ok (.aload_n 0, 1) := by decide +kernel
theorem dX5_mean_51 : decode cX5_mean 51 = .ok (.getfield 10, 3) := by decide +kernel
theorem dX5_mean_54 : decode cX5_mean 54 = .ok (.invokevirtual 187, 3) := by decide +kernel
theorem dX5_mean_57 : decode cX5_mean 57 = .ok (.lstore 4, 2) := by decide +kernel
theorem dX5_mean_59 : decode cX5_mean 59 = .ok (.lload 4, 2) := by decide +kernel
theorem dX5_mean_61 : decode cX5_mean 61 = .ok (.lconst 0, 1) := by decide +kernel
theorem dX5_mean_62 : decode cX5_mean 62 = .ok (.lcmp, 1) := by decide +kernel
theorem dX5_mean_63 : decode cX5_mean 63 = .ok (.ifCond .ne 6, 3) := by decide +kernel
theorem dX5_mean_66 : decode cX5_mean 66 = .ok (.iload_n 1, 1) := by decide +kernel
theorem dX5_mean_67 : decode cX5_mean 67 = .ok (.i2l, 1) := by decide +kernel
theorem dX5_mean_68 : decode cX5_mean 68 = .ok (.lreturn, 1) := by decide +kernel
theorem dX5_mean_69 : decode cX5_mean 69 = .ok (.lload_n 2, 1) := by decide +kernel
theorem dX5_mean_70 : decode cX5_mean 70 = .ok (.lload 4, 2) := by decide +kernel
theorem dX5_mean_72 : decode cX5_mean 72 = .ok (.invokestatic 190, 3) := by decide +kernel
theorem dX5_mean_75 : decode cX5_mean 75 = .ok (.lstore 6, 2) := by decide +kernel
theorem dX5_mean_77 : decode cX5_mean 77 = .ok (.lload 6, 2) := by decide +kernel
theorem dX5_mean_79 : decode cX5_mean 79 = .ok (.lconst 0, 1) := by decide +kernel
theorem dX5_mean_80 : decode cX5_mean 80 = .ok (.lcmp, 1) := by decide +kernel
theorem dX5_mean_81 : decode cX5_mean 81 = .ok (.ifCond .ne 6, 3) := by decide +kernel
theorem dX5_mean_84 : decode cX5_mean 84 = .ok (.iload_n 1, 1) := by decide +kernel
theorem dX5_mean_85 : decode cX5_mean 85 = .ok (.i2l, 1) := by decide +kernel
theorem dX5_mean_86 : decode cX5_mean 86 = .ok (.lreturn, 1) := by decide +kernel
theorem dX5_mean_87 : decode cX5_mean 87 = .ok (.iload_n 1, 1) := by decide +kernel
theorem dX5_mean_88 : decode cX5_mean 88 = .ok (.ifCond .ne 7, 3) := by decide +kernel
theorem dX5_mean_91 : decode cX5_mean 91 = .ok (.lload_n 2, 1) := by decide +kernel
theorem dX5_mean_92 : decode cX5_mean 92 = .ok (.goto 5, 3) := by decide +kernel
theorem dX5_mean_95 : decode cX5_mean 95 = .ok (.lload 4, 2) := by decide +kernel
theorem dX5_mean_97 : decode cX5_mean 97 = .ok (.lload 6, 2) := by decide +kernel
theorem dX5_mean_99 : decode cX5_mean 99 = .ok (.ldiv, 1) := by decide +kernel
theorem dX5_mean_100 : decode cX5_mean 100 = .ok (.lreturn, 1) := by decide +kernel
theorem dX5_look_0 : decode cX5_look 0 = .ok (.aload_n 0, 1) := by decide +kernel
theorem dX5_look_1 : decode cX5_look 1 = .ok (.getfield 47, 3) := by decide +kernel
theorem dX5_look_4 : decode cX5_look 4 = .ok (.aload_n 0, 1) := by decide +kernel
theorem dX5_look_5 : decode cX5_look 5 = .ok (.getfield 10, 3) := by decide +kernel
theorem dX5_look_8 : decode cX5_look 8 = .ok (.aload_n 0, 1) := by decide +kernel
theorem dX5_look_9 : decode cX5_look 9 = .ok (.getfield 10, 3) := by decide +kernel
theorem dX5_look_12 : decode cX5_look 12 = .ok (.iconst 0, 1) := by decide +kernel
theorem dX5_look_13 : decode cX5_look 13 = .ok (.invokevirtual 111, 3) := by decide +kernel
theorem dX5_look_16 : decode cX5_look 16 = .ok (.invokevirtual 194, 3) := by decide +kernel
theorem dX5_look_19 : decode cX5_look 19 = .ok (.bipush (-9), 2) := by decide +kernel
theorem dX5_look_21 : decode cX5_look 21 = .ok (.istore_n 1, 1) := by decide +kernel
theorem dX5_look_22 : decode cX5_look 22 = .ok (.iconst 0, 1) := by decide +kernel
theorem dX5_look_23 : decode cX5_look 23 = .ok (.istore_n 2, 1) := by decide +kernel
theorem dX5_look_24 : decode cX5_look 24 = .ok (.iconst 1, 1) := by decide +kernel
theorem dX5_look_25 : decode cX5_look 25 = .ok (.istore_n 3, 1) := by decide +kernel
theorem dX5_look_26 : decode cX5_look 26 = .ok (.iconst 0, 1) := by decide +kernel
theorem dX5_look_27 : decode cX5_look 27 = .ok (.istore 4, 2) := by decide +kernel
theorem dX5_look_29 : decode cX5_look 29 = .ok (.iload 4, 2) := by decide +kernel
theorem dX5_look_31 : decode cX5_look 31 = .ok (.bipush 36, 2) := by decide +kernel
theorem dX5_look_33 : decode cX5_look 33 = .ok (.if_icmp .ge 73, 3) := by decide +kernel
theorem dX5_look_36 : decode cX5_look 36 = .ok (.aload_n 0, 1) := by decide +kernel
theorem dX5_look_37 : decode cX5_look 37 = .ok (.getfield 10, 3) := by decide +kernel
theorem dX5_look_40 : decode cX5_look 40 = .ok (.iload 4, 2) := by decide +kernel
theorem dX5_look_42 : decode cX5_look 42 = .ok (.invokevirtual 105, 3) := by decide +kernel
theorem dX5_look_45 : decode cX5_look 45 = .ok (.istore 5, 2) := by decide +kernel
theorem dX5_look_47 : decode cX5_look 47 = .ok (.aload_n 0, 1) := by decide +kernel
theorem dX5_look_48 : decode cX5_look 48 = .ok (.getfield 47, 3) := by decide +kernel
theorem dX5_look_51 : decode cX5_look 51 = .ok (.iload 4, 2) := by decide +kernel
theorem dX5_look_53 : decode cX5_look 53 = .ok (.invokevirtual 167, 3) := by decide +kernel
theorem dX5_look_56 : decode cX5_look 56 = .ok (.iconst 1, 1) := by decide +kernel
theorem dX5_look_57 : decode cX5_look 57 = .ok (.iadd, 1) := by decide +kernel
theorem dX5_look_58 : decode cX5_look 58 = .ok (.istore 6, 2) := by decide +kernel
theorem dX5_look_60 : decode cX5_look 60 = .ok (.iload 5, 2) := by decide +kernel
theorem dX5_look_62 : decode cX5_look 62 = .ok (.ifCond .eq 38, 3) := by decide +kernel
theorem dX5_look_65 : decode cX5_look 65 = .ok (.aload_n 0, 1) := by decide +kernel
theorem dX5_look_66 : decode cX5_look 66 = .ok (.getfield 47, 3) := by decide +kernel
theorem dX5_look_69 : decode cX5_look 69 = .ok (.iload 4, 2) := by decide +kernel
theorem dX5_look_71 : decode cX5_look 71 = .ok (.invokevirtual 198, 3) := by decide +kernel
theorem dX5_look_74 : decode cX5_look 74 = .ok (.ifCond .ne 6, 3) := by decide +kernel
theorem dX5_look_77 : decode cX5_look 77 = .ok (.goto 23, 3) := by decide +kernel
theorem dX5_look_80 : decode cX5_look 80 = .ok (.iload 5, 2) := by decide +kernel
theorem dX5_look_82 : decode cX5_look 82 = .ok (.iload_n 3, 1) := by decide +kernel
theorem dX5_look_83 : decode cX5_look 83 = .ok (.imul, 1) := by decide +kernel
theorem dX5_look_84 : decode cX5_look 84 = .ok (.iload_n 2, 1) := by decide +kernel
theorem dX5_look_85 : decode cX5_look 85 = .ok (.iload 6, 2) := by decide +kernel
theorem dX5_look_87 : decode cX5_look 87 = .ok (.imul, 1) := by decide +kernel
theorem dX5_look_88 : decode cX5_look 88 = .ok (.if_icmp .le 12, 3) := by decide +kernel
theorem dX5_look_91 : decode cX5_look 91 = .ok (.iload 4, 2) := by decide +kernel
theorem dX5_look_93 : decode cX5_look 93 = .ok (.istore_n 1, 1) := by decide +kernel
theorem dX5_look_94 : decode cX5_look 94 = .ok (.iload 5, 2) := by decide +kernel
theorem dX5_look_96 : decode cX5_look 96 = .ok (.istore_n 2, 1) := by decide +kernel
theorem dX5_look_97 : decode cX5_look 97 = .ok (.iload 6, 2) := by decide +kernel
theorem dX5_look_99 : decode cX5_look 99 = .ok (.istore_n 3, 1) := by decide +kernel
theorem dX5_look_100 : decode cX5_look 100 = .ok (.iinc 4 1, 3) := by decide +kernel
theorem dX5_look_103 : decode cX5_look 103 = .ok (.goto (-74), 3) := by decide +kernel
theorem dX5_look_106 : decode cX5_look 106 = .ok (.iload_n 1, 1) := by decide +kernel
theorem dX5_look_107 : decode cX5_look 107 = .ok (.ireturn, 1) := by decide +kernel
theorem dX5_tellsMost_0 : decode cX5_tellsMost 0 = .ok (.aload_n 0, 1) := by decide +kernel
theorem dX5_tellsMost_1 : decode cX5_tellsMost 1 = .ok (.getfield 10, 3) := by decide +kernel
theorem dX5_tellsMost_4 : decode cX5_tellsMost 4 = .ok (.invokevirtual 145, 3) := by decide +kernel
theorem dX5_tellsMost_7 : decode cX5_tellsMost 7 = .ok (.ifCond .ne 6, 3) := by decide +kernel
theorem dX5_tellsMost_10 : decode cX5_tellsMost 10 = .ok (.bipush (-9), 2) := by decide +kernel
theorem dX5_tellsMost_12 : decode cX5_tellsMost 12 = .ok (.ireturn, 1) := by decide +kernel
theorem dX5_tellsMost_13 : decode cX5_tellsMost 13 = .ok (.aload_n 0, 1) := by decide +kernel
theorem dX5_tellsMost_14 : decode cX5_tellsMost 14 = .ok (.getfield 54, 3) := by decide +kernel
theorem dX5_tellsMost_17 : decode cX5_tellsMost 17 = .ok (.aload_n 0, 1) := by decide +kernel
theorem dX5_tellsMost_18 : decode cX5_tellsMost 18 = .ok (.getfield 10, 3) := by decide +kernel
theorem dX5_tellsMost_21 : decode cX5_tellsMost 21 = .ok (.aload_n 0, 1) := by decide +kernel
theorem dX5_tellsMost_22 : decode cX5_tellsMost 22 = .ok (.getfield 47, 3) := by decide +kernel
theorem dX5_tellsMost_25 : decode cX5_tellsMost 25 = .ok (.invokevirtual 137, 3) := by decide +kernel
theorem dX5_tellsMost_28 : decode cX5_tellsMost 28 = .ok (.iconst 0, 1) := by decide +kernel
theorem dX5_tellsMost_29 : decode cX5_tellsMost 29 = .ok (.istore_n 1, 1) := by decide +kernel
theorem dX5_tellsMost_30 : decode cX5_tellsMost 30 = .ok (.aload_n 0, 1) := by decide +kernel
theorem dX5_tellsMost_31 : decode cX5_tellsMost 31 = .ok (.getfield 54, 3) := by decide +kernel
theorem dX5_tellsMost_34 : decode cX5_tellsMost 34 = .ok (.aload_n 0, 1) := by decide +kernel
theorem dX5_tellsMost_35 : decode cX5_tellsMost 35 = .ok (.getfield 10, 3) := by decide +kernel
theorem dX5_tellsMost_38 : decode cX5_tellsMost 38 = .ok (.iconst 0, 1) := by decide +kernel
theorem dX5_tellsMost_39 : decode cX5_tellsMost 39 = .ok (.invokevirtual 201, 3) := by decide +kernel
theorem dX5_tellsMost_42 : decode cX5_tellsMost 42 = .ok (.istore_n 2, 1) := by decide +kernel
theorem dX5_tellsMost_43 : decode cX5_tellsMost 43 = .ok (.iconst 1, 1) := by decide +kernel
theorem dX5_tellsMost_44 : decode cX5_tellsMost 44 = .ok (.istore_n 3, 1) := by decide +kernel
theorem dX5_tellsMost_45 : decode cX5_tellsMost 45 = .ok (.iload_n 3, 1) := by decide +kernel
theorem dX5_tellsMost_46 : decode cX5_tellsMost 46 = .ok (.bipush 6, 2) := by decide +kernel
theorem dX5_tellsMost_48 : decode cX5_tellsMost 48 = .ok (.if_icmp .ge 34, 3) := by decide +kernel
theorem dX5_tellsMost_51 : decode cX5_tellsMost 51 = .ok (.aload_n 0, 1) := by decide +kernel
theorem dX5_tellsMost_52 : decode cX5_tellsMost 52 = .ok (.getfield 54, 3) := by decide +kernel
theorem dX5_tellsMost_55 : decode cX5_tellsMost 55 = .ok (.aload_n 0, 1) := by decide +kernel
theorem dX5_tellsMost_56 : decode cX5_tellsMost 56 = .ok (.getfield 10, 3) := by decide +kernel
theorem dX5_tellsMost_59 : decode cX5_tellsMost 59 = .ok (.iload_n 3, 1) := by decide +kernel
theorem dX5_tellsMost_60 : decode cX5_tellsMost 60 = .ok (.invokevirtual 201, 3) := by decide +kernel
theorem dX5_tellsMost_63 : decode cX5_tellsMost 63 = .ok (.istore 4, 2) := by decide +kernel
theorem dX5_tellsMost_65 : decode cX5_tellsMost 65 = .ok (.iload 4, 2) := by decide +kernel
theorem dX5_tellsMost_67 : decode cX5_tellsMost 67 = .ok (.iload_n 2, 1) := by decide +kernel
theorem dX5_tellsMost_68 : decode cX5_tellsMost 68 = .ok (.if_icmp .ge 8, 3) := by decide +kernel
theorem dX5_tellsMost_71 : decode cX5_tellsMost 71 = .ok (.iload_n 3, 1) := by decide +kernel
theorem dX5_tellsMost_72 : decode cX5_tellsMost 72 = .ok (.istore_n 1, 1) := by decide +kernel
theorem dX5_tellsMost_73 : decode cX5_tellsMost 73 = .ok (.iload 4, 2) := by decide +kernel
theorem dX5_tellsMost_75 : decode cX5_tellsMost 75 = .ok (.istore_n 2, 1) := by decide +kernel
theorem dX5_tellsMost_76 : decode cX5_tellsMost 76 = .ok (.iinc 3 1, 3) := by decide +kernel
theorem dX5_tellsMost_79 : decode cX5_tellsMost 79 = .ok (.goto (-34), 3) := by decide +kernel
theorem dX5_tellsMost_82 : decode cX5_tellsMost 82 = .ok (.iload_n 1, 1) := by decide +kernel
theorem dX5_tellsMost_83 : decode cX5_tellsMost 83 = .ok (.ireturn, 1) := by decide +kernel
theorem dX5_leftBy_0 : decode cX5_leftBy 0 = .ok (.iload_n 1, 1) := by decide +kernel
theorem dX5_leftBy_1 : decode cX5_leftBy 1 = .ok (.invokestatic 108, 3) := by decide +kernel
theorem dX5_leftBy_4 : decode cX5_leftBy 4 = .ok (.ifCond .ne 10, 3) := by decide +kernel
theorem dX5_leftBy_7 : decode cX5_leftBy 7 = .ok (.aload_n 0, 1) := by decide +kernel
theorem dX5_leftBy_8 : decode cX5_leftBy 8 = .ok (.bipush (-2), 2) := by decide +kernel
theorem dX5_leftBy_10 : decode cX5_leftBy 10 = .ok (.invokevirtual 65, 3) := by decide +kernel
theorem dX5_leftBy_13 : decode cX5_leftBy 13 = .ok (.ireturn, 1) := by decide +kernel
theorem dX5_leftBy_14 : decode cX5_leftBy 14 = .ok (.aload_n 0, 1) := by decide +kernel
theorem dX5_leftBy_15 : decode cX5_leftBy 15 = .ok (.getfield 54, 3) := by decide +kernel
theorem dX5_leftBy_18 : decode cX5_leftBy 18 = .ok (.aload_n 0, 1) := by decide +kernel
theorem dX5_leftBy_19 : decode cX5_leftBy 19 = .ok (.getfield 10, 3) := by decide +kernel
theorem dX5_leftBy_22 : decode cX5_leftBy 22 = .ok (.aload_n 0, 1) := by decide +kernel
theorem dX5_leftBy_23 : decode cX5_leftBy 23 = .ok (.getfield 47, 3) := by decide +kernel
theorem dX5_leftBy_26 : decode cX5_leftBy 26 = .ok (.invokevirtual 137, 3) := by decide +kernel
theorem dX5_leftBy_29 : decode cX5_leftBy 29 = .ok (.aload_n 0, 1) := by decide +kernel
theorem dX5_leftBy_30 : decode cX5_leftBy 30 = .ok (.getfield 54, 3) := by decide +kernel
theorem dX5_leftBy_33 : decode cX5_leftBy 33 = .ok (.aload_n 0, 1) := by decide +kernel
theorem dX5_leftBy_34 : decode cX5_leftBy 34 = .ok (.getfield 10, 3) := by decide +kernel
theorem dX5_leftBy_37 : decode cX5_leftBy 37 = .ok (.iload_n 1, 1) := by decide +kernel
theorem dX5_leftBy_38 : decode cX5_leftBy 38 = .ok (.invokevirtual 201, 3) := by decide +kernel
theorem dX5_leftBy_41 : decode cX5_leftBy 41 = .ok (.ireturn, 1) := by decide +kernel
theorem dX5_lie_0 : decode cX5_lie 0 = .ok (.iload_n 1, 1) := by decide +kernel
theorem dX5_lie_1 : decode cX5_lie 1 = .ok (.invokestatic 108, 3) := by decide +kernel
theorem dX5_lie_4 : decode cX5_lie 4 = .ok (.ifCond .ne 10, 3) := by decide +kernel
theorem dX5_lie_7 : decode cX5_lie 7 = .ok (.aload_n 0, 1) := by decide +kernel
theorem dX5_lie_8 : decode cX5_lie 8 = .ok (.bipush (-2), 2) := by decide +kernel
theorem dX5_lie_10 : decode cX5_lie 10 = .ok (.invokevirtual 65, 3) := by decide +kernel
theorem dX5_lie_13 : decode cX5_lie 13 = .ok (.ireturn, 1) := by decide +kernel
theorem dX5_lie_14 : decode cX5_lie 14 = .ok (.iload_n 2, 1) := by decide +kernel
theorem dX5_lie_15 : decode cX5_lie 15 = .ok (.invokestatic 95, 3) := by decide +kernel
theorem dX5_lie_18 : decode cX5_lie 18 = .ok (.ifCond .ne 9, 3) := by decide +kernel
theorem dX5_lie_21 : decode cX5_lie 21 = .ok (.aload_n 0, 1) := by decide +kernel
theorem dX5_lie_22 : decode cX5_lie 22 = .ok (.iconst (-1), 1) := by decide +kernel
theorem dX5_lie_23 : decode cX5_lie 23 = .ok (.invokevirtual 65, 3) := by decide +kernel
theorem dX5_lie_26 : decode cX5_lie 26 = .ok (.ireturn, 1) := by decide +kernel
theorem dX5_lie_27 : decode cX5_lie 27 = .ok (.aload_n 0, 1) := by decide +kernel
theorem dX5_lie_28 : decode cX5_lie 28 = .ok (.getfield 54, 3) := by decide +kernel
theorem dX5_lie_31 : decode cX5_lie 31 = .ok (.aload_n 0, 1) := by decide +kernel
theorem dX5_lie_32 : decode cX5_lie 32 = .ok (.getfield 10, 3) := by decide +kernel
theorem dX5_lie_35 : decode cX5_lie 35 = .ok (.aload_n 0, 1) := by decide +kernel
theorem dX5_lie_36 : decode cX5_lie 36 = .ok (.getfield 47, 3) := by decide +kernel
theorem dX5_lie_39 : decode cX5_lie 39 = .ok (.invokevirtual 137, 3) := by decide +kernel
theorem dX5_lie_42 : decode cX5_lie 42 = .ok (.aload_n 0, 1) := by decide +kernel
theorem dX5_lie_43 : decode cX5_lie 43 = .ok (.getfield 54, 3) := by decide +kernel
theorem dX5_lie_46 : decode cX5_lie 46 = .ok (.aload_n 0, 1) := by decide +kernel
theorem dX5_lie_47 : decode cX5_lie 47 = .ok (.getfield 10, 3) := by decide +kernel
theorem dX5_lie_50 : decode cX5_lie 50 = .ok (.iload_n 1, 1) := by decide +kernel
theorem dX5_lie_51 : decode cX5_lie 51 = .ok (.iload_n 2, 1) := by decide +kernel
theorem dX5_lie_52 : decode cX5_lie 52 = .ok (.invokevirtual 205, 3) := by decide +kernel
theorem dX5_lie_55 : decode cX5_lie 55 = .ok (.ireturn, 1) := by decide +kernel
theorem dX5_known_0 : decode cX5_known 0 = .ok (.iload_n 1, 1) := by decide +kernel
theorem dX5_known_1 : decode cX5_known 1 = .ok (.invokestatic 108, 3) := by decide +kernel
theorem dX5_known_4 : decode cX5_known 4 = .ok (.ifCond .ne 10, 3) := by decide +kernel
theorem dX5_known_7 : decode cX5_known 7 = .ok (.aload_n 0, 1) := by decide +kernel
theorem dX5_known_8 : decode cX5_known 8 = .ok (.bipush (-2), 2) := by decide +kernel
theorem dX5_known_10 : decode cX5_known 10 = .ok (.invokevirtual 65, 3) := by decide +kernel
theorem dX5_known_13 : decode cX5_known 13 = .ok (.ireturn, 1) := by decide +kernel
theorem dX5_known_14 : decode cX5_known 14 = .ok (.iload_n 2, 1) := by decide +kernel
theorem dX5_known_15 : decode cX5_known 15 = .ok (.invokestatic 95, 3) := by decide +kernel
theorem dX5_known_18 : decode cX5_known 18 = .ok (.ifCond .ne 9, 3) := by decide +kernel
theorem dX5_known_21 : decode cX5_known 21 = .ok (.aload_n 0, 1) := by decide +kernel
theorem dX5_known_22 : decode cX5_known 22 = .ok (.iconst (-1), 1) := by decide +kernel
theorem dX5_known_23 : decode cX5_known 23 = .ok (.invokevirtual 65, 3) := by decide +kernel
theorem dX5_known_26 : decode cX5_known 26 = .ok (.ireturn, 1) := by decide +kernel
theorem dX5_known_27 : decode cX5_known 27 = .ok (.aload_n 0, 1) := by decide +kernel
theorem dX5_known_28 : decode cX5_known 28 = .ok (.getfield 54, 3) := by decide +kernel
theorem dX5_known_31 : decode cX5_known 31 = .ok (.aload_n 0, 1) := by decide +kernel
theorem dX5_known_32 : decode cX5_known 32 = .ok (.getfield 10, 3) := by decide +kernel
theorem dX5_known_35 : decode cX5_known 35 = .ok (.aload_n 0, 1) := by decide +kernel
theorem dX5_known_36 : decode cX5_known 36 = .ok (.getfield 47, 3) := by decide +kernel
theorem dX5_known_39 : decode cX5_known 39 = .ok (.invokevirtual 137, 3) := by decide +kernel
theorem dX5_known_42 : decode cX5_known 42 = .ok (.aload_n 0, 1) := by decide +kernel
theorem dX5_known_43 : decode cX5_known 43 = .ok (.getfield 54, 3) := by decide +kernel
theorem dX5_known_46 : decode cX5_known 46 = .ok (.iload_n 1, 1) := by decide +kernel
theorem dX5_known_47 : decode cX5_known 47 = .ok (.iload_n 2, 1) := by decide +kernel
theorem dX5_known_48 : decode cX5_known 48 = .ok (.invokevirtual 209, 3) := by decide +kernel
theorem dX5_known_51 : decode cX5_known 51 = .ok (.ireturn, 1) := by decide +kernel
theorem dX5_needed_0 : decode cX5_needed 0 = .ok (.iload_n 1, 1) := by decide +kernel
theorem dX5_needed_1 : decode cX5_needed 1 = .ok (.invokestatic 95, 3) := by decide +kernel
theorem dX5_needed_4 : decode cX5_needed 4 = .ok (.ifCond .ne 9, 3) := by decide +kernel
theorem dX5_needed_7 : decode cX5_needed 7 = .ok (.aload_n 0, 1) := by decide +kernel
theorem dX5_needed_8 : decode cX5_needed 8 = .ok (.iconst (-1), 1) := by decide +kernel
theorem dX5_needed_9 : decode cX5_needed 9 = .ok (.invokevirtual 65, 3) := by decide +kernel
theorem dX5_needed_12 : decode cX5_needed 12 = .ok (.ireturn, 1) := by decide +kernel
theorem dX5_needed_13 : decode cX5_needed 13 = .ok (.aload_n 0, 1) := by decide +kernel
theorem dX5_needed_14 : decode cX5_needed 14 = .ok (.getfield 10, 3) := by decide +kernel
theorem dX5_needed_17 : decode cX5_needed 17 = .ok (.iload_n 1, 1) := by decide +kernel
theorem dX5_needed_18 : decode cX5_needed 18 = .ok (.invokevirtual 105, 3) := by decide +kernel
theorem dX5_needed_21 : decode cX5_needed 21 = .ok (.ifCond .ne 10, 3) := by decide +kernel
theorem dX5_needed_24 : decode cX5_needed 24 = .ok (.aload_n 0, 1) := by decide +kernel
theorem dX5_needed_25 : decode cX5_needed 25 = .ok (.bipush (-3), 2) := by decide +kernel
theorem dX5_needed_27 : decode cX5_needed 27 = .ok (.invokevirtual 65, 3) := by decide +kernel
theorem dX5_needed_30 : decode cX5_needed 30 = .ok (.ireturn, 1) := by decide +kernel
theorem dX5_needed_31 : decode cX5_needed 31 = .ok (.aload_n 0, 1) := by decide +kernel
theorem dX5_needed_32 : decode cX5_needed 32 = .ok (.getfield 54, 3) := by decide +kernel
theorem dX5_needed_35 : decode cX5_needed 35 = .ok (.aload_n 0, 1) := by decide +kernel
theorem dX5_needed_36 : decode cX5_needed 36 = .ok (.getfield 10, 3) := by decide +kernel
theorem dX5_needed_39 : decode cX5_needed 39 = .ok (.aload_n 0, 1) := by decide +kernel
theorem dX5_needed_40 : decode cX5_needed 40 = .ok (.getfield 47, 3) := by decide +kernel
theorem dX5_needed_43 : decode cX5_needed 43 = .ok (.invokevirtual 137, 3) := by decide +kernel
theorem dX5_needed_46 : decode cX5_needed 46 = .ok (.aload_n 0, 1) := by decide +kernel
theorem dX5_needed_47 : decode cX5_needed 47 = .ok (.getfield 54, 3) := by decide +kernel
theorem dX5_needed_50 : decode cX5_needed 50 = .ok (.aload_n 0, 1) := by decide +kernel
theorem dX5_needed_51 : decode cX5_needed 51 = .ok (.getfield 10, 3) := by decide +kernel
theorem dX5_needed_54 : decode cX5_needed 54 = .ok (.iload_n 1, 1) := by decide +kernel
theorem dX5_needed_55 : decode cX5_needed 55 = .ok (.invokevirtual 212, 3) := by decide +kernel
theorem dX5_needed_58 : decode cX5_needed 58 = .ok (.ireturn, 1) := by decide +kernel
theorem dX5_rivals_0 : decode cX5_rivals 0 = .ok (.iload_n 1, 1) := by decide +kernel
theorem dX5_rivals_1 : decode cX5_rivals 1 = .ok (.invokestatic 95, 3) := by decide +kernel
theorem dX5_rivals_4 : decode cX5_rivals 4 = .ok (.ifCond .eq 17, 3) := by decide +kernel
theorem dX5_rivals_7 : decode cX5_rivals 7 = .ok (.iload_n 2, 1) := by decide +kernel
theorem dX5_rivals_8 : decode cX5_rivals 8 = .ok (.invokestatic 95, 3) := by decide +kernel
theorem dX5_rivals_11 : decode cX5_rivals 11 = .ok (.ifCond .eq 10, 3) := by decide +kernel
theorem dX5_rivals_14 : decode cX5_rivals 14 = .ok (.iload_n 3, 1) := by decide +kernel
theorem dX5_rivals_15 : decode cX5_rivals 15 = .ok (.invokestatic 95, 3) := by decide +kernel
theorem dX5_rivals_18 : decode cX5_rivals 18 = .ok (.ifCond .ne 9, 3) := by decide +kernel
theorem dX5_rivals_21 : decode cX5_rivals 21 = .ok (.aload_n 0, 1) := by decide +kernel
theorem dX5_rivals_22 : decode cX5_rivals 22 = .ok (.iconst (-1), 1) := by decide +kernel
theorem dX5_rivals_23 : decode cX5_rivals 23 = .ok (.invokevirtual 65, 3) := by decide +kernel
theorem dX5_rivals_26 : decode cX5_rivals 26 = .ok (.ireturn, 1) := by decide +kernel
theorem dX5_rivals_27 : decode cX5_rivals 27 = .ok (.aload_n 0, 1) := by decide +kernel
theorem dX5_rivals_28 : decode cX5_rivals 28 = .ok (.iload_n 1, 1) := by decide +kernel
theorem dX5_rivals_29 : decode cX5_rivals 29 = .ok (.iload_n 3, 1) := by decide +kernel
theorem dX5_rivals_30 : decode cX5_rivals 30 = .ok (.invokevirtual 148, 3) := by decide +kernel
theorem dX5_rivals_33 : decode cX5_rivals 33 = .ok (.istore 4, 2) := by decide +kernel
theorem dX5_rivals_35 : decode cX5_rivals 35 = .ok (.aload_n 0, 1) := by decide +kernel
theorem dX5_rivals_36 : decode cX5_rivals 36 = .ok (.iload_n 2, 1) := by decide +kernel
theorem dX5_rivals_37 : decode cX5_rivals 37 = .ok (.iload_n 3, 1) := by decide +kernel
theorem dX5_rivals_38 : decode cX5_rivals 38 = .ok (.invokevirtual 148, 3) := by decide +kernel
theorem dX5_rivals_41 : decode cX5_rivals 41 = .ok (.istore 5, 2) := by decide +kernel
theorem dX5_rivals_43 : decode cX5_rivals 43 = .ok (.iload 4, 2) := by decide +kernel
theorem dX5_rivals_45 : decode cX5_rivals 45 = .ok (.bipush (-9), 2) := by decide +kernel
theorem dX5_rivals_47 : decode cX5_rivals 47 = .ok (.if_icmp .ne 13, 3) := by decide +kernel
theorem dX5_rivals_50 : decode cX5_rivals 50 = .ok (.iload 5, 2) := by decide +kernel
theorem dX5_rivals_52 : decode cX5_rivals 52 = .ok (.bipush (-9), 2) := by decide +kernel
theorem dX5_rivals_54 : decode cX5_rivals 54 = .ok (.if_icmp .ne 6, 3) := by decide +kernel
theorem dX5_rivals_57 : decode cX5_rivals 57 = .ok (.bipush (-9), 2) := by decide +kernel
theorem dX5_rivals_59 : decode cX5_rivals 59 = .ok (.ireturn, 1) := by decide +kernel
theorem dX5_rivals_60 : decode cX5_rivals 60 = .ok (.iload 4, 2) := by decide +kernel
theorem dX5_rivals_62 : decode cX5_rivals 62 = .ok (.iload 5, 2) := by decide +kernel
theorem dX5_rivals_64 : decode cX5_rivals 64 = .ok (.if_icmp .ne 5, 3) := by decide +kernel
theorem dX5_rivals_67 : decode cX5_rivals 67 = .ok (.iconst 2, 1) := by decide +kernel
theorem dX5_rivals_68 : decode cX5_rivals 68 = .ok (.ireturn, 1) := by decide +kernel
theorem dX5_rivals_69 : decode cX5_rivals 69 = .ok (.iload 4, 2) := by decide +kernel
theorem dX5_rivals_71 : decode cX5_rivals 71 = .ok (.bipush (-9), 2) := by decide +kernel
theorem dX5_rivals_73 : decode cX5_rivals 73 = .ok (.if_icmp .ne 5, 3) := by decide +kernel
theorem dX5_rivals_76 : decode cX5_rivals 76 = .ok (.iconst 1, 1) := by decide +kernel
theorem dX5_rivals_77 : decode cX5_rivals 77 = .ok (.ireturn, 1) := by decide +kernel
theorem dX5_rivals_78 : decode cX5_rivals 78 = .ok (.iload 5, 2) := by decide +kernel
theorem dX5_rivals_80 : decode cX5_rivals 80 = .ok (.bipush (-9), 2) := by decide +kernel
theorem dX5_rivals_82 : decode cX5_rivals 82 = .ok (.if_icmp .ne 5, 3) := by decide +kernel
theorem dX5_rivals_85 : decode cX5_rivals 85 = .ok (.iconst 0, 1) := by decide +kernel
theorem dX5_rivals_86 : decode cX5_rivals 86 = .ok (.ireturn, 1) := by decide +kernel
theorem dX5_rivals_87 : decode cX5_rivals 87 = .ok (.iload 4, 2) := by decide +kernel
theorem dX5_rivals_89 : decode cX5_rivals 89 = .ok (.iload 5, 2) := by decide +kernel
theorem dX5_rivals_91 : decode cX5_rivals 91 = .ok (.if_icmp .ge 7, 3) := by decide +kernel
theorem dX5_rivals_94 : decode cX5_rivals 94 = .ok (.iconst 0, 1) := by decide +kernel
theorem dX5_rivals_95 : decode cX5_rivals 95 = .ok (.goto 4, 3) := by decide +kernel
theorem dX5_rivals_98 : decode cX5_rivals 98 = .ok (.iconst 1, 1) := by decide +kernel
theorem dX5_rivals_99 : decode cX5_rivals 99 = .ok (.ireturn, 1) := by decide +kernel
theorem dX5_hide_0 : decode cX5_hide 0 = .ok (.iload_n 1, 1) := by decide +kernel
theorem dX5_hide_1 : decode cX5_hide 1 = .ok (.invokestatic 161, 3) := by decide +kernel
theorem dX5_hide_4 : decode cX5_hide 4 = .ok (.ifCond .ne 10, 3) := by decide +kernel
theorem dX5_hide_7 : decode cX5_hide 7 = .ok (.aload_n 0, 1) := by decide +kernel
theorem dX5_hide_8 : decode cX5_hide 8 = .ok (.bipush (-2), 2) := by decide +kernel
theorem dX5_hide_10 : decode cX5_hide 10 = .ok (.invokevirtual 65, 3) := by decide +kernel
theorem dX5_hide_13 : decode cX5_hide 13 = .ok (.ireturn, 1) := by decide +kernel
theorem dX5_hide_14 : decode cX5_hide 14 = .ok (.aload_n 0, 1) := by decide +kernel
theorem dX5_hide_15 : decode cX5_hide 15 = .ok (.getfield 54, 3) := by decide +kernel
theorem dX5_hide_18 : decode cX5_hide 18 = .ok (.aload_n 0, 1) := by decide +kernel
theorem dX5_hide_19 : decode cX5_hide 19 = .ok (.getfield 10, 3) := by decide +kernel
theorem dX5_hide_22 : decode cX5_hide 22 = .ok (.aload_n 0, 1) := by decide +kernel
theorem dX5_hide_23 : decode cX5_hide 23 = .ok (.getfield 47, 3) := by decide +kernel
theorem dX5_hide_26 : decode cX5_hide 26 = .ok (.invokevirtual 137, 3) := by decide +kernel
theorem dX5_hide_29 : decode cX5_hide 29 = .ok (.aload_n 0, 1) := by decide +kernel
theorem dX5_hide_30 : decode cX5_hide 30 = .ok (.getfield 54, 3) := by decide +kernel
theorem dX5_hide_33 : decode cX5_hide 33 = .ok (.aload_n 0, 1) := by decide +kernel
theorem dX5_hide_34 : decode cX5_hide 34 = .ok (.getfield 10, 3) := by decide +kernel
theorem dX5_hide_37 : decode cX5_hide 37 = .ok (.invokevirtual 215, 3) := by decide +kernel
theorem dX5_hide_40 : decode cX5_hide 40 = .ok (.istore_n 2, 1) := by decide +kernel
theorem dX5_hide_41 : decode cX5_hide 41 = .ok (.iload_n 2, 1) := by decide +kernel
theorem dX5_hide_42 : decode cX5_hide 42 = .ok (.bipush (-9), 2) := by decide +kernel
theorem dX5_hide_44 : decode cX5_hide 44 = .ok (.if_icmp .eq 7, 3) := by decide +kernel
theorem dX5_hide_47 : decode cX5_hide 47 = .ok (.iload_n 1, 1) := by decide +kernel
theorem dX5_hide_48 : decode cX5_hide 48 = .ok (.ifCond .ne 5, 3) := by decide +kernel
theorem dX5_hide_51 : decode cX5_hide 51 = .ok (.iload_n 2, 1) := by decide +kernel
theorem dX5_hide_52 : decode cX5_hide 52 = .ok (.ireturn, 1) := by decide +kernel
theorem dX5_hide_53 : decode cX5_hide 53 = .ok (.aload_n 0, 1) := by decide +kernel
theorem dX5_hide_54 : decode cX5_hide 54 = .ok (.getfield 54, 3) := by decide +kernel
theorem dX5_hide_57 : decode cX5_hide 57 = .ok (.aload_n 0, 1) := by decide +kernel
theorem dX5_hide_58 : decode cX5_hide 58 = .ok (.getfield 10, 3) := by decide +kernel
theorem dX5_hide_61 : decode cX5_hide 61 = .ok (.iload_n 2, 1) := by decide +kernel
theorem dX5_hide_62 : decode cX5_hide 62 = .ok (.invokevirtual 219, 3) := by decide +kernel
theorem dX5_hide_65 : decode cX5_hide 65 = .ok (.ireturn, 1) := by decide +kernel
theorem dX5_close_0 : decode cX5_close 0 = .ok (.iload_n 1, 1) := by decide +kernel
theorem dX5_close_1 : decode cX5_close 1 = .ok (.invokestatic 161, 3) := by decide +kernel
theorem dX5_close_4 : decode cX5_close 4 = .ok (.ifCond .ne 10, 3) := by decide +kernel
theorem dX5_close_7 : decode cX5_close 7 = .ok (.aload_n 0, 1) := by decide +kernel
theorem dX5_close_8 : decode cX5_close 8 = .ok (.bipush (-2), 2) := by decide +kernel
theorem dX5_close_10 : decode cX5_close 10 = .ok (.invokevirtual 65, 3) := by decide +kernel
theorem dX5_close_13 : decode cX5_close 13 = .ok (.ireturn, 1) := by decide +kernel
theorem dX5_close_14 : decode cX5_close 14 = .ok (.bipush (-9), 2) := by decide +kernel
theorem dX5_close_16 : decode cX5_close 16 = .ok (.istore_n 2, 1) := by decide +kernel
theorem dX5_close_17 : decode cX5_close 17 = .ok (.iconst 0, 1) := by decide +kernel
theorem dX5_close_18 : decode cX5_close 18 = .ok (.istore_n 3, 1) := by decide +kernel
theorem dX5_close_19 : decode cX5_close 19 = .ok (.iconst 0, 1) := by decide +kernel
theorem dX5_close_20 : decode cX5_close 20 = .ok (.istore 4, 2) := by decide +kernel
theorem dX5_close_22 : decode cX5_close 22 = .ok (.iload 4, 2) := by decide +kernel
theorem dX5_close_24 : decode cX5_close 24 = .ok (.bipush 36, 2) := by decide +kernel
theorem dX5_close_26 : decode cX5_close 26 = .ok (.if_icmp .ge 66, 3) := by decide +kernel
theorem dX5_close_29 : decode cX5_close 29 = .ok (.aload_n 0, 1) := by decide +kernel
theorem dX5_close_30 : decode cX5_close 30 = .ok (.getfield 10, 3) := by decide +kernel
theorem dX5_close_33 : decode cX5_close 33 = .ok (.iload 4, 2) := by decide +kernel
theorem dX5_close_35 : decode cX5_close 35 = .ok (.invokevirtual 102, 3) := by decide +kernel
theorem dX5_close_38 : decode cX5_close 38 = .ok (.ifCond .ne 6, 3) := by decide +kernel
theorem dX5_close_41 : decode cX5_close 41 = .ok (.goto 45, 3) := by decide +kernel
theorem dX5_close_44 : decode cX5_close 44 = .ok (.aload_n 0, 1) := by decide +kernel
theorem dX5_close_45 : decode cX5_close 45 = .ok (.getfield 47, 3) := by decide +kernel
theorem dX5_close_48 : decode cX5_close 48 = .ok (.aload_n 0, 1) := by decide +kernel
theorem dX5_close_49 : decode cX5_close 49 = .ok (.getfield 10, 3) := by decide +kernel
theorem dX5_close_52 : decode cX5_close 52 = .ok (.iload 4, 2) := by decide +kernel
theorem dX5_close_54 : decode cX5_close 54 = .ok (.invokevirtual 194, 3) := by decide +kernel
theorem dX5_close_57 : decode cX5_close 57 = .ok (.aload_n 0, 1) := by decide +kernel
theorem dX5_close_58 : decode cX5_close 58 = .ok (.getfield 47, 3) := by decide +kernel
theorem dX5_close_61 : decode cX5_close 61 = .ok (.aload_n 0, 1) := by decide +kernel
theorem dX5_close_62 : decode cX5_close 62 = .ok (.getfield 10, 3) := by decide +kernel
theorem dX5_close_65 : decode cX5_close 65 = .ok (.iconst 2, 1) := by decide +kernel
theorem dX5_close_66 : decode cX5_close 66 = .ok (.invokevirtual 111, 3) := by decide +kernel
theorem dX5_close_69 : decode cX5_close 69 = .ok (.invokevirtual 222, 3) := by decide +kernel
theorem dX5_close_72 : decode cX5_close 72 = .ok (.istore 5, 2) := by decide +kernel
theorem dX5_close_74 : decode cX5_close 74 = .ok (.iload 5, 2) := by decide +kernel
theorem dX5_close_76 : decode cX5_close 76 = .ok (.iload_n 3, 1) := by decide +kernel
theorem dX5_close_77 : decode cX5_close 77 = .ok (.if_icmp .le 9, 3) := by decide +kernel
theorem dX5_close_80 : decode cX5_close 80 = .ok (.iload 4, 2) := by decide +kernel
theorem dX5_close_82 : decode cX5_close 82 = .ok (.istore_n 2, 1) := by decide +kernel
theorem dX5_close_83 : decode cX5_close 83 = .ok (.iload 5, 2) := by decide +kernel
theorem dX5_close_85 : decode cX5_close 85 = .ok (.istore_n 3, 1) := by decide +kernel
theorem dX5_close_86 : decode cX5_close 86 = .ok (.iinc 4 1, 3) := by decide +kernel
theorem dX5_close_89 : decode cX5_close 89 = .ok (.goto (-67), 3) := by decide +kernel
theorem dX5_close_92 : decode cX5_close 92 = .ok (.iload_n 1, 1) := by decide +kernel
theorem dX5_close_93 : decode cX5_close 93 = .ok (.ifCond .ne 7, 3) := by decide +kernel
theorem dX5_close_96 : decode cX5_close 96 = .ok (.iload_n 2, 1) := by decide +kernel
theorem dX5_close_97 : decode cX5_close 97 = .ok (.goto 4, 3) := by decide +kernel
theorem dX5_close_100 : decode cX5_close 100 = .ok (.iload_n 3, 1) := by decide +kernel
theorem dX5_close_101 : decode cX5_close 101 = .ok (.ireturn, 1) := by decide +kernel
theorem dX5_row_0 : decode cX5_row 0 = .ok (.iload_n 1, 1) := by decide +kernel
theorem dX5_row_1 : decode cX5_row 1 = .ok (.ifCond .ge 10, 3) := by decide +kernel
theorem dX5_row_4 : decode cX5_row 4 = .ok (.aload_n 0, 1) := by decide +kernel
theorem dX5_row_5 : decode cX5_row 5 = .ok (.bipush (-4), 2) := by decide +kernel
theorem dX5_row_7 : decode cX5_row 7 = .ok (.invokevirtual 65, 3) := by decide +kernel
theorem dX5_row_10 : decode cX5_row 10 = .ok (.ireturn, 1) := by decide +kernel
theorem dX5_row_11 : decode cX5_row 11 = .ok (.iload_n 1, 1) := by decide +kernel
theorem dX5_row_12 : decode cX5_row 12 = .ok (.bipush 99, 2) := by decide +kernel
theorem dX5_row_14 : decode cX5_row 14 = .ok (.if_icmp .gt 22, 3) := by decide +kernel
theorem dX5_row_17 : decode cX5_row 17 = .ok (.aload_n 0, 1) := by decide +kernel
theorem dX5_row_18 : decode cX5_row 18 = .ok (.getfield 37, 3) := by decide +kernel
theorem dX5_row_21 : decode cX5_row 21 = .ok (.ifCond .lt 15, 3) := by decide +kernel
theorem dX5_row_24 : decode cX5_row 24 = .ok (.aload_n 0, 1) := by decide +kernel
theorem dX5_row_25 : decode cX5_row 25 = .ok (.getfield 37, 3) := by decide +kernel
theorem dX5_row_28 : decode cX5_row 28 = .ok (.aload_n 0, 1) := by decide +kernel
theorem dX5_row_29 : decode cX5_row 29 = .ok (.getfield 33, 3) := by decide +kernel
theorem dX5_row_32 : decode cX5_row 32 = .ok (.arraylength, 1) := by decide +kernel
theorem dX5_row_33 : decode cX5_row 33 = .ok (.if_icmp .lt 10, 3) := by decide +kernel
theorem dX5_row_36 : decode cX5_row 36 = .ok (.aload_n 0, 1) := by decide +kernel
theorem dX5_row_37 : decode cX5_row 37 = .ok (.bipush (-6), 2) := by decide +kernel
theorem dX5_row_39 : decode cX5_row 39 = .ok (.invokevirtual 65, 3) := by decide +kernel
theorem dX5_row_42 : decode cX5_row 42 = .ok (.ireturn, 1) := by decide +kernel
theorem dX5_row_43 : decode cX5_row 43 = .ok (.aload_n 0, 1) := by decide +kernel
theorem dX5_row_44 : decode cX5_row 44 = .ok (.getfield 33, 3) := by decide +kernel
theorem dX5_row_47 : decode cX5_row 47 = .ok (.aload_n 0, 1) := by decide +kernel
theorem dX5_row_48 : decode cX5_row 48 = .ok (.getfield 37, 3) := by decide +kernel
theorem dX5_row_51 : decode cX5_row 51 = .ok (.iload_n 1, 1) := by decide +kernel
theorem dX5_row_52 : decode cX5_row 52 = .ok (.iastore, 1) := by decide +kernel
theorem dX5_row_53 : decode cX5_row 53 = .ok (.aload_n 0, 1) := by decide +kernel
theorem dX5_row_54 : decode cX5_row 54 = .ok (.dup, 1) := by decide +kernel
theorem dX5_row_55 : decode cX5_row 55 = .ok (.getfield 37, 3) := by decide +kernel
theorem dX5_row_58 : decode cX5_row 58 = .ok (.iconst 1, 1) := by decide +kernel
theorem dX5_row_59 : decode cX5_row 59 = .ok (.iadd, 1) := by decide +kernel
theorem dX5_row_60 : decode cX5_row 60 = .ok (.putfield 37, 3) := by decide +kernel
theorem dX5_row_63 : decode cX5_row 63 = .ok (.aload_n 0, 1) := by decide +kernel
theorem dX5_row_64 : decode cX5_row 64 = .ok (.getfield 37, 3) := by decide +kernel
theorem dX5_row_67 : decode cX5_row 67 = .ok (.ireturn, 1) := by decide +kernel
theorem dX5_judge_0 : decode cX5_judge 0 = .ok (.iload_n 1, 1) := by decide +kernel
theorem dX5_judge_1 : decode cX5_judge 1 = .ok (.ifCond .lt 8, 3) := by decide +kernel
theorem dX5_judge_4 : decode cX5_judge 4 = .ok (.iload_n 1, 1) := by decide +kernel
theorem dX5_judge_5 : decode cX5_judge 5 = .ok (.iconst 3, 1) := by decide +kernel
theorem dX5_judge_6 : decode cX5_judge 6 = .ok (.if_icmp .le 10, 3) := by decide +kernel
theorem dX5_judge_9 : decode cX5_judge 9 = .ok (.aload_n 0, 1) := by decide +kernel
theorem dX5_judge_10 : decode cX5_judge 10 = .ok (.bipush (-2), 2) := by decide +kernel
theorem dX5_judge_12 : decode cX5_judge 12 = .ok (.invokevirtual 65, 3) := by decide +kernel
theorem dX5_judge_15 : decode cX5_judge 15 = .ok (.ireturn, 1) := by decide +kernel
theorem dX5_judge_16 : decode cX5_judge 16 = .ok (.aload_n 0, 1) := by decide +kernel
theorem dX5_judge_17 : decode cX5_judge 17 = .ok (.getfield 10, 3) := by decide +kernel
theorem dX5_judge_20 : decode cX5_judge 20 = .ok (.iconst 0, 1) := by decide +kernel
theorem dX5_judge_21 : decode cX5_judge 21 = .ok (.invokevirtual 111, 3) := by decide +kernel
theorem dX5_judge_24 : decode cX5_judge 24 = .ok (.istore_n 2, 1) := by decide +kernel
theorem dX5_judge_25 : decode cX5_judge 25 = .ok (.iconst 0, 1) := by decide +kernel
theorem dX5_judge_26 : decode cX5_judge 26 = .ok (.istore_n 3, 1) := by decide +kernel
theorem dX5_judge_27 : decode cX5_judge 27 = .ok (.iconst 0, 1) := by decide +kernel
theorem dX5_judge_28 : decode cX5_judge 28 = .ok (.istore 4, 2) := by decide +kernel
theorem dX5_judge_30 : decode cX5_judge 30 = .ok (.bipush (-9), 2) := by decide +kernel
theorem dX5_judge_32 : decode cX5_judge 32 = .ok (.istore 5, 2) := by decide +kernel
theorem dX5_judge_34 : decode cX5_judge 34 = .ok (.iconst 0, 1) := by decide +kernel
theorem dX5_judge_35 : decode cX5_judge 35 = .ok (.istore 6, 2) := by decide +kernel
theorem dX5_judge_37 : decode cX5_judge 37 = .ok (.iload 6, 2) := by decide +kernel
theorem dX5_judge_39 : decode cX5_judge 39 = .ok (.aload_n 0, 1) := by decide +kernel
theorem dX5_judge_40 : decode cX5_judge 40 = .ok (.getfield 37, 3) := by decide +kernel
theorem dX5_judge_43 : decode cX5_judge 43 = .ok (.if_icmp .ge 84, 3) := by decide +kernel
theorem dX5_judge_46 : decode cX5_judge 46 = .ok (.aload_n 0, 1) := by decide +kernel
theorem dX5_judge_47 : decode cX5_judge 47 = .ok (.iload 6, 2) := by decide +kernel
theorem dX5_judge_49 : decode cX5_judge 49 = .ok (.invokevirtual 225, 3) := by decide +kernel
theorem dX5_judge_52 : decode cX5_judge 52 = .ok (.istore 7, 2) := by decide +kernel
theorem dX5_judge_54 : decode cX5_judge 54 = .ok (.aload_n 0, 1) := by decide +kernel
theorem dX5_judge_55 : decode cX5_judge 55 = .ok (.getfield 10, 3) := by decide +kernel
theorem dX5_judge_58 : decode cX5_judge 58 = .ok (.iload_n 2, 1) := by decide +kernel
theorem dX5_judge_59 : decode cX5_judge 59 = .ok (.iload 7, 2) := by decide +kernel
theorem dX5_judge_61 : decode cX5_judge 61 = .ok (.invokevirtual 152, 3) := by decide +kernel
theorem dX5_judge_64 : decode cX5_judge 64 = .ok (.istore 8, 2) := by decide +kernel
theorem dX5_judge_66 : decode cX5_judge 66 = .ok (.iload 8, 2) := by decide +kernel
theorem dX5_judge_68 : decode cX5_judge 68 = .ok (.bipush (-9), 2) := by decide +kernel
theorem dX5_judge_70 : decode cX5_judge 70 = .ok (.if_icmp .ne 6, 3) := by decide +kernel
theorem dX5_judge_73 : decode cX5_judge 73 = .ok (.goto 54, 3) := by decide +kernel
theorem dX5_judge_76 : decode cX5_judge 76 = .ok (.iload 5, 2) := by decide +kernel
theorem dX5_judge_78 : decode cX5_judge 78 = .ok (.bipush (-9), 2) := by decide +kernel
theorem dX5_judge_80 : decode cX5_judge 80 = .ok (.if_icmp .eq 25, 3) := by decide +kernel
theorem dX5_judge_83 : decode cX5_judge 83 = .ok (.iload 5, 2) := by decide +kernel
theorem dX5_judge_85 : decode cX5_judge 85 = .ok (.iload 7, 2) := by decide +kernel
theorem dX5_judge_87 : decode cX5_judge 87 = .ok (.if_icmp .eq 18, 3) := by decide +kernel
theorem dX5_judge_90 : decode cX5_judge 90 = .ok (.aload_n 0, 1) := by decide +kernel
theorem dX5_judge_91 : decode cX5_judge 91 = .ok (.getfield 10, 3) := by decide +kernel
theorem dX5_judge_94 : decode cX5_judge 94 = .ok (.iload_n 2, 1) := by decide +kernel
theorem dX5_judge_95 : decode cX5_judge 95 = .ok (.invokevirtual 99, 3) := by decide +kernel
theorem dX5_judge_98 : decode cX5_judge 98 = .ok (.iconst 3, 1) := by decide +kernel
theorem dX5_judge_99 : decode cX5_judge 99 = .ok (.if_icmp .ne 6, 3) := by decide +kernel
theorem dX5_judge_102 : decode cX5_judge 102 = .ok (.iconst 1, 1) := by decide +kernel
theorem dX5_judge_103 : decode cX5_judge 103 = .ok (.istore 4, 2) := by decide +kernel
theorem dX5_judge_105 : decode cX5_judge 105 = .ok (.iload_n 3, 1) := by decide +kernel
theorem dX5_judge_106 : decode cX5_judge 106 = .ok (.iload 8, 2) := by decide +kernel
theorem dX5_judge_108 : decode cX5_judge 108 = .ok (.iadd, 1) := by decide +kernel
theorem dX5_judge_109 : decode cX5_judge 109 = .ok (.istore_n 3, 1) := by decide +kernel
theorem dX5_judge_110 : decode cX5_judge 110 = .ok (.iload_n 2, 1) := by decide +kernel
theorem dX5_judge_111 : decode cX5_judge 111 = .ok (.iload 7, 2) := by decide +kernel
theorem dX5_judge_113 : decode cX5_judge 113 = .ok (.invokestatic 155, 3) := by decide +kernel
theorem dX5_judge_116 : decode cX5_judge 116 = .ok (.istore_n 2, 1) := by decide +kernel
theorem dX5_judge_117 : decode cX5_judge 117 = .ok (.iload 7, 2) := by decide +kernel
theorem dX5_judge_119 : decode cX5_judge 119 = .ok (.istore 5, 2) := by decide +kernel
theorem dX5_judge_121 : decode cX5_judge 121 = .ok (.iinc 6 1, 3) := by decide +kernel
theorem dX5_judge_124 : decode cX5_judge 124 = .ok (.goto (-87), 3) := by decide +kernel
theorem dX5_judge_127 : decode cX5_judge 127 = .ok (.iload_n 1, 1) := by decide +kernel
theorem dX5_judge_128 : decode cX5_judge 128 = .ok (.tableswitch 49 0 2 #[28, 45, 47], 28) := by decide +kernel
theorem dX5_judge_156 : decode cX5_judge 156 = .ok (.iload 6, 2) := by decide +kernel
theorem dX5_judge_158 : decode cX5_judge 158 = .ok (.aload_n 0, 1) := by decide +kernel
theorem dX5_judge_159 : decode cX5_judge 159 = .ok (.getfield 37, 3) := by decide +kernel
theorem dX5_judge_162 : decode cX5_judge 162 = .ok (.if_icmp .ge 8, 3) := by decide +kernel
theorem dX5_judge_165 : decode cX5_judge 165 = .ok (.iload 6, 2) := by decide +kernel
theorem dX5_judge_167 : decode cX5_judge 167 = .ok (.goto 5, 3) := by decide +kernel
theorem dX5_judge_170 : decode cX5_judge 170 = .ok (.bipush (-9), 2) := by decide +kernel
theorem dX5_judge_172 : decode cX5_judge 172 = .ok (.ireturn, 1) := by decide +kernel
theorem dX5_judge_173 : decode cX5_judge 173 = .ok (.iload_n 2, 1) := by decide +kernel
theorem dX5_judge_174 : decode cX5_judge 174 = .ok (.ireturn, 1) := by decide +kernel
theorem dX5_judge_175 : decode cX5_judge 175 = .ok (.iload_n 3, 1) := by decide +kernel
theorem dX5_judge_176 : decode cX5_judge 176 = .ok (.ireturn, 1) := by decide +kernel
theorem dX5_judge_177 : decode cX5_judge 177 = .ok (.iload 4, 2) := by decide +kernel
theorem dX5_judge_179 : decode cX5_judge 179 = .ok (.ireturn, 1) := by decide +kernel
theorem dX5_fits_0 : decode cX5_fits 0 = .ok (.iload_n 1, 1) := by decide +kernel
theorem dX5_fits_1 : decode cX5_fits 1 = .ok (.invokestatic 161, 3) := by decide +kernel
theorem dX5_fits_4 : decode cX5_fits 4 = .ok (.ifCond .ne 10, 3) := by decide +kernel
theorem dX5_fits_7 : decode cX5_fits 7 = .ok (.aload_n 0, 1) := by decide +kernel
theorem dX5_fits_8 : decode cX5_fits 8 = .ok (.bipush (-2), 2) := by decide +kernel
theorem dX5_fits_10 : decode cX5_fits 10 = .ok (.invokevirtual 65, 3) := by decide +kernel
theorem dX5_fits_13 : decode cX5_fits 13 = .ok (.ireturn, 1) := by decide +kernel
theorem dX5_fits_14 : decode cX5_fits 14 = .ok (.aload_n 0, 1) := by decide +kernel
theorem dX5_fits_15 : decode cX5_fits 15 = .ok (.invokevirtual 228, 3) := by decide +kernel
theorem dX5_fits_18 : decode cX5_fits 18 = .ok (.ifCond .ne 10, 3) := by decide +kernel
theorem dX5_fits_21 : decode cX5_fits 21 = .ok (.aload_n 0, 1) := by decide +kernel
theorem dX5_fits_22 : decode cX5_fits 22 = .ok (.bipush (-3), 2) := by decide +kernel
theorem dX5_fits_24 : decode cX5_fits 24 = .ok (.invokevirtual 65, 3) := by decide +kernel
theorem dX5_fits_27 : decode cX5_fits 27 = .ok (.ireturn, 1) := by decide +kernel
theorem dX5_fits_28 : decode cX5_fits 28 = .ok (.aload_n 0, 1) := by decide +kernel
theorem dX5_fits_29 : decode cX5_fits 29 = .ok (.getfield 54, 3) := by decide +kernel
theorem dX5_fits_32 : decode cX5_fits 32 = .ok (.aload_n 0, 1) := by decide +kernel
theorem dX5_fits_33 : decode cX5_fits 33 = .ok (.getfield 10, 3) := by decide +kernel
theorem dX5_fits_36 : decode cX5_fits 36 = .ok (.aload_n 0, 1) := by decide +kernel
theorem dX5_fits_37 : decode cX5_fits 37 = .ok (.getfield 47, 3) := by decide +kernel
theorem dX5_fits_40 : decode cX5_fits 40 = .ok (.invokevirtual 137, 3) := by decide +kernel
theorem dX5_fits_43 : decode cX5_fits 43 = .ok (.bipush (-9), 2) := by decide +kernel
theorem dX5_fits_45 : decode cX5_fits 45 = .ok (.istore_n 2, 1) := by decide +kernel
theorem dX5_fits_46 : decode cX5_fits 46 = .ok (.iconst 0, 1) := by decide +kernel
theorem dX5_fits_47 : decode cX5_fits 47 = .ok (.istore_n 3, 1) := by decide +kernel
theorem dX5_fits_48 : decode cX5_fits 48 = .ok (.iconst 0, 1) := by decide +kernel
theorem dX5_fits_49 : decode cX5_fits 49 = .ok (.istore 4, 2) := by decide +kernel
theorem dX5_fits_51 : decode cX5_fits 51 = .ok (.iload 4, 2) := by decide +kernel
theorem dX5_fits_53 : decode cX5_fits 53 = .ok (.bipush 36, 2) := by decide +kernel
theorem dX5_fits_55 : decode cX5_fits 55 = .ok (.if_icmp .ge 45, 3) := by decide +kernel
theorem dX5_fits_58 : decode cX5_fits 58 = .ok (.aload_n 0, 1) := by decide +kernel
theorem dX5_fits_59 : decode cX5_fits 59 = .ok (.getfield 10, 3) := by decide +kernel
theorem dX5_fits_62 : decode cX5_fits 62 = .ok (.iload 4, 2) := by decide +kernel
theorem dX5_fits_64 : decode cX5_fits 64 = .ok (.invokevirtual 105, 3) := by decide +kernel
theorem dX5_fits_67 : decode cX5_fits 67 = .ok (.ifCond .eq 27, 3) := by decide +kernel
theorem dX5_fits_70 : decode cX5_fits 70 = .ok (.aload_n 0, 1) := by decide +kernel
theorem dX5_fits_71 : decode cX5_fits 71 = .ok (.iload 4, 2) := by decide +kernel
theorem dX5_fits_73 : decode cX5_fits 73 = .ok (.invokevirtual 231, 3) := by decide +kernel
theorem dX5_fits_76 : decode cX5_fits 76 = .ok (.ifCond .ne 6, 3) := by decide +kernel
theorem dX5_fits_79 : decode cX5_fits 79 = .ok (.goto 15, 3) := by decide +kernel
theorem dX5_fits_82 : decode cX5_fits 82 = .ok (.iload_n 2, 1) := by decide +kernel
theorem dX5_fits_83 : decode cX5_fits 83 = .ok (.bipush (-9), 2) := by decide +kernel
theorem dX5_fits_85 : decode cX5_fits 85 = .ok (.if_icmp .ne 6, 3) := by decide +kernel
theorem dX5_fits_88 : decode cX5_fits 88 = .ok (.iload 4, 2) := by decide +kernel
theorem dX5_fits_90 : decode cX5_fits 90 = .ok (.istore_n 2, 1) := by decide +kernel
theorem dX5_fits_91 : decode cX5_fits 91 = .ok (.iinc 3 1, 3) := by decide +kernel
theorem dX5_fits_94 : decode cX5_fits 94 = .ok (.iinc 4 1, 3) := by decide +kernel
theorem dX5_fits_97 : decode cX5_fits 97 = .ok (.goto (-46), 3) := by decide +kernel
theorem dX5_fits_100 : decode cX5_fits 100 = .ok (.iload_n 1, 1) := by decide +kernel
theorem dX5_fits_101 : decode cX5_fits 101 = .ok (.ifCond .ne 7, 3) := by decide +kernel
theorem dX5_fits_104 : decode cX5_fits 104 = .ok (.iload_n 3, 1) := by decide +kernel
theorem dX5_fits_105 : decode cX5_fits 105 = .ok (.goto 4, 3) := by decide +kernel
theorem dX5_fits_108 : decode cX5_fits 108 = .ok (.iload_n 2, 1) := by decide +kernel
theorem dX5_fits_109 : decode cX5_fits 109 = .ok (.ireturn, 1) := by decide +kernel
theorem dX5_clear_0 : decode cX5_clear 0 = .ok (.aload_n 0, 1) := by decide +kernel
theorem dX5_clear_1 : decode cX5_clear 1 = .ok (.getfield 37, 3) := by decide +kernel
theorem dX5_clear_4 : decode cX5_clear 4 = .ok (.istore_n 1, 1) := by decide +kernel
theorem dX5_clear_5 : decode cX5_clear 5 = .ok (.aload_n 0, 1) := by decide +kernel
theorem dX5_clear_6 : decode cX5_clear 6 = .ok (.iconst 0, 1) := by decide +kernel
theorem dX5_clear_7 : decode cX5_clear 7 = .ok (.putfield 37, 3) := by decide +kernel
theorem dX5_clear_10 : decode cX5_clear 10 = .ok (.iload_n 1, 1) := by decide +kernel
theorem dX5_clear_11 : decode cX5_clear 11 = .ok (.ireturn, 1) := by decide +kernel
theorem dX5_lots_0 : decode cX5_lots 0 = .ok (.iload_n 1, 1) := by decide +kernel
theorem dX5_lots_1 : decode cX5_lots 1 = .ok (.iconst 1, 1) := by decide +kernel
theorem dX5_lots_2 : decode cX5_lots 2 = .ok (.if_icmp .ge 10, 3) := by decide +kernel
theorem dX5_lots_5 : decode cX5_lots 5 = .ok (.aload_n 0, 1) := by decide +kernel
theorem dX5_lots_6 : decode cX5_lots 6 = .ok (.bipush (-4), 2) := by decide +kernel
theorem dX5_lots_8 : decode cX5_lots 8 = .ok (.invokevirtual 65, 3) := by decide +kernel
theorem dX5_lots_11 : decode cX5_lots 11 = .ok (.ireturn, 1) := by decide +kernel
theorem dX5_lots_12 : decode cX5_lots 12 = .ok (.iload_n 1, 1) := by decide +kernel
theorem dX5_lots_13 : decode cX5_lots 13 = .ok (.bipush 20, 2) := by decide +kernel
theorem dX5_lots_15 : decode cX5_lots 15 = .ok (.if_icmp .le 10, 3) := by decide +kernel
theorem dX5_lots_18 : decode cX5_lots 18 = .ok (.aload_n 0, 1) := by decide +kernel
theorem dX5_lots_19 : decode cX5_lots 19 = .ok (.bipush (-6), 2) := by decide +kernel
theorem dX5_lots_21 : decode cX5_lots 21 = .ok (.invokevirtual 65, 3) := by decide +kernel
theorem dX5_lots_24 : decode cX5_lots 24 = .ok (.ireturn, 1) := by decide +kernel
theorem dX5_lots_25 : decode cX5_lots 25 = .ok (.iload_n 3, 1) := by decide +kernel
theorem dX5_lots_26 : decode cX5_lots 26 = .ok (.invokestatic 161, 3) := by decide +kernel
theorem dX5_lots_29 : decode cX5_lots 29 = .ok (.ifCond .ne 10, 3) := by decide +kernel
theorem dX5_lots_32 : decode cX5_lots 32 = .ok (.aload_n 0, 1) := by decide +kernel
theorem dX5_lots_33 : decode cX5_lots 33 = .ok (.bipush (-2), 2) := by decide +kernel
theorem dX5_lots_35 : decode cX5_lots 35 = .ok (.invokevirtual 65, 3) := by decide +kernel
theorem dX5_lots_38 : decode cX5_lots 38 = .ok (.ireturn, 1) := by decide +kernel
theorem dX5_lots_39 : decode cX5_lots 39 = .ok (.aload_n 0, 1) := by decide +kernel
theorem dX5_lots_40 : decode cX5_lots 40 = .ok (.getfield 10, 3) := by decide +kernel
theorem dX5_lots_43 : decode cX5_lots 43 = .ok (.invokevirtual 234, 3) := by decide +kernel
theorem dX5_lots_46 : decode cX5_lots 46 = .ok (.istore 4, 2) := by decide +kernel
theorem dX5_lots_48 : decode cX5_lots 48 = .ok (.iload 4, 2) := by decide +kernel
theorem dX5_lots_50 : decode cX5_lots 50 = .ok (.ifCond .gt 10, 3) := by decide +kernel
theorem dX5_lots_53 : decode cX5_lots 53 = .ok (.aload_n 0, 1) := by decide +kernel
theorem dX5_lots_54 : decode cX5_lots 54 = .ok (.bipush (-3), 2) := by decide +kernel
theorem dX5_lots_56 : decode cX5_lots 56 = .ok (.invokevirtual 65, 3) := by decide +kernel
theorem dX5_lots_59 : decode cX5_lots 59 = .ok (.ireturn, 1) := by decide +kernel
theorem dX5_lots_60 : decode cX5_lots 60 = .ok (.aload_n 0, 1) := by decide +kernel
theorem dX5_lots_61 : decode cX5_lots 61 = .ok (.getfield 61, 3) := by decide +kernel
theorem dX5_lots_64 : decode cX5_lots 64 = .ok (.aload_n 0, 1) := by decide +kernel
theorem dX5_lots_65 : decode cX5_lots 65 = .ok (.getfield 10, 3) := by decide +kernel
theorem dX5_lots_68 : decode cX5_lots 68 = .ok (.aload_n 0, 1) := by decide +kernel
theorem dX5_lots_69 : decode cX5_lots 69 = .ok (.getfield 47, 3) := by decide +kernel
theorem dX5_lots_72 : decode cX5_lots 72 = .ok (.invokevirtual 175, 3) := by decide +kernel
theorem dX5_lots_75 : decode cX5_lots 75 = .ok (.iload_n 2, 1) := by decide +kernel
theorem dX5_lots_76 : decode cX5_lots 76 = .ok (.istore 5, 2) := by decide +kernel
theorem dX5_lots_78 : decode cX5_lots 78 = .ok (.iconst 0, 1) := by decide +kernel
theorem dX5_lots_79 : decode cX5_lots 79 = .ok (.istore 6, 2) := by decide +kernel
theorem dX5_lots_81 : decode cX5_lots 81 = .ok (.iconst 0, 1) := by decide +kernel
theorem dX5_lots_82 : decode cX5_lots 82 = .ok (.istore 7, 2) := by decide +kernel
theorem dX5_lots_84 : decode cX5_lots 84 = .ok (.iconst 0, 1) := by decide +kernel
theorem dX5_lots_85 : decode cX5_lots 85 = .ok (.istore 8, 2) := by decide +kernel
theorem dX5_lots_87 : decode cX5_lots 87 = .ok (.iload 8, 2) := by decide +kernel
theorem dX5_lots_89 : decode cX5_lots 89 = .ok (.iload_n 1, 1) := by decide +kernel
theorem dX5_lots_90 : decode cX5_lots 90 = .ok (.if_icmp .ge 78, 3) := by decide +kernel
theorem dX5_lots_93 : decode cX5_lots 93 = .ok (.iload 5, 2) := by decide +kernel
theorem dX5_lots_95 : decode cX5_lots 95 = .ok (.ldc 237, 2) := by decide +kernel
theorem dX5_lots_97 : decode cX5_lots 97 = .ok (.imul, 1) := by decide +kernel
theorem dX5_lots_98 : decode cX5_lots 98 = .ok (.ldc 238, 2) := by decide +kernel
theorem dX5_lots_100 : decode cX5_lots 100 = .ok (.iadd, 1) := by decide +kernel
theorem dX5_lots_101 : decode cX5_lots 101 = .ok (.istore 5, 2) := by decide +kernel
theorem dX5_lots_103 : decode cX5_lots 103 = .ok (.iload 5, 2) := by decide +kernel
theorem dX5_lots_105 : decode cX5_lots 105 = .ok (.ldc 239, 2) := by decide +kernel
theorem dX5_lots_107 : decode cX5_lots 107 = .ok (.iand, 1) := by decide +kernel
theorem dX5_lots_108 : decode cX5_lots 108 = .ok (.sipush 256, 3) := by decide +kernel
theorem dX5_lots_111 : decode cX5_lots 111 = .ok (.idiv, 1) := by decide +kernel
theorem dX5_lots_112 : decode cX5_lots 112 = .ok (.iload 4, 2) := by decide +kernel
theorem dX5_lots_114 : decode cX5_lots 114 = .ok (.irem, 1) := by decide +kernel
theorem dX5_lots_115 : decode cX5_lots 115 = .ok (.istore 9, 2) := by decide +kernel
theorem dX5_lots_117 : decode cX5_lots 117 = .ok (.aload_n 0, 1) := by decide +kernel
theorem dX5_lots_118 : decode cX5_lots 118 = .ok (.getfield 61, 3) := by decide +kernel
theorem dX5_lots_121 : decode cX5_lots 121 = .ok (.aload_n 0, 1) := by decide +kernel
theorem dX5_lots_122 : decode cX5_lots 122 = .ok (.getfield 10, 3) := by decide +kernel
theorem dX5_lots_125 : decode cX5_lots 125 = .ok (.iload 9, 2) := by decide +kernel
theorem dX5_lots_127 : decode cX5_lots 127 = .ok (.invokevirtual 240, 3) := by decide +kernel
theorem dX5_lots_130 : decode cX5_lots 130 = .ok (.invokevirtual 178, 3) := by decide +kernel
theorem dX5_lots_133 : decode cX5_lots 133 = .ok (.istore 10, 2) := by decide +kernel
theorem dX5_lots_135 : decode cX5_lots 135 = .ok (.iload 10, 2) := by decide +kernel
theorem dX5_lots_137 : decode cX5_lots 137 = .ok (.bipush (-9), 2) := by decide +kernel
theorem dX5_lots_139 : decode cX5_lots 139 = .ok (.if_icmp .ne 7, 3) := by decide +kernel
theorem dX5_lots_142 : decode cX5_lots 142 = .ok (.bipush 99, 2) := by decide +kernel
theorem dX5_lots_144 : decode cX5_lots 144 = .ok (.istore 10, 2) := by decide +kernel
theorem dX5_lots_146 : decode cX5_lots 146 = .ok (.iload 6, 2) := by decide +kernel
theorem dX5_lots_148 : decode cX5_lots 148 = .ok (.iload 10, 2) := by decide +kernel
theorem dX5_lots_150 : decode cX5_lots 150 = .ok (.iadd, 1) := by decide +kernel
theorem dX5_lots_151 : decode cX5_lots 151 = .ok (.istore 6, 2) := by decide +kernel
theorem dX5_lots_153 : decode cX5_lots 153 = .ok (.iload 7, 2) := by decide +kernel
theorem dX5_lots_155 : decode cX5_lots 155 = .ok (.iload 10, 2) := by decide +kernel
theorem dX5_lots_157 : decode cX5_lots 157 = .ok (.invokestatic 170, 3) := by decide +kernel
theorem dX5_lots_160 : decode cX5_lots 160 = .ok (.istore 7, 2) := by decide +kernel
theorem dX5_lots_162 : decode cX5_lots 162 = .ok (.iinc 8 1, 3) := by decide +kernel
theorem dX5_lots_165 : decode cX5_lots 165 = .ok (.goto (-78), 3) := by decide +kernel
theorem dX5_lots_168 : decode cX5_lots 168 = .ok (.iload_n 3, 1) := by decide +kernel
theorem dX5_lots_169 : decode cX5_lots 169 = .ok (.ifCond .ne 8, 3) := by decide +kernel
theorem dX5_lots_172 : decode cX5_lots 172 = .ok (.iload 6, 2) := by decide +kernel
theorem dX5_lots_174 : decode cX5_lots 174 = .ok (.goto 5, 3) := by decide +kernel
theorem dX5_lots_177 : decode cX5_lots 177 = .ok (.iload 7, 2) := by decide +kernel
theorem dX5_lots_179 : decode cX5_lots 179 = .ok (.ireturn, 1) := by decide +kernel
theorem dX5_image_0 : decode cX5_image 0 = .ok (.aload_n 0, 1) := by decide +kernel
theorem dX5_image_1 : decode cX5_image 1 = .ok (.getfield 19, 3) := by decide +kernel
theorem dX5_image_4 : decode cX5_image 4 = .ok (.aload_n 0, 1) := by decide +kernel
theorem dX5_image_5 : decode cX5_image 5 = .ok (.getfield 10, 3) := by decide +kernel
theorem dX5_image_8 : decode cX5_image 8 = .ok (.invokevirtual 84, 3) := by decide +kernel
theorem dX5_image_11 : decode cX5_image 11 = .ok (.aload_n 0, 1) := by decide +kernel
theorem dX5_image_12 : decode cX5_image 12 = .ok (.iconst 1, 1) := by decide +kernel
theorem dX5_image_13 : decode cX5_image 13 = .ok (.putfield 22, 3) := by decide +kernel
theorem dX5_image_16 : decode cX5_image 16 = .ok (.aload_n 0, 1) := by decide +kernel
theorem dX5_image_17 : decode cX5_image 17 = .ok (.getfield 10, 3) := by decide +kernel
theorem dX5_image_20 : decode cX5_image 20 = .ok (.invokevirtual 145, 3) := by decide +kernel
theorem dX5_image_23 : decode cX5_image 23 = .ok (.ireturn, 1) := by decide +kernel
theorem dX5_on_0 : decode cX5_on 0 = .ok (.aload_n 0, 1) := by decide +kernel
theorem dX5_on_1 : decode cX5_on 1 = .ok (.getfield 22, 3) := by decide +kernel
theorem dX5_on_4 : decode cX5_on 4 = .ok (.ifCond .ne 10, 3) := by decide +kernel
theorem dX5_on_7 : decode cX5_on 7 = .ok (.aload_n 0, 1) := by decide +kernel
theorem dX5_on_8 : decode cX5_on 8 = .ok (.bipush (-3), 2) := by decide +kernel
theorem dX5_on_10 : decode cX5_on 10 = .ok (.invokevirtual 65, 3) := by decide +kernel
theorem dX5_on_13 : decode cX5_on 13 = .ok (.ireturn, 1) := by decide +kernel
theorem dX5_on_14 : decode cX5_on 14 = .ok (.aload_n 0, 1) := by decide +kernel
theorem dX5_on_15 : decode cX5_on 15 = .ok (.getfield 10, 3) := by decide +kernel
theorem dX5_on_18 : decode cX5_on 18 = .ok (.aload_n 0, 1) := by decide +kernel
theorem dX5_on_19 : decode cX5_on 19 = .ok (.getfield 19, 3) := by decide +kernel
theorem dX5_on_22 : decode cX5_on 22 = .ok (.invokevirtual 84, 3) := by decide +kernel
theorem dX5_on_25 : decode cX5_on 25 = .ok (.aload_n 0, 1) := by decide +kernel
theorem dX5_on_26 : decode cX5_on 26 = .ok (.getfield 10, 3) := by decide +kernel
theorem dX5_on_29 : decode cX5_on 29 = .ok (.invokevirtual 145, 3) := by decide +kernel
theorem dX5_on_32 : decode cX5_on 32 = .ok (.ireturn, 1) := by decide +kernel
theorem dX5_count_0 : decode cX5_count 0 = .ok (.iload_n 1, 1) := by decide +kernel
theorem dX5_count_1 : decode cX5_count 1 = .ok (.tableswitch 137 0 9 #[55, 63, 71, 80, 89, 98, 107, 116, 124, 129], 55) := by decide +kernel
theorem dX5_count_56 : decode cX5_count 56 = .ok (.aload_n 0, 1) := by decide +kernel
theorem dX5_count_57 : decode cX5_count 57 = .ok (.getfield 10, 3) := by decide +kernel
theorem dX5_count_60 : decode cX5_count 60 = .ok (.invokevirtual 145, 3) := by decide +kernel
theorem dX5_count_63 : decode cX5_count 63 = .ok (.ireturn, 1) := by decide +kernel
theorem dX5_count_64 : decode cX5_count 64 = .ok (.aload_n 0, 1) := by decide +kernel
theorem dX5_count_65 : decode cX5_count 65 = .ok (.getfield 10, 3) := by decide +kernel
theorem dX5_count_68 : decode cX5_count 68 = .ok (.invokevirtual 234, 3) := by decide +kernel
theorem dX5_count_71 : decode cX5_count 71 = .ok (.ireturn, 1) := by decide +kernel
theorem dX5_count_72 : decode cX5_count 72 = .ok (.aload_n 0, 1) := by decide +kernel
theorem dX5_count_73 : decode cX5_count 73 = .ok (.getfield 10, 3) := by decide +kernel
theorem dX5_count_76 : decode cX5_count 76 = .ok (.iconst 0, 1) := by decide +kernel
theorem dX5_count_77 : decode cX5_count 77 = .ok (.invokevirtual 111, 3) := by decide +kernel
theorem dX5_count_80 : decode cX5_count 80 = .ok (.ireturn, 1) := by decide +kernel
theorem dX5_count_81 : decode cX5_count 81 = .ok (.aload_n 0, 1) := by decide +kernel
theorem dX5_count_82 : decode cX5_count 82 = .ok (.getfield 10, 3) := by decide +kernel
theorem dX5_count_85 : decode cX5_count 85 = .ok (.iconst 1, 1) := by decide +kernel
theorem dX5_count_86 : decode cX5_count 86 = .ok (.invokevirtual 111, 3) := by decide +kernel
theorem dX5_count_89 : decode cX5_count 89 = .ok (.ireturn, 1) := by decide +kernel
theorem dX5_count_90 : decode cX5_count 90 = .ok (.aload_n 0, 1) := by decide +kernel
theorem dX5_count_91 : decode cX5_count 91 = .ok (.getfield 10, 3) := by decide +kernel
theorem dX5_count_94 : decode cX5_count 94 = .ok (.iconst 2, 1) := by decide +kernel
theorem dX5_count_95 : decode cX5_count 95 = .ok (.invokevirtual 111, 3) := by decide +kernel
theorem dX5_count_98 : decode cX5_count 98 = .ok (.ireturn, 1) := by decide +kernel
theorem dX5_count_99 : decode cX5_count 99 = .ok (.aload_n 0, 1) := by decide +kernel
theorem dX5_count_100 : decode cX5_count 100 = .ok (.getfield 10, 3) := by decide +kernel
theorem dX5_count_103 : decode cX5_count 103 = .ok (.iconst 3, 1) := by decide +kernel
theorem dX5_count_104 : decode cX5_count 104 = .ok (.invokevirtual 111, 3) := by decide +kernel
theorem dX5_count_107 : decode cX5_count 107 = .ok (.ireturn, 1) := by decide +kernel
theorem dX5_count_108 : decode cX5_count 108 = .ok (.aload_n 0, 1) := by decide +kernel
theorem dX5_count_109 : decode cX5_count 109 = .ok (.getfield 10, 3) := by decide +kernel
theorem dX5_count_112 : decode cX5_count 112 = .ok (.iconst 4, 1) := by decide +kernel
theorem dX5_count_113 : decode cX5_count 113 = .ok (.invokevirtual 111, 3) := by decide +kernel
theorem dX5_count_116 : decode cX5_count 116 = .ok (.ireturn, 1) := by decide +kernel
theorem dX5_count_117 : decode cX5_count 117 = .ok (.aload_n 0, 1) := by decide +kernel
theorem dX5_count_118 : decode cX5_count 118 = .ok (.getfield 10, 3) := by decide +kernel
theorem dX5_count_121 : decode cX5_count 121 = .ok (.invokevirtual 243, 3) := by decide +kernel
theorem dX5_count_124 : decode cX5_count 124 = .ok (.ireturn, 1) := by decide +kernel
theorem dX5_count_125 : decode cX5_count 125 = .ok (.aload_n 0, 1) := by decide +kernel
theorem dX5_count_126 : decode cX5_count 126 = .ok (.getfield 37, 3) := by decide +kernel
theorem dX5_count_129 : decode cX5_count 129 = .ok (.ireturn, 1) := by decide +kernel
theorem dX5_count_130 : decode cX5_count 130 = .ok (.aload_n 0, 1) := by decide +kernel
theorem dX5_count_131 : decode cX5_count 131 = .ok (.getfield 29, 3) := by decide +kernel
theorem dX5_count_134 : decode cX5_count 134 = .ok (.invokevirtual 77, 3) := by decide +kernel
theorem dX5_count_137 : decode cX5_count 137 = .ok (.ireturn, 1) := by decide +kernel
theorem dX5_count_138 : decode cX5_count 138 = .ok (.aload_n 0, 1) := by decide +kernel
theorem dX5_count_139 : decode cX5_count 139 = .ok (.iload_n 1, 1) := by decide +kernel
theorem dX5_count_140 : decode cX5_count 140 = .ok (.bipush 11, 2) := by decide +kernel
theorem dX5_count_142 : decode cX5_count 142 = .ok (.isub, 1) := by decide +kernel
theorem dX5_count_143 : decode cX5_count 143 = .ok (.invokevirtual 246, 3) := by decide +kernel
theorem dX5_count_146 : decode cX5_count 146 = .ok (.ireturn, 1) := by decide +kernel
theorem dX5_refusalsAt_0 : decode cX5_refusalsAt 0 = .ok (.iload_n 1, 1) := by decide +kernel
theorem dX5_refusalsAt_1 : decode cX5_refusalsAt 1 = .ok (.ifCond .lt 21, 3) := by decide +kernel
theorem dX5_refusalsAt_4 : decode cX5_refusalsAt 4 = .ok (.iload_n 1, 1) := by decide +kernel
theorem dX5_refusalsAt_5 : decode cX5_refusalsAt 5 = .ok (.aload_n 0, 1) := by decide +kernel
theorem dX5_refusalsAt_6 : decode cX5_refusalsAt 6 = .ok (.getfield 41, 3) := by decide +kernel
theorem dX5_refusalsAt_9 : decode cX5_refusalsAt 9 = .ok (.arraylength, 1) := by decide +kernel
theorem dX5_refusalsAt_10 : decode cX5_refusalsAt 10 = .ok (.if_icmp .ge 12, 3) := by decide +kernel
theorem dX5_refusalsAt_13 : decode cX5_refusalsAt 13 = .ok (.aload_n 0, 1) := by decide +kernel
theorem dX5_refusalsAt_14 : decode cX5_refusalsAt 14 = .ok (.getfield 41, 3) := by decide +kernel
theorem dX5_refusalsAt_17 : decode cX5_refusalsAt 17 = .ok (.iload_n 1, 1) := by decide +kernel
theorem dX5_refusalsAt_18 : decode cX5_refusalsAt 18 = .ok (.iaload, 1) := by decide +kernel
theorem dX5_refusalsAt_19 : decode cX5_refusalsAt 19 = .ok (.goto 5, 3) := by decide +kernel
theorem dX5_refusalsAt_22 : decode cX5_refusalsAt 22 = .ok (.bipush (-9), 2) := by decide +kernel
theorem dX5_refusalsAt_24 : decode cX5_refusalsAt 24 = .ok (.ireturn, 1) := by decide +kernel
theorem dX5_refuse_0 : decode cX5_refuse 0 = .ok (.iload_n 1, 1) := by decide +kernel
theorem dX5_refuse_1 : decode cX5_refuse 1 = .ok (.ineg, 1) := by decide +kernel
theorem dX5_refuse_2 : decode cX5_refuse 2 = .ok (.iconst 1, 1) := by decide +kernel
theorem dX5_refuse_3 : decode cX5_refuse 3 = .ok (.isub, 1) := by decide +kernel
theorem dX5_refuse_4 : decode cX5_refuse 4 = .ok (.istore_n 2, 1) := by decide +kernel
theorem dX5_refuse_5 : decode cX5_refuse 5 = .ok (.iload_n 2, 1) := by decide +kernel
theorem dX5_refuse_6 : decode cX5_refuse 6 = .ok (.ifCond .lt 22, 3) := by decide +kernel
theorem dX5_refuse_9 : decode cX5_refuse 9 = .ok (.iload_n 2, 1) := by decide +kernel
theorem dX5_refuse_10 : decode cX5_refuse 10 = .ok (.aload_n 0, 1) := by decide +kernel
theorem dX5_refuse_11 : decode cX5_refuse 11 = .ok (.getfield 41, 3) := by decide +kernel
theorem dX5_refuse_14 : decode cX5_refuse 14 = .ok (.arraylength, 1) := by decide +kernel
theorem dX5_refuse_15 : decode cX5_refuse 15 = .ok (.if_icmp .ge 13, 3) := by decide +kernel
theorem dX5_refuse_18 : decode cX5_refuse 18 = .ok (.aload_n 0, 1) := by decide +kernel
theorem dX5_refuse_19 : decode cX5_refuse 19 = .ok (.getfield 41, 3) := by decide +kernel
theorem dX5_refuse_22 : decode cX5_refuse 22 = .ok (.iload_n 2, 1) := by decide +kernel
theorem dX5_refuse_23 : decode cX5_refuse 23 = .ok (.dup2, 1) := by decide +kernel
theorem dX5_refuse_24 : decode cX5_refuse 24 = .ok (.iaload, 1) := by decide +kernel
theorem dX5_refuse_25 : decode cX5_refuse 25 = .ok (.iconst 1, 1) := by decide +kernel
theorem dX5_refuse_26 : decode cX5_refuse 26 = .ok (.iadd, 1) := by decide +kernel
theorem dX5_refuse_27 : decode cX5_refuse 27 = .ok (.iastore, 1) := by decide +kernel
theorem dX5_refuse_28 : decode cX5_refuse 28 = .ok (.iload_n 1, 1) := by decide +kernel
theorem dX5_refuse_29 : decode cX5_refuse 29 = .ok (.ireturn, 1) := by decide +kernel
theorem dX5_isSquare_0 : decode cX5_isSquare 0 = .ok (.iload_n 0, 1) := by decide +kernel
theorem dX5_isSquare_1 : decode cX5_isSquare 1 = .ok (.ifCond .lt 13, 3) := by decide +kernel
theorem dX5_isSquare_4 : decode cX5_isSquare 4 = .ok (.iload_n 0, 1) := by decide +kernel
theorem dX5_isSquare_5 : decode cX5_isSquare 5 = .ok (.bipush 36, 2) := by decide +kernel
theorem dX5_isSquare_7 : decode cX5_isSquare 7 = .ok (.if_icmp .ge 7, 3) := by decide +kernel
theorem dX5_isSquare_10 : decode cX5_isSquare 10 = .ok (.iconst 1, 1) := by decide +kernel
theorem dX5_isSquare_11 : decode cX5_isSquare 11 = .ok (.goto 4, 3) := by decide +kernel
theorem dX5_isSquare_14 : decode cX5_isSquare 14 = .ok (.iconst 0, 1) := by decide +kernel
theorem dX5_isSquare_15 : decode cX5_isSquare 15 = .ok (.ireturn, 1) := by decide +kernel
theorem dX5_isKind_0 : decode cX5_isKind 0 = .ok (.iload_n 0, 1) := by decide +kernel
theorem dX5_isKind_1 : decode cX5_isKind 1 = .ok (.ifCond .lt 13, 3) := by decide +kernel
theorem dX5_isKind_4 : decode cX5_isKind 4 = .ok (.iload_n 0, 1) := by decide +kernel
theorem dX5_isKind_5 : decode cX5_isKind 5 = .ok (.bipush 6, 2) := by decide +kernel
theorem dX5_isKind_7 : decode cX5_isKind 7 = .ok (.if_icmp .ge 7, 3) := by decide +kernel
theorem dX5_isKind_10 : decode cX5_isKind 10 = .ok (.iconst 1, 1) := by decide +kernel
theorem dX5_isKind_11 : decode cX5_isKind 11 = .ok (.goto 4, 3) := by decide +kernel
theorem dX5_isKind_14 : decode cX5_isKind 14 = .ok (.iconst 0, 1) := by decide +kernel
theorem dX5_isKind_15 : decode cX5_isKind 15 = .ok (.ireturn, 1) := by decide +kernel
theorem dX5_isOneOfTwo_0 : decode cX5_isOneOfTwo 0 = .ok (.iload_n 0, 1) := by decide +kernel
theorem dX5_isOneOfTwo_1 : decode cX5_isOneOfTwo 1 = .ok (.ifCond .eq 8, 3) := by decide +kernel
theorem dX5_isOneOfTwo_4 : decode cX5_isOneOfTwo 4 = .ok (.iload_n 0, 1) := by decide +kernel
theorem dX5_isOneOfTwo_5 : decode cX5_isOneOfTwo 5 = .ok (.iconst 1, 1) := by decide +kernel
theorem dX5_isOneOfTwo_6 : decode cX5_isOneOfTwo 6 = .ok (.if_icmp .ne 7, 3) := by decide +kernel
theorem dX5_isOneOfTwo_9 : decode cX5_isOneOfTwo 9 = .ok (.iconst 1, 1) := by decide +kernel
theorem dX5_isOneOfTwo_10 : decode cX5_isOneOfTwo 10 = .ok (.goto 4, 3) := by decide +kernel
theorem dX5_isOneOfTwo_13 : decode cX5_isOneOfTwo 13 = .ok (.iconst 0, 1) := by decide +kernel
theorem dX5_isOneOfTwo_14 : decode cX5_isOneOfTwo 14 = .ok (.ireturn, 1) := by decide +kernel
theorem dX5_daysBetween_0 : decode cX5_daysBetween 0 = .ok (.aload_n 0, 1) := by decide +kernel
theorem dX5_daysBetween_1 : decode cX5_daysBetween 1 = .ok (.getfield 47, 3) := by decide +kernel
theorem dX5_daysBetween_4 : decode cX5_daysBetween 4 = .ok (.aload_n 0, 1) := by decide +kernel
theorem dX5_daysBetween_5 : decode cX5_daysBetween 5 = .ok (.getfield 10, 3) := by decide +kernel
theorem dX5_daysBetween_8 : decode cX5_daysBetween 8 = .ok (.iload_n 1, 1) := by decide +kernel
theorem dX5_daysBetween_9 : decode cX5_daysBetween 9 = .ok (.invokevirtual 194, 3) := by decide +kernel
theorem dX5_daysBetween_12 : decode cX5_daysBetween 12 = .ok (.aload_n 0, 1) := by decide +kernel
theorem dX5_daysBetween_13 : decode cX5_daysBetween 13 = .ok (.getfield 47, 3) := by decide +kernel
theorem dX5_daysBetween_16 : decode cX5_daysBetween 16 = .ok (.iload_n 2, 1) := by decide +kernel
theorem dX5_daysBetween_17 : decode cX5_daysBetween 17 = .ok (.invokevirtual 167, 3) := by decide +kernel
theorem dX5_daysBetween_20 : decode cX5_daysBetween 20 = .ok (.ireturn, 1) := by decide +kernel
theorem dX5_daysShaken_0 : decode cX5_daysShaken 0 = .ok (.aload_n 0, 1) := by decide +kernel
theorem dX5_daysShaken_1 : decode cX5_daysShaken 1 = .ok (.getfield 47, 3) := by decide +kernel
theorem dX5_daysShaken_4 : decode cX5_daysShaken 4 = .ok (.aload_n 0, 1) := by decide +kernel
theorem dX5_daysShaken_5 : decode cX5_daysShaken 5 = .ok (.getfield 10, 3) := by decide +kernel
theorem dX5_daysShaken_8 : decode cX5_daysShaken 8 = .ok (.invokevirtual 249, 3) := by decide +kernel
theorem dX5_daysShaken_11 : decode cX5_daysShaken 11 = .ok (.aload_n 0, 1) := by decide +kernel
theorem dX5_daysShaken_12 : decode cX5_daysShaken 12 = .ok (.getfield 47, 3) := by decide +kernel
theorem dX5_daysShaken_15 : decode cX5_daysShaken 15 = .ok (.iload_n 1, 1) := by decide +kernel
theorem dX5_daysShaken_16 : decode cX5_daysShaken 16 = .ok (.invokevirtual 167, 3) := by decide +kernel
theorem dX5_daysShaken_19 : decode cX5_daysShaken 19 = .ok (.ireturn, 1) := by decide +kernel
theorem dX5_wreckSquare_0 : decode cX5_wreckSquare 0 = .ok (.aload_n 0, 1) := by decide +kernel
theorem dX5_wreckSquare_1 : decode cX5_wreckSquare 1 = .ok (.getfield 47, 3) := by decide +kernel
theorem dX5_wreckSquare_4 : decode cX5_wreckSquare 4 = .ok (.aload_n 0, 1) := by decide +kernel
theorem dX5_wreckSquare_5 : decode cX5_wreckSquare 5 = .ok (.getfield 10, 3) := by decide +kernel
theorem dX5_wreckSquare_8 : decode cX5_wreckSquare 8 = .ok (.aload_n 0, 1) := by decide +kernel
theorem dX5_wreckSquare_9 : decode cX5_wreckSquare 9 = .ok (.getfield 10, 3) := by decide +kernel
theorem dX5_wreckSquare_12 : decode cX5_wreckSquare 12 = .ok (.iconst 0, 1) := by decide +kernel
theorem dX5_wreckSquare_13 : decode cX5_wreckSquare 13 = .ok (.invokevirtual 111, 3) := by decide +kernel
theorem dX5_wreckSquare_16 : decode cX5_wreckSquare 16 = .ok (.invokevirtual 194, 3) := by decide +kernel
theorem dX5_wreckSquare_19 : decode cX5_wreckSquare 19 = .ok (.bipush (-9), 2) := by decide +kernel
theorem dX5_wreckSquare_21 : decode cX5_wreckSquare 21 = .ok (.istore_n 1, 1) := by decide +kernel
theorem dX5_wreckSquare_22 : decode cX5_wreckSquare 22 = .ok (.iconst 0, 1) := by decide +kernel
theorem dX5_wreckSquare_23 : decode cX5_wreckSquare 23 = .ok (.istore_n 2, 1) := by decide +kernel
theorem dX5_wreckSquare_24 : decode cX5_wreckSquare 24 = .ok (.iload_n 2, 1) := by decide +kernel
theorem dX5_wreckSquare_25 : decode cX5_wreckSquare 25 = .ok (.bipush 36, 2) := by decide +kernel
theorem dX5_wreckSquare_27 : decode cX5_wreckSquare 27 = .ok (.if_icmp .ge 61, 3) := by decide +kernel
theorem dX5_wreckSquare_30 : decode cX5_wreckSquare 30 = .ok (.aload_n 0, 1) := by decide +kernel
theorem dX5_wreckSquare_31 : decode cX5_wreckSquare 31 = .ok (.getfield 47, 3) := by decide +kernel
theorem dX5_wreckSquare_34 : decode cX5_wreckSquare 34 = .ok (.iload_n 2, 1) := by decide +kernel
theorem dX5_wreckSquare_35 : decode cX5_wreckSquare 35 = .ok (.invokevirtual 198, 3) := by decide +kernel
theorem dX5_wreckSquare_38 : decode cX5_wreckSquare 38 = .ok (.ifCond .eq 44, 3) := by decide +kernel
theorem dX5_wreckSquare_41 : decode cX5_wreckSquare 41 = .ok (.aload_n 0, 1) := by decide +kernel
theorem dX5_wreckSquare_42 : decode cX5_wreckSquare 42 = .ok (.getfield 10, 3) := by decide +kernel
theorem dX5_wreckSquare_45 : decode cX5_wreckSquare 45 = .ok (.iload_n 2, 1) := by decide +kernel
theorem dX5_wreckSquare_46 : decode cX5_wreckSquare 46 = .ok (.invokevirtual 252, 3) := by decide +kernel
theorem dX5_wreckSquare_49 : decode cX5_wreckSquare 49 = .ok (.ifCond .ne 6, 3) := by decide +kernel
theorem dX5_wreckSquare_52 : decode cX5_wreckSquare 52 = .ok (.goto 30, 3) := by decide +kernel
theorem dX5_wreckSquare_55 : decode cX5_wreckSquare 55 = .ok (.iload_n 1, 1) := by decide +kernel
theorem dX5_wreckSquare_56 : decode cX5_wreckSquare 56 = .ok (.bipush (-9), 2) := by decide +kernel
theorem dX5_wreckSquare_58 : decode cX5_wreckSquare 58 = .ok (.if_icmp .eq 22, 3) := by decide +kernel
theorem dX5_wreckSquare_61 : decode cX5_wreckSquare 61 = .ok (.aload_n 0, 1) := by decide +kernel
theorem dX5_wreckSquare_62 : decode cX5_wreckSquare 62 = .ok (.getfield 47, 3) := by decide +kernel
theorem dX5_wreckSquare_65 : decode cX5_wreckSquare 65 = .ok (.iload_n 2, 1) := by decide +kernel
theorem dX5_wreckSquare_66 : decode cX5_wreckSquare 66 = .ok (.invokevirtual 167, 3) := by decide +kernel
theorem dX5_wreckSquare_69 : decode cX5_wreckSquare 69 = .ok (.aload_n 0, 1) := by decide +kernel
theorem dX5_wreckSquare_70 : decode cX5_wreckSquare 70 = .ok (.getfield 47, 3) := by decide +kernel
theorem dX5_wreckSquare_73 : decode cX5_wreckSquare 73 = .ok (.iload_n 1, 1) := by decide +kernel
theorem dX5_wreckSquare_74 : decode cX5_wreckSquare 74 = .ok (.invokevirtual 167, 3) := by decide +kernel
theorem dX5_wreckSquare_77 : decode cX5_wreckSquare 77 = .ok (.if_icmp .ge 5, 3) := by decide +kernel
theorem dX5_wreckSquare_80 : decode cX5_wreckSquare 80 = .ok (.iload_n 2, 1) := by decide +kernel
theorem dX5_wreckSquare_81 : decode cX5_wreckSquare 81 = .ok (.istore_n 1, 1) := by decide +kernel
theorem dX5_wreckSquare_82 : decode cX5_wreckSquare 82 = .ok (.iinc 2 1, 3) := by decide +kernel
theorem dX5_wreckSquare_85 : decode cX5_wreckSquare 85 = .ok (.goto (-61), 3) := by decide +kernel
theorem dX5_wreckSquare_88 : decode cX5_wreckSquare 88 = .ok (.iload_n 1, 1) := by decide +kernel
theorem dX5_wreckSquare_89 : decode cX5_wreckSquare 89 = .ok (.ireturn, 1) := by decide +kernel
theorem dX5_greatestCommon_0 : decode cX5_greatestCommon 0 = .ok (.lload_n 0, 1) := by decide +kernel
theorem dX5_greatestCommon_1 : decode cX5_greatestCommon 1 = .ok (.lstore 4, 2) := by decide +kernel
theorem dX5_greatestCommon_3 : decode cX5_greatestCommon 3 = .ok (.lload_n 2, 1) := by decide +kernel
theorem dX5_greatestCommon_4 : decode cX5_greatestCommon 4 = .ok (.lstore 6, 2) := by decide +kernel
theorem dX5_greatestCommon_6 : decode cX5_greatestCommon 6 = .ok (.iconst 0, 1) := by decide +kernel
theorem dX5_greatestCommon_7 : decode cX5_greatestCommon 7 = .ok (.istore 8, 2) := by decide +kernel
theorem dX5_greatestCommon_9 : decode cX5_greatestCommon 9 = .ok (.iload 8, 2) := by decide +kernel
theorem dX5_greatestCommon_11 : decode cX5_greatestCommon 11 = .ok (.bipush 100, 2) := by decide +kernel
theorem dX5_greatestCommon_13 : decode cX5_greatestCommon 13 = .ok (.if_icmp .ge 31, 3) := by decide +kernel
theorem dX5_greatestCommon_16 : decode cX5_greatestCommon 16 = .ok (.lload 6, 2) := by decide +kernel
theorem dX5_greatestCommon_18 : decode cX5_greatestCommon 18 = .ok (.lconst 0, 1) := by decide +kernel
theorem dX5_greatestCommon_19 : decode cX5_greatestCommon 19 = .ok (.lcmp, 1) := by decide +kernel
theorem dX5_greatestCommon_20 : decode cX5_greatestCommon 20 = .ok (.ifCond .eq 24, 3) := by decide +kernel
theorem dX5_greatestCommon_23 : decode cX5_greatestCommon 23 = .ok (.lload 4, 2) := by decide +kernel
theorem dX5_greatestCommon_25 : decode cX5_greatestCommon 25 = .ok (.lload 6, 2) := by decide +kernel
theorem dX5_greatestCommon_27 : decode cX5_greatestCommon 27 = .ok (.lrem, 1) := by decide +kernel
theorem dX5_greatestCommon_28 : decode cX5_greatestCommon 28 = .ok (.lstore 9, 2) := by decide +kernel
theorem dX5_greatestCommon_30 : decode cX5_greatestCommon 30 = .ok (.lload 6, 2) := by decide +kernel
theorem dX5_greatestCommon_32 : decode cX5_greatestCommon 32 = .ok (.lstore 4, 2) := by decide +kernel
theorem dX5_greatestCommon_34 : decode cX5_greatestCommon 34 = .ok (.lload 9, 2) := by decide +kernel
theorem dX5_greatestCommon_36 : decode cX5_greatestCommon 36 = .ok (.lstore 6, 2) := by decide +kernel
theorem dX5_greatestCommon_38 : decode cX5_greatestCommon 38 = .ok (.iinc 8 1, 3) := by decide +kernel
theorem dX5_greatestCommon_41 : decode cX5_greatestCommon 41 = .ok (.goto (-32), 3) := by decide +kernel
theorem dX5_greatestCommon_44 : decode cX5_greatestCommon 44 = .ok (.lload 4, 2) := by decide +kernel
theorem dX5_greatestCommon_46 : decode cX5_greatestCommon 46 = .ok (.lreturn, 1) := by decide +kernel
theorem dX5_toldAt_0 : decode cX5_toldAt 0 = .ok (.iload_n 1, 1) := by decide +kernel
theorem dX5_toldAt_1 : decode cX5_toldAt 1 = .ok (.ifCond .lt 21, 3) := by decide +kernel
theorem dX5_toldAt_4 : decode cX5_toldAt 4 = .ok (.iload_n 1, 1) := by decide +kernel
theorem dX5_toldAt_5 : decode cX5_toldAt 5 = .ok (.aload_n 0, 1) := by decide +kernel
theorem dX5_toldAt_6 : decode cX5_toldAt 6 = .ok (.getfield 33, 3) := by decide +kernel
theorem dX5_toldAt_9 : decode cX5_toldAt 9 = .ok (.arraylength, 1) := by decide +kernel
theorem dX5_toldAt_10 : decode cX5_toldAt 10 = .ok (.if_icmp .ge 12, 3) := by decide +kernel
theorem dX5_toldAt_13 : decode cX5_toldAt 13 = .ok (.aload_n 0, 1) := by decide +kernel
theorem dX5_toldAt_14 : decode cX5_toldAt 14 = .ok (.getfield 33, 3) := by decide +kernel
theorem dX5_toldAt_17 : decode cX5_toldAt 17 = .ok (.iload_n 1, 1) := by decide +kernel
theorem dX5_toldAt_18 : decode cX5_toldAt 18 = .ok (.iaload, 1) := by decide +kernel
theorem dX5_toldAt_19 : decode cX5_toldAt 19 = .ok (.goto 5, 3) := by decide +kernel
theorem dX5_toldAt_22 : decode cX5_toldAt 22 = .ok (.bipush (-9), 2) := by decide +kernel
theorem dX5_toldAt_24 : decode cX5_toldAt 24 = .ok (.ireturn, 1) := by decide +kernel
theorem dX5_tellsSigns_0 : decode cX5_tellsSigns 0 = .ok (.aload_n 0, 1) := by decide +kernel
theorem dX5_tellsSigns_1 : decode cX5_tellsSigns 1 = .ok (.getfield 37, 3) := by decide +kernel
theorem dX5_tellsSigns_4 : decode cX5_tellsSigns 4 = .ok (.iconst 2, 1) := by decide +kernel
theorem dX5_tellsSigns_5 : decode cX5_tellsSigns 5 = .ok (.irem, 1) := by decide +kernel
theorem dX5_tellsSigns_6 : decode cX5_tellsSigns 6 = .ok (.ifCond .eq 5, 3) := by decide +kernel
theorem dX5_tellsSigns_9 : decode cX5_tellsSigns 9 = .ok (.iconst 0, 1) := by decide +kernel
theorem dX5_tellsSigns_10 : decode cX5_tellsSigns 10 = .ok (.ireturn, 1) := by decide +kernel
theorem dX5_tellsSigns_11 : decode cX5_tellsSigns 11 = .ok (.iconst 0, 1) := by decide +kernel
theorem dX5_tellsSigns_12 : decode cX5_tellsSigns 12 = .ok (.istore_n 1, 1) := by decide +kernel
theorem dX5_tellsSigns_13 : decode cX5_tellsSigns 13 = .ok (.iload_n 1, 1) := by decide +kernel
theorem dX5_tellsSigns_14 : decode cX5_tellsSigns 14 = .ok (.aload_n 0, 1) := by decide +kernel
theorem dX5_tellsSigns_15 : decode cX5_tellsSigns 15 = .ok (.getfield 37, 3) := by decide +kernel
theorem dX5_tellsSigns_18 : decode cX5_tellsSigns 18 = .ok (.if_icmp .ge 22, 3) := by decide +kernel
theorem dX5_tellsSigns_21 : decode cX5_tellsSigns 21 = .ok (.aload_n 0, 1) := by decide +kernel
theorem dX5_tellsSigns_22 : decode cX5_tellsSigns 22 = .ok (.iload_n 1, 1) := by decide +kernel
theorem dX5_tellsSigns_23 : decode cX5_tellsSigns 23 = .ok (.invokevirtual 225, 3) := by decide +kernel
theorem dX5_tellsSigns_26 : decode cX5_tellsSigns 26 = .ok (.invokestatic 108, 3) := by decide +kernel
theorem dX5_tellsSigns_29 : decode cX5_tellsSigns 29 = .ok (.ifCond .ne 5, 3) := by decide +kernel
theorem dX5_tellsSigns_32 : decode cX5_tellsSigns 32 = .ok (.iconst 0, 1) := by decide +kernel
theorem dX5_tellsSigns_33 : decode cX5_tellsSigns 33 = .ok (.ireturn, 1) := by decide +kernel
theorem dX5_tellsSigns_34 : decode cX5_tellsSigns 34 = .ok (.iinc 1 2, 3) := by decide +kernel
theorem dX5_tellsSigns_37 : decode cX5_tellsSigns 37 = .ok (.goto (-24), 3) := by decide +kernel
theorem dX5_tellsSigns_40 : decode cX5_tellsSigns 40 = .ok (.iconst 1, 1) := by decide +kernel
theorem dX5_tellsSigns_41 : decode cX5_tellsSigns 41 = .ok (.ireturn, 1) := by decide +kernel
theorem dX5_allToldIsSo_0 : decode cX5_allToldIsSo 0 = .ok (.iconst 0, 1) := by decide +kernel
theorem dX5_allToldIsSo_1 : decode cX5_allToldIsSo 1 = .ok (.istore_n 2, 1) := by decide +kernel
theorem dX5_allToldIsSo_2 : decode cX5_allToldIsSo 2 = .ok (.iload_n 2, 1) := by decide +kernel
theorem dX5_allToldIsSo_3 : decode cX5_allToldIsSo 3 = .ok (.iconst 1, 1) := by decide +kernel
theorem dX5_allToldIsSo_4 : decode cX5_allToldIsSo 4 = .ok (.iadd, 1) := by decide +kernel
theorem dX5_allToldIsSo_5 : decode cX5_allToldIsSo 5 = .ok (.aload_n 0, 1) := by decide +kernel
theorem dX5_allToldIsSo_6 : decode cX5_allToldIsSo 6 = .ok (.getfield 37, 3) := by decide +kernel
theorem dX5_allToldIsSo_9 : decode cX5_allToldIsSo 9 = .ok (.if_icmp .ge 34, 3) := by decide +kernel
theorem dX5_allToldIsSo_12 : decode cX5_allToldIsSo 12 = .ok (.aload_n 0, 1) := by decide +kernel
theorem dX5_allToldIsSo_13 : decode cX5_allToldIsSo 13 = .ok (.getfield 54, 3) := by decide +kernel
theorem dX5_allToldIsSo_16 : decode cX5_allToldIsSo 16 = .ok (.aload_n 0, 1) := by decide +kernel
theorem dX5_allToldIsSo_17 : decode cX5_allToldIsSo 17 = .ok (.iload_n 2, 1) := by decide +kernel
theorem dX5_allToldIsSo_18 : decode cX5_allToldIsSo 18 = .ok (.invokevirtual 225, 3) := by decide +kernel
theorem dX5_allToldIsSo_21 : decode cX5_allToldIsSo 21 = .ok (.aload_n 0, 1) := by decide +kernel
theorem dX5_allToldIsSo_22 : decode cX5_allToldIsSo 22 = .ok (.iload_n 2, 1) := by decide +kernel
theorem dX5_allToldIsSo_23 : decode cX5_allToldIsSo 23 = .ok (.iconst 1, 1) := by decide +kernel
theorem dX5_allToldIsSo_24 : decode cX5_allToldIsSo 24 = .ok (.iadd, 1) := by decide +kernel
theorem dX5_allToldIsSo_25 : decode cX5_allToldIsSo 25 = .ok (.invokevirtual 225, 3) := by decide +kernel
theorem dX5_allToldIsSo_28 : decode cX5_allToldIsSo 28 = .ok (.iload_n 1, 1) := by decide +kernel
theorem dX5_allToldIsSo_29 : decode cX5_allToldIsSo 29 = .ok (.invokevirtual 255, 3) := by decide +kernel
theorem dX5_allToldIsSo_32 : decode cX5_allToldIsSo 32 = .ok (.ifCond .ne 5, 3) := by decide +kernel
theorem dX5_allToldIsSo_35 : decode cX5_allToldIsSo 35 = .ok (.iconst 0, 1) := by decide +kernel
theorem dX5_allToldIsSo_36 : decode cX5_allToldIsSo 36 = .ok (.ireturn, 1) := by decide +kernel
theorem dX5_allToldIsSo_37 : decode cX5_allToldIsSo 37 = .ok (.iinc 2 2, 3) := by decide +kernel
theorem dX5_allToldIsSo_40 : decode cX5_allToldIsSo 40 = .ok (.goto (-38), 3) := by decide +kernel
theorem dX5_allToldIsSo_43 : decode cX5_allToldIsSo 43 = .ok (.iconst 1, 1) := by decide +kernel
theorem dX5_allToldIsSo_44 : decode cX5_allToldIsSo 44 = .ok (.ireturn, 1) := by decide +kernel
