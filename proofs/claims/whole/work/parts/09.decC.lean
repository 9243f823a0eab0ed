theorem dX6_init_0 : decode cX6_init 0 = .ok (.aload_n 0, 1) := by decide +kernel
theorem dX6_init_1 : decode cX6_init 1 = .ok (.invokespecial 1, 3) := by decide +kernel
theorem dX6_init_4 : decode cX6_init 4 = .ok (.aload_n 0, 1) := by decide +kernel
theorem dX6_init_5 : decode cX6_init 5 = .ok (.bipush 36, 2) := by decide +kernel
theorem dX6_init_7 : decode cX6_init 7 = .ok (.newarray .int, 2) := by decide +kernel
theorem dX6_init_9 : decode cX6_init 9 = .ok (.putfield 9, 3) := by decide +kernel
theorem dX6_init_12 : decode cX6_init 12 = .ok (.aload_n 0, 1) := by decide +kernel
theorem dX6_init_13 : decode cX6_init 13 = .ok (.bipush 36, 2) := by decide +kernel
theorem dX6_init_15 : decode cX6_init 15 = .ok (.newarray .int, 2) := by decide +kernel
theorem dX6_init_17 : decode cX6_init 17 = .ok (.putfield 13, 3) := by decide +kernel
theorem dX6_init_20 : decode cX6_init 20 = .ok (.aload_n 0, 1) := by decide +kernel
theorem dX6_init_21 : decode cX6_init 21 = .ok (.iconst 5, 1) := by decide +kernel
theorem dX6_init_22 : decode cX6_init 22 = .ok (.newarray .int, 2) := by decide +kernel
theorem dX6_init_24 : decode cX6_init 24 = .ok (.putfield 16, 3) := by decide +kernel
theorem dX6_init_27 : decode cX6_init 27 = .ok (.aload_n 0, 1) := by decide +kernel
theorem dX6_init_28 : decode cX6_init 28 = .ok (.bipush 96, 2) := by decide +kernel
theorem dX6_init_30 : decode cX6_init 30 = .ok (.newarray .int, 2) := by decide +kernel
theorem dX6_init_32 : decode cX6_init 32 = .ok (.putfield 19, 3) := by decide +kernel
theorem dX6_init_35 : decode cX6_init 35 = .ok (.aload_n 0, 1) := by decide +kernel
theorem dX6_init_36 : decode cX6_init 36 = .ok (.bipush 8, 2) := by decide +kernel
theorem dX6_init_38 : decode cX6_init 38 = .ok (.newarray .int, 2) := by decide +kernel
theorem dX6_init_40 : decode cX6_init 40 = .ok (.putfield 22, 3) := by decide +kernel
theorem dX6_init_43 : decode cX6_init 43 = .ok (.aload_n 0, 1) := by decide +kernel
theorem dX6_init_44 : decode cX6_init 44 = .ok (.bipush 16, 2) := by decide +kernel
theorem dX6_init_46 : decode cX6_init 46 = .ok (.newarray .int, 2) := by decide +kernel
theorem dX6_init_48 : decode cX6_init 48 = .ok (.putfield 25, 3) := by decide +kernel
theorem dX6_init_51 : decode cX6_init 51 = .ok (.aload_n 0, 1) := by decide +kernel
theorem dX6_init_52 : decode cX6_init 52 = .ok (.bipush 7, 2) := by decide +kernel
theorem dX6_init_54 : decode cX6_init 54 = .ok (.newarray .int, 2) := by decide +kernel
theorem dX6_init_56 : decode cX6_init 56 = .ok (.putfield 28, 3) := by decide +kernel
theorem dX6_init_59 : decode cX6_init 59 = .ok (.aload_n 0, 1) := by decide +kernel
theorem dX6_init_60 : decode cX6_init 60 = .ok (.bipush 77, 2) := by decide +kernel
theorem dX6_init_62 : decode cX6_init 62 = .ok (.newarray .int, 2) := by decide +kernel
theorem dX6_init_64 : decode cX6_init 64 = .ok (.putfield 31, 3) := by decide +kernel
theorem dX6_init_67 : decode cX6_init 67 = .ok (.aload_n 0, 1) := by decide +kernel
theorem dX6_init_68 : decode cX6_init 68 = .ok (.bipush 77, 2) := by decide +kernel
theorem dX6_init_70 : decode cX6_init 70 = .ok (.newarray .int, 2) := by decide +kernel
theorem dX6_init_72 : decode cX6_init 72 = .ok (.putfield 34, 3) := by decide +kernel
theorem dX6_init_75 : decode cX6_init 75 = .ok (.aload_n 0, 1) := by decide +kernel
theorem dX6_init_76 : decode cX6_init 76 = .ok (.bipush 77, 2) := by decide +kernel
theorem dX6_init_78 : decode cX6_init 78 = .ok (.newarray .int, 2) := by decide +kernel
theorem dX6_init_80 : decode cX6_init 80 = .ok (.putfield 37, 3) := by decide +kernel
theorem dX6_init_83 : decode cX6_init 83 = .ok (.aload_n 0, 1) := by decide +kernel
theorem dX6_init_84 : decode cX6_init 84 = .ok (.bipush 36, 2) := by decide +kernel
theorem dX6_init_86 : decode cX6_init 86 = .ok (.newarray .int, 2) := by decide +kernel
theorem dX6_init_88 : decode cX6_init 88 = .ok (.putfield 40, 3) := by decide +kernel
theorem dX6_init_91 : decode cX6_init 91 = .ok (.aload_n 0, 1) := by decide +kernel
theorem dX6_init_92 : decode cX6_init 92 = .ok (.bipush 36, 2) := by decide +kernel
theorem dX6_init_94 : decode cX6_init 94 = .ok (.newarray .int, 2) := by decide +kernel
theorem dX6_init_96 : decode cX6_init 96 = .ok (.putfield 43, 3) := by decide +kernel
theorem dX6_init_99 : decode cX6_init 99 = .ok (.aload_n 0, 1) := by decide +kernel
theorem dX6_init_100 : decode cX6_init 100 = .ok (.sipush 360, 3) := by decide +kernel
theorem dX6_init_103 : decode cX6_init 103 = .ok (.newarray .int, 2) := by decide +kernel
theorem dX6_init_105 : decode cX6_init 105 = .ok (.putfield 46, 3) := by decide +kernel
theorem dX6_init_108 : decode cX6_init 108 = .ok (.iconst 0, 1) := by decide +kernel
theorem dX6_init_109 : decode cX6_init 109 = .ok (.istore_n 1, 1) := by decide +kernel
theorem dX6_init_110 : decode cX6_init 110 = .ok (.iload_n 1, 1) := by decide +kernel
theorem dX6_init_111 : decode cX6_init 111 = .ok (.bipush 36, 2) := by decide +kernel
theorem dX6_init_113 : decode cX6_init 113 = .ok (.if_icmp .ge 16, 3) := by decide +kernel
theorem dX6_init_116 : decode cX6_init 116 = .ok (.aload_n 0, 1) := by decide +kernel
theorem dX6_init_117 : decode cX6_init 117 = .ok (.getfield 13, 3) := by decide +kernel
theorem dX6_init_120 : decode cX6_init 120 = .ok (.iload_n 1, 1) := by decide +kernel
theorem dX6_init_121 : decode cX6_init 121 = .ok (.iconst 1, 1) := by decide +kernel
theorem dX6_init_122 : decode cX6_init 122 = .ok (.iastore, 1) := by decide +kernel
theorem dX6_init_123 : decode cX6_init 123 = .ok (.iinc 1 1, 3) := by decide +kernel
theorem dX6_init_126 : decode cX6_init 126 = .ok (.goto (-16), 3) := by decide +kernel
theorem dX6_init_129 : decode cX6_init 129 = .ok (.aload_n 0, 1) := by decide +kernel
theorem dX6_init_130 : decode cX6_init 130 = .ok (.getfield 16, 3) := by decide +kernel
theorem dX6_init_133 : decode cX6_init 133 = .ok (.iconst 1, 1) := by decide +kernel
theorem dX6_init_134 : decode cX6_init 134 = .ok (.iconst 4, 1) := by decide +kernel
theorem dX6_init_135 : decode cX6_init 135 = .ok (.iastore, 1) := by decide +kernel
theorem dX6_init_136 : decode cX6_init 136 = .ok (.aload_n 0, 1) := by decide +kernel
theorem dX6_init_137 : decode cX6_init 137 = .ok (.getfield 16, 3) := by decide +kernel
theorem dX6_init_140 : decode cX6_init 140 = .ok (.iconst 2, 1) := by decide +kernel
theorem dX6_init_141 : decode cX6_init 141 = .ok (.iconst 2, 1) := by decide +kernel
theorem dX6_init_142 : decode cX6_init 142 = .ok (.iastore, 1) := by decide +kernel
theorem dX6_init_143 : decode cX6_init 143 = .ok (.aload_n 0, 1) := by decide +kernel
theorem dX6_init_144 : decode cX6_init 144 = .ok (.getfield 16, 3) := by decide +kernel
theorem dX6_init_147 : decode cX6_init 147 = .ok (.iconst 3, 1) := by decide +kernel
theorem dX6_init_148 : decode cX6_init 148 = .ok (.bipush 30, 2) := by decide +kernel
theorem dX6_init_150 : decode cX6_init 150 = .ok (.iastore, 1) := by decide +kernel
theorem dX6_init_151 : decode cX6_init 151 = .ok (.aload_n 0, 1) := by decide +kernel
theorem dX6_init_152 : decode cX6_init 152 = .ok (.getfield 16, 3) := by decide +kernel
theorem dX6_init_155 : decode cX6_init 155 = .ok (.iconst 4, 1) := by decide +kernel
theorem dX6_init_156 : decode cX6_init 156 = .ok (.bipush 9, 2) := by decide +kernel
theorem dX6_init_158 : decode cX6_init 158 = .ok (.iastore, 1) := by decide +kernel
theorem dX6_init_159 : decode cX6_init 159 = .ok (.return_, 1) := by decide +kernel
theorem dX6_no_0 : decode cX6_no 0 = .ok (.aload_n 0, 1) := by decide +kernel
theorem dX6_no_1 : decode cX6_no 1 = .ok (.getfield 28, 3) := by decide +kernel
theorem dX6_no_4 : decode cX6_no 4 = .ok (.iload_n 1, 1) := by decide +kernel
theorem dX6_no_5 : decode cX6_no 5 = .ok (.ineg, 1) := by decide +kernel
theorem dX6_no_6 : decode cX6_no 6 = .ok (.dup2, 1) := by decide +kernel
theorem dX6_no_7 : decode cX6_no 7 = .ok (.iaload, 1) := by decide +kernel
theorem dX6_no_8 : decode cX6_no 8 = .ok (.iconst 1, 1) := by decide +kernel
theorem dX6_no_9 : decode cX6_no 9 = .ok (.iadd, 1) := by decide +kernel
theorem dX6_no_10 : decode cX6_no 10 = .ok (.iastore, 1) := by decide +kernel
theorem dX6_no_11 : decode cX6_no 11 = .ok (.iload_n 1, 1) := by decide +kernel
theorem dX6_no_12 : decode cX6_no 12 = .ok (.ireturn, 1) := by decide +kernel
theorem dX6_within_0 : decode cX6_within 0 = .ok (.iload_n 0, 1) := by decide +kernel
theorem dX6_within_1 : decode cX6_within 1 = .ok (.iload_n 1, 1) := by decide +kernel
theorem dX6_within_2 : decode cX6_within 2 = .ok (.if_icmp .lt 12, 3) := by decide +kernel
theorem dX6_within_5 : decode cX6_within 5 = .ok (.iload_n 0, 1) := by decide +kernel
theorem dX6_within_6 : decode cX6_within 6 = .ok (.iload_n 2, 1) := by decide +kernel
theorem dX6_within_7 : decode cX6_within 7 = .ok (.if_icmp .gt 7, 3) := by decide +kernel
theorem dX6_within_10 : decode cX6_within 10 = .ok (.iconst 1, 1) := by decide +kernel
theorem dX6_within_11 : decode cX6_within 11 = .ok (.goto 4, 3) := by decide +kernel
theorem dX6_within_14 : decode cX6_within 14 = .ok (.iconst 0, 1) := by decide +kernel
theorem dX6_within_15 : decode cX6_within 15 = .ok (.ireturn, 1) := by decide +kernel
theorem dX6_isSquare_0 : decode cX6_isSquare 0 = .ok (.iload_n 0, 1) := by decide +kernel
theorem dX6_isSquare_1 : decode cX6_isSquare 1 = .ok (.iconst 0, 1) := by decide +kernel
theorem dX6_isSquare_2 : decode cX6_isSquare 2 = .ok (.bipush 35, 2) := by decide +kernel
theorem dX6_isSquare_4 : decode cX6_isSquare 4 = .ok (.invokestatic 49, 3) := by decide +kernel
theorem dX6_isSquare_7 : decode cX6_isSquare 7 = .ok (.ireturn, 1) := by decide +kernel
theorem dX6_isKind_0 : decode cX6_isKind 0 = .ok (.iload_n 0, 1) := by decide +kernel
theorem dX6_isKind_1 : decode cX6_isKind 1 = .ok (.iconst 0, 1) := by decide +kernel
theorem dX6_isKind_2 : decode cX6_isKind 2 = .ok (.iconst 5, 1) := by decide +kernel
theorem dX6_isKind_3 : decode cX6_isKind 3 = .ok (.invokestatic 49, 3) := by decide +kernel
theorem dX6_isKind_6 : decode cX6_isKind 6 = .ok (.ireturn, 1) := by decide +kernel
theorem dX6_letter_0 : decode cX6_letter 0 = .ok (.iload_n 1, 1) := by decide +kernel
theorem dX6_letter_1 : decode cX6_letter 1 = .ok (.ifCond .ge 10, 3) := by decide +kernel
theorem dX6_letter_4 : decode cX6_letter 4 = .ok (.aload_n 0, 1) := by decide +kernel
theorem dX6_letter_5 : decode cX6_letter 5 = .ok (.bipush (-4), 2) := by decide +kernel
theorem dX6_letter_7 : decode cX6_letter 7 = .ok (.invokevirtual 53, 3) := by decide +kernel
theorem dX6_letter_10 : decode cX6_letter 10 = .ok (.ireturn, 1) := by decide +kernel
theorem dX6_letter_11 : decode cX6_letter 11 = .ok (.iload_n 1, 1) := by decide +kernel
theorem dX6_letter_12 : decode cX6_letter 12 = .ok (.sipush 255, 3) := by decide +kernel
theorem dX6_letter_15 : decode cX6_letter 15 = .ok (.if_icmp .gt 12, 3) := by decide +kernel
theorem dX6_letter_18 : decode cX6_letter 18 = .ok (.aload_n 0, 1) := by decide +kernel
theorem dX6_letter_19 : decode cX6_letter 19 = .ok (.getfield 57, 3) := by decide +kernel
theorem dX6_letter_22 : decode cX6_letter 22 = .ok (.bipush 96, 2) := by decide +kernel
theorem dX6_letter_24 : decode cX6_letter 24 = .ok (.if_icmp .ne 10, 3) := by decide +kernel
theorem dX6_letter_27 : decode cX6_letter 27 = .ok (.aload_n 0, 1) := by decide +kernel
theorem dX6_letter_28 : decode cX6_letter 28 = .ok (.bipush (-6), 2) := by decide +kernel
theorem dX6_letter_30 : decode cX6_letter 30 = .ok (.invokevirtual 53, 3) := by decide +kernel
theorem dX6_letter_33 : decode cX6_letter 33 = .ok (.ireturn, 1) := by decide +kernel
theorem dX6_letter_34 : decode cX6_letter 34 = .ok (.aload_n 0, 1) := by decide +kernel
theorem dX6_letter_35 : decode cX6_letter 35 = .ok (.getfield 19, 3) := by decide +kernel
theorem dX6_letter_38 : decode cX6_letter 38 = .ok (.aload_n 0, 1) := by decide +kernel
theorem dX6_letter_39 : decode cX6_letter 39 = .ok (.dup, 1) := by decide +kernel
theorem dX6_letter_40 : decode cX6_letter 40 = .ok (.getfield 57, 3) := by decide +kernel
theorem dX6_letter_43 : decode cX6_letter 43 = .ok (.dup_x1, 1) := by decide +kernel
theorem dX6_letter_44 : decode cX6_letter 44 = .ok (.iconst 1, 1) := by decide +kernel
theorem dX6_letter_45 : decode cX6_letter 45 = .ok (.iadd, 1) := by decide +kernel
theorem dX6_letter_46 : decode cX6_letter 46 = .ok (.putfield 57, 3) := by decide +kernel
theorem dX6_letter_49 : decode cX6_letter 49 = .ok (.iload_n 1, 1) := by decide +kernel
theorem dX6_letter_50 : decode cX6_letter 50 = .ok (.iastore, 1) := by decide +kernel
theorem dX6_letter_51 : decode cX6_letter 51 = .ok (.aload_n 0, 1) := by decide +kernel
theorem dX6_letter_52 : decode cX6_letter 52 = .ok (.getfield 57, 3) := by decide +kernel
theorem dX6_letter_55 : decode cX6_letter 55 = .ok (.ireturn, 1) := by decide +kernel
theorem dX6_is_0 : decode cX6_is 0 = .ok (.aload_n 0, 1) := by decide +kernel
theorem dX6_is_1 : decode cX6_is 1 = .ok (.getfield 61, 3) := by decide +kernel
theorem dX6_is_4 : decode cX6_is 4 = .ok (.aload_n 0, 1) := by decide +kernel
theorem dX6_is_5 : decode cX6_is 5 = .ok (.getfield 57, 3) := by decide +kernel
theorem dX6_is_8 : decode cX6_is 8 = .ok (.if_icmp .eq 16, 3) := by decide +kernel
theorem dX6_is_11 : decode cX6_is 11 = .ok (.aload_n 0, 1) := by decide +kernel
theorem dX6_is_12 : decode cX6_is 12 = .ok (.getfield 19, 3) := by decide +kernel
theorem dX6_is_15 : decode cX6_is 15 = .ok (.aload_n 0, 1) := by decide +kernel
theorem dX6_is_16 : decode cX6_is 16 = .ok (.getfield 61, 3) := by decide +kernel
theorem dX6_is_19 : decode cX6_is 19 = .ok (.iaload, 1) := by decide +kernel
theorem dX6_is_20 : decode cX6_is 20 = .ok (.iload_n 1, 1) := by decide +kernel
theorem dX6_is_21 : decode cX6_is 21 = .ok (.if_icmp .eq 5, 3) := by decide +kernel
theorem dX6_is_24 : decode cX6_is 24 = .ok (.iconst 0, 1) := by decide +kernel
theorem dX6_is_25 : decode cX6_is 25 = .ok (.ireturn, 1) := by decide +kernel
theorem dX6_is_26 : decode cX6_is 26 = .ok (.aload_n 0, 1) := by decide +kernel
theorem dX6_is_27 : decode cX6_is 27 = .ok (.dup, 1) := by decide +kernel
theorem dX6_is_28 : decode cX6_is 28 = .ok (.getfield 61, 3) := by decide +kernel
theorem dX6_is_31 : decode cX6_is 31 = .ok (.iconst 1, 1) := by decide +kernel
theorem dX6_is_32 : decode cX6_is 32 = .ok (.iadd, 1) := by decide +kernel
theorem dX6_is_33 : decode cX6_is 33 = .ok (.putfield 61, 3) := by decide +kernel
theorem dX6_is_36 : decode cX6_is 36 = .ok (.iconst 1, 1) := by decide +kernel
theorem dX6_is_37 : decode cX6_is 37 = .ok (.ireturn, 1) := by decide +kernel
theorem dX6_digits_0 : decode cX6_digits 0 = .ok (.iconst 0, 1) := by decide +kernel
theorem dX6_digits_1 : decode cX6_digits 1 = .ok (.istore_n 2, 1) := by decide +kernel
theorem dX6_digits_2 : decode cX6_digits 2 = .ok (.iload_n 2, 1) := by decide +kernel
theorem dX6_digits_3 : decode cX6_digits 3 = .ok (.iload_n 1, 1) := by decide +kernel
theorem dX6_digits_4 : decode cX6_digits 4 = .ok (.if_icmp .ge 75, 3) := by decide +kernel
theorem dX6_digits_7 : decode cX6_digits 7 = .ok (.aload_n 0, 1) := by decide +kernel
theorem dX6_digits_8 : decode cX6_digits 8 = .ok (.getfield 61, 3) := by decide +kernel
theorem dX6_digits_11 : decode cX6_digits 11 = .ok (.aload_n 0, 1) := by decide +kernel
theorem dX6_digits_12 : decode cX6_digits 12 = .ok (.getfield 57, 3) := by decide +kernel
theorem dX6_digits_15 : decode cX6_digits 15 = .ok (.if_icmp .eq 31, 3) := by decide +kernel
theorem dX6_digits_18 : decode cX6_digits 18 = .ok (.aload_n 0, 1) := by decide +kernel
theorem dX6_digits_19 : decode cX6_digits 19 = .ok (.getfield 19, 3) := by decide +kernel
theorem dX6_digits_22 : decode cX6_digits 22 = .ok (.aload_n 0, 1) := by decide +kernel
theorem dX6_digits_23 : decode cX6_digits 23 = .ok (.getfield 61, 3) := by decide +kernel
theorem dX6_digits_26 : decode cX6_digits 26 = .ok (.iaload, 1) := by decide +kernel
theorem dX6_digits_27 : decode cX6_digits 27 = .ok (.bipush 48, 2) := by decide +kernel
theorem dX6_digits_29 : decode cX6_digits 29 = .ok (.if_icmp .lt 17, 3) := by decide +kernel
theorem dX6_digits_32 : decode cX6_digits 32 = .ok (.aload_n 0, 1) := by decide +kernel
theorem dX6_digits_33 : decode cX6_digits 33 = .ok (.getfield 19, 3) := by decide +kernel
theorem dX6_digits_36 : decode cX6_digits 36 = .ok (.aload_n 0, 1) := by decide +kernel
theorem dX6_digits_37 : decode cX6_digits 37 = .ok (.getfield 61, 3) := by decide +kernel
theorem dX6_digits_40 : decode cX6_digits 40 = .ok (.iaload, 1) := by decide +kernel
theorem dX6_digits_41 : decode cX6_digits 41 = .ok (.bipush 57, 2) := by decide +kernel
theorem dX6_digits_43 : decode cX6_digits 43 = .ok (.if_icmp .le 5, 3) := by decide +kernel
theorem dX6_digits_46 : decode cX6_digits 46 = .ok (.iconst 0, 1) := by decide +kernel
theorem dX6_digits_47 : decode cX6_digits 47 = .ok (.ireturn, 1) := by decide +kernel
theorem dX6_digits_48 : decode cX6_digits 48 = .ok (.aload_n 0, 1) := by decide +kernel
theorem dX6_digits_49 : decode cX6_digits 49 = .ok (.getfield 22, 3) := by decide +kernel
theorem dX6_digits_52 : decode cX6_digits 52 = .ok (.iload_n 2, 1) := by decide +kernel
theorem dX6_digits_53 : decode cX6_digits 53 = .ok (.aload_n 0, 1) := by decide +kernel
theorem dX6_digits_54 : decode cX6_digits 54 = .ok (.getfield 19, 3) := by decide +kernel
theorem dX6_digits_57 : decode cX6_digits 57 = .ok (.aload_n 0, 1) := by decide +kernel
theorem dX6_digits_58 : decode cX6_digits 58 = .ok (.dup, 1) := by decide +kernel
theorem dX6_digits_59 : decode cX6_digits 59 = .ok (.getfield 61, 3) := by decide +kernel
theorem dX6_digits_62 : decode cX6_digits 62 = .ok (.dup_x1, 1) := by decide +kernel
theorem dX6_digits_63 : decode cX6_digits 63 = .ok (.iconst 1, 1) := by decide +kernel
theorem dX6_digits_64 : decode cX6_digits 64 = .ok (.iadd, 1) := by decide +kernel
theorem dX6_digits_65 : decode cX6_digits 65 = .ok (.putfield 61, 3) := by decide +kernel
theorem dX6_digits_68 : decode cX6_digits 68 = .ok (.iaload, 1) := by decide +kernel
theorem dX6_digits_69 : decode cX6_digits 69 = .ok (.bipush 48, 2) := by decide +kernel
theorem dX6_digits_71 : decode cX6_digits 71 = .ok (.isub, 1) := by decide +kernel
theorem dX6_digits_72 : decode cX6_digits 72 = .ok (.iastore, 1) := by decide +kernel
theorem dX6_digits_73 : decode cX6_digits 73 = .ok (.iinc 2 1, 3) := by decide +kernel
theorem dX6_digits_76 : decode cX6_digits 76 = .ok (.goto (-74), 3) := by decide +kernel
theorem dX6_digits_79 : decode cX6_digits 79 = .ok (.iconst 1, 1) := by decide +kernel
theorem dX6_digits_80 : decode cX6_digits 80 = .ok (.ireturn, 1) := by decide +kernel
theorem dX6_two_0 : decode cX6_two 0 = .ok (.bipush 10, 2) := by decide +kernel
theorem dX6_two_2 : decode cX6_two 2 = .ok (.aload_n 0, 1) := by decide +kernel
theorem dX6_two_3 : decode cX6_two 3 = .ok (.getfield 22, 3) := by decide +kernel
theorem dX6_two_6 : decode cX6_two 6 = .ok (.iload_n 1, 1) := by decide +kernel
theorem dX6_two_7 : decode cX6_two 7 = .ok (.iaload, 1) := by decide +kernel
theorem dX6_two_8 : decode cX6_two 8 = .ok (.imul, 1) := by decide +kernel
theorem dX6_two_9 : decode cX6_two 9 = .ok (.aload_n 0, 1) := by decide +kernel
theorem dX6_two_10 : decode cX6_two 10 = .ok (.getfield 22, 3) := by decide +kernel
theorem dX6_two_13 : decode cX6_two 13 = .ok (.iload_n 1, 1) := by decide +kernel
theorem dX6_two_14 : decode cX6_two 14 = .ok (.iconst 1, 1) := by decide +kernel
theorem dX6_two_15 : decode cX6_two 15 = .ok (.iadd, 1) := by decide +kernel
theorem dX6_two_16 : decode cX6_two 16 = .ok (.iaload, 1) := by decide +kernel
theorem dX6_two_17 : decode cX6_two 17 = .ok (.iadd, 1) := by decide +kernel
theorem dX6_two_18 : decode cX6_two 18 = .ok (.ireturn, 1) := by decide +kernel
theorem dX6_letterOf_0 : decode cX6_letterOf 0 = .ok (.aload_n 0, 1) := by decide +kernel
theorem dX6_letterOf_1 : decode cX6_letterOf 1 = .ok (.getfield 61, 3) := by decide +kernel
theorem dX6_letterOf_4 : decode cX6_letterOf 4 = .ok (.aload_n 0, 1) := by decide +kernel
theorem dX6_letterOf_5 : decode cX6_letterOf 5 = .ok (.getfield 57, 3) := by decide +kernel
theorem dX6_letterOf_8 : decode cX6_letterOf 8 = .ok (.if_icmp .ge 31, 3) := by decide +kernel
theorem dX6_letterOf_11 : decode cX6_letterOf 11 = .ok (.aload_n 0, 1) := by decide +kernel
theorem dX6_letterOf_12 : decode cX6_letterOf 12 = .ok (.getfield 19, 3) := by decide +kernel
theorem dX6_letterOf_15 : decode cX6_letterOf 15 = .ok (.aload_n 0, 1) := by decide +kernel
theorem dX6_letterOf_16 : decode cX6_letterOf 16 = .ok (.getfield 61, 3) := by decide +kernel
theorem dX6_letterOf_19 : decode cX6_letterOf 19 = .ok (.iaload, 1) := by decide +kernel
theorem dX6_letterOf_20 : decode cX6_letterOf 20 = .ok (.ifCond .le 19, 3) := by decide +kernel
theorem dX6_letterOf_23 : decode cX6_letterOf 23 = .ok (.aload_n 1, 1) := by decide +kernel
theorem dX6_letterOf_24 : decode cX6_letterOf 24 = .ok (.aload_n 0, 1) := by decide +kernel
theorem dX6_letterOf_25 : decode cX6_letterOf 25 = .ok (.getfield 19, 3) := by decide +kernel
theorem dX6_letterOf_28 : decode cX6_letterOf 28 = .ok (.aload_n 0, 1) := by decide +kernel
theorem dX6_letterOf_29 : decode cX6_letterOf 29 = .ok (.getfield 61, 3) := by decide +kernel
theorem dX6_letterOf_32 : decode cX6_letterOf 32 = .ok (.iaload, 1) := by decide +kernel
theorem dX6_letterOf_33 : decode cX6_letterOf 33 = .ok (.invokevirtual 64, 3) := by decide +kernel
theorem dX6_letterOf_36 : decode cX6_letterOf 36 = .ok (.goto 4, 3) := by decide +kernel
theorem dX6_letterOf_39 : decode cX6_letterOf 39 = .ok (.iconst (-1), 1) := by decide +kernel
theorem dX6_letterOf_40 : decode cX6_letterOf 40 = .ok (.istore_n 2, 1) := by decide +kernel
theorem dX6_letterOf_41 : decode cX6_letterOf 41 = .ok (.iload_n 2, 1) := by decide +kernel
theorem dX6_letterOf_42 : decode cX6_letterOf 42 = .ok (.ifCond .lt 13, 3) := by decide +kernel
theorem dX6_letterOf_45 : decode cX6_letterOf 45 = .ok (.aload_n 0, 1) := by decide +kernel
theorem dX6_letterOf_46 : decode cX6_letterOf 46 = .ok (.dup, 1) := by decide +kernel
theorem dX6_letterOf_47 : decode cX6_letterOf 47 = .ok (.getfield 61, 3) := by decide +kernel
theorem dX6_letterOf_50 : decode cX6_letterOf 50 = .ok (.iconst 1, 1) := by decide +kernel
theorem dX6_letterOf_51 : decode cX6_letterOf 51 = .ok (.iadd, 1) := by decide +kernel
theorem dX6_letterOf_52 : decode cX6_letterOf 52 = .ok (.putfield 61, 3) := by decide +kernel
theorem dX6_letterOf_55 : decode cX6_letterOf 55 = .ok (.iload_n 2, 1) := by decide +kernel
theorem dX6_letterOf_56 : decode cX6_letterOf 56 = .ok (.ireturn, 1) := by decide +kernel
theorem dX6_statement_0 : decode cX6_statement 0 = .ok (.aload_n 0, 1) := by decide +kernel
theorem dX6_statement_1 : decode cX6_statement 1 = .ok (.bipush 107, 2) := by decide +kernel
theorem dX6_statement_3 : decode cX6_statement 3 = .ok (.invokevirtual 69, 3) := by decide +kernel
theorem dX6_statement_6 : decode cX6_statement 6 = .ok (.ifCond .ne 12, 3) := by decide +kernel
theorem dX6_statement_9 : decode cX6_statement 9 = .ok (.aload_n 0, 1) := by decide +kernel
theorem dX6_statement_10 : decode cX6_statement 10 = .ok (.bipush 118, 2) := by decide +kernel
theorem dX6_statement_12 : decode cX6_statement 12 = .ok (.invokevirtual 69, 3) := by decide +kernel
theorem dX6_statement_15 : decode cX6_statement 15 = .ok (.ifCond .eq 144, 3) := by decide +kernel
theorem dX6_statement_18 : decode cX6_statement 18 = .ok (.aload_n 0, 1) := by decide +kernel
theorem dX6_statement_19 : decode cX6_statement 19 = .ok (.getfield 19, 3) := by decide +kernel
theorem dX6_statement_22 : decode cX6_statement 22 = .ok (.aload_n 0, 1) := by decide +kernel
theorem dX6_statement_23 : decode cX6_statement 23 = .ok (.getfield 61, 3) := by decide +kernel
theorem dX6_statement_26 : decode cX6_statement 26 = .ok (.iconst 1, 1) := by decide +kernel
theorem dX6_statement_27 : decode cX6_statement 27 = .ok (.isub, 1) := by decide +kernel
theorem dX6_statement_28 : decode cX6_statement 28 = .ok (.iaload, 1) := by decide +kernel
theorem dX6_statement_29 : decode cX6_statement 29 = .ok (.bipush 107, 2) := by decide +kernel
theorem dX6_statement_31 : decode cX6_statement 31 = .ok (.if_icmp .ne 7, 3) := by decide +kernel
theorem dX6_statement_34 : decode cX6_statement 34 = .ok (.iconst 1, 1) := by decide +kernel
theorem dX6_statement_35 : decode cX6_statement 35 = .ok (.goto 4, 3) := by decide +kernel
theorem dX6_statement_38 : decode cX6_statement 38 = .ok (.iconst 0, 1) := by decide +kernel
theorem dX6_statement_39 : decode cX6_statement 39 = .ok (.istore_n 2, 1) := by decide +kernel
theorem dX6_statement_40 : decode cX6_statement 40 = .ok (.aload_n 0, 1) := by decide +kernel
theorem dX6_statement_41 : decode cX6_statement 41 = .ok (.ldc 73, 2) := by decide +kernel
theorem dX6_statement_43 : decode cX6_statement 43 = .ok (.invokevirtual 75, 3) := by decide +kernel
theorem dX6_statement_46 : decode cX6_statement 46 = .ok (.istore_n 3, 1) := by decide +kernel
theorem dX6_statement_47 : decode cX6_statement 47 = .ok (.iload_n 3, 1) := by decide +kernel
theorem dX6_statement_48 : decode cX6_statement 48 = .ok (.ifCond .lt 19, 3) := by decide +kernel
theorem dX6_statement_51 : decode cX6_statement 51 = .ok (.aload_n 0, 1) := by decide +kernel
theorem dX6_statement_52 : decode cX6_statement 52 = .ok (.iload_n 2, 1) := by decide +kernel
theorem dX6_statement_53 : decode cX6_statement 53 = .ok (.ifCond .eq 7, 3) := by decide +kernel
theorem dX6_statement_56 : decode cX6_statement 56 = .ok (.iconst 2, 1) := by decide +kernel
theorem dX6_statement_57 : decode cX6_statement 57 = .ok (.goto 4, 3) := by decide +kernel
theorem dX6_statement_60 : decode cX6_statement 60 = .ok (.iconst 4, 1) := by decide +kernel
theorem dX6_statement_61 : decode cX6_statement 61 = .ok (.invokevirtual 79, 3) := by decide +kernel
theorem dX6_statement_64 : decode cX6_statement 64 = .ok (.ifCond .ne 5, 3) := by decide +kernel
theorem dX6_statement_67 : decode cX6_statement 67 = .ok (.iconst (-1), 1) := by decide +kernel
theorem dX6_statement_68 : decode cX6_statement 68 = .ok (.ireturn, 1) := by decide +kernel
theorem dX6_statement_69 : decode cX6_statement 69 = .ok (.iload_n 1, 1) := by decide +kernel
theorem dX6_statement_70 : decode cX6_statement 70 = .ok (.ifCond .ne 5, 3) := by decide +kernel
theorem dX6_statement_73 : decode cX6_statement 73 = .ok (.iconst 1, 1) := by decide +kernel
theorem dX6_statement_74 : decode cX6_statement 74 = .ok (.ireturn, 1) := by decide +kernel
theorem dX6_statement_75 : decode cX6_statement 75 = .ok (.aload_n 0, 1) := by decide +kernel
theorem dX6_statement_76 : decode cX6_statement 76 = .ok (.iconst 0, 1) := by decide +kernel
theorem dX6_statement_77 : decode cX6_statement 77 = .ok (.invokevirtual 82, 3) := by decide +kernel
theorem dX6_statement_80 : decode cX6_statement 80 = .ok (.istore 4, 2) := by decide +kernel
theorem dX6_statement_82 : decode cX6_statement 82 = .ok (.iload_n 2, 1) := by decide +kernel
theorem dX6_statement_83 : decode cX6_statement 83 = .ok (.ifCond .eq 8, 3) := by decide +kernel
theorem dX6_statement_86 : decode cX6_statement 86 = .ok (.iload 4, 2) := by decide +kernel
theorem dX6_statement_88 : decode cX6_statement 88 = .ok (.goto 8, 3) := by decide +kernel
theorem dX6_statement_91 : decode cX6_statement 91 = .ok (.aload_n 0, 1) := by decide +kernel
theorem dX6_statement_92 : decode cX6_statement 92 = .ok (.iconst 2, 1) := by decide +kernel
theorem dX6_statement_93 : decode cX6_statement 93 = .ok (.invokevirtual 82, 3) := by decide +kernel
theorem dX6_statement_96 : decode cX6_statement 96 = .ok (.istore 5, 2) := by decide +kernel
theorem dX6_statement_98 : decode cX6_statement 98 = .ok (.iload 5, 2) := by decide +kernel
theorem dX6_statement_100 : decode cX6_statement 100 = .ok (.invokestatic 85, 3) := by decide +kernel
theorem dX6_statement_103 : decode cX6_statement 103 = .ok (.ifCond .eq 10, 3) := by decide +kernel
theorem dX6_statement_106 : decode cX6_statement 106 = .ok (.iload 4, 2) := by decide +kernel
theorem dX6_statement_108 : decode cX6_statement 108 = .ok (.iload 5, 2) := by decide +kernel
theorem dX6_statement_110 : decode cX6_statement 110 = .ok (.if_icmp .le 5, 3) := by decide +kernel
theorem dX6_statement_113 : decode cX6_statement 113 = .ok (.iconst 0, 1) := by decide +kernel
theorem dX6_statement_114 : decode cX6_statement 114 = .ok (.ireturn, 1) := by decide +kernel
theorem dX6_statement_115 : decode cX6_statement 115 = .ok (.iload 4, 2) := by decide +kernel
theorem dX6_statement_117 : decode cX6_statement 117 = .ok (.istore 6, 2) := by decide +kernel
theorem dX6_statement_119 : decode cX6_statement 119 = .ok (.iload 6, 2) := by decide +kernel
theorem dX6_statement_121 : decode cX6_statement 121 = .ok (.iload 5, 2) := by decide +kernel
theorem dX6_statement_123 : decode cX6_statement 123 = .ok (.if_icmp .gt 17, 3) := by decide +kernel
theorem dX6_statement_126 : decode cX6_statement 126 = .ok (.aload_n 0, 1) := by decide +kernel
theorem dX6_statement_127 : decode cX6_statement 127 = .ok (.getfield 9, 3) := by decide +kernel
theorem dX6_statement_130 : decode cX6_statement 130 = .ok (.iload 6, 2) := by decide +kernel
theorem dX6_statement_132 : decode cX6_statement 132 = .ok (.iload_n 3, 1) := by decide +kernel
theorem dX6_statement_133 : decode cX6_statement 133 = .ok (.iastore, 1) := by decide +kernel
theorem dX6_statement_134 : decode cX6_statement 134 = .ok (.iinc 6 1, 3) := by decide +kernel
theorem dX6_statement_137 : decode cX6_statement 137 = .ok (.goto (-18), 3) := by decide +kernel
theorem dX6_statement_140 : decode cX6_statement 140 = .ok (.aload_n 0, 1) := by decide +kernel
theorem dX6_statement_141 : decode cX6_statement 141 = .ok (.aload_n 0, 1) := by decide +kernel
theorem dX6_statement_142 : decode cX6_statement 142 = .ok (.getfield 16, 3) := by decide +kernel
theorem dX6_statement_145 : decode cX6_statement 145 = .ok (.iconst 0, 1) := by decide +kernel
theorem dX6_statement_146 : decode cX6_statement 146 = .ok (.iaload, 1) := by decide +kernel
theorem dX6_statement_147 : decode cX6_statement 147 = .ok (.invokevirtual 88, 3) := by decide +kernel
theorem dX6_statement_150 : decode cX6_statement 150 = .ok (.ifCond .eq 7, 3) := by decide +kernel
theorem dX6_statement_153 : decode cX6_statement 153 = .ok (.iconst 1, 1) := by decide +kernel
theorem dX6_statement_154 : decode cX6_statement 154 = .ok (.goto 4, 3) := by decide +kernel
theorem dX6_statement_157 : decode cX6_statement 157 = .ok (.iconst 0, 1) := by decide +kernel
theorem dX6_statement_158 : decode cX6_statement 158 = .ok (.ireturn, 1) := by decide +kernel
theorem dX6_statement_159 : decode cX6_statement 159 = .ok (.aload_n 0, 1) := by decide +kernel
theorem dX6_statement_160 : decode cX6_statement 160 = .ok (.bipush 108, 2) := by decide +kernel
theorem dX6_statement_162 : decode cX6_statement 162 = .ok (.invokevirtual 69, 3) := by decide +kernel
theorem dX6_statement_165 : decode cX6_statement 165 = .ok (.ifCond .eq 80, 3) := by decide +kernel
theorem dX6_statement_168 : decode cX6_statement 168 = .ok (.aload_n 0, 1) := by decide +kernel
theorem dX6_statement_169 : decode cX6_statement 169 = .ok (.iconst 5, 1) := by decide +kernel
theorem dX6_statement_170 : decode cX6_statement 170 = .ok (.invokevirtual 79, 3) := by decide +kernel
theorem dX6_statement_173 : decode cX6_statement 173 = .ok (.ifCond .ne 5, 3) := by decide +kernel
theorem dX6_statement_176 : decode cX6_statement 176 = .ok (.iconst (-1), 1) := by decide +kernel
theorem dX6_statement_177 : decode cX6_statement 177 = .ok (.ireturn, 1) := by decide +kernel
theorem dX6_statement_178 : decode cX6_statement 178 = .ok (.iload_n 1, 1) := by decide +kernel
theorem dX6_statement_179 : decode cX6_statement 179 = .ok (.ifCond .ne 5, 3) := by decide +kernel
theorem dX6_statement_182 : decode cX6_statement 182 = .ok (.iconst 1, 1) := by decide +kernel
theorem dX6_statement_183 : decode cX6_statement 183 = .ok (.ireturn, 1) := by decide +kernel
theorem dX6_statement_184 : decode cX6_statement 184 = .ok (.aload_n 0, 1) := by decide +kernel
theorem dX6_statement_185 : decode cX6_statement 185 = .ok (.iconst 2, 1) := by decide +kernel
theorem dX6_statement_186 : decode cX6_statement 186 = .ok (.invokevirtual 82, 3) := by decide +kernel
theorem dX6_statement_189 : decode cX6_statement 189 = .ok (.invokestatic 85, 3) := by decide +kernel
theorem dX6_statement_192 : decode cX6_statement 192 = .ok (.ifCond .eq 16, 3) := by decide +kernel
theorem dX6_statement_195 : decode cX6_statement 195 = .ok (.aload_n 0, 1) := by decide +kernel
theorem dX6_statement_196 : decode cX6_statement 196 = .ok (.iconst 0, 1) := by decide +kernel
theorem dX6_statement_197 : decode cX6_statement 197 = .ok (.invokevirtual 82, 3) := by decide +kernel
theorem dX6_statement_200 : decode cX6_statement 200 = .ok (.aload_n 0, 1) := by decide +kernel
theorem dX6_statement_201 : decode cX6_statement 201 = .ok (.iconst 2, 1) := by decide +kernel
theorem dX6_statement_202 : decode cX6_statement 202 = .ok (.invokevirtual 82, 3) := by decide +kernel
theorem dX6_statement_205 : decode cX6_statement 205 = .ok (.if_icmp .le 5, 3) := by decide +kernel
theorem dX6_statement_208 : decode cX6_statement 208 = .ok (.iconst 0, 1) := by decide +kernel
theorem dX6_statement_209 : decode cX6_statement 209 = .ok (.ireturn, 1) := by decide +kernel
theorem dX6_statement_210 : decode cX6_statement 210 = .ok (.aload_n 0, 1) := by decide +kernel
theorem dX6_statement_211 : decode cX6_statement 211 = .ok (.iconst 0, 1) := by decide +kernel
theorem dX6_statement_212 : decode cX6_statement 212 = .ok (.invokevirtual 82, 3) := by decide +kernel
theorem dX6_statement_215 : decode cX6_statement 215 = .ok (.istore_n 2, 1) := by decide +kernel
theorem dX6_statement_216 : decode cX6_statement 216 = .ok (.iload_n 2, 1) := by decide +kernel
theorem dX6_statement_217 : decode cX6_statement 217 = .ok (.aload_n 0, 1) := by decide +kernel
theorem dX6_statement_218 : decode cX6_statement 218 = .ok (.iconst 2, 1) := by decide +kernel
theorem dX6_statement_219 : decode cX6_statement 219 = .ok (.invokevirtual 82, 3) := by decide +kernel
theorem dX6_statement_222 : decode cX6_statement 222 = .ok (.if_icmp .gt 21, 3) := by decide +kernel
theorem dX6_statement_225 : decode cX6_statement 225 = .ok (.aload_n 0, 1) := by decide +kernel
theorem dX6_statement_226 : decode cX6_statement 226 = .ok (.getfield 13, 3) := by decide +kernel
theorem dX6_statement_229 : decode cX6_statement 229 = .ok (.iload_n 2, 1) := by decide +kernel
theorem dX6_statement_230 : decode cX6_statement 230 = .ok (.aload_n 0, 1) := by decide +kernel
theorem dX6_statement_231 : decode cX6_statement 231 = .ok (.getfield 22, 3) := by decide +kernel
theorem dX6_statement_234 : decode cX6_statement 234 = .ok (.iconst 4, 1) := by decide +kernel
theorem dX6_statement_235 : decode cX6_statement 235 = .ok (.iaload, 1) := by decide +kernel
theorem dX6_statement_236 : decode cX6_statement 236 = .ok (.iastore, 1) := by decide +kernel
theorem dX6_statement_237 : decode cX6_statement 237 = .ok (.iinc 2 1, 3) := by decide +kernel
theorem dX6_statement_240 : decode cX6_statement 240 = .ok (.goto (-24), 3) := by decide +kernel
theorem dX6_statement_243 : decode cX6_statement 243 = .ok (.iconst 1, 1) := by decide +kernel
theorem dX6_statement_244 : decode cX6_statement 244 = .ok (.ireturn, 1) := by decide +kernel
theorem dX6_statement_245 : decode cX6_statement 245 = .ok (.aload_n 0, 1) := by decide +kernel
theorem dX6_statement_246 : decode cX6_statement 246 = .ok (.bipush 104, 2) := by decide +kernel
theorem dX6_statement_248 : decode cX6_statement 248 = .ok (.invokevirtual 69, 3) := by decide +kernel
theorem dX6_statement_251 : decode cX6_statement 251 = .ok (.ifCond .eq 57, 3) := by decide +kernel
theorem dX6_statement_254 : decode cX6_statement 254 = .ok (.aload_n 0, 1) := by decide +kernel
theorem dX6_statement_255 : decode cX6_statement 255 = .ok (.iconst 2, 1) := by decide +kernel
theorem dX6_statement_256 : decode cX6_statement 256 = .ok (.invokevirtual 79, 3) := by decide +kernel
theorem dX6_statement_259 : decode cX6_statement 259 = .ok (.ifCond .ne 5, 3) := by decide +kernel
theorem dX6_statement_262 : decode cX6_statement 262 = .ok (.iconst (-1), 1) := by decide +kernel
theorem dX6_statement_263 : decode cX6_statement 263 = .ok (.ireturn, 1) := by decide +kernel
theorem dX6_statement_264 : decode cX6_statement 264 = .ok (.iload_n 1, 1) := by decide +kernel
theorem dX6_statement_265 : decode cX6_statement 265 = .ok (.ifCond .ne 5, 3) := by decide +kernel
theorem dX6_statement_268 : decode cX6_statement 268 = .ok (.iconst 1, 1) := by decide +kernel
theorem dX6_statement_269 : decode cX6_statement 269 = .ok (.ireturn, 1) := by decide +kernel
theorem dX6_statement_270 : decode cX6_statement 270 = .ok (.aload_n 0, 1) := by decide +kernel
theorem dX6_statement_271 : decode cX6_statement 271 = .ok (.iconst 0, 1) := by decide +kernel
theorem dX6_statement_272 : decode cX6_statement 272 = .ok (.invokevirtual 82, 3) := by decide +kernel
theorem dX6_statement_275 : decode cX6_statement 275 = .ok (.invokestatic 85, 3) := by decide +kernel
theorem dX6_statement_278 : decode cX6_statement 278 = .ok (.ifCond .eq 15, 3) := by decide +kernel
theorem dX6_statement_281 : decode cX6_statement 281 = .ok (.aload_n 0, 1) := by decide +kernel
theorem dX6_statement_282 : decode cX6_statement 282 = .ok (.aload_n 0, 1) := by decide +kernel
theorem dX6_statement_283 : decode cX6_statement 283 = .ok (.iconst 0, 1) := by decide +kernel
theorem dX6_statement_284 : decode cX6_statement 284 = .ok (.invokevirtual 82, 3) := by decide +kernel
theorem dX6_statement_287 : decode cX6_statement 287 = .ok (.invokevirtual 88, 3) := by decide +kernel
theorem dX6_statement_290 : decode cX6_statement 290 = .ok (.ifCond .ne 5, 3) := by decide +kernel
theorem dX6_statement_293 : decode cX6_statement 293 = .ok (.iconst 0, 1) := by decide +kernel
theorem dX6_statement_294 : decode cX6_statement 294 = .ok (.ireturn, 1) := by decide +kernel
theorem dX6_statement_295 : decode cX6_statement 295 = .ok (.aload_n 0, 1) := by decide +kernel
theorem dX6_statement_296 : decode cX6_statement 296 = .ok (.getfield 16, 3) := by decide +kernel
theorem dX6_statement_299 : decode cX6_statement 299 = .ok (.iconst 0, 1) := by decide +kernel
theorem dX6_statement_300 : decode cX6_statement 300 = .ok (.aload_n 0, 1) := by decide +kernel
theorem dX6_statement_301 : decode cX6_statement 301 = .ok (.iconst 0, 1) := by decide +kernel
theorem dX6_statement_302 : decode cX6_statement 302 = .ok (.invokevirtual 82, 3) := by decide +kernel
theorem dX6_statement_305 : decode cX6_statement 305 = .ok (.iastore, 1) := by decide +kernel
theorem dX6_statement_306 : decode cX6_statement 306 = .ok (.iconst 1, 1) := by decide +kernel
theorem dX6_statement_307 : decode cX6_statement 307 = .ok (.ireturn, 1) := by decide +kernel
theorem dX6_statement_308 : decode cX6_statement 308 = .ok (.aload_n 0, 1) := by decide +kernel
theorem dX6_statement_309 : decode cX6_statement 309 = .ok (.bipush 100, 2) := by decide +kernel
theorem dX6_statement_311 : decode cX6_statement 311 = .ok (.invokevirtual 69, 3) := by decide +kernel
theorem dX6_statement_314 : decode cX6_statement 314 = .ok (.ifCond .eq 82, 3) := by decide +kernel
theorem dX6_statement_317 : decode cX6_statement 317 = .ok (.aload_n 0, 1) := by decide +kernel
theorem dX6_statement_318 : decode cX6_statement 318 = .ok (.iconst 2, 1) := by decide +kernel
theorem dX6_statement_319 : decode cX6_statement 319 = .ok (.invokevirtual 79, 3) := by decide +kernel
theorem dX6_statement_322 : decode cX6_statement 322 = .ok (.ifCond .ne 5, 3) := by decide +kernel
theorem dX6_statement_325 : decode cX6_statement 325 = .ok (.iconst (-1), 1) := by decide +kernel
theorem dX6_statement_326 : decode cX6_statement 326 = .ok (.ireturn, 1) := by decide +kernel
theorem dX6_statement_327 : decode cX6_statement 327 = .ok (.iload_n 1, 1) := by decide +kernel
theorem dX6_statement_328 : decode cX6_statement 328 = .ok (.ifCond .ne 5, 3) := by decide +kernel
theorem dX6_statement_331 : decode cX6_statement 331 = .ok (.iconst 1, 1) := by decide +kernel
theorem dX6_statement_332 : decode cX6_statement 332 = .ok (.ireturn, 1) := by decide +kernel
theorem dX6_statement_333 : decode cX6_statement 333 = .ok (.aload_n 0, 1) := by decide +kernel
theorem dX6_statement_334 : decode cX6_statement 334 = .ok (.getfield 22, 3) := by decide +kernel
theorem dX6_statement_337 : decode cX6_statement 337 = .ok (.iconst 0, 1) := by decide +kernel
theorem dX6_statement_338 : decode cX6_statement 338 = .ok (.iaload, 1) := by decide +kernel
theorem dX6_statement_339 : decode cX6_statement 339 = .ok (.ifCond .eq 12, 3) := by decide +kernel
theorem dX6_statement_342 : decode cX6_statement 342 = .ok (.aload_n 0, 1) := by decide +kernel
theorem dX6_statement_343 : decode cX6_statement 343 = .ok (.getfield 22, 3) := by decide +kernel
theorem dX6_statement_346 : decode cX6_statement 346 = .ok (.iconst 1, 1) := by decide +kernel
theorem dX6_statement_347 : decode cX6_statement 347 = .ok (.iaload, 1) := by decide +kernel
theorem dX6_statement_348 : decode cX6_statement 348 = .ok (.ifCond .ne 5, 3) := by decide +kernel
theorem dX6_statement_351 : decode cX6_statement 351 = .ok (.iconst 0, 1) := by decide +kernel
theorem dX6_statement_352 : decode cX6_statement 352 = .ok (.ireturn, 1) := by decide +kernel
theorem dX6_statement_353 : decode cX6_statement 353 = .ok (.aload_n 0, 1) := by decide +kernel
theorem dX6_statement_354 : decode cX6_statement 354 = .ok (.getfield 16, 3) := by decide +kernel
theorem dX6_statement_357 : decode cX6_statement 357 = .ok (.iconst 1, 1) := by decide +kernel
theorem dX6_statement_358 : decode cX6_statement 358 = .ok (.aload_n 0, 1) := by decide +kernel
theorem dX6_statement_359 : decode cX6_statement 359 = .ok (.getfield 22, 3) := by decide +kernel
theorem dX6_statement_362 : decode cX6_statement 362 = .ok (.iconst 0, 1) := by decide +kernel
theorem dX6_statement_363 : decode cX6_statement 363 = .ok (.iaload, 1) := by decide +kernel
theorem dX6_statement_364 : decode cX6_statement 364 = .ok (.iastore, 1) := by decide +kernel
theorem dX6_statement_365 : decode cX6_statement 365 = .ok (.aload_n 0, 1) := by decide +kernel
theorem dX6_statement_366 : decode cX6_statement 366 = .ok (.getfield 16, 3) := by decide +kernel
theorem dX6_statement_369 : decode cX6_statement 369 = .ok (.iconst 2, 1) := by decide +kernel
theorem dX6_statement_370 : decode cX6_statement 370 = .ok (.aload_n 0, 1) := by decide +kernel
theorem dX6_statement_371 : decode cX6_statement 371 = .ok (.getfield 22, 3) := by decide +kernel
theorem dX6_statement_374 : decode cX6_statement 374 = .ok (.iconst 1, 1) := by decide +kernel
theorem dX6_statement_375 : decode cX6_statement 375 = .ok (.iaload, 1) := by decide +kernel
theorem dX6_statement_376 : decode cX6_statement 376 = .ok (.iastore, 1) := by decide +kernel
theorem dX6_statement_377 : decode cX6_statement 377 = .ok (.aload_n 0, 1) := by decide +kernel
theorem dX6_statement_378 : decode cX6_statement 378 = .ok (.aload_n 0, 1) := by decide +kernel
theorem dX6_statement_379 : decode cX6_statement 379 = .ok (.getfield 16, 3) := by decide +kernel
theorem dX6_statement_382 : decode cX6_statement 382 = .ok (.iconst 0, 1) := by decide +kernel
theorem dX6_statement_383 : decode cX6_statement 383 = .ok (.iaload, 1) := by decide +kernel
theorem dX6_statement_384 : decode cX6_statement 384 = .ok (.invokevirtual 88, 3) := by decide +kernel
theorem dX6_statement_387 : decode cX6_statement 387 = .ok (.ifCond .eq 7, 3) := by decide +kernel
theorem dX6_statement_390 : decode cX6_statement 390 = .ok (.iconst 1, 1) := by decide +kernel
theorem dX6_statement_391 : decode cX6_statement 391 = .ok (.goto 4, 3) := by decide +kernel
theorem dX6_statement_394 : decode cX6_statement 394 = .ok (.iconst 0, 1) := by decide +kernel
theorem dX6_statement_395 : decode cX6_statement 395 = .ok (.ireturn, 1) := by decide +kernel
theorem dX6_statement_396 : decode cX6_statement 396 = .ok (.aload_n 0, 1) := by decide +kernel
theorem dX6_statement_397 : decode cX6_statement 397 = .ok (.bipush 99, 2) := by decide +kernel
theorem dX6_statement_399 : decode cX6_statement 399 = .ok (.invokevirtual 69, 3) := by decide +kernel
theorem dX6_statement_402 : decode cX6_statement 402 = .ok (.ifCond .eq 43, 3) := by decide +kernel
theorem dX6_statement_405 : decode cX6_statement 405 = .ok (.aload_n 0, 1) := by decide +kernel
theorem dX6_statement_406 : decode cX6_statement 406 = .ok (.iconst 4, 1) := by decide +kernel
theorem dX6_statement_407 : decode cX6_statement 407 = .ok (.invokevirtual 79, 3) := by decide +kernel
theorem dX6_statement_410 : decode cX6_statement 410 = .ok (.ifCond .ne 5, 3) := by decide +kernel
theorem dX6_statement_413 : decode cX6_statement 413 = .ok (.iconst (-1), 1) := by decide +kernel
theorem dX6_statement_414 : decode cX6_statement 414 = .ok (.ireturn, 1) := by decide +kernel
theorem dX6_statement_415 : decode cX6_statement 415 = .ok (.iload_n 1, 1) := by decide +kernel
theorem dX6_statement_416 : decode cX6_statement 416 = .ok (.ifCond .ne 5, 3) := by decide +kernel
theorem dX6_statement_419 : decode cX6_statement 419 = .ok (.iconst 1, 1) := by decide +kernel
theorem dX6_statement_420 : decode cX6_statement 420 = .ok (.ireturn, 1) := by decide +kernel
theorem dX6_statement_421 : decode cX6_statement 421 = .ok (.aload_n 0, 1) := by decide +kernel
theorem dX6_statement_422 : decode cX6_statement 422 = .ok (.getfield 16, 3) := by decide +kernel
theorem dX6_statement_425 : decode cX6_statement 425 = .ok (.iconst 3, 1) := by decide +kernel
theorem dX6_statement_426 : decode cX6_statement 426 = .ok (.aload_n 0, 1) := by decide +kernel
theorem dX6_statement_427 : decode cX6_statement 427 = .ok (.iconst 0, 1) := by decide +kernel
theorem dX6_statement_428 : decode cX6_statement 428 = .ok (.invokevirtual 82, 3) := by decide +kernel
theorem dX6_statement_431 : decode cX6_statement 431 = .ok (.iastore, 1) := by decide +kernel
theorem dX6_statement_432 : decode cX6_statement 432 = .ok (.aload_n 0, 1) := by decide +kernel
theorem dX6_statement_433 : decode cX6_statement 433 = .ok (.getfield 16, 3) := by decide +kernel
theorem dX6_statement_436 : decode cX6_statement 436 = .ok (.iconst 4, 1) := by decide +kernel
theorem dX6_statement_437 : decode cX6_statement 437 = .ok (.aload_n 0, 1) := by decide +kernel
theorem dX6_statement_438 : decode cX6_statement 438 = .ok (.iconst 2, 1) := by decide +kernel
theorem dX6_statement_439 : decode cX6_statement 439 = .ok (.invokevirtual 82, 3) := by decide +kernel
theorem dX6_statement_442 : decode cX6_statement 442 = .ok (.iastore, 1) := by decide +kernel
theorem dX6_statement_443 : decode cX6_statement 443 = .ok (.iconst 1, 1) := by decide +kernel
theorem dX6_statement_444 : decode cX6_statement 444 = .ok (.ireturn, 1) := by decide +kernel
theorem dX6_statement_445 : decode cX6_statement 445 = .ok (.aload_n 0, 1) := by decide +kernel
theorem dX6_statement_446 : decode cX6_statement 446 = .ok (.bipush 115, 2) := by decide +kernel
theorem dX6_statement_448 : decode cX6_statement 448 = .ok (.invokevirtual 69, 3) := by decide +kernel
theorem dX6_statement_451 : decode cX6_statement 451 = .ok (.ifCond .ne 5, 3) := by decide +kernel
theorem dX6_statement_454 : decode cX6_statement 454 = .ok (.iconst (-1), 1) := by decide +kernel
theorem dX6_statement_455 : decode cX6_statement 455 = .ok (.ireturn, 1) := by decide +kernel
theorem dX6_statement_456 : decode cX6_statement 456 = .ok (.aload_n 0, 1) := by decide +kernel
theorem dX6_statement_457 : decode cX6_statement 457 = .ok (.ldc 91, 2) := by decide +kernel
theorem dX6_statement_459 : decode cX6_statement 459 = .ok (.invokevirtual 75, 3) := by decide +kernel
theorem dX6_statement_462 : decode cX6_statement 462 = .ok (.istore_n 2, 1) := by decide +kernel
theorem dX6_statement_463 : decode cX6_statement 463 = .ok (.iload_n 2, 1) := by decide +kernel
theorem dX6_statement_464 : decode cX6_statement 464 = .ok (.ifCond .lt 11, 3) := by decide +kernel
theorem dX6_statement_467 : decode cX6_statement 467 = .ok (.aload_n 0, 1) := by decide +kernel
theorem dX6_statement_468 : decode cX6_statement 468 = .ok (.iconst 2, 1) := by decide +kernel
theorem dX6_statement_469 : decode cX6_statement 469 = .ok (.invokevirtual 79, 3) := by decide +kernel
theorem dX6_statement_472 : decode cX6_statement 472 = .ok (.ifCond .ne 5, 3) := by decide +kernel
theorem dX6_statement_475 : decode cX6_statement 475 = .ok (.iconst (-1), 1) := by decide +kernel
theorem dX6_statement_476 : decode cX6_statement 476 = .ok (.ireturn, 1) := by decide +kernel
theorem dX6_statement_477 : decode cX6_statement 477 = .ok (.iload_n 1, 1) := by decide +kernel
theorem dX6_statement_478 : decode cX6_statement 478 = .ok (.ifCond .ne 5, 3) := by decide +kernel
theorem dX6_statement_481 : decode cX6_statement 481 = .ok (.iconst 1, 1) := by decide +kernel
theorem dX6_statement_482 : decode cX6_statement 482 = .ok (.ireturn, 1) := by decide +kernel
theorem dX6_statement_483 : decode cX6_statement 483 = .ok (.aload_n 0, 1) := by decide +kernel
theorem dX6_statement_484 : decode cX6_statement 484 = .ok (.iload_n 2, 1) := by decide +kernel
theorem dX6_statement_485 : decode cX6_statement 485 = .ok (.aload_n 0, 1) := by decide +kernel
theorem dX6_statement_486 : decode cX6_statement 486 = .ok (.iconst 0, 1) := by decide +kernel
theorem dX6_statement_487 : decode cX6_statement 487 = .ok (.invokevirtual 82, 3) := by decide +kernel
theorem dX6_statement_490 : decode cX6_statement 490 = .ok (.invokevirtual 93, 3) := by decide +kernel
theorem dX6_statement_493 : decode cX6_statement 493 = .ok (.ifCond .eq 7, 3) := by decide +kernel
theorem dX6_statement_496 : decode cX6_statement 496 = .ok (.iconst 1, 1) := by decide +kernel
theorem dX6_statement_497 : decode cX6_statement 497 = .ok (.goto 4, 3) := by decide +kernel
theorem dX6_statement_500 : decode cX6_statement 500 = .ok (.iconst 0, 1) := by decide +kernel
theorem dX6_statement_501 : decode cX6_statement 501 = .ok (.ireturn, 1) := by decide +kernel
theorem dX6_sea_0 : decode cX6_sea 0 = .ok (.aload_n 0, 1) := by decide +kernel
theorem dX6_sea_1 : decode cX6_sea 1 = .ok (.iconst 0, 1) := by decide +kernel
theorem dX6_sea_2 : decode cX6_sea 2 = .ok (.putfield 61, 3) := by decide +kernel
theorem dX6_sea_5 : decode cX6_sea 5 = .ok (.iconst 1, 1) := by decide +kernel
theorem dX6_sea_6 : decode cX6_sea 6 = .ok (.istore_n 1, 1) := by decide +kernel
theorem dX6_sea_7 : decode cX6_sea 7 = .ok (.iload_n 1, 1) := by decide +kernel
theorem dX6_sea_8 : decode cX6_sea 8 = .ok (.ifCond .eq 45, 3) := by decide +kernel
theorem dX6_sea_11 : decode cX6_sea 11 = .ok (.aload_n 0, 1) := by decide +kernel
theorem dX6_sea_12 : decode cX6_sea 12 = .ok (.iconst 0, 1) := by decide +kernel
theorem dX6_sea_13 : decode cX6_sea 13 = .ok (.invokevirtual 97, 3) := by decide +kernel
theorem dX6_sea_16 : decode cX6_sea 16 = .ok (.iconst 1, 1) := by decide +kernel
theorem dX6_sea_17 : decode cX6_sea 17 = .ok (.if_icmp .ne 16, 3) := by decide +kernel
theorem dX6_sea_20 : decode cX6_sea 20 = .ok (.aload_n 0, 1) := by decide +kernel
theorem dX6_sea_21 : decode cX6_sea 21 = .ok (.bipush 59, 2) := by decide +kernel
theorem dX6_sea_23 : decode cX6_sea 23 = .ok (.invokevirtual 69, 3) := by decide +kernel
theorem dX6_sea_26 : decode cX6_sea 26 = .ok (.ifCond .eq 7, 3) := by decide +kernel
theorem dX6_sea_29 : decode cX6_sea 29 = .ok (.iconst 1, 1) := by decide +kernel
theorem dX6_sea_30 : decode cX6_sea 30 = .ok (.goto 4, 3) := by decide +kernel
theorem dX6_sea_33 : decode cX6_sea 33 = .ok (.iconst 0, 1) := by decide +kernel
theorem dX6_sea_34 : decode cX6_sea 34 = .ok (.istore_n 1, 1) := by decide +kernel
theorem dX6_sea_35 : decode cX6_sea 35 = .ok (.iload_n 1, 1) := by decide +kernel
theorem dX6_sea_36 : decode cX6_sea 36 = .ok (.ifCond .eq (-29), 3) := by decide +kernel
theorem dX6_sea_39 : decode cX6_sea 39 = .ok (.aload_n 0, 1) := by decide +kernel
theorem dX6_sea_40 : decode cX6_sea 40 = .ok (.getfield 61, 3) := by decide +kernel
theorem dX6_sea_43 : decode cX6_sea 43 = .ok (.aload_n 0, 1) := by decide +kernel
theorem dX6_sea_44 : decode cX6_sea 44 = .ok (.getfield 57, 3) := by decide +kernel
theorem dX6_sea_47 : decode cX6_sea 47 = .ok (.if_icmp .ne (-40), 3) := by decide +kernel
theorem dX6_sea_50 : decode cX6_sea 50 = .ok (.goto 3, 3) := by decide +kernel
theorem dX6_sea_53 : decode cX6_sea 53 = .ok (.iload_n 1, 1) := by decide +kernel
theorem dX6_sea_54 : decode cX6_sea 54 = .ok (.ifCond .ne 17, 3) := by decide +kernel
theorem dX6_sea_57 : decode cX6_sea 57 = .ok (.aload_n 0, 1) := by decide +kernel
theorem dX6_sea_58 : decode cX6_sea 58 = .ok (.iconst 0, 1) := by decide +kernel
theorem dX6_sea_59 : decode cX6_sea 59 = .ok (.putfield 57, 3) := by decide +kernel
theorem dX6_sea_62 : decode cX6_sea 62 = .ok (.sipush (-1000), 3) := by decide +kernel
theorem dX6_sea_65 : decode cX6_sea 65 = .ok (.aload_n 0, 1) := by decide +kernel
theorem dX6_sea_66 : decode cX6_sea 66 = .ok (.getfield 61, 3) := by decide +kernel
theorem dX6_sea_69 : decode cX6_sea 69 = .ok (.isub, 1) := by decide +kernel
theorem dX6_sea_70 : decode cX6_sea 70 = .ok (.ireturn, 1) := by decide +kernel
theorem dX6_sea_71 : decode cX6_sea 71 = .ok (.aload_n 0, 1) := by decide +kernel
theorem dX6_sea_72 : decode cX6_sea 72 = .ok (.aload_n 0, 1) := by decide +kernel
theorem dX6_sea_73 : decode cX6_sea 73 = .ok (.getfield 34, 3) := by decide +kernel
theorem dX6_sea_76 : decode cX6_sea 76 = .ok (.invokevirtual 101, 3) := by decide +kernel
theorem dX6_sea_79 : decode cX6_sea 79 = .ok (.aload_n 0, 1) := by decide +kernel
theorem dX6_sea_80 : decode cX6_sea 80 = .ok (.iconst 0, 1) := by decide +kernel
theorem dX6_sea_81 : decode cX6_sea 81 = .ok (.putfield 61, 3) := by decide +kernel
theorem dX6_sea_84 : decode cX6_sea 84 = .ok (.iconst 0, 1) := by decide +kernel
theorem dX6_sea_85 : decode cX6_sea 85 = .ok (.istore_n 2, 1) := by decide +kernel
theorem dX6_sea_86 : decode cX6_sea 86 = .ok (.aload_n 0, 1) := by decide +kernel
theorem dX6_sea_87 : decode cX6_sea 87 = .ok (.getfield 61, 3) := by decide +kernel
theorem dX6_sea_90 : decode cX6_sea 90 = .ok (.aload_n 0, 1) := by decide +kernel
theorem dX6_sea_91 : decode cX6_sea 91 = .ok (.getfield 57, 3) := by decide +kernel
theorem dX6_sea_94 : decode cX6_sea 94 = .ok (.if_icmp .ge 48, 3) := by decide +kernel
theorem dX6_sea_97 : decode cX6_sea 97 = .ok (.aload_n 0, 1) := by decide +kernel
theorem dX6_sea_98 : decode cX6_sea 98 = .ok (.getfield 61, 3) := by decide +kernel
theorem dX6_sea_101 : decode cX6_sea 101 = .ok (.istore_n 3, 1) := by decide +kernel
theorem dX6_sea_102 : decode cX6_sea 102 = .ok (.aload_n 0, 1) := by decide +kernel
theorem dX6_sea_103 : decode cX6_sea 103 = .ok (.iconst 1, 1) := by decide +kernel
theorem dX6_sea_104 : decode cX6_sea 104 = .ok (.invokevirtual 97, 3) := by decide +kernel
theorem dX6_sea_107 : decode cX6_sea 107 = .ok (.ifCond .ne 22, 3) := by decide +kernel
theorem dX6_sea_110 : decode cX6_sea 110 = .ok (.aload_n 0, 1) := by decide +kernel
theorem dX6_sea_111 : decode cX6_sea 111 = .ok (.aload_n 0, 1) := by decide +kernel
theorem dX6_sea_112 : decode cX6_sea 112 = .ok (.getfield 34, 3) := by decide +kernel
theorem dX6_sea_115 : decode cX6_sea 115 = .ok (.invokevirtual 105, 3) := by decide +kernel
theorem dX6_sea_118 : decode cX6_sea 118 = .ok (.aload_n 0, 1) := by decide +kernel
theorem dX6_sea_119 : decode cX6_sea 119 = .ok (.iconst 0, 1) := by decide +kernel
theorem dX6_sea_120 : decode cX6_sea 120 = .ok (.putfield 57, 3) := by decide +kernel
theorem dX6_sea_123 : decode cX6_sea 123 = .ok (.sipush (-2000), 3) := by decide +kernel
theorem dX6_sea_126 : decode cX6_sea 126 = .ok (.iload_n 3, 1) := by decide +kernel
theorem dX6_sea_127 : decode cX6_sea 127 = .ok (.isub, 1) := by decide +kernel
theorem dX6_sea_128 : decode cX6_sea 128 = .ok (.ireturn, 1) := by decide +kernel
theorem dX6_sea_129 : decode cX6_sea 129 = .ok (.aload_n 0, 1) := by decide +kernel
theorem dX6_sea_130 : decode cX6_sea 130 = .ok (.bipush 59, 2) := by decide +kernel
theorem dX6_sea_132 : decode cX6_sea 132 = .ok (.invokevirtual 69, 3) := by decide +kernel
theorem dX6_sea_135 : decode cX6_sea 135 = .ok (.pop, 1) := by decide +kernel
theorem dX6_sea_136 : decode cX6_sea 136 = .ok (.iinc 2 1, 3) := by decide +kernel
theorem dX6_sea_139 : decode cX6_sea 139 = .ok (.goto (-53), 3) := by decide +kernel
theorem dX6_sea_142 : decode cX6_sea 142 = .ok (.aload_n 0, 1) := by decide +kernel
theorem dX6_sea_143 : decode cX6_sea 143 = .ok (.iconst 0, 1) := by decide +kernel
theorem dX6_sea_144 : decode cX6_sea 144 = .ok (.putfield 57, 3) := by decide +kernel
theorem dX6_sea_147 : decode cX6_sea 147 = .ok (.iload_n 2, 1) := by decide +kernel
theorem dX6_sea_148 : decode cX6_sea 148 = .ok (.ireturn, 1) := by decide +kernel
theorem dX6_canBe_0 : decode cX6_canBe 0 = .ok (.aload_n 0, 1) := by decide +kernel
theorem dX6_canBe_1 : decode cX6_canBe 1 = .ok (.getfield 9, 3) := by decide +kernel
theorem dX6_canBe_4 : decode cX6_canBe 4 = .ok (.iload_n 1, 1) := by decide +kernel
theorem dX6_canBe_5 : decode cX6_canBe 5 = .ok (.iaload, 1) := by decide +kernel
theorem dX6_canBe_6 : decode cX6_canBe 6 = .ok (.iconst 1, 1) := by decide +kernel
theorem dX6_canBe_7 : decode cX6_canBe 7 = .ok (.if_icmp .eq 27, 3) := by decide +kernel
theorem dX6_canBe_10 : decode cX6_canBe 10 = .ok (.aload_n 0, 1) := by decide +kernel
theorem dX6_canBe_11 : decode cX6_canBe 11 = .ok (.getfield 9, 3) := by decide +kernel
theorem dX6_canBe_14 : decode cX6_canBe 14 = .ok (.iload_n 1, 1) := by decide +kernel
theorem dX6_canBe_15 : decode cX6_canBe 15 = .ok (.iaload, 1) := by decide +kernel
theorem dX6_canBe_16 : decode cX6_canBe 16 = .ok (.iconst 2, 1) := by decide +kernel
theorem dX6_canBe_17 : decode cX6_canBe 17 = .ok (.if_icmp .ne 13, 3) := by decide +kernel
theorem dX6_canBe_20 : decode cX6_canBe 20 = .ok (.aload_n 0, 1) := by decide +kernel
theorem dX6_canBe_21 : decode cX6_canBe 21 = .ok (.getfield 16, 3) := by decide +kernel
theorem dX6_canBe_24 : decode cX6_canBe 24 = .ok (.iconst 1, 1) := by decide +kernel
theorem dX6_canBe_25 : decode cX6_canBe 25 = .ok (.iaload, 1) := by decide +kernel
theorem dX6_canBe_26 : decode cX6_canBe 26 = .ok (.iconst 4, 1) := by decide +kernel
theorem dX6_canBe_27 : decode cX6_canBe 27 = .ok (.if_icmp .ge 7, 3) := by decide +kernel
theorem dX6_canBe_30 : decode cX6_canBe 30 = .ok (.iconst 1, 1) := by decide +kernel
theorem dX6_canBe_31 : decode cX6_canBe 31 = .ok (.goto 4, 3) := by decide +kernel
theorem dX6_canBe_34 : decode cX6_canBe 34 = .ok (.iconst 0, 1) := by decide +kernel
theorem dX6_canBe_35 : decode cX6_canBe 35 = .ok (.ireturn, 1) := by decide +kernel
theorem dX6_left_0 : decode cX6_left 0 = .ok (.iconst 0, 1) := by decide +kernel
theorem dX6_left_1 : decode cX6_left 1 = .ok (.istore_n 1, 1) := by decide +kernel
theorem dX6_left_2 : decode cX6_left 2 = .ok (.iconst 0, 1) := by decide +kernel
theorem dX6_left_3 : decode cX6_left 3 = .ok (.istore_n 2, 1) := by decide +kernel
theorem dX6_left_4 : decode cX6_left 4 = .ok (.iload_n 2, 1) := by decide +kernel
theorem dX6_left_5 : decode cX6_left 5 = .ok (.bipush 36, 2) := by decide +kernel
theorem dX6_left_7 : decode cX6_left 7 = .ok (.if_icmp .ge 21, 3) := by decide +kernel
theorem dX6_left_10 : decode cX6_left 10 = .ok (.aload_n 0, 1) := by decide +kernel
theorem dX6_left_11 : decode cX6_left 11 = .ok (.getfield 13, 3) := by decide +kernel
theorem dX6_left_14 : decode cX6_left 14 = .ok (.iload_n 2, 1) := by decide +kernel
theorem dX6_left_15 : decode cX6_left 15 = .ok (.iaload, 1) := by decide +kernel
theorem dX6_left_16 : decode cX6_left 16 = .ok (.ifCond .le 6, 3) := by decide +kernel
theorem dX6_left_19 : decode cX6_left 19 = .ok (.iinc 1 1, 3) := by decide +kernel
theorem dX6_left_22 : decode cX6_left 22 = .ok (.iinc 2 1, 3) := by decide +kernel
theorem dX6_left_25 : decode cX6_left 25 = .ok (.goto (-21), 3) := by decide +kernel
theorem dX6_left_28 : decode cX6_left 28 = .ok (.iload_n 1, 1) := by decide +kernel
theorem dX6_left_29 : decode cX6_left 29 = .ok (.ireturn, 1) := by decide +kernel
theorem dX6_weight_0 : decode cX6_weight 0 = .ok (.iconst 0, 1) := by decide +kernel
theorem dX6_weight_1 : decode cX6_weight 1 = .ok (.istore_n 1, 1) := by decide +kernel
theorem dX6_weight_2 : decode cX6_weight 2 = .ok (.iconst 0, 1) := by decide +kernel
theorem dX6_weight_3 : decode cX6_weight 3 = .ok (.istore_n 2, 1) := by decide +kernel
theorem dX6_weight_4 : decode cX6_weight 4 = .ok (.iload_n 2, 1) := by decide +kernel
theorem dX6_weight_5 : decode cX6_weight 5 = .ok (.bipush 36, 2) := by decide +kernel
theorem dX6_weight_7 : decode cX6_weight 7 = .ok (.if_icmp .ge 18, 3) := by decide +kernel
theorem dX6_weight_10 : decode cX6_weight 10 = .ok (.iload_n 1, 1) := by decide +kernel
theorem dX6_weight_11 : decode cX6_weight 11 = .ok (.aload_n 0, 1) := by decide +kernel
theorem dX6_weight_12 : decode cX6_weight 12 = .ok (.getfield 13, 3) := by decide +kernel
theorem dX6_weight_15 : decode cX6_weight 15 = .ok (.iload_n 2, 1) := by decide +kernel
theorem dX6_weight_16 : decode cX6_weight 16 = .ok (.iaload, 1) := by decide +kernel
theorem dX6_weight_17 : decode cX6_weight 17 = .ok (.iadd, 1) := by decide +kernel
theorem dX6_weight_18 : decode cX6_weight 18 = .ok (.istore_n 1, 1) := by decide +kernel
theorem dX6_weight_19 : decode cX6_weight 19 = .ok (.iinc 2 1, 3) := by decide +kernel
theorem dX6_weight_22 : decode cX6_weight 22 = .ok (.goto (-18), 3) := by decide +kernel
theorem dX6_weight_25 : decode cX6_weight 25 = .ok (.iload_n 1, 1) := by decide +kernel
theorem dX6_weight_26 : decode cX6_weight 26 = .ok (.ireturn, 1) := by decide +kernel
theorem dX6_square_0 : decode cX6_square 0 = .ok (.iload_n 1, 1) := by decide +kernel
theorem dX6_square_1 : decode cX6_square 1 = .ok (.invokestatic 85, 3) := by decide +kernel
theorem dX6_square_4 : decode cX6_square 4 = .ok (.ifCond .ne 9, 3) := by decide +kernel
theorem dX6_square_7 : decode cX6_square 7 = .ok (.aload_n 0, 1) := by decide +kernel
theorem dX6_square_8 : decode cX6_square 8 = .ok (.iconst (-1), 1) := by decide +kernel
theorem dX6_square_9 : decode cX6_square 9 = .ok (.invokevirtual 53, 3) := by decide +kernel
theorem dX6_square_12 : decode cX6_square 12 = .ok (.ireturn, 1) := by decide +kernel
theorem dX6_square_13 : decode cX6_square 13 = .ok (.iload_n 2, 1) := by decide +kernel
theorem dX6_square_14 : decode cX6_square 14 = .ok (.tableswitch 54 0 2 #[26, 33, 47], 26) := by decide +kernel
theorem dX6_square_40 : decode cX6_square 40 = .ok (.aload_n 0, 1) := by decide +kernel
theorem dX6_square_41 : decode cX6_square 41 = .ok (.getfield 9, 3) := by decide +kernel
theorem dX6_square_44 : decode cX6_square 44 = .ok (.iload_n 1, 1) := by decide +kernel
theorem dX6_square_45 : decode cX6_square 45 = .ok (.iaload, 1) := by decide +kernel
theorem dX6_square_46 : decode cX6_square 46 = .ok (.ireturn, 1) := by decide +kernel
theorem dX6_square_47 : decode cX6_square 47 = .ok (.aload_n 0, 1) := by decide +kernel
theorem dX6_square_48 : decode cX6_square 48 = .ok (.iload_n 1, 1) := by decide +kernel
theorem dX6_square_49 : decode cX6_square 49 = .ok (.invokevirtual 88, 3) := by decide +kernel
theorem dX6_square_52 : decode cX6_square 52 = .ok (.ifCond .eq 7, 3) := by decide +kernel
theorem dX6_square_55 : decode cX6_square 55 = .ok (.iconst 1, 1) := by decide +kernel
theorem dX6_square_56 : decode cX6_square 56 = .ok (.goto 4, 3) := by decide +kernel
theorem dX6_square_59 : decode cX6_square 59 = .ok (.iconst 0, 1) := by decide +kernel
theorem dX6_square_60 : decode cX6_square 60 = .ok (.ireturn, 1) := by decide +kernel
theorem dX6_square_61 : decode cX6_square 61 = .ok (.aload_n 0, 1) := by decide +kernel
theorem dX6_square_62 : decode cX6_square 62 = .ok (.getfield 13, 3) := by decide +kernel
theorem dX6_square_65 : decode cX6_square 65 = .ok (.iload_n 1, 1) := by decide +kernel
theorem dX6_square_66 : decode cX6_square 66 = .ok (.iaload, 1) := by decide +kernel
theorem dX6_square_67 : decode cX6_square 67 = .ok (.ireturn, 1) := by decide +kernel
theorem dX6_square_68 : decode cX6_square 68 = .ok (.aload_n 0, 1) := by decide +kernel
theorem dX6_square_69 : decode cX6_square 69 = .ok (.bipush (-2), 2) := by decide +kernel
theorem dX6_square_71 : decode cX6_square 71 = .ok (.invokevirtual 53, 3) := by decide +kernel
theorem dX6_square_74 : decode cX6_square 74 = .ok (.ireturn, 1) := by decide +kernel
theorem dX6_turnTo_0 : decode cX6_turnTo 0 = .ok (.iload_n 1, 1) := by decide +kernel
theorem dX6_turnTo_1 : decode cX6_turnTo 1 = .ok (.invokestatic 85, 3) := by decide +kernel
theorem dX6_turnTo_4 : decode cX6_turnTo 4 = .ok (.ifCond .ne 9, 3) := by decide +kernel
theorem dX6_turnTo_7 : decode cX6_turnTo 7 = .ok (.aload_n 0, 1) := by decide +kernel
theorem dX6_turnTo_8 : decode cX6_turnTo 8 = .ok (.iconst (-1), 1) := by decide +kernel
theorem dX6_turnTo_9 : decode cX6_turnTo 9 = .ok (.invokevirtual 53, 3) := by decide +kernel
theorem dX6_turnTo_12 : decode cX6_turnTo 12 = .ok (.ireturn, 1) := by decide +kernel
theorem dX6_turnTo_13 : decode cX6_turnTo 13 = .ok (.iload_n 2, 1) := by decide +kernel
theorem dX6_turnTo_14 : decode cX6_turnTo 14 = .ok (.invokestatic 108, 3) := by decide +kernel
theorem dX6_turnTo_17 : decode cX6_turnTo 17 = .ok (.ifCond .ne 10, 3) := by decide +kernel
theorem dX6_turnTo_20 : decode cX6_turnTo 20 = .ok (.aload_n 0, 1) := by decide +kernel
theorem dX6_turnTo_21 : decode cX6_turnTo 21 = .ok (.bipush (-2), 2) := by decide +kernel
theorem dX6_turnTo_23 : decode cX6_turnTo 23 = .ok (.invokevirtual 53, 3) := by decide +kernel
theorem dX6_turnTo_26 : decode cX6_turnTo 26 = .ok (.ireturn, 1) := by decide +kernel
theorem dX6_turnTo_27 : decode cX6_turnTo 27 = .ok (.aload_n 0, 1) := by decide +kernel
theorem dX6_turnTo_28 : decode cX6_turnTo 28 = .ok (.getfield 9, 3) := by decide +kernel
theorem dX6_turnTo_31 : decode cX6_turnTo 31 = .ok (.iload_n 1, 1) := by decide +kernel
theorem dX6_turnTo_32 : decode cX6_turnTo 32 = .ok (.iaload, 1) := by decide +kernel
theorem dX6_turnTo_33 : decode cX6_turnTo 33 = .ok (.istore_n 3, 1) := by decide +kernel
theorem dX6_turnTo_34 : decode cX6_turnTo 34 = .ok (.aload_n 0, 1) := by decide +kernel
theorem dX6_turnTo_35 : decode cX6_turnTo 35 = .ok (.getfield 9, 3) := by decide +kernel
theorem dX6_turnTo_38 : decode cX6_turnTo 38 = .ok (.iload_n 1, 1) := by decide +kernel
theorem dX6_turnTo_39 : decode cX6_turnTo 39 = .ok (.iload_n 2, 1) := by decide +kernel
theorem dX6_turnTo_40 : decode cX6_turnTo 40 = .ok (.iastore, 1) := by decide +kernel
theorem dX6_turnTo_41 : decode cX6_turnTo 41 = .ok (.aload_n 0, 1) := by decide +kernel
theorem dX6_turnTo_42 : decode cX6_turnTo 42 = .ok (.aload_n 0, 1) := by decide +kernel
theorem dX6_turnTo_43 : decode cX6_turnTo 43 = .ok (.getfield 16, 3) := by decide +kernel
theorem dX6_turnTo_46 : decode cX6_turnTo 46 = .ok (.iconst 0, 1) := by decide +kernel
theorem dX6_turnTo_47 : decode cX6_turnTo 47 = .ok (.iaload, 1) := by decide +kernel
theorem dX6_turnTo_48 : decode cX6_turnTo 48 = .ok (.invokevirtual 88, 3) := by decide +kernel
theorem dX6_turnTo_51 : decode cX6_turnTo 51 = .ok (.ifCond .eq 5, 3) := by decide +kernel
theorem dX6_turnTo_54 : decode cX6_turnTo 54 = .ok (.iload_n 3, 1) := by decide +kernel
theorem dX6_turnTo_55 : decode cX6_turnTo 55 = .ok (.ireturn, 1) := by decide +kernel
theorem dX6_turnTo_56 : decode cX6_turnTo 56 = .ok (.aload_n 0, 1) := by decide +kernel
theorem dX6_turnTo_57 : decode cX6_turnTo 57 = .ok (.getfield 9, 3) := by decide +kernel
theorem dX6_turnTo_60 : decode cX6_turnTo 60 = .ok (.iload_n 1, 1) := by decide +kernel
theorem dX6_turnTo_61 : decode cX6_turnTo 61 = .ok (.iload_n 3, 1) := by decide +kernel
theorem dX6_turnTo_62 : decode cX6_turnTo 62 = .ok (.iastore, 1) := by decide +kernel
theorem dX6_turnTo_63 : decode cX6_turnTo 63 = .ok (.aload_n 0, 1) := by decide +kernel
theorem dX6_turnTo_64 : decode cX6_turnTo 64 = .ok (.bipush (-3), 2) := by decide +kernel
theorem dX6_turnTo_66 : decode cX6_turnTo 66 = .ok (.invokevirtual 53, 3) := by decide +kernel
theorem dX6_turnTo_69 : decode cX6_turnTo 69 = .ok (.ireturn, 1) := by decide +kernel
theorem dX6_make_0 : decode cX6_make 0 = .ok (.iload_n 1, 1) := by decide +kernel
theorem dX6_make_1 : decode cX6_make 1 = .ok (.invokestatic 85, 3) := by decide +kernel
theorem dX6_make_4 : decode cX6_make 4 = .ok (.ifCond .ne 9, 3) := by decide +kernel
theorem dX6_make_7 : decode cX6_make 7 = .ok (.aload_n 0, 1) := by decide +kernel
theorem dX6_make_8 : decode cX6_make 8 = .ok (.iconst (-1), 1) := by decide +kernel
theorem dX6_make_9 : decode cX6_make 9 = .ok (.invokevirtual 53, 3) := by decide +kernel
theorem dX6_make_12 : decode cX6_make 12 = .ok (.ireturn, 1) := by decide +kernel
theorem dX6_make_13 : decode cX6_make 13 = .ok (.iload_n 2, 1) := by decide +kernel
theorem dX6_make_14 : decode cX6_make 14 = .ok (.ifCond .ge 10, 3) := by decide +kernel
theorem dX6_make_17 : decode cX6_make 17 = .ok (.aload_n 0, 1) := by decide +kernel
theorem dX6_make_18 : decode cX6_make 18 = .ok (.bipush (-4), 2) := by decide +kernel
theorem dX6_make_20 : decode cX6_make 20 = .ok (.invokevirtual 53, 3) := by decide +kernel
theorem dX6_make_23 : decode cX6_make 23 = .ok (.ireturn, 1) := by decide +kernel
theorem dX6_make_24 : decode cX6_make 24 = .ok (.iload_n 2, 1) := by decide +kernel
theorem dX6_make_25 : decode cX6_make 25 = .ok (.bipush 9, 2) := by decide +kernel
theorem dX6_make_27 : decode cX6_make 27 = .ok (.if_icmp .le 10, 3) := by decide +kernel
theorem dX6_make_30 : decode cX6_make 30 = .ok (.aload_n 0, 1) := by decide +kernel
theorem dX6_make_31 : decode cX6_make 31 = .ok (.bipush (-6), 2) := by decide +kernel
theorem dX6_make_33 : decode cX6_make 33 = .ok (.invokevirtual 53, 3) := by decide +kernel
theorem dX6_make_36 : decode cX6_make 36 = .ok (.ireturn, 1) := by decide +kernel
theorem dX6_make_37 : decode cX6_make 37 = .ok (.aload_n 0, 1) := by decide +kernel
theorem dX6_make_38 : decode cX6_make 38 = .ok (.getfield 13, 3) := by decide +kernel
theorem dX6_make_41 : decode cX6_make 41 = .ok (.iload_n 1, 1) := by decide +kernel
theorem dX6_make_42 : decode cX6_make 42 = .ok (.iaload, 1) := by decide +kernel
theorem dX6_make_43 : decode cX6_make 43 = .ok (.istore_n 3, 1) := by decide +kernel
theorem dX6_make_44 : decode cX6_make 44 = .ok (.aload_n 0, 1) := by decide +kernel
theorem dX6_make_45 : decode cX6_make 45 = .ok (.getfield 13, 3) := by decide +kernel
theorem dX6_make_48 : decode cX6_make 48 = .ok (.iload_n 1, 1) := by decide +kernel
theorem dX6_make_49 : decode cX6_make 49 = .ok (.iload_n 2, 1) := by decide +kernel
theorem dX6_make_50 : decode cX6_make 50 = .ok (.iastore, 1) := by decide +kernel
theorem dX6_make_51 : decode cX6_make 51 = .ok (.iload_n 3, 1) := by decide +kernel
theorem dX6_make_52 : decode cX6_make 52 = .ok (.ireturn, 1) := by decide +kernel
theorem dX6_set_0 : decode cX6_set 0 = .ok (.iload_n 1, 1) := by decide +kernel
theorem dX6_set_1 : decode cX6_set 1 = .ok (.iconst 0, 1) := by decide +kernel
theorem dX6_set_2 : decode cX6_set 2 = .ok (.iconst 4, 1) := by decide +kernel
theorem dX6_set_3 : decode cX6_set 3 = .ok (.invokestatic 49, 3) := by decide +kernel
theorem dX6_set_6 : decode cX6_set 6 = .ok (.ifCond .ne 10, 3) := by decide +kernel
theorem dX6_set_9 : decode cX6_set 9 = .ok (.aload_n 0, 1) := by decide +kernel
theorem dX6_set_10 : decode cX6_set 10 = .ok (.bipush (-2), 2) := by decide +kernel
theorem dX6_set_12 : decode cX6_set 12 = .ok (.invokevirtual 53, 3) := by decide +kernel
theorem dX6_set_15 : decode cX6_set 15 = .ok (.ireturn, 1) := by decide +kernel
theorem dX6_set_16 : decode cX6_set 16 = .ok (.iload_n 1, 1) := by decide +kernel
theorem dX6_set_17 : decode cX6_set 17 = .ok (.ifCond .ne 16, 3) := by decide +kernel
theorem dX6_set_20 : decode cX6_set 20 = .ok (.iload_n 2, 1) := by decide +kernel
theorem dX6_set_21 : decode cX6_set 21 = .ok (.invokestatic 85, 3) := by decide +kernel
theorem dX6_set_24 : decode cX6_set 24 = .ok (.ifCond .ne 9, 3) := by decide +kernel
theorem dX6_set_27 : decode cX6_set 27 = .ok (.aload_n 0, 1) := by decide +kernel
theorem dX6_set_28 : decode cX6_set 28 = .ok (.iconst (-1), 1) := by decide +kernel
theorem dX6_set_29 : decode cX6_set 29 = .ok (.invokevirtual 53, 3) := by decide +kernel
theorem dX6_set_32 : decode cX6_set 32 = .ok (.ireturn, 1) := by decide +kernel
theorem dX6_set_33 : decode cX6_set 33 = .ok (.iload_n 1, 1) := by decide +kernel
theorem dX6_set_34 : decode cX6_set 34 = .ok (.ifCond .le 24, 3) := by decide +kernel
theorem dX6_set_37 : decode cX6_set 37 = .ok (.iload_n 2, 1) := by decide +kernel
theorem dX6_set_38 : decode cX6_set 38 = .ok (.iload_n 1, 1) := by decide +kernel
theorem dX6_set_39 : decode cX6_set 39 = .ok (.iconst 3, 1) := by decide +kernel
theorem dX6_set_40 : decode cX6_set 40 = .ok (.if_icmp .ge 7, 3) := by decide +kernel
theorem dX6_set_43 : decode cX6_set 43 = .ok (.iconst 1, 1) := by decide +kernel
theorem dX6_set_44 : decode cX6_set 44 = .ok (.goto 4, 3) := by decide +kernel
theorem dX6_set_47 : decode cX6_set 47 = .ok (.iconst 0, 1) := by decide +kernel
theorem dX6_set_48 : decode cX6_set 48 = .ok (.if_icmp .ge 10, 3) := by decide +kernel
theorem dX6_set_51 : decode cX6_set 51 = .ok (.aload_n 0, 1) := by decide +kernel
theorem dX6_set_52 : decode cX6_set 52 = .ok (.bipush (-4), 2) := by decide +kernel
theorem dX6_set_54 : decode cX6_set 54 = .ok (.invokevirtual 53, 3) := by decide +kernel
theorem dX6_set_57 : decode cX6_set 57 = .ok (.ireturn, 1) := by decide +kernel
theorem dX6_set_58 : decode cX6_set 58 = .ok (.iload_n 1, 1) := by decide +kernel
theorem dX6_set_59 : decode cX6_set 59 = .ok (.ifCond .le 26, 3) := by decide +kernel
theorem dX6_set_62 : decode cX6_set 62 = .ok (.iload_n 2, 1) := by decide +kernel
theorem dX6_set_63 : decode cX6_set 63 = .ok (.iload_n 1, 1) := by decide +kernel
theorem dX6_set_64 : decode cX6_set 64 = .ok (.iconst 3, 1) := by decide +kernel
theorem dX6_set_65 : decode cX6_set 65 = .ok (.if_icmp .ge 8, 3) := by decide +kernel
theorem dX6_set_68 : decode cX6_set 68 = .ok (.bipush 9, 2) := by decide +kernel
theorem dX6_set_70 : decode cX6_set 70 = .ok (.goto 5, 3) := by decide +kernel
theorem dX6_set_73 : decode cX6_set 73 = .ok (.bipush 99, 2) := by decide +kernel
theorem dX6_set_75 : decode cX6_set 75 = .ok (.if_icmp .le 10, 3) := by decide +kernel
theorem dX6_set_78 : decode cX6_set 78 = .ok (.aload_n 0, 1) := by decide +kernel
theorem dX6_set_79 : decode cX6_set 79 = .ok (.bipush (-6), 2) := by decide +kernel
theorem dX6_set_81 : decode cX6_set 81 = .ok (.invokevirtual 53, 3) := by decide +kernel
theorem dX6_set_84 : decode cX6_set 84 = .ok (.ireturn, 1) := by decide +kernel
theorem dX6_set_85 : decode cX6_set 85 = .ok (.aload_n 0, 1) := by decide +kernel
theorem dX6_set_86 : decode cX6_set 86 = .ok (.getfield 16, 3) := by decide +kernel
theorem dX6_set_89 : decode cX6_set 89 = .ok (.iload_n 1, 1) := by decide +kernel
theorem dX6_set_90 : decode cX6_set 90 = .ok (.iaload, 1) := by decide +kernel
theorem dX6_set_91 : decode cX6_set 91 = .ok (.istore_n 3, 1) := by decide +kernel
theorem dX6_set_92 : decode cX6_set 92 = .ok (.aload_n 0, 1) := by decide +kernel
theorem dX6_set_93 : decode cX6_set 93 = .ok (.getfield 16, 3) := by decide +kernel
theorem dX6_set_96 : decode cX6_set 96 = .ok (.iload_n 1, 1) := by decide +kernel
theorem dX6_set_97 : decode cX6_set 97 = .ok (.iload_n 2, 1) := by decide +kernel
theorem dX6_set_98 : decode cX6_set 98 = .ok (.iastore, 1) := by decide +kernel
theorem dX6_set_99 : decode cX6_set 99 = .ok (.aload_n 0, 1) := by decide +kernel
theorem dX6_set_100 : decode cX6_set 100 = .ok (.aload_n 0, 1) := by decide +kernel
theorem dX6_set_101 : decode cX6_set 101 = .ok (.getfield 16, 3) := by decide +kernel
theorem dX6_set_104 : decode cX6_set 104 = .ok (.iconst 0, 1) := by decide +kernel
theorem dX6_set_105 : decode cX6_set 105 = .ok (.iaload, 1) := by decide +kernel
theorem dX6_set_106 : decode cX6_set 106 = .ok (.invokevirtual 88, 3) := by decide +kernel
theorem dX6_set_109 : decode cX6_set 109 = .ok (.ifCond .eq 5, 3) := by decide +kernel
theorem dX6_set_112 : decode cX6_set 112 = .ok (.iload_n 3, 1) := by decide +kernel
theorem dX6_set_113 : decode cX6_set 113 = .ok (.ireturn, 1) := by decide +kernel
theorem dX6_set_114 : decode cX6_set 114 = .ok (.aload_n 0, 1) := by decide +kernel
theorem dX6_set_115 : decode cX6_set 115 = .ok (.getfield 16, 3) := by decide +kernel
theorem dX6_set_118 : decode cX6_set 118 = .ok (.iload_n 1, 1) := by decide +kernel
theorem dX6_set_119 : decode cX6_set 119 = .ok (.iload_n 3, 1) := by decide +kernel
theorem dX6_set_120 : decode cX6_set 120 = .ok (.iastore, 1) := by decide +kernel
theorem dX6_set_121 : decode cX6_set 121 = .ok (.aload_n 0, 1) := by decide +kernel
theorem dX6_set_122 : decode cX6_set 122 = .ok (.bipush (-3), 2) := by decide +kernel
theorem dX6_set_124 : decode cX6_set 124 = .ok (.invokevirtual 53, 3) := by decide +kernel
theorem dX6_set_127 : decode cX6_set 127 = .ok (.ireturn, 1) := by decide +kernel
theorem dX6_beside_0 : decode cX6_beside 0 = .ok (.iload_n 1, 1) := by decide +kernel
theorem dX6_beside_1 : decode cX6_beside 1 = .ok (.tableswitch 76 0 2 #[27, 43, 59], 27) := by decide +kernel
theorem dX6_beside_28 : decode cX6_beside 28 = .ok (.iload_n 0, 1) := by decide +kernel
theorem dX6_beside_29 : decode cX6_beside 29 = .ok (.bipush 6, 2) := by decide +kernel
theorem dX6_beside_31 : decode cX6_beside 31 = .ok (.if_icmp .ge 8, 3) := by decide +kernel
theorem dX6_beside_34 : decode cX6_beside 34 = .ok (.bipush (-9), 2) := by decide +kernel
theorem dX6_beside_36 : decode cX6_beside 36 = .ok (.goto 7, 3) := by decide +kernel
theorem dX6_beside_39 : decode cX6_beside 39 = .ok (.iload_n 0, 1) := by decide +kernel
theorem dX6_beside_40 : decode cX6_beside 40 = .ok (.bipush 6, 2) := by decide +kernel
theorem dX6_beside_42 : decode cX6_beside 42 = .ok (.isub, 1) := by decide +kernel
theorem dX6_beside_43 : decode cX6_beside 43 = .ok (.ireturn, 1) := by decide +kernel
theorem dX6_beside_44 : decode cX6_beside 44 = .ok (.iload_n 0, 1) := by decide +kernel
theorem dX6_beside_45 : decode cX6_beside 45 = .ok (.bipush 6, 2) := by decide +kernel
theorem dX6_beside_47 : decode cX6_beside 47 = .ok (.irem, 1) := by decide +kernel
theorem dX6_beside_48 : decode cX6_beside 48 = .ok (.ifCond .ne 8, 3) := by decide +kernel
theorem dX6_beside_51 : decode cX6_beside 51 = .ok (.bipush (-9), 2) := by decide +kernel
theorem dX6_beside_53 : decode cX6_beside 53 = .ok (.goto 6, 3) := by decide +kernel
theorem dX6_beside_56 : decode cX6_beside 56 = .ok (.iload_n 0, 1) := by decide +kernel
theorem dX6_beside_57 : decode cX6_beside 57 = .ok (.iconst 1, 1) := by decide +kernel
theorem dX6_beside_58 : decode cX6_beside 58 = .ok (.isub, 1) := by decide +kernel
theorem dX6_beside_59 : decode cX6_beside 59 = .ok (.ireturn, 1) := by decide +kernel
theorem dX6_beside_60 : decode cX6_beside 60 = .ok (.iload_n 0, 1) := by decide +kernel
theorem dX6_beside_61 : decode cX6_beside 61 = .ok (.bipush 6, 2) := by decide +kernel
theorem dX6_beside_63 : decode cX6_beside 63 = .ok (.irem, 1) := by decide +kernel
theorem dX6_beside_64 : decode cX6_beside 64 = .ok (.iconst 5, 1) := by decide +kernel
theorem dX6_beside_65 : decode cX6_beside 65 = .ok (.if_icmp .ne 8, 3) := by decide +kernel
theorem dX6_beside_68 : decode cX6_beside 68 = .ok (.bipush (-9), 2) := by decide +kernel
theorem dX6_beside_70 : decode cX6_beside 70 = .ok (.goto 6, 3) := by decide +kernel
theorem dX6_beside_73 : decode cX6_beside 73 = .ok (.iload_n 0, 1) := by decide +kernel
theorem dX6_beside_74 : decode cX6_beside 74 = .ok (.iconst 1, 1) := by decide +kernel
theorem dX6_beside_75 : decode cX6_beside 75 = .ok (.iadd, 1) := by decide +kernel
theorem dX6_beside_76 : decode cX6_beside 76 = .ok (.ireturn, 1) := by decide +kernel
theorem dX6_beside_77 : decode cX6_beside 77 = .ok (.iload_n 0, 1) := by decide +kernel
theorem dX6_beside_78 : decode cX6_beside 78 = .ok (.bipush 29, 2) := by decide +kernel
theorem dX6_beside_80 : decode cX6_beside 80 = .ok (.if_icmp .le 8, 3) := by decide +kernel
theorem dX6_beside_83 : decode cX6_beside 83 = .ok (.bipush (-9), 2) := by decide +kernel
theorem dX6_beside_85 : decode cX6_beside 85 = .ok (.goto 7, 3) := by decide +kernel
theorem dX6_beside_88 : decode cX6_beside 88 = .ok (.iload_n 0, 1) := by decide +kernel
theorem dX6_beside_89 : decode cX6_beside 89 = .ok (.bipush 6, 2) := by decide +kernel
theorem dX6_beside_91 : decode cX6_beside 91 = .ok (.iadd, 1) := by decide +kernel
theorem dX6_beside_92 : decode cX6_beside 92 = .ok (.ireturn, 1) := by decide +kernel
theorem dX6_daysTo_0 : decode cX6_daysTo 0 = .ok (.aload_n 0, 1) := by decide +kernel
theorem dX6_daysTo_1 : decode cX6_daysTo 1 = .ok (.getfield 9, 3) := by decide +kernel
theorem dX6_daysTo_4 : decode cX6_daysTo 4 = .ok (.iload_n 1, 1) := by decide +kernel
theorem dX6_daysTo_5 : decode cX6_daysTo 5 = .ok (.iaload, 1) := by decide +kernel
theorem dX6_daysTo_6 : decode cX6_daysTo 6 = .ok (.tableswitch 40 2 4 #[26, 28, 30], 26) := by decide +kernel
theorem dX6_daysTo_32 : decode cX6_daysTo 32 = .ok (.iconst 3, 1) := by decide +kernel
theorem dX6_daysTo_33 : decode cX6_daysTo 33 = .ok (.ireturn, 1) := by decide +kernel
theorem dX6_daysTo_34 : decode cX6_daysTo 34 = .ok (.iconst 2, 1) := by decide +kernel
theorem dX6_daysTo_35 : decode cX6_daysTo 35 = .ok (.ireturn, 1) := by decide +kernel
theorem dX6_daysTo_36 : decode cX6_daysTo 36 = .ok (.iload_n 2, 1) := by decide +kernel
theorem dX6_daysTo_37 : decode cX6_daysTo 37 = .ok (.ifCond .ne 7, 3) := by decide +kernel
theorem dX6_daysTo_40 : decode cX6_daysTo 40 = .ok (.iconst 3, 1) := by decide +kernel
theorem dX6_daysTo_41 : decode cX6_daysTo 41 = .ok (.goto 4, 3) := by decide +kernel
theorem dX6_daysTo_44 : decode cX6_daysTo 44 = .ok (.iconst 1, 1) := by decide +kernel
theorem dX6_daysTo_45 : decode cX6_daysTo 45 = .ok (.ireturn, 1) := by decide +kernel
theorem dX6_daysTo_46 : decode cX6_daysTo 46 = .ok (.iconst 1, 1) := by decide +kernel
theorem dX6_daysTo_47 : decode cX6_daysTo 47 = .ok (.ireturn, 1) := by decide +kernel
theorem dX6_sails_0 : decode cX6_sails 0 = .ok (.iconst 0, 1) := by decide +kernel
theorem dX6_sails_1 : decode cX6_sails 1 = .ok (.istore_n 3, 1) := by decide +kernel
theorem dX6_sails_2 : decode cX6_sails 2 = .ok (.iload_n 3, 1) := by decide +kernel
theorem dX6_sails_3 : decode cX6_sails 3 = .ok (.bipush 36, 2) := by decide +kernel
theorem dX6_sails_5 : decode cX6_sails 5 = .ok (.if_icmp .ge 14, 3) := by decide +kernel
theorem dX6_sails_8 : decode cX6_sails 8 = .ok (.aload_n 2, 1) := by decide +kernel
theorem dX6_sails_9 : decode cX6_sails 9 = .ok (.iload_n 3, 1) := by decide +kernel
theorem dX6_sails_10 : decode cX6_sails 10 = .ok (.bipush (-9), 2) := by decide +kernel
theorem dX6_sails_12 : decode cX6_sails 12 = .ok (.iastore, 1) := by decide +kernel
theorem dX6_sails_13 : decode cX6_sails 13 = .ok (.iinc 3 1, 3) := by decide +kernel
theorem dX6_sails_16 : decode cX6_sails 16 = .ok (.goto (-14), 3) := by decide +kernel
theorem dX6_sails_19 : decode cX6_sails 19 = .ok (.aload_n 0, 1) := by decide +kernel
theorem dX6_sails_20 : decode cX6_sails 20 = .ok (.iload_n 1, 1) := by decide +kernel
theorem dX6_sails_21 : decode cX6_sails 21 = .ok (.invokevirtual 88, 3) := by decide +kernel
theorem dX6_sails_24 : decode cX6_sails 24 = .ok (.ifCond .ne 4, 3) := by decide +kernel
theorem dX6_sails_27 : decode cX6_sails 27 = .ok (.return_, 1) := by decide +kernel
theorem dX6_sails_28 : decode cX6_sails 28 = .ok (.aload_n 2, 1) := by decide +kernel
theorem dX6_sails_29 : decode cX6_sails 29 = .ok (.iload_n 1, 1) := by decide +kernel
theorem dX6_sails_30 : decode cX6_sails 30 = .ok (.iconst 0, 1) := by decide +kernel
theorem dX6_sails_31 : decode cX6_sails 31 = .ok (.iastore, 1) := by decide +kernel
theorem dX6_sails_32 : decode cX6_sails 32 = .ok (.iconst 1, 1) := by decide +kernel
theorem dX6_sails_33 : decode cX6_sails 33 = .ok (.istore_n 3, 1) := by decide +kernel
theorem dX6_sails_34 : decode cX6_sails 34 = .ok (.iload_n 3, 1) := by decide +kernel
theorem dX6_sails_35 : decode cX6_sails 35 = .ok (.ifCond .eq 120, 3) := by decide +kernel
theorem dX6_sails_38 : decode cX6_sails 38 = .ok (.iconst 0, 1) := by decide +kernel
theorem dX6_sails_39 : decode cX6_sails 39 = .ok (.istore_n 3, 1) := by decide +kernel
theorem dX6_sails_40 : decode cX6_sails 40 = .ok (.iconst 0, 1) := by decide +kernel
theorem dX6_sails_41 : decode cX6_sails 41 = .ok (.istore 4, 2) := by decide +kernel
theorem dX6_sails_43 : decode cX6_sails 43 = .ok (.iload 4, 2) := by decide +kernel
theorem dX6_sails_45 : decode cX6_sails 45 = .ok (.bipush 36, 2) := by decide +kernel
theorem dX6_sails_47 : decode cX6_sails 47 = .ok (.if_icmp .ge 105, 3) := by decide +kernel
theorem dX6_sails_50 : decode cX6_sails 50 = .ok (.iconst 0, 1) := by decide +kernel
theorem dX6_sails_51 : decode cX6_sails 51 = .ok (.istore 5, 2) := by decide +kernel
theorem dX6_sails_53 : decode cX6_sails 53 = .ok (.iload 5, 2) := by decide +kernel
theorem dX6_sails_55 : decode cX6_sails 55 = .ok (.iconst 4, 1) := by decide +kernel
theorem dX6_sails_56 : decode cX6_sails 56 = .ok (.if_icmp .ge 90, 3) := by decide +kernel
theorem dX6_sails_59 : decode cX6_sails 59 = .ok (.iload 4, 2) := by decide +kernel
theorem dX6_sails_61 : decode cX6_sails 61 = .ok (.iload 5, 2) := by decide +kernel
theorem dX6_sails_63 : decode cX6_sails 63 = .ok (.invokestatic 111, 3) := by decide +kernel
theorem dX6_sails_66 : decode cX6_sails 66 = .ok (.istore 6, 2) := by decide +kernel
theorem dX6_sails_68 : decode cX6_sails 68 = .ok (.aload_n 2, 1) := by decide +kernel
theorem dX6_sails_69 : decode cX6_sails 69 = .ok (.iload 4, 2) := by decide +kernel
theorem dX6_sails_71 : decode cX6_sails 71 = .ok (.iaload, 1) := by decide +kernel
theorem dX6_sails_72 : decode cX6_sails 72 = .ok (.bipush (-9), 2) := by decide +kernel
theorem dX6_sails_74 : decode cX6_sails 74 = .ok (.if_icmp .eq 66, 3) := by decide +kernel
theorem dX6_sails_77 : decode cX6_sails 77 = .ok (.iload 6, 2) := by decide +kernel
theorem dX6_sails_79 : decode cX6_sails 79 = .ok (.bipush (-9), 2) := by decide +kernel
theorem dX6_sails_81 : decode cX6_sails 81 = .ok (.if_icmp .eq 59, 3) := by decide +kernel
theorem dX6_sails_84 : decode cX6_sails 84 = .ok (.aload_n 0, 1) := by decide +kernel
theorem dX6_sails_85 : decode cX6_sails 85 = .ok (.iload 6, 2) := by decide +kernel
theorem dX6_sails_87 : decode cX6_sails 87 = .ok (.invokevirtual 88, 3) := by decide +kernel
theorem dX6_sails_90 : decode cX6_sails 90 = .ok (.ifCond .ne 6, 3) := by decide +kernel
theorem dX6_sails_93 : decode cX6_sails 93 = .ok (.goto 47, 3) := by decide +kernel
theorem dX6_sails_96 : decode cX6_sails 96 = .ok (.aload_n 2, 1) := by decide +kernel
theorem dX6_sails_97 : decode cX6_sails 97 = .ok (.iload 4, 2) := by decide +kernel
theorem dX6_sails_99 : decode cX6_sails 99 = .ok (.iaload, 1) := by decide +kernel
theorem dX6_sails_100 : decode cX6_sails 100 = .ok (.aload_n 0, 1) := by decide +kernel
theorem dX6_sails_101 : decode cX6_sails 101 = .ok (.iload 6, 2) := by decide +kernel
theorem dX6_sails_103 : decode cX6_sails 103 = .ok (.iload 5, 2) := by decide +kernel
theorem dX6_sails_105 : decode cX6_sails 105 = .ok (.invokevirtual 115, 3) := by decide +kernel
theorem dX6_sails_108 : decode cX6_sails 108 = .ok (.iadd, 1) := by decide +kernel
theorem dX6_sails_109 : decode cX6_sails 109 = .ok (.istore 7, 2) := by decide +kernel
theorem dX6_sails_111 : decode cX6_sails 111 = .ok (.aload_n 2, 1) := by decide +kernel
theorem dX6_sails_112 : decode cX6_sails 112 = .ok (.iload 6, 2) := by decide +kernel
theorem dX6_sails_114 : decode cX6_sails 114 = .ok (.iaload, 1) := by decide +kernel
theorem dX6_sails_115 : decode cX6_sails 115 = .ok (.bipush (-9), 2) := by decide +kernel
theorem dX6_sails_117 : decode cX6_sails 117 = .ok (.if_icmp .eq 15, 3) := by decide +kernel
theorem dX6_sails_120 : decode cX6_sails 120 = .ok (.aload_n 2, 1) := by decide +kernel
theorem dX6_sails_121 : decode cX6_sails 121 = .ok (.iload 6, 2) := by decide +kernel
theorem dX6_sails_123 : decode cX6_sails 123 = .ok (.iaload, 1) := by decide +kernel
theorem dX6_sails_124 : decode cX6_sails 124 = .ok (.iload 7, 2) := by decide +kernel
theorem dX6_sails_126 : decode cX6_sails 126 = .ok (.if_icmp .gt 6, 3) := by decide +kernel
theorem dX6_sails_129 : decode cX6_sails 129 = .ok (.goto 11, 3) := by decide +kernel
theorem dX6_sails_132 : decode cX6_sails 132 = .ok (.aload_n 2, 1) := by decide +kernel
theorem dX6_sails_133 : decode cX6_sails 133 = .ok (.iload 6, 2) := by decide +kernel
theorem dX6_sails_135 : decode cX6_sails 135 = .ok (.iload 7, 2) := by decide +kernel
theorem dX6_sails_137 : decode cX6_sails 137 = .ok (.iastore, 1) := by decide +kernel
theorem dX6_sails_138 : decode cX6_sails 138 = .ok (.iconst 1, 1) := by decide +kernel
theorem dX6_sails_139 : decode cX6_sails 139 = .ok (.istore_n 3, 1) := by decide +kernel
theorem dX6_sails_140 : decode cX6_sails 140 = .ok (.iinc 5 1, 3) := by decide +kernel
theorem dX6_sails_143 : decode cX6_sails 143 = .ok (.goto (-90), 3) := by decide +kernel
theorem dX6_sails_146 : decode cX6_sails 146 = .ok (.iinc 4 1, 3) := by decide +kernel
theorem dX6_sails_149 : decode cX6_sails 149 = .ok (.goto (-106), 3) := by decide +kernel
theorem dX6_sails_152 : decode cX6_sails 152 = .ok (.goto (-118), 3) := by decide +kernel
theorem dX6_sails_155 : decode cX6_sails 155 = .ok (.return_, 1) := by decide +kernel
theorem dX6_fromHome_0 : decode cX6_fromHome 0 = .ok (.aload_n 0, 1) := by decide +kernel
theorem dX6_fromHome_1 : decode cX6_fromHome 1 = .ok (.aload_n 0, 1) := by decide +kernel
theorem dX6_fromHome_2 : decode cX6_fromHome 2 = .ok (.getfield 16, 3) := by decide +kernel
theorem dX6_fromHome_5 : decode cX6_fromHome 5 = .ok (.iconst 0, 1) := by decide +kernel
theorem dX6_fromHome_6 : decode cX6_fromHome 6 = .ok (.iaload, 1) := by decide +kernel
theorem dX6_fromHome_7 : decode cX6_fromHome 7 = .ok (.aload_n 0, 1) := by decide +kernel
theorem dX6_fromHome_8 : decode cX6_fromHome 8 = .ok (.getfield 43, 3) := by decide +kernel
theorem dX6_fromHome_11 : decode cX6_fromHome 11 = .ok (.invokevirtual 118, 3) := by decide +kernel
theorem dX6_fromHome_14 : decode cX6_fromHome 14 = .ok (.return_, 1) := by decide +kernel
theorem dX6_days_0 : decode cX6_days 0 = .ok (.iload_n 1, 1) := by decide +kernel
theorem dX6_days_1 : decode cX6_days 1 = .ok (.invokestatic 85, 3) := by decide +kernel
theorem dX6_days_4 : decode cX6_days 4 = .ok (.ifCond .eq 10, 3) := by decide +kernel
theorem dX6_days_7 : decode cX6_days 7 = .ok (.iload_n 2, 1) := by decide +kernel
theorem dX6_days_8 : decode cX6_days 8 = .ok (.invokestatic 85, 3) := by decide +kernel
theorem dX6_days_11 : decode cX6_days 11 = .ok (.ifCond .ne 9, 3) := by decide +kernel
theorem dX6_days_14 : decode cX6_days 14 = .ok (.aload_n 0, 1) := by decide +kernel
theorem dX6_days_15 : decode cX6_days 15 = .ok (.iconst (-1), 1) := by decide +kernel
theorem dX6_days_16 : decode cX6_days 16 = .ok (.invokevirtual 53, 3) := by decide +kernel
theorem dX6_days_19 : decode cX6_days 19 = .ok (.ireturn, 1) := by decide +kernel
theorem dX6_days_20 : decode cX6_days 20 = .ok (.aload_n 0, 1) := by decide +kernel
theorem dX6_days_21 : decode cX6_days 21 = .ok (.iload_n 1, 1) := by decide +kernel
theorem dX6_days_22 : decode cX6_days 22 = .ok (.aload_n 0, 1) := by decide +kernel
theorem dX6_days_23 : decode cX6_days 23 = .ok (.getfield 40, 3) := by decide +kernel
theorem dX6_days_26 : decode cX6_days 26 = .ok (.invokevirtual 118, 3) := by decide +kernel
theorem dX6_days_29 : decode cX6_days 29 = .ok (.aload_n 0, 1) := by decide +kernel
theorem dX6_days_30 : decode cX6_days 30 = .ok (.getfield 40, 3) := by decide +kernel
theorem dX6_days_33 : decode cX6_days 33 = .ok (.iload_n 2, 1) := by decide +kernel
theorem dX6_days_34 : decode cX6_days 34 = .ok (.iaload, 1) := by decide +kernel
theorem dX6_days_35 : decode cX6_days 35 = .ok (.ireturn, 1) := by decide +kernel
theorem dX6_way_0 : decode cX6_way 0 = .ok (.iload_n 1, 1) := by decide +kernel
theorem dX6_way_1 : decode cX6_way 1 = .ok (.invokestatic 85, 3) := by decide +kernel
theorem dX6_way_4 : decode cX6_way 4 = .ok (.ifCond .eq 10, 3) := by decide +kernel
theorem dX6_way_7 : decode cX6_way 7 = .ok (.iload_n 2, 1) := by decide +kernel
theorem dX6_way_8 : decode cX6_way 8 = .ok (.invokestatic 85, 3) := by decide +kernel
theorem dX6_way_11 : decode cX6_way 11 = .ok (.ifCond .ne 9, 3) := by decide +kernel
theorem dX6_way_14 : decode cX6_way 14 = .ok (.aload_n 0, 1) := by decide +kernel
theorem dX6_way_15 : decode cX6_way 15 = .ok (.iconst (-1), 1) := by decide +kernel
theorem dX6_way_16 : decode cX6_way 16 = .ok (.invokevirtual 53, 3) := by decide +kernel
theorem dX6_way_19 : decode cX6_way 19 = .ok (.ireturn, 1) := by decide +kernel
theorem dX6_way_20 : decode cX6_way 20 = .ok (.iload_n 1, 1) := by decide +kernel
theorem dX6_way_21 : decode cX6_way 21 = .ok (.iload_n 2, 1) := by decide +kernel
theorem dX6_way_22 : decode cX6_way 22 = .ok (.if_icmp .eq 11, 3) := by decide +kernel
theorem dX6_way_25 : decode cX6_way 25 = .ok (.aload_n 0, 1) := by decide +kernel
theorem dX6_way_26 : decode cX6_way 26 = .ok (.iload_n 1, 1) := by decide +kernel
theorem dX6_way_27 : decode cX6_way 27 = .ok (.invokevirtual 88, 3) := by decide +kernel
theorem dX6_way_30 : decode cX6_way 30 = .ok (.ifCond .ne 6, 3) := by decide +kernel
theorem dX6_way_33 : decode cX6_way 33 = .ok (.bipush (-9), 2) := by decide +kernel
theorem dX6_way_35 : decode cX6_way 35 = .ok (.ireturn, 1) := by decide +kernel
theorem dX6_way_36 : decode cX6_way 36 = .ok (.bipush (-9), 2) := by decide +kernel
theorem dX6_way_38 : decode cX6_way 38 = .ok (.istore_n 3, 1) := by decide +kernel
theorem dX6_way_39 : decode cX6_way 39 = .ok (.iconst 0, 1) := by decide +kernel
theorem dX6_way_40 : decode cX6_way 40 = .ok (.istore 4, 2) := by decide +kernel
theorem dX6_way_42 : decode cX6_way 42 = .ok (.iconst 0, 1) := by decide +kernel
theorem dX6_way_43 : decode cX6_way 43 = .ok (.istore 5, 2) := by decide +kernel
theorem dX6_way_45 : decode cX6_way 45 = .ok (.iload 5, 2) := by decide +kernel
theorem dX6_way_47 : decode cX6_way 47 = .ok (.iconst 4, 1) := by decide +kernel
theorem dX6_way_48 : decode cX6_way 48 = .ok (.if_icmp .ge 106, 3) := by decide +kernel
theorem dX6_way_51 : decode cX6_way 51 = .ok (.iload_n 1, 1) := by decide +kernel
theorem dX6_way_52 : decode cX6_way 52 = .ok (.iload 5, 2) := by decide +kernel
theorem dX6_way_54 : decode cX6_way 54 = .ok (.invokestatic 111, 3) := by decide +kernel
theorem dX6_way_57 : decode cX6_way 57 = .ok (.istore 6, 2) := by decide +kernel
theorem dX6_way_59 : decode cX6_way 59 = .ok (.iload 6, 2) := by decide +kernel
theorem dX6_way_61 : decode cX6_way 61 = .ok (.bipush (-9), 2) := by decide +kernel
theorem dX6_way_63 : decode cX6_way 63 = .ok (.if_icmp .eq 85, 3) := by decide +kernel
theorem dX6_way_66 : decode cX6_way 66 = .ok (.aload_n 0, 1) := by decide +kernel
theorem dX6_way_67 : decode cX6_way 67 = .ok (.iload 6, 2) := by decide +kernel
theorem dX6_way_69 : decode cX6_way 69 = .ok (.invokevirtual 88, 3) := by decide +kernel
theorem dX6_way_72 : decode cX6_way 72 = .ok (.ifCond .ne 6, 3) := by decide +kernel
theorem dX6_way_75 : decode cX6_way 75 = .ok (.goto 73, 3) := by decide +kernel
theorem dX6_way_78 : decode cX6_way 78 = .ok (.aload_n 0, 1) := by decide +kernel
theorem dX6_way_79 : decode cX6_way 79 = .ok (.iload 6, 2) := by decide +kernel
theorem dX6_way_81 : decode cX6_way 81 = .ok (.aload_n 0, 1) := by decide +kernel
theorem dX6_way_82 : decode cX6_way 82 = .ok (.getfield 40, 3) := by decide +kernel
theorem dX6_way_85 : decode cX6_way 85 = .ok (.invokevirtual 118, 3) := by decide +kernel
theorem dX6_way_88 : decode cX6_way 88 = .ok (.aload_n 0, 1) := by decide +kernel
theorem dX6_way_89 : decode cX6_way 89 = .ok (.getfield 40, 3) := by decide +kernel
theorem dX6_way_92 : decode cX6_way 92 = .ok (.iload_n 2, 1) := by decide +kernel
theorem dX6_way_93 : decode cX6_way 93 = .ok (.iaload, 1) := by decide +kernel
theorem dX6_way_94 : decode cX6_way 94 = .ok (.bipush (-9), 2) := by decide +kernel
theorem dX6_way_96 : decode cX6_way 96 = .ok (.if_icmp .eq 52, 3) := by decide +kernel
theorem dX6_way_99 : decode cX6_way 99 = .ok (.iload_n 3, 1) := by decide +kernel
theorem dX6_way_100 : decode cX6_way 100 = .ok (.bipush (-9), 2) := by decide +kernel
theorem dX6_way_102 : decode cX6_way 102 = .ok (.if_icmp .eq 26, 3) := by decide +kernel
theorem dX6_way_105 : decode cX6_way 105 = .ok (.aload_n 0, 1) := by decide +kernel
theorem dX6_way_106 : decode cX6_way 106 = .ok (.getfield 40, 3) := by decide +kernel
theorem dX6_way_109 : decode cX6_way 109 = .ok (.iload_n 2, 1) := by decide +kernel
theorem dX6_way_110 : decode cX6_way 110 = .ok (.iaload, 1) := by decide +kernel
theorem dX6_way_111 : decode cX6_way 111 = .ok (.aload_n 0, 1) := by decide +kernel
theorem dX6_way_112 : decode cX6_way 112 = .ok (.iload 6, 2) := by decide +kernel
theorem dX6_way_114 : decode cX6_way 114 = .ok (.iload 5, 2) := by decide +kernel
theorem dX6_way_116 : decode cX6_way 116 = .ok (.invokevirtual 115, 3) := by decide +kernel
theorem dX6_way_119 : decode cX6_way 119 = .ok (.iadd, 1) := by decide +kernel
theorem dX6_way_120 : decode cX6_way 120 = .ok (.iload 4, 2) := by decide +kernel
theorem dX6_way_122 : decode cX6_way 122 = .ok (.if_icmp .lt 6, 3) := by decide +kernel
theorem dX6_way_125 : decode cX6_way 125 = .ok (.goto 23, 3) := by decide +kernel
theorem dX6_way_128 : decode cX6_way 128 = .ok (.aload_n 0, 1) := by decide +kernel
theorem dX6_way_129 : decode cX6_way 129 = .ok (.getfield 40, 3) := by decide +kernel
theorem dX6_way_132 : decode cX6_way 132 = .ok (.iload_n 2, 1) := by decide +kernel
theorem dX6_way_133 : decode cX6_way 133 = .ok (.iaload, 1) := by decide +kernel
theorem dX6_way_134 : decode cX6_way 134 = .ok (.aload_n 0, 1) := by decide +kernel
theorem dX6_way_135 : decode cX6_way 135 = .ok (.iload 6, 2) := by decide +kernel
theorem dX6_way_137 : decode cX6_way 137 = .ok (.iload 5, 2) := by decide +kernel
theorem dX6_way_139 : decode cX6_way 139 = .ok (.invokevirtual 115, 3) := by decide +kernel
theorem dX6_way_142 : decode cX6_way 142 = .ok (.iadd, 1) := by decide +kernel
theorem dX6_way_143 : decode cX6_way 143 = .ok (.istore 4, 2) := by decide +kernel
theorem dX6_way_145 : decode cX6_way 145 = .ok (.iload 5, 2) := by decide +kernel
theorem dX6_way_147 : decode cX6_way 147 = .ok (.istore_n 3, 1) := by decide +kernel
theorem dX6_way_148 : decode cX6_way 148 = .ok (.iinc 5 1, 3) := by decide +kernel
theorem dX6_way_151 : decode cX6_way 151 = .ok (.goto (-106), 3) := by decide +kernel
theorem dX6_way_154 : decode cX6_way 154 = .ok (.iload_n 3, 1) := by decide +kernel
theorem dX6_way_155 : decode cX6_way 155 = .ok (.ireturn, 1) := by decide +kernel
theorem dX6_shakes_0 : decode cX6_shakes 0 = .ok (.iconst 0, 1) := by decide +kernel
theorem dX6_shakes_1 : decode cX6_shakes 1 = .ok (.istore_n 2, 1) := by decide +kernel
theorem dX6_shakes_2 : decode cX6_shakes 2 = .ok (.iload_n 2, 1) := by decide +kernel
theorem dX6_shakes_3 : decode cX6_shakes 3 = .ok (.sipush 360, 3) := by decide +kernel
theorem dX6_shakes_6 : decode cX6_shakes 6 = .ok (.if_icmp .ge 17, 3) := by decide +kernel
theorem dX6_shakes_9 : decode cX6_shakes 9 = .ok (.aload_n 0, 1) := by decide +kernel
theorem dX6_shakes_10 : decode cX6_shakes 10 = .ok (.getfield 46, 3) := by decide +kernel
theorem dX6_shakes_13 : decode cX6_shakes 13 = .ok (.iload_n 2, 1) := by decide +kernel
theorem dX6_shakes_14 : decode cX6_shakes 14 = .ok (.bipush (-9), 2) := by decide +kernel
theorem dX6_shakes_16 : decode cX6_shakes 16 = .ok (.iastore, 1) := by decide +kernel
theorem dX6_shakes_17 : decode cX6_shakes 17 = .ok (.iinc 2 1, 3) := by decide +kernel
theorem dX6_shakes_20 : decode cX6_shakes 20 = .ok (.goto (-18), 3) := by decide +kernel
theorem dX6_shakes_23 : decode cX6_shakes 23 = .ok (.aload_n 0, 1) := by decide +kernel
theorem dX6_shakes_24 : decode cX6_shakes 24 = .ok (.getfield 46, 3) := by decide +kernel
theorem dX6_shakes_27 : decode cX6_shakes 27 = .ok (.bipush 10, 2) := by decide +kernel
theorem dX6_shakes_29 : decode cX6_shakes 29 = .ok (.aload_n 0, 1) := by decide +kernel
theorem dX6_shakes_30 : decode cX6_shakes 30 = .ok (.getfield 16, 3) := by decide +kernel
theorem dX6_shakes_33 : decode cX6_shakes 33 = .ok (.iconst 0, 1) := by decide +kernel
theorem dX6_shakes_34 : decode cX6_shakes 34 = .ok (.iaload, 1) := by decide +kernel
theorem dX6_shakes_35 : decode cX6_shakes 35 = .ok (.imul, 1) := by decide +kernel
theorem dX6_shakes_36 : decode cX6_shakes 36 = .ok (.bipush 8, 2) := by decide +kernel
theorem dX6_shakes_38 : decode cX6_shakes 38 = .ok (.iadd, 1) := by decide +kernel
theorem dX6_shakes_39 : decode cX6_shakes 39 = .ok (.iconst 0, 1) := by decide +kernel
theorem dX6_shakes_40 : decode cX6_shakes 40 = .ok (.iastore, 1) := by decide +kernel
theorem dX6_shakes_41 : decode cX6_shakes 41 = .ok (.iconst 1, 1) := by decide +kernel
theorem dX6_shakes_42 : decode cX6_shakes 42 = .ok (.istore_n 2, 1) := by decide +kernel
theorem dX6_shakes_43 : decode cX6_shakes 43 = .ok (.iload_n 2, 1) := by decide +kernel
theorem dX6_shakes_44 : decode cX6_shakes 44 = .ok (.ifCond .eq 207, 3) := by decide +kernel
theorem dX6_shakes_47 : decode cX6_shakes 47 = .ok (.iconst 0, 1) := by decide +kernel
theorem dX6_shakes_48 : decode cX6_shakes 48 = .ok (.istore_n 2, 1) := by decide +kernel
theorem dX6_shakes_49 : decode cX6_shakes 49 = .ok (.iconst 0, 1) := by decide +kernel
theorem dX6_shakes_50 : decode cX6_shakes 50 = .ok (.istore_n 3, 1) := by decide +kernel
theorem dX6_shakes_51 : decode cX6_shakes 51 = .ok (.iload_n 3, 1) := by decide +kernel
theorem dX6_shakes_52 : decode cX6_shakes 52 = .ok (.sipush 360, 3) := by decide +kernel
theorem dX6_shakes_55 : decode cX6_shakes 55 = .ok (.if_icmp .ge 193, 3) := by decide +kernel
theorem dX6_shakes_58 : decode cX6_shakes 58 = .ok (.iload_n 3, 1) := by decide +kernel
theorem dX6_shakes_59 : decode cX6_shakes 59 = .ok (.bipush 10, 2) := by decide +kernel
theorem dX6_shakes_61 : decode cX6_shakes 61 = .ok (.idiv, 1) := by decide +kernel
theorem dX6_shakes_62 : decode cX6_shakes 62 = .ok (.istore 4, 2) := by decide +kernel
theorem dX6_shakes_64 : decode cX6_shakes 64 = .ok (.iload_n 3, 1) := by decide +kernel
theorem dX6_shakes_65 : decode cX6_shakes 65 = .ok (.bipush 10, 2) := by decide +kernel
theorem dX6_shakes_67 : decode cX6_shakes 67 = .ok (.irem, 1) := by decide +kernel
theorem dX6_shakes_68 : decode cX6_shakes 68 = .ok (.iconst 2, 1) := by decide +kernel
theorem dX6_shakes_69 : decode cX6_shakes 69 = .ok (.idiv, 1) := by decide +kernel
theorem dX6_shakes_70 : decode cX6_shakes 70 = .ok (.istore 5, 2) := by decide +kernel
theorem dX6_shakes_72 : decode cX6_shakes 72 = .ok (.iconst 0, 1) := by decide +kernel
theorem dX6_shakes_73 : decode cX6_shakes 73 = .ok (.istore 6, 2) := by decide +kernel
theorem dX6_shakes_75 : decode cX6_shakes 75 = .ok (.iload 6, 2) := by decide +kernel
theorem dX6_shakes_77 : decode cX6_shakes 77 = .ok (.iconst 4, 1) := by decide +kernel
theorem dX6_shakes_78 : decode cX6_shakes 78 = .ok (.if_icmp .ge 164, 3) := by decide +kernel
theorem dX6_shakes_81 : decode cX6_shakes 81 = .ok (.iload 4, 2) := by decide +kernel
theorem dX6_shakes_83 : decode cX6_shakes 83 = .ok (.iload 6, 2) := by decide +kernel
theorem dX6_shakes_85 : decode cX6_shakes 85 = .ok (.invokestatic 111, 3) := by decide +kernel
theorem dX6_shakes_88 : decode cX6_shakes 88 = .ok (.istore 7, 2) := by decide +kernel
theorem dX6_shakes_90 : decode cX6_shakes 90 = .ok (.aload_n 0, 1) := by decide +kernel
theorem dX6_shakes_91 : decode cX6_shakes 91 = .ok (.getfield 46, 3) := by decide +kernel
theorem dX6_shakes_94 : decode cX6_shakes 94 = .ok (.iload_n 3, 1) := by decide +kernel
theorem dX6_shakes_95 : decode cX6_shakes 95 = .ok (.iaload, 1) := by decide +kernel
theorem dX6_shakes_96 : decode cX6_shakes 96 = .ok (.bipush (-9), 2) := by decide +kernel
theorem dX6_shakes_98 : decode cX6_shakes 98 = .ok (.if_icmp .eq 138, 3) := by decide +kernel
theorem dX6_shakes_101 : decode cX6_shakes 101 = .ok (.iload 7, 2) := by decide +kernel
theorem dX6_shakes_103 : decode cX6_shakes 103 = .ok (.bipush (-9), 2) := by decide +kernel
theorem dX6_shakes_105 : decode cX6_shakes 105 = .ok (.if_icmp .eq 131, 3) := by decide +kernel
theorem dX6_shakes_108 : decode cX6_shakes 108 = .ok (.aload_n 0, 1) := by decide +kernel
theorem dX6_shakes_109 : decode cX6_shakes 109 = .ok (.iload 7, 2) := by decide +kernel
theorem dX6_shakes_111 : decode cX6_shakes 111 = .ok (.invokevirtual 88, 3) := by decide +kernel
theorem dX6_shakes_114 : decode cX6_shakes 114 = .ok (.ifCond .ne 6, 3) := by decide +kernel
theorem dX6_shakes_117 : decode cX6_shakes 117 = .ok (.goto 119, 3) := by decide +kernel
theorem dX6_shakes_120 : decode cX6_shakes 120 = .ok (.iload_n 3, 1) := by decide +kernel
theorem dX6_shakes_121 : decode cX6_shakes 121 = .ok (.iconst 2, 1) := by decide +kernel
theorem dX6_shakes_122 : decode cX6_shakes 122 = .ok (.irem, 1) := by decide +kernel
theorem dX6_shakes_123 : decode cX6_shakes 123 = .ok (.iconst 1, 1) := by decide +kernel
theorem dX6_shakes_124 : decode cX6_shakes 124 = .ok (.if_icmp .eq 27, 3) := by decide +kernel
theorem dX6_shakes_127 : decode cX6_shakes 127 = .ok (.aload_n 0, 1) := by decide +kernel
theorem dX6_shakes_128 : decode cX6_shakes 128 = .ok (.getfield 9, 3) := by decide +kernel
theorem dX6_shakes_131 : decode cX6_shakes 131 = .ok (.iload 4, 2) := by decide +kernel
theorem dX6_shakes_133 : decode cX6_shakes 133 = .ok (.iaload, 1) := by decide +kernel
theorem dX6_shakes_134 : decode cX6_shakes 134 = .ok (.iconst 3, 1) := by decide +kernel
theorem dX6_shakes_135 : decode cX6_shakes 135 = .ok (.if_icmp .ne 20, 3) := by decide +kernel
theorem dX6_shakes_138 : decode cX6_shakes 138 = .ok (.iload 5, 2) := by decide +kernel
theorem dX6_shakes_140 : decode cX6_shakes 140 = .ok (.iconst 4, 1) := by decide +kernel
theorem dX6_shakes_141 : decode cX6_shakes 141 = .ok (.if_icmp .ge 14, 3) := by decide +kernel
theorem dX6_shakes_144 : decode cX6_shakes 144 = .ok (.iload 5, 2) := by decide +kernel
theorem dX6_shakes_146 : decode cX6_shakes 146 = .ok (.iload 6, 2) := by decide +kernel
theorem dX6_shakes_148 : decode cX6_shakes 148 = .ok (.if_icmp .eq 7, 3) := by decide +kernel
theorem dX6_shakes_151 : decode cX6_shakes 151 = .ok (.iconst 1, 1) := by decide +kernel
theorem dX6_shakes_152 : decode cX6_shakes 152 = .ok (.goto 4, 3) := by decide +kernel
theorem dX6_shakes_155 : decode cX6_shakes 155 = .ok (.iconst 0, 1) := by decide +kernel
theorem dX6_shakes_156 : decode cX6_shakes 156 = .ok (.istore 8, 2) := by decide +kernel
theorem dX6_shakes_158 : decode cX6_shakes 158 = .ok (.bipush 10, 2) := by decide +kernel
theorem dX6_shakes_160 : decode cX6_shakes 160 = .ok (.iload 7, 2) := by decide +kernel
theorem dX6_shakes_162 : decode cX6_shakes 162 = .ok (.imul, 1) := by decide +kernel
theorem dX6_shakes_163 : decode cX6_shakes 163 = .ok (.iconst 2, 1) := by decide +kernel
theorem dX6_shakes_164 : decode cX6_shakes 164 = .ok (.iload 6, 2) := by decide +kernel
theorem dX6_shakes_166 : decode cX6_shakes 166 = .ok (.imul, 1) := by decide +kernel
theorem dX6_shakes_167 : decode cX6_shakes 167 = .ok (.iadd, 1) := by decide +kernel
theorem dX6_shakes_168 : decode cX6_shakes 168 = .ok (.iload 8, 2) := by decide +kernel
theorem dX6_shakes_170 : decode cX6_shakes 170 = .ok (.ifCond .eq 7, 3) := by decide +kernel
theorem dX6_shakes_173 : decode cX6_shakes 173 = .ok (.iconst 1, 1) := by decide +kernel
theorem dX6_shakes_174 : decode cX6_shakes 174 = .ok (.goto 4, 3) := by decide +kernel
theorem dX6_shakes_177 : decode cX6_shakes 177 = .ok (.iconst 0, 1) := by decide +kernel
theorem dX6_shakes_178 : decode cX6_shakes 178 = .ok (.iadd, 1) := by decide +kernel
theorem dX6_shakes_179 : decode cX6_shakes 179 = .ok (.istore 9, 2) := by decide +kernel
theorem dX6_shakes_181 : decode cX6_shakes 181 = .ok (.aload_n 0, 1) := by decide +kernel
theorem dX6_shakes_182 : decode cX6_shakes 182 = .ok (.getfield 46, 3) := by decide +kernel
theorem dX6_shakes_185 : decode cX6_shakes 185 = .ok (.iload_n 3, 1) := by decide +kernel
theorem dX6_shakes_186 : decode cX6_shakes 186 = .ok (.iaload, 1) := by decide +kernel
theorem dX6_shakes_187 : decode cX6_shakes 187 = .ok (.aload_n 0, 1) := by decide +kernel
theorem dX6_shakes_188 : decode cX6_shakes 188 = .ok (.iload 7, 2) := by decide +kernel
theorem dX6_shakes_190 : decode cX6_shakes 190 = .ok (.iload 6, 2) := by decide +kernel
theorem dX6_shakes_192 : decode cX6_shakes 192 = .ok (.invokevirtual 115, 3) := by decide +kernel
theorem dX6_shakes_195 : decode cX6_shakes 195 = .ok (.iadd, 1) := by decide +kernel
theorem dX6_shakes_196 : decode cX6_shakes 196 = .ok (.istore 10, 2) := by decide +kernel
theorem dX6_shakes_198 : decode cX6_shakes 198 = .ok (.aload_n 0, 1) := by decide +kernel
theorem dX6_shakes_199 : decode cX6_shakes 199 = .ok (.getfield 46, 3) := by decide +kernel
theorem dX6_shakes_202 : decode cX6_shakes 202 = .ok (.iload 9, 2) := by decide +kernel
theorem dX6_shakes_204 : decode cX6_shakes 204 = .ok (.iaload, 1) := by decide +kernel
theorem dX6_shakes_205 : decode cX6_shakes 205 = .ok (.bipush (-9), 2) := by decide +kernel
theorem dX6_shakes_207 : decode cX6_shakes 207 = .ok (.if_icmp .eq 18, 3) := by decide +kernel
theorem dX6_shakes_210 : decode cX6_shakes 210 = .ok (.aload_n 0, 1) := by decide +kernel
theorem dX6_shakes_211 : decode cX6_shakes 211 = .ok (.getfield 46, 3) := by decide +kernel
theorem dX6_shakes_214 : decode cX6_shakes 214 = .ok (.iload 9, 2) := by decide +kernel
theorem dX6_shakes_216 : decode cX6_shakes 216 = .ok (.iaload, 1) := by decide +kernel
theorem dX6_shakes_217 : decode cX6_shakes 217 = .ok (.iload 10, 2) := by decide +kernel
theorem dX6_shakes_219 : decode cX6_shakes 219 = .ok (.if_icmp .gt 6, 3) := by decide +kernel
theorem dX6_shakes_222 : decode cX6_shakes 222 = .ok (.goto 14, 3) := by decide +kernel
theorem dX6_shakes_225 : decode cX6_shakes 225 = .ok (.aload_n 0, 1) := by decide +kernel
theorem dX6_shakes_226 : decode cX6_shakes 226 = .ok (.getfield 46, 3) := by decide +kernel
theorem dX6_shakes_229 : decode cX6_shakes 229 = .ok (.iload 9, 2) := by decide +kernel
theorem dX6_shakes_231 : decode cX6_shakes 231 = .ok (.iload 10, 2) := by decide +kernel
theorem dX6_shakes_233 : decode cX6_shakes 233 = .ok (.iastore, 1) := by decide +kernel
theorem dX6_shakes_234 : decode cX6_shakes 234 = .ok (.iconst 1, 1) := by decide +kernel
theorem dX6_shakes_235 : decode cX6_shakes 235 = .ok (.istore_n 2, 1) := by decide +kernel
theorem dX6_shakes_236 : decode cX6_shakes 236 = .ok (.iinc 6 1, 3) := by decide +kernel
theorem dX6_shakes_239 : decode cX6_shakes 239 = .ok (.goto (-164), 3) := by decide +kernel
theorem dX6_shakes_242 : decode cX6_shakes 242 = .ok (.iinc 3 1, 3) := by decide +kernel
theorem dX6_shakes_245 : decode cX6_shakes 245 = .ok (.goto (-194), 3) := by decide +kernel
theorem dX6_shakes_248 : decode cX6_shakes 248 = .ok (.goto (-205), 3) := by decide +kernel
theorem dX6_shakes_251 : decode cX6_shakes 251 = .ok (.bipush (-9), 2) := by decide +kernel
theorem dX6_shakes_253 : decode cX6_shakes 253 = .ok (.istore_n 3, 1) := by decide +kernel
theorem dX6_shakes_254 : decode cX6_shakes 254 = .ok (.iconst 0, 1) := by decide +kernel
theorem dX6_shakes_255 : decode cX6_shakes 255 = .ok (.istore 4, 2) := by decide +kernel
theorem dX6_shakes_257 : decode cX6_shakes 257 = .ok (.iload 4, 2) := by decide +kernel
theorem dX6_shakes_259 : decode cX6_shakes 259 = .ok (.iconst 5, 1) := by decide +kernel
theorem dX6_shakes_260 : decode cX6_shakes 260 = .ok (.if_icmp .ge 49, 3) := by decide +kernel
theorem dX6_shakes_263 : decode cX6_shakes 263 = .ok (.aload_n 0, 1) := by decide +kernel
theorem dX6_shakes_264 : decode cX6_shakes 264 = .ok (.getfield 46, 3) := by decide +kernel
theorem dX6_shakes_267 : decode cX6_shakes 267 = .ok (.bipush 10, 2) := by decide +kernel
theorem dX6_shakes_269 : decode cX6_shakes 269 = .ok (.iload_n 1, 1) := by decide +kernel
theorem dX6_shakes_270 : decode cX6_shakes 270 = .ok (.imul, 1) := by decide +kernel
theorem dX6_shakes_271 : decode cX6_shakes 271 = .ok (.iconst 2, 1) := by decide +kernel
theorem dX6_shakes_272 : decode cX6_shakes 272 = .ok (.iload 4, 2) := by decide +kernel
theorem dX6_shakes_274 : decode cX6_shakes 274 = .ok (.imul, 1) := by decide +kernel
theorem dX6_shakes_275 : decode cX6_shakes 275 = .ok (.iadd, 1) := by decide +kernel
theorem dX6_shakes_276 : decode cX6_shakes 276 = .ok (.iconst 1, 1) := by decide +kernel
theorem dX6_shakes_277 : decode cX6_shakes 277 = .ok (.iadd, 1) := by decide +kernel
theorem dX6_shakes_278 : decode cX6_shakes 278 = .ok (.iaload, 1) := by decide +kernel
theorem dX6_shakes_279 : decode cX6_shakes 279 = .ok (.istore 5, 2) := by decide +kernel
theorem dX6_shakes_281 : decode cX6_shakes 281 = .ok (.iload 5, 2) := by decide +kernel
theorem dX6_shakes_283 : decode cX6_shakes 283 = .ok (.bipush (-9), 2) := by decide +kernel
theorem dX6_shakes_285 : decode cX6_shakes 285 = .ok (.if_icmp .eq 18, 3) := by decide +kernel
theorem dX6_shakes_288 : decode cX6_shakes 288 = .ok (.iload_n 3, 1) := by decide +kernel
theorem dX6_shakes_289 : decode cX6_shakes 289 = .ok (.bipush (-9), 2) := by decide +kernel
theorem dX6_shakes_291 : decode cX6_shakes 291 = .ok (.if_icmp .eq 9, 3) := by decide +kernel
theorem dX6_shakes_294 : decode cX6_shakes 294 = .ok (.iload 5, 2) := by decide +kernel
theorem dX6_shakes_296 : decode cX6_shakes 296 = .ok (.iload_n 3, 1) := by decide +kernel
theorem dX6_shakes_297 : decode cX6_shakes 297 = .ok (.if_icmp .ge 6, 3) := by decide +kernel
theorem dX6_shakes_300 : decode cX6_shakes 300 = .ok (.iload 5, 2) := by decide +kernel
theorem dX6_shakes_302 : decode cX6_shakes 302 = .ok (.istore_n 3, 1) := by decide +kernel
theorem dX6_shakes_303 : decode cX6_shakes 303 = .ok (.iinc 4 1, 3) := by decide +kernel
theorem dX6_shakes_306 : decode cX6_shakes 306 = .ok (.goto (-49), 3) := by decide +kernel
theorem dX6_shakes_309 : decode cX6_shakes 309 = .ok (.iload_n 3, 1) := by decide +kernel
theorem dX6_shakes_310 : decode cX6_shakes 310 = .ok (.ireturn, 1) := by decide +kernel
theorem dX6_shake_0 : decode cX6_shake 0 = .ok (.iload_n 1, 1) := by decide +kernel
theorem dX6_shake_1 : decode cX6_shake 1 = .ok (.invokestatic 85, 3) := by decide +kernel
theorem dX6_shake_4 : decode cX6_shake 4 = .ok (.ifCond .eq 11, 3) := by decide +kernel
theorem dX6_shake_7 : decode cX6_shake 7 = .ok (.aload_n 0, 1) := by decide +kernel
theorem dX6_shake_8 : decode cX6_shake 8 = .ok (.iload_n 1, 1) := by decide +kernel
theorem dX6_shake_9 : decode cX6_shake 9 = .ok (.invokevirtual 122, 3) := by decide +kernel
theorem dX6_shake_12 : decode cX6_shake 12 = .ok (.goto 8, 3) := by decide +kernel
theorem dX6_shake_15 : decode cX6_shake 15 = .ok (.aload_n 0, 1) := by decide +kernel
theorem dX6_shake_16 : decode cX6_shake 16 = .ok (.iconst (-1), 1) := by decide +kernel
theorem dX6_shake_17 : decode cX6_shake 17 = .ok (.invokevirtual 53, 3) := by decide +kernel
theorem dX6_shake_20 : decode cX6_shake 20 = .ok (.ireturn, 1) := by decide +kernel
theorem dX6_led_0 : decode cX6_led 0 = .ok (.iload_n 1, 1) := by decide +kernel
theorem dX6_led_1 : decode cX6_led 1 = .ok (.invokestatic 85, 3) := by decide +kernel
theorem dX6_led_4 : decode cX6_led 4 = .ok (.ifCond .ne 9, 3) := by decide +kernel
theorem dX6_led_7 : decode cX6_led 7 = .ok (.aload_n 0, 1) := by decide +kernel
theorem dX6_led_8 : decode cX6_led 8 = .ok (.iconst (-1), 1) := by decide +kernel
theorem dX6_led_9 : decode cX6_led 9 = .ok (.invokevirtual 53, 3) := by decide +kernel
theorem dX6_led_12 : decode cX6_led 12 = .ok (.ireturn, 1) := by decide +kernel
theorem dX6_led_13 : decode cX6_led 13 = .ok (.aload_n 0, 1) := by decide +kernel
theorem dX6_led_14 : decode cX6_led 14 = .ok (.iload_n 1, 1) := by decide +kernel
theorem dX6_led_15 : decode cX6_led 15 = .ok (.invokevirtual 122, 3) := by decide +kernel
theorem dX6_led_18 : decode cX6_led 18 = .ok (.istore_n 2, 1) := by decide +kernel
theorem dX6_led_19 : decode cX6_led 19 = .ok (.aload_n 0, 1) := by decide +kernel
theorem dX6_led_20 : decode cX6_led 20 = .ok (.invokevirtual 125, 3) := by decide +kernel
theorem dX6_led_23 : decode cX6_led 23 = .ok (.iload_n 2, 1) := by decide +kernel
theorem dX6_led_24 : decode cX6_led 24 = .ok (.bipush (-9), 2) := by decide +kernel
theorem dX6_led_26 : decode cX6_led 26 = .ok (.if_icmp .ne 8, 3) := by decide +kernel
theorem dX6_led_29 : decode cX6_led 29 = .ok (.bipush (-9), 2) := by decide +kernel
theorem dX6_led_31 : decode cX6_led 31 = .ok (.goto 11, 3) := by decide +kernel
theorem dX6_led_34 : decode cX6_led 34 = .ok (.iload_n 2, 1) := by decide +kernel
theorem dX6_led_35 : decode cX6_led 35 = .ok (.aload_n 0, 1) := by decide +kernel
theorem dX6_led_36 : decode cX6_led 36 = .ok (.getfield 43, 3) := by decide +kernel
theorem dX6_led_39 : decode cX6_led 39 = .ok (.iload_n 1, 1) := by decide +kernel
theorem dX6_led_40 : decode cX6_led 40 = .ok (.iaload, 1) := by decide +kernel
theorem dX6_led_41 : decode cX6_led 41 = .ok (.isub, 1) := by decide +kernel
theorem dX6_led_42 : decode cX6_led 42 = .ok (.ireturn, 1) := by decide +kernel
theorem dX6_isBesideShoal_0 : decode cX6_isBesideShoal 0 = .ok (.iconst 0, 1) := by decide +kernel
theorem dX6_isBesideShoal_1 : decode cX6_isBesideShoal 1 = .ok (.istore_n 2, 1) := by decide +kernel
theorem dX6_isBesideShoal_2 : decode cX6_isBesideShoal 2 = .ok (.iload_n 2, 1) := by decide +kernel
theorem dX6_isBesideShoal_3 : decode cX6_isBesideShoal 3 = .ok (.iconst 4, 1) := by decide +kernel
theorem dX6_isBesideShoal_4 : decode cX6_isBesideShoal 4 = .ok (.if_icmp .ge 33, 3) := by decide +kernel
theorem dX6_isBesideShoal_7 : decode cX6_isBesideShoal 7 = .ok (.iload_n 1, 1) := by decide +kernel
theorem dX6_isBesideShoal_8 : decode cX6_isBesideShoal 8 = .ok (.iload_n 2, 1) := by decide +kernel
theorem dX6_isBesideShoal_9 : decode cX6_isBesideShoal 9 = .ok (.invokestatic 111, 3) := by decide +kernel
theorem dX6_isBesideShoal_12 : decode cX6_isBesideShoal 12 = .ok (.bipush (-9), 2) := by decide +kernel
theorem dX6_isBesideShoal_14 : decode cX6_isBesideShoal 14 = .ok (.if_icmp .eq 17, 3) := by decide +kernel
theorem dX6_isBesideShoal_17 : decode cX6_isBesideShoal 17 = .ok (.aload_n 0, 1) := by decide +kernel
theorem dX6_isBesideShoal_18 : decode cX6_isBesideShoal 18 = .ok (.iload_n 1, 1) := by decide +kernel
theorem dX6_isBesideShoal_19 : decode cX6_isBesideShoal 19 = .ok (.iload_n 2, 1) := by decide +kernel
theorem dX6_isBesideShoal_20 : decode cX6_isBesideShoal 20 = .ok (.invokestatic 111, 3) := by decide +kernel
theorem dX6_isBesideShoal_23 : decode cX6_isBesideShoal 23 = .ok (.invokevirtual 88, 3) := by decide +kernel
theorem dX6_isBesideShoal_26 : decode cX6_isBesideShoal 26 = .ok (.ifCond .ne 5, 3) := by decide +kernel
theorem dX6_isBesideShoal_29 : decode cX6_isBesideShoal 29 = .ok (.iconst 1, 1) := by decide +kernel
theorem dX6_isBesideShoal_30 : decode cX6_isBesideShoal 30 = .ok (.ireturn, 1) := by decide +kernel
theorem dX6_isBesideShoal_31 : decode cX6_isBesideShoal 31 = .ok (.iinc 2 1, 3) := by decide +kernel
theorem dX6_isBesideShoal_34 : decode cX6_isBesideShoal 34 = .ok (.goto (-32), 3) := by decide +kernel
theorem dX6_isBesideShoal_37 : decode cX6_isBesideShoal 37 = .ok (.iconst 0, 1) := by decide +kernel
theorem dX6_isBesideShoal_38 : decode cX6_isBesideShoal 38 = .ok (.ireturn, 1) := by decide +kernel
theorem dX6_wreckAt_0 : decode cX6_wreckAt 0 = .ok (.aload_n 0, 1) := by decide +kernel
theorem dX6_wreckAt_1 : decode cX6_wreckAt 1 = .ok (.invokevirtual 125, 3) := by decide +kernel
theorem dX6_wreckAt_4 : decode cX6_wreckAt 4 = .ok (.bipush (-9), 2) := by decide +kernel
theorem dX6_wreckAt_6 : decode cX6_wreckAt 6 = .ok (.istore_n 1, 1) := by decide +kernel
theorem dX6_wreckAt_7 : decode cX6_wreckAt 7 = .ok (.iconst 0, 1) := by decide +kernel
theorem dX6_wreckAt_8 : decode cX6_wreckAt 8 = .ok (.istore_n 2, 1) := by decide +kernel
theorem dX6_wreckAt_9 : decode cX6_wreckAt 9 = .ok (.iload_n 2, 1) := by decide +kernel
theorem dX6_wreckAt_10 : decode cX6_wreckAt 10 = .ok (.bipush 36, 2) := by decide +kernel
theorem dX6_wreckAt_12 : decode cX6_wreckAt 12 = .ok (.if_icmp .ge 51, 3) := by decide +kernel
theorem dX6_wreckAt_15 : decode cX6_wreckAt 15 = .ok (.aload_n 0, 1) := by decide +kernel
theorem dX6_wreckAt_16 : decode cX6_wreckAt 16 = .ok (.getfield 43, 3) := by decide +kernel
theorem dX6_wreckAt_19 : decode cX6_wreckAt 19 = .ok (.iload_n 2, 1) := by decide +kernel
theorem dX6_wreckAt_20 : decode cX6_wreckAt 20 = .ok (.iaload, 1) := by decide +kernel
theorem dX6_wreckAt_21 : decode cX6_wreckAt 21 = .ok (.bipush (-9), 2) := by decide +kernel
theorem dX6_wreckAt_23 : decode cX6_wreckAt 23 = .ok (.if_icmp .eq 34, 3) := by decide +kernel
theorem dX6_wreckAt_26 : decode cX6_wreckAt 26 = .ok (.aload_n 0, 1) := by decide +kernel
theorem dX6_wreckAt_27 : decode cX6_wreckAt 27 = .ok (.iload_n 2, 1) := by decide +kernel
theorem dX6_wreckAt_28 : decode cX6_wreckAt 28 = .ok (.invokevirtual 128, 3) := by decide +kernel
theorem dX6_wreckAt_31 : decode cX6_wreckAt 31 = .ok (.ifCond .eq 26, 3) := by decide +kernel
theorem dX6_wreckAt_34 : decode cX6_wreckAt 34 = .ok (.iload_n 1, 1) := by decide +kernel
theorem dX6_wreckAt_35 : decode cX6_wreckAt 35 = .ok (.bipush (-9), 2) := by decide +kernel
theorem dX6_wreckAt_37 : decode cX6_wreckAt 37 = .ok (.if_icmp .eq 18, 3) := by decide +kernel
theorem dX6_wreckAt_40 : decode cX6_wreckAt 40 = .ok (.aload_n 0, 1) := by decide +kernel
theorem dX6_wreckAt_41 : decode cX6_wreckAt 41 = .ok (.getfield 43, 3) := by decide +kernel
theorem dX6_wreckAt_44 : decode cX6_wreckAt 44 = .ok (.iload_n 2, 1) := by decide +kernel
theorem dX6_wreckAt_45 : decode cX6_wreckAt 45 = .ok (.iaload, 1) := by decide +kernel
theorem dX6_wreckAt_46 : decode cX6_wreckAt 46 = .ok (.aload_n 0, 1) := by decide +kernel
theorem dX6_wreckAt_47 : decode cX6_wreckAt 47 = .ok (.getfield 43, 3) := by decide +kernel
theorem dX6_wreckAt_50 : decode cX6_wreckAt 50 = .ok (.iload_n 1, 1) := by decide +kernel
theorem dX6_wreckAt_51 : decode cX6_wreckAt 51 = .ok (.iaload, 1) := by decide +kernel
theorem dX6_wreckAt_52 : decode cX6_wreckAt 52 = .ok (.if_icmp .ge 5, 3) := by decide +kernel
theorem dX6_wreckAt_55 : decode cX6_wreckAt 55 = .ok (.iload_n 2, 1) := by decide +kernel
theorem dX6_wreckAt_56 : decode cX6_wreckAt 56 = .ok (.istore_n 1, 1) := by decide +kernel
theorem dX6_wreckAt_57 : decode cX6_wreckAt 57 = .ok (.iinc 2 1, 3) := by decide +kernel
theorem dX6_wreckAt_60 : decode cX6_wreckAt 60 = .ok (.goto (-51), 3) := by decide +kernel
theorem dX6_wreckAt_63 : decode cX6_wreckAt 63 = .ok (.iload_n 1, 1) := by decide +kernel
theorem dX6_wreckAt_64 : decode cX6_wreckAt 64 = .ok (.ireturn, 1) := by decide +kernel
theorem dX6_wreck_0 : decode cX6_wreck 0 = .ok (.iload_n 1, 1) := by decide +kernel
theorem dX6_wreck_1 : decode cX6_wreck 1 = .ok (.iconst 0, 1) := by decide +kernel
theorem dX6_wreck_2 : decode cX6_wreck 2 = .ok (.iconst 1, 1) := by decide +kernel
theorem dX6_wreck_3 : decode cX6_wreck 3 = .ok (.invokestatic 49, 3) := by decide +kernel
theorem dX6_wreck_6 : decode cX6_wreck 6 = .ok (.ifCond .ne 10, 3) := by decide +kernel
theorem dX6_wreck_9 : decode cX6_wreck 9 = .ok (.aload_n 0, 1) := by decide +kernel
theorem dX6_wreck_10 : decode cX6_wreck 10 = .ok (.bipush (-2), 2) := by decide +kernel
theorem dX6_wreck_12 : decode cX6_wreck 12 = .ok (.invokevirtual 53, 3) := by decide +kernel
theorem dX6_wreck_15 : decode cX6_wreck 15 = .ok (.ireturn, 1) := by decide +kernel
theorem dX6_wreck_16 : decode cX6_wreck 16 = .ok (.aload_n 0, 1) := by decide +kernel
theorem dX6_wreck_17 : decode cX6_wreck 17 = .ok (.invokevirtual 131, 3) := by decide +kernel
theorem dX6_wreck_20 : decode cX6_wreck 20 = .ok (.istore_n 2, 1) := by decide +kernel
theorem dX6_wreck_21 : decode cX6_wreck 21 = .ok (.iload_n 2, 1) := by decide +kernel
theorem dX6_wreck_22 : decode cX6_wreck 22 = .ok (.bipush (-9), 2) := by decide +kernel
theorem dX6_wreck_24 : decode cX6_wreck 24 = .ok (.if_icmp .eq 8, 3) := by decide +kernel
theorem dX6_wreck_27 : decode cX6_wreck 27 = .ok (.iload_n 1, 1) := by decide +kernel
theorem dX6_wreck_28 : decode cX6_wreck 28 = .ok (.iconst 1, 1) := by decide +kernel
theorem dX6_wreck_29 : decode cX6_wreck 29 = .ok (.if_icmp .ne 7, 3) := by decide +kernel
theorem dX6_wreck_32 : decode cX6_wreck 32 = .ok (.iload_n 2, 1) := by decide +kernel
theorem dX6_wreck_33 : decode cX6_wreck 33 = .ok (.goto 9, 3) := by decide +kernel
theorem dX6_wreck_36 : decode cX6_wreck 36 = .ok (.aload_n 0, 1) := by decide +kernel
theorem dX6_wreck_37 : decode cX6_wreck 37 = .ok (.getfield 43, 3) := by decide +kernel
theorem dX6_wreck_40 : decode cX6_wreck 40 = .ok (.iload_n 2, 1) := by decide +kernel
theorem dX6_wreck_41 : decode cX6_wreck 41 = .ok (.iaload, 1) := by decide +kernel
theorem dX6_wreck_42 : decode cX6_wreck 42 = .ok (.ireturn, 1) := by decide +kernel
theorem dX6_pay_0 : decode cX6_pay 0 = .ok (.iload_n 1, 1) := by decide +kernel
theorem dX6_pay_1 : decode cX6_pay 1 = .ok (.iconst 0, 1) := by decide +kernel
theorem dX6_pay_2 : decode cX6_pay 2 = .ok (.iconst 1, 1) := by decide +kernel
theorem dX6_pay_3 : decode cX6_pay 3 = .ok (.invokestatic 49, 3) := by decide +kernel
theorem dX6_pay_6 : decode cX6_pay 6 = .ok (.ifCond .ne 10, 3) := by decide +kernel
theorem dX6_pay_9 : decode cX6_pay 9 = .ok (.aload_n 0, 1) := by decide +kernel
theorem dX6_pay_10 : decode cX6_pay 10 = .ok (.bipush (-2), 2) := by decide +kernel
theorem dX6_pay_12 : decode cX6_pay 12 = .ok (.invokevirtual 53, 3) := by decide +kernel
theorem dX6_pay_15 : decode cX6_pay 15 = .ok (.ireturn, 1) := by decide +kernel
theorem dX6_pay_16 : decode cX6_pay 16 = .ok (.aload_n 0, 1) := by decide +kernel
theorem dX6_pay_17 : decode cX6_pay 17 = .ok (.invokevirtual 131, 3) := by decide +kernel
theorem dX6_pay_20 : decode cX6_pay 20 = .ok (.istore_n 2, 1) := by decide +kernel
theorem dX6_pay_21 : decode cX6_pay 21 = .ok (.iload_n 2, 1) := by decide +kernel
theorem dX6_pay_22 : decode cX6_pay 22 = .ok (.bipush (-9), 2) := by decide +kernel
theorem dX6_pay_24 : decode cX6_pay 24 = .ok (.if_icmp .ne 6, 3) := by decide +kernel
theorem dX6_pay_27 : decode cX6_pay 27 = .ok (.bipush (-9), 2) := by decide +kernel
theorem dX6_pay_29 : decode cX6_pay 29 = .ok (.ireturn, 1) := by decide +kernel
theorem dX6_pay_30 : decode cX6_pay 30 = .ok (.iconst 0, 1) := by decide +kernel
theorem dX6_pay_31 : decode cX6_pay 31 = .ok (.aload_n 0, 1) := by decide +kernel
theorem dX6_pay_32 : decode cX6_pay 32 = .ok (.getfield 16, 3) := by decide +kernel
theorem dX6_pay_35 : decode cX6_pay 35 = .ok (.iconst 3, 1) := by decide +kernel
theorem dX6_pay_36 : decode cX6_pay 36 = .ok (.iaload, 1) := by decide +kernel
theorem dX6_pay_37 : decode cX6_pay 37 = .ok (.bipush 10, 2) := by decide +kernel
theorem dX6_pay_39 : decode cX6_pay 39 = .ok (.aload_n 0, 1) := by decide +kernel
theorem dX6_pay_40 : decode cX6_pay 40 = .ok (.getfield 16, 3) := by decide +kernel
theorem dX6_pay_43 : decode cX6_pay 43 = .ok (.iconst 2, 1) := by decide +kernel
theorem dX6_pay_44 : decode cX6_pay 44 = .ok (.iaload, 1) := by decide +kernel
theorem dX6_pay_45 : decode cX6_pay 45 = .ok (.imul, 1) := by decide +kernel
theorem dX6_pay_46 : decode cX6_pay 46 = .ok (.iadd, 1) := by decide +kernel
theorem dX6_pay_47 : decode cX6_pay 47 = .ok (.aload_n 0, 1) := by decide +kernel
theorem dX6_pay_48 : decode cX6_pay 48 = .ok (.getfield 43, 3) := by decide +kernel
theorem dX6_pay_51 : decode cX6_pay 51 = .ok (.iload_n 2, 1) := by decide +kernel
theorem dX6_pay_52 : decode cX6_pay 52 = .ok (.iaload, 1) := by decide +kernel
theorem dX6_pay_53 : decode cX6_pay 53 = .ok (.isub, 1) := by decide +kernel
theorem dX6_pay_54 : decode cX6_pay 54 = .ok (.invokestatic 135, 3) := by decide +kernel
theorem dX6_pay_57 : decode cX6_pay 57 = .ok (.istore_n 3, 1) := by decide +kernel
theorem dX6_pay_58 : decode cX6_pay 58 = .ok (.iload_n 1, 1) := by decide +kernel
theorem dX6_pay_59 : decode cX6_pay 59 = .ok (.ifCond .ne 7, 3) := by decide +kernel
theorem dX6_pay_62 : decode cX6_pay 62 = .ok (.iload_n 3, 1) := by decide +kernel
theorem dX6_pay_63 : decode cX6_pay 63 = .ok (.goto 23, 3) := by decide +kernel
theorem dX6_pay_66 : decode cX6_pay 66 = .ok (.aload_n 0, 1) := by decide +kernel
theorem dX6_pay_67 : decode cX6_pay 67 = .ok (.getfield 16, 3) := by decide +kernel
theorem dX6_pay_70 : decode cX6_pay 70 = .ok (.iconst 4, 1) := by decide +kernel
theorem dX6_pay_71 : decode cX6_pay 71 = .ok (.iaload, 1) := by decide +kernel
theorem dX6_pay_72 : decode cX6_pay 72 = .ok (.aload_n 0, 1) := by decide +kernel
theorem dX6_pay_73 : decode cX6_pay 73 = .ok (.invokevirtual 140, 3) := by decide +kernel
theorem dX6_pay_76 : decode cX6_pay 76 = .ok (.imul, 1) := by decide +kernel
theorem dX6_pay_77 : decode cX6_pay 77 = .ok (.iload_n 3, 1) := by decide +kernel
theorem dX6_pay_78 : decode cX6_pay 78 = .ok (.if_icmp .le 7, 3) := by decide +kernel
theorem dX6_pay_81 : decode cX6_pay 81 = .ok (.iconst 1, 1) := by decide +kernel
theorem dX6_pay_82 : decode cX6_pay 82 = .ok (.goto 4, 3) := by decide +kernel
theorem dX6_pay_85 : decode cX6_pay 85 = .ok (.iconst 0, 1) := by decide +kernel
theorem dX6_pay_86 : decode cX6_pay 86 = .ok (.ireturn, 1) := by decide +kernel
theorem dX6_foundAt_0 : decode cX6_foundAt 0 = .ok (.aload_n 0, 1) := by decide +kernel
theorem dX6_foundAt_1 : decode cX6_foundAt 1 = .ok (.getfield 43, 3) := by decide +kernel
theorem dX6_foundAt_4 : decode cX6_foundAt 4 = .ok (.iload_n 1, 1) := by decide +kernel
theorem dX6_foundAt_5 : decode cX6_foundAt 5 = .ok (.iaload, 1) := by decide +kernel
theorem dX6_foundAt_6 : decode cX6_foundAt 6 = .ok (.bipush (-9), 2) := by decide +kernel
theorem dX6_foundAt_8 : decode cX6_foundAt 8 = .ok (.if_icmp .ne 6, 3) := by decide +kernel
theorem dX6_foundAt_11 : decode cX6_foundAt 11 = .ok (.bipush (-9), 2) := by decide +kernel
theorem dX6_foundAt_13 : decode cX6_foundAt 13 = .ok (.ireturn, 1) := by decide +kernel
theorem dX6_foundAt_14 : decode cX6_foundAt 14 = .ok (.aload_n 0, 1) := by decide +kernel
theorem dX6_foundAt_15 : decode cX6_foundAt 15 = .ok (.getfield 43, 3) := by decide +kernel
theorem dX6_foundAt_18 : decode cX6_foundAt 18 = .ok (.iload_n 1, 1) := by decide +kernel
theorem dX6_foundAt_19 : decode cX6_foundAt 19 = .ok (.iaload, 1) := by decide +kernel
theorem dX6_foundAt_20 : decode cX6_foundAt 20 = .ok (.istore_n 2, 1) := by decide +kernel
theorem dX6_foundAt_21 : decode cX6_foundAt 21 = .ok (.iconst 0, 1) := by decide +kernel
theorem dX6_foundAt_22 : decode cX6_foundAt 22 = .ok (.istore_n 3, 1) := by decide +kernel
theorem dX6_foundAt_23 : decode cX6_foundAt 23 = .ok (.iload_n 3, 1) := by decide +kernel
theorem dX6_foundAt_24 : decode cX6_foundAt 24 = .ok (.bipush 36, 2) := by decide +kernel
theorem dX6_foundAt_26 : decode cX6_foundAt 26 = .ok (.if_icmp .ge 78, 3) := by decide +kernel
theorem dX6_foundAt_29 : decode cX6_foundAt 29 = .ok (.aload_n 0, 1) := by decide +kernel
theorem dX6_foundAt_30 : decode cX6_foundAt 30 = .ok (.getfield 13, 3) := by decide +kernel
theorem dX6_foundAt_33 : decode cX6_foundAt 33 = .ok (.iload_n 3, 1) := by decide +kernel
theorem dX6_foundAt_34 : decode cX6_foundAt 34 = .ok (.iaload, 1) := by decide +kernel
theorem dX6_foundAt_35 : decode cX6_foundAt 35 = .ok (.ifCond .eq 63, 3) := by decide +kernel
theorem dX6_foundAt_38 : decode cX6_foundAt 38 = .ok (.aload_n 0, 1) := by decide +kernel
theorem dX6_foundAt_39 : decode cX6_foundAt 39 = .ok (.getfield 43, 3) := by decide +kernel
theorem dX6_foundAt_42 : decode cX6_foundAt 42 = .ok (.iload_n 3, 1) := by decide +kernel
theorem dX6_foundAt_43 : decode cX6_foundAt 43 = .ok (.iaload, 1) := by decide +kernel
theorem dX6_foundAt_44 : decode cX6_foundAt 44 = .ok (.bipush (-9), 2) := by decide +kernel
theorem dX6_foundAt_46 : decode cX6_foundAt 46 = .ok (.if_icmp .ne 6, 3) := by decide +kernel
theorem dX6_foundAt_49 : decode cX6_foundAt 49 = .ok (.goto 49, 3) := by decide +kernel
theorem dX6_foundAt_52 : decode cX6_foundAt 52 = .ok (.aload_n 0, 1) := by decide +kernel
theorem dX6_foundAt_53 : decode cX6_foundAt 53 = .ok (.getfield 43, 3) := by decide +kernel
theorem dX6_foundAt_56 : decode cX6_foundAt 56 = .ok (.iload_n 3, 1) := by decide +kernel
theorem dX6_foundAt_57 : decode cX6_foundAt 57 = .ok (.iaload, 1) := by decide +kernel
theorem dX6_foundAt_58 : decode cX6_foundAt 58 = .ok (.aload_n 0, 1) := by decide +kernel
theorem dX6_foundAt_59 : decode cX6_foundAt 59 = .ok (.getfield 43, 3) := by decide +kernel
theorem dX6_foundAt_62 : decode cX6_foundAt 62 = .ok (.iload_n 1, 1) := by decide +kernel
theorem dX6_foundAt_63 : decode cX6_foundAt 63 = .ok (.iaload, 1) := by decide +kernel
theorem dX6_foundAt_64 : decode cX6_foundAt 64 = .ok (.if_icmp .lt 23, 3) := by decide +kernel
theorem dX6_foundAt_67 : decode cX6_foundAt 67 = .ok (.aload_n 0, 1) := by decide +kernel
theorem dX6_foundAt_68 : decode cX6_foundAt 68 = .ok (.getfield 43, 3) := by decide +kernel
theorem dX6_foundAt_71 : decode cX6_foundAt 71 = .ok (.iload_n 3, 1) := by decide +kernel
theorem dX6_foundAt_72 : decode cX6_foundAt 72 = .ok (.iaload, 1) := by decide +kernel
theorem dX6_foundAt_73 : decode cX6_foundAt 73 = .ok (.aload_n 0, 1) := by decide +kernel
theorem dX6_foundAt_74 : decode cX6_foundAt 74 = .ok (.getfield 43, 3) := by decide +kernel
theorem dX6_foundAt_77 : decode cX6_foundAt 77 = .ok (.iload_n 1, 1) := by decide +kernel
theorem dX6_foundAt_78 : decode cX6_foundAt 78 = .ok (.iaload, 1) := by decide +kernel
theorem dX6_foundAt_79 : decode cX6_foundAt 79 = .ok (.if_icmp .ne 19, 3) := by decide +kernel
theorem dX6_foundAt_82 : decode cX6_foundAt 82 = .ok (.iload_n 3, 1) := by decide +kernel
theorem dX6_foundAt_83 : decode cX6_foundAt 83 = .ok (.iload_n 1, 1) := by decide +kernel
theorem dX6_foundAt_84 : decode cX6_foundAt 84 = .ok (.if_icmp .ge 14, 3) := by decide +kernel
theorem dX6_foundAt_87 : decode cX6_foundAt 87 = .ok (.iload_n 2, 1) := by decide +kernel
theorem dX6_foundAt_88 : decode cX6_foundAt 88 = .ok (.iconst 2, 1) := by decide +kernel
theorem dX6_foundAt_89 : decode cX6_foundAt 89 = .ok (.aload_n 0, 1) := by decide +kernel
theorem dX6_foundAt_90 : decode cX6_foundAt 90 = .ok (.getfield 43, 3) := by decide +kernel
theorem dX6_foundAt_93 : decode cX6_foundAt 93 = .ok (.iload_n 3, 1) := by decide +kernel
theorem dX6_foundAt_94 : decode cX6_foundAt 94 = .ok (.iaload, 1) := by decide +kernel
theorem dX6_foundAt_95 : decode cX6_foundAt 95 = .ok (.imul, 1) := by decide +kernel
theorem dX6_foundAt_96 : decode cX6_foundAt 96 = .ok (.iadd, 1) := by decide +kernel
theorem dX6_foundAt_97 : decode cX6_foundAt 97 = .ok (.istore_n 2, 1) := by decide +kernel
theorem dX6_foundAt_98 : decode cX6_foundAt 98 = .ok (.iinc 3 1, 3) := by decide +kernel
theorem dX6_foundAt_101 : decode cX6_foundAt 101 = .ok (.goto (-78), 3) := by decide +kernel
theorem dX6_foundAt_104 : decode cX6_foundAt 104 = .ok (.iload_n 2, 1) := by decide +kernel
theorem dX6_foundAt_105 : decode cX6_foundAt 105 = .ok (.ireturn, 1) := by decide +kernel
theorem dX6_found_0 : decode cX6_found 0 = .ok (.iload_n 1, 1) := by decide +kernel
theorem dX6_found_1 : decode cX6_found 1 = .ok (.invokestatic 85, 3) := by decide +kernel
theorem dX6_found_4 : decode cX6_found 4 = .ok (.ifCond .ne 9, 3) := by decide +kernel
theorem dX6_found_7 : decode cX6_found 7 = .ok (.aload_n 0, 1) := by decide +kernel
theorem dX6_found_8 : decode cX6_found 8 = .ok (.iconst (-1), 1) := by decide +kernel
theorem dX6_found_9 : decode cX6_found 9 = .ok (.invokevirtual 53, 3) := by decide +kernel
theorem dX6_found_12 : decode cX6_found 12 = .ok (.ireturn, 1) := by decide +kernel
theorem dX6_found_13 : decode cX6_found 13 = .ok (.aload_n 0, 1) := by decide +kernel
theorem dX6_found_14 : decode cX6_found 14 = .ok (.getfield 13, 3) := by decide +kernel
theorem dX6_found_17 : decode cX6_found 17 = .ok (.iload_n 1, 1) := by decide +kernel
theorem dX6_found_18 : decode cX6_found 18 = .ok (.iaload, 1) := by decide +kernel
theorem dX6_found_19 : decode cX6_found 19 = .ok (.ifCond .ne 10, 3) := by decide +kernel
theorem dX6_found_22 : decode cX6_found 22 = .ok (.aload_n 0, 1) := by decide +kernel
theorem dX6_found_23 : decode cX6_found 23 = .ok (.bipush (-3), 2) := by decide +kernel
theorem dX6_found_25 : decode cX6_found 25 = .ok (.invokevirtual 53, 3) := by decide +kernel
theorem dX6_found_28 : decode cX6_found 28 = .ok (.ireturn, 1) := by decide +kernel
theorem dX6_found_29 : decode cX6_found 29 = .ok (.aload_n 0, 1) := by decide +kernel
theorem dX6_found_30 : decode cX6_found 30 = .ok (.invokevirtual 125, 3) := by decide +kernel
theorem dX6_found_33 : decode cX6_found 33 = .ok (.aload_n 0, 1) := by decide +kernel
theorem dX6_found_34 : decode cX6_found 34 = .ok (.iload_n 1, 1) := by decide +kernel
theorem dX6_found_35 : decode cX6_found 35 = .ok (.invokevirtual 143, 3) := by decide +kernel
theorem dX6_found_38 : decode cX6_found 38 = .ok (.ireturn, 1) := by decide +kernel
theorem dX6_mean_0 : decode cX6_mean 0 = .ok (.iload_n 1, 1) := by decide +kernel
theorem dX6_mean_1 : decode cX6_mean 1 = .ok (.iconst 0, 1) := by decide +kernel
theorem dX6_mean_2 : decode cX6_mean 2 = .ok (.iconst 1, 1) := by decide +kernel
theorem dX6_mean_3 : decode cX6_mean 3 = .ok (.invokestatic 49, 3) := by decide +kernel
theorem dX6_mean_6 : decode cX6_mean 6 = .ok (.ifCond .ne 15, 3) := by decide +kernel
theorem dX6_mean_9 : decode cX6_mean 9 = .ok (.ldc2_w 146, 3) := by decide +kernel
theorem dX6_mean_12 : decode cX6_mean 12 = .ok (.aload_n 0, 1) := by decide +kernel
theorem dX6_mean_13 : decode cX6_mean 13 = .ok (.bipush (-2), 2) := by decide +kernel
theorem dX6_mean_15 : decode cX6_mean 15 = .ok (.invokevirtual 53, 3) := by decide +kernel
theorem dX6_mean_18 : decode cX6_mean 18 = .ok (.i2l, 1) := by decide +kernel
theorem dX6_mean_19 : decode cX6_mean 19 = .ok (.lsub, 1) := by decide +kernel
theorem dX6_mean_20 : decode cX6_mean 20 = .ok (.lreturn, 1) := by decide +kernel
theorem dX6_mean_21 : decode cX6_mean 21 = .ok (.aload_n 0, 1) := by decide +kernel
theorem dX6_mean_22 : decode cX6_mean 22 = .ok (.invokevirtual 125, 3) := by decide +kernel
theorem dX6_mean_25 : decode cX6_mean 25 = .ok (.iconst 0, 1) := by decide +kernel
theorem dX6_mean_26 : decode cX6_mean 26 = .ok (.istore_n 2, 1) := by decide +kernel
theorem dX6_mean_27 : decode cX6_mean 27 = .ok (.iconst 0, 1) := by decide +kernel
theorem dX6_mean_28 : decode cX6_mean 28 = .ok (.istore_n 3, 1) := by decide +kernel
theorem dX6_mean_29 : decode cX6_mean 29 = .ok (.iconst 0, 1) := by decide +kernel
theorem dX6_mean_30 : decode cX6_mean 30 = .ok (.istore 4, 2) := by decide +kernel
theorem dX6_mean_32 : decode cX6_mean 32 = .ok (.iload 4, 2) := by decide +kernel
theorem dX6_mean_34 : decode cX6_mean 34 = .ok (.bipush 36, 2) := by decide +kernel
theorem dX6_mean_36 : decode cX6_mean 36 = .ok (.if_icmp .ge 61, 3) := by decide +kernel
theorem dX6_mean_39 : decode cX6_mean 39 = .ok (.aload_n 0, 1) := by decide +kernel
theorem dX6_mean_40 : decode cX6_mean 40 = .ok (.getfield 13, 3) := by decide +kernel
theorem dX6_mean_43 : decode cX6_mean 43 = .ok (.iload 4, 2) := by decide +kernel
theorem dX6_mean_45 : decode cX6_mean 45 = .ok (.iaload, 1) := by decide +kernel
theorem dX6_mean_46 : decode cX6_mean 46 = .ok (.ifCond .eq 45, 3) := by decide +kernel
theorem dX6_mean_49 : decode cX6_mean 49 = .ok (.aload_n 0, 1) := by decide +kernel
theorem dX6_mean_50 : decode cX6_mean 50 = .ok (.getfield 43, 3) := by decide +kernel
theorem dX6_mean_53 : decode cX6_mean 53 = .ok (.iload 4, 2) := by decide +kernel
theorem dX6_mean_55 : decode cX6_mean 55 = .ok (.iaload, 1) := by decide +kernel
theorem dX6_mean_56 : decode cX6_mean 56 = .ok (.bipush (-9), 2) := by decide +kernel
theorem dX6_mean_58 : decode cX6_mean 58 = .ok (.if_icmp .ne 6, 3) := by decide +kernel
theorem dX6_mean_61 : decode cX6_mean 61 = .ok (.goto 30, 3) := by decide +kernel
theorem dX6_mean_64 : decode cX6_mean 64 = .ok (.iload_n 2, 1) := by decide +kernel
theorem dX6_mean_65 : decode cX6_mean 65 = .ok (.aload_n 0, 1) := by decide +kernel
theorem dX6_mean_66 : decode cX6_mean 66 = .ok (.getfield 13, 3) := by decide +kernel
theorem dX6_mean_69 : decode cX6_mean 69 = .ok (.iload 4, 2) := by decide +kernel
theorem dX6_mean_71 : decode cX6_mean 71 = .ok (.iaload, 1) := by decide +kernel
theorem dX6_mean_72 : decode cX6_mean 72 = .ok (.aload_n 0, 1) := by decide +kernel
theorem dX6_mean_73 : decode cX6_mean 73 = .ok (.iload 4, 2) := by decide +kernel
theorem dX6_mean_75 : decode cX6_mean 75 = .ok (.invokevirtual 143, 3) := by decide +kernel
theorem dX6_mean_78 : decode cX6_mean 78 = .ok (.imul, 1) := by decide +kernel
theorem dX6_mean_79 : decode cX6_mean 79 = .ok (.iadd, 1) := by decide +kernel
theorem dX6_mean_80 : decode cX6_mean 80 = .ok (.istore_n 2, 1) := by decide +kernel
theorem dX6_mean_81 : decode cX6_mean 81 = .ok (.iload_n 3, 1) := by decide +kernel
theorem dX6_mean_82 : decode cX6_mean 82 = .ok (.aload_n 0, 1) := by decide +kernel
theorem dX6_mean_83 : decode cX6_mean 83 = .ok (.getfield 13, 3) := by decide +kernel
theorem dX6_mean_86 : decode cX6_mean 86 = .ok (.iload 4, 2) := by decide +kernel
theorem dX6_mean_88 : decode cX6_mean 88 = .ok (.iaload, 1) := by decide +kernel
theorem dX6_mean_89 : decode cX6_mean 89 = .ok (.iadd, 1) := by decide +kernel
theorem dX6_mean_90 : decode cX6_mean 90 = .ok (.istore_n 3, 1) := by decide +kernel
theorem dX6_mean_91 : decode cX6_mean 91 = .ok (.iinc 4 1, 3) := by decide +kernel
theorem dX6_mean_94 : decode cX6_mean 94 = .ok (.goto (-62), 3) := by decide +kernel
theorem dX6_mean_97 : decode cX6_mean 97 = .ok (.iload_n 3, 1) := by decide +kernel
theorem dX6_mean_98 : decode cX6_mean 98 = .ok (.ifCond .ne 6, 3) := by decide +kernel
theorem dX6_mean_101 : decode cX6_mean 101 = .ok (.iload_n 1, 1) := by decide +kernel
theorem dX6_mean_102 : decode cX6_mean 102 = .ok (.i2l, 1) := by decide +kernel
theorem dX6_mean_103 : decode cX6_mean 103 = .ok (.lreturn, 1) := by decide +kernel
theorem dX6_mean_104 : decode cX6_mean 104 = .ok (.iload_n 2, 1) := by decide +kernel
theorem dX6_mean_105 : decode cX6_mean 105 = .ok (.istore 4, 2) := by decide +kernel
theorem dX6_mean_107 : decode cX6_mean 107 = .ok (.iload_n 3, 1) := by decide +kernel
theorem dX6_mean_108 : decode cX6_mean 108 = .ok (.istore 5, 2) := by decide +kernel
theorem dX6_mean_110 : decode cX6_mean 110 = .ok (.iload 5, 2) := by decide +kernel
theorem dX6_mean_112 : decode cX6_mean 112 = .ok (.ifCond .eq 21, 3) := by decide +kernel
theorem dX6_mean_115 : decode cX6_mean 115 = .ok (.iload 4, 2) := by decide +kernel
theorem dX6_mean_117 : decode cX6_mean 117 = .ok (.iload 5, 2) := by decide +kernel
theorem dX6_mean_119 : decode cX6_mean 119 = .ok (.irem, 1) := by decide +kernel
theorem dX6_mean_120 : decode cX6_mean 120 = .ok (.istore 6, 2) := by decide +kernel
theorem dX6_mean_122 : decode cX6_mean 122 = .ok (.iload 5, 2) := by decide +kernel
theorem dX6_mean_124 : decode cX6_mean 124 = .ok (.istore 4, 2) := by decide +kernel
theorem dX6_mean_126 : decode cX6_mean 126 = .ok (.iload 6, 2) := by decide +kernel
theorem dX6_mean_128 : decode cX6_mean 128 = .ok (.istore 5, 2) := by decide +kernel
theorem dX6_mean_130 : decode cX6_mean 130 = .ok (.goto (-20), 3) := by decide +kernel
theorem dX6_mean_133 : decode cX6_mean 133 = .ok (.iload_n 1, 1) := by decide +kernel
theorem dX6_mean_134 : decode cX6_mean 134 = .ok (.ifCond .ne 11, 3) := by decide +kernel
theorem dX6_mean_137 : decode cX6_mean 137 = .ok (.iload_n 2, 1) := by decide +kernel
theorem dX6_mean_138 : decode cX6_mean 138 = .ok (.iload 4, 2) := by decide +kernel
theorem dX6_mean_140 : decode cX6_mean 140 = .ok (.idiv, 1) := by decide +kernel
theorem dX6_mean_141 : decode cX6_mean 141 = .ok (.i2l, 1) := by decide +kernel
theorem dX6_mean_142 : decode cX6_mean 142 = .ok (.goto 8, 3) := by decide +kernel
theorem dX6_mean_145 : decode cX6_mean 145 = .ok (.iload_n 3, 1) := by decide +kernel
theorem dX6_mean_146 : decode cX6_mean 146 = .ok (.iload 4, 2) := by decide +kernel
theorem dX6_mean_148 : decode cX6_mean 148 = .ok (.idiv, 1) := by decide +kernel
theorem dX6_mean_149 : decode cX6_mean 149 = .ok (.i2l, 1) := by decide +kernel
theorem dX6_mean_150 : decode cX6_mean 150 = .ok (.lreturn, 1) := by decide +kernel
theorem dX6_look_0 : decode cX6_look 0 = .ok (.aload_n 0, 1) := by decide +kernel
theorem dX6_look_1 : decode cX6_look 1 = .ok (.invokevirtual 125, 3) := by decide +kernel
theorem dX6_look_4 : decode cX6_look 4 = .ok (.bipush (-9), 2) := by decide +kernel
theorem dX6_look_6 : decode cX6_look 6 = .ok (.istore_n 1, 1) := by decide +kernel
theorem dX6_look_7 : decode cX6_look 7 = .ok (.iconst 0, 1) := by decide +kernel
theorem dX6_look_8 : decode cX6_look 8 = .ok (.istore_n 2, 1) := by decide +kernel
theorem dX6_look_9 : decode cX6_look 9 = .ok (.iload_n 2, 1) := by decide +kernel
theorem dX6_look_10 : decode cX6_look 10 = .ok (.bipush 36, 2) := by decide +kernel
theorem dX6_look_12 : decode cX6_look 12 = .ok (.if_icmp .ge 73, 3) := by decide +kernel
theorem dX6_look_15 : decode cX6_look 15 = .ok (.aload_n 0, 1) := by decide +kernel
theorem dX6_look_16 : decode cX6_look 16 = .ok (.getfield 13, 3) := by decide +kernel
theorem dX6_look_19 : decode cX6_look 19 = .ok (.iload_n 2, 1) := by decide +kernel
theorem dX6_look_20 : decode cX6_look 20 = .ok (.iaload, 1) := by decide +kernel
theorem dX6_look_21 : decode cX6_look 21 = .ok (.ifCond .eq 58, 3) := by decide +kernel
theorem dX6_look_24 : decode cX6_look 24 = .ok (.aload_n 0, 1) := by decide +kernel
theorem dX6_look_25 : decode cX6_look 25 = .ok (.getfield 43, 3) := by decide +kernel
theorem dX6_look_28 : decode cX6_look 28 = .ok (.iload_n 2, 1) := by decide +kernel
theorem dX6_look_29 : decode cX6_look 29 = .ok (.iaload, 1) := by decide +kernel
theorem dX6_look_30 : decode cX6_look 30 = .ok (.bipush (-9), 2) := by decide +kernel
theorem dX6_look_32 : decode cX6_look 32 = .ok (.if_icmp .ne 6, 3) := by decide +kernel
theorem dX6_look_35 : decode cX6_look 35 = .ok (.goto 44, 3) := by decide +kernel
theorem dX6_look_38 : decode cX6_look 38 = .ok (.iload_n 1, 1) := by decide +kernel
theorem dX6_look_39 : decode cX6_look 39 = .ok (.bipush (-9), 2) := by decide +kernel
theorem dX6_look_41 : decode cX6_look 41 = .ok (.if_icmp .eq 36, 3) := by decide +kernel
theorem dX6_look_44 : decode cX6_look 44 = .ok (.aload_n 0, 1) := by decide +kernel
theorem dX6_look_45 : decode cX6_look 45 = .ok (.getfield 13, 3) := by decide +kernel
theorem dX6_look_48 : decode cX6_look 48 = .ok (.iload_n 2, 1) := by decide +kernel
theorem dX6_look_49 : decode cX6_look 49 = .ok (.iaload, 1) := by decide +kernel
theorem dX6_look_50 : decode cX6_look 50 = .ok (.aload_n 0, 1) := by decide +kernel
theorem dX6_look_51 : decode cX6_look 51 = .ok (.getfield 43, 3) := by decide +kernel
theorem dX6_look_54 : decode cX6_look 54 = .ok (.iload_n 1, 1) := by decide +kernel
theorem dX6_look_55 : decode cX6_look 55 = .ok (.iaload, 1) := by decide +kernel
theorem dX6_look_56 : decode cX6_look 56 = .ok (.iconst 1, 1) := by decide +kernel
theorem dX6_look_57 : decode cX6_look 57 = .ok (.iadd, 1) := by decide +kernel
theorem dX6_look_58 : decode cX6_look 58 = .ok (.imul, 1) := by decide +kernel
theorem dX6_look_59 : decode cX6_look 59 = .ok (.aload_n 0, 1) := by decide +kernel
theorem dX6_look_60 : decode cX6_look 60 = .ok (.getfield 13, 3) := by decide +kernel
theorem dX6_look_63 : decode cX6_look 63 = .ok (.iload_n 1, 1) := by decide +kernel
theorem dX6_look_64 : decode cX6_look 64 = .ok (.iaload, 1) := by decide +kernel
theorem dX6_look_65 : decode cX6_look 65 = .ok (.aload_n 0, 1) := by decide +kernel
theorem dX6_look_66 : decode cX6_look 66 = .ok (.getfield 43, 3) := by decide +kernel
theorem dX6_look_69 : decode cX6_look 69 = .ok (.iload_n 2, 1) := by decide +kernel
theorem dX6_look_70 : decode cX6_look 70 = .ok (.iaload, 1) := by decide +kernel
theorem dX6_look_71 : decode cX6_look 71 = .ok (.iconst 1, 1) := by decide +kernel
theorem dX6_look_72 : decode cX6_look 72 = .ok (.iadd, 1) := by decide +kernel
theorem dX6_look_73 : decode cX6_look 73 = .ok (.imul, 1) := by decide +kernel
theorem dX6_look_74 : decode cX6_look 74 = .ok (.if_icmp .le 5, 3) := by decide +kernel
theorem dX6_look_77 : decode cX6_look 77 = .ok (.iload_n 2, 1) := by decide +kernel
theorem dX6_look_78 : decode cX6_look 78 = .ok (.istore_n 1, 1) := by decide +kernel
theorem dX6_look_79 : decode cX6_look 79 = .ok (.iinc 2 1, 3) := by decide +kernel
theorem dX6_look_82 : decode cX6_look 82 = .ok (.goto (-73), 3) := by decide +kernel
theorem dX6_look_85 : decode cX6_look 85 = .ok (.iload_n 1, 1) := by decide +kernel
theorem dX6_look_86 : decode cX6_look 86 = .ok (.ireturn, 1) := by decide +kernel
theorem dX6_sandAt_0 : decode cX6_sandAt 0 = .ok (.iconst 0, 1) := by decide +kernel
theorem dX6_sandAt_1 : decode cX6_sandAt 1 = .ok (.istore_n 2, 1) := by decide +kernel
theorem dX6_sandAt_2 : decode cX6_sandAt 2 = .ok (.iconst 0, 1) := by decide +kernel
theorem dX6_sandAt_3 : decode cX6_sandAt 3 = .ok (.istore_n 3, 1) := by decide +kernel
theorem dX6_sandAt_4 : decode cX6_sandAt 4 = .ok (.iload_n 3, 1) := by decide +kernel
theorem dX6_sandAt_5 : decode cX6_sandAt 5 = .ok (.iconst 4, 1) := by decide +kernel
theorem dX6_sandAt_6 : decode cX6_sandAt 6 = .ok (.if_icmp .ge 40, 3) := by decide +kernel
theorem dX6_sandAt_9 : decode cX6_sandAt 9 = .ok (.iload_n 1, 1) := by decide +kernel
theorem dX6_sandAt_10 : decode cX6_sandAt 10 = .ok (.iload_n 3, 1) := by decide +kernel
theorem dX6_sandAt_11 : decode cX6_sandAt 11 = .ok (.invokestatic 111, 3) := by decide +kernel
theorem dX6_sandAt_14 : decode cX6_sandAt 14 = .ok (.bipush (-9), 2) := by decide +kernel
theorem dX6_sandAt_16 : decode cX6_sandAt 16 = .ok (.if_icmp .eq 24, 3) := by decide +kernel
theorem dX6_sandAt_19 : decode cX6_sandAt 19 = .ok (.aload_n 0, 1) := by decide +kernel
theorem dX6_sandAt_20 : decode cX6_sandAt 20 = .ok (.getfield 9, 3) := by decide +kernel
theorem dX6_sandAt_23 : decode cX6_sandAt 23 = .ok (.iload_n 1, 1) := by decide +kernel
theorem dX6_sandAt_24 : decode cX6_sandAt 24 = .ok (.iload_n 3, 1) := by decide +kernel
theorem dX6_sandAt_25 : decode cX6_sandAt 25 = .ok (.invokestatic 111, 3) := by decide +kernel
theorem dX6_sandAt_28 : decode cX6_sandAt 28 = .ok (.iaload, 1) := by decide +kernel
theorem dX6_sandAt_29 : decode cX6_sandAt 29 = .ok (.iconst 1, 1) := by decide +kernel
theorem dX6_sandAt_30 : decode cX6_sandAt 30 = .ok (.iconst 2, 1) := by decide +kernel
theorem dX6_sandAt_31 : decode cX6_sandAt 31 = .ok (.invokestatic 49, 3) := by decide +kernel
theorem dX6_sandAt_34 : decode cX6_sandAt 34 = .ok (.ifCond .eq 6, 3) := by decide +kernel
theorem dX6_sandAt_37 : decode cX6_sandAt 37 = .ok (.iinc 2 1, 3) := by decide +kernel
theorem dX6_sandAt_40 : decode cX6_sandAt 40 = .ok (.iinc 3 1, 3) := by decide +kernel
theorem dX6_sandAt_43 : decode cX6_sandAt 43 = .ok (.goto (-39), 3) := by decide +kernel
theorem dX6_sandAt_46 : decode cX6_sandAt 46 = .ok (.iload_n 2, 1) := by decide +kernel
theorem dX6_sandAt_47 : decode cX6_sandAt 47 = .ok (.ireturn, 1) := by decide +kernel
theorem dX6_portFrom_0 : decode cX6_portFrom 0 = .ok (.bipush (-9), 2) := by decide +kernel
theorem dX6_portFrom_2 : decode cX6_portFrom 2 = .ok (.istore_n 2, 1) := by decide +kernel
theorem dX6_portFrom_3 : decode cX6_portFrom 3 = .ok (.iconst 0, 1) := by decide +kernel
theorem dX6_portFrom_4 : decode cX6_portFrom 4 = .ok (.istore_n 3, 1) := by decide +kernel
theorem dX6_portFrom_5 : decode cX6_portFrom 5 = .ok (.iload_n 3, 1) := by decide +kernel
theorem dX6_portFrom_6 : decode cX6_portFrom 6 = .ok (.bipush 36, 2) := by decide +kernel
theorem dX6_portFrom_8 : decode cX6_portFrom 8 = .ok (.if_icmp .ge 64, 3) := by decide +kernel
theorem dX6_portFrom_11 : decode cX6_portFrom 11 = .ok (.aload_n 0, 1) := by decide +kernel
theorem dX6_portFrom_12 : decode cX6_portFrom 12 = .ok (.getfield 9, 3) := by decide +kernel
theorem dX6_portFrom_15 : decode cX6_portFrom 15 = .ok (.iload_n 3, 1) := by decide +kernel
theorem dX6_portFrom_16 : decode cX6_portFrom 16 = .ok (.iaload, 1) := by decide +kernel
theorem dX6_portFrom_17 : decode cX6_portFrom 17 = .ok (.iconst 5, 1) := by decide +kernel
theorem dX6_portFrom_18 : decode cX6_portFrom 18 = .ok (.if_icmp .eq 6, 3) := by decide +kernel
theorem dX6_portFrom_21 : decode cX6_portFrom 21 = .ok (.goto 45, 3) := by decide +kernel
theorem dX6_portFrom_24 : decode cX6_portFrom 24 = .ok (.iload_n 3, 1) := by decide +kernel
theorem dX6_portFrom_25 : decode cX6_portFrom 25 = .ok (.bipush 6, 2) := by decide +kernel
theorem dX6_portFrom_27 : decode cX6_portFrom 27 = .ok (.idiv, 1) := by decide +kernel
theorem dX6_portFrom_28 : decode cX6_portFrom 28 = .ok (.iload_n 1, 1) := by decide +kernel
theorem dX6_portFrom_29 : decode cX6_portFrom 29 = .ok (.bipush 6, 2) := by decide +kernel
theorem dX6_portFrom_31 : decode cX6_portFrom 31 = .ok (.idiv, 1) := by decide +kernel
theorem dX6_portFrom_32 : decode cX6_portFrom 32 = .ok (.isub, 1) := by decide +kernel
theorem dX6_portFrom_33 : decode cX6_portFrom 33 = .ok (.invokestatic 148, 3) := by decide +kernel
theorem dX6_portFrom_36 : decode cX6_portFrom 36 = .ok (.iload_n 3, 1) := by decide +kernel
theorem dX6_portFrom_37 : decode cX6_portFrom 37 = .ok (.bipush 6, 2) := by decide +kernel
theorem dX6_portFrom_39 : decode cX6_portFrom 39 = .ok (.irem, 1) := by decide +kernel
theorem dX6_portFrom_40 : decode cX6_portFrom 40 = .ok (.iload_n 1, 1) := by decide +kernel
theorem dX6_portFrom_41 : decode cX6_portFrom 41 = .ok (.bipush 6, 2) := by decide +kernel
theorem dX6_portFrom_43 : decode cX6_portFrom 43 = .ok (.irem, 1) := by decide +kernel
theorem dX6_portFrom_44 : decode cX6_portFrom 44 = .ok (.isub, 1) := by decide +kernel
theorem dX6_portFrom_45 : decode cX6_portFrom 45 = .ok (.invokestatic 148, 3) := by decide +kernel
theorem dX6_portFrom_48 : decode cX6_portFrom 48 = .ok (.iadd, 1) := by decide +kernel
theorem dX6_portFrom_49 : decode cX6_portFrom 49 = .ok (.istore 4, 2) := by decide +kernel
theorem dX6_portFrom_51 : decode cX6_portFrom 51 = .ok (.iload_n 2, 1) := by decide +kernel
theorem dX6_portFrom_52 : decode cX6_portFrom 52 = .ok (.bipush (-9), 2) := by decide +kernel
theorem dX6_portFrom_54 : decode cX6_portFrom 54 = .ok (.if_icmp .eq 9, 3) := by decide +kernel
theorem dX6_portFrom_57 : decode cX6_portFrom 57 = .ok (.iload 4, 2) := by decide +kernel
theorem dX6_portFrom_59 : decode cX6_portFrom 59 = .ok (.iload_n 2, 1) := by decide +kernel
theorem dX6_portFrom_60 : decode cX6_portFrom 60 = .ok (.if_icmp .ge 6, 3) := by decide +kernel
theorem dX6_portFrom_63 : decode cX6_portFrom 63 = .ok (.iload 4, 2) := by decide +kernel
theorem dX6_portFrom_65 : decode cX6_portFrom 65 = .ok (.istore_n 2, 1) := by decide +kernel
theorem dX6_portFrom_66 : decode cX6_portFrom 66 = .ok (.iinc 3 1, 3) := by decide +kernel
theorem dX6_portFrom_69 : decode cX6_portFrom 69 = .ok (.goto (-64), 3) := by decide +kernel
theorem dX6_portFrom_72 : decode cX6_portFrom 72 = .ok (.iload_n 2, 1) := by decide +kernel
theorem dX6_portFrom_73 : decode cX6_portFrom 73 = .ok (.ireturn, 1) := by decide +kernel
theorem dX6_knownOf_0 : decode cX6_knownOf 0 = .ok (.iload_n 1, 1) := by decide +kernel
theorem dX6_knownOf_1 : decode cX6_knownOf 1 = .ok (.tableswitch 53 2 5 #[31, 36, 41, 47], 31) := by decide +kernel
theorem dX6_knownOf_32 : decode cX6_knownOf 32 = .ok (.iload_n 2, 1) := by decide +kernel
theorem dX6_knownOf_33 : decode cX6_knownOf 33 = .ok (.bipush 6, 2) := by decide +kernel
theorem dX6_knownOf_35 : decode cX6_knownOf 35 = .ok (.idiv, 1) := by decide +kernel
theorem dX6_knownOf_36 : decode cX6_knownOf 36 = .ok (.ireturn, 1) := by decide +kernel
theorem dX6_knownOf_37 : decode cX6_knownOf 37 = .ok (.iload_n 2, 1) := by decide +kernel
theorem dX6_knownOf_38 : decode cX6_knownOf 38 = .ok (.bipush 6, 2) := by decide +kernel
theorem dX6_knownOf_40 : decode cX6_knownOf 40 = .ok (.irem, 1) := by decide +kernel
theorem dX6_knownOf_41 : decode cX6_knownOf 41 = .ok (.ireturn, 1) := by decide +kernel
theorem dX6_knownOf_42 : decode cX6_knownOf 42 = .ok (.aload_n 0, 1) := by decide +kernel
theorem dX6_knownOf_43 : decode cX6_knownOf 43 = .ok (.iload_n 2, 1) := by decide +kernel
theorem dX6_knownOf_44 : decode cX6_knownOf 44 = .ok (.invokevirtual 151, 3) := by decide +kernel
theorem dX6_knownOf_47 : decode cX6_knownOf 47 = .ok (.ireturn, 1) := by decide +kernel
theorem dX6_knownOf_48 : decode cX6_knownOf 48 = .ok (.aload_n 0, 1) := by decide +kernel
theorem dX6_knownOf_49 : decode cX6_knownOf 49 = .ok (.iload_n 2, 1) := by decide +kernel
theorem dX6_knownOf_50 : decode cX6_knownOf 50 = .ok (.invokevirtual 154, 3) := by decide +kernel
theorem dX6_knownOf_53 : decode cX6_knownOf 53 = .ok (.ireturn, 1) := by decide +kernel
theorem dX6_knownOf_54 : decode cX6_knownOf 54 = .ok (.aload_n 0, 1) := by decide +kernel
theorem dX6_knownOf_55 : decode cX6_knownOf 55 = .ok (.getfield 43, 3) := by decide +kernel
theorem dX6_knownOf_58 : decode cX6_knownOf 58 = .ok (.iload_n 2, 1) := by decide +kernel
theorem dX6_knownOf_59 : decode cX6_knownOf 59 = .ok (.iaload, 1) := by decide +kernel
theorem dX6_knownOf_60 : decode cX6_knownOf 60 = .ok (.ireturn, 1) := by decide +kernel
theorem dX6_isTrue_0 : decode cX6_isTrue 0 = .ok (.aload_n 0, 1) := by decide +kernel
theorem dX6_isTrue_1 : decode cX6_isTrue 1 = .ok (.iload_n 1, 1) := by decide +kernel
theorem dX6_isTrue_2 : decode cX6_isTrue 2 = .ok (.iload_n 3, 1) := by decide +kernel
theorem dX6_isTrue_3 : decode cX6_isTrue 3 = .ok (.invokevirtual 157, 3) := by decide +kernel
theorem dX6_isTrue_6 : decode cX6_isTrue 6 = .ok (.istore 4, 2) := by decide +kernel
theorem dX6_isTrue_8 : decode cX6_isTrue 8 = .ok (.iload 4, 2) := by decide +kernel
theorem dX6_isTrue_10 : decode cX6_isTrue 10 = .ok (.bipush (-9), 2) := by decide +kernel
theorem dX6_isTrue_12 : decode cX6_isTrue 12 = .ok (.if_icmp .eq 27, 3) := by decide +kernel
theorem dX6_isTrue_15 : decode cX6_isTrue 15 = .ok (.iload_n 1, 1) := by decide +kernel
theorem dX6_isTrue_16 : decode cX6_isTrue 16 = .ok (.iconst 1, 1) := by decide +kernel
theorem dX6_isTrue_17 : decode cX6_isTrue 17 = .ok (.if_icmp .ne 12, 3) := by decide +kernel
theorem dX6_isTrue_20 : decode cX6_isTrue 20 = .ok (.iload 4, 2) := by decide +kernel
theorem dX6_isTrue_22 : decode cX6_isTrue 22 = .ok (.iload_n 2, 1) := by decide +kernel
theorem dX6_isTrue_23 : decode cX6_isTrue 23 = .ok (.if_icmp .gt 16, 3) := by decide +kernel
theorem dX6_isTrue_26 : decode cX6_isTrue 26 = .ok (.goto 9, 3) := by decide +kernel
theorem dX6_isTrue_29 : decode cX6_isTrue 29 = .ok (.iload 4, 2) := by decide +kernel
theorem dX6_isTrue_31 : decode cX6_isTrue 31 = .ok (.iload_n 2, 1) := by decide +kernel
theorem dX6_isTrue_32 : decode cX6_isTrue 32 = .ok (.if_icmp .ne 7, 3) := by decide +kernel
theorem dX6_isTrue_35 : decode cX6_isTrue 35 = .ok (.iconst 1, 1) := by decide +kernel
theorem dX6_isTrue_36 : decode cX6_isTrue 36 = .ok (.goto 4, 3) := by decide +kernel
theorem dX6_isTrue_39 : decode cX6_isTrue 39 = .ok (.iconst 0, 1) := by decide +kernel
theorem dX6_isTrue_40 : decode cX6_isTrue 40 = .ok (.ireturn, 1) := by decide +kernel
theorem dX6_learns_0 : decode cX6_learns 0 = .ok (.aload_n 0, 1) := by decide +kernel
theorem dX6_learns_1 : decode cX6_learns 1 = .ok (.invokevirtual 125, 3) := by decide +kernel
theorem dX6_learns_4 : decode cX6_learns 4 = .ok (.iconst 0, 1) := by decide +kernel
theorem dX6_learns_5 : decode cX6_learns 5 = .ok (.istore_n 3, 1) := by decide +kernel
theorem dX6_learns_6 : decode cX6_learns 6 = .ok (.iconst 0, 1) := by decide +kernel
theorem dX6_learns_7 : decode cX6_learns 7 = .ok (.istore 4, 2) := by decide +kernel
theorem dX6_learns_9 : decode cX6_learns 9 = .ok (.iload 4, 2) := by decide +kernel
theorem dX6_learns_11 : decode cX6_learns 11 = .ok (.bipush 36, 2) := by decide +kernel
theorem dX6_learns_13 : decode cX6_learns 13 = .ok (.if_icmp .ge 33, 3) := by decide +kernel
theorem dX6_learns_16 : decode cX6_learns 16 = .ok (.aload_n 0, 1) := by decide +kernel
theorem dX6_learns_17 : decode cX6_learns 17 = .ok (.getfield 13, 3) := by decide +kernel
theorem dX6_learns_20 : decode cX6_learns 20 = .ok (.iload 4, 2) := by decide +kernel
theorem dX6_learns_22 : decode cX6_learns 22 = .ok (.iaload, 1) := by decide +kernel
theorem dX6_learns_23 : decode cX6_learns 23 = .ok (.ifCond .le 17, 3) := by decide +kernel
theorem dX6_learns_26 : decode cX6_learns 26 = .ok (.aload_n 0, 1) := by decide +kernel
theorem dX6_learns_27 : decode cX6_learns 27 = .ok (.iload_n 1, 1) := by decide +kernel
theorem dX6_learns_28 : decode cX6_learns 28 = .ok (.iload_n 2, 1) := by decide +kernel
theorem dX6_learns_29 : decode cX6_learns 29 = .ok (.iload 4, 2) := by decide +kernel
theorem dX6_learns_31 : decode cX6_learns 31 = .ok (.invokevirtual 160, 3) := by decide +kernel
theorem dX6_learns_34 : decode cX6_learns 34 = .ok (.ifCond .eq 6, 3) := by decide +kernel
theorem dX6_learns_37 : decode cX6_learns 37 = .ok (.iinc 3 1, 3) := by decide +kernel
theorem dX6_learns_40 : decode cX6_learns 40 = .ok (.iinc 4 1, 3) := by decide +kernel
theorem dX6_learns_43 : decode cX6_learns 43 = .ok (.goto (-34), 3) := by decide +kernel
theorem dX6_learns_46 : decode cX6_learns 46 = .ok (.iload_n 3, 1) := by decide +kernel
theorem dX6_learns_47 : decode cX6_learns 47 = .ok (.ifCond .ne 5, 3) := by decide +kernel
theorem dX6_learns_50 : decode cX6_learns 50 = .ok (.iconst 0, 1) := by decide +kernel
theorem dX6_learns_51 : decode cX6_learns 51 = .ok (.ireturn, 1) := by decide +kernel
theorem dX6_learns_52 : decode cX6_learns 52 = .ok (.iconst 0, 1) := by decide +kernel
theorem dX6_learns_53 : decode cX6_learns 53 = .ok (.istore 4, 2) := by decide +kernel
theorem dX6_learns_55 : decode cX6_learns 55 = .ok (.iload 4, 2) := by decide +kernel
theorem dX6_learns_57 : decode cX6_learns 57 = .ok (.bipush 36, 2) := by decide +kernel
theorem dX6_learns_59 : decode cX6_learns 59 = .ok (.if_icmp .ge 28, 3) := by decide +kernel
theorem dX6_learns_62 : decode cX6_learns 62 = .ok (.aload_n 0, 1) := by decide +kernel
theorem dX6_learns_63 : decode cX6_learns 63 = .ok (.iload_n 1, 1) := by decide +kernel
theorem dX6_learns_64 : decode cX6_learns 64 = .ok (.iload_n 2, 1) := by decide +kernel
theorem dX6_learns_65 : decode cX6_learns 65 = .ok (.iload 4, 2) := by decide +kernel
theorem dX6_learns_67 : decode cX6_learns 67 = .ok (.invokevirtual 160, 3) := by decide +kernel
theorem dX6_learns_70 : decode cX6_learns 70 = .ok (.ifCond .ne 11, 3) := by decide +kernel
theorem dX6_learns_73 : decode cX6_learns 73 = .ok (.aload_n 0, 1) := by decide +kernel
theorem dX6_learns_74 : decode cX6_learns 74 = .ok (.getfield 13, 3) := by decide +kernel
theorem dX6_learns_77 : decode cX6_learns 77 = .ok (.iload 4, 2) := by decide +kernel
theorem dX6_learns_79 : decode cX6_learns 79 = .ok (.iconst 0, 1) := by decide +kernel
theorem dX6_learns_80 : decode cX6_learns 80 = .ok (.iastore, 1) := by decide +kernel
theorem dX6_learns_81 : decode cX6_learns 81 = .ok (.iinc 4 1, 3) := by decide +kernel
theorem dX6_learns_84 : decode cX6_learns 84 = .ok (.goto (-29), 3) := by decide +kernel
theorem dX6_learns_87 : decode cX6_learns 87 = .ok (.iconst 1, 1) := by decide +kernel
theorem dX6_learns_88 : decode cX6_learns 88 = .ok (.ireturn, 1) := by decide +kernel
theorem dX6_learn_0 : decode cX6_learn 0 = .ok (.iload_n 1, 1) := by decide +kernel
theorem dX6_learn_1 : decode cX6_learn 1 = .ok (.invokestatic 108, 3) := by decide +kernel
theorem dX6_learn_4 : decode cX6_learn 4 = .ok (.ifCond .ne 10, 3) := by decide +kernel
theorem dX6_learn_7 : decode cX6_learn 7 = .ok (.aload_n 0, 1) := by decide +kernel
theorem dX6_learn_8 : decode cX6_learn 8 = .ok (.bipush (-2), 2) := by decide +kernel
theorem dX6_learn_10 : decode cX6_learn 10 = .ok (.invokevirtual 53, 3) := by decide +kernel
theorem dX6_learn_13 : decode cX6_learn 13 = .ok (.ireturn, 1) := by decide +kernel
theorem dX6_learn_14 : decode cX6_learn 14 = .ok (.iload_n 2, 1) := by decide +kernel
theorem dX6_learn_15 : decode cX6_learn 15 = .ok (.ifCond .ge 10, 3) := by decide +kernel
theorem dX6_learn_18 : decode cX6_learn 18 = .ok (.aload_n 0, 1) := by decide +kernel
theorem dX6_learn_19 : decode cX6_learn 19 = .ok (.bipush (-4), 2) := by decide +kernel
theorem dX6_learn_21 : decode cX6_learn 21 = .ok (.invokevirtual 53, 3) := by decide +kernel
theorem dX6_learn_24 : decode cX6_learn 24 = .ok (.ireturn, 1) := by decide +kernel
theorem dX6_learn_25 : decode cX6_learn 25 = .ok (.iload_n 2, 1) := by decide +kernel
theorem dX6_learn_26 : decode cX6_learn 26 = .ok (.bipush 99, 2) := by decide +kernel
theorem dX6_learn_28 : decode cX6_learn 28 = .ok (.if_icmp .le 10, 3) := by decide +kernel
theorem dX6_learn_31 : decode cX6_learn 31 = .ok (.aload_n 0, 1) := by decide +kernel
theorem dX6_learn_32 : decode cX6_learn 32 = .ok (.bipush (-6), 2) := by decide +kernel
theorem dX6_learn_34 : decode cX6_learn 34 = .ok (.invokevirtual 53, 3) := by decide +kernel
theorem dX6_learn_37 : decode cX6_learn 37 = .ok (.ireturn, 1) := by decide +kernel
theorem dX6_learn_38 : decode cX6_learn 38 = .ok (.aload_n 0, 1) := by decide +kernel
theorem dX6_learn_39 : decode cX6_learn 39 = .ok (.iload_n 1, 1) := by decide +kernel
theorem dX6_learn_40 : decode cX6_learn 40 = .ok (.iload_n 2, 1) := by decide +kernel
theorem dX6_learn_41 : decode cX6_learn 41 = .ok (.invokevirtual 93, 3) := by decide +kernel
theorem dX6_learn_44 : decode cX6_learn 44 = .ok (.ifCond .eq 10, 3) := by decide +kernel
theorem dX6_learn_47 : decode cX6_learn 47 = .ok (.aload_n 0, 1) := by decide +kernel
theorem dX6_learn_48 : decode cX6_learn 48 = .ok (.invokevirtual 140, 3) := by decide +kernel
theorem dX6_learn_51 : decode cX6_learn 51 = .ok (.goto 9, 3) := by decide +kernel
theorem dX6_learn_54 : decode cX6_learn 54 = .ok (.aload_n 0, 1) := by decide +kernel
theorem dX6_learn_55 : decode cX6_learn 55 = .ok (.bipush (-3), 2) := by decide +kernel
theorem dX6_learn_57 : decode cX6_learn 57 = .ok (.invokevirtual 53, 3) := by decide +kernel
theorem dX6_learn_60 : decode cX6_learn 60 = .ok (.ireturn, 1) := by decide +kernel
theorem dX6_sumBy_0 : decode cX6_sumBy 0 = .ok (.aload_n 0, 1) := by decide +kernel
theorem dX6_sumBy_1 : decode cX6_sumBy 1 = .ok (.invokevirtual 125, 3) := by decide +kernel
theorem dX6_sumBy_4 : decode cX6_sumBy 4 = .ok (.iconst 0, 1) := by decide +kernel
theorem dX6_sumBy_5 : decode cX6_sumBy 5 = .ok (.istore_n 2, 1) := by decide +kernel
theorem dX6_sumBy_6 : decode cX6_sumBy 6 = .ok (.iconst 0, 1) := by decide +kernel
theorem dX6_sumBy_7 : decode cX6_sumBy 7 = .ok (.istore_n 3, 1) := by decide +kernel
theorem dX6_sumBy_8 : decode cX6_sumBy 8 = .ok (.iload_n 3, 1) := by decide +kernel
theorem dX6_sumBy_9 : decode cX6_sumBy 9 = .ok (.bipush 36, 2) := by decide +kernel
theorem dX6_sumBy_11 : decode cX6_sumBy 11 = .ok (.if_icmp .ge 92, 3) := by decide +kernel
theorem dX6_sumBy_14 : decode cX6_sumBy 14 = .ok (.aload_n 0, 1) := by decide +kernel
theorem dX6_sumBy_15 : decode cX6_sumBy 15 = .ok (.getfield 13, 3) := by decide +kernel
theorem dX6_sumBy_18 : decode cX6_sumBy 18 = .ok (.iload_n 3, 1) := by decide +kernel
theorem dX6_sumBy_19 : decode cX6_sumBy 19 = .ok (.iaload, 1) := by decide +kernel
theorem dX6_sumBy_20 : decode cX6_sumBy 20 = .ok (.ifCond .ne 6, 3) := by decide +kernel
theorem dX6_sumBy_23 : decode cX6_sumBy 23 = .ok (.goto 74, 3) := by decide +kernel
theorem dX6_sumBy_26 : decode cX6_sumBy 26 = .ok (.aload_n 0, 1) := by decide +kernel
theorem dX6_sumBy_27 : decode cX6_sumBy 27 = .ok (.iload_n 1, 1) := by decide +kernel
theorem dX6_sumBy_28 : decode cX6_sumBy 28 = .ok (.iload_n 3, 1) := by decide +kernel
theorem dX6_sumBy_29 : decode cX6_sumBy 29 = .ok (.invokevirtual 157, 3) := by decide +kernel
theorem dX6_sumBy_32 : decode cX6_sumBy 32 = .ok (.istore 4, 2) := by decide +kernel
theorem dX6_sumBy_34 : decode cX6_sumBy 34 = .ok (.iconst 0, 1) := by decide +kernel
theorem dX6_sumBy_35 : decode cX6_sumBy 35 = .ok (.istore 5, 2) := by decide +kernel
theorem dX6_sumBy_37 : decode cX6_sumBy 37 = .ok (.iconst 0, 1) := by decide +kernel
theorem dX6_sumBy_38 : decode cX6_sumBy 38 = .ok (.istore 6, 2) := by decide +kernel
theorem dX6_sumBy_40 : decode cX6_sumBy 40 = .ok (.iload 6, 2) := by decide +kernel
theorem dX6_sumBy_42 : decode cX6_sumBy 42 = .ok (.bipush 36, 2) := by decide +kernel
theorem dX6_sumBy_44 : decode cX6_sumBy 44 = .ok (.if_icmp .ge 41, 3) := by decide +kernel
theorem dX6_sumBy_47 : decode cX6_sumBy 47 = .ok (.aload_n 0, 1) := by decide +kernel
theorem dX6_sumBy_48 : decode cX6_sumBy 48 = .ok (.getfield 13, 3) := by decide +kernel
theorem dX6_sumBy_51 : decode cX6_sumBy 51 = .ok (.iload 6, 2) := by decide +kernel
theorem dX6_sumBy_53 : decode cX6_sumBy 53 = .ok (.iaload, 1) := by decide +kernel
theorem dX6_sumBy_54 : decode cX6_sumBy 54 = .ok (.ifCond .le 25, 3) := by decide +kernel
theorem dX6_sumBy_57 : decode cX6_sumBy 57 = .ok (.iload 4, 2) := by decide +kernel
theorem dX6_sumBy_59 : decode cX6_sumBy 59 = .ok (.bipush (-9), 2) := by decide +kernel
theorem dX6_sumBy_61 : decode cX6_sumBy 61 = .ok (.if_icmp .eq 15, 3) := by decide +kernel
theorem dX6_sumBy_64 : decode cX6_sumBy 64 = .ok (.aload_n 0, 1) := by decide +kernel
theorem dX6_sumBy_65 : decode cX6_sumBy 65 = .ok (.iload_n 1, 1) := by decide +kernel
theorem dX6_sumBy_66 : decode cX6_sumBy 66 = .ok (.iload 4, 2) := by decide +kernel
theorem dX6_sumBy_68 : decode cX6_sumBy 68 = .ok (.iload 6, 2) := by decide +kernel
theorem dX6_sumBy_70 : decode cX6_sumBy 70 = .ok (.invokevirtual 160, 3) := by decide +kernel
theorem dX6_sumBy_73 : decode cX6_sumBy 73 = .ok (.ifCond .eq 6, 3) := by decide +kernel
theorem dX6_sumBy_76 : decode cX6_sumBy 76 = .ok (.iinc 5 1, 3) := by decide +kernel
theorem dX6_sumBy_79 : decode cX6_sumBy 79 = .ok (.iinc 6 1, 3) := by decide +kernel
theorem dX6_sumBy_82 : decode cX6_sumBy 82 = .ok (.goto (-42), 3) := by decide +kernel
theorem dX6_sumBy_85 : decode cX6_sumBy 85 = .ok (.iload_n 2, 1) := by decide +kernel
theorem dX6_sumBy_86 : decode cX6_sumBy 86 = .ok (.aload_n 0, 1) := by decide +kernel
theorem dX6_sumBy_87 : decode cX6_sumBy 87 = .ok (.getfield 13, 3) := by decide +kernel
theorem dX6_sumBy_90 : decode cX6_sumBy 90 = .ok (.iload_n 3, 1) := by decide +kernel
theorem dX6_sumBy_91 : decode cX6_sumBy 91 = .ok (.iaload, 1) := by decide +kernel
theorem dX6_sumBy_92 : decode cX6_sumBy 92 = .ok (.iload 5, 2) := by decide +kernel
theorem dX6_sumBy_94 : decode cX6_sumBy 94 = .ok (.imul, 1) := by decide +kernel
theorem dX6_sumBy_95 : decode cX6_sumBy 95 = .ok (.iadd, 1) := by decide +kernel
theorem dX6_sumBy_96 : decode cX6_sumBy 96 = .ok (.istore_n 2, 1) := by decide +kernel
theorem dX6_sumBy_97 : decode cX6_sumBy 97 = .ok (.iinc 3 1, 3) := by decide +kernel
theorem dX6_sumBy_100 : decode cX6_sumBy 100 = .ok (.goto (-92), 3) := by decide +kernel
theorem dX6_sumBy_103 : decode cX6_sumBy 103 = .ok (.iload_n 2, 1) := by decide +kernel
theorem dX6_sumBy_104 : decode cX6_sumBy 104 = .ok (.ireturn, 1) := by decide +kernel
theorem dX6_tellsMost_0 : decode cX6_tellsMost 0 = .ok (.aload_n 0, 1) := by decide +kernel
theorem dX6_tellsMost_1 : decode cX6_tellsMost 1 = .ok (.invokevirtual 140, 3) := by decide +kernel
theorem dX6_tellsMost_4 : decode cX6_tellsMost 4 = .ok (.ifCond .ne 6, 3) := by decide +kernel
theorem dX6_tellsMost_7 : decode cX6_tellsMost 7 = .ok (.bipush (-9), 2) := by decide +kernel
theorem dX6_tellsMost_9 : decode cX6_tellsMost 9 = .ok (.ireturn, 1) := by decide +kernel
theorem dX6_tellsMost_10 : decode cX6_tellsMost 10 = .ok (.iconst 0, 1) := by decide +kernel
theorem dX6_tellsMost_11 : decode cX6_tellsMost 11 = .ok (.istore_n 1, 1) := by decide +kernel
theorem dX6_tellsMost_12 : decode cX6_tellsMost 12 = .ok (.iconst 1, 1) := by decide +kernel
theorem dX6_tellsMost_13 : decode cX6_tellsMost 13 = .ok (.istore_n 2, 1) := by decide +kernel
theorem dX6_tellsMost_14 : decode cX6_tellsMost 14 = .ok (.iload_n 2, 1) := by decide +kernel
theorem dX6_tellsMost_15 : decode cX6_tellsMost 15 = .ok (.bipush 6, 2) := by decide +kernel
theorem dX6_tellsMost_17 : decode cX6_tellsMost 17 = .ok (.if_icmp .ge 24, 3) := by decide +kernel
theorem dX6_tellsMost_20 : decode cX6_tellsMost 20 = .ok (.aload_n 0, 1) := by decide +kernel
theorem dX6_tellsMost_21 : decode cX6_tellsMost 21 = .ok (.iload_n 2, 1) := by decide +kernel
theorem dX6_tellsMost_22 : decode cX6_tellsMost 22 = .ok (.invokevirtual 163, 3) := by decide +kernel
theorem dX6_tellsMost_25 : decode cX6_tellsMost 25 = .ok (.aload_n 0, 1) := by decide +kernel
theorem dX6_tellsMost_26 : decode cX6_tellsMost 26 = .ok (.iload_n 1, 1) := by decide +kernel
theorem dX6_tellsMost_27 : decode cX6_tellsMost 27 = .ok (.invokevirtual 163, 3) := by decide +kernel
theorem dX6_tellsMost_30 : decode cX6_tellsMost 30 = .ok (.if_icmp .ge 5, 3) := by decide +kernel
theorem dX6_tellsMost_33 : decode cX6_tellsMost 33 = .ok (.iload_n 2, 1) := by decide +kernel
theorem dX6_tellsMost_34 : decode cX6_tellsMost 34 = .ok (.istore_n 1, 1) := by decide +kernel
theorem dX6_tellsMost_35 : decode cX6_tellsMost 35 = .ok (.iinc 2 1, 3) := by decide +kernel
theorem dX6_tellsMost_38 : decode cX6_tellsMost 38 = .ok (.goto (-24), 3) := by decide +kernel
theorem dX6_tellsMost_41 : decode cX6_tellsMost 41 = .ok (.iload_n 1, 1) := by decide +kernel
theorem dX6_tellsMost_42 : decode cX6_tellsMost 42 = .ok (.ireturn, 1) := by decide +kernel
theorem dX6_leftBy_0 : decode cX6_leftBy 0 = .ok (.iload_n 1, 1) := by decide +kernel
theorem dX6_leftBy_1 : decode cX6_leftBy 1 = .ok (.invokestatic 108, 3) := by decide +kernel
theorem dX6_leftBy_4 : decode cX6_leftBy 4 = .ok (.ifCond .eq 11, 3) := by decide +kernel
theorem dX6_leftBy_7 : decode cX6_leftBy 7 = .ok (.aload_n 0, 1) := by decide +kernel
theorem dX6_leftBy_8 : decode cX6_leftBy 8 = .ok (.iload_n 1, 1) := by decide +kernel
theorem dX6_leftBy_9 : decode cX6_leftBy 9 = .ok (.invokevirtual 163, 3) := by decide +kernel
theorem dX6_leftBy_12 : decode cX6_leftBy 12 = .ok (.goto 9, 3) := by decide +kernel
theorem dX6_leftBy_15 : decode cX6_leftBy 15 = .ok (.aload_n 0, 1) := by decide +kernel
theorem dX6_leftBy_16 : decode cX6_leftBy 16 = .ok (.bipush (-2), 2) := by decide +kernel
theorem dX6_leftBy_18 : decode cX6_leftBy 18 = .ok (.invokevirtual 53, 3) := by decide +kernel
theorem dX6_leftBy_21 : decode cX6_leftBy 21 = .ok (.ireturn, 1) := by decide +kernel
theorem dX6_lie_0 : decode cX6_lie 0 = .ok (.iload_n 1, 1) := by decide +kernel
theorem dX6_lie_1 : decode cX6_lie 1 = .ok (.invokestatic 108, 3) := by decide +kernel
theorem dX6_lie_4 : decode cX6_lie 4 = .ok (.ifCond .ne 10, 3) := by decide +kernel
theorem dX6_lie_7 : decode cX6_lie 7 = .ok (.aload_n 0, 1) := by decide +kernel
theorem dX6_lie_8 : decode cX6_lie 8 = .ok (.bipush (-2), 2) := by decide +kernel
theorem dX6_lie_10 : decode cX6_lie 10 = .ok (.invokevirtual 53, 3) := by decide +kernel
theorem dX6_lie_13 : decode cX6_lie 13 = .ok (.ireturn, 1) := by decide +kernel
theorem dX6_lie_14 : decode cX6_lie 14 = .ok (.iload_n 2, 1) := by decide +kernel
theorem dX6_lie_15 : decode cX6_lie 15 = .ok (.invokestatic 85, 3) := by decide +kernel
theorem dX6_lie_18 : decode cX6_lie 18 = .ok (.ifCond .ne 9, 3) := by decide +kernel
theorem dX6_lie_21 : decode cX6_lie 21 = .ok (.aload_n 0, 1) := by decide +kernel
theorem dX6_lie_22 : decode cX6_lie 22 = .ok (.iconst (-1), 1) := by decide +kernel
theorem dX6_lie_23 : decode cX6_lie 23 = .ok (.invokevirtual 53, 3) := by decide +kernel
theorem dX6_lie_26 : decode cX6_lie 26 = .ok (.ireturn, 1) := by decide +kernel
theorem dX6_lie_27 : decode cX6_lie 27 = .ok (.aload_n 0, 1) := by decide +kernel
theorem dX6_lie_28 : decode cX6_lie 28 = .ok (.invokevirtual 125, 3) := by decide +kernel
theorem dX6_lie_31 : decode cX6_lie 31 = .ok (.bipush (-9), 2) := by decide +kernel
theorem dX6_lie_33 : decode cX6_lie 33 = .ok (.istore_n 3, 1) := by decide +kernel
theorem dX6_lie_34 : decode cX6_lie 34 = .ok (.iconst 0, 1) := by decide +kernel
theorem dX6_lie_35 : decode cX6_lie 35 = .ok (.istore 4, 2) := by decide +kernel
theorem dX6_lie_37 : decode cX6_lie 37 = .ok (.iconst 0, 1) := by decide +kernel
theorem dX6_lie_38 : decode cX6_lie 38 = .ok (.istore 5, 2) := by decide +kernel
theorem dX6_lie_40 : decode cX6_lie 40 = .ok (.iload 5, 2) := by decide +kernel
theorem dX6_lie_42 : decode cX6_lie 42 = .ok (.bipush 41, 2) := by decide +kernel
theorem dX6_lie_44 : decode cX6_lie 44 = .ok (.if_icmp .ge 83, 3) := by decide +kernel
theorem dX6_lie_47 : decode cX6_lie 47 = .ok (.aload_n 0, 1) := by decide +kernel
theorem dX6_lie_48 : decode cX6_lie 48 = .ok (.iload_n 1, 1) := by decide +kernel
theorem dX6_lie_49 : decode cX6_lie 49 = .ok (.iload 5, 2) := by decide +kernel
theorem dX6_lie_51 : decode cX6_lie 51 = .ok (.iload_n 2, 1) := by decide +kernel
theorem dX6_lie_52 : decode cX6_lie 52 = .ok (.invokevirtual 160, 3) := by decide +kernel
theorem dX6_lie_55 : decode cX6_lie 55 = .ok (.ifCond .eq 6, 3) := by decide +kernel
theorem dX6_lie_58 : decode cX6_lie 58 = .ok (.goto 63, 3) := by decide +kernel
theorem dX6_lie_61 : decode cX6_lie 61 = .ok (.iconst 0, 1) := by decide +kernel
theorem dX6_lie_62 : decode cX6_lie 62 = .ok (.istore 6, 2) := by decide +kernel
theorem dX6_lie_64 : decode cX6_lie 64 = .ok (.iconst 0, 1) := by decide +kernel
theorem dX6_lie_65 : decode cX6_lie 65 = .ok (.istore 7, 2) := by decide +kernel
theorem dX6_lie_67 : decode cX6_lie 67 = .ok (.iload 7, 2) := by decide +kernel
theorem dX6_lie_69 : decode cX6_lie 69 = .ok (.bipush 36, 2) := by decide +kernel
theorem dX6_lie_71 : decode cX6_lie 71 = .ok (.if_icmp .ge 33, 3) := by decide +kernel
theorem dX6_lie_74 : decode cX6_lie 74 = .ok (.aload_n 0, 1) := by decide +kernel
theorem dX6_lie_75 : decode cX6_lie 75 = .ok (.iload_n 1, 1) := by decide +kernel
theorem dX6_lie_76 : decode cX6_lie 76 = .ok (.iload 5, 2) := by decide +kernel
theorem dX6_lie_78 : decode cX6_lie 78 = .ok (.iload 7, 2) := by decide +kernel
theorem dX6_lie_80 : decode cX6_lie 80 = .ok (.invokevirtual 160, 3) := by decide +kernel
theorem dX6_lie_83 : decode cX6_lie 83 = .ok (.ifCond .eq 15, 3) := by decide +kernel
theorem dX6_lie_86 : decode cX6_lie 86 = .ok (.iload 6, 2) := by decide +kernel
theorem dX6_lie_88 : decode cX6_lie 88 = .ok (.aload_n 0, 1) := by decide +kernel
theorem dX6_lie_89 : decode cX6_lie 89 = .ok (.getfield 13, 3) := by decide +kernel
theorem dX6_lie_92 : decode cX6_lie 92 = .ok (.iload 7, 2) := by decide +kernel
theorem dX6_lie_94 : decode cX6_lie 94 = .ok (.iaload, 1) := by decide +kernel
theorem dX6_lie_95 : decode cX6_lie 95 = .ok (.iadd, 1) := by decide +kernel
theorem dX6_lie_96 : decode cX6_lie 96 = .ok (.istore 6, 2) := by decide +kernel
theorem dX6_lie_98 : decode cX6_lie 98 = .ok (.iinc 7 1, 3) := by decide +kernel
theorem dX6_lie_101 : decode cX6_lie 101 = .ok (.goto (-34), 3) := by decide +kernel
theorem dX6_lie_104 : decode cX6_lie 104 = .ok (.iload 6, 2) := by decide +kernel
theorem dX6_lie_106 : decode cX6_lie 106 = .ok (.iload 4, 2) := by decide +kernel
theorem dX6_lie_108 : decode cX6_lie 108 = .ok (.if_icmp .gt 6, 3) := by decide +kernel
theorem dX6_lie_111 : decode cX6_lie 111 = .ok (.goto 10, 3) := by decide +kernel
theorem dX6_lie_114 : decode cX6_lie 114 = .ok (.iload 6, 2) := by decide +kernel
theorem dX6_lie_116 : decode cX6_lie 116 = .ok (.istore 4, 2) := by decide +kernel
theorem dX6_lie_118 : decode cX6_lie 118 = .ok (.iload 5, 2) := by decide +kernel
theorem dX6_lie_120 : decode cX6_lie 120 = .ok (.istore_n 3, 1) := by decide +kernel
theorem dX6_lie_121 : decode cX6_lie 121 = .ok (.iinc 5 1, 3) := by decide +kernel
theorem dX6_lie_124 : decode cX6_lie 124 = .ok (.goto (-84), 3) := by decide +kernel
theorem dX6_lie_127 : decode cX6_lie 127 = .ok (.iload_n 3, 1) := by decide +kernel
theorem dX6_lie_128 : decode cX6_lie 128 = .ok (.ireturn, 1) := by decide +kernel
theorem dX6_known_0 : decode cX6_known 0 = .ok (.iload_n 1, 1) := by decide +kernel
theorem dX6_known_1 : decode cX6_known 1 = .ok (.invokestatic 108, 3) := by decide +kernel
theorem dX6_known_4 : decode cX6_known 4 = .ok (.ifCond .ne 10, 3) := by decide +kernel
theorem dX6_known_7 : decode cX6_known 7 = .ok (.aload_n 0, 1) := by decide +kernel
theorem dX6_known_8 : decode cX6_known 8 = .ok (.bipush (-2), 2) := by decide +kernel
theorem dX6_known_10 : decode cX6_known 10 = .ok (.invokevirtual 53, 3) := by decide +kernel
theorem dX6_known_13 : decode cX6_known 13 = .ok (.ireturn, 1) := by decide +kernel
theorem dX6_known_14 : decode cX6_known 14 = .ok (.iload_n 2, 1) := by decide +kernel
theorem dX6_known_15 : decode cX6_known 15 = .ok (.invokestatic 85, 3) := by decide +kernel
theorem dX6_known_18 : decode cX6_known 18 = .ok (.ifCond .ne 9, 3) := by decide +kernel
theorem dX6_known_21 : decode cX6_known 21 = .ok (.aload_n 0, 1) := by decide +kernel
theorem dX6_known_22 : decode cX6_known 22 = .ok (.iconst (-1), 1) := by decide +kernel
theorem dX6_known_23 : decode cX6_known 23 = .ok (.invokevirtual 53, 3) := by decide +kernel
theorem dX6_known_26 : decode cX6_known 26 = .ok (.ireturn, 1) := by decide +kernel
theorem dX6_known_27 : decode cX6_known 27 = .ok (.aload_n 0, 1) := by decide +kernel
theorem dX6_known_28 : decode cX6_known 28 = .ok (.invokevirtual 125, 3) := by decide +kernel
theorem dX6_known_31 : decode cX6_known 31 = .ok (.aload_n 0, 1) := by decide +kernel
theorem dX6_known_32 : decode cX6_known 32 = .ok (.iload_n 1, 1) := by decide +kernel
theorem dX6_known_33 : decode cX6_known 33 = .ok (.iload_n 2, 1) := by decide +kernel
theorem dX6_known_34 : decode cX6_known 34 = .ok (.invokevirtual 157, 3) := by decide +kernel
theorem dX6_known_37 : decode cX6_known 37 = .ok (.ireturn, 1) := by decide +kernel
theorem dX6_isAlone_0 : decode cX6_isAlone 0 = .ok (.iconst 0, 1) := by decide +kernel
theorem dX6_isAlone_1 : decode cX6_isAlone 1 = .ok (.istore_n 3, 1) := by decide +kernel
theorem dX6_isAlone_2 : decode cX6_isAlone 2 = .ok (.iload_n 3, 1) := by decide +kernel
theorem dX6_isAlone_3 : decode cX6_isAlone 3 = .ok (.bipush 6, 2) := by decide +kernel
theorem dX6_isAlone_5 : decode cX6_isAlone 5 = .ok (.if_icmp .ge 31, 3) := by decide +kernel
theorem dX6_isAlone_8 : decode cX6_isAlone 8 = .ok (.iload_n 2, 1) := by decide +kernel
theorem dX6_isAlone_9 : decode cX6_isAlone 9 = .ok (.iload_n 3, 1) := by decide +kernel
theorem dX6_isAlone_10 : decode cX6_isAlone 10 = .ok (.ishr, 1) := by decide +kernel
theorem dX6_isAlone_11 : decode cX6_isAlone 11 = .ok (.iconst 1, 1) := by decide +kernel
theorem dX6_isAlone_12 : decode cX6_isAlone 12 = .ok (.iand, 1) := by decide +kernel
theorem dX6_isAlone_13 : decode cX6_isAlone 13 = .ok (.iconst 1, 1) := by decide +kernel
theorem dX6_isAlone_14 : decode cX6_isAlone 14 = .ok (.if_icmp .ne 16, 3) := by decide +kernel
theorem dX6_isAlone_17 : decode cX6_isAlone 17 = .ok (.aload_n 0, 1) := by decide +kernel
theorem dX6_isAlone_18 : decode cX6_isAlone 18 = .ok (.iload_n 3, 1) := by decide +kernel
theorem dX6_isAlone_19 : decode cX6_isAlone 19 = .ok (.iload_n 1, 1) := by decide +kernel
theorem dX6_isAlone_20 : decode cX6_isAlone 20 = .ok (.invokevirtual 157, 3) := by decide +kernel
theorem dX6_isAlone_23 : decode cX6_isAlone 23 = .ok (.bipush (-9), 2) := by decide +kernel
theorem dX6_isAlone_25 : decode cX6_isAlone 25 = .ok (.if_icmp .ne 5, 3) := by decide +kernel
theorem dX6_isAlone_28 : decode cX6_isAlone 28 = .ok (.iconst 0, 1) := by decide +kernel
theorem dX6_isAlone_29 : decode cX6_isAlone 29 = .ok (.ireturn, 1) := by decide +kernel
theorem dX6_isAlone_30 : decode cX6_isAlone 30 = .ok (.iinc 3 1, 3) := by decide +kernel
theorem dX6_isAlone_33 : decode cX6_isAlone 33 = .ok (.goto (-31), 3) := by decide +kernel
theorem dX6_isAlone_36 : decode cX6_isAlone 36 = .ok (.iconst 0, 1) := by decide +kernel
theorem dX6_isAlone_37 : decode cX6_isAlone 37 = .ok (.istore_n 3, 1) := by decide +kernel
theorem dX6_isAlone_38 : decode cX6_isAlone 38 = .ok (.iload_n 3, 1) := by decide +kernel
theorem dX6_isAlone_39 : decode cX6_isAlone 39 = .ok (.bipush 36, 2) := by decide +kernel
theorem dX6_isAlone_41 : decode cX6_isAlone 41 = .ok (.if_icmp .ge 83, 3) := by decide +kernel
theorem dX6_isAlone_44 : decode cX6_isAlone 44 = .ok (.aload_n 0, 1) := by decide +kernel
theorem dX6_isAlone_45 : decode cX6_isAlone 45 = .ok (.getfield 13, 3) := by decide +kernel
theorem dX6_isAlone_48 : decode cX6_isAlone 48 = .ok (.iload_n 3, 1) := by decide +kernel
theorem dX6_isAlone_49 : decode cX6_isAlone 49 = .ok (.iaload, 1) := by decide +kernel
theorem dX6_isAlone_50 : decode cX6_isAlone 50 = .ok (.ifCond .le 12, 3) := by decide +kernel
theorem dX6_isAlone_53 : decode cX6_isAlone 53 = .ok (.iload_n 3, 1) := by decide +kernel
theorem dX6_isAlone_54 : decode cX6_isAlone 54 = .ok (.iload_n 1, 1) := by decide +kernel
theorem dX6_isAlone_55 : decode cX6_isAlone 55 = .ok (.if_icmp .eq 7, 3) := by decide +kernel
theorem dX6_isAlone_58 : decode cX6_isAlone 58 = .ok (.iconst 1, 1) := by decide +kernel
theorem dX6_isAlone_59 : decode cX6_isAlone 59 = .ok (.goto 4, 3) := by decide +kernel
theorem dX6_isAlone_62 : decode cX6_isAlone 62 = .ok (.iconst 0, 1) := by decide +kernel
theorem dX6_isAlone_63 : decode cX6_isAlone 63 = .ok (.istore 4, 2) := by decide +kernel
theorem dX6_isAlone_65 : decode cX6_isAlone 65 = .ok (.iconst 0, 1) := by decide +kernel
theorem dX6_isAlone_66 : decode cX6_isAlone 66 = .ok (.istore 5, 2) := by decide +kernel
theorem dX6_isAlone_68 : decode cX6_isAlone 68 = .ok (.iload 5, 2) := by decide +kernel
theorem dX6_isAlone_70 : decode cX6_isAlone 70 = .ok (.bipush 6, 2) := by decide +kernel
theorem dX6_isAlone_72 : decode cX6_isAlone 72 = .ok (.if_icmp .ge 39, 3) := by decide +kernel
theorem dX6_isAlone_75 : decode cX6_isAlone 75 = .ok (.iload_n 2, 1) := by decide +kernel
theorem dX6_isAlone_76 : decode cX6_isAlone 76 = .ok (.iload 5, 2) := by decide +kernel
theorem dX6_isAlone_78 : decode cX6_isAlone 78 = .ok (.ishr, 1) := by decide +kernel
theorem dX6_isAlone_79 : decode cX6_isAlone 79 = .ok (.iconst 1, 1) := by decide +kernel
theorem dX6_isAlone_80 : decode cX6_isAlone 80 = .ok (.iand, 1) := by decide +kernel
theorem dX6_isAlone_81 : decode cX6_isAlone 81 = .ok (.iconst 1, 1) := by decide +kernel
theorem dX6_isAlone_82 : decode cX6_isAlone 82 = .ok (.if_icmp .ne 23, 3) := by decide +kernel
theorem dX6_isAlone_85 : decode cX6_isAlone 85 = .ok (.aload_n 0, 1) := by decide +kernel
theorem dX6_isAlone_86 : decode cX6_isAlone 86 = .ok (.iload 5, 2) := by decide +kernel
theorem dX6_isAlone_88 : decode cX6_isAlone 88 = .ok (.aload_n 0, 1) := by decide +kernel
theorem dX6_isAlone_89 : decode cX6_isAlone 89 = .ok (.iload 5, 2) := by decide +kernel
theorem dX6_isAlone_91 : decode cX6_isAlone 91 = .ok (.iload_n 1, 1) := by decide +kernel
theorem dX6_isAlone_92 : decode cX6_isAlone 92 = .ok (.invokevirtual 157, 3) := by decide +kernel
theorem dX6_isAlone_95 : decode cX6_isAlone 95 = .ok (.iload_n 3, 1) := by decide +kernel
theorem dX6_isAlone_96 : decode cX6_isAlone 96 = .ok (.invokevirtual 160, 3) := by decide +kernel
theorem dX6_isAlone_99 : decode cX6_isAlone 99 = .ok (.ifCond .ne 6, 3) := by decide +kernel
theorem dX6_isAlone_102 : decode cX6_isAlone 102 = .ok (.iconst 0, 1) := by decide +kernel
theorem dX6_isAlone_103 : decode cX6_isAlone 103 = .ok (.istore 4, 2) := by decide +kernel
theorem dX6_isAlone_105 : decode cX6_isAlone 105 = .ok (.iinc 5 1, 3) := by decide +kernel
theorem dX6_isAlone_108 : decode cX6_isAlone 108 = .ok (.goto (-40), 3) := by decide +kernel
theorem dX6_isAlone_111 : decode cX6_isAlone 111 = .ok (.iload 4, 2) := by decide +kernel
theorem dX6_isAlone_113 : decode cX6_isAlone 113 = .ok (.ifCond .eq 5, 3) := by decide +kernel
theorem dX6_isAlone_116 : decode cX6_isAlone 116 = .ok (.iconst 0, 1) := by decide +kernel
theorem dX6_isAlone_117 : decode cX6_isAlone 117 = .ok (.ireturn, 1) := by decide +kernel
theorem dX6_isAlone_118 : decode cX6_isAlone 118 = .ok (.iinc 3 1, 3) := by decide +kernel
theorem dX6_isAlone_121 : decode cX6_isAlone 121 = .ok (.goto (-83), 3) := by decide +kernel
theorem dX6_isAlone_124 : decode cX6_isAlone 124 = .ok (.iconst 1, 1) := by decide +kernel
theorem dX6_isAlone_125 : decode cX6_isAlone 125 = .ok (.ireturn, 1) := by decide +kernel
theorem dX6_needed_0 : decode cX6_needed 0 = .ok (.iload_n 1, 1) := by decide +kernel
theorem dX6_needed_1 : decode cX6_needed 1 = .ok (.invokestatic 85, 3) := by decide +kernel
theorem dX6_needed_4 : decode cX6_needed 4 = .ok (.ifCond .ne 9, 3) := by decide +kernel
theorem dX6_needed_7 : decode cX6_needed 7 = .ok (.aload_n 0, 1) := by decide +kernel
theorem dX6_needed_8 : decode cX6_needed 8 = .ok (.iconst (-1), 1) := by decide +kernel
theorem dX6_needed_9 : decode cX6_needed 9 = .ok (.invokevirtual 53, 3) := by decide +kernel
theorem dX6_needed_12 : decode cX6_needed 12 = .ok (.ireturn, 1) := by decide +kernel
theorem dX6_needed_13 : decode cX6_needed 13 = .ok (.aload_n 0, 1) := by decide +kernel
theorem dX6_needed_14 : decode cX6_needed 14 = .ok (.getfield 13, 3) := by decide +kernel
theorem dX6_needed_17 : decode cX6_needed 17 = .ok (.iload_n 1, 1) := by decide +kernel
theorem dX6_needed_18 : decode cX6_needed 18 = .ok (.iaload, 1) := by decide +kernel
theorem dX6_needed_19 : decode cX6_needed 19 = .ok (.ifCond .ne 10, 3) := by decide +kernel
theorem dX6_needed_22 : decode cX6_needed 22 = .ok (.aload_n 0, 1) := by decide +kernel
theorem dX6_needed_23 : decode cX6_needed 23 = .ok (.bipush (-3), 2) := by decide +kernel
theorem dX6_needed_25 : decode cX6_needed 25 = .ok (.invokevirtual 53, 3) := by decide +kernel
theorem dX6_needed_28 : decode cX6_needed 28 = .ok (.ireturn, 1) := by decide +kernel
theorem dX6_needed_29 : decode cX6_needed 29 = .ok (.aload_n 0, 1) := by decide +kernel
theorem dX6_needed_30 : decode cX6_needed 30 = .ok (.invokevirtual 125, 3) := by decide +kernel
theorem dX6_needed_33 : decode cX6_needed 33 = .ok (.bipush (-9), 2) := by decide +kernel
theorem dX6_needed_35 : decode cX6_needed 35 = .ok (.istore_n 2, 1) := by decide +kernel
theorem dX6_needed_36 : decode cX6_needed 36 = .ok (.iconst 0, 1) := by decide +kernel
theorem dX6_needed_37 : decode cX6_needed 37 = .ok (.istore_n 3, 1) := by decide +kernel
theorem dX6_needed_38 : decode cX6_needed 38 = .ok (.iload_n 3, 1) := by decide +kernel
theorem dX6_needed_39 : decode cX6_needed 39 = .ok (.bipush 64, 2) := by decide +kernel
theorem dX6_needed_41 : decode cX6_needed 41 = .ok (.if_icmp .ge 37, 3) := by decide +kernel
theorem dX6_needed_44 : decode cX6_needed 44 = .ok (.iload_n 2, 1) := by decide +kernel
theorem dX6_needed_45 : decode cX6_needed 45 = .ok (.bipush (-9), 2) := by decide +kernel
theorem dX6_needed_47 : decode cX6_needed 47 = .ok (.if_icmp .eq 14, 3) := by decide +kernel
theorem dX6_needed_50 : decode cX6_needed 50 = .ok (.iload_n 3, 1) := by decide +kernel
theorem dX6_needed_51 : decode cX6_needed 51 = .ok (.invokestatic 166, 3) := by decide +kernel
theorem dX6_needed_54 : decode cX6_needed 54 = .ok (.iload_n 2, 1) := by decide +kernel
theorem dX6_needed_55 : decode cX6_needed 55 = .ok (.invokestatic 166, 3) := by decide +kernel
theorem dX6_needed_58 : decode cX6_needed 58 = .ok (.if_icmp .ge 14, 3) := by decide +kernel
theorem dX6_needed_61 : decode cX6_needed 61 = .ok (.aload_n 0, 1) := by decide +kernel
theorem dX6_needed_62 : decode cX6_needed 62 = .ok (.iload_n 1, 1) := by decide +kernel
theorem dX6_needed_63 : decode cX6_needed 63 = .ok (.iload_n 3, 1) := by decide +kernel
theorem dX6_needed_64 : decode cX6_needed 64 = .ok (.invokevirtual 171, 3) := by decide +kernel
theorem dX6_needed_67 : decode cX6_needed 67 = .ok (.ifCond .eq 5, 3) := by decide +kernel
theorem dX6_needed_70 : decode cX6_needed 70 = .ok (.iload_n 3, 1) := by decide +kernel
theorem dX6_needed_71 : decode cX6_needed 71 = .ok (.istore_n 2, 1) := by decide +kernel
theorem dX6_needed_72 : decode cX6_needed 72 = .ok (.iinc 3 1, 3) := by decide +kernel
theorem dX6_needed_75 : decode cX6_needed 75 = .ok (.goto (-37), 3) := by decide +kernel
theorem dX6_needed_78 : decode cX6_needed 78 = .ok (.iload_n 2, 1) := by decide +kernel
theorem dX6_needed_79 : decode cX6_needed 79 = .ok (.ireturn, 1) := by decide +kernel
theorem dX6_rivals_0 : decode cX6_rivals 0 = .ok (.iload_n 1, 1) := by decide +kernel
theorem dX6_rivals_1 : decode cX6_rivals 1 = .ok (.invokestatic 85, 3) := by decide +kernel
theorem dX6_rivals_4 : decode cX6_rivals 4 = .ok (.ifCond .eq 17, 3) := by decide +kernel
theorem dX6_rivals_7 : decode cX6_rivals 7 = .ok (.iload_n 2, 1) := by decide +kernel
theorem dX6_rivals_8 : decode cX6_rivals 8 = .ok (.invokestatic 85, 3) := by decide +kernel
theorem dX6_rivals_11 : decode cX6_rivals 11 = .ok (.ifCond .eq 10, 3) := by decide +kernel
theorem dX6_rivals_14 : decode cX6_rivals 14 = .ok (.iload_n 3, 1) := by decide +kernel
theorem dX6_rivals_15 : decode cX6_rivals 15 = .ok (.invokestatic 85, 3) := by decide +kernel
theorem dX6_rivals_18 : decode cX6_rivals 18 = .ok (.ifCond .ne 9, 3) := by decide +kernel
theorem dX6_rivals_21 : decode cX6_rivals 21 = .ok (.aload_n 0, 1) := by decide +kernel
theorem dX6_rivals_22 : decode cX6_rivals 22 = .ok (.iconst (-1), 1) := by decide +kernel
theorem dX6_rivals_23 : decode cX6_rivals 23 = .ok (.invokevirtual 53, 3) := by decide +kernel
theorem dX6_rivals_26 : decode cX6_rivals 26 = .ok (.ireturn, 1) := by decide +kernel
theorem dX6_rivals_27 : decode cX6_rivals 27 = .ok (.aload_n 0, 1) := by decide +kernel
theorem dX6_rivals_28 : decode cX6_rivals 28 = .ok (.iload_n 1, 1) := by decide +kernel
theorem dX6_rivals_29 : decode cX6_rivals 29 = .ok (.aload_n 0, 1) := by decide +kernel
theorem dX6_rivals_30 : decode cX6_rivals 30 = .ok (.getfield 40, 3) := by decide +kernel
theorem dX6_rivals_33 : decode cX6_rivals 33 = .ok (.invokevirtual 118, 3) := by decide +kernel
theorem dX6_rivals_36 : decode cX6_rivals 36 = .ok (.aload_n 0, 1) := by decide +kernel
theorem dX6_rivals_37 : decode cX6_rivals 37 = .ok (.getfield 40, 3) := by decide +kernel
theorem dX6_rivals_40 : decode cX6_rivals 40 = .ok (.iload_n 3, 1) := by decide +kernel
theorem dX6_rivals_41 : decode cX6_rivals 41 = .ok (.iaload, 1) := by decide +kernel
theorem dX6_rivals_42 : decode cX6_rivals 42 = .ok (.istore 4, 2) := by decide +kernel
theorem dX6_rivals_44 : decode cX6_rivals 44 = .ok (.aload_n 0, 1) := by decide +kernel
theorem dX6_rivals_45 : decode cX6_rivals 45 = .ok (.iload_n 2, 1) := by decide +kernel
theorem dX6_rivals_46 : decode cX6_rivals 46 = .ok (.aload_n 0, 1) := by decide +kernel
theorem dX6_rivals_47 : decode cX6_rivals 47 = .ok (.getfield 40, 3) := by decide +kernel
theorem dX6_rivals_50 : decode cX6_rivals 50 = .ok (.invokevirtual 118, 3) := by decide +kernel
theorem dX6_rivals_53 : decode cX6_rivals 53 = .ok (.aload_n 0, 1) := by decide +kernel
theorem dX6_rivals_54 : decode cX6_rivals 54 = .ok (.getfield 40, 3) := by decide +kernel
theorem dX6_rivals_57 : decode cX6_rivals 57 = .ok (.iload_n 3, 1) := by decide +kernel
theorem dX6_rivals_58 : decode cX6_rivals 58 = .ok (.iaload, 1) := by decide +kernel
theorem dX6_rivals_59 : decode cX6_rivals 59 = .ok (.istore 5, 2) := by decide +kernel
theorem dX6_rivals_61 : decode cX6_rivals 61 = .ok (.iload 4, 2) := by decide +kernel
theorem dX6_rivals_63 : decode cX6_rivals 63 = .ok (.iload 5, 2) := by decide +kernel
theorem dX6_rivals_65 : decode cX6_rivals 65 = .ok (.if_icmp .ne 17, 3) := by decide +kernel
theorem dX6_rivals_68 : decode cX6_rivals 68 = .ok (.iload 4, 2) := by decide +kernel
theorem dX6_rivals_70 : decode cX6_rivals 70 = .ok (.bipush (-9), 2) := by decide +kernel
theorem dX6_rivals_72 : decode cX6_rivals 72 = .ok (.if_icmp .ne 8, 3) := by decide +kernel
theorem dX6_rivals_75 : decode cX6_rivals 75 = .ok (.bipush (-9), 2) := by decide +kernel
theorem dX6_rivals_77 : decode cX6_rivals 77 = .ok (.goto 4, 3) := by decide +kernel
theorem dX6_rivals_80 : decode cX6_rivals 80 = .ok (.iconst 2, 1) := by decide +kernel
theorem dX6_rivals_81 : decode cX6_rivals 81 = .ok (.ireturn, 1) := by decide +kernel
theorem dX6_rivals_82 : decode cX6_rivals 82 = .ok (.iload 5, 2) := by decide +kernel
theorem dX6_rivals_84 : decode cX6_rivals 84 = .ok (.bipush (-9), 2) := by decide +kernel
theorem dX6_rivals_86 : decode cX6_rivals 86 = .ok (.if_icmp .eq 17, 3) := by decide +kernel
theorem dX6_rivals_89 : decode cX6_rivals 89 = .ok (.iload 4, 2) := by decide +kernel
theorem dX6_rivals_91 : decode cX6_rivals 91 = .ok (.bipush (-9), 2) := by decide +kernel
theorem dX6_rivals_93 : decode cX6_rivals 93 = .ok (.if_icmp .eq 14, 3) := by decide +kernel
theorem dX6_rivals_96 : decode cX6_rivals 96 = .ok (.iload 4, 2) := by decide +kernel
theorem dX6_rivals_98 : decode cX6_rivals 98 = .ok (.iload 5, 2) := by decide +kernel
theorem dX6_rivals_100 : decode cX6_rivals 100 = .ok (.if_icmp .ge 7, 3) := by decide +kernel
theorem dX6_rivals_103 : decode cX6_rivals 103 = .ok (.iconst 0, 1) := by decide +kernel
theorem dX6_rivals_104 : decode cX6_rivals 104 = .ok (.goto 4, 3) := by decide +kernel
theorem dX6_rivals_107 : decode cX6_rivals 107 = .ok (.iconst 1, 1) := by decide +kernel
theorem dX6_rivals_108 : decode cX6_rivals 108 = .ok (.ireturn, 1) := by decide +kernel
theorem dX6_alikeTo_0 : decode cX6_alikeTo 0 = .ok (.iconst 0, 1) := by decide +kernel
theorem dX6_alikeTo_1 : decode cX6_alikeTo 1 = .ok (.istore_n 2, 1) := by decide +kernel
theorem dX6_alikeTo_2 : decode cX6_alikeTo 2 = .ok (.iconst 0, 1) := by decide +kernel
theorem dX6_alikeTo_3 : decode cX6_alikeTo 3 = .ok (.istore_n 3, 1) := by decide +kernel
theorem dX6_alikeTo_4 : decode cX6_alikeTo 4 = .ok (.iload_n 3, 1) := by decide +kernel
theorem dX6_alikeTo_5 : decode cX6_alikeTo 5 = .ok (.bipush 36, 2) := by decide +kernel
theorem dX6_alikeTo_7 : decode cX6_alikeTo 7 = .ok (.if_icmp .ge 54, 3) := by decide +kernel
theorem dX6_alikeTo_10 : decode cX6_alikeTo 10 = .ok (.iload_n 3, 1) := by decide +kernel
theorem dX6_alikeTo_11 : decode cX6_alikeTo 11 = .ok (.iload_n 1, 1) := by decide +kernel
theorem dX6_alikeTo_12 : decode cX6_alikeTo 12 = .ok (.if_icmp .eq 43, 3) := by decide +kernel
theorem dX6_alikeTo_15 : decode cX6_alikeTo 15 = .ok (.aload_n 0, 1) := by decide +kernel
theorem dX6_alikeTo_16 : decode cX6_alikeTo 16 = .ok (.getfield 13, 3) := by decide +kernel
theorem dX6_alikeTo_19 : decode cX6_alikeTo 19 = .ok (.iload_n 3, 1) := by decide +kernel
theorem dX6_alikeTo_20 : decode cX6_alikeTo 20 = .ok (.iaload, 1) := by decide +kernel
theorem dX6_alikeTo_21 : decode cX6_alikeTo 21 = .ok (.ifCond .le 34, 3) := by decide +kernel
theorem dX6_alikeTo_24 : decode cX6_alikeTo 24 = .ok (.aload_n 0, 1) := by decide +kernel
theorem dX6_alikeTo_25 : decode cX6_alikeTo 25 = .ok (.getfield 43, 3) := by decide +kernel
theorem dX6_alikeTo_28 : decode cX6_alikeTo 28 = .ok (.iload_n 3, 1) := by decide +kernel
theorem dX6_alikeTo_29 : decode cX6_alikeTo 29 = .ok (.iaload, 1) := by decide +kernel
theorem dX6_alikeTo_30 : decode cX6_alikeTo 30 = .ok (.aload_n 0, 1) := by decide +kernel
theorem dX6_alikeTo_31 : decode cX6_alikeTo 31 = .ok (.getfield 43, 3) := by decide +kernel
theorem dX6_alikeTo_34 : decode cX6_alikeTo 34 = .ok (.iload_n 1, 1) := by decide +kernel
theorem dX6_alikeTo_35 : decode cX6_alikeTo 35 = .ok (.iaload, 1) := by decide +kernel
theorem dX6_alikeTo_36 : decode cX6_alikeTo 36 = .ok (.if_icmp .ne 19, 3) := by decide +kernel
theorem dX6_alikeTo_39 : decode cX6_alikeTo 39 = .ok (.aload_n 0, 1) := by decide +kernel
theorem dX6_alikeTo_40 : decode cX6_alikeTo 40 = .ok (.iload_n 3, 1) := by decide +kernel
theorem dX6_alikeTo_41 : decode cX6_alikeTo 41 = .ok (.invokevirtual 151, 3) := by decide +kernel
theorem dX6_alikeTo_44 : decode cX6_alikeTo 44 = .ok (.aload_n 0, 1) := by decide +kernel
theorem dX6_alikeTo_45 : decode cX6_alikeTo 45 = .ok (.iload_n 1, 1) := by decide +kernel
theorem dX6_alikeTo_46 : decode cX6_alikeTo 46 = .ok (.invokevirtual 151, 3) := by decide +kernel
theorem dX6_alikeTo_49 : decode cX6_alikeTo 49 = .ok (.if_icmp .ne 6, 3) := by decide +kernel
theorem dX6_alikeTo_52 : decode cX6_alikeTo 52 = .ok (.iinc 2 1, 3) := by decide +kernel
theorem dX6_alikeTo_55 : decode cX6_alikeTo 55 = .ok (.iinc 3 1, 3) := by decide +kernel
theorem dX6_alikeTo_58 : decode cX6_alikeTo 58 = .ok (.goto (-54), 3) := by decide +kernel
theorem dX6_alikeTo_61 : decode cX6_alikeTo 61 = .ok (.iload_n 2, 1) := by decide +kernel
theorem dX6_alikeTo_62 : decode cX6_alikeTo 62 = .ok (.ireturn, 1) := by decide +kernel
theorem dX6_hide_0 : decode cX6_hide 0 = .ok (.iload_n 1, 1) := by decide +kernel
theorem dX6_hide_1 : decode cX6_hide 1 = .ok (.iconst 0, 1) := by decide +kernel
theorem dX6_hide_2 : decode cX6_hide 2 = .ok (.iconst 1, 1) := by decide +kernel
theorem dX6_hide_3 : decode cX6_hide 3 = .ok (.invokestatic 49, 3) := by decide +kernel
theorem dX6_hide_6 : decode cX6_hide 6 = .ok (.ifCond .ne 10, 3) := by decide +kernel
theorem dX6_hide_9 : decode cX6_hide 9 = .ok (.aload_n 0, 1) := by decide +kernel
theorem dX6_hide_10 : decode cX6_hide 10 = .ok (.bipush (-2), 2) := by decide +kernel
theorem dX6_hide_12 : decode cX6_hide 12 = .ok (.invokevirtual 53, 3) := by decide +kernel
theorem dX6_hide_15 : decode cX6_hide 15 = .ok (.ireturn, 1) := by decide +kernel
theorem dX6_hide_16 : decode cX6_hide 16 = .ok (.aload_n 0, 1) := by decide +kernel
theorem dX6_hide_17 : decode cX6_hide 17 = .ok (.invokevirtual 125, 3) := by decide +kernel
theorem dX6_hide_20 : decode cX6_hide 20 = .ok (.bipush (-9), 2) := by decide +kernel
theorem dX6_hide_22 : decode cX6_hide 22 = .ok (.istore_n 2, 1) := by decide +kernel
theorem dX6_hide_23 : decode cX6_hide 23 = .ok (.iconst 0, 1) := by decide +kernel
theorem dX6_hide_24 : decode cX6_hide 24 = .ok (.istore_n 3, 1) := by decide +kernel
theorem dX6_hide_25 : decode cX6_hide 25 = .ok (.iload_n 3, 1) := by decide +kernel
theorem dX6_hide_26 : decode cX6_hide 26 = .ok (.bipush 36, 2) := by decide +kernel
theorem dX6_hide_28 : decode cX6_hide 28 = .ok (.if_icmp .ge 39, 3) := by decide +kernel
theorem dX6_hide_31 : decode cX6_hide 31 = .ok (.aload_n 0, 1) := by decide +kernel
theorem dX6_hide_32 : decode cX6_hide 32 = .ok (.getfield 13, 3) := by decide +kernel
theorem dX6_hide_35 : decode cX6_hide 35 = .ok (.iload_n 3, 1) := by decide +kernel
theorem dX6_hide_36 : decode cX6_hide 36 = .ok (.iaload, 1) := by decide +kernel
theorem dX6_hide_37 : decode cX6_hide 37 = .ok (.ifCond .le 24, 3) := by decide +kernel
theorem dX6_hide_40 : decode cX6_hide 40 = .ok (.iload_n 2, 1) := by decide +kernel
theorem dX6_hide_41 : decode cX6_hide 41 = .ok (.bipush (-9), 2) := by decide +kernel
theorem dX6_hide_43 : decode cX6_hide 43 = .ok (.if_icmp .eq 16, 3) := by decide +kernel
theorem dX6_hide_46 : decode cX6_hide 46 = .ok (.aload_n 0, 1) := by decide +kernel
theorem dX6_hide_47 : decode cX6_hide 47 = .ok (.iload_n 3, 1) := by decide +kernel
theorem dX6_hide_48 : decode cX6_hide 48 = .ok (.invokevirtual 174, 3) := by decide +kernel
theorem dX6_hide_51 : decode cX6_hide 51 = .ok (.aload_n 0, 1) := by decide +kernel
theorem dX6_hide_52 : decode cX6_hide 52 = .ok (.iload_n 2, 1) := by decide +kernel
theorem dX6_hide_53 : decode cX6_hide 53 = .ok (.invokevirtual 174, 3) := by decide +kernel
theorem dX6_hide_56 : decode cX6_hide 56 = .ok (.if_icmp .le 5, 3) := by decide +kernel
theorem dX6_hide_59 : decode cX6_hide 59 = .ok (.iload_n 3, 1) := by decide +kernel
theorem dX6_hide_60 : decode cX6_hide 60 = .ok (.istore_n 2, 1) := by decide +kernel
theorem dX6_hide_61 : decode cX6_hide 61 = .ok (.iinc 3 1, 3) := by decide +kernel
theorem dX6_hide_64 : decode cX6_hide 64 = .ok (.goto (-39), 3) := by decide +kernel
theorem dX6_hide_67 : decode cX6_hide 67 = .ok (.iload_n 2, 1) := by decide +kernel
theorem dX6_hide_68 : decode cX6_hide 68 = .ok (.bipush (-9), 2) := by decide +kernel
theorem dX6_hide_70 : decode cX6_hide 70 = .ok (.if_icmp .eq 7, 3) := by decide +kernel
theorem dX6_hide_73 : decode cX6_hide 73 = .ok (.iload_n 1, 1) := by decide +kernel
theorem dX6_hide_74 : decode cX6_hide 74 = .ok (.ifCond .ne 7, 3) := by decide +kernel
theorem dX6_hide_77 : decode cX6_hide 77 = .ok (.iload_n 2, 1) := by decide +kernel
theorem dX6_hide_78 : decode cX6_hide 78 = .ok (.goto 8, 3) := by decide +kernel
theorem dX6_hide_81 : decode cX6_hide 81 = .ok (.aload_n 0, 1) := by decide +kernel
theorem dX6_hide_82 : decode cX6_hide 82 = .ok (.iload_n 2, 1) := by decide +kernel
theorem dX6_hide_83 : decode cX6_hide 83 = .ok (.invokevirtual 174, 3) := by decide +kernel
theorem dX6_hide_86 : decode cX6_hide 86 = .ok (.ireturn, 1) := by decide +kernel
theorem dX6_close_0 : decode cX6_close 0 = .ok (.iload_n 1, 1) := by decide +kernel
theorem dX6_close_1 : decode cX6_close 1 = .ok (.iconst 0, 1) := by decide +kernel
theorem dX6_close_2 : decode cX6_close 2 = .ok (.iconst 1, 1) := by decide +kernel
theorem dX6_close_3 : decode cX6_close 3 = .ok (.invokestatic 49, 3) := by decide +kernel
theorem dX6_close_6 : decode cX6_close 6 = .ok (.ifCond .ne 10, 3) := by decide +kernel
theorem dX6_close_9 : decode cX6_close 9 = .ok (.aload_n 0, 1) := by decide +kernel
theorem dX6_close_10 : decode cX6_close 10 = .ok (.bipush (-2), 2) := by decide +kernel
theorem dX6_close_12 : decode cX6_close 12 = .ok (.invokevirtual 53, 3) := by decide +kernel
theorem dX6_close_15 : decode cX6_close 15 = .ok (.ireturn, 1) := by decide +kernel
theorem dX6_close_16 : decode cX6_close 16 = .ok (.bipush (-9), 2) := by decide +kernel
theorem dX6_close_18 : decode cX6_close 18 = .ok (.istore_n 2, 1) := by decide +kernel
theorem dX6_close_19 : decode cX6_close 19 = .ok (.iconst 0, 1) := by decide +kernel
theorem dX6_close_20 : decode cX6_close 20 = .ok (.istore_n 3, 1) := by decide +kernel
theorem dX6_close_21 : decode cX6_close 21 = .ok (.iconst 0, 1) := by decide +kernel
theorem dX6_close_22 : decode cX6_close 22 = .ok (.istore 4, 2) := by decide +kernel
theorem dX6_close_24 : decode cX6_close 24 = .ok (.iload 4, 2) := by decide +kernel
theorem dX6_close_26 : decode cX6_close 26 = .ok (.bipush 36, 2) := by decide +kernel
theorem dX6_close_28 : decode cX6_close 28 = .ok (.if_icmp .ge 76, 3) := by decide +kernel
theorem dX6_close_31 : decode cX6_close 31 = .ok (.aload_n 0, 1) := by decide +kernel
theorem dX6_close_32 : decode cX6_close 32 = .ok (.iload 4, 2) := by decide +kernel
theorem dX6_close_34 : decode cX6_close 34 = .ok (.aload_n 0, 1) := by decide +kernel
theorem dX6_close_35 : decode cX6_close 35 = .ok (.getfield 40, 3) := by decide +kernel
theorem dX6_close_38 : decode cX6_close 38 = .ok (.invokevirtual 118, 3) := by decide +kernel
theorem dX6_close_41 : decode cX6_close 41 = .ok (.iconst 0, 1) := by decide +kernel
theorem dX6_close_42 : decode cX6_close 42 = .ok (.istore 5, 2) := by decide +kernel
theorem dX6_close_44 : decode cX6_close 44 = .ok (.iconst 0, 1) := by decide +kernel
theorem dX6_close_45 : decode cX6_close 45 = .ok (.istore 6, 2) := by decide +kernel
theorem dX6_close_47 : decode cX6_close 47 = .ok (.iload 6, 2) := by decide +kernel
theorem dX6_close_49 : decode cX6_close 49 = .ok (.bipush 36, 2) := by decide +kernel
theorem dX6_close_51 : decode cX6_close 51 = .ok (.if_icmp .ge 32, 3) := by decide +kernel
theorem dX6_close_54 : decode cX6_close 54 = .ok (.aload_n 0, 1) := by decide +kernel
theorem dX6_close_55 : decode cX6_close 55 = .ok (.getfield 40, 3) := by decide +kernel
theorem dX6_close_58 : decode cX6_close 58 = .ok (.iload 6, 2) := by decide +kernel
theorem dX6_close_60 : decode cX6_close 60 = .ok (.iaload, 1) := by decide +kernel
theorem dX6_close_61 : decode cX6_close 61 = .ok (.iconst 0, 1) := by decide +kernel
theorem dX6_close_62 : decode cX6_close 62 = .ok (.aload_n 0, 1) := by decide +kernel
theorem dX6_close_63 : decode cX6_close 63 = .ok (.getfield 16, 3) := by decide +kernel
theorem dX6_close_66 : decode cX6_close 66 = .ok (.iconst 2, 1) := by decide +kernel
theorem dX6_close_67 : decode cX6_close 67 = .ok (.iaload, 1) := by decide +kernel
theorem dX6_close_68 : decode cX6_close 68 = .ok (.invokestatic 49, 3) := by decide +kernel
theorem dX6_close_71 : decode cX6_close 71 = .ok (.ifCond .eq 6, 3) := by decide +kernel
theorem dX6_close_74 : decode cX6_close 74 = .ok (.iinc 5 1, 3) := by decide +kernel
theorem dX6_close_77 : decode cX6_close 77 = .ok (.iinc 6 1, 3) := by decide +kernel
theorem dX6_close_80 : decode cX6_close 80 = .ok (.goto (-33), 3) := by decide +kernel
theorem dX6_close_83 : decode cX6_close 83 = .ok (.iload 5, 2) := by decide +kernel
theorem dX6_close_85 : decode cX6_close 85 = .ok (.iload_n 3, 1) := by decide +kernel
theorem dX6_close_86 : decode cX6_close 86 = .ok (.if_icmp .gt 6, 3) := by decide +kernel
theorem dX6_close_89 : decode cX6_close 89 = .ok (.goto 9, 3) := by decide +kernel
theorem dX6_close_92 : decode cX6_close 92 = .ok (.iload 5, 2) := by decide +kernel
theorem dX6_close_94 : decode cX6_close 94 = .ok (.istore_n 3, 1) := by decide +kernel
theorem dX6_close_95 : decode cX6_close 95 = .ok (.iload 4, 2) := by decide +kernel
theorem dX6_close_97 : decode cX6_close 97 = .ok (.istore_n 2, 1) := by decide +kernel
theorem dX6_close_98 : decode cX6_close 98 = .ok (.iinc 4 1, 3) := by decide +kernel
theorem dX6_close_101 : decode cX6_close 101 = .ok (.goto (-77), 3) := by decide +kernel
theorem dX6_close_104 : decode cX6_close 104 = .ok (.iload_n 1, 1) := by decide +kernel
theorem dX6_close_105 : decode cX6_close 105 = .ok (.ifCond .ne 7, 3) := by decide +kernel
theorem dX6_close_108 : decode cX6_close 108 = .ok (.iload_n 2, 1) := by decide +kernel
theorem dX6_close_109 : decode cX6_close 109 = .ok (.goto 4, 3) := by decide +kernel
theorem dX6_close_112 : decode cX6_close 112 = .ok (.iload_n 3, 1) := by decide +kernel
theorem dX6_close_113 : decode cX6_close 113 = .ok (.ireturn, 1) := by decide +kernel
theorem dX6_row_0 : decode cX6_row 0 = .ok (.iload_n 1, 1) := by decide +kernel
theorem dX6_row_1 : decode cX6_row 1 = .ok (.ifCond .ge 10, 3) := by decide +kernel
theorem dX6_row_4 : decode cX6_row 4 = .ok (.aload_n 0, 1) := by decide +kernel
theorem dX6_row_5 : decode cX6_row 5 = .ok (.bipush (-4), 2) := by decide +kernel
theorem dX6_row_7 : decode cX6_row 7 = .ok (.invokevirtual 53, 3) := by decide +kernel
theorem dX6_row_10 : decode cX6_row 10 = .ok (.ireturn, 1) := by decide +kernel
theorem dX6_row_11 : decode cX6_row 11 = .ok (.iload_n 1, 1) := by decide +kernel
theorem dX6_row_12 : decode cX6_row 12 = .ok (.bipush 99, 2) := by decide +kernel
theorem dX6_row_14 : decode cX6_row 14 = .ok (.if_icmp .gt 12, 3) := by decide +kernel
theorem dX6_row_17 : decode cX6_row 17 = .ok (.aload_n 0, 1) := by decide +kernel
theorem dX6_row_18 : decode cX6_row 18 = .ok (.getfield 177, 3) := by decide +kernel
theorem dX6_row_21 : decode cX6_row 21 = .ok (.bipush 16, 2) := by decide +kernel
theorem dX6_row_23 : decode cX6_row 23 = .ok (.if_icmp .ne 10, 3) := by decide +kernel
theorem dX6_row_26 : decode cX6_row 26 = .ok (.aload_n 0, 1) := by decide +kernel
theorem dX6_row_27 : decode cX6_row 27 = .ok (.bipush (-6), 2) := by decide +kernel
theorem dX6_row_29 : decode cX6_row 29 = .ok (.invokevirtual 53, 3) := by decide +kernel
theorem dX6_row_32 : decode cX6_row 32 = .ok (.ireturn, 1) := by decide +kernel
theorem dX6_row_33 : decode cX6_row 33 = .ok (.aload_n 0, 1) := by decide +kernel
theorem dX6_row_34 : decode cX6_row 34 = .ok (.getfield 25, 3) := by decide +kernel
theorem dX6_row_37 : decode cX6_row 37 = .ok (.aload_n 0, 1) := by decide +kernel
theorem dX6_row_38 : decode cX6_row 38 = .ok (.dup, 1) := by decide +kernel
theorem dX6_row_39 : decode cX6_row 39 = .ok (.getfield 177, 3) := by decide +kernel
theorem dX6_row_42 : decode cX6_row 42 = .ok (.dup_x1, 1) := by decide +kernel
theorem dX6_row_43 : decode cX6_row 43 = .ok (.iconst 1, 1) := by decide +kernel
theorem dX6_row_44 : decode cX6_row 44 = .ok (.iadd, 1) := by decide +kernel
theorem dX6_row_45 : decode cX6_row 45 = .ok (.putfield 177, 3) := by decide +kernel
theorem dX6_row_48 : decode cX6_row 48 = .ok (.iload_n 1, 1) := by decide +kernel
theorem dX6_row_49 : decode cX6_row 49 = .ok (.iastore, 1) := by decide +kernel
theorem dX6_row_50 : decode cX6_row 50 = .ok (.aload_n 0, 1) := by decide +kernel
theorem dX6_row_51 : decode cX6_row 51 = .ok (.getfield 177, 3) := by decide +kernel
theorem dX6_row_54 : decode cX6_row 54 = .ok (.ireturn, 1) := by decide +kernel
theorem dX6_judge_0 : decode cX6_judge 0 = .ok (.iload_n 1, 1) := by decide +kernel
theorem dX6_judge_1 : decode cX6_judge 1 = .ok (.iconst 0, 1) := by decide +kernel
theorem dX6_judge_2 : decode cX6_judge 2 = .ok (.iconst 3, 1) := by decide +kernel
theorem dX6_judge_3 : decode cX6_judge 3 = .ok (.invokestatic 49, 3) := by decide +kernel
theorem dX6_judge_6 : decode cX6_judge 6 = .ok (.ifCond .ne 10, 3) := by decide +kernel
theorem dX6_judge_9 : decode cX6_judge 9 = .ok (.aload_n 0, 1) := by decide +kernel
theorem dX6_judge_10 : decode cX6_judge 10 = .ok (.bipush (-2), 2) := by decide +kernel
theorem dX6_judge_12 : decode cX6_judge 12 = .ok (.invokevirtual 53, 3) := by decide +kernel
theorem dX6_judge_15 : decode cX6_judge 15 = .ok (.ireturn, 1) := by decide +kernel
theorem dX6_judge_16 : decode cX6_judge 16 = .ok (.aload_n 0, 1) := by decide +kernel
theorem dX6_judge_17 : decode cX6_judge 17 = .ok (.getfield 16, 3) := by decide +kernel
theorem dX6_judge_20 : decode cX6_judge 20 = .ok (.iconst 0, 1) := by decide +kernel
theorem dX6_judge_21 : decode cX6_judge 21 = .ok (.iaload, 1) := by decide +kernel
theorem dX6_judge_22 : decode cX6_judge 22 = .ok (.istore_n 2, 1) := by decide +kernel
theorem dX6_judge_23 : decode cX6_judge 23 = .ok (.iconst 0, 1) := by decide +kernel
theorem dX6_judge_24 : decode cX6_judge 24 = .ok (.istore_n 3, 1) := by decide +kernel
theorem dX6_judge_25 : decode cX6_judge 25 = .ok (.bipush (-9), 2) := by decide +kernel
theorem dX6_judge_27 : decode cX6_judge 27 = .ok (.istore 4, 2) := by decide +kernel
theorem dX6_judge_29 : decode cX6_judge 29 = .ok (.iconst 0, 1) := by decide +kernel
theorem dX6_judge_30 : decode cX6_judge 30 = .ok (.istore 5, 2) := by decide +kernel
theorem dX6_judge_32 : decode cX6_judge 32 = .ok (.bipush (-9), 2) := by decide +kernel
theorem dX6_judge_34 : decode cX6_judge 34 = .ok (.istore 6, 2) := by decide +kernel
theorem dX6_judge_36 : decode cX6_judge 36 = .ok (.iconst 0, 1) := by decide +kernel
theorem dX6_judge_37 : decode cX6_judge 37 = .ok (.istore 7, 2) := by decide +kernel
theorem dX6_judge_39 : decode cX6_judge 39 = .ok (.iload 7, 2) := by decide +kernel
theorem dX6_judge_41 : decode cX6_judge 41 = .ok (.aload_n 0, 1) := by decide +kernel
theorem dX6_judge_42 : decode cX6_judge 42 = .ok (.getfield 177, 3) := by decide +kernel
theorem dX6_judge_45 : decode cX6_judge 45 = .ok (.if_icmp .ge 128, 3) := by decide +kernel
theorem dX6_judge_48 : decode cX6_judge 48 = .ok (.iload 6, 2) := by decide +kernel
theorem dX6_judge_50 : decode cX6_judge 50 = .ok (.bipush (-9), 2) := by decide +kernel
theorem dX6_judge_52 : decode cX6_judge 52 = .ok (.if_icmp .ne 121, 3) := by decide +kernel
theorem dX6_judge_55 : decode cX6_judge 55 = .ok (.aload_n 0, 1) := by decide +kernel
theorem dX6_judge_56 : decode cX6_judge 56 = .ok (.getfield 25, 3) := by decide +kernel
theorem dX6_judge_59 : decode cX6_judge 59 = .ok (.iload 7, 2) := by decide +kernel
theorem dX6_judge_61 : decode cX6_judge 61 = .ok (.iaload, 1) := by decide +kernel
theorem dX6_judge_62 : decode cX6_judge 62 = .ok (.iconst 4, 1) := by decide +kernel
theorem dX6_judge_63 : decode cX6_judge 63 = .ok (.if_icmp .ge 17, 3) := by decide +kernel
theorem dX6_judge_66 : decode cX6_judge 66 = .ok (.iload_n 2, 1) := by decide +kernel
theorem dX6_judge_67 : decode cX6_judge 67 = .ok (.aload_n 0, 1) := by decide +kernel
theorem dX6_judge_68 : decode cX6_judge 68 = .ok (.getfield 25, 3) := by decide +kernel
theorem dX6_judge_71 : decode cX6_judge 71 = .ok (.iload 7, 2) := by decide +kernel
theorem dX6_judge_73 : decode cX6_judge 73 = .ok (.iaload, 1) := by decide +kernel
theorem dX6_judge_74 : decode cX6_judge 74 = .ok (.invokestatic 111, 3) := by decide +kernel
theorem dX6_judge_77 : decode cX6_judge 77 = .ok (.goto 5, 3) := by decide +kernel
theorem dX6_judge_80 : decode cX6_judge 80 = .ok (.bipush (-9), 2) := by decide +kernel
theorem dX6_judge_82 : decode cX6_judge 82 = .ok (.istore 8, 2) := by decide +kernel
theorem dX6_judge_84 : decode cX6_judge 84 = .ok (.iload 8, 2) := by decide +kernel
theorem dX6_judge_86 : decode cX6_judge 86 = .ok (.bipush (-9), 2) := by decide +kernel
theorem dX6_judge_88 : decode cX6_judge 88 = .ok (.if_icmp .eq 12, 3) := by decide +kernel
theorem dX6_judge_91 : decode cX6_judge 91 = .ok (.aload_n 0, 1) := by decide +kernel
theorem dX6_judge_92 : decode cX6_judge 92 = .ok (.iload 8, 2) := by decide +kernel
theorem dX6_judge_94 : decode cX6_judge 94 = .ok (.invokevirtual 88, 3) := by decide +kernel
theorem dX6_judge_97 : decode cX6_judge 97 = .ok (.ifCond .ne 10, 3) := by decide +kernel
theorem dX6_judge_100 : decode cX6_judge 100 = .ok (.iload 7, 2) := by decide +kernel
theorem dX6_judge_102 : decode cX6_judge 102 = .ok (.istore 6, 2) := by decide +kernel
theorem dX6_judge_104 : decode cX6_judge 104 = .ok (.goto 63, 3) := by decide +kernel
theorem dX6_judge_107 : decode cX6_judge 107 = .ok (.aload_n 0, 1) := by decide +kernel
theorem dX6_judge_108 : decode cX6_judge 108 = .ok (.getfield 9, 3) := by decide +kernel
theorem dX6_judge_111 : decode cX6_judge 111 = .ok (.iload_n 2, 1) := by decide +kernel
theorem dX6_judge_112 : decode cX6_judge 112 = .ok (.iaload, 1) := by decide +kernel
theorem dX6_judge_113 : decode cX6_judge 113 = .ok (.iconst 3, 1) := by decide +kernel
theorem dX6_judge_114 : decode cX6_judge 114 = .ok (.if_icmp .ne 25, 3) := by decide +kernel
theorem dX6_judge_117 : decode cX6_judge 117 = .ok (.iload 4, 2) := by decide +kernel
theorem dX6_judge_119 : decode cX6_judge 119 = .ok (.bipush (-9), 2) := by decide +kernel
theorem dX6_judge_121 : decode cX6_judge 121 = .ok (.if_icmp .eq 18, 3) := by decide +kernel
theorem dX6_judge_124 : decode cX6_judge 124 = .ok (.iload 4, 2) := by decide +kernel
theorem dX6_judge_126 : decode cX6_judge 126 = .ok (.aload_n 0, 1) := by decide +kernel
theorem dX6_judge_127 : decode cX6_judge 127 = .ok (.getfield 25, 3) := by decide +kernel
theorem dX6_judge_130 : decode cX6_judge 130 = .ok (.iload 7, 2) := by decide +kernel
theorem dX6_judge_132 : decode cX6_judge 132 = .ok (.iaload, 1) := by decide +kernel
theorem dX6_judge_133 : decode cX6_judge 133 = .ok (.if_icmp .eq 6, 3) := by decide +kernel
theorem dX6_judge_136 : decode cX6_judge 136 = .ok (.iconst 1, 1) := by decide +kernel
theorem dX6_judge_137 : decode cX6_judge 137 = .ok (.istore 5, 2) := by decide +kernel
theorem dX6_judge_139 : decode cX6_judge 139 = .ok (.iload_n 3, 1) := by decide +kernel
theorem dX6_judge_140 : decode cX6_judge 140 = .ok (.aload_n 0, 1) := by decide +kernel
theorem dX6_judge_141 : decode cX6_judge 141 = .ok (.iload 8, 2) := by decide +kernel
theorem dX6_judge_143 : decode cX6_judge 143 = .ok (.aload_n 0, 1) := by decide +kernel
theorem dX6_judge_144 : decode cX6_judge 144 = .ok (.getfield 25, 3) := by decide +kernel
theorem dX6_judge_147 : decode cX6_judge 147 = .ok (.iload 7, 2) := by decide +kernel
theorem dX6_judge_149 : decode cX6_judge 149 = .ok (.iaload, 1) := by decide +kernel
theorem dX6_judge_150 : decode cX6_judge 150 = .ok (.invokevirtual 115, 3) := by decide +kernel
theorem dX6_judge_153 : decode cX6_judge 153 = .ok (.iadd, 1) := by decide +kernel
theorem dX6_judge_154 : decode cX6_judge 154 = .ok (.istore_n 3, 1) := by decide +kernel
theorem dX6_judge_155 : decode cX6_judge 155 = .ok (.aload_n 0, 1) := by decide +kernel
theorem dX6_judge_156 : decode cX6_judge 156 = .ok (.getfield 25, 3) := by decide +kernel
theorem dX6_judge_159 : decode cX6_judge 159 = .ok (.iload 7, 2) := by decide +kernel
theorem dX6_judge_161 : decode cX6_judge 161 = .ok (.iaload, 1) := by decide +kernel
theorem dX6_judge_162 : decode cX6_judge 162 = .ok (.istore 4, 2) := by decide +kernel
theorem dX6_judge_164 : decode cX6_judge 164 = .ok (.iload 8, 2) := by decide +kernel
theorem dX6_judge_166 : decode cX6_judge 166 = .ok (.istore_n 2, 1) := by decide +kernel
theorem dX6_judge_167 : decode cX6_judge 167 = .ok (.iinc 7 1, 3) := by decide +kernel
theorem dX6_judge_170 : decode cX6_judge 170 = .ok (.goto (-131), 3) := by decide +kernel
theorem dX6_judge_173 : decode cX6_judge 173 = .ok (.iload_n 1, 1) := by decide +kernel
theorem dX6_judge_174 : decode cX6_judge 174 = .ok (.ifCond .ne 8, 3) := by decide +kernel
theorem dX6_judge_177 : decode cX6_judge 177 = .ok (.iload 6, 2) := by decide +kernel
theorem dX6_judge_179 : decode cX6_judge 179 = .ok (.goto 31, 3) := by decide +kernel
theorem dX6_judge_182 : decode cX6_judge 182 = .ok (.iload_n 1, 1) := by decide +kernel
theorem dX6_judge_183 : decode cX6_judge 183 = .ok (.iconst 1, 1) := by decide +kernel
theorem dX6_judge_184 : decode cX6_judge 184 = .ok (.if_icmp .ne 7, 3) := by decide +kernel
theorem dX6_judge_187 : decode cX6_judge 187 = .ok (.iload_n 2, 1) := by decide +kernel
theorem dX6_judge_188 : decode cX6_judge 188 = .ok (.goto 22, 3) := by decide +kernel
theorem dX6_judge_191 : decode cX6_judge 191 = .ok (.iload_n 1, 1) := by decide +kernel
theorem dX6_judge_192 : decode cX6_judge 192 = .ok (.iconst 2, 1) := by decide +kernel
theorem dX6_judge_193 : decode cX6_judge 193 = .ok (.if_icmp .ne 7, 3) := by decide +kernel
theorem dX6_judge_196 : decode cX6_judge 196 = .ok (.iload_n 3, 1) := by decide +kernel
theorem dX6_judge_197 : decode cX6_judge 197 = .ok (.goto 13, 3) := by decide +kernel
theorem dX6_judge_200 : decode cX6_judge 200 = .ok (.iload 5, 2) := by decide +kernel
theorem dX6_judge_202 : decode cX6_judge 202 = .ok (.ifCond .eq 7, 3) := by decide +kernel
theorem dX6_judge_205 : decode cX6_judge 205 = .ok (.iconst 1, 1) := by decide +kernel
theorem dX6_judge_206 : decode cX6_judge 206 = .ok (.goto 4, 3) := by decide +kernel
theorem dX6_judge_209 : decode cX6_judge 209 = .ok (.iconst 0, 1) := by decide +kernel
theorem dX6_judge_210 : decode cX6_judge 210 = .ok (.ireturn, 1) := by decide +kernel
theorem dX6_fits_0 : decode cX6_fits 0 = .ok (.iload_n 1, 1) := by decide +kernel
theorem dX6_fits_1 : decode cX6_fits 1 = .ok (.iconst 0, 1) := by decide +kernel
theorem dX6_fits_2 : decode cX6_fits 2 = .ok (.iconst 1, 1) := by decide +kernel
theorem dX6_fits_3 : decode cX6_fits 3 = .ok (.invokestatic 49, 3) := by decide +kernel
theorem dX6_fits_6 : decode cX6_fits 6 = .ok (.ifCond .ne 10, 3) := by decide +kernel
theorem dX6_fits_9 : decode cX6_fits 9 = .ok (.aload_n 0, 1) := by decide +kernel
theorem dX6_fits_10 : decode cX6_fits 10 = .ok (.bipush (-2), 2) := by decide +kernel
theorem dX6_fits_12 : decode cX6_fits 12 = .ok (.invokevirtual 53, 3) := by decide +kernel
theorem dX6_fits_15 : decode cX6_fits 15 = .ok (.ireturn, 1) := by decide +kernel
theorem dX6_fits_16 : decode cX6_fits 16 = .ok (.aload_n 0, 1) := by decide +kernel
theorem dX6_fits_17 : decode cX6_fits 17 = .ok (.getfield 177, 3) := by decide +kernel
theorem dX6_fits_20 : decode cX6_fits 20 = .ok (.iconst 2, 1) := by decide +kernel
theorem dX6_fits_21 : decode cX6_fits 21 = .ok (.irem, 1) := by decide +kernel
theorem dX6_fits_22 : decode cX6_fits 22 = .ok (.ifCond .ne 7, 3) := by decide +kernel
theorem dX6_fits_25 : decode cX6_fits 25 = .ok (.iconst 1, 1) := by decide +kernel
theorem dX6_fits_26 : decode cX6_fits 26 = .ok (.goto 4, 3) := by decide +kernel
theorem dX6_fits_29 : decode cX6_fits 29 = .ok (.iconst 0, 1) := by decide +kernel
theorem dX6_fits_30 : decode cX6_fits 30 = .ok (.istore_n 2, 1) := by decide +kernel
theorem dX6_fits_31 : decode cX6_fits 31 = .ok (.iconst 0, 1) := by decide +kernel
theorem dX6_fits_32 : decode cX6_fits 32 = .ok (.istore_n 3, 1) := by decide +kernel
theorem dX6_fits_33 : decode cX6_fits 33 = .ok (.iload_n 3, 1) := by decide +kernel
theorem dX6_fits_34 : decode cX6_fits 34 = .ok (.aload_n 0, 1) := by decide +kernel
theorem dX6_fits_35 : decode cX6_fits 35 = .ok (.getfield 177, 3) := by decide +kernel
theorem dX6_fits_38 : decode cX6_fits 38 = .ok (.if_icmp .ge 21, 3) := by decide +kernel
theorem dX6_fits_41 : decode cX6_fits 41 = .ok (.aload_n 0, 1) := by decide +kernel
theorem dX6_fits_42 : decode cX6_fits 42 = .ok (.getfield 25, 3) := by decide +kernel
theorem dX6_fits_45 : decode cX6_fits 45 = .ok (.iload_n 3, 1) := by decide +kernel
theorem dX6_fits_46 : decode cX6_fits 46 = .ok (.iaload, 1) := by decide +kernel
theorem dX6_fits_47 : decode cX6_fits 47 = .ok (.iconst 5, 1) := by decide +kernel
theorem dX6_fits_48 : decode cX6_fits 48 = .ok (.if_icmp .le 5, 3) := by decide +kernel
theorem dX6_fits_51 : decode cX6_fits 51 = .ok (.iconst 0, 1) := by decide +kernel
theorem dX6_fits_52 : decode cX6_fits 52 = .ok (.istore_n 2, 1) := by decide +kernel
theorem dX6_fits_53 : decode cX6_fits 53 = .ok (.iinc 3 2, 3) := by decide +kernel
theorem dX6_fits_56 : decode cX6_fits 56 = .ok (.goto (-23), 3) := by decide +kernel
theorem dX6_fits_59 : decode cX6_fits 59 = .ok (.iload_n 2, 1) := by decide +kernel
theorem dX6_fits_60 : decode cX6_fits 60 = .ok (.ifCond .ne 10, 3) := by decide +kernel
theorem dX6_fits_63 : decode cX6_fits 63 = .ok (.aload_n 0, 1) := by decide +kernel
theorem dX6_fits_64 : decode cX6_fits 64 = .ok (.bipush (-3), 2) := by decide +kernel
theorem dX6_fits_66 : decode cX6_fits 66 = .ok (.invokevirtual 53, 3) := by decide +kernel
theorem dX6_fits_69 : decode cX6_fits 69 = .ok (.ireturn, 1) := by decide +kernel
theorem dX6_fits_70 : decode cX6_fits 70 = .ok (.aload_n 0, 1) := by decide +kernel
theorem dX6_fits_71 : decode cX6_fits 71 = .ok (.invokevirtual 125, 3) := by decide +kernel
theorem dX6_fits_74 : decode cX6_fits 74 = .ok (.iconst 0, 1) := by decide +kernel
theorem dX6_fits_75 : decode cX6_fits 75 = .ok (.istore_n 3, 1) := by decide +kernel
theorem dX6_fits_76 : decode cX6_fits 76 = .ok (.bipush (-9), 2) := by decide +kernel
theorem dX6_fits_78 : decode cX6_fits 78 = .ok (.istore 4, 2) := by decide +kernel
theorem dX6_fits_80 : decode cX6_fits 80 = .ok (.bipush 35, 2) := by decide +kernel
theorem dX6_fits_82 : decode cX6_fits 82 = .ok (.istore 5, 2) := by decide +kernel
theorem dX6_fits_84 : decode cX6_fits 84 = .ok (.iload 5, 2) := by decide +kernel
theorem dX6_fits_86 : decode cX6_fits 86 = .ok (.ifCond .lt 88, 3) := by decide +kernel
theorem dX6_fits_89 : decode cX6_fits 89 = .ok (.aload_n 0, 1) := by decide +kernel
theorem dX6_fits_90 : decode cX6_fits 90 = .ok (.getfield 13, 3) := by decide +kernel
theorem dX6_fits_93 : decode cX6_fits 93 = .ok (.iload 5, 2) := by decide +kernel
theorem dX6_fits_95 : decode cX6_fits 95 = .ok (.iaload, 1) := by decide +kernel
theorem dX6_fits_96 : decode cX6_fits 96 = .ok (.ifCond .le 7, 3) := by decide +kernel
theorem dX6_fits_99 : decode cX6_fits 99 = .ok (.iconst 1, 1) := by decide +kernel
theorem dX6_fits_100 : decode cX6_fits 100 = .ok (.goto 4, 3) := by decide +kernel
theorem dX6_fits_103 : decode cX6_fits 103 = .ok (.iconst 0, 1) := by decide +kernel
theorem dX6_fits_104 : decode cX6_fits 104 = .ok (.istore 6, 2) := by decide +kernel
theorem dX6_fits_106 : decode cX6_fits 106 = .ok (.iconst 0, 1) := by decide +kernel
theorem dX6_fits_107 : decode cX6_fits 107 = .ok (.istore 7, 2) := by decide +kernel
theorem dX6_fits_109 : decode cX6_fits 109 = .ok (.iload 7, 2) := by decide +kernel
theorem dX6_fits_111 : decode cX6_fits 111 = .ok (.aload_n 0, 1) := by decide +kernel
theorem dX6_fits_112 : decode cX6_fits 112 = .ok (.getfield 177, 3) := by decide +kernel
theorem dX6_fits_115 : decode cX6_fits 115 = .ok (.if_icmp .ge 38, 3) := by decide +kernel
theorem dX6_fits_118 : decode cX6_fits 118 = .ok (.iload 6, 2) := by decide +kernel
theorem dX6_fits_120 : decode cX6_fits 120 = .ok (.ifCond .eq 33, 3) := by decide +kernel
theorem dX6_fits_123 : decode cX6_fits 123 = .ok (.aload_n 0, 1) := by decide +kernel
theorem dX6_fits_124 : decode cX6_fits 124 = .ok (.aload_n 0, 1) := by decide +kernel
theorem dX6_fits_125 : decode cX6_fits 125 = .ok (.getfield 25, 3) := by decide +kernel
theorem dX6_fits_128 : decode cX6_fits 128 = .ok (.iload 7, 2) := by decide +kernel
theorem dX6_fits_130 : decode cX6_fits 130 = .ok (.iaload, 1) := by decide +kernel
theorem dX6_fits_131 : decode cX6_fits 131 = .ok (.aload_n 0, 1) := by decide +kernel
theorem dX6_fits_132 : decode cX6_fits 132 = .ok (.getfield 25, 3) := by decide +kernel
theorem dX6_fits_135 : decode cX6_fits 135 = .ok (.iload 7, 2) := by decide +kernel
theorem dX6_fits_137 : decode cX6_fits 137 = .ok (.iconst 1, 1) := by decide +kernel
theorem dX6_fits_138 : decode cX6_fits 138 = .ok (.iadd, 1) := by decide +kernel
theorem dX6_fits_139 : decode cX6_fits 139 = .ok (.iaload, 1) := by decide +kernel
theorem dX6_fits_140 : decode cX6_fits 140 = .ok (.iload 5, 2) := by decide +kernel
theorem dX6_fits_142 : decode cX6_fits 142 = .ok (.invokevirtual 160, 3) := by decide +kernel
theorem dX6_fits_145 : decode cX6_fits 145 = .ok (.istore 6, 2) := by decide +kernel
theorem dX6_fits_147 : decode cX6_fits 147 = .ok (.iinc 7 2, 3) := by decide +kernel
theorem dX6_fits_150 : decode cX6_fits 150 = .ok (.goto (-41), 3) := by decide +kernel
theorem dX6_fits_153 : decode cX6_fits 153 = .ok (.iload 6, 2) := by decide +kernel
theorem dX6_fits_155 : decode cX6_fits 155 = .ok (.ifCond .ne 6, 3) := by decide +kernel
theorem dX6_fits_158 : decode cX6_fits 158 = .ok (.goto 10, 3) := by decide +kernel
theorem dX6_fits_161 : decode cX6_fits 161 = .ok (.iinc 3 1, 3) := by decide +kernel
theorem dX6_fits_164 : decode cX6_fits 164 = .ok (.iload 5, 2) := by decide +kernel
theorem dX6_fits_166 : decode cX6_fits 166 = .ok (.istore 4, 2) := by decide +kernel
theorem dX6_fits_168 : decode cX6_fits 168 = .ok (.iinc 5 (-1), 3) := by decide +kernel
theorem dX6_fits_171 : decode cX6_fits 171 = .ok (.goto (-87), 3) := by decide +kernel
theorem dX6_fits_174 : decode cX6_fits 174 = .ok (.iload_n 1, 1) := by decide +kernel
theorem dX6_fits_175 : decode cX6_fits 175 = .ok (.ifCond .ne 7, 3) := by decide +kernel
theorem dX6_fits_178 : decode cX6_fits 178 = .ok (.iload_n 3, 1) := by decide +kernel
theorem dX6_fits_179 : decode cX6_fits 179 = .ok (.goto 5, 3) := by decide +kernel
theorem dX6_fits_182 : decode cX6_fits 182 = .ok (.iload 4, 2) := by decide +kernel
theorem dX6_fits_184 : decode cX6_fits 184 = .ok (.ireturn, 1) := by decide +kernel
theorem dX6_clear_0 : decode cX6_clear 0 = .ok (.aload_n 0, 1) := by decide +kernel
theorem dX6_clear_1 : decode cX6_clear 1 = .ok (.getfield 177, 3) := by decide +kernel
theorem dX6_clear_4 : decode cX6_clear 4 = .ok (.istore_n 1, 1) := by decide +kernel
theorem dX6_clear_5 : decode cX6_clear 5 = .ok (.aload_n 0, 1) := by decide +kernel
theorem dX6_clear_6 : decode cX6_clear 6 = .ok (.iconst 0, 1) := by decide +kernel
theorem dX6_clear_7 : decode cX6_clear 7 = .ok (.putfield 177, 3) := by decide +kernel
theorem dX6_clear_10 : decode cX6_clear 10 = .ok (.iload_n 1, 1) := by decide +kernel
theorem dX6_clear_11 : decode cX6_clear 11 = .ok (.ireturn, 1) := by decide +kernel
theorem dX6_lots_0 : decode cX6_lots 0 = .ok (.iload_n 1, 1) := by decide +kernel
theorem dX6_lots_1 : decode cX6_lots 1 = .ok (.iconst 1, 1) := by decide +kernel
theorem dX6_lots_2 : decode cX6_lots 2 = .ok (.if_icmp .ge 10, 3) := by decide +kernel
theorem dX6_lots_5 : decode cX6_lots 5 = .ok (.aload_n 0, 1) := by decide +kernel
theorem dX6_lots_6 : decode cX6_lots 6 = .ok (.bipush (-4), 2) := by decide +kernel
theorem dX6_lots_8 : decode cX6_lots 8 = .ok (.invokevirtual 53, 3) := by decide +kernel
theorem dX6_lots_11 : decode cX6_lots 11 = .ok (.ireturn, 1) := by decide +kernel
theorem dX6_lots_12 : decode cX6_lots 12 = .ok (.iload_n 1, 1) := by decide +kernel
theorem dX6_lots_13 : decode cX6_lots 13 = .ok (.bipush 20, 2) := by decide +kernel
theorem dX6_lots_15 : decode cX6_lots 15 = .ok (.if_icmp .le 10, 3) := by decide +kernel
theorem dX6_lots_18 : decode cX6_lots 18 = .ok (.aload_n 0, 1) := by decide +kernel
theorem dX6_lots_19 : decode cX6_lots 19 = .ok (.bipush (-6), 2) := by decide +kernel
theorem dX6_lots_21 : decode cX6_lots 21 = .ok (.invokevirtual 53, 3) := by decide +kernel
theorem dX6_lots_24 : decode cX6_lots 24 = .ok (.ireturn, 1) := by decide +kernel
theorem dX6_lots_25 : decode cX6_lots 25 = .ok (.iload_n 3, 1) := by decide +kernel
theorem dX6_lots_26 : decode cX6_lots 26 = .ok (.iconst 0, 1) := by decide +kernel
theorem dX6_lots_27 : decode cX6_lots 27 = .ok (.iconst 1, 1) := by decide +kernel
theorem dX6_lots_28 : decode cX6_lots 28 = .ok (.invokestatic 49, 3) := by decide +kernel
theorem dX6_lots_31 : decode cX6_lots 31 = .ok (.ifCond .ne 10, 3) := by decide +kernel
theorem dX6_lots_34 : decode cX6_lots 34 = .ok (.aload_n 0, 1) := by decide +kernel
theorem dX6_lots_35 : decode cX6_lots 35 = .ok (.bipush (-2), 2) := by decide +kernel
theorem dX6_lots_37 : decode cX6_lots 37 = .ok (.invokevirtual 53, 3) := by decide +kernel
theorem dX6_lots_40 : decode cX6_lots 40 = .ok (.ireturn, 1) := by decide +kernel
theorem dX6_lots_41 : decode cX6_lots 41 = .ok (.aload_n 0, 1) := by decide +kernel
theorem dX6_lots_42 : decode cX6_lots 42 = .ok (.invokevirtual 180, 3) := by decide +kernel
theorem dX6_lots_45 : decode cX6_lots 45 = .ok (.istore 4, 2) := by decide +kernel
theorem dX6_lots_47 : decode cX6_lots 47 = .ok (.iload 4, 2) := by decide +kernel
theorem dX6_lots_49 : decode cX6_lots 49 = .ok (.ifCond .ne 10, 3) := by decide +kernel
theorem dX6_lots_52 : decode cX6_lots 52 = .ok (.aload_n 0, 1) := by decide +kernel
theorem dX6_lots_53 : decode cX6_lots 53 = .ok (.bipush (-3), 2) := by decide +kernel
theorem dX6_lots_55 : decode cX6_lots 55 = .ok (.invokevirtual 53, 3) := by decide +kernel
theorem dX6_lots_58 : decode cX6_lots 58 = .ok (.ireturn, 1) := by decide +kernel
theorem dX6_lots_59 : decode cX6_lots 59 = .ok (.aload_n 0, 1) := by decide +kernel
theorem dX6_lots_60 : decode cX6_lots 60 = .ok (.invokevirtual 125, 3) := by decide +kernel
theorem dX6_lots_63 : decode cX6_lots 63 = .ok (.iload_n 2, 1) := by decide +kernel
theorem dX6_lots_64 : decode cX6_lots 64 = .ok (.istore 5, 2) := by decide +kernel
theorem dX6_lots_66 : decode cX6_lots 66 = .ok (.iconst 0, 1) := by decide +kernel
theorem dX6_lots_67 : decode cX6_lots 67 = .ok (.istore 6, 2) := by decide +kernel
theorem dX6_lots_69 : decode cX6_lots 69 = .ok (.iconst 0, 1) := by decide +kernel
theorem dX6_lots_70 : decode cX6_lots 70 = .ok (.istore 7, 2) := by decide +kernel
theorem dX6_lots_72 : decode cX6_lots 72 = .ok (.iconst 0, 1) := by decide +kernel
theorem dX6_lots_73 : decode cX6_lots 73 = .ok (.istore 8, 2) := by decide +kernel
theorem dX6_lots_75 : decode cX6_lots 75 = .ok (.iload 8, 2) := by decide +kernel
theorem dX6_lots_77 : decode cX6_lots 77 = .ok (.iload_n 1, 1) := by decide +kernel
theorem dX6_lots_78 : decode cX6_lots 78 = .ok (.if_icmp .ge 101, 3) := by decide +kernel
theorem dX6_lots_81 : decode cX6_lots 81 = .ok (.iload 5, 2) := by decide +kernel
theorem dX6_lots_83 : decode cX6_lots 83 = .ok (.ldc 183, 2) := by decide +kernel
theorem dX6_lots_85 : decode cX6_lots 85 = .ok (.imul, 1) := by decide +kernel
theorem dX6_lots_86 : decode cX6_lots 86 = .ok (.ldc 184, 2) := by decide +kernel
theorem dX6_lots_88 : decode cX6_lots 88 = .ok (.iadd, 1) := by decide +kernel
theorem dX6_lots_89 : decode cX6_lots 89 = .ok (.istore 5, 2) := by decide +kernel
theorem dX6_lots_91 : decode cX6_lots 91 = .ok (.iload 5, 2) := by decide +kernel
theorem dX6_lots_93 : decode cX6_lots 93 = .ok (.ldc 185, 2) := by decide +kernel
theorem dX6_lots_95 : decode cX6_lots 95 = .ok (.iand, 1) := by decide +kernel
theorem dX6_lots_96 : decode cX6_lots 96 = .ok (.sipush 256, 3) := by decide +kernel
theorem dX6_lots_99 : decode cX6_lots 99 = .ok (.idiv, 1) := by decide +kernel
theorem dX6_lots_100 : decode cX6_lots 100 = .ok (.iload 4, 2) := by decide +kernel
theorem dX6_lots_102 : decode cX6_lots 102 = .ok (.irem, 1) := by decide +kernel
theorem dX6_lots_103 : decode cX6_lots 103 = .ok (.istore 9, 2) := by decide +kernel
theorem dX6_lots_105 : decode cX6_lots 105 = .ok (.iconst 0, 1) := by decide +kernel
theorem dX6_lots_106 : decode cX6_lots 106 = .ok (.istore 10, 2) := by decide +kernel
theorem dX6_lots_108 : decode cX6_lots 108 = .ok (.iload 9, 2) := by decide +kernel
theorem dX6_lots_110 : decode cX6_lots 110 = .ok (.aload_n 0, 1) := by decide +kernel
theorem dX6_lots_111 : decode cX6_lots 111 = .ok (.getfield 13, 3) := by decide +kernel
theorem dX6_lots_114 : decode cX6_lots 114 = .ok (.iload 10, 2) := by decide +kernel
theorem dX6_lots_116 : decode cX6_lots 116 = .ok (.iaload, 1) := by decide +kernel
theorem dX6_lots_117 : decode cX6_lots 117 = .ok (.if_icmp .lt 21, 3) := by decide +kernel
theorem dX6_lots_120 : decode cX6_lots 120 = .ok (.iload 9, 2) := by decide +kernel
theorem dX6_lots_122 : decode cX6_lots 122 = .ok (.aload_n 0, 1) := by decide +kernel
theorem dX6_lots_123 : decode cX6_lots 123 = .ok (.getfield 13, 3) := by decide +kernel
theorem dX6_lots_126 : decode cX6_lots 126 = .ok (.iload 10, 2) := by decide +kernel
theorem dX6_lots_128 : decode cX6_lots 128 = .ok (.iaload, 1) := by decide +kernel
theorem dX6_lots_129 : decode cX6_lots 129 = .ok (.isub, 1) := by decide +kernel
theorem dX6_lots_130 : decode cX6_lots 130 = .ok (.istore 9, 2) := by decide +kernel
theorem dX6_lots_132 : decode cX6_lots 132 = .ok (.iinc 10 1, 3) := by decide +kernel
theorem dX6_lots_135 : decode cX6_lots 135 = .ok (.goto (-27), 3) := by decide +kernel
theorem dX6_lots_138 : decode cX6_lots 138 = .ok (.aload_n 0, 1) := by decide +kernel
theorem dX6_lots_139 : decode cX6_lots 139 = .ok (.iload 10, 2) := by decide +kernel
theorem dX6_lots_141 : decode cX6_lots 141 = .ok (.invokevirtual 143, 3) := by decide +kernel
theorem dX6_lots_144 : decode cX6_lots 144 = .ok (.istore 11, 2) := by decide +kernel
theorem dX6_lots_146 : decode cX6_lots 146 = .ok (.iload 11, 2) := by decide +kernel
theorem dX6_lots_148 : decode cX6_lots 148 = .ok (.bipush (-9), 2) := by decide +kernel
theorem dX6_lots_150 : decode cX6_lots 150 = .ok (.if_icmp .ne 7, 3) := by decide +kernel
theorem dX6_lots_153 : decode cX6_lots 153 = .ok (.bipush 99, 2) := by decide +kernel
theorem dX6_lots_155 : decode cX6_lots 155 = .ok (.istore 11, 2) := by decide +kernel
theorem dX6_lots_157 : decode cX6_lots 157 = .ok (.iload 6, 2) := by decide +kernel
theorem dX6_lots_159 : decode cX6_lots 159 = .ok (.iload 11, 2) := by decide +kernel
theorem dX6_lots_161 : decode cX6_lots 161 = .ok (.iadd, 1) := by decide +kernel
theorem dX6_lots_162 : decode cX6_lots 162 = .ok (.istore 6, 2) := by decide +kernel
theorem dX6_lots_164 : decode cX6_lots 164 = .ok (.iload 7, 2) := by decide +kernel
theorem dX6_lots_166 : decode cX6_lots 166 = .ok (.iload 11, 2) := by decide +kernel
theorem dX6_lots_168 : decode cX6_lots 168 = .ok (.invokestatic 135, 3) := by decide +kernel
theorem dX6_lots_171 : decode cX6_lots 171 = .ok (.istore 7, 2) := by decide +kernel
theorem dX6_lots_173 : decode cX6_lots 173 = .ok (.iinc 8 1, 3) := by decide +kernel
theorem dX6_lots_176 : decode cX6_lots 176 = .ok (.goto (-101), 3) := by decide +kernel
theorem dX6_lots_179 : decode cX6_lots 179 = .ok (.iload_n 3, 1) := by decide +kernel
theorem dX6_lots_180 : decode cX6_lots 180 = .ok (.ifCond .ne 8, 3) := by decide +kernel
theorem dX6_lots_183 : decode cX6_lots 183 = .ok (.iload 6, 2) := by decide +kernel
theorem dX6_lots_185 : decode cX6_lots 185 = .ok (.goto 5, 3) := by decide +kernel
theorem dX6_lots_188 : decode cX6_lots 188 = .ok (.iload 7, 2) := by decide +kernel
theorem dX6_lots_190 : decode cX6_lots 190 = .ok (.ireturn, 1) := by decide +kernel
theorem dX6_keep_0 : decode cX6_keep 0 = .ok (.iconst 0, 1) := by decide +kernel
theorem dX6_keep_1 : decode cX6_keep 1 = .ok (.istore_n 2, 1) := by decide +kernel
theorem dX6_keep_2 : decode cX6_keep 2 = .ok (.iload_n 2, 1) := by decide +kernel
theorem dX6_keep_3 : decode cX6_keep 3 = .ok (.bipush 36, 2) := by decide +kernel
theorem dX6_keep_5 : decode cX6_keep 5 = .ok (.if_icmp .ge 30, 3) := by decide +kernel
theorem dX6_keep_8 : decode cX6_keep 8 = .ok (.aload_n 1, 1) := by decide +kernel
theorem dX6_keep_9 : decode cX6_keep 9 = .ok (.iload_n 2, 1) := by decide +kernel
theorem dX6_keep_10 : decode cX6_keep 10 = .ok (.aload_n 0, 1) := by decide +kernel
theorem dX6_keep_11 : decode cX6_keep 11 = .ok (.getfield 9, 3) := by decide +kernel
theorem dX6_keep_14 : decode cX6_keep 14 = .ok (.iload_n 2, 1) := by decide +kernel
theorem dX6_keep_15 : decode cX6_keep 15 = .ok (.iaload, 1) := by decide +kernel
theorem dX6_keep_16 : decode cX6_keep 16 = .ok (.iastore, 1) := by decide +kernel
theorem dX6_keep_17 : decode cX6_keep 17 = .ok (.aload_n 1, 1) := by decide +kernel
theorem dX6_keep_18 : decode cX6_keep 18 = .ok (.bipush 36, 2) := by decide +kernel
theorem dX6_keep_20 : decode cX6_keep 20 = .ok (.iload_n 2, 1) := by decide +kernel
theorem dX6_keep_21 : decode cX6_keep 21 = .ok (.iadd, 1) := by decide +kernel
theorem dX6_keep_22 : decode cX6_keep 22 = .ok (.aload_n 0, 1) := by decide +kernel
theorem dX6_keep_23 : decode cX6_keep 23 = .ok (.getfield 13, 3) := by decide +kernel
theorem dX6_keep_26 : decode cX6_keep 26 = .ok (.iload_n 2, 1) := by decide +kernel
theorem dX6_keep_27 : decode cX6_keep 27 = .ok (.iaload, 1) := by decide +kernel
theorem dX6_keep_28 : decode cX6_keep 28 = .ok (.iastore, 1) := by decide +kernel
theorem dX6_keep_29 : decode cX6_keep 29 = .ok (.iinc 2 1, 3) := by decide +kernel
theorem dX6_keep_32 : decode cX6_keep 32 = .ok (.goto (-30), 3) := by decide +kernel
theorem dX6_keep_35 : decode cX6_keep 35 = .ok (.iconst 0, 1) := by decide +kernel
theorem dX6_keep_36 : decode cX6_keep 36 = .ok (.istore_n 2, 1) := by decide +kernel
theorem dX6_keep_37 : decode cX6_keep 37 = .ok (.iload_n 2, 1) := by decide +kernel
theorem dX6_keep_38 : decode cX6_keep 38 = .ok (.iconst 5, 1) := by decide +kernel
theorem dX6_keep_39 : decode cX6_keep 39 = .ok (.if_icmp .ge 21, 3) := by decide +kernel
theorem dX6_keep_42 : decode cX6_keep 42 = .ok (.aload_n 1, 1) := by decide +kernel
theorem dX6_keep_43 : decode cX6_keep 43 = .ok (.bipush 72, 2) := by decide +kernel
theorem dX6_keep_45 : decode cX6_keep 45 = .ok (.iload_n 2, 1) := by decide +kernel
theorem dX6_keep_46 : decode cX6_keep 46 = .ok (.iadd, 1) := by decide +kernel
theorem dX6_keep_47 : decode cX6_keep 47 = .ok (.aload_n 0, 1) := by decide +kernel
theorem dX6_keep_48 : decode cX6_keep 48 = .ok (.getfield 16, 3) := by decide +kernel
theorem dX6_keep_51 : decode cX6_keep 51 = .ok (.iload_n 2, 1) := by decide +kernel
theorem dX6_keep_52 : decode cX6_keep 52 = .ok (.iaload, 1) := by decide +kernel
theorem dX6_keep_53 : decode cX6_keep 53 = .ok (.iastore, 1) := by decide +kernel
theorem dX6_keep_54 : decode cX6_keep 54 = .ok (.iinc 2 1, 3) := by decide +kernel
theorem dX6_keep_57 : decode cX6_keep 57 = .ok (.goto (-20), 3) := by decide +kernel
theorem dX6_keep_60 : decode cX6_keep 60 = .ok (.return_, 1) := by decide +kernel
theorem dX6_again_0 : decode cX6_again 0 = .ok (.iconst 0, 1) := by decide +kernel
theorem dX6_again_1 : decode cX6_again 1 = .ok (.istore_n 2, 1) := by decide +kernel
theorem dX6_again_2 : decode cX6_again 2 = .ok (.iload_n 2, 1) := by decide +kernel
theorem dX6_again_3 : decode cX6_again 3 = .ok (.bipush 36, 2) := by decide +kernel
theorem dX6_again_5 : decode cX6_again 5 = .ok (.if_icmp .ge 30, 3) := by decide +kernel
theorem dX6_again_8 : decode cX6_again 8 = .ok (.aload_n 0, 1) := by decide +kernel
theorem dX6_again_9 : decode cX6_again 9 = .ok (.getfield 9, 3) := by decide +kernel
theorem dX6_again_12 : decode cX6_again 12 = .ok (.iload_n 2, 1) := by decide +kernel
theorem dX6_again_13 : decode cX6_again 13 = .ok (.aload_n 1, 1) := by decide +kernel
theorem dX6_again_14 : decode cX6_again 14 = .ok (.iload_n 2, 1) := by decide +kernel
theorem dX6_again_15 : decode cX6_again 15 = .ok (.iaload, 1) := by decide +kernel
theorem dX6_again_16 : decode cX6_again 16 = .ok (.iastore, 1) := by decide +kernel
theorem dX6_again_17 : decode cX6_again 17 = .ok (.aload_n 0, 1) := by decide +kernel
theorem dX6_again_18 : decode cX6_again 18 = .ok (.getfield 13, 3) := by decide +kernel
theorem dX6_again_21 : decode cX6_again 21 = .ok (.iload_n 2, 1) := by decide +kernel
theorem dX6_again_22 : decode cX6_again 22 = .ok (.aload_n 1, 1) := by decide +kernel
theorem dX6_again_23 : decode cX6_again 23 = .ok (.bipush 36, 2) := by decide +kernel
theorem dX6_again_25 : decode cX6_again 25 = .ok (.iload_n 2, 1) := by decide +kernel
theorem dX6_again_26 : decode cX6_again 26 = .ok (.iadd, 1) := by decide +kernel
theorem dX6_again_27 : decode cX6_again 27 = .ok (.iaload, 1) := by decide +kernel
theorem dX6_again_28 : decode cX6_again 28 = .ok (.iastore, 1) := by decide +kernel
theorem dX6_again_29 : decode cX6_again 29 = .ok (.iinc 2 1, 3) := by decide +kernel
theorem dX6_again_32 : decode cX6_again 32 = .ok (.goto (-30), 3) := by decide +kernel
theorem dX6_again_35 : decode cX6_again 35 = .ok (.iconst 0, 1) := by decide +kernel
theorem dX6_again_36 : decode cX6_again 36 = .ok (.istore_n 2, 1) := by decide +kernel
theorem dX6_again_37 : decode cX6_again 37 = .ok (.iload_n 2, 1) := by decide +kernel
theorem dX6_again_38 : decode cX6_again 38 = .ok (.iconst 5, 1) := by decide +kernel
theorem dX6_again_39 : decode cX6_again 39 = .ok (.if_icmp .ge 21, 3) := by decide +kernel
theorem dX6_again_42 : decode cX6_again 42 = .ok (.aload_n 0, 1) := by decide +kernel
theorem dX6_again_43 : decode cX6_again 43 = .ok (.getfield 16, 3) := by decide +kernel
theorem dX6_again_46 : decode cX6_again 46 = .ok (.iload_n 2, 1) := by decide +kernel
theorem dX6_again_47 : decode cX6_again 47 = .ok (.aload_n 1, 1) := by decide +kernel
theorem dX6_again_48 : decode cX6_again 48 = .ok (.bipush 72, 2) := by decide +kernel
theorem dX6_again_50 : decode cX6_again 50 = .ok (.iload_n 2, 1) := by decide +kernel
theorem dX6_again_51 : decode cX6_again 51 = .ok (.iadd, 1) := by decide +kernel
theorem dX6_again_52 : decode cX6_again 52 = .ok (.iaload, 1) := by decide +kernel
theorem dX6_again_53 : decode cX6_again 53 = .ok (.iastore, 1) := by decide +kernel
theorem dX6_again_54 : decode cX6_again 54 = .ok (.iinc 2 1, 3) := by decide +kernel
theorem dX6_again_57 : decode cX6_again 57 = .ok (.goto (-20), 3) := by decide +kernel
theorem dX6_again_60 : decode cX6_again 60 = .ok (.return_, 1) := by decide +kernel
theorem dX6_image_0 : decode cX6_image 0 = .ok (.aload_n 0, 1) := by decide +kernel
theorem dX6_image_1 : decode cX6_image 1 = .ok (.iconst 1, 1) := by decide +kernel
theorem dX6_image_2 : decode cX6_image 2 = .ok (.putfield 186, 3) := by decide +kernel
theorem dX6_image_5 : decode cX6_image 5 = .ok (.aload_n 0, 1) := by decide +kernel
theorem dX6_image_6 : decode cX6_image 6 = .ok (.aload_n 0, 1) := by decide +kernel
theorem dX6_image_7 : decode cX6_image 7 = .ok (.getfield 31, 3) := by decide +kernel
theorem dX6_image_10 : decode cX6_image 10 = .ok (.invokevirtual 101, 3) := by decide +kernel
theorem dX6_image_13 : decode cX6_image 13 = .ok (.aload_n 0, 1) := by decide +kernel
theorem dX6_image_14 : decode cX6_image 14 = .ok (.invokevirtual 140, 3) := by decide +kernel
theorem dX6_image_17 : decode cX6_image 17 = .ok (.ireturn, 1) := by decide +kernel
theorem dX6_on_0 : decode cX6_on 0 = .ok (.aload_n 0, 1) := by decide +kernel
theorem dX6_on_1 : decode cX6_on 1 = .ok (.getfield 186, 3) := by decide +kernel
theorem dX6_on_4 : decode cX6_on 4 = .ok (.ifCond .ne 10, 3) := by decide +kernel
theorem dX6_on_7 : decode cX6_on 7 = .ok (.aload_n 0, 1) := by decide +kernel
theorem dX6_on_8 : decode cX6_on 8 = .ok (.bipush (-3), 2) := by decide +kernel
theorem dX6_on_10 : decode cX6_on 10 = .ok (.invokevirtual 53, 3) := by decide +kernel
theorem dX6_on_13 : decode cX6_on 13 = .ok (.ireturn, 1) := by decide +kernel
theorem dX6_on_14 : decode cX6_on 14 = .ok (.aload_n 0, 1) := by decide +kernel
theorem dX6_on_15 : decode cX6_on 15 = .ok (.aload_n 0, 1) := by decide +kernel
theorem dX6_on_16 : decode cX6_on 16 = .ok (.getfield 31, 3) := by decide +kernel
theorem dX6_on_19 : decode cX6_on 19 = .ok (.invokevirtual 105, 3) := by decide +kernel
theorem dX6_on_22 : decode cX6_on 22 = .ok (.aload_n 0, 1) := by decide +kernel
theorem dX6_on_23 : decode cX6_on 23 = .ok (.invokevirtual 140, 3) := by decide +kernel
theorem dX6_on_26 : decode cX6_on 26 = .ok (.ireturn, 1) := by decide +kernel
theorem dX6_count_0 : decode cX6_count 0 = .ok (.iconst 0, 1) := by decide +kernel
theorem dX6_count_1 : decode cX6_count 1 = .ok (.istore_n 2, 1) := by decide +kernel
theorem dX6_count_2 : decode cX6_count 2 = .ok (.iload_n 1, 1) := by decide +kernel
theorem dX6_count_3 : decode cX6_count 3 = .ok (.tableswitch 109 0 9 #[53, 58, 63, 63, 63, 63, 63, 72, 99, 104], 53) := by decide +kernel
theorem dX6_count_56 : decode cX6_count 56 = .ok (.aload_n 0, 1) := by decide +kernel
theorem dX6_count_57 : decode cX6_count 57 = .ok (.invokevirtual 140, 3) := by decide +kernel
theorem dX6_count_60 : decode cX6_count 60 = .ok (.ireturn, 1) := by decide +kernel
theorem dX6_count_61 : decode cX6_count 61 = .ok (.aload_n 0, 1) := by decide +kernel
theorem dX6_count_62 : decode cX6_count 62 = .ok (.invokevirtual 180, 3) := by decide +kernel
theorem dX6_count_65 : decode cX6_count 65 = .ok (.ireturn, 1) := by decide +kernel
theorem dX6_count_66 : decode cX6_count 66 = .ok (.aload_n 0, 1) := by decide +kernel
theorem dX6_count_67 : decode cX6_count 67 = .ok (.getfield 16, 3) := by decide +kernel
theorem dX6_count_70 : decode cX6_count 70 = .ok (.iload_n 1, 1) := by decide +kernel
theorem dX6_count_71 : decode cX6_count 71 = .ok (.iconst 2, 1) := by decide +kernel
theorem dX6_count_72 : decode cX6_count 72 = .ok (.isub, 1) := by decide +kernel
theorem dX6_count_73 : decode cX6_count 73 = .ok (.iaload, 1) := by decide +kernel
theorem dX6_count_74 : decode cX6_count 74 = .ok (.ireturn, 1) := by decide +kernel
theorem dX6_count_75 : decode cX6_count 75 = .ok (.iconst 0, 1) := by decide +kernel
theorem dX6_count_76 : decode cX6_count 76 = .ok (.istore_n 3, 1) := by decide +kernel
theorem dX6_count_77 : decode cX6_count 77 = .ok (.iload_n 3, 1) := by decide +kernel
theorem dX6_count_78 : decode cX6_count 78 = .ok (.bipush 36, 2) := by decide +kernel
theorem dX6_count_80 : decode cX6_count 80 = .ok (.if_icmp .ge 20, 3) := by decide +kernel
theorem dX6_count_83 : decode cX6_count 83 = .ok (.aload_n 0, 1) := by decide +kernel
theorem dX6_count_84 : decode cX6_count 84 = .ok (.iload_n 3, 1) := by decide +kernel
theorem dX6_count_85 : decode cX6_count 85 = .ok (.invokevirtual 88, 3) := by decide +kernel
theorem dX6_count_88 : decode cX6_count 88 = .ok (.ifCond .eq 6, 3) := by decide +kernel
theorem dX6_count_91 : decode cX6_count 91 = .ok (.iinc 2 1, 3) := by decide +kernel
theorem dX6_count_94 : decode cX6_count 94 = .ok (.iinc 3 1, 3) := by decide +kernel
theorem dX6_count_97 : decode cX6_count 97 = .ok (.goto (-20), 3) := by decide +kernel
theorem dX6_count_100 : decode cX6_count 100 = .ok (.iload_n 2, 1) := by decide +kernel
theorem dX6_count_101 : decode cX6_count 101 = .ok (.ireturn, 1) := by decide +kernel
theorem dX6_count_102 : decode cX6_count 102 = .ok (.aload_n 0, 1) := by decide +kernel
theorem dX6_count_103 : decode cX6_count 103 = .ok (.getfield 177, 3) := by decide +kernel
theorem dX6_count_106 : decode cX6_count 106 = .ok (.ireturn, 1) := by decide +kernel
theorem dX6_count_107 : decode cX6_count 107 = .ok (.aload_n 0, 1) := by decide +kernel
theorem dX6_count_108 : decode cX6_count 108 = .ok (.getfield 57, 3) := by decide +kernel
theorem dX6_count_111 : decode cX6_count 111 = .ok (.ireturn, 1) := by decide +kernel
theorem dX6_count_112 : decode cX6_count 112 = .ok (.iload_n 1, 1) := by decide +kernel
theorem dX6_count_113 : decode cX6_count 113 = .ok (.bipush 11, 2) := by decide +kernel
theorem dX6_count_115 : decode cX6_count 115 = .ok (.bipush 16, 2) := by decide +kernel
theorem dX6_count_117 : decode cX6_count 117 = .ok (.invokestatic 49, 3) := by decide +kernel
theorem dX6_count_120 : decode cX6_count 120 = .ok (.ifCond .eq 15, 3) := by decide +kernel
theorem dX6_count_123 : decode cX6_count 123 = .ok (.aload_n 0, 1) := by decide +kernel
theorem dX6_count_124 : decode cX6_count 124 = .ok (.getfield 28, 3) := by decide +kernel
theorem dX6_count_127 : decode cX6_count 127 = .ok (.iload_n 1, 1) := by decide +kernel
theorem dX6_count_128 : decode cX6_count 128 = .ok (.bipush 10, 2) := by decide +kernel
theorem dX6_count_130 : decode cX6_count 130 = .ok (.isub, 1) := by decide +kernel
theorem dX6_count_131 : decode cX6_count 131 = .ok (.iaload, 1) := by decide +kernel
theorem dX6_count_132 : decode cX6_count 132 = .ok (.goto 5, 3) := by decide +kernel
theorem dX6_count_135 : decode cX6_count 135 = .ok (.bipush (-9), 2) := by decide +kernel
theorem dX6_count_137 : decode cX6_count 137 = .ok (.ireturn, 1) := by decide +kernel
