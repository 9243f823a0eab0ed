theorem dX0_init_0 : decode cX0_init 0 = .ok (.aload_n 0, 1) := by decide +kernel
theorem dX0_init_1 : decode cX0_init 1 = .ok (.invokespecial 3, 3) := by decide +kernel
theorem dX0_init_4 : decode cX0_init 4 = .ok (.aload_n 0, 1) := by decide +kernel
theorem dX0_init_5 : decode cX0_init 5 = .ok (.bipush 36, 2) := by decide +kernel
theorem dX0_init_7 : decode cX0_init 7 = .ok (.newarray .int, 2) := by decide +kernel
theorem dX0_init_9 : decode cX0_init 9 = .ok (.putfield 9, 3) := by decide +kernel
theorem dX0_init_12 : decode cX0_init 12 = .ok (.aload_n 0, 1) := by decide +kernel
theorem dX0_init_13 : decode cX0_init 13 = .ok (.bipush 36, 2) := by decide +kernel
theorem dX0_init_15 : decode cX0_init 15 = .ok (.newarray .int, 2) := by decide +kernel
theorem dX0_init_17 : decode cX0_init 17 = .ok (.putfield 15, 3) := by decide +kernel
theorem dX0_init_20 : decode cX0_init 20 = .ok (.aload_n 0, 1) := by decide +kernel
theorem dX0_init_21 : decode cX0_init 21 = .ok (.bipush 36, 2) := by decide +kernel
theorem dX0_init_23 : decode cX0_init 23 = .ok (.newarray .boolean, 2) := by decide +kernel
theorem dX0_init_25 : decode cX0_init 25 = .ok (.putfield 18, 3) := by decide +kernel
theorem dX0_init_28 : decode cX0_init 28 = .ok (.return_, 1) := by decide +kernel
theorem dX0_searchFrom_0 : decode cX0_searchFrom 0 = .ok (.aload_n 0, 1) := by decide +kernel
theorem dX0_searchFrom_1 : decode cX0_searchFrom 1 = .ok (.invokevirtual 22, 3) := by decide +kernel
theorem dX0_searchFrom_4 : decode cX0_searchFrom 4 = .ok (.iload_n 2, 1) := by decide +kernel
theorem dX0_searchFrom_5 : decode cX0_searchFrom 5 = .ok (.invokestatic 25, 3) := by decide +kernel
theorem dX0_searchFrom_8 : decode cX0_searchFrom 8 = .ok (.ifCond .eq 11, 3) := by decide +kernel
theorem dX0_searchFrom_11 : decode cX0_searchFrom 11 = .ok (.aload_n 1, 1) := by decide +kernel
theorem dX0_searchFrom_12 : decode cX0_searchFrom 12 = .ok (.iload_n 2, 1) := by decide +kernel
theorem dX0_searchFrom_13 : decode cX0_searchFrom 13 = .ok (.invokevirtual 29, 3) := by decide +kernel
theorem dX0_searchFrom_16 : decode cX0_searchFrom 16 = .ok (.ifCond .ne 4, 3) := by decide +kernel
theorem dX0_searchFrom_19 : decode cX0_searchFrom 19 = .ok (.return_, 1) := by decide +kernel
theorem dX0_searchFrom_20 : decode cX0_searchFrom 20 = .ok (.aload_n 0, 1) := by decide +kernel
theorem dX0_searchFrom_21 : decode cX0_searchFrom 21 = .ok (.getfield 9, 3) := by decide +kernel
theorem dX0_searchFrom_24 : decode cX0_searchFrom 24 = .ok (.iload_n 2, 1) := by decide +kernel
theorem dX0_searchFrom_25 : decode cX0_searchFrom 25 = .ok (.iconst 0, 1) := by decide +kernel
theorem dX0_searchFrom_26 : decode cX0_searchFrom 26 = .ok (.iastore, 1) := by decide +kernel
theorem dX0_searchFrom_27 : decode cX0_searchFrom 27 = .ok (.aload_n 0, 1) := by decide +kernel
theorem dX0_searchFrom_28 : decode cX0_searchFrom 28 = .ok (.aload_n 1, 1) := by decide +kernel
theorem dX0_searchFrom_29 : decode cX0_searchFrom 29 = .ok (.invokevirtual 34, 3) := by decide +kernel
theorem dX0_searchFrom_32 : decode cX0_searchFrom 32 = .ok (.return_, 1) := by decide +kernel
theorem dX0_searchShaken_0 : decode cX0_searchShaken 0 = .ok (.aload_n 0, 1) := by decide +kernel
theorem dX0_searchShaken_1 : decode cX0_searchShaken 1 = .ok (.aload_n 1, 1) := by decide +kernel
theorem dX0_searchShaken_2 : decode cX0_searchShaken 2 = .ok (.aload_n 1, 1) := by decide +kernel
theorem dX0_searchShaken_3 : decode cX0_searchShaken 3 = .ok (.iconst 0, 1) := by decide +kernel
theorem dX0_searchShaken_4 : decode cX0_searchShaken 4 = .ok (.invokevirtual 38, 3) := by decide +kernel
theorem dX0_searchShaken_7 : decode cX0_searchShaken 7 = .ok (.invokevirtual 42, 3) := by decide +kernel
theorem dX0_searchShaken_10 : decode cX0_searchShaken 10 = .ok (.aload_n 0, 1) := by decide +kernel
theorem dX0_searchShaken_11 : decode cX0_searchShaken 11 = .ok (.getfield 9, 3) := by decide +kernel
theorem dX0_searchShaken_14 : decode cX0_searchShaken 14 = .ok (.iconst 0, 1) := by decide +kernel
theorem dX0_searchShaken_15 : decode cX0_searchShaken 15 = .ok (.aload_n 0, 1) := by decide +kernel
theorem dX0_searchShaken_16 : decode cX0_searchShaken 16 = .ok (.getfield 15, 3) := by decide +kernel
theorem dX0_searchShaken_19 : decode cX0_searchShaken 19 = .ok (.iconst 0, 1) := by decide +kernel
theorem dX0_searchShaken_20 : decode cX0_searchShaken 20 = .ok (.bipush 36, 2) := by decide +kernel
theorem dX0_searchShaken_22 : decode cX0_searchShaken 22 = .ok (.invokestatic 46, 3) := by decide +kernel
theorem dX0_searchShaken_25 : decode cX0_searchShaken 25 = .ok (.aload_n 0, 1) := by decide +kernel
theorem dX0_searchShaken_26 : decode cX0_searchShaken 26 = .ok (.invokevirtual 22, 3) := by decide +kernel
theorem dX0_searchShaken_29 : decode cX0_searchShaken 29 = .ok (.iconst 0, 1) := by decide +kernel
theorem dX0_searchShaken_30 : decode cX0_searchShaken 30 = .ok (.istore_n 2, 1) := by decide +kernel
theorem dX0_searchShaken_31 : decode cX0_searchShaken 31 = .ok (.iload_n 2, 1) := by decide +kernel
theorem dX0_searchShaken_32 : decode cX0_searchShaken 32 = .ok (.bipush 36, 2) := by decide +kernel
theorem dX0_searchShaken_34 : decode cX0_searchShaken 34 = .ok (.if_icmp .ge 94, 3) := by decide +kernel
theorem dX0_searchShaken_37 : decode cX0_searchShaken 37 = .ok (.iconst 0, 1) := by decide +kernel
theorem dX0_searchShaken_38 : decode cX0_searchShaken 38 = .ok (.istore_n 3, 1) := by decide +kernel
theorem dX0_searchShaken_39 : decode cX0_searchShaken 39 = .ok (.iload_n 3, 1) := by decide +kernel
theorem dX0_searchShaken_40 : decode cX0_searchShaken 40 = .ok (.iconst 4, 1) := by decide +kernel
theorem dX0_searchShaken_41 : decode cX0_searchShaken 41 = .ok (.if_icmp .ge 81, 3) := by decide +kernel
theorem dX0_searchShaken_44 : decode cX0_searchShaken 44 = .ok (.iload_n 2, 1) := by decide +kernel
theorem dX0_searchShaken_45 : decode cX0_searchShaken 45 = .ok (.iload_n 3, 1) := by decide +kernel
theorem dX0_searchShaken_46 : decode cX0_searchShaken 46 = .ok (.invokestatic 52, 3) := by decide +kernel
theorem dX0_searchShaken_49 : decode cX0_searchShaken 49 = .ok (.istore 4, 2) := by decide +kernel
theorem dX0_searchShaken_51 : decode cX0_searchShaken 51 = .ok (.aload_n 1, 1) := by decide +kernel
theorem dX0_searchShaken_52 : decode cX0_searchShaken 52 = .ok (.iload_n 2, 1) := by decide +kernel
theorem dX0_searchShaken_53 : decode cX0_searchShaken 53 = .ok (.iload_n 3, 1) := by decide +kernel
theorem dX0_searchShaken_54 : decode cX0_searchShaken 54 = .ok (.invokevirtual 56, 3) := by decide +kernel
theorem dX0_searchShaken_57 : decode cX0_searchShaken 57 = .ok (.istore 5, 2) := by decide +kernel
theorem dX0_searchShaken_59 : decode cX0_searchShaken 59 = .ok (.aload_n 0, 1) := by decide +kernel
theorem dX0_searchShaken_60 : decode cX0_searchShaken 60 = .ok (.getfield 15, 3) := by decide +kernel
theorem dX0_searchShaken_63 : decode cX0_searchShaken 63 = .ok (.iload_n 2, 1) := by decide +kernel
theorem dX0_searchShaken_64 : decode cX0_searchShaken 64 = .ok (.iaload, 1) := by decide +kernel
theorem dX0_searchShaken_65 : decode cX0_searchShaken 65 = .ok (.ldc 59, 2) := by decide +kernel
theorem dX0_searchShaken_67 : decode cX0_searchShaken 67 = .ok (.if_icmp .ge 14, 3) := by decide +kernel
theorem dX0_searchShaken_70 : decode cX0_searchShaken 70 = .ok (.iload 5, 2) := by decide +kernel
theorem dX0_searchShaken_72 : decode cX0_searchShaken 72 = .ok (.bipush (-9), 2) := by decide +kernel
theorem dX0_searchShaken_74 : decode cX0_searchShaken 74 = .ok (.if_icmp .eq 7, 3) := by decide +kernel
theorem dX0_searchShaken_77 : decode cX0_searchShaken 77 = .ok (.iconst 1, 1) := by decide +kernel
theorem dX0_searchShaken_78 : decode cX0_searchShaken 78 = .ok (.goto 4, 3) := by decide +kernel
theorem dX0_searchShaken_81 : decode cX0_searchShaken 81 = .ok (.iconst 0, 1) := by decide +kernel
theorem dX0_searchShaken_82 : decode cX0_searchShaken 82 = .ok (.istore 6, 2) := by decide +kernel
theorem dX0_searchShaken_84 : decode cX0_searchShaken 84 = .ok (.iload 6, 2) := by decide +kernel
theorem dX0_searchShaken_86 : decode cX0_searchShaken 86 = .ok (.ifCond .eq 30, 3) := by decide +kernel
theorem dX0_searchShaken_89 : decode cX0_searchShaken 89 = .ok (.aload_n 1, 1) := by decide +kernel
theorem dX0_searchShaken_90 : decode cX0_searchShaken 90 = .ok (.iload 4, 2) := by decide +kernel
theorem dX0_searchShaken_92 : decode cX0_searchShaken 92 = .ok (.invokevirtual 60, 3) := by decide +kernel
theorem dX0_searchShaken_95 : decode cX0_searchShaken 95 = .ok (.iconst 3, 1) := by decide +kernel
theorem dX0_searchShaken_96 : decode cX0_searchShaken 96 = .ok (.if_icmp .ne 20, 3) := by decide +kernel
theorem dX0_searchShaken_99 : decode cX0_searchShaken 99 = .ok (.aload_n 0, 1) := by decide +kernel
theorem dX0_searchShaken_100 : decode cX0_searchShaken 100 = .ok (.aload_n 1, 1) := by decide +kernel
theorem dX0_searchShaken_101 : decode cX0_searchShaken 101 = .ok (.iload 4, 2) := by decide +kernel
theorem dX0_searchShaken_103 : decode cX0_searchShaken 103 = .ok (.iload_n 3, 1) := by decide +kernel
theorem dX0_searchShaken_104 : decode cX0_searchShaken 104 = .ok (.aload_n 0, 1) := by decide +kernel
theorem dX0_searchShaken_105 : decode cX0_searchShaken 105 = .ok (.getfield 15, 3) := by decide +kernel
theorem dX0_searchShaken_108 : decode cX0_searchShaken 108 = .ok (.iload_n 2, 1) := by decide +kernel
theorem dX0_searchShaken_109 : decode cX0_searchShaken 109 = .ok (.iaload, 1) := by decide +kernel
theorem dX0_searchShaken_110 : decode cX0_searchShaken 110 = .ok (.iload 5, 2) := by decide +kernel
theorem dX0_searchShaken_112 : decode cX0_searchShaken 112 = .ok (.iadd, 1) := by decide +kernel
theorem dX0_searchShaken_113 : decode cX0_searchShaken 113 = .ok (.invokevirtual 63, 3) := by decide +kernel
theorem dX0_searchShaken_116 : decode cX0_searchShaken 116 = .ok (.iinc 3 1, 3) := by decide +kernel
theorem dX0_searchShaken_119 : decode cX0_searchShaken 119 = .ok (.goto (-80), 3) := by decide +kernel
theorem dX0_searchShaken_122 : decode cX0_searchShaken 122 = .ok (.iinc 2 1, 3) := by decide +kernel
theorem dX0_searchShaken_125 : decode cX0_searchShaken 125 = .ok (.goto (-94), 3) := by decide +kernel
theorem dX0_searchShaken_128 : decode cX0_searchShaken 128 = .ok (.aload_n 0, 1) := by decide +kernel
theorem dX0_searchShaken_129 : decode cX0_searchShaken 129 = .ok (.aload_n 1, 1) := by decide +kernel
theorem dX0_searchShaken_130 : decode cX0_searchShaken 130 = .ok (.invokevirtual 34, 3) := by decide +kernel
theorem dX0_searchShaken_133 : decode cX0_searchShaken 133 = .ok (.return_, 1) := by decide +kernel
theorem dX0_offerTurns_0 : decode cX0_offerTurns 0 = .ok (.iconst 0, 1) := by decide +kernel
theorem dX0_offerTurns_1 : decode cX0_offerTurns 1 = .ok (.istore 5, 2) := by decide +kernel
theorem dX0_offerTurns_3 : decode cX0_offerTurns 3 = .ok (.iload 5, 2) := by decide +kernel
theorem dX0_offerTurns_5 : decode cX0_offerTurns 5 = .ok (.iconst 4, 1) := by decide +kernel
theorem dX0_offerTurns_6 : decode cX0_offerTurns 6 = .ok (.if_icmp .ge 46, 3) := by decide +kernel
theorem dX0_offerTurns_9 : decode cX0_offerTurns 9 = .ok (.aload_n 1, 1) := by decide +kernel
theorem dX0_offerTurns_10 : decode cX0_offerTurns 10 = .ok (.iload_n 2, 1) := by decide +kernel
theorem dX0_offerTurns_11 : decode cX0_offerTurns 11 = .ok (.iload 5, 2) := by decide +kernel
theorem dX0_offerTurns_13 : decode cX0_offerTurns 13 = .ok (.invokevirtual 56, 3) := by decide +kernel
theorem dX0_offerTurns_16 : decode cX0_offerTurns 16 = .ok (.istore 6, 2) := by decide +kernel
theorem dX0_offerTurns_18 : decode cX0_offerTurns 18 = .ok (.iload 5, 2) := by decide +kernel
theorem dX0_offerTurns_20 : decode cX0_offerTurns 20 = .ok (.iload_n 3, 1) := by decide +kernel
theorem dX0_offerTurns_21 : decode cX0_offerTurns 21 = .ok (.if_icmp .eq 25, 3) := by decide +kernel
theorem dX0_offerTurns_24 : decode cX0_offerTurns 24 = .ok (.iload 6, 2) := by decide +kernel
theorem dX0_offerTurns_26 : decode cX0_offerTurns 26 = .ok (.bipush (-9), 2) := by decide +kernel
theorem dX0_offerTurns_28 : decode cX0_offerTurns 28 = .ok (.if_icmp .eq 18, 3) := by decide +kernel
theorem dX0_offerTurns_31 : decode cX0_offerTurns 31 = .ok (.aload_n 0, 1) := by decide +kernel
theorem dX0_offerTurns_32 : decode cX0_offerTurns 32 = .ok (.iload_n 2, 1) := by decide +kernel
theorem dX0_offerTurns_33 : decode cX0_offerTurns 33 = .ok (.iload 5, 2) := by decide +kernel
theorem dX0_offerTurns_35 : decode cX0_offerTurns 35 = .ok (.invokestatic 52, 3) := by decide +kernel
theorem dX0_offerTurns_38 : decode cX0_offerTurns 38 = .ok (.iload 4, 2) := by decide +kernel
theorem dX0_offerTurns_40 : decode cX0_offerTurns 40 = .ok (.iload 6, 2) := by decide +kernel
theorem dX0_offerTurns_42 : decode cX0_offerTurns 42 = .ok (.iadd, 1) := by decide +kernel
theorem dX0_offerTurns_43 : decode cX0_offerTurns 43 = .ok (.invokevirtual 67, 3) := by decide +kernel
theorem dX0_offerTurns_46 : decode cX0_offerTurns 46 = .ok (.iinc 5 1, 3) := by decide +kernel
theorem dX0_offerTurns_49 : decode cX0_offerTurns 49 = .ok (.goto (-46), 3) := by decide +kernel
theorem dX0_offerTurns_52 : decode cX0_offerTurns 52 = .ok (.return_, 1) := by decide +kernel
theorem dX0_forget_0 : decode cX0_forget 0 = .ok (.iconst 0, 1) := by decide +kernel
theorem dX0_forget_1 : decode cX0_forget 1 = .ok (.istore_n 1, 1) := by decide +kernel
theorem dX0_forget_2 : decode cX0_forget 2 = .ok (.iload_n 1, 1) := by decide +kernel
theorem dX0_forget_3 : decode cX0_forget 3 = .ok (.bipush 36, 2) := by decide +kernel
theorem dX0_forget_5 : decode cX0_forget 5 = .ok (.if_icmp .ge 24, 3) := by decide +kernel
theorem dX0_forget_8 : decode cX0_forget 8 = .ok (.aload_n 0, 1) := by decide +kernel
theorem dX0_forget_9 : decode cX0_forget 9 = .ok (.getfield 9, 3) := by decide +kernel
theorem dX0_forget_12 : decode cX0_forget 12 = .ok (.iload_n 1, 1) := by decide +kernel
theorem dX0_forget_13 : decode cX0_forget 13 = .ok (.ldc 59, 2) := by decide +kernel
theorem dX0_forget_15 : decode cX0_forget 15 = .ok (.iastore, 1) := by decide +kernel
theorem dX0_forget_16 : decode cX0_forget 16 = .ok (.aload_n 0, 1) := by decide +kernel
theorem dX0_forget_17 : decode cX0_forget 17 = .ok (.getfield 18, 3) := by decide +kernel
theorem dX0_forget_20 : decode cX0_forget 20 = .ok (.iload_n 1, 1) := by decide +kernel
theorem dX0_forget_21 : decode cX0_forget 21 = .ok (.iconst 0, 1) := by decide +kernel
theorem dX0_forget_22 : decode cX0_forget 22 = .ok (.bastore, 1) := by decide +kernel
theorem dX0_forget_23 : decode cX0_forget 23 = .ok (.iinc 1 1, 3) := by decide +kernel
theorem dX0_forget_26 : decode cX0_forget 26 = .ok (.goto (-24), 3) := by decide +kernel
theorem dX0_forget_29 : decode cX0_forget 29 = .ok (.return_, 1) := by decide +kernel
theorem dX0_offer_0 : decode cX0_offer 0 = .ok (.iload_n 1, 1) := by decide +kernel
theorem dX0_offer_1 : decode cX0_offer 1 = .ok (.ifCond .lt 26, 3) := by decide +kernel
theorem dX0_offer_4 : decode cX0_offer 4 = .ok (.iload_n 1, 1) := by decide +kernel
theorem dX0_offer_5 : decode cX0_offer 5 = .ok (.bipush 36, 2) := by decide +kernel
theorem dX0_offer_7 : decode cX0_offer 7 = .ok (.if_icmp .ge 20, 3) := by decide +kernel
theorem dX0_offer_10 : decode cX0_offer 10 = .ok (.iload_n 2, 1) := by decide +kernel
theorem dX0_offer_11 : decode cX0_offer 11 = .ok (.aload_n 0, 1) := by decide +kernel
theorem dX0_offer_12 : decode cX0_offer 12 = .ok (.getfield 9, 3) := by decide +kernel
theorem dX0_offer_15 : decode cX0_offer 15 = .ok (.iload_n 1, 1) := by decide +kernel
theorem dX0_offer_16 : decode cX0_offer 16 = .ok (.iaload, 1) := by decide +kernel
theorem dX0_offer_17 : decode cX0_offer 17 = .ok (.if_icmp .ge 10, 3) := by decide +kernel
theorem dX0_offer_20 : decode cX0_offer 20 = .ok (.aload_n 0, 1) := by decide +kernel
theorem dX0_offer_21 : decode cX0_offer 21 = .ok (.getfield 9, 3) := by decide +kernel
theorem dX0_offer_24 : decode cX0_offer 24 = .ok (.iload_n 1, 1) := by decide +kernel
theorem dX0_offer_25 : decode cX0_offer 25 = .ok (.iload_n 2, 1) := by decide +kernel
theorem dX0_offer_26 : decode cX0_offer 26 = .ok (.iastore, 1) := by decide +kernel
theorem dX0_offer_27 : decode cX0_offer 27 = .ok (.return_, 1) := by decide +kernel
theorem dX0_spread_0 : decode cX0_spread 0 = .ok (.iconst 0, 1) := by decide +kernel
theorem dX0_spread_1 : decode cX0_spread 1 = .ok (.istore_n 2, 1) := by decide +kernel
theorem dX0_spread_2 : decode cX0_spread 2 = .ok (.iload_n 2, 1) := by decide +kernel
theorem dX0_spread_3 : decode cX0_spread 3 = .ok (.bipush 36, 2) := by decide +kernel
theorem dX0_spread_5 : decode cX0_spread 5 = .ok (.if_icmp .ge 79, 3) := by decide +kernel
theorem dX0_spread_8 : decode cX0_spread 8 = .ok (.aload_n 0, 1) := by decide +kernel
theorem dX0_spread_9 : decode cX0_spread 9 = .ok (.invokevirtual 71, 3) := by decide +kernel
theorem dX0_spread_12 : decode cX0_spread 12 = .ok (.istore_n 3, 1) := by decide +kernel
theorem dX0_spread_13 : decode cX0_spread 13 = .ok (.iload_n 3, 1) := by decide +kernel
theorem dX0_spread_14 : decode cX0_spread 14 = .ok (.invokestatic 25, 3) := by decide +kernel
theorem dX0_spread_17 : decode cX0_spread 17 = .ok (.ifCond .ne 4, 3) := by decide +kernel
theorem dX0_spread_20 : decode cX0_spread 20 = .ok (.return_, 1) := by decide +kernel
theorem dX0_spread_21 : decode cX0_spread 21 = .ok (.aload_n 0, 1) := by decide +kernel
theorem dX0_spread_22 : decode cX0_spread 22 = .ok (.getfield 18, 3) := by decide +kernel
theorem dX0_spread_25 : decode cX0_spread 25 = .ok (.iload_n 3, 1) := by decide +kernel
theorem dX0_spread_26 : decode cX0_spread 26 = .ok (.iconst 1, 1) := by decide +kernel
theorem dX0_spread_27 : decode cX0_spread 27 = .ok (.bastore, 1) := by decide +kernel
theorem dX0_spread_28 : decode cX0_spread 28 = .ok (.iconst 0, 1) := by decide +kernel
theorem dX0_spread_29 : decode cX0_spread 29 = .ok (.istore 4, 2) := by decide +kernel
theorem dX0_spread_31 : decode cX0_spread 31 = .ok (.iload 4, 2) := by decide +kernel
theorem dX0_spread_33 : decode cX0_spread 33 = .ok (.iconst 4, 1) := by decide +kernel
theorem dX0_spread_34 : decode cX0_spread 34 = .ok (.if_icmp .ge 44, 3) := by decide +kernel
theorem dX0_spread_37 : decode cX0_spread 37 = .ok (.aload_n 1, 1) := by decide +kernel
theorem dX0_spread_38 : decode cX0_spread 38 = .ok (.iload_n 3, 1) := by decide +kernel
theorem dX0_spread_39 : decode cX0_spread 39 = .ok (.iload 4, 2) := by decide +kernel
theorem dX0_spread_41 : decode cX0_spread 41 = .ok (.invokevirtual 56, 3) := by decide +kernel
theorem dX0_spread_44 : decode cX0_spread 44 = .ok (.istore 5, 2) := by decide +kernel
theorem dX0_spread_46 : decode cX0_spread 46 = .ok (.iload 5, 2) := by decide +kernel
theorem dX0_spread_48 : decode cX0_spread 48 = .ok (.bipush (-9), 2) := by decide +kernel
theorem dX0_spread_50 : decode cX0_spread 50 = .ok (.if_icmp .eq 22, 3) := by decide +kernel
theorem dX0_spread_53 : decode cX0_spread 53 = .ok (.aload_n 0, 1) := by decide +kernel
theorem dX0_spread_54 : decode cX0_spread 54 = .ok (.iload_n 3, 1) := by decide +kernel
theorem dX0_spread_55 : decode cX0_spread 55 = .ok (.iload 4, 2) := by decide +kernel
theorem dX0_spread_57 : decode cX0_spread 57 = .ok (.invokestatic 52, 3) := by decide +kernel
theorem dX0_spread_60 : decode cX0_spread 60 = .ok (.aload_n 0, 1) := by decide +kernel
theorem dX0_spread_61 : decode cX0_spread 61 = .ok (.getfield 9, 3) := by decide +kernel
theorem dX0_spread_64 : decode cX0_spread 64 = .ok (.iload_n 3, 1) := by decide +kernel
theorem dX0_spread_65 : decode cX0_spread 65 = .ok (.iaload, 1) := by decide +kernel
theorem dX0_spread_66 : decode cX0_spread 66 = .ok (.iload 5, 2) := by decide +kernel
theorem dX0_spread_68 : decode cX0_spread 68 = .ok (.iadd, 1) := by decide +kernel
theorem dX0_spread_69 : decode cX0_spread 69 = .ok (.invokevirtual 67, 3) := by decide +kernel
theorem dX0_spread_72 : decode cX0_spread 72 = .ok (.iinc 4 1, 3) := by decide +kernel
theorem dX0_spread_75 : decode cX0_spread 75 = .ok (.goto (-44), 3) := by decide +kernel
theorem dX0_spread_78 : decode cX0_spread 78 = .ok (.iinc 2 1, 3) := by decide +kernel
theorem dX0_spread_81 : decode cX0_spread 81 = .ok (.goto (-79), 3) := by decide +kernel
theorem dX0_spread_84 : decode cX0_spread 84 = .ok (.return_, 1) := by decide +kernel
theorem dX0_nearestUnsettled_0 : decode cX0_nearestUnsettled 0 = .ok (.iconst (-1), 1) := by decide +kernel
theorem dX0_nearestUnsettled_1 : decode cX0_nearestUnsettled 1 = .ok (.istore_n 1, 1) := by decide +kernel
theorem dX0_nearestUnsettled_2 : decode cX0_nearestUnsettled 2 = .ok (.ldc 59, 2) := by decide +kernel
theorem dX0_nearestUnsettled_4 : decode cX0_nearestUnsettled 4 = .ok (.istore_n 2, 1) := by decide +kernel
theorem dX0_nearestUnsettled_5 : decode cX0_nearestUnsettled 5 = .ok (.iconst 0, 1) := by decide +kernel
theorem dX0_nearestUnsettled_6 : decode cX0_nearestUnsettled 6 = .ok (.istore_n 3, 1) := by decide +kernel
theorem dX0_nearestUnsettled_7 : decode cX0_nearestUnsettled 7 = .ok (.iload_n 3, 1) := by decide +kernel
theorem dX0_nearestUnsettled_8 : decode cX0_nearestUnsettled 8 = .ok (.bipush 36, 2) := by decide +kernel
theorem dX0_nearestUnsettled_10 : decode cX0_nearestUnsettled 10 = .ok (.if_icmp .ge 37, 3) := by decide +kernel
theorem dX0_nearestUnsettled_13 : decode cX0_nearestUnsettled 13 = .ok (.aload_n 0, 1) := by decide +kernel
theorem dX0_nearestUnsettled_14 : decode cX0_nearestUnsettled 14 = .ok (.getfield 18, 3) := by decide +kernel
theorem dX0_nearestUnsettled_17 : decode cX0_nearestUnsettled 17 = .ok (.iload_n 3, 1) := by decide +kernel
theorem dX0_nearestUnsettled_18 : decode cX0_nearestUnsettled 18 = .ok (.baload, 1) := by decide +kernel
theorem dX0_nearestUnsettled_19 : decode cX0_nearestUnsettled 19 = .ok (.ifCond .ne 22, 3) := by decide +kernel
theorem dX0_nearestUnsettled_22 : decode cX0_nearestUnsettled 22 = .ok (.aload_n 0, 1) := by decide +kernel
theorem dX0_nearestUnsettled_23 : decode cX0_nearestUnsettled 23 = .ok (.getfield 9, 3) := by decide +kernel
theorem dX0_nearestUnsettled_26 : decode cX0_nearestUnsettled 26 = .ok (.iload_n 3, 1) := by decide +kernel
theorem dX0_nearestUnsettled_27 : decode cX0_nearestUnsettled 27 = .ok (.iaload, 1) := by decide +kernel
theorem dX0_nearestUnsettled_28 : decode cX0_nearestUnsettled 28 = .ok (.iload_n 2, 1) := by decide +kernel
theorem dX0_nearestUnsettled_29 : decode cX0_nearestUnsettled 29 = .ok (.if_icmp .ge 12, 3) := by decide +kernel
theorem dX0_nearestUnsettled_32 : decode cX0_nearestUnsettled 32 = .ok (.iload_n 3, 1) := by decide +kernel
theorem dX0_nearestUnsettled_33 : decode cX0_nearestUnsettled 33 = .ok (.istore_n 1, 1) := by decide +kernel
theorem dX0_nearestUnsettled_34 : decode cX0_nearestUnsettled 34 = .ok (.aload_n 0, 1) := by decide +kernel
theorem dX0_nearestUnsettled_35 : decode cX0_nearestUnsettled 35 = .ok (.getfield 9, 3) := by decide +kernel
theorem dX0_nearestUnsettled_38 : decode cX0_nearestUnsettled 38 = .ok (.iload_n 3, 1) := by decide +kernel
theorem dX0_nearestUnsettled_39 : decode cX0_nearestUnsettled 39 = .ok (.iaload, 1) := by decide +kernel
theorem dX0_nearestUnsettled_40 : decode cX0_nearestUnsettled 40 = .ok (.istore_n 2, 1) := by decide +kernel
theorem dX0_nearestUnsettled_41 : decode cX0_nearestUnsettled 41 = .ok (.iinc 3 1, 3) := by decide +kernel
theorem dX0_nearestUnsettled_44 : decode cX0_nearestUnsettled 44 = .ok (.goto (-37), 3) := by decide +kernel
theorem dX0_nearestUnsettled_47 : decode cX0_nearestUnsettled 47 = .ok (.iload_n 1, 1) := by decide +kernel
theorem dX0_nearestUnsettled_48 : decode cX0_nearestUnsettled 48 = .ok (.ireturn, 1) := by decide +kernel
theorem dX0_comesTo_0 : decode cX0_comesTo 0 = .ok (.iload_n 1, 1) := by decide +kernel
theorem dX0_comesTo_1 : decode cX0_comesTo 1 = .ok (.invokestatic 25, 3) := by decide +kernel
theorem dX0_comesTo_4 : decode cX0_comesTo 4 = .ok (.ifCond .eq 18, 3) := by decide +kernel
theorem dX0_comesTo_7 : decode cX0_comesTo 7 = .ok (.aload_n 0, 1) := by decide +kernel
theorem dX0_comesTo_8 : decode cX0_comesTo 8 = .ok (.getfield 9, 3) := by decide +kernel
theorem dX0_comesTo_11 : decode cX0_comesTo 11 = .ok (.iload_n 1, 1) := by decide +kernel
theorem dX0_comesTo_12 : decode cX0_comesTo 12 = .ok (.iaload, 1) := by decide +kernel
theorem dX0_comesTo_13 : decode cX0_comesTo 13 = .ok (.ldc 59, 2) := by decide +kernel
theorem dX0_comesTo_15 : decode cX0_comesTo 15 = .ok (.if_icmp .ge 7, 3) := by decide +kernel
theorem dX0_comesTo_18 : decode cX0_comesTo 18 = .ok (.iconst 1, 1) := by decide +kernel
theorem dX0_comesTo_19 : decode cX0_comesTo 19 = .ok (.goto 4, 3) := by decide +kernel
theorem dX0_comesTo_22 : decode cX0_comesTo 22 = .ok (.iconst 0, 1) := by decide +kernel
theorem dX0_comesTo_23 : decode cX0_comesTo 23 = .ok (.ireturn, 1) := by decide +kernel
theorem dX0_daysTo_0 : decode cX0_daysTo 0 = .ok (.aload_n 0, 1) := by decide +kernel
theorem dX0_daysTo_1 : decode cX0_daysTo 1 = .ok (.iload_n 1, 1) := by decide +kernel
theorem dX0_daysTo_2 : decode cX0_daysTo 2 = .ok (.invokevirtual 75, 3) := by decide +kernel
theorem dX0_daysTo_5 : decode cX0_daysTo 5 = .ok (.ifCond .eq 12, 3) := by decide +kernel
theorem dX0_daysTo_8 : decode cX0_daysTo 8 = .ok (.aload_n 0, 1) := by decide +kernel
theorem dX0_daysTo_9 : decode cX0_daysTo 9 = .ok (.getfield 9, 3) := by decide +kernel
theorem dX0_daysTo_12 : decode cX0_daysTo 12 = .ok (.iload_n 1, 1) := by decide +kernel
theorem dX0_daysTo_13 : decode cX0_daysTo 13 = .ok (.iaload, 1) := by decide +kernel
theorem dX0_daysTo_14 : decode cX0_daysTo 14 = .ok (.goto 5, 3) := by decide +kernel
theorem dX0_daysTo_17 : decode cX0_daysTo 17 = .ok (.bipush (-9), 2) := by decide +kernel
theorem dX0_daysTo_19 : decode cX0_daysTo 19 = .ok (.ireturn, 1) := by decide +kernel
theorem dX0_within_0 : decode cX0_within 0 = .ok (.iconst 0, 1) := by decide +kernel
theorem dX0_within_1 : decode cX0_within 1 = .ok (.istore_n 2, 1) := by decide +kernel
theorem dX0_within_2 : decode cX0_within 2 = .ok (.iconst 0, 1) := by decide +kernel
theorem dX0_within_3 : decode cX0_within 3 = .ok (.istore_n 3, 1) := by decide +kernel
theorem dX0_within_4 : decode cX0_within 4 = .ok (.iload_n 3, 1) := by decide +kernel
theorem dX0_within_5 : decode cX0_within 5 = .ok (.bipush 36, 2) := by decide +kernel
theorem dX0_within_7 : decode cX0_within 7 = .ok (.if_icmp .ge 22, 3) := by decide +kernel
theorem dX0_within_10 : decode cX0_within 10 = .ok (.aload_n 0, 1) := by decide +kernel
theorem dX0_within_11 : decode cX0_within 11 = .ok (.getfield 9, 3) := by decide +kernel
theorem dX0_within_14 : decode cX0_within 14 = .ok (.iload_n 3, 1) := by decide +kernel
theorem dX0_within_15 : decode cX0_within 15 = .ok (.iaload, 1) := by decide +kernel
theorem dX0_within_16 : decode cX0_within 16 = .ok (.iload_n 1, 1) := by decide +kernel
theorem dX0_within_17 : decode cX0_within 17 = .ok (.if_icmp .gt 6, 3) := by decide +kernel
theorem dX0_within_20 : decode cX0_within 20 = .ok (.iinc 2 1, 3) := by decide +kernel
theorem dX0_within_23 : decode cX0_within 23 = .ok (.iinc 3 1, 3) := by decide +kernel
theorem dX0_within_26 : decode cX0_within 26 = .ok (.goto (-22), 3) := by decide +kernel
theorem dX0_within_29 : decode cX0_within 29 = .ok (.iload_n 2, 1) := by decide +kernel
theorem dX0_within_30 : decode cX0_within 30 = .ok (.ireturn, 1) := by decide +kernel
theorem dX1_init_0 : decode cX1_init 0 = .ok (.aload_n 0, 1) := by decide +kernel
theorem dX1_init_1 : decode cX1_init 1 = .ok (.invokespecial 3, 3) := by decide +kernel
theorem dX1_init_4 : decode cX1_init 4 = .ok (.aload_n 0, 1) := by decide +kernel
theorem dX1_init_5 : decode cX1_init 5 = .ok (.bipush 36, 2) := by decide +kernel
theorem dX1_init_7 : decode cX1_init 7 = .ok (.newarray .int, 2) := by decide +kernel
theorem dX1_init_9 : decode cX1_init 9 = .ok (.putfield 9, 3) := by decide +kernel
theorem dX1_init_12 : decode cX1_init 12 = .ok (.aload_n 0, 1) := by decide +kernel
theorem dX1_init_13 : decode cX1_init 13 = .ok (.bipush 36, 2) := by decide +kernel
theorem dX1_init_15 : decode cX1_init 15 = .ok (.newarray .int, 2) := by decide +kernel
theorem dX1_init_17 : decode cX1_init 17 = .ok (.putfield 15, 3) := by decide +kernel
theorem dX1_init_20 : decode cX1_init 20 = .ok (.aload_n 0, 1) := by decide +kernel
theorem dX1_init_21 : decode cX1_init 21 = .ok (.iconst 5, 1) := by decide +kernel
theorem dX1_init_22 : decode cX1_init 22 = .ok (.newarray .int, 2) := by decide +kernel
theorem dX1_init_24 : decode cX1_init 24 = .ok (.dup, 1) := by decide +kernel
theorem dX1_init_25 : decode cX1_init 25 = .ok (.iconst 0, 1) := by decide +kernel
theorem dX1_init_26 : decode cX1_init 26 = .ok (.iconst 0, 1) := by decide +kernel
theorem dX1_init_27 : decode cX1_init 27 = .ok (.iastore, 1) := by decide +kernel
theorem dX1_init_28 : decode cX1_init 28 = .ok (.dup, 1) := by decide +kernel
theorem dX1_init_29 : decode cX1_init 29 = .ok (.iconst 1, 1) := by decide +kernel
theorem dX1_init_30 : decode cX1_init 30 = .ok (.iconst 4, 1) := by decide +kernel
theorem dX1_init_31 : decode cX1_init 31 = .ok (.iastore, 1) := by decide +kernel
theorem dX1_init_32 : decode cX1_init 32 = .ok (.dup, 1) := by decide +kernel
theorem dX1_init_33 : decode cX1_init 33 = .ok (.iconst 2, 1) := by decide +kernel
theorem dX1_init_34 : decode cX1_init 34 = .ok (.iconst 2, 1) := by decide +kernel
theorem dX1_init_35 : decode cX1_init 35 = .ok (.iastore, 1) := by decide +kernel
theorem dX1_init_36 : decode cX1_init 36 = .ok (.dup, 1) := by decide +kernel
theorem dX1_init_37 : decode cX1_init 37 = .ok (.iconst 3, 1) := by decide +kernel
theorem dX1_init_38 : decode cX1_init 38 = .ok (.bipush 30, 2) := by decide +kernel
theorem dX1_init_40 : decode cX1_init 40 = .ok (.iastore, 1) := by decide +kernel
theorem dX1_init_41 : decode cX1_init 41 = .ok (.dup, 1) := by decide +kernel
theorem dX1_init_42 : decode cX1_init 42 = .ok (.iconst 4, 1) := by decide +kernel
theorem dX1_init_43 : decode cX1_init 43 = .ok (.bipush 9, 2) := by decide +kernel
theorem dX1_init_45 : decode cX1_init 45 = .ok (.iastore, 1) := by decide +kernel
theorem dX1_init_46 : decode cX1_init 46 = .ok (.putfield 18, 3) := by decide +kernel
theorem dX1_init_49 : decode cX1_init 49 = .ok (.iconst 0, 1) := by decide +kernel
theorem dX1_init_50 : decode cX1_init 50 = .ok (.istore_n 1, 1) := by decide +kernel
theorem dX1_init_51 : decode cX1_init 51 = .ok (.iload_n 1, 1) := by decide +kernel
theorem dX1_init_52 : decode cX1_init 52 = .ok (.aload_n 0, 1) := by decide +kernel
theorem dX1_init_53 : decode cX1_init 53 = .ok (.getfield 15, 3) := by decide +kernel
theorem dX1_init_56 : decode cX1_init 56 = .ok (.arraylength, 1) := by decide +kernel
theorem dX1_init_57 : decode cX1_init 57 = .ok (.if_icmp .ge 16, 3) := by decide +kernel
theorem dX1_init_60 : decode cX1_init 60 = .ok (.aload_n 0, 1) := by decide +kernel
theorem dX1_init_61 : decode cX1_init 61 = .ok (.getfield 15, 3) := by decide +kernel
theorem dX1_init_64 : decode cX1_init 64 = .ok (.iload_n 1, 1) := by decide +kernel
theorem dX1_init_65 : decode cX1_init 65 = .ok (.iconst 1, 1) := by decide +kernel
theorem dX1_init_66 : decode cX1_init 66 = .ok (.iastore, 1) := by decide +kernel
theorem dX1_init_67 : decode cX1_init 67 = .ok (.iinc 1 1, 3) := by decide +kernel
theorem dX1_init_70 : decode cX1_init 70 = .ok (.goto (-19), 3) := by decide +kernel
theorem dX1_init_73 : decode cX1_init 73 = .ok (.return_, 1) := by decide +kernel
theorem dX1_takeFrom_0 : decode cX1_takeFrom 0 = .ok (.aload_n 1, 1) := by decide +kernel
theorem dX1_takeFrom_1 : decode cX1_takeFrom 1 = .ok (.getfield 9, 3) := by decide +kernel
theorem dX1_takeFrom_4 : decode cX1_takeFrom 4 = .ok (.iconst 0, 1) := by decide +kernel
theorem dX1_takeFrom_5 : decode cX1_takeFrom 5 = .ok (.aload_n 0, 1) := by decide +kernel
theorem dX1_takeFrom_6 : decode cX1_takeFrom 6 = .ok (.getfield 9, 3) := by decide +kernel
theorem dX1_takeFrom_9 : decode cX1_takeFrom 9 = .ok (.iconst 0, 1) := by decide +kernel
theorem dX1_takeFrom_10 : decode cX1_takeFrom 10 = .ok (.bipush 36, 2) := by decide +kernel
theorem dX1_takeFrom_12 : decode cX1_takeFrom 12 = .ok (.invokestatic 21, 3) := by decide +kernel
theorem dX1_takeFrom_15 : decode cX1_takeFrom 15 = .ok (.aload_n 1, 1) := by decide +kernel
theorem dX1_takeFrom_16 : decode cX1_takeFrom 16 = .ok (.getfield 15, 3) := by decide +kernel
theorem dX1_takeFrom_19 : decode cX1_takeFrom 19 = .ok (.iconst 0, 1) := by decide +kernel
theorem dX1_takeFrom_20 : decode cX1_takeFrom 20 = .ok (.aload_n 0, 1) := by decide +kernel
theorem dX1_takeFrom_21 : decode cX1_takeFrom 21 = .ok (.getfield 15, 3) := by decide +kernel
theorem dX1_takeFrom_24 : decode cX1_takeFrom 24 = .ok (.iconst 0, 1) := by decide +kernel
theorem dX1_takeFrom_25 : decode cX1_takeFrom 25 = .ok (.bipush 36, 2) := by decide +kernel
theorem dX1_takeFrom_27 : decode cX1_takeFrom 27 = .ok (.invokestatic 21, 3) := by decide +kernel
theorem dX1_takeFrom_30 : decode cX1_takeFrom 30 = .ok (.aload_n 1, 1) := by decide +kernel
theorem dX1_takeFrom_31 : decode cX1_takeFrom 31 = .ok (.getfield 18, 3) := by decide +kernel
theorem dX1_takeFrom_34 : decode cX1_takeFrom 34 = .ok (.iconst 0, 1) := by decide +kernel
theorem dX1_takeFrom_35 : decode cX1_takeFrom 35 = .ok (.aload_n 0, 1) := by decide +kernel
theorem dX1_takeFrom_36 : decode cX1_takeFrom 36 = .ok (.getfield 18, 3) := by decide +kernel
theorem dX1_takeFrom_39 : decode cX1_takeFrom 39 = .ok (.iconst 0, 1) := by decide +kernel
theorem dX1_takeFrom_40 : decode cX1_takeFrom 40 = .ok (.iconst 5, 1) := by decide +kernel
theorem dX1_takeFrom_41 : decode cX1_takeFrom 41 = .ok (.invokestatic 21, 3) := by decide +kernel
theorem dX1_takeFrom_44 : decode cX1_takeFrom 44 = .ok (.return_, 1) := by decide +kernel
theorem dX1_beside_0 : decode cX1_beside 0 = .ok (.iload_n 0, 1) := by decide +kernel
theorem dX1_beside_1 : decode cX1_beside 1 = .ok (.ifCond .lt 9, 3) := by decide +kernel
theorem dX1_beside_4 : decode cX1_beside 4 = .ok (.iload_n 0, 1) := by decide +kernel
theorem dX1_beside_5 : decode cX1_beside 5 = .ok (.bipush 36, 2) := by decide +kernel
theorem dX1_beside_7 : decode cX1_beside 7 = .ok (.if_icmp .lt 5, 3) := by decide +kernel
theorem dX1_beside_10 : decode cX1_beside 10 = .ok (.iconst (-1), 1) := by decide +kernel
theorem dX1_beside_11 : decode cX1_beside 11 = .ok (.ireturn, 1) := by decide +kernel
theorem dX1_beside_12 : decode cX1_beside 12 = .ok (.iload_n 1, 1) := by decide +kernel
theorem dX1_beside_13 : decode cX1_beside 13 = .ok (.tableswitch 92 0 3 #[31, 46, 61, 77], 31) := by decide +kernel
theorem dX1_beside_44 : decode cX1_beside 44 = .ok (.iload_n 0, 1) := by decide +kernel
theorem dX1_beside_45 : decode cX1_beside 45 = .ok (.bipush 6, 2) := by decide +kernel
theorem dX1_beside_47 : decode cX1_beside 47 = .ok (.if_icmp .lt 10, 3) := by decide +kernel
theorem dX1_beside_50 : decode cX1_beside 50 = .ok (.iload_n 0, 1) := by decide +kernel
theorem dX1_beside_51 : decode cX1_beside 51 = .ok (.bipush 6, 2) := by decide +kernel
theorem dX1_beside_53 : decode cX1_beside 53 = .ok (.isub, 1) := by decide +kernel
theorem dX1_beside_54 : decode cX1_beside 54 = .ok (.goto 4, 3) := by decide +kernel
theorem dX1_beside_57 : decode cX1_beside 57 = .ok (.iconst (-1), 1) := by decide +kernel
theorem dX1_beside_58 : decode cX1_beside 58 = .ok (.ireturn, 1) := by decide +kernel
theorem dX1_beside_59 : decode cX1_beside 59 = .ok (.iload_n 0, 1) := by decide +kernel
theorem dX1_beside_60 : decode cX1_beside 60 = .ok (.bipush 6, 2) := by decide +kernel
theorem dX1_beside_62 : decode cX1_beside 62 = .ok (.irem, 1) := by decide +kernel
theorem dX1_beside_63 : decode cX1_beside 63 = .ok (.ifCond .le 9, 3) := by decide +kernel
theorem dX1_beside_66 : decode cX1_beside 66 = .ok (.iload_n 0, 1) := by decide +kernel
theorem dX1_beside_67 : decode cX1_beside 67 = .ok (.iconst 1, 1) := by decide +kernel
theorem dX1_beside_68 : decode cX1_beside 68 = .ok (.isub, 1) := by decide +kernel
theorem dX1_beside_69 : decode cX1_beside 69 = .ok (.goto 4, 3) := by decide +kernel
theorem dX1_beside_72 : decode cX1_beside 72 = .ok (.iconst (-1), 1) := by decide +kernel
theorem dX1_beside_73 : decode cX1_beside 73 = .ok (.ireturn, 1) := by decide +kernel
theorem dX1_beside_74 : decode cX1_beside 74 = .ok (.iload_n 0, 1) := by decide +kernel
theorem dX1_beside_75 : decode cX1_beside 75 = .ok (.bipush 6, 2) := by decide +kernel
theorem dX1_beside_77 : decode cX1_beside 77 = .ok (.irem, 1) := by decide +kernel
theorem dX1_beside_78 : decode cX1_beside 78 = .ok (.iconst 5, 1) := by decide +kernel
theorem dX1_beside_79 : decode cX1_beside 79 = .ok (.if_icmp .ge 9, 3) := by decide +kernel
theorem dX1_beside_82 : decode cX1_beside 82 = .ok (.iload_n 0, 1) := by decide +kernel
theorem dX1_beside_83 : decode cX1_beside 83 = .ok (.iconst 1, 1) := by decide +kernel
theorem dX1_beside_84 : decode cX1_beside 84 = .ok (.iadd, 1) := by decide +kernel
theorem dX1_beside_85 : decode cX1_beside 85 = .ok (.goto 4, 3) := by decide +kernel
theorem dX1_beside_88 : decode cX1_beside 88 = .ok (.iconst (-1), 1) := by decide +kernel
theorem dX1_beside_89 : decode cX1_beside 89 = .ok (.ireturn, 1) := by decide +kernel
theorem dX1_beside_90 : decode cX1_beside 90 = .ok (.iload_n 0, 1) := by decide +kernel
theorem dX1_beside_91 : decode cX1_beside 91 = .ok (.bipush 30, 2) := by decide +kernel
theorem dX1_beside_93 : decode cX1_beside 93 = .ok (.if_icmp .ge 10, 3) := by decide +kernel
theorem dX1_beside_96 : decode cX1_beside 96 = .ok (.iload_n 0, 1) := by decide +kernel
theorem dX1_beside_97 : decode cX1_beside 97 = .ok (.bipush 6, 2) := by decide +kernel
theorem dX1_beside_99 : decode cX1_beside 99 = .ok (.iadd, 1) := by decide +kernel
theorem dX1_beside_100 : decode cX1_beside 100 = .ok (.goto 4, 3) := by decide +kernel
theorem dX1_beside_103 : decode cX1_beside 103 = .ok (.iconst (-1), 1) := by decide +kernel
theorem dX1_beside_104 : decode cX1_beside 104 = .ok (.ireturn, 1) := by decide +kernel
theorem dX1_beside_105 : decode cX1_beside 105 = .ok (.iconst (-1), 1) := by decide +kernel
theorem dX1_beside_106 : decode cX1_beside 106 = .ok (.ireturn, 1) := by decide +kernel
theorem dX1_canBeSailed_0 : decode cX1_canBeSailed 0 = .ok (.iload_n 0, 1) := by decide +kernel
theorem dX1_canBeSailed_1 : decode cX1_canBeSailed 1 = .ok (.iconst 2, 1) := by decide +kernel
theorem dX1_canBeSailed_2 : decode cX1_canBeSailed 2 = .ok (.if_icmp .ne 14, 3) := by decide +kernel
theorem dX1_canBeSailed_5 : decode cX1_canBeSailed 5 = .ok (.iload_n 1, 1) := by decide +kernel
theorem dX1_canBeSailed_6 : decode cX1_canBeSailed 6 = .ok (.iconst 3, 1) := by decide +kernel
theorem dX1_canBeSailed_7 : decode cX1_canBeSailed 7 = .ok (.if_icmp .gt 7, 3) := by decide +kernel
theorem dX1_canBeSailed_10 : decode cX1_canBeSailed 10 = .ok (.iconst 1, 1) := by decide +kernel
theorem dX1_canBeSailed_11 : decode cX1_canBeSailed 11 = .ok (.goto 4, 3) := by decide +kernel
theorem dX1_canBeSailed_14 : decode cX1_canBeSailed 14 = .ok (.iconst 0, 1) := by decide +kernel
theorem dX1_canBeSailed_15 : decode cX1_canBeSailed 15 = .ok (.ireturn, 1) := by decide +kernel
theorem dX1_canBeSailed_16 : decode cX1_canBeSailed 16 = .ok (.iload_n 0, 1) := by decide +kernel
theorem dX1_canBeSailed_17 : decode cX1_canBeSailed 17 = .ok (.iconst 1, 1) := by decide +kernel
theorem dX1_canBeSailed_18 : decode cX1_canBeSailed 18 = .ok (.if_icmp .eq 7, 3) := by decide +kernel
theorem dX1_canBeSailed_21 : decode cX1_canBeSailed 21 = .ok (.iconst 1, 1) := by decide +kernel
theorem dX1_canBeSailed_22 : decode cX1_canBeSailed 22 = .ok (.goto 4, 3) := by decide +kernel
theorem dX1_canBeSailed_25 : decode cX1_canBeSailed 25 = .ok (.iconst 0, 1) := by decide +kernel
theorem dX1_canBeSailed_26 : decode cX1_canBeSailed 26 = .ok (.ireturn, 1) := by decide +kernel
theorem dX1_kindOf_0 : decode cX1_kindOf 0 = .ok (.iload_n 1, 1) := by decide +kernel
theorem dX1_kindOf_1 : decode cX1_kindOf 1 = .ok (.invokestatic 27, 3) := by decide +kernel
theorem dX1_kindOf_4 : decode cX1_kindOf 4 = .ok (.ifCond .eq 12, 3) := by decide +kernel
theorem dX1_kindOf_7 : decode cX1_kindOf 7 = .ok (.aload_n 0, 1) := by decide +kernel
theorem dX1_kindOf_8 : decode cX1_kindOf 8 = .ok (.getfield 9, 3) := by decide +kernel
theorem dX1_kindOf_11 : decode cX1_kindOf 11 = .ok (.iload_n 1, 1) := by decide +kernel
theorem dX1_kindOf_12 : decode cX1_kindOf 12 = .ok (.iaload, 1) := by decide +kernel
theorem dX1_kindOf_13 : decode cX1_kindOf 13 = .ok (.goto 4, 3) := by decide +kernel
theorem dX1_kindOf_16 : decode cX1_kindOf 16 = .ok (.iconst 0, 1) := by decide +kernel
theorem dX1_kindOf_17 : decode cX1_kindOf 17 = .ok (.ireturn, 1) := by decide +kernel
theorem dX1_turn_0 : decode cX1_turn 0 = .ok (.iload_n 1, 1) := by decide +kernel
theorem dX1_turn_1 : decode cX1_turn 1 = .ok (.invokestatic 27, 3) := by decide +kernel
theorem dX1_turn_4 : decode cX1_turn 4 = .ok (.ifCond .eq 10, 3) := by decide +kernel
theorem dX1_turn_7 : decode cX1_turn 7 = .ok (.aload_n 0, 1) := by decide +kernel
theorem dX1_turn_8 : decode cX1_turn 8 = .ok (.getfield 9, 3) := by decide +kernel
theorem dX1_turn_11 : decode cX1_turn 11 = .ok (.iload_n 1, 1) := by decide +kernel
theorem dX1_turn_12 : decode cX1_turn 12 = .ok (.iload_n 2, 1) := by decide +kernel
theorem dX1_turn_13 : decode cX1_turn 13 = .ok (.iastore, 1) := by decide +kernel
theorem dX1_turn_14 : decode cX1_turn 14 = .ok (.return_, 1) := by decide +kernel
theorem dX1_likelyAt_0 : decode cX1_likelyAt 0 = .ok (.iload_n 1, 1) := by decide +kernel
theorem dX1_likelyAt_1 : decode cX1_likelyAt 1 = .ok (.invokestatic 27, 3) := by decide +kernel
theorem dX1_likelyAt_4 : decode cX1_likelyAt 4 = .ok (.ifCond .eq 12, 3) := by decide +kernel
theorem dX1_likelyAt_7 : decode cX1_likelyAt 7 = .ok (.aload_n 0, 1) := by decide +kernel
theorem dX1_likelyAt_8 : decode cX1_likelyAt 8 = .ok (.getfield 15, 3) := by decide +kernel
theorem dX1_likelyAt_11 : decode cX1_likelyAt 11 = .ok (.iload_n 1, 1) := by decide +kernel
theorem dX1_likelyAt_12 : decode cX1_likelyAt 12 = .ok (.iaload, 1) := by decide +kernel
theorem dX1_likelyAt_13 : decode cX1_likelyAt 13 = .ok (.goto 4, 3) := by decide +kernel
theorem dX1_likelyAt_16 : decode cX1_likelyAt 16 = .ok (.iconst 0, 1) := by decide +kernel
theorem dX1_likelyAt_17 : decode cX1_likelyAt 17 = .ok (.ireturn, 1) := by decide +kernel
theorem dX1_putLikely_0 : decode cX1_putLikely 0 = .ok (.iload_n 1, 1) := by decide +kernel
theorem dX1_putLikely_1 : decode cX1_putLikely 1 = .ok (.invokestatic 27, 3) := by decide +kernel
theorem dX1_putLikely_4 : decode cX1_putLikely 4 = .ok (.ifCond .eq 10, 3) := by decide +kernel
theorem dX1_putLikely_7 : decode cX1_putLikely 7 = .ok (.aload_n 0, 1) := by decide +kernel
theorem dX1_putLikely_8 : decode cX1_putLikely 8 = .ok (.getfield 15, 3) := by decide +kernel
theorem dX1_putLikely_11 : decode cX1_putLikely 11 = .ok (.iload_n 1, 1) := by decide +kernel
theorem dX1_putLikely_12 : decode cX1_putLikely 12 = .ok (.iload_n 2, 1) := by decide +kernel
theorem dX1_putLikely_13 : decode cX1_putLikely 13 = .ok (.iastore, 1) := by decide +kernel
theorem dX1_putLikely_14 : decode cX1_putLikely 14 = .ok (.return_, 1) := by decide +kernel
theorem dX1_number_0 : decode cX1_number 0 = .ok (.iload_n 1, 1) := by decide +kernel
theorem dX1_number_1 : decode cX1_number 1 = .ok (.ifCond .lt 17, 3) := by decide +kernel
theorem dX1_number_4 : decode cX1_number 4 = .ok (.iload_n 1, 1) := by decide +kernel
theorem dX1_number_5 : decode cX1_number 5 = .ok (.iconst 5, 1) := by decide +kernel
theorem dX1_number_6 : decode cX1_number 6 = .ok (.if_icmp .ge 12, 3) := by decide +kernel
theorem dX1_number_9 : decode cX1_number 9 = .ok (.aload_n 0, 1) := by decide +kernel
theorem dX1_number_10 : decode cX1_number 10 = .ok (.getfield 18, 3) := by decide +kernel
theorem dX1_number_13 : decode cX1_number 13 = .ok (.iload_n 1, 1) := by decide +kernel
theorem dX1_number_14 : decode cX1_number 14 = .ok (.iaload, 1) := by decide +kernel
theorem dX1_number_15 : decode cX1_number 15 = .ok (.goto 4, 3) := by decide +kernel
theorem dX1_number_18 : decode cX1_number 18 = .ok (.iconst 0, 1) := by decide +kernel
theorem dX1_number_19 : decode cX1_number 19 = .ok (.ireturn, 1) := by decide +kernel
theorem dX1_putNumber_0 : decode cX1_putNumber 0 = .ok (.iload_n 1, 1) := by decide +kernel
theorem dX1_putNumber_1 : decode cX1_putNumber 1 = .ok (.ifCond .lt 15, 3) := by decide +kernel
theorem dX1_putNumber_4 : decode cX1_putNumber 4 = .ok (.iload_n 1, 1) := by decide +kernel
theorem dX1_putNumber_5 : decode cX1_putNumber 5 = .ok (.iconst 5, 1) := by decide +kernel
theorem dX1_putNumber_6 : decode cX1_putNumber 6 = .ok (.if_icmp .ge 10, 3) := by decide +kernel
theorem dX1_putNumber_9 : decode cX1_putNumber 9 = .ok (.aload_n 0, 1) := by decide +kernel
theorem dX1_putNumber_10 : decode cX1_putNumber 10 = .ok (.getfield 18, 3) := by decide +kernel
theorem dX1_putNumber_13 : decode cX1_putNumber 13 = .ok (.iload_n 1, 1) := by decide +kernel
theorem dX1_putNumber_14 : decode cX1_putNumber 14 = .ok (.iload_n 2, 1) := by decide +kernel
theorem dX1_putNumber_15 : decode cX1_putNumber 15 = .ok (.iastore, 1) := by decide +kernel
theorem dX1_putNumber_16 : decode cX1_putNumber 16 = .ok (.return_, 1) := by decide +kernel
theorem dX1_canBe_0 : decode cX1_canBe 0 = .ok (.iload_n 1, 1) := by decide +kernel
theorem dX1_canBe_1 : decode cX1_canBe 1 = .ok (.invokestatic 27, 3) := by decide +kernel
theorem dX1_canBe_4 : decode cX1_canBe 4 = .ok (.ifCond .eq 25, 3) := by decide +kernel
theorem dX1_canBe_7 : decode cX1_canBe 7 = .ok (.aload_n 0, 1) := by decide +kernel
theorem dX1_canBe_8 : decode cX1_canBe 8 = .ok (.getfield 9, 3) := by decide +kernel
theorem dX1_canBe_11 : decode cX1_canBe 11 = .ok (.iload_n 1, 1) := by decide +kernel
theorem dX1_canBe_12 : decode cX1_canBe 12 = .ok (.iaload, 1) := by decide +kernel
theorem dX1_canBe_13 : decode cX1_canBe 13 = .ok (.aload_n 0, 1) := by decide +kernel
theorem dX1_canBe_14 : decode cX1_canBe 14 = .ok (.getfield 18, 3) := by decide +kernel
theorem dX1_canBe_17 : decode cX1_canBe 17 = .ok (.iconst 1, 1) := by decide +kernel
theorem dX1_canBe_18 : decode cX1_canBe 18 = .ok (.iaload, 1) := by decide +kernel
theorem dX1_canBe_19 : decode cX1_canBe 19 = .ok (.invokestatic 31, 3) := by decide +kernel
theorem dX1_canBe_22 : decode cX1_canBe 22 = .ok (.ifCond .eq 7, 3) := by decide +kernel
theorem dX1_canBe_25 : decode cX1_canBe 25 = .ok (.iconst 1, 1) := by decide +kernel
theorem dX1_canBe_26 : decode cX1_canBe 26 = .ok (.goto 4, 3) := by decide +kernel
theorem dX1_canBe_29 : decode cX1_canBe 29 = .ok (.iconst 0, 1) := by decide +kernel
theorem dX1_canBe_30 : decode cX1_canBe 30 = .ok (.ireturn, 1) := by decide +kernel
theorem dX1_canBeAtHome_0 : decode cX1_canBeAtHome 0 = .ok (.aload_n 0, 1) := by decide +kernel
theorem dX1_canBeAtHome_1 : decode cX1_canBeAtHome 1 = .ok (.aload_n 0, 1) := by decide +kernel
theorem dX1_canBeAtHome_2 : decode cX1_canBeAtHome 2 = .ok (.getfield 18, 3) := by decide +kernel
theorem dX1_canBeAtHome_5 : decode cX1_canBeAtHome 5 = .ok (.iconst 0, 1) := by decide +kernel
theorem dX1_canBeAtHome_6 : decode cX1_canBeAtHome 6 = .ok (.iaload, 1) := by decide +kernel
theorem dX1_canBeAtHome_7 : decode cX1_canBeAtHome 7 = .ok (.invokevirtual 35, 3) := by decide +kernel
theorem dX1_canBeAtHome_10 : decode cX1_canBeAtHome 10 = .ok (.ireturn, 1) := by decide +kernel
theorem dX1_daysToGo_0 : decode cX1_daysToGo 0 = .ok (.iload_n 1, 1) := by decide +kernel
theorem dX1_daysToGo_1 : decode cX1_daysToGo 1 = .ok (.iload_n 2, 1) := by decide +kernel
theorem dX1_daysToGo_2 : decode cX1_daysToGo 2 = .ok (.invokestatic 38, 3) := by decide +kernel
theorem dX1_daysToGo_5 : decode cX1_daysToGo 5 = .ok (.istore_n 3, 1) := by decide +kernel
theorem dX1_daysToGo_6 : decode cX1_daysToGo 6 = .ok (.iload_n 3, 1) := by decide +kernel
theorem dX1_daysToGo_7 : decode cX1_daysToGo 7 = .ok (.invokestatic 27, 3) := by decide +kernel
theorem dX1_daysToGo_10 : decode cX1_daysToGo 10 = .ok (.ifCond .eq 21, 3) := by decide +kernel
theorem dX1_daysToGo_13 : decode cX1_daysToGo 13 = .ok (.aload_n 0, 1) := by decide +kernel
theorem dX1_daysToGo_14 : decode cX1_daysToGo 14 = .ok (.getfield 9, 3) := by decide +kernel
theorem dX1_daysToGo_17 : decode cX1_daysToGo 17 = .ok (.iload_n 3, 1) := by decide +kernel
theorem dX1_daysToGo_18 : decode cX1_daysToGo 18 = .ok (.iaload, 1) := by decide +kernel
theorem dX1_daysToGo_19 : decode cX1_daysToGo 19 = .ok (.aload_n 0, 1) := by decide +kernel
theorem dX1_daysToGo_20 : decode cX1_daysToGo 20 = .ok (.getfield 18, 3) := by decide +kernel
theorem dX1_daysToGo_23 : decode cX1_daysToGo 23 = .ok (.iconst 1, 1) := by decide +kernel
theorem dX1_daysToGo_24 : decode cX1_daysToGo 24 = .ok (.iaload, 1) := by decide +kernel
theorem dX1_daysToGo_25 : decode cX1_daysToGo 25 = .ok (.invokestatic 31, 3) := by decide +kernel
theorem dX1_daysToGo_28 : decode cX1_daysToGo 28 = .ok (.ifCond .ne 6, 3) := by decide +kernel
theorem dX1_daysToGo_31 : decode cX1_daysToGo 31 = .ok (.bipush (-9), 2) := by decide +kernel
theorem dX1_daysToGo_33 : decode cX1_daysToGo 33 = .ok (.ireturn, 1) := by decide +kernel
theorem dX1_daysToGo_34 : decode cX1_daysToGo 34 = .ok (.aload_n 0, 1) := by decide +kernel
theorem dX1_daysToGo_35 : decode cX1_daysToGo 35 = .ok (.getfield 9, 3) := by decide +kernel
theorem dX1_daysToGo_38 : decode cX1_daysToGo 38 = .ok (.iload_n 3, 1) := by decide +kernel
theorem dX1_daysToGo_39 : decode cX1_daysToGo 39 = .ok (.iaload, 1) := by decide +kernel
theorem dX1_daysToGo_40 : decode cX1_daysToGo 40 = .ok (.tableswitch 42 2 4 #[28, 30, 32], 28) := by decide +kernel
theorem dX1_daysToGo_68 : decode cX1_daysToGo 68 = .ok (.iconst 3, 1) := by decide +kernel
theorem dX1_daysToGo_69 : decode cX1_daysToGo 69 = .ok (.ireturn, 1) := by decide +kernel
theorem dX1_daysToGo_70 : decode cX1_daysToGo 70 = .ok (.iconst 2, 1) := by decide +kernel
theorem dX1_daysToGo_71 : decode cX1_daysToGo 71 = .ok (.ireturn, 1) := by decide +kernel
theorem dX1_daysToGo_72 : decode cX1_daysToGo 72 = .ok (.iload_n 2, 1) := by decide +kernel
theorem dX1_daysToGo_73 : decode cX1_daysToGo 73 = .ok (.ifCond .ne 7, 3) := by decide +kernel
theorem dX1_daysToGo_76 : decode cX1_daysToGo 76 = .ok (.iconst 3, 1) := by decide +kernel
theorem dX1_daysToGo_77 : decode cX1_daysToGo 77 = .ok (.goto 4, 3) := by decide +kernel
theorem dX1_daysToGo_80 : decode cX1_daysToGo 80 = .ok (.iconst 1, 1) := by decide +kernel
theorem dX1_daysToGo_81 : decode cX1_daysToGo 81 = .ok (.ireturn, 1) := by decide +kernel
theorem dX1_daysToGo_82 : decode cX1_daysToGo 82 = .ok (.iconst 1, 1) := by decide +kernel
theorem dX1_daysToGo_83 : decode cX1_daysToGo 83 = .ok (.ireturn, 1) := by decide +kernel
theorem dX1_left_0 : decode cX1_left 0 = .ok (.iconst 0, 1) := by decide +kernel
theorem dX1_left_1 : decode cX1_left 1 = .ok (.istore_n 1, 1) := by decide +kernel
theorem dX1_left_2 : decode cX1_left 2 = .ok (.iconst 0, 1) := by decide +kernel
theorem dX1_left_3 : decode cX1_left 3 = .ok (.istore_n 2, 1) := by decide +kernel
theorem dX1_left_4 : decode cX1_left 4 = .ok (.iload_n 2, 1) := by decide +kernel
theorem dX1_left_5 : decode cX1_left 5 = .ok (.aload_n 0, 1) := by decide +kernel
theorem dX1_left_6 : decode cX1_left 6 = .ok (.getfield 15, 3) := by decide +kernel
theorem dX1_left_9 : decode cX1_left 9 = .ok (.arraylength, 1) := by decide +kernel
theorem dX1_left_10 : decode cX1_left 10 = .ok (.if_icmp .ge 21, 3) := by decide +kernel
theorem dX1_left_13 : decode cX1_left 13 = .ok (.aload_n 0, 1) := by decide +kernel
theorem dX1_left_14 : decode cX1_left 14 = .ok (.getfield 15, 3) := by decide +kernel
theorem dX1_left_17 : decode cX1_left 17 = .ok (.iload_n 2, 1) := by decide +kernel
theorem dX1_left_18 : decode cX1_left 18 = .ok (.iaload, 1) := by decide +kernel
theorem dX1_left_19 : decode cX1_left 19 = .ok (.ifCond .le 6, 3) := by decide +kernel
theorem dX1_left_22 : decode cX1_left 22 = .ok (.iinc 1 1, 3) := by decide +kernel
theorem dX1_left_25 : decode cX1_left 25 = .ok (.iinc 2 1, 3) := by decide +kernel
theorem dX1_left_28 : decode cX1_left 28 = .ok (.goto (-24), 3) := by decide +kernel
theorem dX1_left_31 : decode cX1_left 31 = .ok (.iload_n 1, 1) := by decide +kernel
theorem dX1_left_32 : decode cX1_left 32 = .ok (.ireturn, 1) := by decide +kernel
theorem dX1_weight_0 : decode cX1_weight 0 = .ok (.iconst 0, 1) := by decide +kernel
theorem dX1_weight_1 : decode cX1_weight 1 = .ok (.istore_n 1, 1) := by decide +kernel
theorem dX1_weight_2 : decode cX1_weight 2 = .ok (.iconst 0, 1) := by decide +kernel
theorem dX1_weight_3 : decode cX1_weight 3 = .ok (.istore_n 2, 1) := by decide +kernel
theorem dX1_weight_4 : decode cX1_weight 4 = .ok (.iload_n 2, 1) := by decide +kernel
theorem dX1_weight_5 : decode cX1_weight 5 = .ok (.aload_n 0, 1) := by decide +kernel
theorem dX1_weight_6 : decode cX1_weight 6 = .ok (.getfield 15, 3) := by decide +kernel
theorem dX1_weight_9 : decode cX1_weight 9 = .ok (.arraylength, 1) := by decide +kernel
theorem dX1_weight_10 : decode cX1_weight 10 = .ok (.if_icmp .ge 18, 3) := by decide +kernel
theorem dX1_weight_13 : decode cX1_weight 13 = .ok (.iload_n 1, 1) := by decide +kernel
theorem dX1_weight_14 : decode cX1_weight 14 = .ok (.aload_n 0, 1) := by decide +kernel
theorem dX1_weight_15 : decode cX1_weight 15 = .ok (.getfield 15, 3) := by decide +kernel
theorem dX1_weight_18 : decode cX1_weight 18 = .ok (.iload_n 2, 1) := by decide +kernel
theorem dX1_weight_19 : decode cX1_weight 19 = .ok (.iaload, 1) := by decide +kernel
theorem dX1_weight_20 : decode cX1_weight 20 = .ok (.iadd, 1) := by decide +kernel
theorem dX1_weight_21 : decode cX1_weight 21 = .ok (.istore_n 1, 1) := by decide +kernel
theorem dX1_weight_22 : decode cX1_weight 22 = .ok (.iinc 2 1, 3) := by decide +kernel
theorem dX1_weight_25 : decode cX1_weight 25 = .ok (.goto (-21), 3) := by decide +kernel
theorem dX1_weight_28 : decode cX1_weight 28 = .ok (.iload_n 1, 1) := by decide +kernel
theorem dX1_weight_29 : decode cX1_weight 29 = .ok (.ireturn, 1) := by decide +kernel
theorem dX1_squaresToBeOn_0 : decode cX1_squaresToBeOn 0 = .ok (.iconst 0, 1) := by decide +kernel
theorem dX1_squaresToBeOn_1 : decode cX1_squaresToBeOn 1 = .ok (.istore_n 1, 1) := by decide +kernel
theorem dX1_squaresToBeOn_2 : decode cX1_squaresToBeOn 2 = .ok (.iconst 0, 1) := by decide +kernel
theorem dX1_squaresToBeOn_3 : decode cX1_squaresToBeOn 3 = .ok (.istore_n 2, 1) := by decide +kernel
theorem dX1_squaresToBeOn_4 : decode cX1_squaresToBeOn 4 = .ok (.iload_n 2, 1) := by decide +kernel
theorem dX1_squaresToBeOn_5 : decode cX1_squaresToBeOn 5 = .ok (.bipush 36, 2) := by decide +kernel
theorem dX1_squaresToBeOn_7 : decode cX1_squaresToBeOn 7 = .ok (.if_icmp .ge 20, 3) := by decide +kernel
theorem dX1_squaresToBeOn_10 : decode cX1_squaresToBeOn 10 = .ok (.aload_n 0, 1) := by decide +kernel
theorem dX1_squaresToBeOn_11 : decode cX1_squaresToBeOn 11 = .ok (.iload_n 2, 1) := by decide +kernel
theorem dX1_squaresToBeOn_12 : decode cX1_squaresToBeOn 12 = .ok (.invokevirtual 35, 3) := by decide +kernel
theorem dX1_squaresToBeOn_15 : decode cX1_squaresToBeOn 15 = .ok (.ifCond .eq 6, 3) := by decide +kernel
theorem dX1_squaresToBeOn_18 : decode cX1_squaresToBeOn 18 = .ok (.iinc 1 1, 3) := by decide +kernel
theorem dX1_squaresToBeOn_21 : decode cX1_squaresToBeOn 21 = .ok (.iinc 2 1, 3) := by decide +kernel
theorem dX1_squaresToBeOn_24 : decode cX1_squaresToBeOn 24 = .ok (.goto (-20), 3) := by decide +kernel
theorem dX1_squaresToBeOn_27 : decode cX1_squaresToBeOn 27 = .ok (.iload_n 1, 1) := by decide +kernel
theorem dX1_squaresToBeOn_28 : decode cX1_squaresToBeOn 28 = .ok (.ireturn, 1) := by decide +kernel
theorem dX1_isSand_0 : decode cX1_isSand 0 = .ok (.aload_n 0, 1) := by decide +kernel
theorem dX1_isSand_1 : decode cX1_isSand 1 = .ok (.iload_n 1, 1) := by decide +kernel
theorem dX1_isSand_2 : decode cX1_isSand 2 = .ok (.invokevirtual 42, 3) := by decide +kernel
theorem dX1_isSand_5 : decode cX1_isSand 5 = .ok (.istore_n 2, 1) := by decide +kernel
theorem dX1_isSand_6 : decode cX1_isSand 6 = .ok (.iload_n 2, 1) := by decide +kernel
theorem dX1_isSand_7 : decode cX1_isSand 7 = .ok (.iconst 1, 1) := by decide +kernel
theorem dX1_isSand_8 : decode cX1_isSand 8 = .ok (.if_icmp .eq 8, 3) := by decide +kernel
theorem dX1_isSand_11 : decode cX1_isSand 11 = .ok (.iload_n 2, 1) := by decide +kernel
theorem dX1_isSand_12 : decode cX1_isSand 12 = .ok (.iconst 2, 1) := by decide +kernel
theorem dX1_isSand_13 : decode cX1_isSand 13 = .ok (.if_icmp .ne 7, 3) := by decide +kernel
theorem dX1_isSand_16 : decode cX1_isSand 16 = .ok (.iconst 1, 1) := by decide +kernel
theorem dX1_isSand_17 : decode cX1_isSand 17 = .ok (.goto 4, 3) := by decide +kernel
theorem dX1_isSand_20 : decode cX1_isSand 20 = .ok (.iconst 0, 1) := by decide +kernel
theorem dX1_isSand_21 : decode cX1_isSand 21 = .ok (.ireturn, 1) := by decide +kernel
theorem dX1_sandBeside_0 : decode cX1_sandBeside 0 = .ok (.iconst 0, 1) := by decide +kernel
theorem dX1_sandBeside_1 : decode cX1_sandBeside 1 = .ok (.istore_n 2, 1) := by decide +kernel
theorem dX1_sandBeside_2 : decode cX1_sandBeside 2 = .ok (.iconst 0, 1) := by decide +kernel
theorem dX1_sandBeside_3 : decode cX1_sandBeside 3 = .ok (.istore_n 3, 1) := by decide +kernel
theorem dX1_sandBeside_4 : decode cX1_sandBeside 4 = .ok (.iload_n 3, 1) := by decide +kernel
theorem dX1_sandBeside_5 : decode cX1_sandBeside 5 = .ok (.iconst 4, 1) := by decide +kernel
theorem dX1_sandBeside_6 : decode cX1_sandBeside 6 = .ok (.if_icmp .ge 24, 3) := by decide +kernel
theorem dX1_sandBeside_9 : decode cX1_sandBeside 9 = .ok (.aload_n 0, 1) := by decide +kernel
theorem dX1_sandBeside_10 : decode cX1_sandBeside 10 = .ok (.iload_n 1, 1) := by decide +kernel
theorem dX1_sandBeside_11 : decode cX1_sandBeside 11 = .ok (.iload_n 3, 1) := by decide +kernel
theorem dX1_sandBeside_12 : decode cX1_sandBeside 12 = .ok (.invokestatic 38, 3) := by decide +kernel
theorem dX1_sandBeside_15 : decode cX1_sandBeside 15 = .ok (.invokevirtual 46, 3) := by decide +kernel
theorem dX1_sandBeside_18 : decode cX1_sandBeside 18 = .ok (.ifCond .eq 6, 3) := by decide +kernel
theorem dX1_sandBeside_21 : decode cX1_sandBeside 21 = .ok (.iinc 2 1, 3) := by decide +kernel
theorem dX1_sandBeside_24 : decode cX1_sandBeside 24 = .ok (.iinc 3 1, 3) := by decide +kernel
theorem dX1_sandBeside_27 : decode cX1_sandBeside 27 = .ok (.goto (-23), 3) := by decide +kernel
theorem dX1_sandBeside_30 : decode cX1_sandBeside 30 = .ok (.iload_n 2, 1) := by decide +kernel
theorem dX1_sandBeside_31 : decode cX1_sandBeside 31 = .ok (.ireturn, 1) := by decide +kernel
theorem dX1_isBesideWreck_0 : decode cX1_isBesideWreck 0 = .ok (.iconst 0, 1) := by decide +kernel
theorem dX1_isBesideWreck_1 : decode cX1_isBesideWreck 1 = .ok (.istore_n 2, 1) := by decide +kernel
theorem dX1_isBesideWreck_2 : decode cX1_isBesideWreck 2 = .ok (.iload_n 2, 1) := by decide +kernel
theorem dX1_isBesideWreck_3 : decode cX1_isBesideWreck 3 = .ok (.iconst 4, 1) := by decide +kernel
theorem dX1_isBesideWreck_4 : decode cX1_isBesideWreck 4 = .ok (.if_icmp .ge 33, 3) := by decide +kernel
theorem dX1_isBesideWreck_7 : decode cX1_isBesideWreck 7 = .ok (.iload_n 1, 1) := by decide +kernel
theorem dX1_isBesideWreck_8 : decode cX1_isBesideWreck 8 = .ok (.iload_n 2, 1) := by decide +kernel
theorem dX1_isBesideWreck_9 : decode cX1_isBesideWreck 9 = .ok (.invokestatic 38, 3) := by decide +kernel
theorem dX1_isBesideWreck_12 : decode cX1_isBesideWreck 12 = .ok (.istore_n 3, 1) := by decide +kernel
theorem dX1_isBesideWreck_13 : decode cX1_isBesideWreck 13 = .ok (.aload_n 0, 1) := by decide +kernel
theorem dX1_isBesideWreck_14 : decode cX1_isBesideWreck 14 = .ok (.iload_n 3, 1) := by decide +kernel
theorem dX1_isBesideWreck_15 : decode cX1_isBesideWreck 15 = .ok (.invokevirtual 46, 3) := by decide +kernel
theorem dX1_isBesideWreck_18 : decode cX1_isBesideWreck 18 = .ok (.ifCond .eq 13, 3) := by decide +kernel
theorem dX1_isBesideWreck_21 : decode cX1_isBesideWreck 21 = .ok (.aload_n 0, 1) := by decide +kernel
theorem dX1_isBesideWreck_22 : decode cX1_isBesideWreck 22 = .ok (.iload_n 3, 1) := by decide +kernel
theorem dX1_isBesideWreck_23 : decode cX1_isBesideWreck 23 = .ok (.invokevirtual 35, 3) := by decide +kernel
theorem dX1_isBesideWreck_26 : decode cX1_isBesideWreck 26 = .ok (.ifCond .ne 5, 3) := by decide +kernel
theorem dX1_isBesideWreck_29 : decode cX1_isBesideWreck 29 = .ok (.iconst 1, 1) := by decide +kernel
theorem dX1_isBesideWreck_30 : decode cX1_isBesideWreck 30 = .ok (.ireturn, 1) := by decide +kernel
theorem dX1_isBesideWreck_31 : decode cX1_isBesideWreck 31 = .ok (.iinc 2 1, 3) := by decide +kernel
theorem dX1_isBesideWreck_34 : decode cX1_isBesideWreck 34 = .ok (.goto (-32), 3) := by decide +kernel
theorem dX1_isBesideWreck_37 : decode cX1_isBesideWreck 37 = .ok (.iconst 0, 1) := by decide +kernel
theorem dX1_isBesideWreck_38 : decode cX1_isBesideWreck 38 = .ok (.ireturn, 1) := by decide +kernel
theorem dX1_stepsToPort_0 : decode cX1_stepsToPort 0 = .ok (.bipush (-9), 2) := by decide +kernel
theorem dX1_stepsToPort_2 : decode cX1_stepsToPort 2 = .ok (.istore_n 2, 1) := by decide +kernel
theorem dX1_stepsToPort_3 : decode cX1_stepsToPort 3 = .ok (.iconst 0, 1) := by decide +kernel
theorem dX1_stepsToPort_4 : decode cX1_stepsToPort 4 = .ok (.istore_n 3, 1) := by decide +kernel
theorem dX1_stepsToPort_5 : decode cX1_stepsToPort 5 = .ok (.iload_n 3, 1) := by decide +kernel
theorem dX1_stepsToPort_6 : decode cX1_stepsToPort 6 = .ok (.bipush 36, 2) := by decide +kernel
theorem dX1_stepsToPort_8 : decode cX1_stepsToPort 8 = .ok (.if_icmp .ge 63, 3) := by decide +kernel
theorem dX1_stepsToPort_11 : decode cX1_stepsToPort 11 = .ok (.aload_n 0, 1) := by decide +kernel
theorem dX1_stepsToPort_12 : decode cX1_stepsToPort 12 = .ok (.iload_n 3, 1) := by decide +kernel
theorem dX1_stepsToPort_13 : decode cX1_stepsToPort 13 = .ok (.invokevirtual 42, 3) := by decide +kernel
theorem dX1_stepsToPort_16 : decode cX1_stepsToPort 16 = .ok (.iconst 5, 1) := by decide +kernel
theorem dX1_stepsToPort_17 : decode cX1_stepsToPort 17 = .ok (.if_icmp .eq 6, 3) := by decide +kernel
theorem dX1_stepsToPort_20 : decode cX1_stepsToPort 20 = .ok (.goto 45, 3) := by decide +kernel
theorem dX1_stepsToPort_23 : decode cX1_stepsToPort 23 = .ok (.iload_n 3, 1) := by decide +kernel
theorem dX1_stepsToPort_24 : decode cX1_stepsToPort 24 = .ok (.bipush 6, 2) := by decide +kernel
theorem dX1_stepsToPort_26 : decode cX1_stepsToPort 26 = .ok (.idiv, 1) := by decide +kernel
theorem dX1_stepsToPort_27 : decode cX1_stepsToPort 27 = .ok (.iload_n 1, 1) := by decide +kernel
theorem dX1_stepsToPort_28 : decode cX1_stepsToPort 28 = .ok (.bipush 6, 2) := by decide +kernel
theorem dX1_stepsToPort_30 : decode cX1_stepsToPort 30 = .ok (.idiv, 1) := by decide +kernel
theorem dX1_stepsToPort_31 : decode cX1_stepsToPort 31 = .ok (.isub, 1) := by decide +kernel
theorem dX1_stepsToPort_32 : decode cX1_stepsToPort 32 = .ok (.invokestatic 49, 3) := by decide +kernel
theorem dX1_stepsToPort_35 : decode cX1_stepsToPort 35 = .ok (.iload_n 3, 1) := by decide +kernel
theorem dX1_stepsToPort_36 : decode cX1_stepsToPort 36 = .ok (.bipush 6, 2) := by decide +kernel
theorem dX1_stepsToPort_38 : decode cX1_stepsToPort 38 = .ok (.irem, 1) := by decide +kernel
theorem dX1_stepsToPort_39 : decode cX1_stepsToPort 39 = .ok (.iload_n 1, 1) := by decide +kernel
theorem dX1_stepsToPort_40 : decode cX1_stepsToPort 40 = .ok (.bipush 6, 2) := by decide +kernel
theorem dX1_stepsToPort_42 : decode cX1_stepsToPort 42 = .ok (.irem, 1) := by decide +kernel
theorem dX1_stepsToPort_43 : decode cX1_stepsToPort 43 = .ok (.isub, 1) := by decide +kernel
theorem dX1_stepsToPort_44 : decode cX1_stepsToPort 44 = .ok (.invokestatic 49, 3) := by decide +kernel
theorem dX1_stepsToPort_47 : decode cX1_stepsToPort 47 = .ok (.iadd, 1) := by decide +kernel
theorem dX1_stepsToPort_48 : decode cX1_stepsToPort 48 = .ok (.istore 4, 2) := by decide +kernel
theorem dX1_stepsToPort_50 : decode cX1_stepsToPort 50 = .ok (.iload_n 2, 1) := by decide +kernel
theorem dX1_stepsToPort_51 : decode cX1_stepsToPort 51 = .ok (.bipush (-9), 2) := by decide +kernel
theorem dX1_stepsToPort_53 : decode cX1_stepsToPort 53 = .ok (.if_icmp .eq 9, 3) := by decide +kernel
theorem dX1_stepsToPort_56 : decode cX1_stepsToPort 56 = .ok (.iload 4, 2) := by decide +kernel
theorem dX1_stepsToPort_58 : decode cX1_stepsToPort 58 = .ok (.iload_n 2, 1) := by decide +kernel
theorem dX1_stepsToPort_59 : decode cX1_stepsToPort 59 = .ok (.if_icmp .ge 6, 3) := by decide +kernel
theorem dX1_stepsToPort_62 : decode cX1_stepsToPort 62 = .ok (.iload 4, 2) := by decide +kernel
theorem dX1_stepsToPort_64 : decode cX1_stepsToPort 64 = .ok (.istore_n 2, 1) := by decide +kernel
theorem dX1_stepsToPort_65 : decode cX1_stepsToPort 65 = .ok (.iinc 3 1, 3) := by decide +kernel
theorem dX1_stepsToPort_68 : decode cX1_stepsToPort 68 = .ok (.goto (-63), 3) := by decide +kernel
theorem dX1_stepsToPort_71 : decode cX1_stepsToPort 71 = .ok (.iload_n 2, 1) := by decide +kernel
theorem dX1_stepsToPort_72 : decode cX1_stepsToPort 72 = .ok (.ireturn, 1) := by decide +kernel
theorem dX1_squareOfDraw_0 : decode cX1_squareOfDraw 0 = .ok (.iload_n 1, 1) := by decide +kernel
theorem dX1_squareOfDraw_1 : decode cX1_squareOfDraw 1 = .ok (.istore_n 2, 1) := by decide +kernel
theorem dX1_squareOfDraw_2 : decode cX1_squareOfDraw 2 = .ok (.iconst 0, 1) := by decide +kernel
theorem dX1_squareOfDraw_3 : decode cX1_squareOfDraw 3 = .ok (.istore_n 3, 1) := by decide +kernel
theorem dX1_squareOfDraw_4 : decode cX1_squareOfDraw 4 = .ok (.iload_n 3, 1) := by decide +kernel
theorem dX1_squareOfDraw_5 : decode cX1_squareOfDraw 5 = .ok (.bipush 36, 2) := by decide +kernel
theorem dX1_squareOfDraw_7 : decode cX1_squareOfDraw 7 = .ok (.if_icmp .ge 23, 3) := by decide +kernel
theorem dX1_squareOfDraw_10 : decode cX1_squareOfDraw 10 = .ok (.iload_n 2, 1) := by decide +kernel
theorem dX1_squareOfDraw_11 : decode cX1_squareOfDraw 11 = .ok (.aload_n 0, 1) := by decide +kernel
theorem dX1_squareOfDraw_12 : decode cX1_squareOfDraw 12 = .ok (.iload_n 3, 1) := by decide +kernel
theorem dX1_squareOfDraw_13 : decode cX1_squareOfDraw 13 = .ok (.invokevirtual 54, 3) := by decide +kernel
theorem dX1_squareOfDraw_16 : decode cX1_squareOfDraw 16 = .ok (.isub, 1) := by decide +kernel
theorem dX1_squareOfDraw_17 : decode cX1_squareOfDraw 17 = .ok (.istore_n 2, 1) := by decide +kernel
theorem dX1_squareOfDraw_18 : decode cX1_squareOfDraw 18 = .ok (.iload_n 2, 1) := by decide +kernel
theorem dX1_squareOfDraw_19 : decode cX1_squareOfDraw 19 = .ok (.ifCond .ge 5, 3) := by decide +kernel
theorem dX1_squareOfDraw_22 : decode cX1_squareOfDraw 22 = .ok (.iload_n 3, 1) := by decide +kernel
theorem dX1_squareOfDraw_23 : decode cX1_squareOfDraw 23 = .ok (.ireturn, 1) := by decide +kernel
theorem dX1_squareOfDraw_24 : decode cX1_squareOfDraw 24 = .ok (.iinc 3 1, 3) := by decide +kernel
theorem dX1_squareOfDraw_27 : decode cX1_squareOfDraw 27 = .ok (.goto (-23), 3) := by decide +kernel
theorem dX1_squareOfDraw_30 : decode cX1_squareOfDraw 30 = .ok (.iconst (-1), 1) := by decide +kernel
theorem dX1_squareOfDraw_31 : decode cX1_squareOfDraw 31 = .ok (.ireturn, 1) := by decide +kernel
theorem dX2_init_0 : decode cX2_init 0 = .ok (.aload_n 0, 1) := by decide +kernel
theorem dX2_init_1 : decode cX2_init 1 = .ok (.invokespecial 3, 3) := by decide +kernel
theorem dX2_init_4 : decode cX2_init 4 = .ok (.aload_n 0, 1) := by decide +kernel
theorem dX2_init_5 : decode cX2_init 5 = .ok (.bipush 36, 2) := by decide +kernel
theorem dX2_init_7 : decode cX2_init 7 = .ok (.newarray .int, 2) := by decide +kernel
theorem dX2_init_9 : decode cX2_init 9 = .ok (.putfield 9, 3) := by decide +kernel
theorem dX2_init_12 : decode cX2_init 12 = .ok (.return_, 1) := by decide +kernel
theorem dX2_search_0 : decode cX2_search 0 = .ok (.iconst 0, 1) := by decide +kernel
theorem dX2_search_1 : decode cX2_search 1 = .ok (.istore_n 3, 1) := by decide +kernel
theorem dX2_search_2 : decode cX2_search 2 = .ok (.iload_n 3, 1) := by decide +kernel
theorem dX2_search_3 : decode cX2_search 3 = .ok (.bipush 36, 2) := by decide +kernel
theorem dX2_search_5 : decode cX2_search 5 = .ok (.if_icmp .ge 17, 3) := by decide +kernel
theorem dX2_search_8 : decode cX2_search 8 = .ok (.aload_n 0, 1) := by decide +kernel
theorem dX2_search_9 : decode cX2_search 9 = .ok (.getfield 9, 3) := by decide +kernel
theorem dX2_search_12 : decode cX2_search 12 = .ok (.iload_n 3, 1) := by decide +kernel
theorem dX2_search_13 : decode cX2_search 13 = .ok (.bipush (-9), 2) := by decide +kernel
theorem dX2_search_15 : decode cX2_search 15 = .ok (.iastore, 1) := by decide +kernel
theorem dX2_search_16 : decode cX2_search 16 = .ok (.iinc 3 1, 3) := by decide +kernel
theorem dX2_search_19 : decode cX2_search 19 = .ok (.goto (-17), 3) := by decide +kernel
theorem dX2_search_22 : decode cX2_search 22 = .ok (.aload_n 2, 1) := by decide +kernel
theorem dX2_search_23 : decode cX2_search 23 = .ok (.aload_n 1, 1) := by decide +kernel
theorem dX2_search_24 : decode cX2_search 24 = .ok (.aload_n 1, 1) := by decide +kernel
theorem dX2_search_25 : decode cX2_search 25 = .ok (.iconst 0, 1) := by decide +kernel
theorem dX2_search_26 : decode cX2_search 26 = .ok (.invokevirtual 15, 3) := by decide +kernel
theorem dX2_search_29 : decode cX2_search 29 = .ok (.invokevirtual 21, 3) := by decide +kernel
theorem dX2_search_32 : decode cX2_search 32 = .ok (.iconst 0, 1) := by decide +kernel
theorem dX2_search_33 : decode cX2_search 33 = .ok (.istore_n 3, 1) := by decide +kernel
theorem dX2_search_34 : decode cX2_search 34 = .ok (.iconst 0, 1) := by decide +kernel
theorem dX2_search_35 : decode cX2_search 35 = .ok (.istore 4, 2) := by decide +kernel
theorem dX2_search_37 : decode cX2_search 37 = .ok (.iload 4, 2) := by decide +kernel
theorem dX2_search_39 : decode cX2_search 39 = .ok (.bipush 36, 2) := by decide +kernel
theorem dX2_search_41 : decode cX2_search 41 = .ok (.if_icmp .ge 52, 3) := by decide +kernel
theorem dX2_search_44 : decode cX2_search 44 = .ok (.aload_n 0, 1) := by decide +kernel
theorem dX2_search_45 : decode cX2_search 45 = .ok (.aload_n 1, 1) := by decide +kernel
theorem dX2_search_46 : decode cX2_search 46 = .ok (.aload_n 2, 1) := by decide +kernel
theorem dX2_search_47 : decode cX2_search 47 = .ok (.invokevirtual 27, 3) := by decide +kernel
theorem dX2_search_50 : decode cX2_search 50 = .ok (.istore 5, 2) := by decide +kernel
theorem dX2_search_52 : decode cX2_search 52 = .ok (.iload 5, 2) := by decide +kernel
theorem dX2_search_54 : decode cX2_search 54 = .ok (.invokestatic 31, 3) := by decide +kernel
theorem dX2_search_57 : decode cX2_search 57 = .ok (.ifCond .ne 4, 3) := by decide +kernel
theorem dX2_search_60 : decode cX2_search 60 = .ok (.return_, 1) := by decide +kernel
theorem dX2_search_61 : decode cX2_search 61 = .ok (.aload_n 0, 1) := by decide +kernel
theorem dX2_search_62 : decode cX2_search 62 = .ok (.getfield 9, 3) := by decide +kernel
theorem dX2_search_65 : decode cX2_search 65 = .ok (.iload 5, 2) := by decide +kernel
theorem dX2_search_67 : decode cX2_search 67 = .ok (.iload_n 3, 1) := by decide +kernel
theorem dX2_search_68 : decode cX2_search 68 = .ok (.aload_n 2, 1) := by decide +kernel
theorem dX2_search_69 : decode cX2_search 69 = .ok (.iload 5, 2) := by decide +kernel
theorem dX2_search_71 : decode cX2_search 71 = .ok (.invokevirtual 35, 3) := by decide +kernel
theorem dX2_search_74 : decode cX2_search 74 = .ok (.iadd, 1) := by decide +kernel
theorem dX2_search_75 : decode cX2_search 75 = .ok (.iastore, 1) := by decide +kernel
theorem dX2_search_76 : decode cX2_search 76 = .ok (.iload_n 3, 1) := by decide +kernel
theorem dX2_search_77 : decode cX2_search 77 = .ok (.iconst 2, 1) := by decide +kernel
theorem dX2_search_78 : decode cX2_search 78 = .ok (.aload_n 2, 1) := by decide +kernel
theorem dX2_search_79 : decode cX2_search 79 = .ok (.iload 5, 2) := by decide +kernel
theorem dX2_search_81 : decode cX2_search 81 = .ok (.invokevirtual 35, 3) := by decide +kernel
theorem dX2_search_84 : decode cX2_search 84 = .ok (.imul, 1) := by decide +kernel
theorem dX2_search_85 : decode cX2_search 85 = .ok (.iadd, 1) := by decide +kernel
theorem dX2_search_86 : decode cX2_search 86 = .ok (.istore_n 3, 1) := by decide +kernel
theorem dX2_search_87 : decode cX2_search 87 = .ok (.iinc 4 1, 3) := by decide +kernel
theorem dX2_search_90 : decode cX2_search 90 = .ok (.goto (-53), 3) := by decide +kernel
theorem dX2_search_93 : decode cX2_search 93 = .ok (.return_, 1) := by decide +kernel
theorem dX2_nextOf_0 : decode cX2_nextOf 0 = .ok (.iconst (-1), 1) := by decide +kernel
theorem dX2_nextOf_1 : decode cX2_nextOf 1 = .ok (.istore_n 3, 1) := by decide +kernel
theorem dX2_nextOf_2 : decode cX2_nextOf 2 = .ok (.iconst 0, 1) := by decide +kernel
theorem dX2_nextOf_3 : decode cX2_nextOf 3 = .ok (.istore 4, 2) := by decide +kernel
theorem dX2_nextOf_5 : decode cX2_nextOf 5 = .ok (.iload 4, 2) := by decide +kernel
theorem dX2_nextOf_7 : decode cX2_nextOf 7 = .ok (.bipush 36, 2) := by decide +kernel
theorem dX2_nextOf_9 : decode cX2_nextOf 9 = .ok (.if_icmp .ge 76, 3) := by decide +kernel
theorem dX2_nextOf_12 : decode cX2_nextOf 12 = .ok (.aload_n 0, 1) := by decide +kernel
theorem dX2_nextOf_13 : decode cX2_nextOf 13 = .ok (.getfield 9, 3) := by decide +kernel
theorem dX2_nextOf_16 : decode cX2_nextOf 16 = .ok (.iload 4, 2) := by decide +kernel
theorem dX2_nextOf_18 : decode cX2_nextOf 18 = .ok (.iaload, 1) := by decide +kernel
theorem dX2_nextOf_19 : decode cX2_nextOf 19 = .ok (.bipush (-9), 2) := by decide +kernel
theorem dX2_nextOf_21 : decode cX2_nextOf 21 = .ok (.if_icmp .ne 25, 3) := by decide +kernel
theorem dX2_nextOf_24 : decode cX2_nextOf 24 = .ok (.aload_n 1, 1) := by decide +kernel
theorem dX2_nextOf_25 : decode cX2_nextOf 25 = .ok (.iload 4, 2) := by decide +kernel
theorem dX2_nextOf_27 : decode cX2_nextOf 27 = .ok (.invokevirtual 38, 3) := by decide +kernel
theorem dX2_nextOf_30 : decode cX2_nextOf 30 = .ok (.ifCond .le 16, 3) := by decide +kernel
theorem dX2_nextOf_33 : decode cX2_nextOf 33 = .ok (.aload_n 2, 1) := by decide +kernel
theorem dX2_nextOf_34 : decode cX2_nextOf 34 = .ok (.iload 4, 2) := by decide +kernel
theorem dX2_nextOf_36 : decode cX2_nextOf 36 = .ok (.invokevirtual 41, 3) := by decide +kernel
theorem dX2_nextOf_39 : decode cX2_nextOf 39 = .ok (.ifCond .eq 7, 3) := by decide +kernel
theorem dX2_nextOf_42 : decode cX2_nextOf 42 = .ok (.iconst 1, 1) := by decide +kernel
theorem dX2_nextOf_43 : decode cX2_nextOf 43 = .ok (.goto 4, 3) := by decide +kernel
theorem dX2_nextOf_46 : decode cX2_nextOf 46 = .ok (.iconst 0, 1) := by decide +kernel
theorem dX2_nextOf_47 : decode cX2_nextOf 47 = .ok (.istore 5, 2) := by decide +kernel
theorem dX2_nextOf_49 : decode cX2_nextOf 49 = .ok (.iload 5, 2) := by decide +kernel
theorem dX2_nextOf_51 : decode cX2_nextOf 51 = .ok (.ifCond .ne 6, 3) := by decide +kernel
theorem dX2_nextOf_54 : decode cX2_nextOf 54 = .ok (.goto 25, 3) := by decide +kernel
theorem dX2_nextOf_57 : decode cX2_nextOf 57 = .ok (.iload_n 3, 1) := by decide +kernel
theorem dX2_nextOf_58 : decode cX2_nextOf 58 = .ok (.iconst (-1), 1) := by decide +kernel
theorem dX2_nextOf_59 : decode cX2_nextOf 59 = .ok (.if_icmp .eq 17, 3) := by decide +kernel
theorem dX2_nextOf_62 : decode cX2_nextOf 62 = .ok (.aload_n 2, 1) := by decide +kernel
theorem dX2_nextOf_63 : decode cX2_nextOf 63 = .ok (.iload 4, 2) := by decide +kernel
theorem dX2_nextOf_65 : decode cX2_nextOf 65 = .ok (.invokevirtual 35, 3) := by decide +kernel
theorem dX2_nextOf_68 : decode cX2_nextOf 68 = .ok (.aload_n 2, 1) := by decide +kernel
theorem dX2_nextOf_69 : decode cX2_nextOf 69 = .ok (.iload_n 3, 1) := by decide +kernel
theorem dX2_nextOf_70 : decode cX2_nextOf 70 = .ok (.invokevirtual 35, 3) := by decide +kernel
theorem dX2_nextOf_73 : decode cX2_nextOf 73 = .ok (.if_icmp .ge 6, 3) := by decide +kernel
theorem dX2_nextOf_76 : decode cX2_nextOf 76 = .ok (.iload 4, 2) := by decide +kernel
theorem dX2_nextOf_78 : decode cX2_nextOf 78 = .ok (.istore_n 3, 1) := by decide +kernel
theorem dX2_nextOf_79 : decode cX2_nextOf 79 = .ok (.iinc 4 1, 3) := by decide +kernel
theorem dX2_nextOf_82 : decode cX2_nextOf 82 = .ok (.goto (-77), 3) := by decide +kernel
theorem dX2_nextOf_85 : decode cX2_nextOf 85 = .ok (.iload_n 3, 1) := by decide +kernel
theorem dX2_nextOf_86 : decode cX2_nextOf 86 = .ok (.ireturn, 1) := by decide +kernel
theorem dX2_daysUntil_0 : decode cX2_daysUntil 0 = .ok (.iload_n 1, 1) := by decide +kernel
theorem dX2_daysUntil_1 : decode cX2_daysUntil 1 = .ok (.invokestatic 31, 3) := by decide +kernel
theorem dX2_daysUntil_4 : decode cX2_daysUntil 4 = .ok (.ifCond .eq 12, 3) := by decide +kernel
theorem dX2_daysUntil_7 : decode cX2_daysUntil 7 = .ok (.aload_n 0, 1) := by decide +kernel
theorem dX2_daysUntil_8 : decode cX2_daysUntil 8 = .ok (.getfield 9, 3) := by decide +kernel
theorem dX2_daysUntil_11 : decode cX2_daysUntil 11 = .ok (.iload_n 1, 1) := by decide +kernel
theorem dX2_daysUntil_12 : decode cX2_daysUntil 12 = .ok (.iaload, 1) := by decide +kernel
theorem dX2_daysUntil_13 : decode cX2_daysUntil 13 = .ok (.goto 5, 3) := by decide +kernel
theorem dX2_daysUntil_16 : decode cX2_daysUntil 16 = .ok (.bipush (-9), 2) := by decide +kernel
theorem dX2_daysUntil_18 : decode cX2_daysUntil 18 = .ok (.ireturn, 1) := by decide +kernel
theorem dX2_sumByLikely_0 : decode cX2_sumByLikely 0 = .ok (.lconst 0, 1) := by decide +kernel
theorem dX2_sumByLikely_1 : decode cX2_sumByLikely 1 = .ok (.lstore_n 2, 1) := by decide +kernel
theorem dX2_sumByLikely_2 : decode cX2_sumByLikely 2 = .ok (.iconst 0, 1) := by decide +kernel
theorem dX2_sumByLikely_3 : decode cX2_sumByLikely 3 = .ok (.istore 4, 2) := by decide +kernel
theorem dX2_sumByLikely_5 : decode cX2_sumByLikely 5 = .ok (.iload 4, 2) := by decide +kernel
theorem dX2_sumByLikely_7 : decode cX2_sumByLikely 7 = .ok (.bipush 36, 2) := by decide +kernel
theorem dX2_sumByLikely_9 : decode cX2_sumByLikely 9 = .ok (.if_icmp .ge 40, 3) := by decide +kernel
theorem dX2_sumByLikely_12 : decode cX2_sumByLikely 12 = .ok (.aload_n 0, 1) := by decide +kernel
theorem dX2_sumByLikely_13 : decode cX2_sumByLikely 13 = .ok (.getfield 9, 3) := by decide +kernel
theorem dX2_sumByLikely_16 : decode cX2_sumByLikely 16 = .ok (.iload 4, 2) := by decide +kernel
theorem dX2_sumByLikely_18 : decode cX2_sumByLikely 18 = .ok (.iaload, 1) := by decide +kernel
theorem dX2_sumByLikely_19 : decode cX2_sumByLikely 19 = .ok (.bipush (-9), 2) := by decide +kernel
theorem dX2_sumByLikely_21 : decode cX2_sumByLikely 21 = .ok (.if_icmp .eq 22, 3) := by decide +kernel
theorem dX2_sumByLikely_24 : decode cX2_sumByLikely 24 = .ok (.lload_n 2, 1) := by decide +kernel
theorem dX2_sumByLikely_25 : decode cX2_sumByLikely 25 = .ok (.aload_n 1, 1) := by decide +kernel
theorem dX2_sumByLikely_26 : decode cX2_sumByLikely 26 = .ok (.iload 4, 2) := by decide +kernel
theorem dX2_sumByLikely_28 : decode cX2_sumByLikely 28 = .ok (.invokevirtual 38, 3) := by decide +kernel
theorem dX2_sumByLikely_31 : decode cX2_sumByLikely 31 = .ok (.i2l, 1) := by decide +kernel
theorem dX2_sumByLikely_32 : decode cX2_sumByLikely 32 = .ok (.aload_n 0, 1) := by decide +kernel
theorem dX2_sumByLikely_33 : decode cX2_sumByLikely 33 = .ok (.getfield 9, 3) := by decide +kernel
theorem dX2_sumByLikely_36 : decode cX2_sumByLikely 36 = .ok (.iload 4, 2) := by decide +kernel
theorem dX2_sumByLikely_38 : decode cX2_sumByLikely 38 = .ok (.iaload, 1) := by decide +kernel
theorem dX2_sumByLikely_39 : decode cX2_sumByLikely 39 = .ok (.i2l, 1) := by decide +kernel
theorem dX2_sumByLikely_40 : decode cX2_sumByLikely 40 = .ok (.lmul, 1) := by decide +kernel
theorem dX2_sumByLikely_41 : decode cX2_sumByLikely 41 = .ok (.ladd, 1) := by decide +kernel
theorem dX2_sumByLikely_42 : decode cX2_sumByLikely 42 = .ok (.lstore_n 2, 1) := by decide +kernel
theorem dX2_sumByLikely_43 : decode cX2_sumByLikely 43 = .ok (.iinc 4 1, 3) := by decide +kernel
theorem dX2_sumByLikely_46 : decode cX2_sumByLikely 46 = .ok (.goto (-41), 3) := by decide +kernel
theorem dX2_sumByLikely_49 : decode cX2_sumByLikely 49 = .ok (.lload_n 2, 1) := by decide +kernel
theorem dX2_sumByLikely_50 : decode cX2_sumByLikely 50 = .ok (.lreturn, 1) := by decide +kernel
theorem dX2_weightFound_0 : decode cX2_weightFound 0 = .ok (.lconst 0, 1) := by decide +kernel
theorem dX2_weightFound_1 : decode cX2_weightFound 1 = .ok (.lstore_n 2, 1) := by decide +kernel
theorem dX2_weightFound_2 : decode cX2_weightFound 2 = .ok (.iconst 0, 1) := by decide +kernel
theorem dX2_weightFound_3 : decode cX2_weightFound 3 = .ok (.istore 4, 2) := by decide +kernel
theorem dX2_weightFound_5 : decode cX2_weightFound 5 = .ok (.iload 4, 2) := by decide +kernel
theorem dX2_weightFound_7 : decode cX2_weightFound 7 = .ok (.bipush 36, 2) := by decide +kernel
theorem dX2_weightFound_9 : decode cX2_weightFound 9 = .ok (.if_icmp .ge 31, 3) := by decide +kernel
theorem dX2_weightFound_12 : decode cX2_weightFound 12 = .ok (.aload_n 0, 1) := by decide +kernel
theorem dX2_weightFound_13 : decode cX2_weightFound 13 = .ok (.getfield 9, 3) := by decide +kernel
theorem dX2_weightFound_16 : decode cX2_weightFound 16 = .ok (.iload 4, 2) := by decide +kernel
theorem dX2_weightFound_18 : decode cX2_weightFound 18 = .ok (.iaload, 1) := by decide +kernel
theorem dX2_weightFound_19 : decode cX2_weightFound 19 = .ok (.bipush (-9), 2) := by decide +kernel
theorem dX2_weightFound_21 : decode cX2_weightFound 21 = .ok (.if_icmp .eq 13, 3) := by decide +kernel
theorem dX2_weightFound_24 : decode cX2_weightFound 24 = .ok (.lload_n 2, 1) := by decide +kernel
theorem dX2_weightFound_25 : decode cX2_weightFound 25 = .ok (.aload_n 1, 1) := by decide +kernel
theorem dX2_weightFound_26 : decode cX2_weightFound 26 = .ok (.iload 4, 2) := by decide +kernel
theorem dX2_weightFound_28 : decode cX2_weightFound 28 = .ok (.invokevirtual 38, 3) := by decide +kernel
theorem dX2_weightFound_31 : decode cX2_weightFound 31 = .ok (.i2l, 1) := by decide +kernel
theorem dX2_weightFound_32 : decode cX2_weightFound 32 = .ok (.ladd, 1) := by decide +kernel
theorem dX2_weightFound_33 : decode cX2_weightFound 33 = .ok (.lstore_n 2, 1) := by decide +kernel
theorem dX2_weightFound_34 : decode cX2_weightFound 34 = .ok (.iinc 4 1, 3) := by decide +kernel
theorem dX2_weightFound_37 : decode cX2_weightFound 37 = .ok (.goto (-32), 3) := by decide +kernel
theorem dX2_weightFound_40 : decode cX2_weightFound 40 = .ok (.lload_n 2, 1) := by decide +kernel
theorem dX2_weightFound_41 : decode cX2_weightFound 41 = .ok (.lreturn, 1) := by decide +kernel
theorem dX3_init_0 : decode cX3_init 0 = .ok (.aload_n 0, 1) := by decide +kernel
theorem dX3_init_1 : decode cX3_init 1 = .ok (.invokespecial 3, 3) := by decide +kernel
theorem dX3_init_4 : decode cX3_init 4 = .ok (.aload_n 0, 1) := by decide +kernel
theorem dX3_init_5 : decode cX3_init 5 = .ok (.sipush 216, 3) := by decide +kernel
theorem dX3_init_8 : decode cX3_init 8 = .ok (.newarray .int, 2) := by decide +kernel
theorem dX3_init_10 : decode cX3_init 10 = .ok (.putfield 9, 3) := by decide +kernel
theorem dX3_init_13 : decode cX3_init 13 = .ok (.return_, 1) := by decide +kernel
theorem dX3_read_0 : decode cX3_read 0 = .ok (.aload_n 2, 1) := by decide +kernel
theorem dX3_read_1 : decode cX3_read 1 = .ok (.aload_n 1, 1) := by decide +kernel
theorem dX3_read_2 : decode cX3_read 2 = .ok (.aload_n 1, 1) := by decide +kernel
theorem dX3_read_3 : decode cX3_read 3 = .ok (.iconst 0, 1) := by decide +kernel
theorem dX3_read_4 : decode cX3_read 4 = .ok (.invokevirtual 15, 3) := by decide +kernel
theorem dX3_read_7 : decode cX3_read 7 = .ok (.invokevirtual 21, 3) := by decide +kernel
theorem dX3_read_10 : decode cX3_read 10 = .ok (.iconst 0, 1) := by decide +kernel
theorem dX3_read_11 : decode cX3_read 11 = .ok (.istore_n 3, 1) := by decide +kernel
theorem dX3_read_12 : decode cX3_read 12 = .ok (.iload_n 3, 1) := by decide +kernel
theorem dX3_read_13 : decode cX3_read 13 = .ok (.bipush 36, 2) := by decide +kernel
theorem dX3_read_15 : decode cX3_read 15 = .ok (.if_icmp .ge 73, 3) := by decide +kernel
theorem dX3_read_18 : decode cX3_read 18 = .ok (.aload_n 0, 1) := by decide +kernel
theorem dX3_read_19 : decode cX3_read 19 = .ok (.iconst 0, 1) := by decide +kernel
theorem dX3_read_20 : decode cX3_read 20 = .ok (.iload_n 3, 1) := by decide +kernel
theorem dX3_read_21 : decode cX3_read 21 = .ok (.aload_n 2, 1) := by decide +kernel
theorem dX3_read_22 : decode cX3_read 22 = .ok (.iload_n 3, 1) := by decide +kernel
theorem dX3_read_23 : decode cX3_read 23 = .ok (.invokevirtual 27, 3) := by decide +kernel
theorem dX3_read_26 : decode cX3_read 26 = .ok (.invokevirtual 30, 3) := by decide +kernel
theorem dX3_read_29 : decode cX3_read 29 = .ok (.aload_n 0, 1) := by decide +kernel
theorem dX3_read_30 : decode cX3_read 30 = .ok (.iconst 1, 1) := by decide +kernel
theorem dX3_read_31 : decode cX3_read 31 = .ok (.iload_n 3, 1) := by decide +kernel
theorem dX3_read_32 : decode cX3_read 32 = .ok (.aload_n 2, 1) := by decide +kernel
theorem dX3_read_33 : decode cX3_read 33 = .ok (.iload_n 3, 1) := by decide +kernel
theorem dX3_read_34 : decode cX3_read 34 = .ok (.invokevirtual 27, 3) := by decide +kernel
theorem dX3_read_37 : decode cX3_read 37 = .ok (.invokevirtual 30, 3) := by decide +kernel
theorem dX3_read_40 : decode cX3_read 40 = .ok (.aload_n 0, 1) := by decide +kernel
theorem dX3_read_41 : decode cX3_read 41 = .ok (.iconst 2, 1) := by decide +kernel
theorem dX3_read_42 : decode cX3_read 42 = .ok (.iload_n 3, 1) := by decide +kernel
theorem dX3_read_43 : decode cX3_read 43 = .ok (.iload_n 3, 1) := by decide +kernel
theorem dX3_read_44 : decode cX3_read 44 = .ok (.bipush 6, 2) := by decide +kernel
theorem dX3_read_46 : decode cX3_read 46 = .ok (.idiv, 1) := by decide +kernel
theorem dX3_read_47 : decode cX3_read 47 = .ok (.invokevirtual 30, 3) := by decide +kernel
theorem dX3_read_50 : decode cX3_read 50 = .ok (.aload_n 0, 1) := by decide +kernel
theorem dX3_read_51 : decode cX3_read 51 = .ok (.iconst 3, 1) := by decide +kernel
theorem dX3_read_52 : decode cX3_read 52 = .ok (.iload_n 3, 1) := by decide +kernel
theorem dX3_read_53 : decode cX3_read 53 = .ok (.iload_n 3, 1) := by decide +kernel
theorem dX3_read_54 : decode cX3_read 54 = .ok (.bipush 6, 2) := by decide +kernel
theorem dX3_read_56 : decode cX3_read 56 = .ok (.irem, 1) := by decide +kernel
theorem dX3_read_57 : decode cX3_read 57 = .ok (.invokevirtual 30, 3) := by decide +kernel
theorem dX3_read_60 : decode cX3_read 60 = .ok (.aload_n 0, 1) := by decide +kernel
theorem dX3_read_61 : decode cX3_read 61 = .ok (.iconst 4, 1) := by decide +kernel
theorem dX3_read_62 : decode cX3_read 62 = .ok (.iload_n 3, 1) := by decide +kernel
theorem dX3_read_63 : decode cX3_read 63 = .ok (.aload_n 1, 1) := by decide +kernel
theorem dX3_read_64 : decode cX3_read 64 = .ok (.iload_n 3, 1) := by decide +kernel
theorem dX3_read_65 : decode cX3_read 65 = .ok (.invokevirtual 34, 3) := by decide +kernel
theorem dX3_read_68 : decode cX3_read 68 = .ok (.invokevirtual 30, 3) := by decide +kernel
theorem dX3_read_71 : decode cX3_read 71 = .ok (.aload_n 0, 1) := by decide +kernel
theorem dX3_read_72 : decode cX3_read 72 = .ok (.iconst 5, 1) := by decide +kernel
theorem dX3_read_73 : decode cX3_read 73 = .ok (.iload_n 3, 1) := by decide +kernel
theorem dX3_read_74 : decode cX3_read 74 = .ok (.aload_n 1, 1) := by decide +kernel
theorem dX3_read_75 : decode cX3_read 75 = .ok (.iload_n 3, 1) := by decide +kernel
theorem dX3_read_76 : decode cX3_read 76 = .ok (.invokevirtual 37, 3) := by decide +kernel
theorem dX3_read_79 : decode cX3_read 79 = .ok (.invokevirtual 30, 3) := by decide +kernel
theorem dX3_read_82 : decode cX3_read 82 = .ok (.iinc 3 1, 3) := by decide +kernel
theorem dX3_read_85 : decode cX3_read 85 = .ok (.goto (-73), 3) := by decide +kernel
theorem dX3_read_88 : decode cX3_read 88 = .ok (.return_, 1) := by decide +kernel
theorem dX3_put_0 : decode cX3_put 0 = .ok (.iload_n 1, 1) := by decide +kernel
theorem dX3_put_1 : decode cX3_put 1 = .ok (.invokestatic 40, 3) := by decide +kernel
theorem dX3_put_4 : decode cX3_put 4 = .ok (.ifCond .eq 22, 3) := by decide +kernel
theorem dX3_put_7 : decode cX3_put 7 = .ok (.iload_n 2, 1) := by decide +kernel
theorem dX3_put_8 : decode cX3_put 8 = .ok (.invokestatic 44, 3) := by decide +kernel
theorem dX3_put_11 : decode cX3_put 11 = .ok (.ifCond .eq 15, 3) := by decide +kernel
theorem dX3_put_14 : decode cX3_put 14 = .ok (.aload_n 0, 1) := by decide +kernel
theorem dX3_put_15 : decode cX3_put 15 = .ok (.getfield 9, 3) := by decide +kernel
theorem dX3_put_18 : decode cX3_put 18 = .ok (.iload_n 1, 1) := by decide +kernel
theorem dX3_put_19 : decode cX3_put 19 = .ok (.bipush 36, 2) := by decide +kernel
theorem dX3_put_21 : decode cX3_put 21 = .ok (.imul, 1) := by decide +kernel
theorem dX3_put_22 : decode cX3_put 22 = .ok (.iload_n 2, 1) := by decide +kernel
theorem dX3_put_23 : decode cX3_put 23 = .ok (.iadd, 1) := by decide +kernel
theorem dX3_put_24 : decode cX3_put 24 = .ok (.iload_n 3, 1) := by decide +kernel
theorem dX3_put_25 : decode cX3_put 25 = .ok (.iastore, 1) := by decide +kernel
theorem dX3_put_26 : decode cX3_put 26 = .ok (.return_, 1) := by decide +kernel
theorem dX3_numberOf_0 : decode cX3_numberOf 0 = .ok (.iload_n 1, 1) := by decide +kernel
theorem dX3_numberOf_1 : decode cX3_numberOf 1 = .ok (.ifCond .lt 23, 3) := by decide +kernel
theorem dX3_numberOf_4 : decode cX3_numberOf 4 = .ok (.iload_n 1, 1) := by decide +kernel
theorem dX3_numberOf_5 : decode cX3_numberOf 5 = .ok (.bipush 6, 2) := by decide +kernel
theorem dX3_numberOf_7 : decode cX3_numberOf 7 = .ok (.if_icmp .ge 17, 3) := by decide +kernel
theorem dX3_numberOf_10 : decode cX3_numberOf 10 = .ok (.iload_n 2, 1) := by decide +kernel
theorem dX3_numberOf_11 : decode cX3_numberOf 11 = .ok (.ifCond .lt 13, 3) := by decide +kernel
theorem dX3_numberOf_14 : decode cX3_numberOf 14 = .ok (.iload_n 2, 1) := by decide +kernel
theorem dX3_numberOf_15 : decode cX3_numberOf 15 = .ok (.bipush 36, 2) := by decide +kernel
theorem dX3_numberOf_17 : decode cX3_numberOf 17 = .ok (.if_icmp .ge 7, 3) := by decide +kernel
theorem dX3_numberOf_20 : decode cX3_numberOf 20 = .ok (.iconst 1, 1) := by decide +kernel
theorem dX3_numberOf_21 : decode cX3_numberOf 21 = .ok (.goto 4, 3) := by decide +kernel
theorem dX3_numberOf_24 : decode cX3_numberOf 24 = .ok (.iconst 0, 1) := by decide +kernel
theorem dX3_numberOf_25 : decode cX3_numberOf 25 = .ok (.istore_n 3, 1) := by decide +kernel
theorem dX3_numberOf_26 : decode cX3_numberOf 26 = .ok (.iload_n 3, 1) := by decide +kernel
theorem dX3_numberOf_27 : decode cX3_numberOf 27 = .ok (.ifCond .eq 17, 3) := by decide +kernel
theorem dX3_numberOf_30 : decode cX3_numberOf 30 = .ok (.aload_n 0, 1) := by decide +kernel
theorem dX3_numberOf_31 : decode cX3_numberOf 31 = .ok (.getfield 9, 3) := by decide +kernel
theorem dX3_numberOf_34 : decode cX3_numberOf 34 = .ok (.iload_n 1, 1) := by decide +kernel
theorem dX3_numberOf_35 : decode cX3_numberOf 35 = .ok (.bipush 36, 2) := by decide +kernel
theorem dX3_numberOf_37 : decode cX3_numberOf 37 = .ok (.imul, 1) := by decide +kernel
theorem dX3_numberOf_38 : decode cX3_numberOf 38 = .ok (.iload_n 2, 1) := by decide +kernel
theorem dX3_numberOf_39 : decode cX3_numberOf 39 = .ok (.iadd, 1) := by decide +kernel
theorem dX3_numberOf_40 : decode cX3_numberOf 40 = .ok (.iaload, 1) := by decide +kernel
theorem dX3_numberOf_41 : decode cX3_numberOf 41 = .ok (.goto 5, 3) := by decide +kernel
theorem dX3_numberOf_44 : decode cX3_numberOf 44 = .ok (.bipush (-9), 2) := by decide +kernel
theorem dX3_numberOf_46 : decode cX3_numberOf 46 = .ok (.ireturn, 1) := by decide +kernel
theorem dX3_isTrue_0 : decode cX3_isTrue 0 = .ok (.aload_n 0, 1) := by decide +kernel
theorem dX3_isTrue_1 : decode cX3_isTrue 1 = .ok (.iload_n 1, 1) := by decide +kernel
theorem dX3_isTrue_2 : decode cX3_isTrue 2 = .ok (.iload_n 3, 1) := by decide +kernel
theorem dX3_isTrue_3 : decode cX3_isTrue 3 = .ok (.invokevirtual 47, 3) := by decide +kernel
theorem dX3_isTrue_6 : decode cX3_isTrue 6 = .ok (.istore 4, 2) := by decide +kernel
theorem dX3_isTrue_8 : decode cX3_isTrue 8 = .ok (.iload 4, 2) := by decide +kernel
theorem dX3_isTrue_10 : decode cX3_isTrue 10 = .ok (.bipush (-9), 2) := by decide +kernel
theorem dX3_isTrue_12 : decode cX3_isTrue 12 = .ok (.if_icmp .ne 5, 3) := by decide +kernel
theorem dX3_isTrue_15 : decode cX3_isTrue 15 = .ok (.iconst 0, 1) := by decide +kernel
theorem dX3_isTrue_16 : decode cX3_isTrue 16 = .ok (.ireturn, 1) := by decide +kernel
theorem dX3_isTrue_17 : decode cX3_isTrue 17 = .ok (.iload_n 1, 1) := by decide +kernel
theorem dX3_isTrue_18 : decode cX3_isTrue 18 = .ok (.iconst 1, 1) := by decide +kernel
theorem dX3_isTrue_19 : decode cX3_isTrue 19 = .ok (.if_icmp .ne 17, 3) := by decide +kernel
theorem dX3_isTrue_22 : decode cX3_isTrue 22 = .ok (.iload 4, 2) := by decide +kernel
theorem dX3_isTrue_24 : decode cX3_isTrue 24 = .ok (.iload_n 2, 1) := by decide +kernel
theorem dX3_isTrue_25 : decode cX3_isTrue 25 = .ok (.if_icmp .gt 7, 3) := by decide +kernel
theorem dX3_isTrue_28 : decode cX3_isTrue 28 = .ok (.iconst 1, 1) := by decide +kernel
theorem dX3_isTrue_29 : decode cX3_isTrue 29 = .ok (.goto 18, 3) := by decide +kernel
theorem dX3_isTrue_32 : decode cX3_isTrue 32 = .ok (.iconst 0, 1) := by decide +kernel
theorem dX3_isTrue_33 : decode cX3_isTrue 33 = .ok (.goto 14, 3) := by decide +kernel
theorem dX3_isTrue_36 : decode cX3_isTrue 36 = .ok (.iload 4, 2) := by decide +kernel
theorem dX3_isTrue_38 : decode cX3_isTrue 38 = .ok (.iload_n 2, 1) := by decide +kernel
theorem dX3_isTrue_39 : decode cX3_isTrue 39 = .ok (.if_icmp .ne 7, 3) := by decide +kernel
theorem dX3_isTrue_42 : decode cX3_isTrue 42 = .ok (.iconst 1, 1) := by decide +kernel
theorem dX3_isTrue_43 : decode cX3_isTrue 43 = .ok (.goto 4, 3) := by decide +kernel
theorem dX3_isTrue_46 : decode cX3_isTrue 46 = .ok (.iconst 0, 1) := by decide +kernel
theorem dX3_isTrue_47 : decode cX3_isTrue 47 = .ok (.ireturn, 1) := by decide +kernel
theorem dX3_leftBySign_0 : decode cX3_leftBySign 0 = .ok (.iconst 0, 1) := by decide +kernel
theorem dX3_leftBySign_1 : decode cX3_leftBySign 1 = .ok (.istore 4, 2) := by decide +kernel
theorem dX3_leftBySign_3 : decode cX3_leftBySign 3 = .ok (.iconst 0, 1) := by decide +kernel
theorem dX3_leftBySign_4 : decode cX3_leftBySign 4 = .ok (.istore 5, 2) := by decide +kernel
theorem dX3_leftBySign_6 : decode cX3_leftBySign 6 = .ok (.iload 5, 2) := by decide +kernel
theorem dX3_leftBySign_8 : decode cX3_leftBySign 8 = .ok (.bipush 36, 2) := by decide +kernel
theorem dX3_leftBySign_10 : decode cX3_leftBySign 10 = .ok (.if_icmp .ge 32, 3) := by decide +kernel
theorem dX3_leftBySign_13 : decode cX3_leftBySign 13 = .ok (.aload_n 1, 1) := by decide +kernel
theorem dX3_leftBySign_14 : decode cX3_leftBySign 14 = .ok (.iload 5, 2) := by decide +kernel
theorem dX3_leftBySign_16 : decode cX3_leftBySign 16 = .ok (.invokevirtual 51, 3) := by decide +kernel
theorem dX3_leftBySign_19 : decode cX3_leftBySign 19 = .ok (.ifCond .le 17, 3) := by decide +kernel
theorem dX3_leftBySign_22 : decode cX3_leftBySign 22 = .ok (.aload_n 0, 1) := by decide +kernel
theorem dX3_leftBySign_23 : decode cX3_leftBySign 23 = .ok (.iload_n 2, 1) := by decide +kernel
theorem dX3_leftBySign_24 : decode cX3_leftBySign 24 = .ok (.iload_n 3, 1) := by decide +kernel
theorem dX3_leftBySign_25 : decode cX3_leftBySign 25 = .ok (.iload 5, 2) := by decide +kernel
theorem dX3_leftBySign_27 : decode cX3_leftBySign 27 = .ok (.invokevirtual 54, 3) := by decide +kernel
theorem dX3_leftBySign_30 : decode cX3_leftBySign 30 = .ok (.ifCond .eq 6, 3) := by decide +kernel
theorem dX3_leftBySign_33 : decode cX3_leftBySign 33 = .ok (.iinc 4 1, 3) := by decide +kernel
theorem dX3_leftBySign_36 : decode cX3_leftBySign 36 = .ok (.iinc 5 1, 3) := by decide +kernel
theorem dX3_leftBySign_39 : decode cX3_leftBySign 39 = .ok (.goto (-33), 3) := by decide +kernel
theorem dX3_leftBySign_42 : decode cX3_leftBySign 42 = .ok (.iload 4, 2) := by decide +kernel
theorem dX3_leftBySign_44 : decode cX3_leftBySign 44 = .ok (.ireturn, 1) := by decide +kernel
theorem dX3_weightBySign_0 : decode cX3_weightBySign 0 = .ok (.iconst 0, 1) := by decide +kernel
theorem dX3_weightBySign_1 : decode cX3_weightBySign 1 = .ok (.istore 4, 2) := by decide +kernel
theorem dX3_weightBySign_3 : decode cX3_weightBySign 3 = .ok (.iconst 0, 1) := by decide +kernel
theorem dX3_weightBySign_4 : decode cX3_weightBySign 4 = .ok (.istore 5, 2) := by decide +kernel
theorem dX3_weightBySign_6 : decode cX3_weightBySign 6 = .ok (.iload 5, 2) := by decide +kernel
theorem dX3_weightBySign_8 : decode cX3_weightBySign 8 = .ok (.bipush 36, 2) := by decide +kernel
theorem dX3_weightBySign_10 : decode cX3_weightBySign 10 = .ok (.if_icmp .ge 31, 3) := by decide +kernel
theorem dX3_weightBySign_13 : decode cX3_weightBySign 13 = .ok (.aload_n 0, 1) := by decide +kernel
theorem dX3_weightBySign_14 : decode cX3_weightBySign 14 = .ok (.iload_n 2, 1) := by decide +kernel
theorem dX3_weightBySign_15 : decode cX3_weightBySign 15 = .ok (.iload_n 3, 1) := by decide +kernel
theorem dX3_weightBySign_16 : decode cX3_weightBySign 16 = .ok (.iload 5, 2) := by decide +kernel
theorem dX3_weightBySign_18 : decode cX3_weightBySign 18 = .ok (.invokevirtual 54, 3) := by decide +kernel
theorem dX3_weightBySign_21 : decode cX3_weightBySign 21 = .ok (.ifCond .eq 14, 3) := by decide +kernel
theorem dX3_weightBySign_24 : decode cX3_weightBySign 24 = .ok (.iload 4, 2) := by decide +kernel
theorem dX3_weightBySign_26 : decode cX3_weightBySign 26 = .ok (.aload_n 1, 1) := by decide +kernel
theorem dX3_weightBySign_27 : decode cX3_weightBySign 27 = .ok (.iload 5, 2) := by decide +kernel
theorem dX3_weightBySign_29 : decode cX3_weightBySign 29 = .ok (.invokevirtual 51, 3) := by decide +kernel
theorem dX3_weightBySign_32 : decode cX3_weightBySign 32 = .ok (.iadd, 1) := by decide +kernel
theorem dX3_weightBySign_33 : decode cX3_weightBySign 33 = .ok (.istore 4, 2) := by decide +kernel
theorem dX3_weightBySign_35 : decode cX3_weightBySign 35 = .ok (.iinc 5 1, 3) := by decide +kernel
theorem dX3_weightBySign_38 : decode cX3_weightBySign 38 = .ok (.goto (-32), 3) := by decide +kernel
theorem dX3_weightBySign_41 : decode cX3_weightBySign 41 = .ok (.iload 4, 2) := by decide +kernel
theorem dX3_weightBySign_43 : decode cX3_weightBySign 43 = .ok (.ireturn, 1) := by decide +kernel
theorem dX3_keepOnly_0 : decode cX3_keepOnly 0 = .ok (.aload_n 0, 1) := by decide +kernel
theorem dX3_keepOnly_1 : decode cX3_keepOnly 1 = .ok (.aload_n 1, 1) := by decide +kernel
theorem dX3_keepOnly_2 : decode cX3_keepOnly 2 = .ok (.iload_n 2, 1) := by decide +kernel
theorem dX3_keepOnly_3 : decode cX3_keepOnly 3 = .ok (.iload_n 3, 1) := by decide +kernel
theorem dX3_keepOnly_4 : decode cX3_keepOnly 4 = .ok (.invokevirtual 58, 3) := by decide +kernel
theorem dX3_keepOnly_7 : decode cX3_keepOnly 7 = .ok (.ifCond .ne 5, 3) := by decide +kernel
theorem dX3_keepOnly_10 : decode cX3_keepOnly 10 = .ok (.iconst 0, 1) := by decide +kernel
theorem dX3_keepOnly_11 : decode cX3_keepOnly 11 = .ok (.ireturn, 1) := by decide +kernel
theorem dX3_keepOnly_12 : decode cX3_keepOnly 12 = .ok (.iconst 0, 1) := by decide +kernel
theorem dX3_keepOnly_13 : decode cX3_keepOnly 13 = .ok (.istore 4, 2) := by decide +kernel
theorem dX3_keepOnly_15 : decode cX3_keepOnly 15 = .ok (.iload 4, 2) := by decide +kernel
theorem dX3_keepOnly_17 : decode cX3_keepOnly 17 = .ok (.bipush 36, 2) := by decide +kernel
theorem dX3_keepOnly_19 : decode cX3_keepOnly 19 = .ok (.if_icmp .ge 27, 3) := by decide +kernel
theorem dX3_keepOnly_22 : decode cX3_keepOnly 22 = .ok (.aload_n 0, 1) := by decide +kernel
theorem dX3_keepOnly_23 : decode cX3_keepOnly 23 = .ok (.iload_n 2, 1) := by decide +kernel
theorem dX3_keepOnly_24 : decode cX3_keepOnly 24 = .ok (.iload_n 3, 1) := by decide +kernel
theorem dX3_keepOnly_25 : decode cX3_keepOnly 25 = .ok (.iload 4, 2) := by decide +kernel
theorem dX3_keepOnly_27 : decode cX3_keepOnly 27 = .ok (.invokevirtual 54, 3) := by decide +kernel
theorem dX3_keepOnly_30 : decode cX3_keepOnly 30 = .ok (.ifCond .ne 10, 3) := by decide +kernel
theorem dX3_keepOnly_33 : decode cX3_keepOnly 33 = .ok (.aload_n 1, 1) := by decide +kernel
theorem dX3_keepOnly_34 : decode cX3_keepOnly 34 = .ok (.iload 4, 2) := by decide +kernel
theorem dX3_keepOnly_36 : decode cX3_keepOnly 36 = .ok (.iconst 0, 1) := by decide +kernel
theorem dX3_keepOnly_37 : decode cX3_keepOnly 37 = .ok (.invokevirtual 62, 3) := by decide +kernel
theorem dX3_keepOnly_40 : decode cX3_keepOnly 40 = .ok (.iinc 4 1, 3) := by decide +kernel
theorem dX3_keepOnly_43 : decode cX3_keepOnly 43 = .ok (.goto (-28), 3) := by decide +kernel
theorem dX3_keepOnly_46 : decode cX3_keepOnly 46 = .ok (.iconst 1, 1) := by decide +kernel
theorem dX3_keepOnly_47 : decode cX3_keepOnly 47 = .ok (.ireturn, 1) := by decide +kernel
theorem dX3_sumLeft_0 : decode cX3_sumLeft 0 = .ok (.aload_n 1, 1) := by decide +kernel
theorem dX3_sumLeft_1 : decode cX3_sumLeft 1 = .ok (.invokevirtual 66, 3) := by decide +kernel
theorem dX3_sumLeft_4 : decode cX3_sumLeft 4 = .ok (.istore_n 3, 1) := by decide +kernel
theorem dX3_sumLeft_5 : decode cX3_sumLeft 5 = .ok (.iconst 0, 1) := by decide +kernel
theorem dX3_sumLeft_6 : decode cX3_sumLeft 6 = .ok (.istore 4, 2) := by decide +kernel
theorem dX3_sumLeft_8 : decode cX3_sumLeft 8 = .ok (.iconst 0, 1) := by decide +kernel
theorem dX3_sumLeft_9 : decode cX3_sumLeft 9 = .ok (.istore 5, 2) := by decide +kernel
theorem dX3_sumLeft_11 : decode cX3_sumLeft 11 = .ok (.iload 5, 2) := by decide +kernel
theorem dX3_sumLeft_13 : decode cX3_sumLeft 13 = .ok (.bipush 36, 2) := by decide +kernel
theorem dX3_sumLeft_15 : decode cX3_sumLeft 15 = .ok (.if_icmp .ge 61, 3) := by decide +kernel
theorem dX3_sumLeft_18 : decode cX3_sumLeft 18 = .ok (.aload_n 1, 1) := by decide +kernel
theorem dX3_sumLeft_19 : decode cX3_sumLeft 19 = .ok (.iload 5, 2) := by decide +kernel
theorem dX3_sumLeft_21 : decode cX3_sumLeft 21 = .ok (.invokevirtual 51, 3) := by decide +kernel
theorem dX3_sumLeft_24 : decode cX3_sumLeft 24 = .ok (.istore 6, 2) := by decide +kernel
theorem dX3_sumLeft_26 : decode cX3_sumLeft 26 = .ok (.iload 6, 2) := by decide +kernel
theorem dX3_sumLeft_28 : decode cX3_sumLeft 28 = .ok (.ifCond .ne 6, 3) := by decide +kernel
theorem dX3_sumLeft_31 : decode cX3_sumLeft 31 = .ok (.goto 39, 3) := by decide +kernel
theorem dX3_sumLeft_34 : decode cX3_sumLeft 34 = .ok (.aload_n 0, 1) := by decide +kernel
theorem dX3_sumLeft_35 : decode cX3_sumLeft 35 = .ok (.iload_n 2, 1) := by decide +kernel
theorem dX3_sumLeft_36 : decode cX3_sumLeft 36 = .ok (.iload 5, 2) := by decide +kernel
theorem dX3_sumLeft_38 : decode cX3_sumLeft 38 = .ok (.invokevirtual 47, 3) := by decide +kernel
theorem dX3_sumLeft_41 : decode cX3_sumLeft 41 = .ok (.istore 7, 2) := by decide +kernel
theorem dX3_sumLeft_43 : decode cX3_sumLeft 43 = .ok (.iload 4, 2) := by decide +kernel
theorem dX3_sumLeft_45 : decode cX3_sumLeft 45 = .ok (.iload 6, 2) := by decide +kernel
theorem dX3_sumLeft_47 : decode cX3_sumLeft 47 = .ok (.iload 7, 2) := by decide +kernel
theorem dX3_sumLeft_49 : decode cX3_sumLeft 49 = .ok (.bipush (-9), 2) := by decide +kernel
theorem dX3_sumLeft_51 : decode cX3_sumLeft 51 = .ok (.if_icmp .ne 7, 3) := by decide +kernel
theorem dX3_sumLeft_54 : decode cX3_sumLeft 54 = .ok (.iload_n 3, 1) := by decide +kernel
theorem dX3_sumLeft_55 : decode cX3_sumLeft 55 = .ok (.goto 11, 3) := by decide +kernel
theorem dX3_sumLeft_58 : decode cX3_sumLeft 58 = .ok (.aload_n 0, 1) := by decide +kernel
theorem dX3_sumLeft_59 : decode cX3_sumLeft 59 = .ok (.aload_n 1, 1) := by decide +kernel
theorem dX3_sumLeft_60 : decode cX3_sumLeft 60 = .ok (.iload_n 2, 1) := by decide +kernel
theorem dX3_sumLeft_61 : decode cX3_sumLeft 61 = .ok (.iload 7, 2) := by decide +kernel
theorem dX3_sumLeft_63 : decode cX3_sumLeft 63 = .ok (.invokevirtual 58, 3) := by decide +kernel
theorem dX3_sumLeft_66 : decode cX3_sumLeft 66 = .ok (.imul, 1) := by decide +kernel
theorem dX3_sumLeft_67 : decode cX3_sumLeft 67 = .ok (.iadd, 1) := by decide +kernel
theorem dX3_sumLeft_68 : decode cX3_sumLeft 68 = .ok (.istore 4, 2) := by decide +kernel
theorem dX3_sumLeft_70 : decode cX3_sumLeft 70 = .ok (.iinc 5 1, 3) := by decide +kernel
theorem dX3_sumLeft_73 : decode cX3_sumLeft 73 = .ok (.goto (-62), 3) := by decide +kernel
theorem dX3_sumLeft_76 : decode cX3_sumLeft 76 = .ok (.iload 4, 2) := by decide +kernel
theorem dX3_sumLeft_78 : decode cX3_sumLeft 78 = .ok (.ireturn, 1) := by decide +kernel
theorem dX3_bestLie_0 : decode cX3_bestLie 0 = .ok (.bipush (-9), 2) := by decide +kernel
theorem dX3_bestLie_2 : decode cX3_bestLie 2 = .ok (.istore 4, 2) := by decide +kernel
theorem dX3_bestLie_4 : decode cX3_bestLie 4 = .ok (.iconst 0, 1) := by decide +kernel
theorem dX3_bestLie_5 : decode cX3_bestLie 5 = .ok (.istore 5, 2) := by decide +kernel
theorem dX3_bestLie_7 : decode cX3_bestLie 7 = .ok (.iconst 0, 1) := by decide +kernel
theorem dX3_bestLie_8 : decode cX3_bestLie 8 = .ok (.istore 6, 2) := by decide +kernel
theorem dX3_bestLie_10 : decode cX3_bestLie 10 = .ok (.iload 6, 2) := by decide +kernel
theorem dX3_bestLie_12 : decode cX3_bestLie 12 = .ok (.bipush 40, 2) := by decide +kernel
theorem dX3_bestLie_14 : decode cX3_bestLie 14 = .ok (.if_icmp .gt 48, 3) := by decide +kernel
theorem dX3_bestLie_17 : decode cX3_bestLie 17 = .ok (.aload_n 0, 1) := by decide +kernel
theorem dX3_bestLie_18 : decode cX3_bestLie 18 = .ok (.iload_n 2, 1) := by decide +kernel
theorem dX3_bestLie_19 : decode cX3_bestLie 19 = .ok (.iload 6, 2) := by decide +kernel
theorem dX3_bestLie_21 : decode cX3_bestLie 21 = .ok (.iload_n 3, 1) := by decide +kernel
theorem dX3_bestLie_22 : decode cX3_bestLie 22 = .ok (.invokevirtual 54, 3) := by decide +kernel
theorem dX3_bestLie_25 : decode cX3_bestLie 25 = .ok (.ifCond .eq 6, 3) := by decide +kernel
theorem dX3_bestLie_28 : decode cX3_bestLie 28 = .ok (.goto 28, 3) := by decide +kernel
theorem dX3_bestLie_31 : decode cX3_bestLie 31 = .ok (.aload_n 0, 1) := by decide +kernel
theorem dX3_bestLie_32 : decode cX3_bestLie 32 = .ok (.aload_n 1, 1) := by decide +kernel
theorem dX3_bestLie_33 : decode cX3_bestLie 33 = .ok (.iload_n 2, 1) := by decide +kernel
theorem dX3_bestLie_34 : decode cX3_bestLie 34 = .ok (.iload 6, 2) := by decide +kernel
theorem dX3_bestLie_36 : decode cX3_bestLie 36 = .ok (.invokevirtual 70, 3) := by decide +kernel
theorem dX3_bestLie_39 : decode cX3_bestLie 39 = .ok (.istore 7, 2) := by decide +kernel
theorem dX3_bestLie_41 : decode cX3_bestLie 41 = .ok (.iload 7, 2) := by decide +kernel
theorem dX3_bestLie_43 : decode cX3_bestLie 43 = .ok (.iload 5, 2) := by decide +kernel
theorem dX3_bestLie_45 : decode cX3_bestLie 45 = .ok (.if_icmp .le 11, 3) := by decide +kernel
theorem dX3_bestLie_48 : decode cX3_bestLie 48 = .ok (.iload 6, 2) := by decide +kernel
theorem dX3_bestLie_50 : decode cX3_bestLie 50 = .ok (.istore 4, 2) := by decide +kernel
theorem dX3_bestLie_52 : decode cX3_bestLie 52 = .ok (.iload 7, 2) := by decide +kernel
theorem dX3_bestLie_54 : decode cX3_bestLie 54 = .ok (.istore 5, 2) := by decide +kernel
theorem dX3_bestLie_56 : decode cX3_bestLie 56 = .ok (.iinc 6 1, 3) := by decide +kernel
theorem dX3_bestLie_59 : decode cX3_bestLie 59 = .ok (.goto (-49), 3) := by decide +kernel
theorem dX3_bestLie_62 : decode cX3_bestLie 62 = .ok (.iload 4, 2) := by decide +kernel
theorem dX3_bestLie_64 : decode cX3_bestLie 64 = .ok (.ireturn, 1) := by decide +kernel
theorem dX3_fewestToTell_0 : decode cX3_fewestToTell 0 = .ok (.bipush (-9), 2) := by decide +kernel
theorem dX3_fewestToTell_2 : decode cX3_fewestToTell 2 = .ok (.istore_n 3, 1) := by decide +kernel
theorem dX3_fewestToTell_3 : decode cX3_fewestToTell 3 = .ok (.bipush 7, 2) := by decide +kernel
theorem dX3_fewestToTell_5 : decode cX3_fewestToTell 5 = .ok (.istore 4, 2) := by decide +kernel
theorem dX3_fewestToTell_7 : decode cX3_fewestToTell 7 = .ok (.iconst 0, 1) := by decide +kernel
theorem dX3_fewestToTell_8 : decode cX3_fewestToTell 8 = .ok (.istore 5, 2) := by decide +kernel
theorem dX3_fewestToTell_10 : decode cX3_fewestToTell 10 = .ok (.iload 5, 2) := by decide +kernel
theorem dX3_fewestToTell_12 : decode cX3_fewestToTell 12 = .ok (.bipush 64, 2) := by decide +kernel
theorem dX3_fewestToTell_14 : decode cX3_fewestToTell 14 = .ok (.if_icmp .ge 41, 3) := by decide +kernel
theorem dX3_fewestToTell_17 : decode cX3_fewestToTell 17 = .ok (.iload 5, 2) := by decide +kernel
theorem dX3_fewestToTell_19 : decode cX3_fewestToTell 19 = .ok (.invokestatic 73, 3) := by decide +kernel
theorem dX3_fewestToTell_22 : decode cX3_fewestToTell 22 = .ok (.istore 6, 2) := by decide +kernel
theorem dX3_fewestToTell_24 : decode cX3_fewestToTell 24 = .ok (.iload 6, 2) := by decide +kernel
theorem dX3_fewestToTell_26 : decode cX3_fewestToTell 26 = .ok (.iload 4, 2) := by decide +kernel
theorem dX3_fewestToTell_28 : decode cX3_fewestToTell 28 = .ok (.if_icmp .ge 21, 3) := by decide +kernel
theorem dX3_fewestToTell_31 : decode cX3_fewestToTell 31 = .ok (.aload_n 0, 1) := by decide +kernel
theorem dX3_fewestToTell_32 : decode cX3_fewestToTell 32 = .ok (.aload_n 1, 1) := by decide +kernel
theorem dX3_fewestToTell_33 : decode cX3_fewestToTell 33 = .ok (.iload 5, 2) := by decide +kernel
theorem dX3_fewestToTell_35 : decode cX3_fewestToTell 35 = .ok (.iload_n 2, 1) := by decide +kernel
theorem dX3_fewestToTell_36 : decode cX3_fewestToTell 36 = .ok (.invokevirtual 78, 3) := by decide +kernel
theorem dX3_fewestToTell_39 : decode cX3_fewestToTell 39 = .ok (.ifCond .eq 10, 3) := by decide +kernel
theorem dX3_fewestToTell_42 : decode cX3_fewestToTell 42 = .ok (.iload 5, 2) := by decide +kernel
theorem dX3_fewestToTell_44 : decode cX3_fewestToTell 44 = .ok (.istore_n 3, 1) := by decide +kernel
theorem dX3_fewestToTell_45 : decode cX3_fewestToTell 45 = .ok (.iload 6, 2) := by decide +kernel
theorem dX3_fewestToTell_47 : decode cX3_fewestToTell 47 = .ok (.istore 4, 2) := by decide +kernel
theorem dX3_fewestToTell_49 : decode cX3_fewestToTell 49 = .ok (.iinc 5 1, 3) := by decide +kernel
theorem dX3_fewestToTell_52 : decode cX3_fewestToTell 52 = .ok (.goto (-42), 3) := by decide +kernel
theorem dX3_fewestToTell_55 : decode cX3_fewestToTell 55 = .ok (.iload_n 3, 1) := by decide +kernel
theorem dX3_fewestToTell_56 : decode cX3_fewestToTell 56 = .ok (.ireturn, 1) := by decide +kernel
theorem dX3_tellsAlone_0 : decode cX3_tellsAlone 0 = .ok (.aload_n 0, 1) := by decide +kernel
theorem dX3_tellsAlone_1 : decode cX3_tellsAlone 1 = .ok (.iload_n 2, 1) := by decide +kernel
theorem dX3_tellsAlone_2 : decode cX3_tellsAlone 2 = .ok (.iload_n 3, 1) := by decide +kernel
theorem dX3_tellsAlone_3 : decode cX3_tellsAlone 3 = .ok (.iload_n 3, 1) := by decide +kernel
theorem dX3_tellsAlone_4 : decode cX3_tellsAlone 4 = .ok (.invokevirtual 82, 3) := by decide +kernel
theorem dX3_tellsAlone_7 : decode cX3_tellsAlone 7 = .ok (.ifCond .ne 5, 3) := by decide +kernel
theorem dX3_tellsAlone_10 : decode cX3_tellsAlone 10 = .ok (.iconst 0, 1) := by decide +kernel
theorem dX3_tellsAlone_11 : decode cX3_tellsAlone 11 = .ok (.ireturn, 1) := by decide +kernel
theorem dX3_tellsAlone_12 : decode cX3_tellsAlone 12 = .ok (.iconst 0, 1) := by decide +kernel
theorem dX3_tellsAlone_13 : decode cX3_tellsAlone 13 = .ok (.istore 4, 2) := by decide +kernel
theorem dX3_tellsAlone_15 : decode cX3_tellsAlone 15 = .ok (.iload 4, 2) := by decide +kernel
theorem dX3_tellsAlone_17 : decode cX3_tellsAlone 17 = .ok (.bipush 36, 2) := by decide +kernel
theorem dX3_tellsAlone_19 : decode cX3_tellsAlone 19 = .ok (.if_icmp .ge 37, 3) := by decide +kernel
theorem dX3_tellsAlone_22 : decode cX3_tellsAlone 22 = .ok (.iload 4, 2) := by decide +kernel
theorem dX3_tellsAlone_24 : decode cX3_tellsAlone 24 = .ok (.iload_n 3, 1) := by decide +kernel
theorem dX3_tellsAlone_25 : decode cX3_tellsAlone 25 = .ok (.if_icmp .eq 25, 3) := by decide +kernel
theorem dX3_tellsAlone_28 : decode cX3_tellsAlone 28 = .ok (.aload_n 1, 1) := by decide +kernel
theorem dX3_tellsAlone_29 : decode cX3_tellsAlone 29 = .ok (.iload 4, 2) := by decide +kernel
theorem dX3_tellsAlone_31 : decode cX3_tellsAlone 31 = .ok (.invokevirtual 51, 3) := by decide +kernel
theorem dX3_tellsAlone_34 : decode cX3_tellsAlone 34 = .ok (.ifCond .le 16, 3) := by decide +kernel
theorem dX3_tellsAlone_37 : decode cX3_tellsAlone 37 = .ok (.aload_n 0, 1) := by decide +kernel
theorem dX3_tellsAlone_38 : decode cX3_tellsAlone 38 = .ok (.iload_n 2, 1) := by decide +kernel
theorem dX3_tellsAlone_39 : decode cX3_tellsAlone 39 = .ok (.iload_n 3, 1) := by decide +kernel
theorem dX3_tellsAlone_40 : decode cX3_tellsAlone 40 = .ok (.iload 4, 2) := by decide +kernel
theorem dX3_tellsAlone_42 : decode cX3_tellsAlone 42 = .ok (.invokevirtual 82, 3) := by decide +kernel
theorem dX3_tellsAlone_45 : decode cX3_tellsAlone 45 = .ok (.ifCond .eq 5, 3) := by decide +kernel
theorem dX3_tellsAlone_48 : decode cX3_tellsAlone 48 = .ok (.iconst 0, 1) := by decide +kernel
theorem dX3_tellsAlone_49 : decode cX3_tellsAlone 49 = .ok (.ireturn, 1) := by decide +kernel
theorem dX3_tellsAlone_50 : decode cX3_tellsAlone 50 = .ok (.iinc 4 1, 3) := by decide +kernel
theorem dX3_tellsAlone_53 : decode cX3_tellsAlone 53 = .ok (.goto (-38), 3) := by decide +kernel
theorem dX3_tellsAlone_56 : decode cX3_tellsAlone 56 = .ok (.iconst 1, 1) := by decide +kernel
theorem dX3_tellsAlone_57 : decode cX3_tellsAlone 57 = .ok (.ireturn, 1) := by decide +kernel
theorem dX3_suit_0 : decode cX3_suit 0 = .ok (.iconst 0, 1) := by decide +kernel
theorem dX3_suit_1 : decode cX3_suit 1 = .ok (.istore 4, 2) := by decide +kernel
theorem dX3_suit_3 : decode cX3_suit 3 = .ok (.iload 4, 2) := by decide +kernel
theorem dX3_suit_5 : decode cX3_suit 5 = .ok (.bipush 6, 2) := by decide +kernel
theorem dX3_suit_7 : decode cX3_suit 7 = .ok (.if_icmp .ge 40, 3) := by decide +kernel
theorem dX3_suit_10 : decode cX3_suit 10 = .ok (.iload_n 1, 1) := by decide +kernel
theorem dX3_suit_11 : decode cX3_suit 11 = .ok (.iload 4, 2) := by decide +kernel
theorem dX3_suit_13 : decode cX3_suit 13 = .ok (.ishr, 1) := by decide +kernel
theorem dX3_suit_14 : decode cX3_suit 14 = .ok (.iconst 1, 1) := by decide +kernel
theorem dX3_suit_15 : decode cX3_suit 15 = .ok (.iand, 1) := by decide +kernel
theorem dX3_suit_16 : decode cX3_suit 16 = .ok (.ifCond .ne 6, 3) := by decide +kernel
theorem dX3_suit_19 : decode cX3_suit 19 = .ok (.goto 22, 3) := by decide +kernel
theorem dX3_suit_22 : decode cX3_suit 22 = .ok (.aload_n 0, 1) := by decide +kernel
theorem dX3_suit_23 : decode cX3_suit 23 = .ok (.iload 4, 2) := by decide +kernel
theorem dX3_suit_25 : decode cX3_suit 25 = .ok (.aload_n 0, 1) := by decide +kernel
theorem dX3_suit_26 : decode cX3_suit 26 = .ok (.iload 4, 2) := by decide +kernel
theorem dX3_suit_28 : decode cX3_suit 28 = .ok (.iload_n 2, 1) := by decide +kernel
theorem dX3_suit_29 : decode cX3_suit 29 = .ok (.invokevirtual 47, 3) := by decide +kernel
theorem dX3_suit_32 : decode cX3_suit 32 = .ok (.iload_n 3, 1) := by decide +kernel
theorem dX3_suit_33 : decode cX3_suit 33 = .ok (.invokevirtual 54, 3) := by decide +kernel
theorem dX3_suit_36 : decode cX3_suit 36 = .ok (.ifCond .ne 5, 3) := by decide +kernel
theorem dX3_suit_39 : decode cX3_suit 39 = .ok (.iconst 0, 1) := by decide +kernel
theorem dX3_suit_40 : decode cX3_suit 40 = .ok (.ireturn, 1) := by decide +kernel
theorem dX3_suit_41 : decode cX3_suit 41 = .ok (.iinc 4 1, 3) := by decide +kernel
theorem dX3_suit_44 : decode cX3_suit 44 = .ok (.goto (-41), 3) := by decide +kernel
theorem dX3_suit_47 : decode cX3_suit 47 = .ok (.iconst 1, 1) := by decide +kernel
theorem dX3_suit_48 : decode cX3_suit 48 = .ok (.ireturn, 1) := by decide +kernel
theorem dX3_bestHidden_0 : decode cX3_bestHidden 0 = .ok (.bipush (-9), 2) := by decide +kernel
theorem dX3_bestHidden_2 : decode cX3_bestHidden 2 = .ok (.istore_n 2, 1) := by decide +kernel
theorem dX3_bestHidden_3 : decode cX3_bestHidden 3 = .ok (.iconst (-1), 1) := by decide +kernel
theorem dX3_bestHidden_4 : decode cX3_bestHidden 4 = .ok (.istore_n 3, 1) := by decide +kernel
theorem dX3_bestHidden_5 : decode cX3_bestHidden 5 = .ok (.iconst 0, 1) := by decide +kernel
theorem dX3_bestHidden_6 : decode cX3_bestHidden 6 = .ok (.istore 4, 2) := by decide +kernel
theorem dX3_bestHidden_8 : decode cX3_bestHidden 8 = .ok (.iload 4, 2) := by decide +kernel
theorem dX3_bestHidden_10 : decode cX3_bestHidden 10 = .ok (.bipush 36, 2) := by decide +kernel
theorem dX3_bestHidden_12 : decode cX3_bestHidden 12 = .ok (.if_icmp .ge 42, 3) := by decide +kernel
theorem dX3_bestHidden_15 : decode cX3_bestHidden 15 = .ok (.aload_n 1, 1) := by decide +kernel
theorem dX3_bestHidden_16 : decode cX3_bestHidden 16 = .ok (.iload 4, 2) := by decide +kernel
theorem dX3_bestHidden_18 : decode cX3_bestHidden 18 = .ok (.invokevirtual 51, 3) := by decide +kernel
theorem dX3_bestHidden_21 : decode cX3_bestHidden 21 = .ok (.ifCond .ne 6, 3) := by decide +kernel
theorem dX3_bestHidden_24 : decode cX3_bestHidden 24 = .ok (.goto 24, 3) := by decide +kernel
theorem dX3_bestHidden_27 : decode cX3_bestHidden 27 = .ok (.aload_n 0, 1) := by decide +kernel
theorem dX3_bestHidden_28 : decode cX3_bestHidden 28 = .ok (.aload_n 1, 1) := by decide +kernel
theorem dX3_bestHidden_29 : decode cX3_bestHidden 29 = .ok (.iload 4, 2) := by decide +kernel
theorem dX3_bestHidden_31 : decode cX3_bestHidden 31 = .ok (.invokevirtual 85, 3) := by decide +kernel
theorem dX3_bestHidden_34 : decode cX3_bestHidden 34 = .ok (.istore 5, 2) := by decide +kernel
theorem dX3_bestHidden_36 : decode cX3_bestHidden 36 = .ok (.iload 5, 2) := by decide +kernel
theorem dX3_bestHidden_38 : decode cX3_bestHidden 38 = .ok (.iload_n 3, 1) := by decide +kernel
theorem dX3_bestHidden_39 : decode cX3_bestHidden 39 = .ok (.if_icmp .le 9, 3) := by decide +kernel
theorem dX3_bestHidden_42 : decode cX3_bestHidden 42 = .ok (.iload 4, 2) := by decide +kernel
theorem dX3_bestHidden_44 : decode cX3_bestHidden 44 = .ok (.istore_n 2, 1) := by decide +kernel
theorem dX3_bestHidden_45 : decode cX3_bestHidden 45 = .ok (.iload 5, 2) := by decide +kernel
theorem dX3_bestHidden_47 : decode cX3_bestHidden 47 = .ok (.istore_n 3, 1) := by decide +kernel
theorem dX3_bestHidden_48 : decode cX3_bestHidden 48 = .ok (.iinc 4 1, 3) := by decide +kernel
theorem dX3_bestHidden_51 : decode cX3_bestHidden 51 = .ok (.goto (-43), 3) := by decide +kernel
theorem dX3_bestHidden_54 : decode cX3_bestHidden 54 = .ok (.iload_n 2, 1) := by decide +kernel
theorem dX3_bestHidden_55 : decode cX3_bestHidden 55 = .ok (.ireturn, 1) := by decide +kernel
theorem dX3_othersLike_0 : decode cX3_othersLike 0 = .ok (.iconst 0, 1) := by decide +kernel
theorem dX3_othersLike_1 : decode cX3_othersLike 1 = .ok (.istore_n 3, 1) := by decide +kernel
theorem dX3_othersLike_2 : decode cX3_othersLike 2 = .ok (.iconst 0, 1) := by decide +kernel
theorem dX3_othersLike_3 : decode cX3_othersLike 3 = .ok (.istore 4, 2) := by decide +kernel
theorem dX3_othersLike_5 : decode cX3_othersLike 5 = .ok (.iload 4, 2) := by decide +kernel
theorem dX3_othersLike_7 : decode cX3_othersLike 7 = .ok (.bipush 36, 2) := by decide +kernel
theorem dX3_othersLike_9 : decode cX3_othersLike 9 = .ok (.if_icmp .ge 74, 3) := by decide +kernel
theorem dX3_othersLike_12 : decode cX3_othersLike 12 = .ok (.iload 4, 2) := by decide +kernel
theorem dX3_othersLike_14 : decode cX3_othersLike 14 = .ok (.iload_n 2, 1) := by decide +kernel
theorem dX3_othersLike_15 : decode cX3_othersLike 15 = .ok (.if_icmp .eq 62, 3) := by decide +kernel
theorem dX3_othersLike_18 : decode cX3_othersLike 18 = .ok (.aload_n 1, 1) := by decide +kernel
theorem dX3_othersLike_19 : decode cX3_othersLike 19 = .ok (.iload 4, 2) := by decide +kernel
theorem dX3_othersLike_21 : decode cX3_othersLike 21 = .ok (.invokevirtual 51, 3) := by decide +kernel
theorem dX3_othersLike_24 : decode cX3_othersLike 24 = .ok (.ifCond .ne 6, 3) := by decide +kernel
theorem dX3_othersLike_27 : decode cX3_othersLike 27 = .ok (.goto 50, 3) := by decide +kernel
theorem dX3_othersLike_30 : decode cX3_othersLike 30 = .ok (.aload_n 0, 1) := by decide +kernel
theorem dX3_othersLike_31 : decode cX3_othersLike 31 = .ok (.iconst 0, 1) := by decide +kernel
theorem dX3_othersLike_32 : decode cX3_othersLike 32 = .ok (.iload_n 2, 1) := by decide +kernel
theorem dX3_othersLike_33 : decode cX3_othersLike 33 = .ok (.invokevirtual 47, 3) := by decide +kernel
theorem dX3_othersLike_36 : decode cX3_othersLike 36 = .ok (.aload_n 0, 1) := by decide +kernel
theorem dX3_othersLike_37 : decode cX3_othersLike 37 = .ok (.iconst 0, 1) := by decide +kernel
theorem dX3_othersLike_38 : decode cX3_othersLike 38 = .ok (.iload 4, 2) := by decide +kernel
theorem dX3_othersLike_40 : decode cX3_othersLike 40 = .ok (.invokevirtual 47, 3) := by decide +kernel
theorem dX3_othersLike_43 : decode cX3_othersLike 43 = .ok (.if_icmp .ne 7, 3) := by decide +kernel
theorem dX3_othersLike_46 : decode cX3_othersLike 46 = .ok (.iconst 1, 1) := by decide +kernel
theorem dX3_othersLike_47 : decode cX3_othersLike 47 = .ok (.goto 4, 3) := by decide +kernel
theorem dX3_othersLike_50 : decode cX3_othersLike 50 = .ok (.iconst 0, 1) := by decide +kernel
theorem dX3_othersLike_51 : decode cX3_othersLike 51 = .ok (.istore 5, 2) := by decide +kernel
theorem dX3_othersLike_53 : decode cX3_othersLike 53 = .ok (.iload 5, 2) := by decide +kernel
theorem dX3_othersLike_55 : decode cX3_othersLike 55 = .ok (.ifCond .eq 22, 3) := by decide +kernel
theorem dX3_othersLike_58 : decode cX3_othersLike 58 = .ok (.aload_n 0, 1) := by decide +kernel
theorem dX3_othersLike_59 : decode cX3_othersLike 59 = .ok (.iconst 4, 1) := by decide +kernel
theorem dX3_othersLike_60 : decode cX3_othersLike 60 = .ok (.iload_n 2, 1) := by decide +kernel
theorem dX3_othersLike_61 : decode cX3_othersLike 61 = .ok (.invokevirtual 47, 3) := by decide +kernel
theorem dX3_othersLike_64 : decode cX3_othersLike 64 = .ok (.aload_n 0, 1) := by decide +kernel
theorem dX3_othersLike_65 : decode cX3_othersLike 65 = .ok (.iconst 4, 1) := by decide +kernel
theorem dX3_othersLike_66 : decode cX3_othersLike 66 = .ok (.iload 4, 2) := by decide +kernel
theorem dX3_othersLike_68 : decode cX3_othersLike 68 = .ok (.invokevirtual 47, 3) := by decide +kernel
theorem dX3_othersLike_71 : decode cX3_othersLike 71 = .ok (.if_icmp .ne 6, 3) := by decide +kernel
theorem dX3_othersLike_74 : decode cX3_othersLike 74 = .ok (.iinc 3 1, 3) := by decide +kernel
theorem dX3_othersLike_77 : decode cX3_othersLike 77 = .ok (.iinc 4 1, 3) := by decide +kernel
theorem dX3_othersLike_80 : decode cX3_othersLike 80 = .ok (.goto (-75), 3) := by decide +kernel
theorem dX3_othersLike_83 : decode cX3_othersLike 83 = .ok (.iload_n 3, 1) := by decide +kernel
theorem dX3_othersLike_84 : decode cX3_othersLike 84 = .ok (.ireturn, 1) := by decide +kernel
theorem dX4_init_0 : decode cX4_init 0 = .ok (.aload_n 0, 1) := by decide +kernel
theorem dX4_init_1 : decode cX4_init 1 = .ok (.invokespecial 3, 3) := by decide +kernel
theorem dX4_init_4 : decode cX4_init 4 = .ok (.aload_n 0, 1) := by decide +kernel
theorem dX4_init_5 : decode cX4_init 5 = .ok (.bipush 96, 2) := by decide +kernel
theorem dX4_init_7 : decode cX4_init 7 = .ok (.newarray .int, 2) := by decide +kernel
theorem dX4_init_9 : decode cX4_init 9 = .ok (.putfield 9, 3) := by decide +kernel
theorem dX4_init_12 : decode cX4_init 12 = .ok (.aload_n 0, 1) := by decide +kernel
theorem dX4_init_13 : decode cX4_init 13 = .ok (.iconst 0, 1) := by decide +kernel
theorem dX4_init_14 : decode cX4_init 14 = .ok (.putfield 15, 3) := by decide +kernel
theorem dX4_init_17 : decode cX4_init 17 = .ok (.return_, 1) := by decide +kernel
theorem dX4_size_0 : decode cX4_size 0 = .ok (.aload_n 0, 1) := by decide +kernel
theorem dX4_size_1 : decode cX4_size 1 = .ok (.getfield 15, 3) := by decide +kernel
theorem dX4_size_4 : decode cX4_size 4 = .ok (.ireturn, 1) := by decide +kernel
theorem dX4_isFull_0 : decode cX4_isFull 0 = .ok (.aload_n 0, 1) := by decide +kernel
theorem dX4_isFull_1 : decode cX4_isFull 1 = .ok (.getfield 15, 3) := by decide +kernel
theorem dX4_isFull_4 : decode cX4_isFull 4 = .ok (.ifCond .lt 15, 3) := by decide +kernel
theorem dX4_isFull_7 : decode cX4_isFull 7 = .ok (.aload_n 0, 1) := by decide +kernel
theorem dX4_isFull_8 : decode cX4_isFull 8 = .ok (.getfield 15, 3) := by decide +kernel
theorem dX4_isFull_11 : decode cX4_isFull 11 = .ok (.aload_n 0, 1) := by decide +kernel
theorem dX4_isFull_12 : decode cX4_isFull 12 = .ok (.getfield 9, 3) := by decide +kernel
theorem dX4_isFull_15 : decode cX4_isFull 15 = .ok (.arraylength, 1) := by decide +kernel
theorem dX4_isFull_16 : decode cX4_isFull 16 = .ok (.if_icmp .lt 7, 3) := by decide +kernel
theorem dX4_isFull_19 : decode cX4_isFull 19 = .ok (.iconst 1, 1) := by decide +kernel
theorem dX4_isFull_20 : decode cX4_isFull 20 = .ok (.goto 4, 3) := by decide +kernel
theorem dX4_isFull_23 : decode cX4_isFull 23 = .ok (.iconst 0, 1) := by decide +kernel
theorem dX4_isFull_24 : decode cX4_isFull 24 = .ok (.ireturn, 1) := by decide +kernel
theorem dX4_add_0 : decode cX4_add 0 = .ok (.aload_n 0, 1) := by decide +kernel
theorem dX4_add_1 : decode cX4_add 1 = .ok (.invokevirtual 19, 3) := by decide +kernel
theorem dX4_add_4 : decode cX4_add 4 = .ok (.ifCond .eq 4, 3) := by decide +kernel
theorem dX4_add_7 : decode cX4_add 7 = .ok (.return_, 1) := by decide +kernel
theorem dX4_add_8 : decode cX4_add 8 = .ok (.aload_n 0, 1) := by decide +kernel
theorem dX4_add_9 : decode cX4_add 9 = .ok (.getfield 9, 3) := by decide +kernel
theorem dX4_add_12 : decode cX4_add 12 = .ok (.aload_n 0, 1) := by decide +kernel
theorem dX4_add_13 : decode cX4_add 13 = .ok (.getfield 15, 3) := by decide +kernel
theorem dX4_add_16 : decode cX4_add 16 = .ok (.iload_n 1, 1) := by decide +kernel
theorem dX4_add_17 : decode cX4_add 17 = .ok (.iastore, 1) := by decide +kernel
theorem dX4_add_18 : decode cX4_add 18 = .ok (.aload_n 0, 1) := by decide +kernel
theorem dX4_add_19 : decode cX4_add 19 = .ok (.dup, 1) := by decide +kernel
theorem dX4_add_20 : decode cX4_add 20 = .ok (.getfield 15, 3) := by decide +kernel
theorem dX4_add_23 : decode cX4_add 23 = .ok (.iconst 1, 1) := by decide +kernel
theorem dX4_add_24 : decode cX4_add 24 = .ok (.iadd, 1) := by decide +kernel
theorem dX4_add_25 : decode cX4_add 25 = .ok (.putfield 15, 3) := by decide +kernel
theorem dX4_add_28 : decode cX4_add 28 = .ok (.return_, 1) := by decide +kernel
theorem dX4_forget_0 : decode cX4_forget 0 = .ok (.aload_n 0, 1) := by decide +kernel
theorem dX4_forget_1 : decode cX4_forget 1 = .ok (.iconst 0, 1) := by decide +kernel
theorem dX4_forget_2 : decode cX4_forget 2 = .ok (.putfield 15, 3) := by decide +kernel
theorem dX4_forget_5 : decode cX4_forget 5 = .ok (.return_, 1) := by decide +kernel
theorem dX4_letterAt_0 : decode cX4_letterAt 0 = .ok (.iload_n 1, 1) := by decide +kernel
theorem dX4_letterAt_1 : decode cX4_letterAt 1 = .ok (.ifCond .lt 29, 3) := by decide +kernel
theorem dX4_letterAt_4 : decode cX4_letterAt 4 = .ok (.iload_n 1, 1) := by decide +kernel
theorem dX4_letterAt_5 : decode cX4_letterAt 5 = .ok (.aload_n 0, 1) := by decide +kernel
theorem dX4_letterAt_6 : decode cX4_letterAt 6 = .ok (.getfield 15, 3) := by decide +kernel
theorem dX4_letterAt_9 : decode cX4_letterAt 9 = .ok (.if_icmp .ge 21, 3) := by decide +kernel
theorem dX4_letterAt_12 : decode cX4_letterAt 12 = .ok (.iload_n 1, 1) := by decide +kernel
theorem dX4_letterAt_13 : decode cX4_letterAt 13 = .ok (.aload_n 0, 1) := by decide +kernel
theorem dX4_letterAt_14 : decode cX4_letterAt 14 = .ok (.getfield 9, 3) := by decide +kernel
theorem dX4_letterAt_17 : decode cX4_letterAt 17 = .ok (.arraylength, 1) := by decide +kernel
theorem dX4_letterAt_18 : decode cX4_letterAt 18 = .ok (.if_icmp .ge 12, 3) := by decide +kernel
theorem dX4_letterAt_21 : decode cX4_letterAt 21 = .ok (.aload_n 0, 1) := by decide +kernel
theorem dX4_letterAt_22 : decode cX4_letterAt 22 = .ok (.getfield 9, 3) := by decide +kernel
theorem dX4_letterAt_25 : decode cX4_letterAt 25 = .ok (.iload_n 1, 1) := by decide +kernel
theorem dX4_letterAt_26 : decode cX4_letterAt 26 = .ok (.iaload, 1) := by decide +kernel
theorem dX4_letterAt_27 : decode cX4_letterAt 27 = .ok (.goto 4, 3) := by decide +kernel
theorem dX4_letterAt_30 : decode cX4_letterAt 30 = .ok (.iconst (-1), 1) := by decide +kernel
theorem dX4_letterAt_31 : decode cX4_letterAt 31 = .ok (.ireturn, 1) := by decide +kernel
theorem dX4_formBehind_0 : decode cX4_formBehind 0 = .ok (.iload_n 0, 1) := by decide +kernel
theorem dX4_formBehind_1 : decode cX4_formBehind 1 = .ok (.tableswitch 113 99 118 #[107, 104, 113, 113, 113, 104, 113, 113, 95, 101, 113, 113, 113, 113, 113, 113, 110, 113, 113, 98], 95) := by decide +kernel
theorem dX4_formBehind_96 : decode cX4_formBehind 96 = .ok (.ldc 23, 2) := by decide +kernel
theorem dX4_formBehind_98 : decode cX4_formBehind 98 = .ok (.areturn, 1) := by decide +kernel
theorem dX4_formBehind_99 : decode cX4_formBehind 99 = .ok (.ldc 25, 2) := by decide +kernel
theorem dX4_formBehind_101 : decode cX4_formBehind 101 = .ok (.areturn, 1) := by decide +kernel
theorem dX4_formBehind_102 : decode cX4_formBehind 102 = .ok (.ldc 27, 2) := by decide +kernel
theorem dX4_formBehind_104 : decode cX4_formBehind 104 = .ok (.areturn, 1) := by decide +kernel
theorem dX4_formBehind_105 : decode cX4_formBehind 105 = .ok (.ldc 29, 2) := by decide +kernel
theorem dX4_formBehind_107 : decode cX4_formBehind 107 = .ok (.areturn, 1) := by decide +kernel
theorem dX4_formBehind_108 : decode cX4_formBehind 108 = .ok (.ldc 31, 2) := by decide +kernel
theorem dX4_formBehind_110 : decode cX4_formBehind 110 = .ok (.areturn, 1) := by decide +kernel
theorem dX4_formBehind_111 : decode cX4_formBehind 111 = .ok (.ldc 33, 2) := by decide +kernel
theorem dX4_formBehind_113 : decode cX4_formBehind 113 = .ok (.areturn, 1) := by decide +kernel
theorem dX4_formBehind_114 : decode cX4_formBehind 114 = .ok (.ldc 35, 2) := by decide +kernel
theorem dX4_formBehind_116 : decode cX4_formBehind 116 = .ok (.areturn, 1) := by decide +kernel
theorem dX4_suitsForm_0 : decode cX4_suitsForm 0 = .ok (.iload_n 1, 1) := by decide +kernel
theorem dX4_suitsForm_1 : decode cX4_suitsForm 1 = .ok (.ifCond .ge 5, 3) := by decide +kernel
theorem dX4_suitsForm_4 : decode cX4_suitsForm 4 = .ok (.iconst 0, 1) := by decide +kernel
theorem dX4_suitsForm_5 : decode cX4_suitsForm 5 = .ok (.ireturn, 1) := by decide +kernel
theorem dX4_suitsForm_6 : decode cX4_suitsForm 6 = .ok (.iload_n 0, 1) := by decide +kernel
theorem dX4_suitsForm_7 : decode cX4_suitsForm 7 = .ok (.lookupswitch 83 #[(48, 65), (75, 33), (83, 49)], 33) := by decide +kernel
theorem dX4_suitsForm_40 : decode cX4_suitsForm 40 = .ok (.ldc 37, 2) := by decide +kernel
theorem dX4_suitsForm_42 : decode cX4_suitsForm 42 = .ok (.iload_n 1, 1) := by decide +kernel
theorem dX4_suitsForm_43 : decode cX4_suitsForm 43 = .ok (.i2c, 1) := by decide +kernel
theorem dX4_suitsForm_44 : decode cX4_suitsForm 44 = .ok (.invokevirtual 39, 3) := by decide +kernel
theorem dX4_suitsForm_47 : decode cX4_suitsForm 47 = .ok (.ifCond .lt 7, 3) := by decide +kernel
theorem dX4_suitsForm_50 : decode cX4_suitsForm 50 = .ok (.iconst 1, 1) := by decide +kernel
theorem dX4_suitsForm_51 : decode cX4_suitsForm 51 = .ok (.goto 4, 3) := by decide +kernel
theorem dX4_suitsForm_54 : decode cX4_suitsForm 54 = .ok (.iconst 0, 1) := by decide +kernel
theorem dX4_suitsForm_55 : decode cX4_suitsForm 55 = .ok (.ireturn, 1) := by decide +kernel
theorem dX4_suitsForm_56 : decode cX4_suitsForm 56 = .ok (.ldc 45, 2) := by decide +kernel
theorem dX4_suitsForm_58 : decode cX4_suitsForm 58 = .ok (.iload_n 1, 1) := by decide +kernel
theorem dX4_suitsForm_59 : decode cX4_suitsForm 59 = .ok (.i2c, 1) := by decide +kernel
theorem dX4_suitsForm_60 : decode cX4_suitsForm 60 = .ok (.invokevirtual 39, 3) := by decide +kernel
theorem dX4_suitsForm_63 : decode cX4_suitsForm 63 = .ok (.ifCond .lt 7, 3) := by decide +kernel
theorem dX4_suitsForm_66 : decode cX4_suitsForm 66 = .ok (.iconst 1, 1) := by decide +kernel
theorem dX4_suitsForm_67 : decode cX4_suitsForm 67 = .ok (.goto 4, 3) := by decide +kernel
theorem dX4_suitsForm_70 : decode cX4_suitsForm 70 = .ok (.iconst 0, 1) := by decide +kernel
theorem dX4_suitsForm_71 : decode cX4_suitsForm 71 = .ok (.ireturn, 1) := by decide +kernel
theorem dX4_suitsForm_72 : decode cX4_suitsForm 72 = .ok (.iload_n 1, 1) := by decide +kernel
theorem dX4_suitsForm_73 : decode cX4_suitsForm 73 = .ok (.bipush 48, 2) := by decide +kernel
theorem dX4_suitsForm_75 : decode cX4_suitsForm 75 = .ok (.if_icmp .lt 13, 3) := by decide +kernel
theorem dX4_suitsForm_78 : decode cX4_suitsForm 78 = .ok (.iload_n 1, 1) := by decide +kernel
theorem dX4_suitsForm_79 : decode cX4_suitsForm 79 = .ok (.bipush 57, 2) := by decide +kernel
theorem dX4_suitsForm_81 : decode cX4_suitsForm 81 = .ok (.if_icmp .gt 7, 3) := by decide +kernel
theorem dX4_suitsForm_84 : decode cX4_suitsForm 84 = .ok (.iconst 1, 1) := by decide +kernel
theorem dX4_suitsForm_85 : decode cX4_suitsForm 85 = .ok (.goto 4, 3) := by decide +kernel
theorem dX4_suitsForm_88 : decode cX4_suitsForm 88 = .ok (.iconst 0, 1) := by decide +kernel
theorem dX4_suitsForm_89 : decode cX4_suitsForm 89 = .ok (.ireturn, 1) := by decide +kernel
theorem dX4_suitsForm_90 : decode cX4_suitsForm 90 = .ok (.iload_n 1, 1) := by decide +kernel
theorem dX4_suitsForm_91 : decode cX4_suitsForm 91 = .ok (.iload_n 0, 1) := by decide +kernel
theorem dX4_suitsForm_92 : decode cX4_suitsForm 92 = .ok (.if_icmp .ne 7, 3) := by decide +kernel
theorem dX4_suitsForm_95 : decode cX4_suitsForm 95 = .ok (.iconst 1, 1) := by decide +kernel
theorem dX4_suitsForm_96 : decode cX4_suitsForm 96 = .ok (.goto 4, 3) := by decide +kernel
theorem dX4_suitsForm_99 : decode cX4_suitsForm 99 = .ok (.iconst 0, 1) := by decide +kernel
theorem dX4_suitsForm_100 : decode cX4_suitsForm 100 = .ok (.ireturn, 1) := by decide +kernel
theorem dX4_faultOfForm_0 : decode cX4_faultOfForm 0 = .ok (.iconst 0, 1) := by decide +kernel
theorem dX4_faultOfForm_1 : decode cX4_faultOfForm 1 = .ok (.istore_n 1, 1) := by decide +kernel
theorem dX4_faultOfForm_2 : decode cX4_faultOfForm 2 = .ok (.aload_n 0, 1) := by decide +kernel
theorem dX4_faultOfForm_3 : decode cX4_faultOfForm 3 = .ok (.iload_n 1, 1) := by decide +kernel
theorem dX4_faultOfForm_4 : decode cX4_faultOfForm 4 = .ok (.invokevirtual 47, 3) := by decide +kernel
theorem dX4_faultOfForm_7 : decode cX4_faultOfForm 7 = .ok (.invokestatic 50, 3) := by decide +kernel
theorem dX4_faultOfForm_10 : decode cX4_faultOfForm 10 = .ok (.astore_n 2, 1) := by decide +kernel
theorem dX4_faultOfForm_11 : decode cX4_faultOfForm 11 = .ok (.aload_n 2, 1) := by decide +kernel
theorem dX4_faultOfForm_12 : decode cX4_faultOfForm 12 = .ok (.invokevirtual 54, 3) := by decide +kernel
theorem dX4_faultOfForm_15 : decode cX4_faultOfForm 15 = .ok (.ifCond .eq 9, 3) := by decide +kernel
theorem dX4_faultOfForm_18 : decode cX4_faultOfForm 18 = .ok (.sipush (-1000), 3) := by decide +kernel
theorem dX4_faultOfForm_21 : decode cX4_faultOfForm 21 = .ok (.iload_n 1, 1) := by decide +kernel
theorem dX4_faultOfForm_22 : decode cX4_faultOfForm 22 = .ok (.isub, 1) := by decide +kernel
theorem dX4_faultOfForm_23 : decode cX4_faultOfForm 23 = .ok (.ireturn, 1) := by decide +kernel
theorem dX4_faultOfForm_24 : decode cX4_faultOfForm 24 = .ok (.iinc 1 1, 3) := by decide +kernel
theorem dX4_faultOfForm_27 : decode cX4_faultOfForm 27 = .ok (.iconst 0, 1) := by decide +kernel
theorem dX4_faultOfForm_28 : decode cX4_faultOfForm 28 = .ok (.istore_n 3, 1) := by decide +kernel
theorem dX4_faultOfForm_29 : decode cX4_faultOfForm 29 = .ok (.iload_n 3, 1) := by decide +kernel
theorem dX4_faultOfForm_30 : decode cX4_faultOfForm 30 = .ok (.aload_n 2, 1) := by decide +kernel
theorem dX4_faultOfForm_31 : decode cX4_faultOfForm 31 = .ok (.invokevirtual 57, 3) := by decide +kernel
theorem dX4_faultOfForm_34 : decode cX4_faultOfForm 34 = .ok (.if_icmp .ge 34, 3) := by decide +kernel
theorem dX4_faultOfForm_37 : decode cX4_faultOfForm 37 = .ok (.aload_n 2, 1) := by decide +kernel
theorem dX4_faultOfForm_38 : decode cX4_faultOfForm 38 = .ok (.iload_n 3, 1) := by decide +kernel
theorem dX4_faultOfForm_39 : decode cX4_faultOfForm 39 = .ok (.invokevirtual 61, 3) := by decide +kernel
theorem dX4_faultOfForm_42 : decode cX4_faultOfForm 42 = .ok (.aload_n 0, 1) := by decide +kernel
theorem dX4_faultOfForm_43 : decode cX4_faultOfForm 43 = .ok (.iload_n 1, 1) := by decide +kernel
theorem dX4_faultOfForm_44 : decode cX4_faultOfForm 44 = .ok (.invokevirtual 47, 3) := by decide +kernel
theorem dX4_faultOfForm_47 : decode cX4_faultOfForm 47 = .ok (.invokestatic 65, 3) := by decide +kernel
theorem dX4_faultOfForm_50 : decode cX4_faultOfForm 50 = .ok (.ifCond .ne 9, 3) := by decide +kernel
theorem dX4_faultOfForm_53 : decode cX4_faultOfForm 53 = .ok (.sipush (-1000), 3) := by decide +kernel
theorem dX4_faultOfForm_56 : decode cX4_faultOfForm 56 = .ok (.iload_n 1, 1) := by decide +kernel
theorem dX4_faultOfForm_57 : decode cX4_faultOfForm 57 = .ok (.isub, 1) := by decide +kernel
theorem dX4_faultOfForm_58 : decode cX4_faultOfForm 58 = .ok (.ireturn, 1) := by decide +kernel
theorem dX4_faultOfForm_59 : decode cX4_faultOfForm 59 = .ok (.iinc 1 1, 3) := by decide +kernel
theorem dX4_faultOfForm_62 : decode cX4_faultOfForm 62 = .ok (.iinc 3 1, 3) := by decide +kernel
theorem dX4_faultOfForm_65 : decode cX4_faultOfForm 65 = .ok (.goto (-36), 3) := by decide +kernel
theorem dX4_faultOfForm_68 : decode cX4_faultOfForm 68 = .ok (.iload_n 1, 1) := by decide +kernel
theorem dX4_faultOfForm_69 : decode cX4_faultOfForm 69 = .ok (.aload_n 0, 1) := by decide +kernel
theorem dX4_faultOfForm_70 : decode cX4_faultOfForm 70 = .ok (.getfield 15, 3) := by decide +kernel
theorem dX4_faultOfForm_73 : decode cX4_faultOfForm 73 = .ok (.if_icmp .lt (-71), 3) := by decide +kernel
theorem dX4_faultOfForm_76 : decode cX4_faultOfForm 76 = .ok (.iconst 0, 1) := by decide +kernel
theorem dX4_faultOfForm_77 : decode cX4_faultOfForm 77 = .ok (.ireturn, 1) := by decide +kernel
theorem dX4_tellAll_0 : decode cX4_tellAll 0 = .ok (.iconst 0, 1) := by decide +kernel
theorem dX4_tellAll_1 : decode cX4_tellAll 1 = .ok (.istore 4, 2) := by decide +kernel
theorem dX4_tellAll_3 : decode cX4_tellAll 3 = .ok (.iconst 0, 1) := by decide +kernel
theorem dX4_tellAll_4 : decode cX4_tellAll 4 = .ok (.istore 5, 2) := by decide +kernel
theorem dX4_tellAll_6 : decode cX4_tellAll 6 = .ok (.iload 5, 2) := by decide +kernel
theorem dX4_tellAll_8 : decode cX4_tellAll 8 = .ok (.aload_n 0, 1) := by decide +kernel
theorem dX4_tellAll_9 : decode cX4_tellAll 9 = .ok (.getfield 15, 3) := by decide +kernel
theorem dX4_tellAll_12 : decode cX4_tellAll 12 = .ok (.if_icmp .ge 63, 3) := by decide +kernel
theorem dX4_tellAll_15 : decode cX4_tellAll 15 = .ok (.aload_n 0, 1) := by decide +kernel
theorem dX4_tellAll_16 : decode cX4_tellAll 16 = .ok (.iload 5, 2) := by decide +kernel
theorem dX4_tellAll_18 : decode cX4_tellAll 18 = .ok (.invokevirtual 47, 3) := by decide +kernel
theorem dX4_tellAll_21 : decode cX4_tellAll 21 = .ok (.bipush 115, 2) := by decide +kernel
theorem dX4_tellAll_23 : decode cX4_tellAll 23 = .ok (.if_icmp .ne 9, 3) := by decide +kernel
theorem dX4_tellAll_26 : decode cX4_tellAll 26 = .ok (.aload_n 3, 1) := by decide +kernel
theorem dX4_tellAll_27 : decode cX4_tellAll 27 = .ok (.aload_n 1, 1) := by decide +kernel
theorem dX4_tellAll_28 : decode cX4_tellAll 28 = .ok (.aload_n 2, 1) := by decide +kernel
theorem dX4_tellAll_29 : decode cX4_tellAll 29 = .ok (.invokevirtual 69, 3) := by decide +kernel
theorem dX4_tellAll_32 : decode cX4_tellAll 32 = .ok (.aload_n 0, 1) := by decide +kernel
theorem dX4_tellAll_33 : decode cX4_tellAll 33 = .ok (.aload_n 1, 1) := by decide +kernel
theorem dX4_tellAll_34 : decode cX4_tellAll 34 = .ok (.aload_n 3, 1) := by decide +kernel
theorem dX4_tellAll_35 : decode cX4_tellAll 35 = .ok (.iload 5, 2) := by decide +kernel
theorem dX4_tellAll_37 : decode cX4_tellAll 37 = .ok (.invokevirtual 75, 3) := by decide +kernel
theorem dX4_tellAll_40 : decode cX4_tellAll 40 = .ok (.ifCond .ne 10, 3) := by decide +kernel
theorem dX4_tellAll_43 : decode cX4_tellAll 43 = .ok (.sipush (-2000), 3) := by decide +kernel
theorem dX4_tellAll_46 : decode cX4_tellAll 46 = .ok (.iload 5, 2) := by decide +kernel
theorem dX4_tellAll_48 : decode cX4_tellAll 48 = .ok (.isub, 1) := by decide +kernel
theorem dX4_tellAll_49 : decode cX4_tellAll 49 = .ok (.ireturn, 1) := by decide +kernel
theorem dX4_tellAll_50 : decode cX4_tellAll 50 = .ok (.iload 5, 2) := by decide +kernel
theorem dX4_tellAll_52 : decode cX4_tellAll 52 = .ok (.iconst 1, 1) := by decide +kernel
theorem dX4_tellAll_53 : decode cX4_tellAll 53 = .ok (.aload_n 0, 1) := by decide +kernel
theorem dX4_tellAll_54 : decode cX4_tellAll 54 = .ok (.iload 5, 2) := by decide +kernel
theorem dX4_tellAll_56 : decode cX4_tellAll 56 = .ok (.invokevirtual 47, 3) := by decide +kernel
theorem dX4_tellAll_59 : decode cX4_tellAll 59 = .ok (.invokestatic 50, 3) := by decide +kernel
theorem dX4_tellAll_62 : decode cX4_tellAll 62 = .ok (.invokevirtual 57, 3) := by decide +kernel
theorem dX4_tellAll_65 : decode cX4_tellAll 65 = .ok (.iadd, 1) := by decide +kernel
theorem dX4_tellAll_66 : decode cX4_tellAll 66 = .ok (.iadd, 1) := by decide +kernel
theorem dX4_tellAll_67 : decode cX4_tellAll 67 = .ok (.istore 5, 2) := by decide +kernel
theorem dX4_tellAll_69 : decode cX4_tellAll 69 = .ok (.iinc 4 1, 3) := by decide +kernel
theorem dX4_tellAll_72 : decode cX4_tellAll 72 = .ok (.goto (-66), 3) := by decide +kernel
theorem dX4_tellAll_75 : decode cX4_tellAll 75 = .ok (.iload 4, 2) := by decide +kernel
theorem dX4_tellAll_77 : decode cX4_tellAll 77 = .ok (.ireturn, 1) := by decide +kernel
theorem dX4_tellOne_0 : decode cX4_tellOne 0 = .ok (.aload_n 0, 1) := by decide +kernel
theorem dX4_tellOne_1 : decode cX4_tellOne 1 = .ok (.ldc 37, 2) := by decide +kernel
theorem dX4_tellOne_3 : decode cX4_tellOne 3 = .ok (.iload_n 3, 1) := by decide +kernel
theorem dX4_tellOne_4 : decode cX4_tellOne 4 = .ok (.iconst 1, 1) := by decide +kernel
theorem dX4_tellOne_5 : decode cX4_tellOne 5 = .ok (.iadd, 1) := by decide +kernel
theorem dX4_tellOne_6 : decode cX4_tellOne 6 = .ok (.invokevirtual 79, 3) := by decide +kernel
theorem dX4_tellOne_9 : decode cX4_tellOne 9 = .ok (.istore 4, 2) := by decide +kernel
theorem dX4_tellOne_11 : decode cX4_tellOne 11 = .ok (.aload_n 0, 1) := by decide +kernel
theorem dX4_tellOne_12 : decode cX4_tellOne 12 = .ok (.iload_n 3, 1) := by decide +kernel
theorem dX4_tellOne_13 : decode cX4_tellOne 13 = .ok (.invokevirtual 47, 3) := by decide +kernel
theorem dX4_tellOne_16 : decode cX4_tellOne 16 = .ok (.tableswitch 271 99 118 #[213, 177, 271, 271, 271, 164, 271, 271, 96, 138, 271, 271, 271, 271, 271, 271, 249, 271, 271, 117], 96) := by decide +kernel
theorem dX4_tellOne_112 : decode cX4_tellOne 112 = .ok (.aload_n 1, 1) := by decide +kernel
theorem dX4_tellOne_113 : decode cX4_tellOne 113 = .ok (.aload_n 0, 1) := by decide +kernel
theorem dX4_tellOne_114 : decode cX4_tellOne 114 = .ok (.iload_n 3, 1) := by decide +kernel
theorem dX4_tellOne_115 : decode cX4_tellOne 115 = .ok (.iconst 2, 1) := by decide +kernel
theorem dX4_tellOne_116 : decode cX4_tellOne 116 = .ok (.iadd, 1) := by decide +kernel
theorem dX4_tellOne_117 : decode cX4_tellOne 117 = .ok (.invokevirtual 83, 3) := by decide +kernel
theorem dX4_tellOne_120 : decode cX4_tellOne 120 = .ok (.aload_n 0, 1) := by decide +kernel
theorem dX4_tellOne_121 : decode cX4_tellOne 121 = .ok (.iload_n 3, 1) := by decide +kernel
theorem dX4_tellOne_122 : decode cX4_tellOne 122 = .ok (.iconst 2, 1) := by decide +kernel
theorem dX4_tellOne_123 : decode cX4_tellOne 123 = .ok (.iadd, 1) := by decide +kernel
theorem dX4_tellOne_124 : decode cX4_tellOne 124 = .ok (.invokevirtual 83, 3) := by decide +kernel
theorem dX4_tellOne_127 : decode cX4_tellOne 127 = .ok (.iload 4, 2) := by decide +kernel
theorem dX4_tellOne_129 : decode cX4_tellOne 129 = .ok (.invokestatic 86, 3) := by decide +kernel
theorem dX4_tellOne_132 : decode cX4_tellOne 132 = .ok (.ireturn, 1) := by decide +kernel
theorem dX4_tellOne_133 : decode cX4_tellOne 133 = .ok (.aload_n 1, 1) := by decide +kernel
theorem dX4_tellOne_134 : decode cX4_tellOne 134 = .ok (.aload_n 0, 1) := by decide +kernel
theorem dX4_tellOne_135 : decode cX4_tellOne 135 = .ok (.iload_n 3, 1) := by decide +kernel
theorem dX4_tellOne_136 : decode cX4_tellOne 136 = .ok (.iconst 2, 1) := by decide +kernel
theorem dX4_tellOne_137 : decode cX4_tellOne 137 = .ok (.iadd, 1) := by decide +kernel
theorem dX4_tellOne_138 : decode cX4_tellOne 138 = .ok (.invokevirtual 83, 3) := by decide +kernel
theorem dX4_tellOne_141 : decode cX4_tellOne 141 = .ok (.aload_n 0, 1) := by decide +kernel
theorem dX4_tellOne_142 : decode cX4_tellOne 142 = .ok (.iload_n 3, 1) := by decide +kernel
theorem dX4_tellOne_143 : decode cX4_tellOne 143 = .ok (.iconst 4, 1) := by decide +kernel
theorem dX4_tellOne_144 : decode cX4_tellOne 144 = .ok (.iadd, 1) := by decide +kernel
theorem dX4_tellOne_145 : decode cX4_tellOne 145 = .ok (.invokevirtual 83, 3) := by decide +kernel
theorem dX4_tellOne_148 : decode cX4_tellOne 148 = .ok (.iload 4, 2) := by decide +kernel
theorem dX4_tellOne_150 : decode cX4_tellOne 150 = .ok (.invokestatic 86, 3) := by decide +kernel
theorem dX4_tellOne_153 : decode cX4_tellOne 153 = .ok (.ireturn, 1) := by decide +kernel
theorem dX4_tellOne_154 : decode cX4_tellOne 154 = .ok (.aload_n 1, 1) := by decide +kernel
theorem dX4_tellOne_155 : decode cX4_tellOne 155 = .ok (.aload_n 0, 1) := by decide +kernel
theorem dX4_tellOne_156 : decode cX4_tellOne 156 = .ok (.iload_n 3, 1) := by decide +kernel
theorem dX4_tellOne_157 : decode cX4_tellOne 157 = .ok (.iconst 1, 1) := by decide +kernel
theorem dX4_tellOne_158 : decode cX4_tellOne 158 = .ok (.iadd, 1) := by decide +kernel
theorem dX4_tellOne_159 : decode cX4_tellOne 159 = .ok (.invokevirtual 83, 3) := by decide +kernel
theorem dX4_tellOne_162 : decode cX4_tellOne 162 = .ok (.aload_n 0, 1) := by decide +kernel
theorem dX4_tellOne_163 : decode cX4_tellOne 163 = .ok (.iload_n 3, 1) := by decide +kernel
theorem dX4_tellOne_164 : decode cX4_tellOne 164 = .ok (.iconst 3, 1) := by decide +kernel
theorem dX4_tellOne_165 : decode cX4_tellOne 165 = .ok (.iadd, 1) := by decide +kernel
theorem dX4_tellOne_166 : decode cX4_tellOne 166 = .ok (.invokevirtual 83, 3) := by decide +kernel
theorem dX4_tellOne_169 : decode cX4_tellOne 169 = .ok (.aload_n 0, 1) := by decide +kernel
theorem dX4_tellOne_170 : decode cX4_tellOne 170 = .ok (.iload_n 3, 1) := by decide +kernel
theorem dX4_tellOne_171 : decode cX4_tellOne 171 = .ok (.iconst 5, 1) := by decide +kernel
theorem dX4_tellOne_172 : decode cX4_tellOne 172 = .ok (.iadd, 1) := by decide +kernel
theorem dX4_tellOne_173 : decode cX4_tellOne 173 = .ok (.invokevirtual 90, 3) := by decide +kernel
theorem dX4_tellOne_176 : decode cX4_tellOne 176 = .ok (.invokestatic 93, 3) := by decide +kernel
theorem dX4_tellOne_179 : decode cX4_tellOne 179 = .ok (.ireturn, 1) := by decide +kernel
theorem dX4_tellOne_180 : decode cX4_tellOne 180 = .ok (.aload_n 1, 1) := by decide +kernel
theorem dX4_tellOne_181 : decode cX4_tellOne 181 = .ok (.iconst 0, 1) := by decide +kernel
theorem dX4_tellOne_182 : decode cX4_tellOne 182 = .ok (.aload_n 0, 1) := by decide +kernel
theorem dX4_tellOne_183 : decode cX4_tellOne 183 = .ok (.iload_n 3, 1) := by decide +kernel
theorem dX4_tellOne_184 : decode cX4_tellOne 184 = .ok (.iconst 1, 1) := by decide +kernel
theorem dX4_tellOne_185 : decode cX4_tellOne 185 = .ok (.iadd, 1) := by decide +kernel
theorem dX4_tellOne_186 : decode cX4_tellOne 186 = .ok (.invokevirtual 83, 3) := by decide +kernel
theorem dX4_tellOne_189 : decode cX4_tellOne 189 = .ok (.invokestatic 96, 3) := by decide +kernel
theorem dX4_tellOne_192 : decode cX4_tellOne 192 = .ok (.ireturn, 1) := by decide +kernel
theorem dX4_tellOne_193 : decode cX4_tellOne 193 = .ok (.aload_n 1, 1) := by decide +kernel
theorem dX4_tellOne_194 : decode cX4_tellOne 194 = .ok (.iconst 1, 1) := by decide +kernel
theorem dX4_tellOne_195 : decode cX4_tellOne 195 = .ok (.aload_n 0, 1) := by decide +kernel
theorem dX4_tellOne_196 : decode cX4_tellOne 196 = .ok (.iload_n 3, 1) := by decide +kernel
theorem dX4_tellOne_197 : decode cX4_tellOne 197 = .ok (.iconst 1, 1) := by decide +kernel
theorem dX4_tellOne_198 : decode cX4_tellOne 198 = .ok (.iadd, 1) := by decide +kernel
theorem dX4_tellOne_199 : decode cX4_tellOne 199 = .ok (.invokevirtual 90, 3) := by decide +kernel
theorem dX4_tellOne_202 : decode cX4_tellOne 202 = .ok (.invokestatic 96, 3) := by decide +kernel
theorem dX4_tellOne_205 : decode cX4_tellOne 205 = .ok (.ifCond .eq 22, 3) := by decide +kernel
theorem dX4_tellOne_208 : decode cX4_tellOne 208 = .ok (.aload_n 1, 1) := by decide +kernel
theorem dX4_tellOne_209 : decode cX4_tellOne 209 = .ok (.iconst 2, 1) := by decide +kernel
theorem dX4_tellOne_210 : decode cX4_tellOne 210 = .ok (.aload_n 0, 1) := by decide +kernel
theorem dX4_tellOne_211 : decode cX4_tellOne 211 = .ok (.iload_n 3, 1) := by decide +kernel
theorem dX4_tellOne_212 : decode cX4_tellOne 212 = .ok (.iconst 2, 1) := by decide +kernel
theorem dX4_tellOne_213 : decode cX4_tellOne 213 = .ok (.iadd, 1) := by decide +kernel
theorem dX4_tellOne_214 : decode cX4_tellOne 214 = .ok (.invokevirtual 90, 3) := by decide +kernel
theorem dX4_tellOne_217 : decode cX4_tellOne 217 = .ok (.invokestatic 96, 3) := by decide +kernel
theorem dX4_tellOne_220 : decode cX4_tellOne 220 = .ok (.ifCond .eq 7, 3) := by decide +kernel
theorem dX4_tellOne_223 : decode cX4_tellOne 223 = .ok (.iconst 1, 1) := by decide +kernel
theorem dX4_tellOne_224 : decode cX4_tellOne 224 = .ok (.goto 4, 3) := by decide +kernel
theorem dX4_tellOne_227 : decode cX4_tellOne 227 = .ok (.iconst 0, 1) := by decide +kernel
theorem dX4_tellOne_228 : decode cX4_tellOne 228 = .ok (.ireturn, 1) := by decide +kernel
theorem dX4_tellOne_229 : decode cX4_tellOne 229 = .ok (.aload_n 1, 1) := by decide +kernel
theorem dX4_tellOne_230 : decode cX4_tellOne 230 = .ok (.iconst 3, 1) := by decide +kernel
theorem dX4_tellOne_231 : decode cX4_tellOne 231 = .ok (.aload_n 0, 1) := by decide +kernel
theorem dX4_tellOne_232 : decode cX4_tellOne 232 = .ok (.iload_n 3, 1) := by decide +kernel
theorem dX4_tellOne_233 : decode cX4_tellOne 233 = .ok (.iconst 1, 1) := by decide +kernel
theorem dX4_tellOne_234 : decode cX4_tellOne 234 = .ok (.iadd, 1) := by decide +kernel
theorem dX4_tellOne_235 : decode cX4_tellOne 235 = .ok (.invokevirtual 83, 3) := by decide +kernel
theorem dX4_tellOne_238 : decode cX4_tellOne 238 = .ok (.invokestatic 96, 3) := by decide +kernel
theorem dX4_tellOne_241 : decode cX4_tellOne 241 = .ok (.ifCond .eq 22, 3) := by decide +kernel
theorem dX4_tellOne_244 : decode cX4_tellOne 244 = .ok (.aload_n 1, 1) := by decide +kernel
theorem dX4_tellOne_245 : decode cX4_tellOne 245 = .ok (.iconst 4, 1) := by decide +kernel
theorem dX4_tellOne_246 : decode cX4_tellOne 246 = .ok (.aload_n 0, 1) := by decide +kernel
theorem dX4_tellOne_247 : decode cX4_tellOne 247 = .ok (.iload_n 3, 1) := by decide +kernel
theorem dX4_tellOne_248 : decode cX4_tellOne 248 = .ok (.iconst 3, 1) := by decide +kernel
theorem dX4_tellOne_249 : decode cX4_tellOne 249 = .ok (.iadd, 1) := by decide +kernel
theorem dX4_tellOne_250 : decode cX4_tellOne 250 = .ok (.invokevirtual 83, 3) := by decide +kernel
theorem dX4_tellOne_253 : decode cX4_tellOne 253 = .ok (.invokestatic 96, 3) := by decide +kernel
theorem dX4_tellOne_256 : decode cX4_tellOne 256 = .ok (.ifCond .eq 7, 3) := by decide +kernel
theorem dX4_tellOne_259 : decode cX4_tellOne 259 = .ok (.iconst 1, 1) := by decide +kernel
theorem dX4_tellOne_260 : decode cX4_tellOne 260 = .ok (.goto 4, 3) := by decide +kernel
theorem dX4_tellOne_263 : decode cX4_tellOne 263 = .ok (.iconst 0, 1) := by decide +kernel
theorem dX4_tellOne_264 : decode cX4_tellOne 264 = .ok (.ireturn, 1) := by decide +kernel
theorem dX4_tellOne_265 : decode cX4_tellOne 265 = .ok (.aload_n 2, 1) := by decide +kernel
theorem dX4_tellOne_266 : decode cX4_tellOne 266 = .ok (.aload_n 1, 1) := by decide +kernel
theorem dX4_tellOne_267 : decode cX4_tellOne 267 = .ok (.aload_n 0, 1) := by decide +kernel
theorem dX4_tellOne_268 : decode cX4_tellOne 268 = .ok (.ldc 45, 2) := by decide +kernel
theorem dX4_tellOne_270 : decode cX4_tellOne 270 = .ok (.iload_n 3, 1) := by decide +kernel
theorem dX4_tellOne_271 : decode cX4_tellOne 271 = .ok (.iconst 1, 1) := by decide +kernel
theorem dX4_tellOne_272 : decode cX4_tellOne 272 = .ok (.iadd, 1) := by decide +kernel
theorem dX4_tellOne_273 : decode cX4_tellOne 273 = .ok (.invokevirtual 79, 3) := by decide +kernel
theorem dX4_tellOne_276 : decode cX4_tellOne 276 = .ok (.aload_n 0, 1) := by decide +kernel
theorem dX4_tellOne_277 : decode cX4_tellOne 277 = .ok (.iload_n 3, 1) := by decide +kernel
theorem dX4_tellOne_278 : decode cX4_tellOne 278 = .ok (.iconst 2, 1) := by decide +kernel
theorem dX4_tellOne_279 : decode cX4_tellOne 279 = .ok (.iadd, 1) := by decide +kernel
theorem dX4_tellOne_280 : decode cX4_tellOne 280 = .ok (.invokevirtual 83, 3) := by decide +kernel
theorem dX4_tellOne_283 : decode cX4_tellOne 283 = .ok (.invokevirtual 100, 3) := by decide +kernel
theorem dX4_tellOne_286 : decode cX4_tellOne 286 = .ok (.ireturn, 1) := by decide +kernel
theorem dX4_tellOne_287 : decode cX4_tellOne 287 = .ok (.iconst 0, 1) := by decide +kernel
theorem dX4_tellOne_288 : decode cX4_tellOne 288 = .ok (.ireturn, 1) := by decide +kernel
theorem dX4_isRange_0 : decode cX4_isRange 0 = .ok (.iload_n 0, 1) := by decide +kernel
theorem dX4_isRange_1 : decode cX4_isRange 1 = .ok (.invokestatic 103, 3) := by decide +kernel
theorem dX4_isRange_4 : decode cX4_isRange 4 = .ok (.ifCond .eq 19, 3) := by decide +kernel
theorem dX4_isRange_7 : decode cX4_isRange 7 = .ok (.iload_n 1, 1) := by decide +kernel
theorem dX4_isRange_8 : decode cX4_isRange 8 = .ok (.invokestatic 103, 3) := by decide +kernel
theorem dX4_isRange_11 : decode cX4_isRange 11 = .ok (.ifCond .eq 12, 3) := by decide +kernel
theorem dX4_isRange_14 : decode cX4_isRange 14 = .ok (.iload_n 0, 1) := by decide +kernel
theorem dX4_isRange_15 : decode cX4_isRange 15 = .ok (.iload_n 1, 1) := by decide +kernel
theorem dX4_isRange_16 : decode cX4_isRange 16 = .ok (.if_icmp .gt 7, 3) := by decide +kernel
theorem dX4_isRange_19 : decode cX4_isRange 19 = .ok (.iconst 1, 1) := by decide +kernel
theorem dX4_isRange_20 : decode cX4_isRange 20 = .ok (.goto 4, 3) := by decide +kernel
theorem dX4_isRange_23 : decode cX4_isRange 23 = .ok (.iconst 0, 1) := by decide +kernel
theorem dX4_isRange_24 : decode cX4_isRange 24 = .ok (.ireturn, 1) := by decide +kernel
theorem dX4_turnAll_0 : decode cX4_turnAll 0 = .ok (.iload_n 1, 1) := by decide +kernel
theorem dX4_turnAll_1 : decode cX4_turnAll 1 = .ok (.iload_n 2, 1) := by decide +kernel
theorem dX4_turnAll_2 : decode cX4_turnAll 2 = .ok (.invokestatic 107, 3) := by decide +kernel
theorem dX4_turnAll_5 : decode cX4_turnAll 5 = .ok (.ifCond .eq 10, 3) := by decide +kernel
theorem dX4_turnAll_8 : decode cX4_turnAll 8 = .ok (.iload_n 3, 1) := by decide +kernel
theorem dX4_turnAll_9 : decode cX4_turnAll 9 = .ok (.invokestatic 111, 3) := by decide +kernel
theorem dX4_turnAll_12 : decode cX4_turnAll 12 = .ok (.ifCond .ne 5, 3) := by decide +kernel
theorem dX4_turnAll_15 : decode cX4_turnAll 15 = .ok (.iconst 0, 1) := by decide +kernel
theorem dX4_turnAll_16 : decode cX4_turnAll 16 = .ok (.ireturn, 1) := by decide +kernel
theorem dX4_turnAll_17 : decode cX4_turnAll 17 = .ok (.iload_n 1, 1) := by decide +kernel
theorem dX4_turnAll_18 : decode cX4_turnAll 18 = .ok (.istore 4, 2) := by decide +kernel
theorem dX4_turnAll_20 : decode cX4_turnAll 20 = .ok (.iload 4, 2) := by decide +kernel
theorem dX4_turnAll_22 : decode cX4_turnAll 22 = .ok (.iload_n 2, 1) := by decide +kernel
theorem dX4_turnAll_23 : decode cX4_turnAll 23 = .ok (.if_icmp .gt 16, 3) := by decide +kernel
theorem dX4_turnAll_26 : decode cX4_turnAll 26 = .ok (.aload_n 0, 1) := by decide +kernel
theorem dX4_turnAll_27 : decode cX4_turnAll 27 = .ok (.iload 4, 2) := by decide +kernel
theorem dX4_turnAll_29 : decode cX4_turnAll 29 = .ok (.iload_n 3, 1) := by decide +kernel
theorem dX4_turnAll_30 : decode cX4_turnAll 30 = .ok (.invokevirtual 114, 3) := by decide +kernel
theorem dX4_turnAll_33 : decode cX4_turnAll 33 = .ok (.iinc 4 1, 3) := by decide +kernel
theorem dX4_turnAll_36 : decode cX4_turnAll 36 = .ok (.goto (-16), 3) := by decide +kernel
theorem dX4_turnAll_39 : decode cX4_turnAll 39 = .ok (.aload_n 0, 1) := by decide +kernel
theorem dX4_turnAll_40 : decode cX4_turnAll 40 = .ok (.invokevirtual 120, 3) := by decide +kernel
theorem dX4_turnAll_43 : decode cX4_turnAll 43 = .ok (.ireturn, 1) := by decide +kernel
theorem dX4_makeAll_0 : decode cX4_makeAll 0 = .ok (.iload_n 1, 1) := by decide +kernel
theorem dX4_makeAll_1 : decode cX4_makeAll 1 = .ok (.iload_n 2, 1) := by decide +kernel
theorem dX4_makeAll_2 : decode cX4_makeAll 2 = .ok (.invokestatic 107, 3) := by decide +kernel
theorem dX4_makeAll_5 : decode cX4_makeAll 5 = .ok (.ifCond .ne 5, 3) := by decide +kernel
theorem dX4_makeAll_8 : decode cX4_makeAll 8 = .ok (.iconst 0, 1) := by decide +kernel
theorem dX4_makeAll_9 : decode cX4_makeAll 9 = .ok (.ireturn, 1) := by decide +kernel
theorem dX4_makeAll_10 : decode cX4_makeAll 10 = .ok (.iload_n 1, 1) := by decide +kernel
theorem dX4_makeAll_11 : decode cX4_makeAll 11 = .ok (.istore 4, 2) := by decide +kernel
theorem dX4_makeAll_13 : decode cX4_makeAll 13 = .ok (.iload 4, 2) := by decide +kernel
theorem dX4_makeAll_15 : decode cX4_makeAll 15 = .ok (.iload_n 2, 1) := by decide +kernel
theorem dX4_makeAll_16 : decode cX4_makeAll 16 = .ok (.if_icmp .gt 16, 3) := by decide +kernel
theorem dX4_makeAll_19 : decode cX4_makeAll 19 = .ok (.aload_n 0, 1) := by decide +kernel
theorem dX4_makeAll_20 : decode cX4_makeAll 20 = .ok (.iload 4, 2) := by decide +kernel
theorem dX4_makeAll_22 : decode cX4_makeAll 22 = .ok (.iload_n 3, 1) := by decide +kernel
theorem dX4_makeAll_23 : decode cX4_makeAll 23 = .ok (.invokevirtual 123, 3) := by decide +kernel
theorem dX4_makeAll_26 : decode cX4_makeAll 26 = .ok (.iinc 4 1, 3) := by decide +kernel
theorem dX4_makeAll_29 : decode cX4_makeAll 29 = .ok (.goto (-16), 3) := by decide +kernel
theorem dX4_makeAll_32 : decode cX4_makeAll 32 = .ok (.iconst 1, 1) := by decide +kernel
theorem dX4_makeAll_33 : decode cX4_makeAll 33 = .ok (.ireturn, 1) := by decide +kernel
theorem dX4_putNumber_0 : decode cX4_putNumber 0 = .ok (.iload_n 1, 1) := by decide +kernel
theorem dX4_putNumber_1 : decode cX4_putNumber 1 = .ok (.ifCond .lt 26, 3) := by decide +kernel
theorem dX4_putNumber_4 : decode cX4_putNumber 4 = .ok (.iload_n 1, 1) := by decide +kernel
theorem dX4_putNumber_5 : decode cX4_putNumber 5 = .ok (.iconst 5, 1) := by decide +kernel
theorem dX4_putNumber_6 : decode cX4_putNumber 6 = .ok (.if_icmp .ge 21, 3) := by decide +kernel
theorem dX4_putNumber_9 : decode cX4_putNumber 9 = .ok (.iload_n 2, 1) := by decide +kernel
theorem dX4_putNumber_10 : decode cX4_putNumber 10 = .ok (.getstatic 126, 3) := by decide +kernel
theorem dX4_putNumber_13 : decode cX4_putNumber 13 = .ok (.iload_n 1, 1) := by decide +kernel
theorem dX4_putNumber_14 : decode cX4_putNumber 14 = .ok (.iaload, 1) := by decide +kernel
theorem dX4_putNumber_15 : decode cX4_putNumber 15 = .ok (.if_icmp .lt 12, 3) := by decide +kernel
theorem dX4_putNumber_18 : decode cX4_putNumber 18 = .ok (.iload_n 2, 1) := by decide +kernel
theorem dX4_putNumber_19 : decode cX4_putNumber 19 = .ok (.getstatic 129, 3) := by decide +kernel
theorem dX4_putNumber_22 : decode cX4_putNumber 22 = .ok (.iload_n 1, 1) := by decide +kernel
theorem dX4_putNumber_23 : decode cX4_putNumber 23 = .ok (.iaload, 1) := by decide +kernel
theorem dX4_putNumber_24 : decode cX4_putNumber 24 = .ok (.if_icmp .le 5, 3) := by decide +kernel
theorem dX4_putNumber_27 : decode cX4_putNumber 27 = .ok (.iconst 0, 1) := by decide +kernel
theorem dX4_putNumber_28 : decode cX4_putNumber 28 = .ok (.ireturn, 1) := by decide +kernel
theorem dX4_putNumber_29 : decode cX4_putNumber 29 = .ok (.aload_n 0, 1) := by decide +kernel
theorem dX4_putNumber_30 : decode cX4_putNumber 30 = .ok (.iload_n 1, 1) := by decide +kernel
theorem dX4_putNumber_31 : decode cX4_putNumber 31 = .ok (.iload_n 2, 1) := by decide +kernel
theorem dX4_putNumber_32 : decode cX4_putNumber 32 = .ok (.invokevirtual 132, 3) := by decide +kernel
theorem dX4_putNumber_35 : decode cX4_putNumber 35 = .ok (.aload_n 0, 1) := by decide +kernel
theorem dX4_putNumber_36 : decode cX4_putNumber 36 = .ok (.invokevirtual 120, 3) := by decide +kernel
theorem dX4_putNumber_39 : decode cX4_putNumber 39 = .ok (.ireturn, 1) := by decide +kernel
theorem dX4_codeAt_0 : decode cX4_codeAt 0 = .ok (.aload_n 0, 1) := by decide +kernel
theorem dX4_codeAt_1 : decode cX4_codeAt 1 = .ok (.iload_n 2, 1) := by decide +kernel
theorem dX4_codeAt_2 : decode cX4_codeAt 2 = .ok (.invokevirtual 47, 3) := by decide +kernel
theorem dX4_codeAt_5 : decode cX4_codeAt 5 = .ok (.istore_n 3, 1) := by decide +kernel
theorem dX4_codeAt_6 : decode cX4_codeAt 6 = .ok (.iload_n 3, 1) := by decide +kernel
theorem dX4_codeAt_7 : decode cX4_codeAt 7 = .ok (.ifCond .ge 7, 3) := by decide +kernel
theorem dX4_codeAt_10 : decode cX4_codeAt 10 = .ok (.iconst (-1), 1) := by decide +kernel
theorem dX4_codeAt_11 : decode cX4_codeAt 11 = .ok (.goto 9, 3) := by decide +kernel
theorem dX4_codeAt_14 : decode cX4_codeAt 14 = .ok (.aload_n 1, 1) := by decide +kernel
theorem dX4_codeAt_15 : decode cX4_codeAt 15 = .ok (.iload_n 3, 1) := by decide +kernel
theorem dX4_codeAt_16 : decode cX4_codeAt 16 = .ok (.i2c, 1) := by decide +kernel
theorem dX4_codeAt_17 : decode cX4_codeAt 17 = .ok (.invokevirtual 39, 3) := by decide +kernel
theorem dX4_codeAt_20 : decode cX4_codeAt 20 = .ok (.ireturn, 1) := by decide +kernel
theorem dX4_digit_0 : decode cX4_digit 0 = .ok (.aload_n 0, 1) := by decide +kernel
theorem dX4_digit_1 : decode cX4_digit 1 = .ok (.iload_n 1, 1) := by decide +kernel
theorem dX4_digit_2 : decode cX4_digit 2 = .ok (.invokevirtual 47, 3) := by decide +kernel
theorem dX4_digit_5 : decode cX4_digit 5 = .ok (.bipush 48, 2) := by decide +kernel
theorem dX4_digit_7 : decode cX4_digit 7 = .ok (.isub, 1) := by decide +kernel
theorem dX4_digit_8 : decode cX4_digit 8 = .ok (.ireturn, 1) := by decide +kernel
theorem dX4_twoDigits_0 : decode cX4_twoDigits 0 = .ok (.bipush 10, 2) := by decide +kernel
theorem dX4_twoDigits_2 : decode cX4_twoDigits 2 = .ok (.aload_n 0, 1) := by decide +kernel
theorem dX4_twoDigits_3 : decode cX4_twoDigits 3 = .ok (.iload_n 1, 1) := by decide +kernel
theorem dX4_twoDigits_4 : decode cX4_twoDigits 4 = .ok (.invokevirtual 90, 3) := by decide +kernel
theorem dX4_twoDigits_7 : decode cX4_twoDigits 7 = .ok (.imul, 1) := by decide +kernel
theorem dX4_twoDigits_8 : decode cX4_twoDigits 8 = .ok (.aload_n 0, 1) := by decide +kernel
theorem dX4_twoDigits_9 : decode cX4_twoDigits 9 = .ok (.iload_n 1, 1) := by decide +kernel
theorem dX4_twoDigits_10 : decode cX4_twoDigits 10 = .ok (.iconst 1, 1) := by decide +kernel
theorem dX4_twoDigits_11 : decode cX4_twoDigits 11 = .ok (.iadd, 1) := by decide +kernel
theorem dX4_twoDigits_12 : decode cX4_twoDigits 12 = .ok (.invokevirtual 90, 3) := by decide +kernel
theorem dX4_twoDigits_15 : decode cX4_twoDigits 15 = .ok (.iadd, 1) := by decide +kernel
theorem dX4_twoDigits_16 : decode cX4_twoDigits 16 = .ok (.ireturn, 1) := by decide +kernel
