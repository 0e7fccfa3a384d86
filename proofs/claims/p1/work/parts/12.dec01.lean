theorem dX12_layDues_9 : decode cX12_layDues 9 = .ok (.iload_n 1, 1) := by decide +kernel
theorem dX12_layDues_10 : decode cX12_layDues 10 = .ok (.iconst 3, 1) := by decide +kernel
theorem dX12_layDues_11 : decode cX12_layDues 11 = .ok (.idiv, 1) := by decide +kernel
theorem dX12_layDues_12 : decode cX12_layDues 12 = .ok (.iload_n 1, 1) := by decide +kernel
theorem dX12_layDues_13 : decode cX12_layDues 13 = .ok (.iconst 3, 1) := by decide +kernel
theorem dX12_layDues_14 : decode cX12_layDues 14 = .ok (.irem, 1) := by decide +kernel
theorem dX12_layDues_15 : decode cX12_layDues 15 = .ok (.invokevirtual 344, 3) := by decide +kernel
theorem dX12_layDues_18 : decode cX12_layDues 18 = .ok (.ifCond .ne 6, 3) := by decide +kernel
theorem dX12_layDues_21 : decode cX12_layDues 21 = .ok (.goto 55, 3) := by decide +kernel
theorem dX12_layDues_76 : decode cX12_layDues 76 = .ok (.iinc 1 1, 3) := by decide +kernel
theorem dX12_layDues_79 : decode cX12_layDues 79 = .ok (.goto (-77), 3) := by decide +kernel
theorem dX12_layDues_82 : decode cX12_layDues 82 = .ok (.return_, 1) := by decide +kernel
theorem dX12_named_0 : decode cX12_named 0 = .ok (.aload_n 0, 1) := by decide +kernel
theorem dX12_named_1 : decode cX12_named 1 = .ok (.iconst 0, 1) := by decide +kernel
theorem dX12_named_2 : decode cX12_named 2 = .ok (.putfield 163, 3) := by decide +kernel
theorem dX12_named_5 : decode cX12_named 5 = .ok (.iload_n 1, 1) := by decide +kernel
theorem dX12_named_6 : decode cX12_named 6 = .ok (.tableswitch 94 0 3 #[30, 46, 62, 78], 30) := by decide +kernel
theorem dX12_named_36 : decode cX12_named 36 = .ok (.aload_n 0, 1) := by decide +kernel
theorem dX12_named_37 : decode cX12_named 37 = .ok (.getfield 16, 3) := by decide +kernel
theorem dX12_named_40 : decode cX12_named 40 = .ok (.iconst 0, 1) := by decide +kernel
theorem dX12_named_41 : decode cX12_named 41 = .ok (.aload_n 0, 1) := by decide +kernel
theorem dX12_named_42 : decode cX12_named 42 = .ok (.getfield 13, 3) := by decide +kernel
theorem dX12_named_45 : decode cX12_named 45 = .ok (.iconst 0, 1) := by decide +kernel
theorem dX12_named_46 : decode cX12_named 46 = .ok (.iaload, 1) := by decide +kernel
theorem dX12_named_47 : decode cX12_named 47 = .ok (.iload_n 2, 1) := by decide +kernel
theorem dX12_named_48 : decode cX12_named 48 = .ok (.invokestatic 229, 3) := by decide +kernel
theorem dX12_named_51 : decode cX12_named 51 = .ok (.ireturn, 1) := by decide +kernel
theorem dX12_named_52 : decode cX12_named 52 = .ok (.aload_n 0, 1) := by decide +kernel
theorem dX12_named_53 : decode cX12_named 53 = .ok (.getfield 25, 3) := by decide +kernel
theorem dX12_named_56 : decode cX12_named 56 = .ok (.iconst 0, 1) := by decide +kernel
theorem dX12_named_57 : decode cX12_named 57 = .ok (.aload_n 0, 1) := by decide +kernel
theorem dX12_named_58 : decode cX12_named 58 = .ok (.getfield 13, 3) := by decide +kernel
theorem dX12_named_61 : decode cX12_named 61 = .ok (.iconst 1, 1) := by decide +kernel
theorem dX12_named_62 : decode cX12_named 62 = .ok (.iaload, 1) := by decide +kernel
theorem dX12_named_63 : decode cX12_named 63 = .ok (.iload_n 2, 1) := by decide +kernel
theorem dX12_named_64 : decode cX12_named 64 = .ok (.invokestatic 229, 3) := by decide +kernel
theorem dX12_named_67 : decode cX12_named 67 = .ok (.ireturn, 1) := by decide +kernel
theorem dX12_named_68 : decode cX12_named 68 = .ok (.aload_n 0, 1) := by decide +kernel
theorem dX12_named_69 : decode cX12_named 69 = .ok (.getfield 47, 3) := by decide +kernel
theorem dX12_named_72 : decode cX12_named 72 = .ok (.iconst 0, 1) := by decide +kernel
theorem dX12_named_73 : decode cX12_named 73 = .ok (.aload_n 0, 1) := by decide +kernel
theorem dX12_named_74 : decode cX12_named 74 = .ok (.getfield 13, 3) := by decide +kernel
theorem dX12_named_77 : decode cX12_named 77 = .ok (.iconst 2, 1) := by decide +kernel
theorem dX12_named_78 : decode cX12_named 78 = .ok (.iaload, 1) := by decide +kernel
theorem dX12_named_79 : decode cX12_named 79 = .ok (.iload_n 2, 1) := by decide +kernel
theorem dX12_named_80 : decode cX12_named 80 = .ok (.invokestatic 229, 3) := by decide +kernel
theorem dX12_named_83 : decode cX12_named 83 = .ok (.ireturn, 1) := by decide +kernel
theorem dX12_named_84 : decode cX12_named 84 = .ok (.aload_n 0, 1) := by decide +kernel
theorem dX12_named_85 : decode cX12_named 85 = .ok (.getfield 59, 3) := by decide +kernel
theorem dX12_named_88 : decode cX12_named 88 = .ok (.iconst 0, 1) := by decide +kernel
theorem dX12_named_89 : decode cX12_named 89 = .ok (.aload_n 0, 1) := by decide +kernel
theorem dX12_named_90 : decode cX12_named 90 = .ok (.getfield 13, 3) := by decide +kernel
theorem dX12_named_93 : decode cX12_named 93 = .ok (.iconst 3, 1) := by decide +kernel
theorem dX12_named_94 : decode cX12_named 94 = .ok (.iaload, 1) := by decide +kernel
theorem dX12_named_95 : decode cX12_named 95 = .ok (.iload_n 2, 1) := by decide +kernel
theorem dX12_named_96 : decode cX12_named 96 = .ok (.invokestatic 229, 3) := by decide +kernel
theorem dX12_named_99 : decode cX12_named 99 = .ok (.ireturn, 1) := by decide +kernel
theorem dX12_named_100 : decode cX12_named 100 = .ok (.iconst (-1), 1) := by decide +kernel
theorem dX12_named_101 : decode cX12_named 101 = .ok (.ireturn, 1) := by decide +kernel
theorem dX12_odds_0 : decode cX12_odds 0 = .ok (.aload_n 0, 1) := by decide +kernel
theorem dX12_odds_1 : decode cX12_odds 1 = .ok (.iconst 0, 1) := by decide +kernel
theorem dX12_odds_2 : decode cX12_odds 2 = .ok (.putfield 163, 3) := by decide +kernel
theorem dX12_odds_5 : decode cX12_odds 5 = .ok (.aload_n 0, 1) := by decide +kernel
theorem dX12_odds_6 : decode cX12_odds 6 = .ok (.iload_n 1, 1) := by decide +kernel
theorem dX12_odds_7 : decode cX12_odds 7 = .ok (.invokevirtual 335, 3) := by decide +kernel
theorem dX12_odds_10 : decode cX12_odds 10 = .ok (.ifCond .eq 12, 3) := by decide +kernel
theorem dX12_odds_22 : decode cX12_odds 22 = .ok (.iconst (-1), 1) := by decide +kernel
theorem dX12_odds_23 : decode cX12_odds 23 = .ok (.ireturn, 1) := by decide +kernel
theorem dX12_pay_0 : decode cX12_pay 0 = .ok (.aload_n 0, 1) := by decide +kernel
theorem dX12_pay_1 : decode cX12_pay 1 = .ok (.iconst 0, 1) := by decide +kernel
theorem dX12_pay_2 : decode cX12_pay 2 = .ok (.putfield 163, 3) := by decide +kernel
theorem dX12_pay_5 : decode cX12_pay 5 = .ok (.aload_n 0, 1) := by decide +kernel
theorem dX12_pay_6 : decode cX12_pay 6 = .ok (.iload_n 1, 1) := by decide +kernel
theorem dX12_pay_7 : decode cX12_pay 7 = .ok (.invokevirtual 341, 3) := by decide +kernel
theorem dX12_pay_10 : decode cX12_pay 10 = .ok (.ifCond .ne 5, 3) := by decide +kernel
theorem dX12_pay_13 : decode cX12_pay 13 = .ok (.iconst (-1), 1) := by decide +kernel
theorem dX12_pay_14 : decode cX12_pay 14 = .ok (.ireturn, 1) := by decide +kernel
theorem dX12_pitch_0 : decode cX12_pitch 0 = .ok (.aload_n 0, 1) := by decide +kernel
theorem dX12_pitch_1 : decode cX12_pitch 1 = .ok (.iconst 0, 1) := by decide +kernel
theorem dX12_pitch_2 : decode cX12_pitch 2 = .ok (.putfield 163, 3) := by decide +kernel
theorem dX12_pitch_5 : decode cX12_pitch 5 = .ok (.aload_n 0, 1) := by decide +kernel
theorem dX12_pitch_6 : decode cX12_pitch 6 = .ok (.iload_n 1, 1) := by decide +kernel
theorem dX12_pitch_7 : decode cX12_pitch 7 = .ok (.iload_n 2, 1) := by decide +kernel
theorem dX12_pitch_8 : decode cX12_pitch 8 = .ok (.invokevirtual 344, 3) := by decide +kernel
theorem dX12_pitch_11 : decode cX12_pitch 11 = .ok (.ifCond .eq 39, 3) := by decide +kernel
theorem dX12_pitch_50 : decode cX12_pitch 50 = .ok (.iconst (-1), 1) := by decide +kernel
theorem dX12_pitch_51 : decode cX12_pitch 51 = .ok (.ireturn, 1) := by decide +kernel
theorem dX12_reads_0 : decode cX12_reads 0 = .ok (.aload_n 0, 1) := by decide +kernel
theorem dX12_reads_1 : decode cX12_reads 1 = .ok (.getfield 13, 3) := by decide +kernel
theorem dX12_reads_4 : decode cX12_reads 4 = .ok (.bipush 7, 2) := by decide +kernel
theorem dX12_reads_6 : decode cX12_reads 6 = .ok (.iload_n 1, 1) := by decide +kernel
theorem dX12_reads_7 : decode cX12_reads 7 = .ok (.iadd, 1) := by decide +kernel
theorem dX12_reads_8 : decode cX12_reads 8 = .ok (.iload_n 2, 1) := by decide +kernel
theorem dX12_reads_9 : decode cX12_reads 9 = .ok (.iastore, 1) := by decide +kernel
theorem dX12_reads_10 : decode cX12_reads 10 = .ok (.return_, 1) := by decide +kernel
theorem dX12_redeem_0 : decode cX12_redeem 0 = .ok (.aload_n 0, 1) := by decide +kernel
theorem dX12_redeem_1 : decode cX12_redeem 1 = .ok (.iconst 0, 1) := by decide +kernel
theorem dX12_redeem_2 : decode cX12_redeem 2 = .ok (.putfield 163, 3) := by decide +kernel
theorem dX12_redeem_5 : decode cX12_redeem 5 = .ok (.aload_n 0, 1) := by decide +kernel
theorem dX12_redeem_6 : decode cX12_redeem 6 = .ok (.iload_n 1, 1) := by decide +kernel
theorem dX12_redeem_7 : decode cX12_redeem 7 = .ok (.iload_n 2, 1) := by decide +kernel
theorem dX12_redeem_8 : decode cX12_redeem 8 = .ok (.invokevirtual 344, 3) := by decide +kernel
theorem dX12_redeem_11 : decode cX12_redeem 11 = .ok (.ifCond .eq 42, 3) := by decide +kernel
theorem dX12_redeem_53 : decode cX12_redeem 53 = .ok (.iconst (-1), 1) := by decide +kernel
theorem dX12_redeem_54 : decode cX12_redeem 54 = .ok (.ireturn, 1) := by decide +kernel
theorem dX12_round_0 : decode cX12_round 0 = .ok (.aload_n 0, 1) := by decide +kernel
theorem dX12_round_1 : decode cX12_round 1 = .ok (.iconst 0, 1) := by decide +kernel
theorem dX12_round_2 : decode cX12_round 2 = .ok (.putfield 163, 3) := by decide +kernel
theorem dX12_round_5 : decode cX12_round 5 = .ok (.aload_n 0, 1) := by decide +kernel
theorem dX12_round_6 : decode cX12_round 6 = .ok (.iload_n 1, 1) := by decide +kernel
theorem dX12_round_7 : decode cX12_round 7 = .ok (.iload_n 2, 1) := by decide +kernel
theorem dX12_round_8 : decode cX12_round 8 = .ok (.invokevirtual 344, 3) := by decide +kernel
theorem dX12_round_11 : decode cX12_round 11 = .ok (.ifCond .eq 12, 3) := by decide +kernel
theorem dX12_round_23 : decode cX12_round 23 = .ok (.iconst (-1), 1) := by decide +kernel
theorem dX12_round_24 : decode cX12_round 24 = .ok (.ireturn, 1) := by decide +kernel
theorem dX12_run_0 : decode cX12_run 0 = .ok (.aload_n 0, 1) := by decide +kernel
theorem dX12_run_1 : decode cX12_run 1 = .ok (.iconst 0, 1) := by decide +kernel
theorem dX12_run_2 : decode cX12_run 2 = .ok (.putfield 163, 3) := by decide +kernel
theorem dX12_run_5 : decode cX12_run 5 = .ok (.aload_n 0, 1) := by decide +kernel
theorem dX12_run_6 : decode cX12_run 6 = .ok (.iload_n 1, 1) := by decide +kernel
theorem dX12_run_7 : decode cX12_run 7 = .ok (.invokevirtual 341, 3) := by decide +kernel
theorem dX12_run_10 : decode cX12_run 10 = .ok (.ifCond .eq 26, 3) := by decide +kernel
theorem dX12_run_36 : decode cX12_run 36 = .ok (.iconst (-1), 1) := by decide +kernel
theorem dX12_run_37 : decode cX12_run 37 = .ok (.ireturn, 1) := by decide +kernel
theorem dX12_sells_0 : decode cX12_sells 0 = .ok (.iconst 0, 1) := by decide +kernel
theorem dX12_sells_1 : decode cX12_sells 1 = .ok (.istore_n 3, 1) := by decide +kernel
theorem dX12_sells_2 : decode cX12_sells 2 = .ok (.iconst 0, 1) := by decide +kernel
theorem dX12_sells_3 : decode cX12_sells 3 = .ok (.istore 4, 2) := by decide +kernel
theorem dX12_sells_5 : decode cX12_sells 5 = .ok (.iload 4, 2) := by decide +kernel
theorem dX12_sells_7 : decode cX12_sells 7 = .ok (.aload_n 0, 1) := by decide +kernel
theorem dX12_sells_8 : decode cX12_sells 8 = .ok (.getfield 13, 3) := by decide +kernel
theorem dX12_sells_11 : decode cX12_sells 11 = .ok (.iconst 3, 1) := by decide +kernel
theorem dX12_sells_12 : decode cX12_sells 12 = .ok (.iaload, 1) := by decide +kernel
theorem dX12_sells_13 : decode cX12_sells 13 = .ok (.if_icmp .ge 23, 3) := by decide +kernel
theorem dX12_sells_36 : decode cX12_sells 36 = .ok (.iconst 0, 1) := by decide +kernel
theorem dX12_sells_37 : decode cX12_sells 37 = .ok (.istore 4, 2) := by decide +kernel
theorem dX12_sells_39 : decode cX12_sells 39 = .ok (.iload 4, 2) := by decide +kernel
theorem dX12_sells_41 : decode cX12_sells 41 = .ok (.iload_n 2, 1) := by decide +kernel
theorem dX12_sells_42 : decode cX12_sells 42 = .ok (.if_icmp .gt 146, 3) := by decide +kernel
theorem dX12_sells_188 : decode cX12_sells 188 = .ok (.iload_n 3, 1) := by decide +kernel
theorem dX12_sells_189 : decode cX12_sells 189 = .ok (.ireturn, 1) := by decide +kernel
theorem dX12_sings_0 : decode cX12_sings 0 = .ok (.aload_n 0, 1) := by decide +kernel
theorem dX12_sings_1 : decode cX12_sings 1 = .ok (.iconst 0, 1) := by decide +kernel
theorem dX12_sings_2 : decode cX12_sings 2 = .ok (.putfield 163, 3) := by decide +kernel
theorem dX12_sings_5 : decode cX12_sings 5 = .ok (.aload_n 0, 1) := by decide +kernel
theorem dX12_sings_6 : decode cX12_sings 6 = .ok (.iload_n 1, 1) := by decide +kernel
theorem dX12_sings_7 : decode cX12_sings 7 = .ok (.iload_n 2, 1) := by decide +kernel
theorem dX12_sings_8 : decode cX12_sings 8 = .ok (.invokevirtual 344, 3) := by decide +kernel
theorem dX12_sings_11 : decode cX12_sings 11 = .ok (.ifCond .ne 5, 3) := by decide +kernel
theorem dX12_sings_14 : decode cX12_sings 14 = .ok (.iconst (-1), 1) := by decide +kernel
theorem dX12_sings_15 : decode cX12_sings 15 = .ok (.ireturn, 1) := by decide +kernel
theorem dX12_sold_0 : decode cX12_sold 0 = .ok (.aload_n 0, 1) := by decide +kernel
theorem dX12_sold_1 : decode cX12_sold 1 = .ok (.iconst 0, 1) := by decide +kernel
theorem dX12_sold_2 : decode cX12_sold 2 = .ok (.putfield 163, 3) := by decide +kernel
theorem dX12_sold_5 : decode cX12_sold 5 = .ok (.aload_n 0, 1) := by decide +kernel
theorem dX12_sold_6 : decode cX12_sold 6 = .ok (.iload_n 1, 1) := by decide +kernel
theorem dX12_sold_7 : decode cX12_sold 7 = .ok (.invokevirtual 461, 3) := by decide +kernel
theorem dX12_sold_10 : decode cX12_sold 10 = .ok (.ifCond .eq 28, 3) := by decide +kernel
theorem dX12_sold_13 : decode cX12_sold 13 = .ok (.aload_n 0, 1) := by decide +kernel
theorem dX12_sold_14 : decode cX12_sold 14 = .ok (.iload_n 2, 1) := by decide +kernel
theorem dX12_sold_15 : decode cX12_sold 15 = .ok (.invokevirtual 332, 3) := by decide +kernel
theorem dX12_sold_18 : decode cX12_sold 18 = .ok (.ifCond .eq 20, 3) := by decide +kernel
theorem dX12_sold_38 : decode cX12_sold 38 = .ok (.iconst (-1), 1) := by decide +kernel
theorem dX12_sold_39 : decode cX12_sold 39 = .ok (.ireturn, 1) := by decide +kernel
theorem dX12_sounds_0 : decode cX12_sounds 0 = .ok (.aload_n 0, 1) := by decide +kernel
theorem dX12_sounds_1 : decode cX12_sounds 1 = .ok (.iconst 0, 1) := by decide +kernel
theorem dX12_sounds_2 : decode cX12_sounds 2 = .ok (.putfield 163, 3) := by decide +kernel
theorem dX12_sounds_5 : decode cX12_sounds 5 = .ok (.aload_n 0, 1) := by decide +kernel
theorem dX12_sounds_6 : decode cX12_sounds 6 = .ok (.iload_n 1, 1) := by decide +kernel
theorem dX12_sounds_7 : decode cX12_sounds 7 = .ok (.iload_n 2, 1) := by decide +kernel
theorem dX12_sounds_8 : decode cX12_sounds 8 = .ok (.invokevirtual 344, 3) := by decide +kernel
theorem dX12_sounds_11 : decode cX12_sounds 11 = .ok (.ifCond .eq 24, 3) := by decide +kernel
theorem dX12_sounds_35 : decode cX12_sounds 35 = .ok (.iconst (-1), 1) := by decide +kernel
theorem dX12_sounds_36 : decode cX12_sounds 36 = .ok (.ireturn, 1) := by decide +kernel
theorem dX12_strike_0 : decode cX12_strike 0 = .ok (.aload_n 0, 1) := by decide +kernel
theorem dX12_strike_1 : decode cX12_strike 1 = .ok (.iconst 0, 1) := by decide +kernel
theorem dX12_strike_2 : decode cX12_strike 2 = .ok (.putfield 163, 3) := by decide +kernel
theorem dX12_strike_5 : decode cX12_strike 5 = .ok (.iload_n 1, 1) := by decide +kernel
theorem dX12_strike_6 : decode cX12_strike 6 = .ok (.ifCond .lt 20, 3) := by decide +kernel
theorem dX12_strike_9 : decode cX12_strike 9 = .ok (.iload_n 1, 1) := by decide +kernel
theorem dX12_strike_10 : decode cX12_strike 10 = .ok (.aload_n 0, 1) := by decide +kernel
theorem dX12_strike_11 : decode cX12_strike 11 = .ok (.getfield 325, 3) := by decide +kernel
theorem dX12_strike_14 : decode cX12_strike 14 = .ok (.if_icmp .ge 12, 3) := by decide +kernel
theorem dX12_strike_26 : decode cX12_strike 26 = .ok (.iconst (-1), 1) := by decide +kernel
theorem dX12_strike_27 : decode cX12_strike 27 = .ok (.ireturn, 1) := by decide +kernel
theorem dX12_strikes_0 : decode cX12_strikes 0 = .ok (.iconst 0, 1) := by decide +kernel
theorem dX12_strikes_1 : decode cX12_strikes 1 = .ok (.istore_n 1, 1) := by decide +kernel
theorem dX12_strikes_2 : decode cX12_strikes 2 = .ok (.iload_n 1, 1) := by decide +kernel
theorem dX12_strikes_3 : decode cX12_strikes 3 = .ok (.aload_n 0, 1) := by decide +kernel
theorem dX12_strikes_4 : decode cX12_strikes 4 = .ok (.invokevirtual 467, 3) := by decide +kernel
theorem dX12_strikes_7 : decode cX12_strikes 7 = .ok (.if_icmp .ge 16, 3) := by decide +kernel
theorem dX12_strikes_23 : decode cX12_strikes 23 = .ok (.aload_n 0, 1) := by decide +kernel
theorem dX12_strikes_24 : decode cX12_strikes 24 = .ok (.invokevirtual 467, 3) := by decide +kernel
theorem dX12_strikes_27 : decode cX12_strikes 27 = .ok (.iconst 1, 1) := by decide +kernel
theorem dX12_strikes_28 : decode cX12_strikes 28 = .ok (.isub, 1) := by decide +kernel
theorem dX12_strikes_29 : decode cX12_strikes 29 = .ok (.istore_n 1, 1) := by decide +kernel
theorem dX12_strikes_30 : decode cX12_strikes 30 = .ok (.iload_n 1, 1) := by decide +kernel
theorem dX12_strikes_31 : decode cX12_strikes 31 = .ok (.ifCond .lt 40, 3) := by decide +kernel
theorem dX12_strikes_71 : decode cX12_strikes 71 = .ok (.return_, 1) := by decide +kernel
theorem dX12_sunday_0 : decode cX12_sunday 0 = .ok (.aload_n 0, 1) := by decide +kernel
theorem dX12_sunday_1 : decode cX12_sunday 1 = .ok (.iconst 0, 1) := by decide +kernel
theorem dX12_sunday_2 : decode cX12_sunday 2 = .ok (.putfield 163, 3) := by decide +kernel
theorem dX12_sunday_5 : decode cX12_sunday 5 = .ok (.iconst 0, 1) := by decide +kernel
theorem dX12_sunday_6 : decode cX12_sunday 6 = .ok (.istore_n 1, 1) := by decide +kernel
theorem dX12_sunday_7 : decode cX12_sunday 7 = .ok (.iconst 0, 1) := by decide +kernel
theorem dX12_sunday_8 : decode cX12_sunday 8 = .ok (.istore_n 2, 1) := by decide +kernel
theorem dX12_sunday_9 : decode cX12_sunday 9 = .ok (.iload_n 2, 1) := by decide +kernel
theorem dX12_sunday_10 : decode cX12_sunday 10 = .ok (.bipush 12, 2) := by decide +kernel
theorem dX12_sunday_12 : decode cX12_sunday 12 = .ok (.if_icmp .ge 64, 3) := by decide +kernel
theorem dX12_sunday_15 : decode cX12_sunday 15 = .ok (.aload_n 0, 1) := by decide +kernel
theorem dX12_sunday_16 : decode cX12_sunday 16 = .ok (.getfield 105, 3) := by decide +kernel
theorem dX12_sunday_19 : decode cX12_sunday 19 = .ok (.iload_n 2, 1) := by decide +kernel
theorem dX12_sunday_20 : decode cX12_sunday 20 = .ok (.iaload, 1) := by decide +kernel
theorem dX12_sunday_21 : decode cX12_sunday 21 = .ok (.istore_n 3, 1) := by decide +kernel
theorem dX12_sunday_22 : decode cX12_sunday 22 = .ok (.aload_n 0, 1) := by decide +kernel
theorem dX12_sunday_23 : decode cX12_sunday 23 = .ok (.getfield 105, 3) := by decide +kernel
theorem dX12_sunday_26 : decode cX12_sunday 26 = .ok (.iload_n 2, 1) := by decide +kernel
theorem dX12_sunday_27 : decode cX12_sunday 27 = .ok (.iconst (-1), 1) := by decide +kernel
theorem dX12_sunday_28 : decode cX12_sunday 28 = .ok (.iastore, 1) := by decide +kernel
theorem dX12_sunday_29 : decode cX12_sunday 29 = .ok (.iload_n 3, 1) := by decide +kernel
theorem dX12_sunday_30 : decode cX12_sunday 30 = .ok (.iconst (-1), 1) := by decide +kernel
theorem dX12_sunday_31 : decode cX12_sunday 31 = .ok (.if_icmp .ne 6, 3) := by decide +kernel
theorem dX12_sunday_34 : decode cX12_sunday 34 = .ok (.goto 36, 3) := by decide +kernel
theorem dX12_sunday_70 : decode cX12_sunday 70 = .ok (.iinc 2 1, 3) := by decide +kernel
theorem dX12_sunday_73 : decode cX12_sunday 73 = .ok (.goto (-64), 3) := by decide +kernel
theorem dX12_sunday_76 : decode cX12_sunday 76 = .ok (.aload_n 0, 1) := by decide +kernel
theorem dX12_sunday_77 : decode cX12_sunday 77 = .ok (.getfield 108, 3) := by decide +kernel
theorem dX12_sunday_80 : decode cX12_sunday 80 = .ok (.iconst 0, 1) := by decide +kernel
theorem dX12_sunday_81 : decode cX12_sunday 81 = .ok (.iconst 0, 1) := by decide +kernel
theorem dX12_sunday_82 : decode cX12_sunday 82 = .ok (.iastore, 1) := by decide +kernel
theorem dX12_sunday_83 : decode cX12_sunday 83 = .ok (.aload_n 0, 1) := by decide +kernel
theorem dX12_sunday_84 : decode cX12_sunday 84 = .ok (.getfield 93, 3) := by decide +kernel
theorem dX12_sunday_87 : decode cX12_sunday 87 = .ok (.iconst 0, 1) := by decide +kernel
theorem dX12_sunday_88 : decode cX12_sunday 88 = .ok (.iaload, 1) := by decide +kernel
theorem dX12_sunday_89 : decode cX12_sunday 89 = .ok (.istore_n 2, 1) := by decide +kernel
theorem dX12_sunday_90 : decode cX12_sunday 90 = .ok (.iconst 0, 1) := by decide +kernel
theorem dX12_sunday_91 : decode cX12_sunday 91 = .ok (.istore_n 3, 1) := by decide +kernel
theorem dX12_sunday_92 : decode cX12_sunday 92 = .ok (.iload_n 3, 1) := by decide +kernel
theorem dX12_sunday_93 : decode cX12_sunday 93 = .ok (.aload_n 0, 1) := by decide +kernel
theorem dX12_sunday_94 : decode cX12_sunday 94 = .ok (.getfield 13, 3) := by decide +kernel
theorem dX12_sunday_97 : decode cX12_sunday 97 = .ok (.iconst 1, 1) := by decide +kernel
theorem dX12_sunday_98 : decode cX12_sunday 98 = .ok (.iaload, 1) := by decide +kernel
theorem dX12_sunday_99 : decode cX12_sunday 99 = .ok (.if_icmp .ge 45, 3) := by decide +kernel
theorem dX12_sunday_144 : decode cX12_sunday 144 = .ok (.aload_n 0, 1) := by decide +kernel
theorem dX12_sunday_145 : decode cX12_sunday 145 = .ok (.getfield 93, 3) := by decide +kernel
theorem dX12_sunday_148 : decode cX12_sunday 148 = .ok (.iconst 0, 1) := by decide +kernel
theorem dX12_sunday_149 : decode cX12_sunday 149 = .ok (.iload_n 2, 1) := by decide +kernel
theorem dX12_sunday_150 : decode cX12_sunday 150 = .ok (.iastore, 1) := by decide +kernel
theorem dX12_sunday_151 : decode cX12_sunday 151 = .ok (.aload_n 0, 1) := by decide +kernel
theorem dX12_sunday_152 : decode cX12_sunday 152 = .ok (.getfield 81, 3) := by decide +kernel
theorem dX12_sunday_155 : decode cX12_sunday 155 = .ok (.iconst 0, 1) := by decide +kernel
theorem dX12_sunday_156 : decode cX12_sunday 156 = .ok (.dup2, 1) := by decide +kernel
theorem dX12_sunday_157 : decode cX12_sunday 157 = .ok (.iaload, 1) := by decide +kernel
theorem dX12_sunday_158 : decode cX12_sunday 158 = .ok (.iconst 1, 1) := by decide +kernel
theorem dX12_sunday_159 : decode cX12_sunday 159 = .ok (.iadd, 1) := by decide +kernel
theorem dX12_sunday_160 : decode cX12_sunday 160 = .ok (.iastore, 1) := by decide +kernel
theorem dX12_sunday_161 : decode cX12_sunday 161 = .ok (.iload_n 1, 1) := by decide +kernel
theorem dX12_sunday_162 : decode cX12_sunday 162 = .ok (.ireturn, 1) := by decide +kernel
theorem dX12_tavern_0 : decode cX12_tavern 0 = .ok (.aload_n 0, 1) := by decide +kernel
theorem dX12_tavern_1 : decode cX12_tavern 1 = .ok (.iconst 0, 1) := by decide +kernel
theorem dX12_tavern_2 : decode cX12_tavern 2 = .ok (.putfield 163, 3) := by decide +kernel
theorem dX12_tavern_5 : decode cX12_tavern 5 = .ok (.aload_n 0, 1) := by decide +kernel
theorem dX12_tavern_6 : decode cX12_tavern 6 = .ok (.iload_n 1, 1) := by decide +kernel
theorem dX12_tavern_7 : decode cX12_tavern 7 = .ok (.invokevirtual 341, 3) := by decide +kernel
theorem dX12_tavern_10 : decode cX12_tavern 10 = .ok (.ifCond .ne 5, 3) := by decide +kernel
theorem dX12_tavern_13 : decode cX12_tavern 13 = .ok (.iconst (-1), 1) := by decide +kernel
theorem dX12_tavern_14 : decode cX12_tavern 14 = .ok (.ireturn, 1) := by decide +kernel
theorem dX12_text_0 : decode cX12_text 0 = .ok (.aload_n 0, 1) := by decide +kernel
theorem dX12_text_1 : decode cX12_text 1 = .ok (.iconst 0, 1) := by decide +kernel
theorem dX12_text_2 : decode cX12_text 2 = .ok (.putfield 163, 3) := by decide +kernel
theorem dX12_text_5 : decode cX12_text 5 = .ok (.iload_n 1, 1) := by decide +kernel
theorem dX12_text_6 : decode cX12_text 6 = .ok (.ifCond .lt 11, 3) := by decide +kernel
theorem dX12_text_9 : decode cX12_text 9 = .ok (.iload_n 1, 1) := by decide +kernel
theorem dX12_text_10 : decode cX12_text 10 = .ok (.aload_n 0, 1) := by decide +kernel
theorem dX12_text_11 : decode cX12_text 11 = .ok (.getfield 166, 3) := by decide +kernel
theorem dX12_text_14 : decode cX12_text 14 = .ok (.if_icmp .le 6, 3) := by decide +kernel
theorem dX12_text_17 : decode cX12_text 17 = .ok (.bipush (-2), 2) := by decide +kernel
theorem dX12_text_19 : decode cX12_text 19 = .ok (.ireturn, 1) := by decide +kernel
theorem dX12_text_20 : decode cX12_text 20 = .ok (.aload_n 0, 1) := by decide +kernel
theorem dX12_text_21 : decode cX12_text 21 = .ok (.iload_n 1, 1) := by decide +kernel
theorem dX12_text_22 : decode cX12_text 22 = .ok (.putfield 172, 3) := by decide +kernel
theorem dX12_text_25 : decode cX12_text 25 = .ok (.aload_n 0, 1) := by decide +kernel
theorem dX12_text_26 : decode cX12_text 26 = .ok (.iconst 0, 1) := by decide +kernel
theorem dX12_text_27 : decode cX12_text 27 = .ok (.putfield 166, 3) := by decide +kernel
theorem dX12_text_30 : decode cX12_text 30 = .ok (.aload_n 0, 1) := by decide +kernel
theorem dX12_text_31 : decode cX12_text 31 = .ok (.iconst 0, 1) := by decide +kernel
theorem dX12_text_32 : decode cX12_text 32 = .ok (.putfield 169, 3) := by decide +kernel
theorem dX12_text_35 : decode cX12_text 35 = .ok (.aload_n 0, 1) := by decide +kernel
theorem dX12_text_36 : decode cX12_text 36 = .ok (.iconst 0, 1) := by decide +kernel
theorem dX12_text_37 : decode cX12_text 37 = .ok (.putfield 217, 3) := by decide +kernel
theorem dX12_text_40 : decode cX12_text 40 = .ok (.aload_n 0, 1) := by decide +kernel
theorem dX12_text_41 : decode cX12_text 41 = .ok (.iconst (-1), 1) := by decide +kernel
theorem dX12_text_42 : decode cX12_text 42 = .ok (.putfield 220, 3) := by decide +kernel
theorem dX12_text_45 : decode cX12_text 45 = .ok (.iconst 0, 1) := by decide +kernel
theorem dX12_text_46 : decode cX12_text 46 = .ok (.istore_n 2, 1) := by decide +kernel
theorem dX12_text_47 : decode cX12_text 47 = .ok (.iload_n 2, 1) := by decide +kernel
theorem dX12_text_48 : decode cX12_text 48 = .ok (.bipush 7, 2) := by decide +kernel
theorem dX12_text_50 : decode cX12_text 50 = .ok (.if_icmp .ge 15, 3) := by decide +kernel
theorem dX12_text_53 : decode cX12_text 53 = .ok (.aload_n 0, 1) := by decide +kernel
theorem dX12_text_54 : decode cX12_text 54 = .ok (.iload_n 2, 1) := by decide +kernel
theorem dX12_text_55 : decode cX12_text 55 = .ok (.iconst 0, 1) := by decide +kernel
theorem dX12_text_56 : decode cX12_text 56 = .ok (.invokevirtual 254, 3) := by decide +kernel
theorem dX12_text_59 : decode cX12_text 59 = .ok (.iinc 2 1, 3) := by decide +kernel
theorem dX12_text_62 : decode cX12_text 62 = .ok (.goto (-15), 3) := by decide +kernel
theorem dX12_text_65 : decode cX12_text 65 = .ok (.iconst 5, 1) := by decide +kernel
theorem dX12_text_66 : decode cX12_text 66 = .ok (.istore_n 2, 1) := by decide +kernel
theorem dX12_text_67 : decode cX12_text 67 = .ok (.iload_n 2, 1) := by decide +kernel
theorem dX12_text_68 : decode cX12_text 68 = .ok (.bipush 10, 2) := by decide +kernel
theorem dX12_text_70 : decode cX12_text 70 = .ok (.if_icmp .ge 23, 3) := by decide +kernel
theorem dX12_text_73 : decode cX12_text 73 = .ok (.aload_n 0, 1) := by decide +kernel
theorem dX12_text_74 : decode cX12_text 74 = .ok (.getfield 65, 3) := by decide +kernel
theorem dX12_text_77 : decode cX12_text 77 = .ok (.iload_n 2, 1) := by decide +kernel
theorem dX12_text_78 : decode cX12_text 78 = .ok (.iconst 0, 1) := by decide +kernel
theorem dX12_text_79 : decode cX12_text 79 = .ok (.iastore, 1) := by decide +kernel
theorem dX12_text_80 : decode cX12_text 80 = .ok (.aload_n 0, 1) := by decide +kernel
theorem dX12_text_81 : decode cX12_text 81 = .ok (.getfield 68, 3) := by decide +kernel
theorem dX12_text_84 : decode cX12_text 84 = .ok (.iload_n 2, 1) := by decide +kernel
theorem dX12_text_85 : decode cX12_text 85 = .ok (.iconst 0, 1) := by decide +kernel
theorem dX12_text_86 : decode cX12_text 86 = .ok (.iastore, 1) := by decide +kernel
theorem dX12_text_87 : decode cX12_text 87 = .ok (.iinc 2 1, 3) := by decide +kernel
theorem dX12_text_90 : decode cX12_text 90 = .ok (.goto (-23), 3) := by decide +kernel
theorem dX12_text_93 : decode cX12_text 93 = .ok (.aload_n 0, 1) := by decide +kernel
theorem dX12_text_94 : decode cX12_text 94 = .ok (.iconst 0, 1) := by decide +kernel
theorem dX12_text_95 : decode cX12_text 95 = .ok (.putfield 243, 3) := by decide +kernel
theorem dX12_text_98 : decode cX12_text 98 = .ok (.aload_n 0, 1) := by decide +kernel
theorem dX12_text_99 : decode cX12_text 99 = .ok (.iconst 0, 1) := by decide +kernel
theorem dX12_text_100 : decode cX12_text 100 = .ok (.putfield 273, 3) := by decide +kernel
theorem dX12_text_103 : decode cX12_text 103 = .ok (.aload_n 0, 1) := by decide +kernel
theorem dX12_text_104 : decode cX12_text 104 = .ok (.iconst 0, 1) := by decide +kernel
theorem dX12_text_105 : decode cX12_text 105 = .ok (.putfield 312, 3) := by decide +kernel
theorem dX12_text_108 : decode cX12_text 108 = .ok (.aload_n 0, 1) := by decide +kernel
theorem dX12_text_109 : decode cX12_text 109 = .ok (.iconst 0, 1) := by decide +kernel
theorem dX12_text_110 : decode cX12_text 110 = .ok (.putfield 288, 3) := by decide +kernel
theorem dX12_text_113 : decode cX12_text 113 = .ok (.aload_n 0, 1) := by decide +kernel
theorem dX12_text_114 : decode cX12_text 114 = .ok (.invokevirtual 223, 3) := by decide +kernel
theorem dX12_text_117 : decode cX12_text 117 = .ok (.aload_n 0, 1) := by decide +kernel
theorem dX12_text_118 : decode cX12_text 118 = .ok (.getfield 217, 3) := by decide +kernel
theorem dX12_text_121 : decode cX12_text 121 = .ok (.ifCond .ne 18, 3) := by decide +kernel
theorem dX12_text_124 : decode cX12_text 124 = .ok (.aload_n 0, 1) := by decide +kernel
theorem dX12_text_125 : decode cX12_text 125 = .ok (.getfield 182, 3) := by decide +kernel
theorem dX12_text_128 : decode cX12_text 128 = .ok (.iconst 4, 1) := by decide +kernel
theorem dX12_text_129 : decode cX12_text 129 = .ok (.if_icmp .eq 10, 3) := by decide +kernel
theorem dX12_text_139 : decode cX12_text 139 = .ok (.aload_n 0, 1) := by decide +kernel
theorem dX12_text_140 : decode cX12_text 140 = .ok (.aload_n 0, 1) := by decide +kernel
theorem dX12_text_141 : decode cX12_text 141 = .ok (.getfield 217, 3) := by decide +kernel
theorem dX12_text_144 : decode cX12_text 144 = .ok (.putfield 318, 3) := by decide +kernel
theorem dX12_text_147 : decode cX12_text 147 = .ok (.aload_n 0, 1) := by decide +kernel
theorem dX12_text_148 : decode cX12_text 148 = .ok (.aload_n 0, 1) := by decide +kernel
theorem dX12_text_149 : decode cX12_text 149 = .ok (.getfield 220, 3) := by decide +kernel
theorem dX12_text_152 : decode cX12_text 152 = .ok (.putfield 77, 3) := by decide +kernel
theorem dX12_text_155 : decode cX12_text 155 = .ok (.aload_n 0, 1) := by decide +kernel
theorem dX12_text_156 : decode cX12_text 156 = .ok (.getfield 217, 3) := by decide +kernel
theorem dX12_text_159 : decode cX12_text 159 = .ok (.ifCond .eq 5, 3) := by decide +kernel
theorem dX12_text_164 : decode cX12_text 164 = .ok (.aload_n 0, 1) := by decide +kernel
theorem dX12_text_165 : decode cX12_text 165 = .ok (.getfield 13, 3) := by decide +kernel
theorem dX12_text_168 : decode cX12_text 168 = .ok (.invokestatic 321, 3) := by decide +kernel
theorem dX12_text_171 : decode cX12_text 171 = .ok (.aload_n 0, 1) := by decide +kernel
theorem dX12_text_172 : decode cX12_text 172 = .ok (.getfield 16, 3) := by decide +kernel
theorem dX12_text_175 : decode cX12_text 175 = .ok (.invokestatic 321, 3) := by decide +kernel
theorem dX12_text_178 : decode cX12_text 178 = .ok (.aload_n 0, 1) := by decide +kernel
theorem dX12_text_179 : decode cX12_text 179 = .ok (.getfield 19, 3) := by decide +kernel
theorem dX12_text_182 : decode cX12_text 182 = .ok (.invokestatic 321, 3) := by decide +kernel
theorem dX12_text_185 : decode cX12_text 185 = .ok (.aload_n 0, 1) := by decide +kernel
theorem dX12_text_186 : decode cX12_text 186 = .ok (.getfield 22, 3) := by decide +kernel
theorem dX12_text_189 : decode cX12_text 189 = .ok (.invokestatic 321, 3) := by decide +kernel
theorem dX12_text_192 : decode cX12_text 192 = .ok (.aload_n 0, 1) := by decide +kernel
theorem dX12_text_193 : decode cX12_text 193 = .ok (.getfield 25, 3) := by decide +kernel
theorem dX12_text_196 : decode cX12_text 196 = .ok (.invokestatic 321, 3) := by decide +kernel
theorem dX12_text_199 : decode cX12_text 199 = .ok (.aload_n 0, 1) := by decide +kernel
theorem dX12_text_200 : decode cX12_text 200 = .ok (.getfield 28, 3) := by decide +kernel
theorem dX12_text_203 : decode cX12_text 203 = .ok (.invokestatic 321, 3) := by decide +kernel
theorem dX12_text_206 : decode cX12_text 206 = .ok (.aload_n 0, 1) := by decide +kernel
theorem dX12_text_207 : decode cX12_text 207 = .ok (.getfield 31, 3) := by decide +kernel
theorem dX12_text_210 : decode cX12_text 210 = .ok (.invokestatic 321, 3) := by decide +kernel
theorem dX12_text_213 : decode cX12_text 213 = .ok (.iconst 0, 1) := by decide +kernel
theorem dX12_text_214 : decode cX12_text 214 = .ok (.istore_n 2, 1) := by decide +kernel
theorem dX12_text_215 : decode cX12_text 215 = .ok (.iload_n 2, 1) := by decide +kernel
theorem dX12_text_216 : decode cX12_text 216 = .ok (.bipush 6, 2) := by decide +kernel
theorem dX12_text_218 : decode cX12_text 218 = .ok (.if_icmp .ge 24, 3) := by decide +kernel
theorem dX12_text_221 : decode cX12_text 221 = .ok (.aload_n 0, 1) := by decide +kernel
theorem dX12_text_222 : decode cX12_text 222 = .ok (.getfield 34, 3) := by decide +kernel
theorem dX12_text_225 : decode cX12_text 225 = .ok (.iload_n 2, 1) := by decide +kernel
theorem dX12_text_226 : decode cX12_text 226 = .ok (.aload_n 0, 1) := by decide +kernel
theorem dX12_text_227 : decode cX12_text 227 = .ok (.getfield 34, 3) := by decide +kernel
theorem dX12_text_230 : decode cX12_text 230 = .ok (.bipush 6, 2) := by decide +kernel
theorem dX12_text_232 : decode cX12_text 232 = .ok (.iload_n 2, 1) := by decide +kernel
theorem dX12_text_233 : decode cX12_text 233 = .ok (.iadd, 1) := by decide +kernel
theorem dX12_text_234 : decode cX12_text 234 = .ok (.baload, 1) := by decide +kernel
theorem dX12_text_235 : decode cX12_text 235 = .ok (.bastore, 1) := by decide +kernel
theorem dX12_text_236 : decode cX12_text 236 = .ok (.iinc 2 1, 3) := by decide +kernel
theorem dX12_text_239 : decode cX12_text 239 = .ok (.goto (-24), 3) := by decide +kernel
theorem dX12_text_242 : decode cX12_text 242 = .ok (.aload_n 0, 1) := by decide +kernel
theorem dX12_text_243 : decode cX12_text 243 = .ok (.getfield 38, 3) := by decide +kernel
theorem dX12_text_246 : decode cX12_text 246 = .ok (.invokestatic 321, 3) := by decide +kernel
theorem dX12_text_249 : decode cX12_text 249 = .ok (.aload_n 0, 1) := by decide +kernel
theorem dX12_text_250 : decode cX12_text 250 = .ok (.getfield 41, 3) := by decide +kernel
theorem dX12_text_253 : decode cX12_text 253 = .ok (.invokestatic 321, 3) := by decide +kernel
theorem dX12_text_256 : decode cX12_text 256 = .ok (.aload_n 0, 1) := by decide +kernel
theorem dX12_text_257 : decode cX12_text 257 = .ok (.getfield 44, 3) := by decide +kernel
theorem dX12_text_260 : decode cX12_text 260 = .ok (.invokestatic 321, 3) := by decide +kernel
theorem dX12_text_263 : decode cX12_text 263 = .ok (.aload_n 0, 1) := by decide +kernel
theorem dX12_text_264 : decode cX12_text 264 = .ok (.getfield 47, 3) := by decide +kernel
theorem dX12_text_267 : decode cX12_text 267 = .ok (.invokestatic 321, 3) := by decide +kernel
theorem dX12_text_270 : decode cX12_text 270 = .ok (.aload_n 0, 1) := by decide +kernel
theorem dX12_text_271 : decode cX12_text 271 = .ok (.getfield 50, 3) := by decide +kernel
theorem dX12_text_274 : decode cX12_text 274 = .ok (.invokestatic 321, 3) := by decide +kernel
theorem dX12_text_277 : decode cX12_text 277 = .ok (.aload_n 0, 1) := by decide +kernel
theorem dX12_text_278 : decode cX12_text 278 = .ok (.getfield 53, 3) := by decide +kernel
theorem dX12_text_281 : decode cX12_text 281 = .ok (.invokestatic 321, 3) := by decide +kernel
theorem dX12_text_284 : decode cX12_text 284 = .ok (.aload_n 0, 1) := by decide +kernel
theorem dX12_text_285 : decode cX12_text 285 = .ok (.getfield 56, 3) := by decide +kernel
theorem dX12_text_288 : decode cX12_text 288 = .ok (.invokestatic 321, 3) := by decide +kernel
theorem dX12_text_291 : decode cX12_text 291 = .ok (.aload_n 0, 1) := by decide +kernel
theorem dX12_text_292 : decode cX12_text 292 = .ok (.getfield 59, 3) := by decide +kernel
theorem dX12_text_295 : decode cX12_text 295 = .ok (.invokestatic 321, 3) := by decide +kernel
theorem dX12_text_298 : decode cX12_text 298 = .ok (.aload_n 0, 1) := by decide +kernel
theorem dX12_text_299 : decode cX12_text 299 = .ok (.getfield 62, 3) := by decide +kernel
theorem dX12_text_302 : decode cX12_text 302 = .ok (.invokestatic 321, 3) := by decide +kernel
theorem dX12_text_305 : decode cX12_text 305 = .ok (.aload_n 0, 1) := by decide +kernel
theorem dX12_text_306 : decode cX12_text 306 = .ok (.getfield 65, 3) := by decide +kernel
theorem dX12_text_309 : decode cX12_text 309 = .ok (.invokestatic 321, 3) := by decide +kernel
theorem dX12_text_312 : decode cX12_text 312 = .ok (.aload_n 0, 1) := by decide +kernel
theorem dX12_text_313 : decode cX12_text 313 = .ok (.getfield 68, 3) := by decide +kernel
theorem dX12_text_316 : decode cX12_text 316 = .ok (.invokestatic 321, 3) := by decide +kernel
theorem dX12_text_319 : decode cX12_text 319 = .ok (.aload_n 0, 1) := by decide +kernel
theorem dX12_text_320 : decode cX12_text 320 = .ok (.getfield 71, 3) := by decide +kernel
theorem dX12_text_323 : decode cX12_text 323 = .ok (.invokestatic 321, 3) := by decide +kernel
theorem dX12_text_326 : decode cX12_text 326 = .ok (.aload_n 0, 1) := by decide +kernel
theorem dX12_text_327 : decode cX12_text 327 = .ok (.getfield 74, 3) := by decide +kernel
theorem dX12_text_330 : decode cX12_text 330 = .ok (.invokestatic 321, 3) := by decide +kernel
theorem dX12_text_333 : decode cX12_text 333 = .ok (.aload_n 0, 1) := by decide +kernel
theorem dX12_text_334 : decode cX12_text 334 = .ok (.iconst 0, 1) := by decide +kernel
theorem dX12_text_335 : decode cX12_text 335 = .ok (.putfield 325, 3) := by decide +kernel
theorem dX12_text_338 : decode cX12_text 338 = .ok (.aload_n 0, 1) := by decide +kernel
theorem dX12_text_339 : decode cX12_text 339 = .ok (.iconst (-1), 1) := by decide +kernel
theorem dX12_text_340 : decode cX12_text 340 = .ok (.putfield 142, 3) := by decide +kernel
theorem dX12_text_343 : decode cX12_text 343 = .ok (.aload_n 0, 1) := by decide +kernel
theorem dX12_text_344 : decode cX12_text 344 = .ok (.iconst 0, 1) := by decide +kernel
theorem dX12_text_345 : decode cX12_text 345 = .ok (.putfield 328, 3) := by decide +kernel
theorem dX12_text_348 : decode cX12_text 348 = .ok (.aload_n 0, 1) := by decide +kernel
theorem dX12_text_349 : decode cX12_text 349 = .ok (.invokevirtual 160, 3) := by decide +kernel
theorem dX12_text_352 : decode cX12_text 352 = .ok (.aload_n 0, 1) := by decide +kernel
theorem dX12_text_353 : decode cX12_text 353 = .ok (.getfield 273, 3) := by decide +kernel
theorem dX12_text_356 : decode cX12_text 356 = .ok (.ireturn, 1) := by decide +kernel
theorem dX12_thieves_0 : decode cX12_thieves 0 = .ok (.aload_n 0, 1) := by decide +kernel
theorem dX12_thieves_1 : decode cX12_thieves 1 = .ok (.iconst 0, 1) := by decide +kernel
theorem dX12_thieves_2 : decode cX12_thieves 2 = .ok (.putfield 163, 3) := by decide +kernel
theorem dX12_thieves_5 : decode cX12_thieves 5 = .ok (.aload_n 0, 1) := by decide +kernel
theorem dX12_thieves_6 : decode cX12_thieves 6 = .ok (.invokevirtual 473, 3) := by decide +kernel
theorem dX12_thieves_9 : decode cX12_thieves 9 = .ok (.iconst 0, 1) := by decide +kernel
theorem dX12_thieves_10 : decode cX12_thieves 10 = .ok (.istore_n 1, 1) := by decide +kernel
theorem dX12_thieves_11 : decode cX12_thieves 11 = .ok (.iconst 0, 1) := by decide +kernel
theorem dX12_thieves_12 : decode cX12_thieves 12 = .ok (.istore_n 2, 1) := by decide +kernel
theorem dX12_thieves_13 : decode cX12_thieves 13 = .ok (.iload_n 2, 1) := by decide +kernel
theorem dX12_thieves_14 : decode cX12_thieves 14 = .ok (.aload_n 0, 1) := by decide +kernel
theorem dX12_thieves_15 : decode cX12_thieves 15 = .ok (.getfield 13, 3) := by decide +kernel
theorem dX12_thieves_18 : decode cX12_thieves 18 = .ok (.iconst 1, 1) := by decide +kernel
theorem dX12_thieves_19 : decode cX12_thieves 19 = .ok (.iaload, 1) := by decide +kernel
theorem dX12_thieves_20 : decode cX12_thieves 20 = .ok (.if_icmp .ge 27, 3) := by decide +kernel
theorem dX12_thieves_47 : decode cX12_thieves 47 = .ok (.iload_n 1, 1) := by decide +kernel
theorem dX12_thieves_48 : decode cX12_thieves 48 = .ok (.ireturn, 1) := by decide +kernel
theorem dX12_thrown_0 : decode cX12_thrown 0 = .ok (.aload_n 0, 1) := by decide +kernel
theorem dX12_thrown_1 : decode cX12_thrown 1 = .ok (.getfield 163, 3) := by decide +kernel
theorem dX12_thrown_4 : decode cX12_thrown 4 = .ok (.ireturn, 1) := by decide +kernel
theorem dX12_token_0 : decode cX12_token 0 = .ok (.aload_n 0, 1) := by decide +kernel
theorem dX12_token_1 : decode cX12_token 1 = .ok (.invokevirtual 175, 3) := by decide +kernel
theorem dX12_token_4 : decode cX12_token 4 = .ok (.bipush 10, 2) := by decide +kernel
theorem dX12_token_6 : decode cX12_token 6 = .ok (.if_icmp .eq 12, 3) := by decide +kernel
theorem dX12_token_9 : decode cX12_token 9 = .ok (.aload_n 0, 1) := by decide +kernel
theorem dX12_token_10 : decode cX12_token 10 = .ok (.invokevirtual 175, 3) := by decide +kernel
theorem dX12_token_13 : decode cX12_token 13 = .ok (.bipush 32, 2) := by decide +kernel
theorem dX12_token_15 : decode cX12_token 15 = .ok (.if_icmp .ne 16, 3) := by decide +kernel
theorem dX12_token_31 : decode cX12_token 31 = .ok (.aload_n 0, 1) := by decide +kernel
theorem dX12_token_32 : decode cX12_token 32 = .ok (.aload_n 0, 1) := by decide +kernel
theorem dX12_token_33 : decode cX12_token 33 = .ok (.getfield 169, 3) := by decide +kernel
theorem dX12_token_36 : decode cX12_token 36 = .ok (.putfield 179, 3) := by decide +kernel
theorem dX12_token_39 : decode cX12_token 39 = .ok (.aload_n 0, 1) := by decide +kernel
theorem dX12_token_40 : decode cX12_token 40 = .ok (.invokevirtual 175, 3) := by decide +kernel
theorem dX12_token_43 : decode cX12_token 43 = .ok (.istore_n 1, 1) := by decide +kernel
theorem dX12_token_44 : decode cX12_token 44 = .ok (.iload_n 1, 1) := by decide +kernel
theorem dX12_token_45 : decode cX12_token 45 = .ok (.iconst (-1), 1) := by decide +kernel
theorem dX12_token_46 : decode cX12_token 46 = .ok (.if_icmp .ne 11, 3) := by decide +kernel
theorem dX12_token_49 : decode cX12_token 49 = .ok (.aload_n 0, 1) := by decide +kernel
theorem dX12_token_50 : decode cX12_token 50 = .ok (.iconst 4, 1) := by decide +kernel
theorem dX12_token_51 : decode cX12_token 51 = .ok (.putfield 182, 3) := by decide +kernel
theorem dX12_token_54 : decode cX12_token 54 = .ok (.goto 171, 3) := by decide +kernel
theorem dX12_token_225 : decode cX12_token 225 = .ok (.return_, 1) := by decide +kernel
theorem dX12_undo_0 : decode cX12_undo 0 = .ok (.aload_n 0, 1) := by decide +kernel
theorem dX12_undo_1 : decode cX12_undo 1 = .ok (.iconst 0, 1) := by decide +kernel
theorem dX12_undo_2 : decode cX12_undo 2 = .ok (.putfield 163, 3) := by decide +kernel
theorem dX12_undo_5 : decode cX12_undo 5 = .ok (.aload_n 0, 1) := by decide +kernel
theorem dX12_undo_6 : decode cX12_undo 6 = .ok (.getfield 108, 3) := by decide +kernel
theorem dX12_undo_9 : decode cX12_undo 9 = .ok (.iconst 0, 1) := by decide +kernel
theorem dX12_undo_10 : decode cX12_undo 10 = .ok (.iaload, 1) := by decide +kernel
theorem dX12_undo_11 : decode cX12_undo 11 = .ok (.ifCond .ne 5, 3) := by decide +kernel
theorem dX12_undo_14 : decode cX12_undo 14 = .ok (.iconst (-1), 1) := by decide +kernel
theorem dX12_undo_15 : decode cX12_undo 15 = .ok (.ireturn, 1) := by decide +kernel
theorem dX12_verse_0 : decode cX12_verse 0 = .ok (.aload_n 0, 1) := by decide +kernel
theorem dX12_verse_1 : decode cX12_verse 1 = .ok (.iconst 0, 1) := by decide +kernel
theorem dX12_verse_2 : decode cX12_verse 2 = .ok (.putfield 163, 3) := by decide +kernel
theorem dX12_verse_5 : decode cX12_verse 5 = .ok (.aload_n 0, 1) := by decide +kernel
theorem dX12_verse_6 : decode cX12_verse 6 = .ok (.iload_n 1, 1) := by decide +kernel
theorem dX12_verse_7 : decode cX12_verse 7 = .ok (.invokevirtual 332, 3) := by decide +kernel
theorem dX12_verse_10 : decode cX12_verse 10 = .ok (.ifCond .ne 5, 3) := by decide +kernel
theorem dX12_verse_13 : decode cX12_verse 13 = .ok (.iconst (-1), 1) := by decide +kernel
theorem dX12_verse_14 : decode cX12_verse 14 = .ok (.ireturn, 1) := by decide +kernel
theorem dX12_whole_0 : decode cX12_whole 0 = .ok (.aload_n 0, 1) := by decide +kernel
theorem dX12_whole_1 : decode cX12_whole 1 = .ok (.iconst 0, 1) := by decide +kernel
theorem dX12_whole_2 : decode cX12_whole 2 = .ok (.putfield 163, 3) := by decide +kernel
theorem dX12_whole_5 : decode cX12_whole 5 = .ok (.aload_n 0, 1) := by decide +kernel
theorem dX12_whole_6 : decode cX12_whole 6 = .ok (.iload_n 1, 1) := by decide +kernel
theorem dX12_whole_7 : decode cX12_whole 7 = .ok (.invokevirtual 335, 3) := by decide +kernel
theorem dX12_whole_10 : decode cX12_whole 10 = .ok (.ifCond .eq 22, 3) := by decide +kernel
theorem dX12_whole_32 : decode cX12_whole 32 = .ok (.ldc2_w 504, 3) := by decide +kernel
theorem dX12_whole_35 : decode cX12_whole 35 = .ok (.lreturn, 1) := by decide +kernel
theorem dJ6_bitCount_0f7a4_0 : decode cJ6_bitCount_0f7a4 0 = .ok (.iload_n 0, 1) := by decide +kernel
theorem dJ6_bitCount_0f7a4_1 : decode cJ6_bitCount_0f7a4 1 = .ok (.iload_n 0, 1) := by decide +kernel
theorem dJ6_bitCount_0f7a4_2 : decode cJ6_bitCount_0f7a4 2 = .ok (.iconst 1, 1) := by decide +kernel
theorem dJ6_bitCount_0f7a4_3 : decode cJ6_bitCount_0f7a4 3 = .ok (.iushr, 1) := by decide +kernel
theorem dJ6_bitCount_0f7a4_4 : decode cJ6_bitCount_0f7a4 4 = .ok (.ldc_w 265, 3) := by decide +kernel
theorem dJ6_bitCount_0f7a4_7 : decode cJ6_bitCount_0f7a4 7 = .ok (.iand, 1) := by decide +kernel
theorem dJ6_bitCount_0f7a4_8 : decode cJ6_bitCount_0f7a4 8 = .ok (.isub, 1) := by decide +kernel
theorem dJ6_bitCount_0f7a4_9 : decode cJ6_bitCount_0f7a4 9 = .ok (.istore_n 0, 1) := by decide +kernel
theorem dJ6_bitCount_0f7a4_10 : decode cJ6_bitCount_0f7a4 10 = .ok (.iload_n 0, 1) := by decide +kernel
theorem dJ6_bitCount_0f7a4_11 : decode cJ6_bitCount_0f7a4 11 = .ok (.ldc_w 266, 3) := by decide +kernel
theorem dJ6_bitCount_0f7a4_14 : decode cJ6_bitCount_0f7a4 14 = .ok (.iand, 1) := by decide +kernel
theorem dJ6_bitCount_0f7a4_15 : decode cJ6_bitCount_0f7a4 15 = .ok (.iload_n 0, 1) := by decide +kernel
theorem dJ6_bitCount_0f7a4_16 : decode cJ6_bitCount_0f7a4 16 = .ok (.iconst 2, 1) := by decide +kernel
theorem dJ6_bitCount_0f7a4_17 : decode cJ6_bitCount_0f7a4 17 = .ok (.iushr, 1) := by decide +kernel
theorem dJ6_bitCount_0f7a4_18 : decode cJ6_bitCount_0f7a4 18 = .ok (.ldc_w 266, 3) := by decide +kernel
theorem dJ6_bitCount_0f7a4_21 : decode cJ6_bitCount_0f7a4 21 = .ok (.iand, 1) := by decide +kernel
theorem dJ6_bitCount_0f7a4_22 : decode cJ6_bitCount_0f7a4 22 = .ok (.iadd, 1) := by decide +kernel
theorem dJ6_bitCount_0f7a4_23 : decode cJ6_bitCount_0f7a4 23 = .ok (.istore_n 0, 1) := by decide +kernel
theorem dJ6_bitCount_0f7a4_24 : decode cJ6_bitCount_0f7a4 24 = .ok (.iload_n 0, 1) := by decide +kernel
theorem dJ6_bitCount_0f7a4_25 : decode cJ6_bitCount_0f7a4 25 = .ok (.iload_n 0, 1) := by decide +kernel
theorem dJ6_bitCount_0f7a4_26 : decode cJ6_bitCount_0f7a4 26 = .ok (.iconst 4, 1) := by decide +kernel
theorem dJ6_bitCount_0f7a4_27 : decode cJ6_bitCount_0f7a4 27 = .ok (.iushr, 1) := by decide +kernel
theorem dJ6_bitCount_0f7a4_28 : decode cJ6_bitCount_0f7a4 28 = .ok (.iadd, 1) := by decide +kernel
theorem dJ6_bitCount_0f7a4_29 : decode cJ6_bitCount_0f7a4 29 = .ok (.ldc_w 267, 3) := by decide +kernel
theorem dJ6_bitCount_0f7a4_32 : decode cJ6_bitCount_0f7a4 32 = .ok (.iand, 1) := by decide +kernel
theorem dJ6_bitCount_0f7a4_33 : decode cJ6_bitCount_0f7a4 33 = .ok (.istore_n 0, 1) := by decide +kernel
theorem dJ6_bitCount_0f7a4_34 : decode cJ6_bitCount_0f7a4 34 = .ok (.iload_n 0, 1) := by decide +kernel
theorem dJ6_bitCount_0f7a4_35 : decode cJ6_bitCount_0f7a4 35 = .ok (.iload_n 0, 1) := by decide +kernel
theorem dJ6_bitCount_0f7a4_36 : decode cJ6_bitCount_0f7a4 36 = .ok (.bipush 8, 2) := by decide +kernel
theorem dJ6_bitCount_0f7a4_38 : decode cJ6_bitCount_0f7a4 38 = .ok (.iushr, 1) := by decide +kernel
theorem dJ6_bitCount_0f7a4_39 : decode cJ6_bitCount_0f7a4 39 = .ok (.iadd, 1) := by decide +kernel
theorem dJ6_bitCount_0f7a4_40 : decode cJ6_bitCount_0f7a4 40 = .ok (.istore_n 0, 1) := by decide +kernel
theorem dJ6_bitCount_0f7a4_41 : decode cJ6_bitCount_0f7a4 41 = .ok (.iload_n 0, 1) := by decide +kernel
theorem dJ6_bitCount_0f7a4_42 : decode cJ6_bitCount_0f7a4 42 = .ok (.iload_n 0, 1) := by decide +kernel
theorem dJ6_bitCount_0f7a4_43 : decode cJ6_bitCount_0f7a4 43 = .ok (.bipush 16, 2) := by decide +kernel
theorem dJ6_bitCount_0f7a4_45 : decode cJ6_bitCount_0f7a4 45 = .ok (.iushr, 1) := by decide +kernel
theorem dJ6_bitCount_0f7a4_46 : decode cJ6_bitCount_0f7a4 46 = .ok (.iadd, 1) := by decide +kernel
theorem dJ6_bitCount_0f7a4_47 : decode cJ6_bitCount_0f7a4 47 = .ok (.istore_n 0, 1) := by decide +kernel
theorem dJ6_bitCount_0f7a4_48 : decode cJ6_bitCount_0f7a4 48 = .ok (.iload_n 0, 1) := by decide +kernel
theorem dJ6_bitCount_0f7a4_49 : decode cJ6_bitCount_0f7a4 49 = .ok (.bipush 63, 2) := by decide +kernel
theorem dJ6_bitCount_0f7a4_51 : decode cJ6_bitCount_0f7a4 51 = .ok (.iand, 1) := by decide +kernel
theorem dJ6_bitCount_0f7a4_52 : decode cJ6_bitCount_0f7a4 52 = .ok (.ireturn, 1) := by decide +kernel
theorem dJ9_min_7cf53_0 : decode cJ9_min_7cf53 0 = .ok (.iload_n 0, 1) := by decide +kernel
theorem dJ9_min_7cf53_1 : decode cJ9_min_7cf53 1 = .ok (.iload_n 1, 1) := by decide +kernel
theorem dJ9_min_7cf53_2 : decode cJ9_min_7cf53 2 = .ok (.if_icmp .gt 7, 3) := by decide +kernel
theorem dJ9_min_7cf53_5 : decode cJ9_min_7cf53 5 = .ok (.iload_n 0, 1) := by decide +kernel
theorem dJ9_min_7cf53_6 : decode cJ9_min_7cf53 6 = .ok (.goto 4, 3) := by decide +kernel
theorem dJ9_min_7cf53_10 : decode cJ9_min_7cf53 10 = .ok (.ireturn, 1) := by decide +kernel
