theorem dX12_dueOf_18 : decode cX12_dueOf 18 = .ok (.getfield 117, 3) := by decide +kernel
theorem dX12_dueOf_21 : decode cX12_dueOf 21 = .ok (.iconst 2, 1) := by decide +kernel
theorem dX12_dueOf_22 : decode cX12_dueOf 22 = .ok (.aload_n 0, 1) := by decide +kernel
theorem dX12_dueOf_23 : decode cX12_dueOf 23 = .ok (.iload_n 1, 1) := by decide +kernel
theorem dX12_dueOf_24 : decode cX12_dueOf 24 = .ok (.iload_n 2, 1) := by decide +kernel
theorem dX12_dueOf_25 : decode cX12_dueOf 25 = .ok (.invokevirtual 390, 3) := by decide +kernel
theorem dX12_dueOf_28 : decode cX12_dueOf 28 = .ok (.i2l, 1) := by decide +kernel
theorem dX12_dueOf_29 : decode cX12_dueOf 29 = .ok (.lastore, 1) := by decide +kernel
theorem dX12_dueOf_30 : decode cX12_dueOf 30 = .ok (.aload_n 0, 1) := by decide +kernel
theorem dX12_dueOf_31 : decode cX12_dueOf 31 = .ok (.getfield 117, 3) := by decide +kernel
theorem dX12_dueOf_34 : decode cX12_dueOf 34 = .ok (.iconst 3, 1) := by decide +kernel
theorem dX12_dueOf_35 : decode cX12_dueOf 35 = .ok (.aload_n 0, 1) := by decide +kernel
theorem dX12_dueOf_36 : decode cX12_dueOf 36 = .ok (.iload_n 1, 1) := by decide +kernel
theorem dX12_dueOf_37 : decode cX12_dueOf 37 = .ok (.invokevirtual 393, 3) := by decide +kernel
theorem dX12_dueOf_40 : decode cX12_dueOf 40 = .ok (.i2l, 1) := by decide +kernel
theorem dX12_dueOf_41 : decode cX12_dueOf 41 = .ok (.lastore, 1) := by decide +kernel
theorem dX12_dueOf_42 : decode cX12_dueOf 42 = .ok (.aload_n 0, 1) := by decide +kernel
theorem dX12_dueOf_43 : decode cX12_dueOf 43 = .ok (.getfield 117, 3) := by decide +kernel
theorem dX12_dueOf_46 : decode cX12_dueOf 46 = .ok (.iconst 4, 1) := by decide +kernel
theorem dX12_dueOf_47 : decode cX12_dueOf 47 = .ok (.aload_n 0, 1) := by decide +kernel
theorem dX12_dueOf_48 : decode cX12_dueOf 48 = .ok (.iload_n 1, 1) := by decide +kernel
theorem dX12_dueOf_49 : decode cX12_dueOf 49 = .ok (.invokevirtual 396, 3) := by decide +kernel
theorem dX12_dueOf_52 : decode cX12_dueOf 52 = .ok (.i2l, 1) := by decide +kernel
theorem dX12_dueOf_53 : decode cX12_dueOf 53 = .ok (.lastore, 1) := by decide +kernel
theorem dX12_dueOf_54 : decode cX12_dueOf 54 = .ok (.aload_n 0, 1) := by decide +kernel
theorem dX12_dueOf_55 : decode cX12_dueOf 55 = .ok (.getfield 117, 3) := by decide +kernel
theorem dX12_dueOf_58 : decode cX12_dueOf 58 = .ok (.bipush 6, 2) := by decide +kernel
theorem dX12_dueOf_60 : decode cX12_dueOf 60 = .ok (.aload_n 0, 1) := by decide +kernel
theorem dX12_dueOf_61 : decode cX12_dueOf 61 = .ok (.getfield 50, 3) := by decide +kernel
theorem dX12_dueOf_64 : decode cX12_dueOf 64 = .ok (.iload_n 1, 1) := by decide +kernel
theorem dX12_dueOf_65 : decode cX12_dueOf 65 = .ok (.iconst 3, 1) := by decide +kernel
theorem dX12_dueOf_66 : decode cX12_dueOf 66 = .ok (.idiv, 1) := by decide +kernel
theorem dX12_dueOf_67 : decode cX12_dueOf 67 = .ok (.iaload, 1) := by decide +kernel
theorem dX12_dueOf_68 : decode cX12_dueOf 68 = .ok (.i2l, 1) := by decide +kernel
theorem dX12_dueOf_69 : decode cX12_dueOf 69 = .ok (.lastore, 1) := by decide +kernel
theorem dX12_dueOf_70 : decode cX12_dueOf 70 = .ok (.aload_n 0, 1) := by decide +kernel
theorem dX12_dueOf_71 : decode cX12_dueOf 71 = .ok (.iconst 0, 1) := by decide +kernel
theorem dX12_dueOf_72 : decode cX12_dueOf 72 = .ok (.sipush 999, 3) := by decide +kernel
theorem dX12_dueOf_75 : decode cX12_dueOf 75 = .ok (.aload_n 0, 1) := by decide +kernel
theorem dX12_dueOf_76 : decode cX12_dueOf 76 = .ok (.getfield 41, 3) := by decide +kernel
theorem dX12_dueOf_79 : decode cX12_dueOf 79 = .ok (.iload_n 2, 1) := by decide +kernel
theorem dX12_dueOf_80 : decode cX12_dueOf 80 = .ok (.iaload, 1) := by decide +kernel
theorem dX12_dueOf_81 : decode cX12_dueOf 81 = .ok (.invokevirtual 399, 3) := by decide +kernel
theorem dX12_dueOf_84 : decode cX12_dueOf 84 = .ok (.ireturn, 1) := by decide +kernel
theorem dX12_easter_0 : decode cX12_easter 0 = .ok (.aload_n 0, 1) := by decide +kernel
theorem dX12_easter_1 : decode cX12_easter 1 = .ok (.iconst 0, 1) := by decide +kernel
theorem dX12_easter_2 : decode cX12_easter 2 = .ok (.putfield 163, 3) := by decide +kernel
theorem dX12_easter_5 : decode cX12_easter 5 = .ok (.aload_n 0, 1) := by decide +kernel
theorem dX12_easter_6 : decode cX12_easter 6 = .ok (.iload_n 1, 1) := by decide +kernel
theorem dX12_easter_7 : decode cX12_easter 7 = .ok (.invokevirtual 461, 3) := by decide +kernel
theorem dX12_easter_10 : decode cX12_easter 10 = .ok (.ifCond .ne 5, 3) := by decide +kernel
theorem dX12_easter_13 : decode cX12_easter 13 = .ok (.iconst (-1), 1) := by decide +kernel
theorem dX12_easter_14 : decode cX12_easter 14 = .ok (.ireturn, 1) := by decide +kernel
theorem dX12_easter_15 : decode cX12_easter 15 = .ok (.aload_n 0, 1) := by decide +kernel
theorem dX12_easter_16 : decode cX12_easter 16 = .ok (.iload_n 1, 1) := by decide +kernel
theorem dX12_easter_17 : decode cX12_easter 17 = .ok (.aload_n 0, 1) := by decide +kernel
theorem dX12_easter_18 : decode cX12_easter 18 = .ok (.getfield 13, 3) := by decide +kernel
theorem dX12_easter_21 : decode cX12_easter 21 = .ok (.iconst 2, 1) := by decide +kernel
theorem dX12_easter_22 : decode cX12_easter 22 = .ok (.iaload, 1) := by decide +kernel
theorem dX12_easter_23 : decode cX12_easter 23 = .ok (.iconst 1, 1) := by decide +kernel
theorem dX12_easter_24 : decode cX12_easter 24 = .ok (.isub, 1) := by decide +kernel
theorem dX12_easter_25 : decode cX12_easter 25 = .ok (.invokevirtual 464, 3) := by decide +kernel
theorem dX12_easter_28 : decode cX12_easter 28 = .ok (.istore_n 2, 1) := by decide +kernel
theorem dX12_easter_29 : decode cX12_easter 29 = .ok (.iconst 0, 1) := by decide +kernel
theorem dX12_easter_30 : decode cX12_easter 30 = .ok (.istore_n 3, 1) := by decide +kernel
theorem dX12_easter_31 : decode cX12_easter 31 = .ok (.iload_n 3, 1) := by decide +kernel
theorem dX12_easter_32 : decode cX12_easter 32 = .ok (.aload_n 0, 1) := by decide +kernel
theorem dX12_easter_33 : decode cX12_easter 33 = .ok (.getfield 13, 3) := by decide +kernel
theorem dX12_easter_36 : decode cX12_easter 36 = .ok (.iconst 3, 1) := by decide +kernel
theorem dX12_easter_37 : decode cX12_easter 37 = .ok (.iaload, 1) := by decide +kernel
theorem dX12_easter_38 : decode cX12_easter 38 = .ok (.if_icmp .ge 21, 3) := by decide +kernel
theorem dX12_easter_41 : decode cX12_easter 41 = .ok (.aload_n 0, 1) := by decide +kernel
theorem dX12_easter_42 : decode cX12_easter 42 = .ok (.getfield 99, 3) := by decide +kernel
theorem dX12_easter_45 : decode cX12_easter 45 = .ok (.iload_n 3, 1) := by decide +kernel
theorem dX12_easter_46 : decode cX12_easter 46 = .ok (.aload_n 0, 1) := by decide +kernel
theorem dX12_easter_47 : decode cX12_easter 47 = .ok (.getfield 139, 3) := by decide +kernel
theorem dX12_easter_50 : decode cX12_easter 50 = .ok (.iload_n 3, 1) := by decide +kernel
theorem dX12_easter_51 : decode cX12_easter 51 = .ok (.iaload, 1) := by decide +kernel
theorem dX12_easter_52 : decode cX12_easter 52 = .ok (.iastore, 1) := by decide +kernel
theorem dX12_easter_53 : decode cX12_easter 53 = .ok (.iinc 3 1, 3) := by decide +kernel
theorem dX12_easter_56 : decode cX12_easter 56 = .ok (.goto (-25), 3) := by decide +kernel
theorem dX12_easter_59 : decode cX12_easter 59 = .ok (.aload_n 0, 1) := by decide +kernel
theorem dX12_easter_60 : decode cX12_easter 60 = .ok (.getfield 84, 3) := by decide +kernel
theorem dX12_easter_63 : decode cX12_easter 63 = .ok (.iconst 0, 1) := by decide +kernel
theorem dX12_easter_64 : decode cX12_easter 64 = .ok (.dup2, 1) := by decide +kernel
theorem dX12_easter_65 : decode cX12_easter 65 = .ok (.iaload, 1) := by decide +kernel
theorem dX12_easter_66 : decode cX12_easter 66 = .ok (.iload_n 2, 1) := by decide +kernel
theorem dX12_easter_67 : decode cX12_easter 67 = .ok (.iadd, 1) := by decide +kernel
theorem dX12_easter_68 : decode cX12_easter 68 = .ok (.iastore, 1) := by decide +kernel
theorem dX12_easter_69 : decode cX12_easter 69 = .ok (.iload_n 2, 1) := by decide +kernel
theorem dX12_easter_70 : decode cX12_easter 70 = .ok (.ireturn, 1) := by decide +kernel
theorem dX12_entry_0 : decode cX12_entry 0 = .ok (.aload_n 0, 1) := by decide +kernel
theorem dX12_entry_1 : decode cX12_entry 1 = .ok (.iconst 0, 1) := by decide +kernel
theorem dX12_entry_2 : decode cX12_entry 2 = .ok (.putfield 163, 3) := by decide +kernel
theorem dX12_entry_5 : decode cX12_entry 5 = .ok (.aload_n 0, 1) := by decide +kernel
theorem dX12_entry_6 : decode cX12_entry 6 = .ok (.iload_n 1, 1) := by decide +kernel
theorem dX12_entry_7 : decode cX12_entry 7 = .ok (.iload_n 2, 1) := by decide +kernel
theorem dX12_entry_8 : decode cX12_entry 8 = .ok (.invokevirtual 344, 3) := by decide +kernel
theorem dX12_entry_11 : decode cX12_entry 11 = .ok (.ifCond .eq 23, 3) := by decide +kernel
theorem dX12_entry_14 : decode cX12_entry 14 = .ok (.iload_n 3, 1) := by decide +kernel
theorem dX12_entry_15 : decode cX12_entry 15 = .ok (.iload 4, 2) := by decide +kernel
theorem dX12_entry_17 : decode cX12_entry 17 = .ok (.invokestatic 498, 3) := by decide +kernel
theorem dX12_entry_20 : decode cX12_entry 20 = .ok (.ifCond .eq 14, 3) := by decide +kernel
theorem dX12_entry_23 : decode cX12_entry 23 = .ok (.iload 5, 2) := by decide +kernel
theorem dX12_entry_25 : decode cX12_entry 25 = .ok (.ifCond .lt 9, 3) := by decide +kernel
theorem dX12_entry_28 : decode cX12_entry 28 = .ok (.iload 5, 2) := by decide +kernel
theorem dX12_entry_30 : decode cX12_entry 30 = .ok (.iload_n 3, 1) := by decide +kernel
theorem dX12_entry_31 : decode cX12_entry 31 = .ok (.if_icmp .lt 5, 3) := by decide +kernel
theorem dX12_entry_34 : decode cX12_entry 34 = .ok (.iconst (-1), 1) := by decide +kernel
theorem dX12_entry_35 : decode cX12_entry 35 = .ok (.ireturn, 1) := by decide +kernel
theorem dX12_entry_36 : decode cX12_entry 36 = .ok (.aload_n 0, 1) := by decide +kernel
theorem dX12_entry_37 : decode cX12_entry 37 = .ok (.iconst (-1), 1) := by decide +kernel
theorem dX12_entry_38 : decode cX12_entry 38 = .ok (.putfield 491, 3) := by decide +kernel
theorem dX12_entry_41 : decode cX12_entry 41 = .ok (.aload_n 0, 1) := by decide +kernel
theorem dX12_entry_42 : decode cX12_entry 42 = .ok (.iconst 3, 1) := by decide +kernel
theorem dX12_entry_43 : decode cX12_entry 43 = .ok (.iload_n 1, 1) := by decide +kernel
theorem dX12_entry_44 : decode cX12_entry 44 = .ok (.imul, 1) := by decide +kernel
theorem dX12_entry_45 : decode cX12_entry 45 = .ok (.iload_n 2, 1) := by decide +kernel
theorem dX12_entry_46 : decode cX12_entry 46 = .ok (.iadd, 1) := by decide +kernel
theorem dX12_entry_47 : decode cX12_entry 47 = .ok (.iload_n 3, 1) := by decide +kernel
theorem dX12_entry_48 : decode cX12_entry 48 = .ok (.iload 4, 2) := by decide +kernel
theorem dX12_entry_50 : decode cX12_entry 50 = .ok (.iconst 0, 1) := by decide +kernel
theorem dX12_entry_51 : decode cX12_entry 51 = .ok (.iconst 0, 1) := by decide +kernel
theorem dX12_entry_52 : decode cX12_entry 52 = .ok (.invokevirtual 494, 3) := by decide +kernel
theorem dX12_entry_55 : decode cX12_entry 55 = .ok (.aload_n 0, 1) := by decide +kernel
theorem dX12_entry_56 : decode cX12_entry 56 = .ok (.getfield 491, 3) := by decide +kernel
theorem dX12_entry_59 : decode cX12_entry 59 = .ok (.iconst (-1), 1) := by decide +kernel
theorem dX12_entry_60 : decode cX12_entry 60 = .ok (.if_icmp .ne 8, 3) := by decide +kernel
theorem dX12_entry_63 : decode cX12_entry 63 = .ok (.bipush (-2), 2) := by decide +kernel
theorem dX12_entry_65 : decode cX12_entry 65 = .ok (.goto 10, 3) := by decide +kernel
theorem dX12_entry_68 : decode cX12_entry 68 = .ok (.aload_n 0, 1) := by decide +kernel
theorem dX12_entry_69 : decode cX12_entry 69 = .ok (.getfield 157, 3) := by decide +kernel
theorem dX12_entry_72 : decode cX12_entry 72 = .ok (.iload 5, 2) := by decide +kernel
theorem dX12_entry_74 : decode cX12_entry 74 = .ok (.iaload, 1) := by decide +kernel
theorem dX12_entry_75 : decode cX12_entry 75 = .ok (.ireturn, 1) := by decide +kernel
theorem dX12_expression_0 : decode cX12_expression 0 = .ok (.aload_n 0, 1) := by decide +kernel
theorem dX12_expression_1 : decode cX12_expression 1 = .ok (.invokevirtual 291, 3) := by decide +kernel
theorem dX12_expression_4 : decode cX12_expression 4 = .ok (.aload_n 0, 1) := by decide +kernel
theorem dX12_expression_5 : decode cX12_expression 5 = .ok (.bipush 13, 2) := by decide +kernel
theorem dX12_expression_7 : decode cX12_expression 7 = .ok (.invokevirtual 279, 3) := by decide +kernel
theorem dX12_expression_10 : decode cX12_expression 10 = .ok (.ifCond .eq 26, 3) := by decide +kernel
theorem dX12_expression_13 : decode cX12_expression 13 = .ok (.aload_n 0, 1) := by decide +kernel
theorem dX12_expression_14 : decode cX12_expression 14 = .ok (.invokevirtual 294, 3) := by decide +kernel
theorem dX12_expression_17 : decode cX12_expression 17 = .ok (.aload_n 0, 1) := by decide +kernel
theorem dX12_expression_18 : decode cX12_expression 18 = .ok (.invokevirtual 237, 3) := by decide +kernel
theorem dX12_expression_21 : decode cX12_expression 21 = .ok (.aload_n 0, 1) := by decide +kernel
theorem dX12_expression_22 : decode cX12_expression 22 = .ok (.invokevirtual 291, 3) := by decide +kernel
theorem dX12_expression_25 : decode cX12_expression 25 = .ok (.aload_n 0, 1) := by decide +kernel
theorem dX12_expression_26 : decode cX12_expression 26 = .ok (.iconst 2, 1) := by decide +kernel
theorem dX12_expression_27 : decode cX12_expression 27 = .ok (.sipush 262, 3) := by decide +kernel
theorem dX12_expression_30 : decode cX12_expression 30 = .ok (.invokevirtual 297, 3) := by decide +kernel
theorem dX12_expression_33 : decode cX12_expression 33 = .ok (.goto (-29), 3) := by decide +kernel
theorem dX12_expression_36 : decode cX12_expression 36 = .ok (.return_, 1) := by decide +kernel
theorem dX12_fault_0 : decode cX12_fault 0 = .ok (.aload_n 0, 1) := by decide +kernel
theorem dX12_fault_1 : decode cX12_fault 1 = .ok (.iconst 0, 1) := by decide +kernel
theorem dX12_fault_2 : decode cX12_fault 2 = .ok (.putfield 163, 3) := by decide +kernel
theorem dX12_fault_5 : decode cX12_fault 5 = .ok (.iload_n 1, 1) := by decide +kernel
theorem dX12_fault_6 : decode cX12_fault 6 = .ok (.ifCond .ne 10, 3) := by decide +kernel
theorem dX12_fault_9 : decode cX12_fault 9 = .ok (.aload_n 0, 1) := by decide +kernel
theorem dX12_fault_10 : decode cX12_fault 10 = .ok (.getfield 318, 3) := by decide +kernel
theorem dX12_fault_13 : decode cX12_fault 13 = .ok (.goto 16, 3) := by decide +kernel
theorem dX12_fault_16 : decode cX12_fault 16 = .ok (.iload_n 1, 1) := by decide +kernel
theorem dX12_fault_17 : decode cX12_fault 17 = .ok (.iconst 1, 1) := by decide +kernel
theorem dX12_fault_18 : decode cX12_fault 18 = .ok (.if_icmp .ne 10, 3) := by decide +kernel
theorem dX12_fault_21 : decode cX12_fault 21 = .ok (.aload_n 0, 1) := by decide +kernel
theorem dX12_fault_22 : decode cX12_fault 22 = .ok (.getfield 77, 3) := by decide +kernel
theorem dX12_fault_25 : decode cX12_fault 25 = .ok (.goto 4, 3) := by decide +kernel
theorem dX12_fault_28 : decode cX12_fault 28 = .ok (.iconst (-1), 1) := by decide +kernel
theorem dX12_fault_29 : decode cX12_fault 29 = .ok (.ireturn, 1) := by decide +kernel
theorem dX12_feed_0 : decode cX12_feed 0 = .ok (.aload_n 0, 1) := by decide +kernel
theorem dX12_feed_1 : decode cX12_feed 1 = .ok (.iconst 0, 1) := by decide +kernel
theorem dX12_feed_2 : decode cX12_feed 2 = .ok (.putfield 163, 3) := by decide +kernel
theorem dX12_feed_5 : decode cX12_feed 5 = .ok (.aload_n 0, 1) := by decide +kernel
theorem dX12_feed_6 : decode cX12_feed 6 = .ok (.getfield 166, 3) := by decide +kernel
theorem dX12_feed_9 : decode cX12_feed 9 = .ok (.sipush 780, 3) := by decide +kernel
theorem dX12_feed_12 : decode cX12_feed 12 = .ok (.if_icmp .le 5, 3) := by decide +kernel
theorem dX12_feed_15 : decode cX12_feed 15 = .ok (.iconst (-1), 1) := by decide +kernel
theorem dX12_feed_16 : decode cX12_feed 16 = .ok (.ireturn, 1) := by decide +kernel
theorem dX12_feed_17 : decode cX12_feed 17 = .ok (.iconst 0, 1) := by decide +kernel
theorem dX12_feed_18 : decode cX12_feed 18 = .ok (.istore 6, 2) := by decide +kernel
theorem dX12_feed_20 : decode cX12_feed 20 = .ok (.iload 6, 2) := by decide +kernel
theorem dX12_feed_22 : decode cX12_feed 22 = .ok (.bipush 20, 2) := by decide +kernel
theorem dX12_feed_24 : decode cX12_feed 24 = .ok (.if_icmp .ge 86, 3) := by decide +kernel
theorem dX12_feed_27 : decode cX12_feed 27 = .ok (.iload 6, 2) := by decide +kernel
theorem dX12_feed_29 : decode cX12_feed 29 = .ok (.iconst 4, 1) := by decide +kernel
theorem dX12_feed_30 : decode cX12_feed 30 = .ok (.if_icmp .ge 7, 3) := by decide +kernel
theorem dX12_feed_33 : decode cX12_feed 33 = .ok (.iload_n 1, 1) := by decide +kernel
theorem dX12_feed_34 : decode cX12_feed 34 = .ok (.goto 39, 3) := by decide +kernel
theorem dX12_feed_37 : decode cX12_feed 37 = .ok (.iload 6, 2) := by decide +kernel
theorem dX12_feed_39 : decode cX12_feed 39 = .ok (.bipush 8, 2) := by decide +kernel
theorem dX12_feed_41 : decode cX12_feed 41 = .ok (.if_icmp .ge 7, 3) := by decide +kernel
theorem dX12_feed_44 : decode cX12_feed 44 = .ok (.iload_n 2, 1) := by decide +kernel
theorem dX12_feed_45 : decode cX12_feed 45 = .ok (.goto 28, 3) := by decide +kernel
theorem dX12_feed_48 : decode cX12_feed 48 = .ok (.iload 6, 2) := by decide +kernel
theorem dX12_feed_50 : decode cX12_feed 50 = .ok (.bipush 12, 2) := by decide +kernel
theorem dX12_feed_52 : decode cX12_feed 52 = .ok (.if_icmp .ge 7, 3) := by decide +kernel
theorem dX12_feed_55 : decode cX12_feed 55 = .ok (.iload_n 3, 1) := by decide +kernel
theorem dX12_feed_56 : decode cX12_feed 56 = .ok (.goto 17, 3) := by decide +kernel
theorem dX12_feed_59 : decode cX12_feed 59 = .ok (.iload 6, 2) := by decide +kernel
theorem dX12_feed_61 : decode cX12_feed 61 = .ok (.bipush 16, 2) := by decide +kernel
theorem dX12_feed_63 : decode cX12_feed 63 = .ok (.if_icmp .ge 8, 3) := by decide +kernel
theorem dX12_feed_66 : decode cX12_feed 66 = .ok (.iload 4, 2) := by decide +kernel
theorem dX12_feed_68 : decode cX12_feed 68 = .ok (.goto 5, 3) := by decide +kernel
theorem dX12_feed_71 : decode cX12_feed 71 = .ok (.iload 5, 2) := by decide +kernel
theorem dX12_feed_73 : decode cX12_feed 73 = .ok (.istore 7, 2) := by decide +kernel
theorem dX12_feed_75 : decode cX12_feed 75 = .ok (.aload_n 0, 1) := by decide +kernel
theorem dX12_feed_76 : decode cX12_feed 76 = .ok (.getfield 7, 3) := by decide +kernel
theorem dX12_feed_79 : decode cX12_feed 79 = .ok (.aload_n 0, 1) := by decide +kernel
theorem dX12_feed_80 : decode cX12_feed 80 = .ok (.getfield 166, 3) := by decide +kernel
theorem dX12_feed_83 : decode cX12_feed 83 = .ok (.iload 6, 2) := by decide +kernel
theorem dX12_feed_85 : decode cX12_feed 85 = .ok (.iadd, 1) := by decide +kernel
theorem dX12_feed_86 : decode cX12_feed 86 = .ok (.iload 7, 2) := by decide +kernel
theorem dX12_feed_88 : decode cX12_feed 88 = .ok (.bipush 24, 2) := by decide +kernel
theorem dX12_feed_90 : decode cX12_feed 90 = .ok (.bipush 8, 2) := by decide +kernel
theorem dX12_feed_92 : decode cX12_feed 92 = .ok (.iload 6, 2) := by decide +kernel
theorem dX12_feed_94 : decode cX12_feed 94 = .ok (.iconst 4, 1) := by decide +kernel
theorem dX12_feed_95 : decode cX12_feed 95 = .ok (.irem, 1) := by decide +kernel
theorem dX12_feed_96 : decode cX12_feed 96 = .ok (.imul, 1) := by decide +kernel
theorem dX12_feed_97 : decode cX12_feed 97 = .ok (.isub, 1) := by decide +kernel
theorem dX12_feed_98 : decode cX12_feed 98 = .ok (.ishr, 1) := by decide +kernel
theorem dX12_feed_99 : decode cX12_feed 99 = .ok (.sipush 255, 3) := by decide +kernel
theorem dX12_feed_102 : decode cX12_feed 102 = .ok (.iand, 1) := by decide +kernel
theorem dX12_feed_103 : decode cX12_feed 103 = .ok (.iastore, 1) := by decide +kernel
theorem dX12_feed_104 : decode cX12_feed 104 = .ok (.iinc 6 1, 3) := by decide +kernel
theorem dX12_feed_107 : decode cX12_feed 107 = .ok (.goto (-87), 3) := by decide +kernel
theorem dX12_feed_110 : decode cX12_feed 110 = .ok (.aload_n 0, 1) := by decide +kernel
theorem dX12_feed_111 : decode cX12_feed 111 = .ok (.dup, 1) := by decide +kernel
theorem dX12_feed_112 : decode cX12_feed 112 = .ok (.getfield 166, 3) := by decide +kernel
theorem dX12_feed_115 : decode cX12_feed 115 = .ok (.bipush 20, 2) := by decide +kernel
theorem dX12_feed_117 : decode cX12_feed 117 = .ok (.iadd, 1) := by decide +kernel
theorem dX12_feed_118 : decode cX12_feed 118 = .ok (.putfield 166, 3) := by decide +kernel
theorem dX12_feed_121 : decode cX12_feed 121 = .ok (.aload_n 0, 1) := by decide +kernel
theorem dX12_feed_122 : decode cX12_feed 122 = .ok (.getfield 166, 3) := by decide +kernel
theorem dX12_feed_125 : decode cX12_feed 125 = .ok (.ireturn, 1) := by decide +kernel
theorem dX12_found_0 : decode cX12_found 0 = .ok (.iconst 0, 1) := by decide +kernel
theorem dX12_found_1 : decode cX12_found 1 = .ok (.istore 4, 2) := by decide +kernel
theorem dX12_found_3 : decode cX12_found 3 = .ok (.iload 4, 2) := by decide +kernel
theorem dX12_found_5 : decode cX12_found 5 = .ok (.iload_n 2, 1) := by decide +kernel
theorem dX12_found_6 : decode cX12_found 6 = .ok (.if_icmp .ge 22, 3) := by decide +kernel
theorem dX12_found_9 : decode cX12_found 9 = .ok (.aload_n 0, 1) := by decide +kernel
theorem dX12_found_10 : decode cX12_found 10 = .ok (.iload_n 1, 1) := by decide +kernel
theorem dX12_found_11 : decode cX12_found 11 = .ok (.iload 4, 2) := by decide +kernel
theorem dX12_found_13 : decode cX12_found 13 = .ok (.iadd, 1) := by decide +kernel
theorem dX12_found_14 : decode cX12_found 14 = .ok (.iaload, 1) := by decide +kernel
theorem dX12_found_15 : decode cX12_found 15 = .ok (.iload_n 3, 1) := by decide +kernel
theorem dX12_found_16 : decode cX12_found 16 = .ok (.if_icmp .ne 6, 3) := by decide +kernel
theorem dX12_found_19 : decode cX12_found 19 = .ok (.iload 4, 2) := by decide +kernel
theorem dX12_found_21 : decode cX12_found 21 = .ok (.ireturn, 1) := by decide +kernel
theorem dX12_found_22 : decode cX12_found 22 = .ok (.iinc 4 1, 3) := by decide +kernel
theorem dX12_found_25 : decode cX12_found 25 = .ok (.goto (-22), 3) := by decide +kernel
theorem dX12_found_28 : decode cX12_found 28 = .ok (.iconst (-1), 1) := by decide +kernel
theorem dX12_found_29 : decode cX12_found 29 = .ok (.ireturn, 1) := by decide +kernel
theorem dX12_fresh_0 : decode cX12_fresh 0 = .ok (.aload_n 0, 1) := by decide +kernel
theorem dX12_fresh_1 : decode cX12_fresh 1 = .ok (.getfield 217, 3) := by decide +kernel
theorem dX12_fresh_4 : decode cX12_fresh 4 = .ok (.ifCond .eq 5, 3) := by decide +kernel
theorem dX12_fresh_7 : decode cX12_fresh 7 = .ok (.iconst 0, 1) := by decide +kernel
theorem dX12_fresh_8 : decode cX12_fresh 8 = .ok (.ireturn, 1) := by decide +kernel
theorem dX12_fresh_9 : decode cX12_fresh 9 = .ok (.aload_n 0, 1) := by decide +kernel
theorem dX12_fresh_10 : decode cX12_fresh 10 = .ok (.getfield 182, 3) := by decide +kernel
theorem dX12_fresh_13 : decode cX12_fresh 13 = .ok (.iconst 1, 1) := by decide +kernel
theorem dX12_fresh_14 : decode cX12_fresh 14 = .ok (.if_icmp .eq 11, 3) := by decide +kernel
theorem dX12_fresh_17 : decode cX12_fresh 17 = .ok (.aload_n 0, 1) := by decide +kernel
theorem dX12_fresh_18 : decode cX12_fresh 18 = .ok (.iconst 1, 1) := by decide +kernel
theorem dX12_fresh_19 : decode cX12_fresh 19 = .ok (.invokevirtual 226, 3) := by decide +kernel
theorem dX12_fresh_22 : decode cX12_fresh 22 = .ok (.goto 22, 3) := by decide +kernel
theorem dX12_fresh_25 : decode cX12_fresh 25 = .ok (.aload_n 1, 1) := by decide +kernel
theorem dX12_fresh_26 : decode cX12_fresh 26 = .ok (.iload_n 2, 1) := by decide +kernel
theorem dX12_fresh_27 : decode cX12_fresh 27 = .ok (.iload_n 3, 1) := by decide +kernel
theorem dX12_fresh_28 : decode cX12_fresh 28 = .ok (.aload_n 0, 1) := by decide +kernel
theorem dX12_fresh_29 : decode cX12_fresh 29 = .ok (.getfield 192, 3) := by decide +kernel
theorem dX12_fresh_32 : decode cX12_fresh 32 = .ok (.invokestatic 229, 3) := by decide +kernel
theorem dX12_fresh_35 : decode cX12_fresh 35 = .ok (.iconst (-1), 1) := by decide +kernel
theorem dX12_fresh_36 : decode cX12_fresh 36 = .ok (.if_icmp .eq 8, 3) := by decide +kernel
theorem dX12_fresh_39 : decode cX12_fresh 39 = .ok (.aload_n 0, 1) := by decide +kernel
theorem dX12_fresh_40 : decode cX12_fresh 40 = .ok (.iconst 3, 1) := by decide +kernel
theorem dX12_fresh_41 : decode cX12_fresh 41 = .ok (.invokevirtual 226, 3) := by decide +kernel
theorem dX12_fresh_44 : decode cX12_fresh 44 = .ok (.aload_n 0, 1) := by decide +kernel
theorem dX12_fresh_45 : decode cX12_fresh 45 = .ok (.getfield 217, 3) := by decide +kernel
theorem dX12_fresh_48 : decode cX12_fresh 48 = .ok (.ifCond .eq 5, 3) := by decide +kernel
theorem dX12_fresh_51 : decode cX12_fresh 51 = .ok (.iconst 0, 1) := by decide +kernel
theorem dX12_fresh_52 : decode cX12_fresh 52 = .ok (.ireturn, 1) := by decide +kernel
theorem dX12_fresh_53 : decode cX12_fresh 53 = .ok (.aload_n 0, 1) := by decide +kernel
theorem dX12_fresh_54 : decode cX12_fresh 54 = .ok (.getfield 192, 3) := by decide +kernel
theorem dX12_fresh_57 : decode cX12_fresh 57 = .ok (.istore 4, 2) := by decide +kernel
theorem dX12_fresh_59 : decode cX12_fresh 59 = .ok (.aload_n 0, 1) := by decide +kernel
theorem dX12_fresh_60 : decode cX12_fresh 60 = .ok (.invokevirtual 223, 3) := by decide +kernel
theorem dX12_fresh_63 : decode cX12_fresh 63 = .ok (.iload 4, 2) := by decide +kernel
theorem dX12_fresh_65 : decode cX12_fresh 65 = .ok (.ireturn, 1) := by decide +kernel
theorem dX12_fresher_0 : decode cX12_fresher 0 = .ok (.aload_n 0, 1) := by decide +kernel
theorem dX12_fresher_1 : decode cX12_fresher 1 = .ok (.getfield 13, 3) := by decide +kernel
theorem dX12_fresher_4 : decode cX12_fresher 4 = .ok (.bipush 7, 2) := by decide +kernel
theorem dX12_fresher_6 : decode cX12_fresher 6 = .ok (.iload_n 1, 1) := by decide +kernel
theorem dX12_fresher_7 : decode cX12_fresher 7 = .ok (.iadd, 1) := by decide +kernel
theorem dX12_fresher_8 : decode cX12_fresher 8 = .ok (.iaload, 1) := by decide +kernel
theorem dX12_fresher_9 : decode cX12_fresher 9 = .ok (.ireturn, 1) := by decide +kernel
theorem dX12_gainOf_0 : decode cX12_gainOf 0 = .ok (.iconst 0, 1) := by decide +kernel
theorem dX12_gainOf_1 : decode cX12_gainOf 1 = .ok (.istore_n 2, 1) := by decide +kernel
theorem dX12_gainOf_2 : decode cX12_gainOf 2 = .ok (.iconst 0, 1) := by decide +kernel
theorem dX12_gainOf_3 : decode cX12_gainOf 3 = .ok (.istore_n 3, 1) := by decide +kernel
theorem dX12_gainOf_4 : decode cX12_gainOf 4 = .ok (.iload_n 3, 1) := by decide +kernel
theorem dX12_gainOf_5 : decode cX12_gainOf 5 = .ok (.aload_n 0, 1) := by decide +kernel
theorem dX12_gainOf_6 : decode cX12_gainOf 6 = .ok (.getfield 50, 3) := by decide +kernel
theorem dX12_gainOf_9 : decode cX12_gainOf 9 = .ok (.iload_n 1, 1) := by decide +kernel
theorem dX12_gainOf_10 : decode cX12_gainOf 10 = .ok (.iaload, 1) := by decide +kernel
theorem dX12_gainOf_11 : decode cX12_gainOf 11 = .ok (.if_icmp .ge 51, 3) := by decide +kernel
theorem dX12_gainOf_14 : decode cX12_gainOf 14 = .ok (.iload_n 2, 1) := by decide +kernel
theorem dX12_gainOf_15 : decode cX12_gainOf 15 = .ok (.aload_n 0, 1) := by decide +kernel
theorem dX12_gainOf_16 : decode cX12_gainOf 16 = .ok (.getfield 136, 3) := by decide +kernel
theorem dX12_gainOf_19 : decode cX12_gainOf 19 = .ok (.iload_n 3, 1) := by decide +kernel
theorem dX12_gainOf_20 : decode cX12_gainOf 20 = .ok (.iaload, 1) := by decide +kernel
theorem dX12_gainOf_21 : decode cX12_gainOf 21 = .ok (.aload_n 0, 1) := by decide +kernel
theorem dX12_gainOf_22 : decode cX12_gainOf 22 = .ok (.getfield 13, 3) := by decide +kernel
theorem dX12_gainOf_25 : decode cX12_gainOf 25 = .ok (.iconst 1, 1) := by decide +kernel
theorem dX12_gainOf_26 : decode cX12_gainOf 26 = .ok (.iaload, 1) := by decide +kernel
theorem dX12_gainOf_27 : decode cX12_gainOf 27 = .ok (.if_icmp .ne 7, 3) := by decide +kernel
theorem dX12_gainOf_30 : decode cX12_gainOf 30 = .ok (.iconst 0, 1) := by decide +kernel
theorem dX12_gainOf_31 : decode cX12_gainOf 31 = .ok (.goto 23, 3) := by decide +kernel
theorem dX12_gainOf_34 : decode cX12_gainOf 34 = .ok (.aload_n 0, 1) := by decide +kernel
theorem dX12_gainOf_35 : decode cX12_gainOf 35 = .ok (.getfield 133, 3) := by decide +kernel
theorem dX12_gainOf_38 : decode cX12_gainOf 38 = .ok (.bipush 6, 2) := by decide +kernel
theorem dX12_gainOf_40 : decode cX12_gainOf 40 = .ok (.iconst 3, 1) := by decide +kernel
theorem dX12_gainOf_41 : decode cX12_gainOf 41 = .ok (.iload_n 1, 1) := by decide +kernel
theorem dX12_gainOf_42 : decode cX12_gainOf 42 = .ok (.imul, 1) := by decide +kernel
theorem dX12_gainOf_43 : decode cX12_gainOf 43 = .ok (.iload_n 3, 1) := by decide +kernel
theorem dX12_gainOf_44 : decode cX12_gainOf 44 = .ok (.iadd, 1) := by decide +kernel
theorem dX12_gainOf_45 : decode cX12_gainOf 45 = .ok (.imul, 1) := by decide +kernel
theorem dX12_gainOf_46 : decode cX12_gainOf 46 = .ok (.aload_n 0, 1) := by decide +kernel
theorem dX12_gainOf_47 : decode cX12_gainOf 47 = .ok (.getfield 136, 3) := by decide +kernel
theorem dX12_gainOf_50 : decode cX12_gainOf 50 = .ok (.iload_n 3, 1) := by decide +kernel
theorem dX12_gainOf_51 : decode cX12_gainOf 51 = .ok (.iaload, 1) := by decide +kernel
theorem dX12_gainOf_52 : decode cX12_gainOf 52 = .ok (.iadd, 1) := by decide +kernel
theorem dX12_gainOf_53 : decode cX12_gainOf 53 = .ok (.iaload, 1) := by decide +kernel
theorem dX12_gainOf_54 : decode cX12_gainOf 54 = .ok (.iadd, 1) := by decide +kernel
theorem dX12_gainOf_55 : decode cX12_gainOf 55 = .ok (.istore_n 2, 1) := by decide +kernel
theorem dX12_gainOf_56 : decode cX12_gainOf 56 = .ok (.iinc 3 1, 3) := by decide +kernel
theorem dX12_gainOf_59 : decode cX12_gainOf 59 = .ok (.goto (-55), 3) := by decide +kernel
theorem dX12_gainOf_62 : decode cX12_gainOf 62 = .ok (.iload_n 2, 1) := by decide +kernel
theorem dX12_gainOf_63 : decode cX12_gainOf 63 = .ok (.ireturn, 1) := by decide +kernel
theorem dX12_gang_0 : decode cX12_gang 0 = .ok (.aload_n 0, 1) := by decide +kernel
theorem dX12_gang_1 : decode cX12_gang 1 = .ok (.iconst 0, 1) := by decide +kernel
theorem dX12_gang_2 : decode cX12_gang 2 = .ok (.putfield 163, 3) := by decide +kernel
theorem dX12_gang_5 : decode cX12_gang 5 = .ok (.aload_n 0, 1) := by decide +kernel
theorem dX12_gang_6 : decode cX12_gang 6 = .ok (.invokevirtual 473, 3) := by decide +kernel
theorem dX12_gang_9 : decode cX12_gang 9 = .ok (.bipush (-2), 2) := by decide +kernel
theorem dX12_gang_11 : decode cX12_gang 11 = .ok (.istore_n 1, 1) := by decide +kernel
theorem dX12_gang_12 : decode cX12_gang 12 = .ok (.iconst 0, 1) := by decide +kernel
theorem dX12_gang_13 : decode cX12_gang 13 = .ok (.istore_n 2, 1) := by decide +kernel
theorem dX12_gang_14 : decode cX12_gang 14 = .ok (.iload_n 2, 1) := by decide +kernel
theorem dX12_gang_15 : decode cX12_gang 15 = .ok (.iconst 1, 1) := by decide +kernel
theorem dX12_gang_16 : decode cX12_gang 16 = .ok (.aload_n 0, 1) := by decide +kernel
theorem dX12_gang_17 : decode cX12_gang 17 = .ok (.getfield 13, 3) := by decide +kernel
theorem dX12_gang_20 : decode cX12_gang 20 = .ok (.iconst 1, 1) := by decide +kernel
theorem dX12_gang_21 : decode cX12_gang 21 = .ok (.iaload, 1) := by decide +kernel
theorem dX12_gang_22 : decode cX12_gang 22 = .ok (.ishl, 1) := by decide +kernel
theorem dX12_gang_23 : decode cX12_gang 23 = .ok (.if_icmp .ge 36, 3) := by decide +kernel
theorem dX12_gang_26 : decode cX12_gang 26 = .ok (.iload_n 1, 1) := by decide +kernel
theorem dX12_gang_27 : decode cX12_gang 27 = .ok (.bipush (-2), 2) := by decide +kernel
theorem dX12_gang_29 : decode cX12_gang 29 = .ok (.if_icmp .eq 14, 3) := by decide +kernel
theorem dX12_gang_32 : decode cX12_gang 32 = .ok (.iload_n 2, 1) := by decide +kernel
theorem dX12_gang_33 : decode cX12_gang 33 = .ok (.invokestatic 485, 3) := by decide +kernel
theorem dX12_gang_36 : decode cX12_gang 36 = .ok (.iload_n 1, 1) := by decide +kernel
theorem dX12_gang_37 : decode cX12_gang 37 = .ok (.invokestatic 485, 3) := by decide +kernel
theorem dX12_gang_40 : decode cX12_gang 40 = .ok (.if_icmp .ge 13, 3) := by decide +kernel
theorem dX12_gang_43 : decode cX12_gang 43 = .ok (.aload_n 0, 1) := by decide +kernel
theorem dX12_gang_44 : decode cX12_gang 44 = .ok (.iload_n 2, 1) := by decide +kernel
theorem dX12_gang_45 : decode cX12_gang 45 = .ok (.invokevirtual 488, 3) := by decide +kernel
theorem dX12_gang_48 : decode cX12_gang 48 = .ok (.ifCond .eq 5, 3) := by decide +kernel
theorem dX12_gang_51 : decode cX12_gang 51 = .ok (.iload_n 2, 1) := by decide +kernel
theorem dX12_gang_52 : decode cX12_gang 52 = .ok (.istore_n 1, 1) := by decide +kernel
theorem dX12_gang_53 : decode cX12_gang 53 = .ok (.iinc 2 1, 3) := by decide +kernel
theorem dX12_gang_56 : decode cX12_gang 56 = .ok (.goto (-42), 3) := by decide +kernel
theorem dX12_gang_59 : decode cX12_gang 59 = .ok (.iload_n 1, 1) := by decide +kernel
theorem dX12_gang_60 : decode cX12_gang 60 = .ok (.ireturn, 1) := by decide +kernel
theorem dX12_goOn_0 : decode cX12_goOn 0 = .ok (.aload_n 0, 1) := by decide +kernel
theorem dX12_goOn_1 : decode cX12_goOn 1 = .ok (.getfield 217, 3) := by decide +kernel
theorem dX12_goOn_4 : decode cX12_goOn 4 = .ok (.ifCond .ne 7, 3) := by decide +kernel
theorem dX12_goOn_7 : decode cX12_goOn 7 = .ok (.aload_n 0, 1) := by decide +kernel
theorem dX12_goOn_8 : decode cX12_goOn 8 = .ok (.invokevirtual 223, 3) := by decide +kernel
theorem dX12_goOn_11 : decode cX12_goOn 11 = .ok (.return_, 1) := by decide +kernel
theorem dX12_goes_0 : decode cX12_goes 0 = .ok (.aload_n 0, 1) := by decide +kernel
theorem dX12_goes_1 : decode cX12_goes 1 = .ok (.iconst 0, 1) := by decide +kernel
theorem dX12_goes_2 : decode cX12_goes 2 = .ok (.putfield 348, 3) := by decide +kernel
theorem dX12_goes_5 : decode cX12_goes 5 = .ok (.aload_n 0, 1) := by decide +kernel
theorem dX12_goes_6 : decode cX12_goes 6 = .ok (.getfield 65, 3) := by decide +kernel
theorem dX12_goes_9 : decode cX12_goes 9 = .ok (.iload_n 1, 1) := by decide +kernel
theorem dX12_goes_10 : decode cX12_goes 10 = .ok (.iaload, 1) := by decide +kernel
theorem dX12_goes_11 : decode cX12_goes 11 = .ok (.istore_n 2, 1) := by decide +kernel
theorem dX12_goes_12 : decode cX12_goes 12 = .ok (.iload_n 2, 1) := by decide +kernel
theorem dX12_goes_13 : decode cX12_goes 13 = .ok (.aload_n 0, 1) := by decide +kernel
theorem dX12_goes_14 : decode cX12_goes 14 = .ok (.getfield 68, 3) := by decide +kernel
theorem dX12_goes_17 : decode cX12_goes 17 = .ok (.iload_n 1, 1) := by decide +kernel
theorem dX12_goes_18 : decode cX12_goes 18 = .ok (.iaload, 1) := by decide +kernel
theorem dX12_goes_19 : decode cX12_goes 19 = .ok (.if_icmp .ge 83, 3) := by decide +kernel
theorem dX12_goes_22 : decode cX12_goes 22 = .ok (.aload_n 0, 1) := by decide +kernel
theorem dX12_goes_23 : decode cX12_goes 23 = .ok (.getfield 71, 3) := by decide +kernel
theorem dX12_goes_26 : decode cX12_goes 26 = .ok (.iload_n 2, 1) := by decide +kernel
theorem dX12_goes_27 : decode cX12_goes 27 = .ok (.iaload, 1) := by decide +kernel
theorem dX12_goes_28 : decode cX12_goes 28 = .ok (.iconst 2, 1) := by decide +kernel
theorem dX12_goes_29 : decode cX12_goes 29 = .ok (.if_icmp .ne 18, 3) := by decide +kernel
theorem dX12_goes_32 : decode cX12_goes 32 = .ok (.aload_n 0, 1) := by decide +kernel
theorem dX12_goes_33 : decode cX12_goes 33 = .ok (.aload_n 0, 1) := by decide +kernel
theorem dX12_goes_34 : decode cX12_goes 34 = .ok (.getfield 74, 3) := by decide +kernel
theorem dX12_goes_37 : decode cX12_goes 37 = .ok (.iload_n 2, 1) := by decide +kernel
theorem dX12_goes_38 : decode cX12_goes 38 = .ok (.iaload, 1) := by decide +kernel
theorem dX12_goes_39 : decode cX12_goes 39 = .ok (.invokevirtual 365, 3) := by decide +kernel
theorem dX12_goes_42 : decode cX12_goes 42 = .ok (.ifCond .ne 54, 3) := by decide +kernel
theorem dX12_goes_45 : decode cX12_goes 45 = .ok (.iconst 0, 1) := by decide +kernel
theorem dX12_goes_46 : decode cX12_goes 46 = .ok (.ireturn, 1) := by decide +kernel
theorem dX12_goes_47 : decode cX12_goes 47 = .ok (.aload_n 0, 1) := by decide +kernel
theorem dX12_goes_48 : decode cX12_goes 48 = .ok (.getfield 121, 3) := by decide +kernel
theorem dX12_goes_51 : decode cX12_goes 51 = .ok (.aload_n 0, 1) := by decide +kernel
theorem dX12_goes_52 : decode cX12_goes 52 = .ok (.getfield 348, 3) := by decide +kernel
theorem dX12_goes_55 : decode cX12_goes 55 = .ok (.aload_n 0, 1) := by decide +kernel
theorem dX12_goes_56 : decode cX12_goes 56 = .ok (.getfield 71, 3) := by decide +kernel
theorem dX12_goes_59 : decode cX12_goes 59 = .ok (.iload_n 2, 1) := by decide +kernel
theorem dX12_goes_60 : decode cX12_goes 60 = .ok (.iaload, 1) := by decide +kernel
theorem dX12_goes_61 : decode cX12_goes 61 = .ok (.ifCond .ne 13, 3) := by decide +kernel
theorem dX12_goes_64 : decode cX12_goes 64 = .ok (.aload_n 0, 1) := by decide +kernel
theorem dX12_goes_65 : decode cX12_goes 65 = .ok (.getfield 74, 3) := by decide +kernel
theorem dX12_goes_68 : decode cX12_goes 68 = .ok (.iload_n 2, 1) := by decide +kernel
theorem dX12_goes_69 : decode cX12_goes 69 = .ok (.iaload, 1) := by decide +kernel
theorem dX12_goes_70 : decode cX12_goes 70 = .ok (.i2l, 1) := by decide +kernel
theorem dX12_goes_71 : decode cX12_goes 71 = .ok (.goto 14, 3) := by decide +kernel
theorem dX12_goes_74 : decode cX12_goes 74 = .ok (.aload_n 0, 1) := by decide +kernel
theorem dX12_goes_75 : decode cX12_goes 75 = .ok (.getfield 117, 3) := by decide +kernel
theorem dX12_goes_78 : decode cX12_goes 78 = .ok (.aload_n 0, 1) := by decide +kernel
theorem dX12_goes_79 : decode cX12_goes 79 = .ok (.getfield 74, 3) := by decide +kernel
theorem dX12_goes_82 : decode cX12_goes 82 = .ok (.iload_n 2, 1) := by decide +kernel
theorem dX12_goes_83 : decode cX12_goes 83 = .ok (.iaload, 1) := by decide +kernel
theorem dX12_goes_84 : decode cX12_goes 84 = .ok (.laload, 1) := by decide +kernel
theorem dX12_goes_85 : decode cX12_goes 85 = .ok (.lastore, 1) := by decide +kernel
theorem dX12_goes_86 : decode cX12_goes 86 = .ok (.aload_n 0, 1) := by decide +kernel
theorem dX12_goes_87 : decode cX12_goes 87 = .ok (.dup, 1) := by decide +kernel
theorem dX12_goes_88 : decode cX12_goes 88 = .ok (.getfield 348, 3) := by decide +kernel
theorem dX12_goes_91 : decode cX12_goes 91 = .ok (.iconst 1, 1) := by decide +kernel
theorem dX12_goes_92 : decode cX12_goes 92 = .ok (.iadd, 1) := by decide +kernel
theorem dX12_goes_93 : decode cX12_goes 93 = .ok (.putfield 348, 3) := by decide +kernel
theorem dX12_goes_96 : decode cX12_goes 96 = .ok (.iinc 2 1, 3) := by decide +kernel
theorem dX12_goes_99 : decode cX12_goes 99 = .ok (.goto (-87), 3) := by decide +kernel
theorem dX12_goes_102 : decode cX12_goes 102 = .ok (.iconst 1, 1) := by decide +kernel
theorem dX12_goes_103 : decode cX12_goes 103 = .ok (.ireturn, 1) := by decide +kernel
theorem dX12_goesNext_0 : decode cX12_goesNext 0 = .ok (.aload_n 0, 1) := by decide +kernel
theorem dX12_goesNext_1 : decode cX12_goesNext 1 = .ok (.getfield 50, 3) := by decide +kernel
theorem dX12_goesNext_4 : decode cX12_goesNext 4 = .ok (.iload_n 1, 1) := by decide +kernel
theorem dX12_goesNext_5 : decode cX12_goesNext 5 = .ok (.iaload, 1) := by decide +kernel
theorem dX12_goesNext_6 : decode cX12_goesNext 6 = .ok (.iconst 1, 1) := by decide +kernel
theorem dX12_goesNext_7 : decode cX12_goesNext 7 = .ok (.isub, 1) := by decide +kernel
theorem dX12_goesNext_8 : decode cX12_goesNext 8 = .ok (.istore_n 2, 1) := by decide +kernel
theorem dX12_goesNext_9 : decode cX12_goesNext 9 = .ok (.iload_n 2, 1) := by decide +kernel
theorem dX12_goesNext_10 : decode cX12_goesNext 10 = .ok (.ifCond .lt 43, 3) := by decide +kernel
theorem dX12_goesNext_13 : decode cX12_goesNext 13 = .ok (.aload_n 0, 1) := by decide +kernel
theorem dX12_goesNext_14 : decode cX12_goesNext 14 = .ok (.getfield 136, 3) := by decide +kernel
theorem dX12_goesNext_17 : decode cX12_goesNext 17 = .ok (.iload_n 2, 1) := by decide +kernel
theorem dX12_goesNext_18 : decode cX12_goesNext 18 = .ok (.iaload, 1) := by decide +kernel
theorem dX12_goesNext_19 : decode cX12_goesNext 19 = .ok (.aload_n 0, 1) := by decide +kernel
theorem dX12_goesNext_20 : decode cX12_goesNext 20 = .ok (.getfield 13, 3) := by decide +kernel
theorem dX12_goesNext_23 : decode cX12_goesNext 23 = .ok (.iconst 1, 1) := by decide +kernel
theorem dX12_goesNext_24 : decode cX12_goesNext 24 = .ok (.iaload, 1) := by decide +kernel
theorem dX12_goesNext_25 : decode cX12_goesNext 25 = .ok (.if_icmp .ge 15, 3) := by decide +kernel
theorem dX12_goesNext_28 : decode cX12_goesNext 28 = .ok (.aload_n 0, 1) := by decide +kernel
theorem dX12_goesNext_29 : decode cX12_goesNext 29 = .ok (.getfield 136, 3) := by decide +kernel
theorem dX12_goesNext_32 : decode cX12_goesNext 32 = .ok (.iload_n 2, 1) := by decide +kernel
theorem dX12_goesNext_33 : decode cX12_goesNext 33 = .ok (.dup2, 1) := by decide +kernel
theorem dX12_goesNext_34 : decode cX12_goesNext 34 = .ok (.iaload, 1) := by decide +kernel
theorem dX12_goesNext_35 : decode cX12_goesNext 35 = .ok (.iconst 1, 1) := by decide +kernel
theorem dX12_goesNext_36 : decode cX12_goesNext 36 = .ok (.iadd, 1) := by decide +kernel
theorem dX12_goesNext_37 : decode cX12_goesNext 37 = .ok (.iastore, 1) := by decide +kernel
theorem dX12_goesNext_38 : decode cX12_goesNext 38 = .ok (.iconst 1, 1) := by decide +kernel
theorem dX12_goesNext_39 : decode cX12_goesNext 39 = .ok (.ireturn, 1) := by decide +kernel
theorem dX12_goesNext_40 : decode cX12_goesNext 40 = .ok (.aload_n 0, 1) := by decide +kernel
theorem dX12_goesNext_41 : decode cX12_goesNext 41 = .ok (.getfield 136, 3) := by decide +kernel
theorem dX12_goesNext_44 : decode cX12_goesNext 44 = .ok (.iload_n 2, 1) := by decide +kernel
theorem dX12_goesNext_45 : decode cX12_goesNext 45 = .ok (.iconst 0, 1) := by decide +kernel
theorem dX12_goesNext_46 : decode cX12_goesNext 46 = .ok (.iastore, 1) := by decide +kernel
theorem dX12_goesNext_47 : decode cX12_goesNext 47 = .ok (.iinc 2 (-1), 3) := by decide +kernel
theorem dX12_goesNext_50 : decode cX12_goesNext 50 = .ok (.goto (-41), 3) := by decide +kernel
theorem dX12_goesNext_53 : decode cX12_goesNext 53 = .ok (.iconst 0, 1) := by decide +kernel
theorem dX12_goesNext_54 : decode cX12_goesNext 54 = .ok (.ireturn, 1) := by decide +kernel
theorem dX12_half_0 : decode cX12_half 0 = .ok (.aload_n 0, 1) := by decide +kernel
theorem dX12_half_1 : decode cX12_half 1 = .ok (.arraylength, 1) := by decide +kernel
theorem dX12_half_2 : decode cX12_half 2 = .ok (.iconst 2, 1) := by decide +kernel
theorem dX12_half_3 : decode cX12_half 3 = .ok (.idiv, 1) := by decide +kernel
theorem dX12_half_4 : decode cX12_half 4 = .ok (.istore_n 1, 1) := by decide +kernel
theorem dX12_half_5 : decode cX12_half 5 = .ok (.iconst 0, 1) := by decide +kernel
theorem dX12_half_6 : decode cX12_half 6 = .ok (.istore_n 2, 1) := by decide +kernel
theorem dX12_half_7 : decode cX12_half 7 = .ok (.iload_n 2, 1) := by decide +kernel
theorem dX12_half_8 : decode cX12_half 8 = .ok (.iload_n 1, 1) := by decide +kernel
theorem dX12_half_9 : decode cX12_half 9 = .ok (.if_icmp .ge 17, 3) := by decide +kernel
theorem dX12_half_12 : decode cX12_half 12 = .ok (.aload_n 0, 1) := by decide +kernel
theorem dX12_half_13 : decode cX12_half 13 = .ok (.iload_n 2, 1) := by decide +kernel
theorem dX12_half_14 : decode cX12_half 14 = .ok (.aload_n 0, 1) := by decide +kernel
theorem dX12_half_15 : decode cX12_half 15 = .ok (.iload_n 1, 1) := by decide +kernel
theorem dX12_half_16 : decode cX12_half 16 = .ok (.iload_n 2, 1) := by decide +kernel
theorem dX12_half_17 : decode cX12_half 17 = .ok (.iadd, 1) := by decide +kernel
theorem dX12_half_18 : decode cX12_half 18 = .ok (.iaload, 1) := by decide +kernel
theorem dX12_half_19 : decode cX12_half 19 = .ok (.iastore, 1) := by decide +kernel
theorem dX12_half_20 : decode cX12_half 20 = .ok (.iinc 2 1, 3) := by decide +kernel
theorem dX12_half_23 : decode cX12_half 23 = .ok (.goto (-16), 3) := by decide +kernel
theorem dX12_half_26 : decode cX12_half 26 = .ok (.return_, 1) := by decide +kernel
theorem dX12_hasOf_0 : decode cX12_hasOf 0 = .ok (.aload_n 0, 1) := by decide +kernel
theorem dX12_hasOf_1 : decode cX12_hasOf 1 = .ok (.getfield 96, 3) := by decide +kernel
theorem dX12_hasOf_4 : decode cX12_hasOf 4 = .ok (.iload_n 1, 1) := by decide +kernel
theorem dX12_hasOf_5 : decode cX12_hasOf 5 = .ok (.iaload, 1) := by decide +kernel
theorem dX12_hasOf_6 : decode cX12_hasOf 6 = .ok (.istore_n 3, 1) := by decide +kernel
theorem dX12_hasOf_7 : decode cX12_hasOf 7 = .ok (.iconst 0, 1) := by decide +kernel
theorem dX12_hasOf_8 : decode cX12_hasOf 8 = .ok (.istore 4, 2) := by decide +kernel
theorem dX12_hasOf_10 : decode cX12_hasOf 10 = .ok (.iconst 0, 1) := by decide +kernel
theorem dX12_hasOf_11 : decode cX12_hasOf 11 = .ok (.istore 5, 2) := by decide +kernel
theorem dX12_hasOf_13 : decode cX12_hasOf 13 = .ok (.iload 5, 2) := by decide +kernel
theorem dX12_hasOf_15 : decode cX12_hasOf 15 = .ok (.aload_n 0, 1) := by decide +kernel
theorem dX12_hasOf_16 : decode cX12_hasOf 16 = .ok (.getfield 13, 3) := by decide +kernel
theorem dX12_hasOf_19 : decode cX12_hasOf 19 = .ok (.iconst 1, 1) := by decide +kernel
theorem dX12_hasOf_20 : decode cX12_hasOf 20 = .ok (.iaload, 1) := by decide +kernel
theorem dX12_hasOf_21 : decode cX12_hasOf 21 = .ok (.if_icmp .ge 61, 3) := by decide +kernel
theorem dX12_hasOf_24 : decode cX12_hasOf 24 = .ok (.aload_n 0, 1) := by decide +kernel
theorem dX12_hasOf_25 : decode cX12_hasOf 25 = .ok (.getfield 38, 3) := by decide +kernel
theorem dX12_hasOf_28 : decode cX12_hasOf 28 = .ok (.iload 5, 2) := by decide +kernel
theorem dX12_hasOf_30 : decode cX12_hasOf 30 = .ok (.iaload, 1) := by decide +kernel
theorem dX12_hasOf_31 : decode cX12_hasOf 31 = .ok (.iload_n 1, 1) := by decide +kernel
theorem dX12_hasOf_32 : decode cX12_hasOf 32 = .ok (.if_icmp .eq 6, 3) := by decide +kernel
theorem dX12_hasOf_35 : decode cX12_hasOf 35 = .ok (.goto 41, 3) := by decide +kernel
theorem dX12_hasOf_38 : decode cX12_hasOf 38 = .ok (.iconst 0, 1) := by decide +kernel
theorem dX12_hasOf_39 : decode cX12_hasOf 39 = .ok (.iload_n 3, 1) := by decide +kernel
theorem dX12_hasOf_40 : decode cX12_hasOf 40 = .ok (.aload_n 0, 1) := by decide +kernel
theorem dX12_hasOf_41 : decode cX12_hasOf 41 = .ok (.getfield 102, 3) := by decide +kernel
theorem dX12_hasOf_44 : decode cX12_hasOf 44 = .ok (.iload 5, 2) := by decide +kernel
theorem dX12_hasOf_46 : decode cX12_hasOf 46 = .ok (.iaload, 1) := by decide +kernel
theorem dX12_hasOf_47 : decode cX12_hasOf 47 = .ok (.invokestatic 403, 3) := by decide +kernel
theorem dX12_hasOf_50 : decode cX12_hasOf 50 = .ok (.invokestatic 385, 3) := by decide +kernel
theorem dX12_hasOf_53 : decode cX12_hasOf 53 = .ok (.istore 6, 2) := by decide +kernel
theorem dX12_hasOf_55 : decode cX12_hasOf 55 = .ok (.iload_n 3, 1) := by decide +kernel
theorem dX12_hasOf_56 : decode cX12_hasOf 56 = .ok (.iload 6, 2) := by decide +kernel
theorem dX12_hasOf_58 : decode cX12_hasOf 58 = .ok (.isub, 1) := by decide +kernel
theorem dX12_hasOf_59 : decode cX12_hasOf 59 = .ok (.istore_n 3, 1) := by decide +kernel
theorem dX12_hasOf_60 : decode cX12_hasOf 60 = .ok (.iload 4, 2) := by decide +kernel
theorem dX12_hasOf_62 : decode cX12_hasOf 62 = .ok (.iload 6, 2) := by decide +kernel
theorem dX12_hasOf_64 : decode cX12_hasOf 64 = .ok (.iadd, 1) := by decide +kernel
theorem dX12_hasOf_65 : decode cX12_hasOf 65 = .ok (.istore 4, 2) := by decide +kernel
theorem dX12_hasOf_67 : decode cX12_hasOf 67 = .ok (.iload 5, 2) := by decide +kernel
theorem dX12_hasOf_69 : decode cX12_hasOf 69 = .ok (.iload_n 2, 1) := by decide +kernel
theorem dX12_hasOf_70 : decode cX12_hasOf 70 = .ok (.if_icmp .ne 6, 3) := by decide +kernel
theorem dX12_hasOf_73 : decode cX12_hasOf 73 = .ok (.iload 6, 2) := by decide +kernel
theorem dX12_hasOf_75 : decode cX12_hasOf 75 = .ok (.ireturn, 1) := by decide +kernel
theorem dX12_hasOf_76 : decode cX12_hasOf 76 = .ok (.iinc 5 1, 3) := by decide +kernel
theorem dX12_hasOf_79 : decode cX12_hasOf 79 = .ok (.goto (-66), 3) := by decide +kernel
theorem dX12_hasOf_82 : decode cX12_hasOf 82 = .ok (.iload 4, 2) := by decide +kernel
theorem dX12_hasOf_84 : decode cX12_hasOf 84 = .ok (.ireturn, 1) := by decide +kernel
theorem dX12_here_0 : decode cX12_here 0 = .ok (.aload_n 0, 1) := by decide +kernel
theorem dX12_here_1 : decode cX12_here 1 = .ok (.getfield 169, 3) := by decide +kernel
theorem dX12_here_4 : decode cX12_here 4 = .ok (.aload_n 0, 1) := by decide +kernel
theorem dX12_here_5 : decode cX12_here 5 = .ok (.getfield 172, 3) := by decide +kernel
theorem dX12_here_8 : decode cX12_here 8 = .ok (.if_icmp .ge 15, 3) := by decide +kernel
theorem dX12_here_11 : decode cX12_here 11 = .ok (.aload_n 0, 1) := by decide +kernel
theorem dX12_here_12 : decode cX12_here 12 = .ok (.getfield 7, 3) := by decide +kernel
theorem dX12_here_15 : decode cX12_here 15 = .ok (.aload_n 0, 1) := by decide +kernel
theorem dX12_here_16 : decode cX12_here 16 = .ok (.getfield 169, 3) := by decide +kernel
theorem dX12_here_19 : decode cX12_here 19 = .ok (.iaload, 1) := by decide +kernel
theorem dX12_here_20 : decode cX12_here 20 = .ok (.goto 4, 3) := by decide +kernel
theorem dX12_here_23 : decode cX12_here 23 = .ok (.iconst (-1), 1) := by decide +kernel
theorem dX12_here_24 : decode cX12_here 24 = .ok (.ireturn, 1) := by decide +kernel
theorem dX12_highOf_0 : decode cX12_highOf 0 = .ok (.iconst 0, 1) := by decide +kernel
theorem dX12_highOf_1 : decode cX12_highOf 1 = .ok (.istore_n 2, 1) := by decide +kernel
theorem dX12_highOf_2 : decode cX12_highOf 2 = .ok (.iconst 0, 1) := by decide +kernel
theorem dX12_highOf_3 : decode cX12_highOf 3 = .ok (.istore_n 3, 1) := by decide +kernel
theorem dX12_highOf_4 : decode cX12_highOf 4 = .ok (.iload_n 3, 1) := by decide +kernel
theorem dX12_highOf_5 : decode cX12_highOf 5 = .ok (.aload_n 0, 1) := by decide +kernel
theorem dX12_highOf_6 : decode cX12_highOf 6 = .ok (.getfield 53, 3) := by decide +kernel
theorem dX12_highOf_9 : decode cX12_highOf 9 = .ok (.iload_n 1, 1) := by decide +kernel
theorem dX12_highOf_10 : decode cX12_highOf 10 = .ok (.iaload, 1) := by decide +kernel
theorem dX12_highOf_11 : decode cX12_highOf 11 = .ok (.if_icmp .ge 25, 3) := by decide +kernel
theorem dX12_highOf_14 : decode cX12_highOf 14 = .ok (.iload_n 2, 1) := by decide +kernel
theorem dX12_highOf_15 : decode cX12_highOf 15 = .ok (.aload_n 0, 1) := by decide +kernel
theorem dX12_highOf_16 : decode cX12_highOf 16 = .ok (.getfield 56, 3) := by decide +kernel
theorem dX12_highOf_19 : decode cX12_highOf 19 = .ok (.bipush 8, 2) := by decide +kernel
theorem dX12_highOf_21 : decode cX12_highOf 21 = .ok (.iload_n 1, 1) := by decide +kernel
theorem dX12_highOf_22 : decode cX12_highOf 22 = .ok (.imul, 1) := by decide +kernel
theorem dX12_highOf_23 : decode cX12_highOf 23 = .ok (.iload_n 3, 1) := by decide +kernel
theorem dX12_highOf_24 : decode cX12_highOf 24 = .ok (.iadd, 1) := by decide +kernel
theorem dX12_highOf_25 : decode cX12_highOf 25 = .ok (.iaload, 1) := by decide +kernel
theorem dX12_highOf_26 : decode cX12_highOf 26 = .ok (.invokestatic 385, 3) := by decide +kernel
theorem dX12_highOf_29 : decode cX12_highOf 29 = .ok (.istore_n 2, 1) := by decide +kernel
theorem dX12_highOf_30 : decode cX12_highOf 30 = .ok (.iinc 3 1, 3) := by decide +kernel
theorem dX12_highOf_33 : decode cX12_highOf 33 = .ok (.goto (-29), 3) := by decide +kernel
theorem dX12_highOf_36 : decode cX12_highOf 36 = .ok (.iload_n 2, 1) := by decide +kernel
theorem dX12_highOf_37 : decode cX12_highOf 37 = .ok (.ireturn, 1) := by decide +kernel
theorem dX12_hum_0 : decode cX12_hum 0 = .ok (.aload_n 0, 1) := by decide +kernel
theorem dX12_hum_1 : decode cX12_hum 1 = .ok (.iconst 0, 1) := by decide +kernel
theorem dX12_hum_2 : decode cX12_hum 2 = .ok (.putfield 163, 3) := by decide +kernel
theorem dX12_hum_5 : decode cX12_hum 5 = .ok (.iload_n 1, 1) := by decide +kernel
theorem dX12_hum_6 : decode cX12_hum 6 = .ok (.iconst 1, 1) := by decide +kernel
theorem dX12_hum_7 : decode cX12_hum 7 = .ok (.if_icmp .lt 18, 3) := by decide +kernel
theorem dX12_hum_10 : decode cX12_hum 10 = .ok (.iload_n 1, 1) := by decide +kernel
theorem dX12_hum_11 : decode cX12_hum 11 = .ok (.bipush 40, 2) := by decide +kernel
theorem dX12_hum_13 : decode cX12_hum 13 = .ok (.if_icmp .gt 12, 3) := by decide +kernel
theorem dX12_hum_16 : decode cX12_hum 16 = .ok (.aload_n 0, 1) := by decide +kernel
theorem dX12_hum_17 : decode cX12_hum 17 = .ok (.getfield 325, 3) := by decide +kernel
theorem dX12_hum_20 : decode cX12_hum 20 = .ok (.bipush 24, 2) := by decide +kernel
theorem dX12_hum_22 : decode cX12_hum 22 = .ok (.if_icmp .ne 5, 3) := by decide +kernel
theorem dX12_hum_25 : decode cX12_hum 25 = .ok (.iconst (-1), 1) := by decide +kernel
theorem dX12_hum_26 : decode cX12_hum 26 = .ok (.ireturn, 1) := by decide +kernel
theorem dX12_hum_27 : decode cX12_hum 27 = .ok (.aload_n 0, 1) := by decide +kernel
theorem dX12_hum_28 : decode cX12_hum 28 = .ok (.getfield 145, 3) := by decide +kernel
theorem dX12_hum_31 : decode cX12_hum 31 = .ok (.aload_n 0, 1) := by decide +kernel
theorem dX12_hum_32 : decode cX12_hum 32 = .ok (.getfield 325, 3) := by decide +kernel
theorem dX12_hum_35 : decode cX12_hum 35 = .ok (.iload_n 1, 1) := by decide +kernel
theorem dX12_hum_36 : decode cX12_hum 36 = .ok (.iastore, 1) := by decide +kernel
theorem dX12_hum_37 : decode cX12_hum 37 = .ok (.aload_n 0, 1) := by decide +kernel
theorem dX12_hum_38 : decode cX12_hum 38 = .ok (.getfield 148, 3) := by decide +kernel
theorem dX12_hum_41 : decode cX12_hum 41 = .ok (.aload_n 0, 1) := by decide +kernel
theorem dX12_hum_42 : decode cX12_hum 42 = .ok (.getfield 325, 3) := by decide +kernel
theorem dX12_hum_45 : decode cX12_hum 45 = .ok (.iconst (-1), 1) := by decide +kernel
theorem dX12_hum_46 : decode cX12_hum 46 = .ok (.iastore, 1) := by decide +kernel
theorem dX12_hum_47 : decode cX12_hum 47 = .ok (.aload_n 0, 1) := by decide +kernel
theorem dX12_hum_48 : decode cX12_hum 48 = .ok (.dup, 1) := by decide +kernel
theorem dX12_hum_49 : decode cX12_hum 49 = .ok (.getfield 325, 3) := by decide +kernel
theorem dX12_hum_52 : decode cX12_hum 52 = .ok (.iconst 1, 1) := by decide +kernel
theorem dX12_hum_53 : decode cX12_hum 53 = .ok (.iadd, 1) := by decide +kernel
theorem dX12_hum_54 : decode cX12_hum 54 = .ok (.putfield 325, 3) := by decide +kernel
theorem dX12_hum_57 : decode cX12_hum 57 = .ok (.aload_n 0, 1) := by decide +kernel
theorem dX12_hum_58 : decode cX12_hum 58 = .ok (.getfield 325, 3) := by decide +kernel
theorem dX12_hum_61 : decode cX12_hum 61 = .ok (.iconst 1, 1) := by decide +kernel
theorem dX12_hum_62 : decode cX12_hum 62 = .ok (.isub, 1) := by decide +kernel
theorem dX12_hum_63 : decode cX12_hum 63 = .ok (.ireturn, 1) := by decide +kernel
theorem dX12_is_0 : decode cX12_is 0 = .ok (.iload_n 0, 1) := by decide +kernel
theorem dX12_is_1 : decode cX12_is 1 = .ok (.ifCond .eq 7, 3) := by decide +kernel
theorem dX12_is_4 : decode cX12_is 4 = .ok (.lconst 1, 1) := by decide +kernel
theorem dX12_is_5 : decode cX12_is 5 = .ok (.goto 4, 3) := by decide +kernel
theorem dX12_is_8 : decode cX12_is 8 = .ok (.lconst 0, 1) := by decide +kernel
theorem dX12_is_9 : decode cX12_is 9 = .ok (.lreturn, 1) := by decide +kernel
theorem dX12_isBest_0 : decode cX12_isBest 0 = .ok (.aload_n 0, 1) := by decide +kernel
theorem dX12_isBest_1 : decode cX12_isBest 1 = .ok (.iload_n 1, 1) := by decide +kernel
theorem dX12_isBest_2 : decode cX12_isBest 2 = .ok (.invokevirtual 433, 3) := by decide +kernel
theorem dX12_isBest_5 : decode cX12_isBest 5 = .ok (.istore_n 3, 1) := by decide +kernel
theorem dX12_isBest_6 : decode cX12_isBest 6 = .ok (.iload_n 3, 1) := by decide +kernel
theorem dX12_isBest_7 : decode cX12_isBest 7 = .ok (.iload_n 2, 1) := by decide +kernel
theorem dX12_isBest_8 : decode cX12_isBest 8 = .ok (.if_icmp .le 5, 3) := by decide +kernel
theorem dX12_isBest_11 : decode cX12_isBest 11 = .ok (.iconst 0, 1) := by decide +kernel
theorem dX12_isBest_12 : decode cX12_isBest 12 = .ok (.ireturn, 1) := by decide +kernel
theorem dX12_isBest_13 : decode cX12_isBest 13 = .ok (.sipush 1000, 3) := by decide +kernel
theorem dX12_isBest_16 : decode cX12_isBest 16 = .ok (.iload_n 1, 1) := by decide +kernel
theorem dX12_isBest_17 : decode cX12_isBest 17 = .ok (.iconst 1, 1) := by decide +kernel
theorem dX12_isBest_18 : decode cX12_isBest 18 = .ok (.iadd, 1) := by decide +kernel
theorem dX12_isBest_19 : decode cX12_isBest 19 = .ok (.imul, 1) := by decide +kernel
theorem dX12_isBest_20 : decode cX12_isBest 20 = .ok (.iload_n 2, 1) := by decide +kernel
theorem dX12_isBest_21 : decode cX12_isBest 21 = .ok (.iadd, 1) := by decide +kernel
theorem dX12_isBest_22 : decode cX12_isBest 22 = .ok (.iload_n 3, 1) := by decide +kernel
theorem dX12_isBest_23 : decode cX12_isBest 23 = .ok (.isub, 1) := by decide +kernel
theorem dX12_isBest_24 : decode cX12_isBest 24 = .ok (.istore 4, 2) := by decide +kernel
theorem dX12_isBest_26 : decode cX12_isBest 26 = .ok (.sipush 1000, 3) := by decide +kernel
theorem dX12_isBest_29 : decode cX12_isBest 29 = .ok (.iload_n 1, 1) := by decide +kernel
theorem dX12_isBest_30 : decode cX12_isBest 30 = .ok (.imul, 1) := by decide +kernel
theorem dX12_isBest_31 : decode cX12_isBest 31 = .ok (.iload_n 2, 1) := by decide +kernel
theorem dX12_isBest_32 : decode cX12_isBest 32 = .ok (.iadd, 1) := by decide +kernel
theorem dX12_isBest_33 : decode cX12_isBest 33 = .ok (.istore 5, 2) := by decide +kernel
theorem dX12_isBest_35 : decode cX12_isBest 35 = .ok (.aload_n 0, 1) := by decide +kernel
theorem dX12_isBest_36 : decode cX12_isBest 36 = .ok (.iload_n 1, 1) := by decide +kernel
theorem dX12_isBest_37 : decode cX12_isBest 37 = .ok (.invokevirtual 436, 3) := by decide +kernel
theorem dX12_isBest_40 : decode cX12_isBest 40 = .ok (.aload_n 0, 1) := by decide +kernel
theorem dX12_isBest_41 : decode cX12_isBest 41 = .ok (.getfield 124, 3) := by decide +kernel
theorem dX12_isBest_44 : decode cX12_isBest 44 = .ok (.iload 4, 2) := by decide +kernel
theorem dX12_isBest_46 : decode cX12_isBest 46 = .ok (.iaload, 1) := by decide +kernel
theorem dX12_isBest_47 : decode cX12_isBest 47 = .ok (.iadd, 1) := by decide +kernel
theorem dX12_isBest_48 : decode cX12_isBest 48 = .ok (.aload_n 0, 1) := by decide +kernel
theorem dX12_isBest_49 : decode cX12_isBest 49 = .ok (.getfield 124, 3) := by decide +kernel
theorem dX12_isBest_52 : decode cX12_isBest 52 = .ok (.iload 5, 2) := by decide +kernel
theorem dX12_isBest_54 : decode cX12_isBest 54 = .ok (.iaload, 1) := by decide +kernel
theorem dX12_isBest_55 : decode cX12_isBest 55 = .ok (.if_icmp .ne 26, 3) := by decide +kernel
theorem dX12_isBest_58 : decode cX12_isBest 58 = .ok (.iload_n 3, 1) := by decide +kernel
theorem dX12_isBest_59 : decode cX12_isBest 59 = .ok (.aload_n 0, 1) := by decide +kernel
theorem dX12_isBest_60 : decode cX12_isBest 60 = .ok (.getfield 127, 3) := by decide +kernel
theorem dX12_isBest_63 : decode cX12_isBest 63 = .ok (.iload 4, 2) := by decide +kernel
theorem dX12_isBest_65 : decode cX12_isBest 65 = .ok (.iaload, 1) := by decide +kernel
theorem dX12_isBest_66 : decode cX12_isBest 66 = .ok (.iadd, 1) := by decide +kernel
theorem dX12_isBest_67 : decode cX12_isBest 67 = .ok (.aload_n 0, 1) := by decide +kernel
theorem dX12_isBest_68 : decode cX12_isBest 68 = .ok (.getfield 127, 3) := by decide +kernel
theorem dX12_isBest_71 : decode cX12_isBest 71 = .ok (.iload 5, 2) := by decide +kernel
theorem dX12_isBest_73 : decode cX12_isBest 73 = .ok (.iaload, 1) := by decide +kernel
theorem dX12_isBest_74 : decode cX12_isBest 74 = .ok (.if_icmp .ne 7, 3) := by decide +kernel
theorem dX12_isBest_77 : decode cX12_isBest 77 = .ok (.iconst 1, 1) := by decide +kernel
theorem dX12_isBest_78 : decode cX12_isBest 78 = .ok (.goto 4, 3) := by decide +kernel
theorem dX12_isBest_81 : decode cX12_isBest 81 = .ok (.iconst 0, 1) := by decide +kernel
theorem dX12_isBest_82 : decode cX12_isBest 82 = .ok (.ireturn, 1) := by decide +kernel
theorem dX12_isCracked_0 : decode cX12_isCracked 0 = .ok (.aload_n 0, 1) := by decide +kernel
theorem dX12_isCracked_1 : decode cX12_isCracked 1 = .ok (.getfield 93, 3) := by decide +kernel
theorem dX12_isCracked_4 : decode cX12_isCracked 4 = .ok (.iconst 0, 1) := by decide +kernel
theorem dX12_isCracked_5 : decode cX12_isCracked 5 = .ok (.iaload, 1) := by decide +kernel
theorem dX12_isCracked_6 : decode cX12_isCracked 6 = .ok (.iload_n 1, 1) := by decide +kernel
theorem dX12_isCracked_7 : decode cX12_isCracked 7 = .ok (.ishr, 1) := by decide +kernel
theorem dX12_isCracked_8 : decode cX12_isCracked 8 = .ok (.iconst 1, 1) := by decide +kernel
theorem dX12_isCracked_9 : decode cX12_isCracked 9 = .ok (.iand, 1) := by decide +kernel
theorem dX12_isCracked_10 : decode cX12_isCracked 10 = .ok (.iconst 1, 1) := by decide +kernel
theorem dX12_isCracked_11 : decode cX12_isCracked 11 = .ok (.if_icmp .ne 7, 3) := by decide +kernel
theorem dX12_isCracked_14 : decode cX12_isCracked 14 = .ok (.iconst 1, 1) := by decide +kernel
theorem dX12_isCracked_15 : decode cX12_isCracked 15 = .ok (.goto 4, 3) := by decide +kernel
theorem dX12_isCracked_18 : decode cX12_isCracked 18 = .ok (.iconst 0, 1) := by decide +kernel
theorem dX12_isCracked_19 : decode cX12_isCracked 19 = .ok (.ireturn, 1) := by decide +kernel
theorem dX12_isCrowns_0 : decode cX12_isCrowns 0 = .ok (.iload_n 0, 1) := by decide +kernel
theorem dX12_isCrowns_1 : decode cX12_isCrowns 1 = .ok (.ifCond .lt 14, 3) := by decide +kernel
theorem dX12_isCrowns_4 : decode cX12_isCrowns 4 = .ok (.iload_n 0, 1) := by decide +kernel
theorem dX12_isCrowns_5 : decode cX12_isCrowns 5 = .ok (.sipush 1000, 3) := by decide +kernel
theorem dX12_isCrowns_8 : decode cX12_isCrowns 8 = .ok (.if_icmp .ge 7, 3) := by decide +kernel
theorem dX12_isCrowns_11 : decode cX12_isCrowns 11 = .ok (.iconst 1, 1) := by decide +kernel
theorem dX12_isCrowns_12 : decode cX12_isCrowns 12 = .ok (.goto 4, 3) := by decide +kernel
theorem dX12_isCrowns_15 : decode cX12_isCrowns 15 = .ok (.iconst 0, 1) := by decide +kernel
theorem dX12_isCrowns_16 : decode cX12_isCrowns 16 = .ok (.ireturn, 1) := by decide +kernel
theorem dX12_isDigit_0 : decode cX12_isDigit 0 = .ok (.iload_n 0, 1) := by decide +kernel
theorem dX12_isDigit_1 : decode cX12_isDigit 1 = .ok (.bipush 48, 2) := by decide +kernel
theorem dX12_isDigit_3 : decode cX12_isDigit 3 = .ok (.if_icmp .lt 13, 3) := by decide +kernel
theorem dX12_isDigit_6 : decode cX12_isDigit 6 = .ok (.iload_n 0, 1) := by decide +kernel
theorem dX12_isDigit_7 : decode cX12_isDigit 7 = .ok (.bipush 57, 2) := by decide +kernel
theorem dX12_isDigit_9 : decode cX12_isDigit 9 = .ok (.if_icmp .gt 7, 3) := by decide +kernel
theorem dX12_isDigit_12 : decode cX12_isDigit 12 = .ok (.iconst 1, 1) := by decide +kernel
theorem dX12_isDigit_13 : decode cX12_isDigit 13 = .ok (.goto 4, 3) := by decide +kernel
theorem dX12_isDigit_16 : decode cX12_isDigit 16 = .ok (.iconst 0, 1) := by decide +kernel
theorem dX12_isDigit_17 : decode cX12_isDigit 17 = .ok (.ireturn, 1) := by decide +kernel
theorem dX12_isFull_0 : decode cX12_isFull 0 = .ok (.iload_n 1, 1) := by decide +kernel
theorem dX12_isFull_1 : decode cX12_isFull 1 = .ok (.ifCond .ne 12, 3) := by decide +kernel
theorem dX12_isFull_4 : decode cX12_isFull 4 = .ok (.aload_n 0, 1) := by decide +kernel
theorem dX12_isFull_5 : decode cX12_isFull 5 = .ok (.iconst 0, 1) := by decide +kernel
theorem dX12_isFull_6 : decode cX12_isFull 6 = .ok (.invokevirtual 233, 3) := by decide +kernel
theorem dX12_isFull_9 : decode cX12_isFull 9 = .ok (.iconst 3, 1) := by decide +kernel
theorem dX12_isFull_10 : decode cX12_isFull 10 = .ok (.if_icmp .eq 46, 3) := by decide +kernel
theorem dX12_isFull_13 : decode cX12_isFull 13 = .ok (.iload_n 1, 1) := by decide +kernel
theorem dX12_isFull_14 : decode cX12_isFull 14 = .ok (.iconst 1, 1) := by decide +kernel
theorem dX12_isFull_15 : decode cX12_isFull 15 = .ok (.if_icmp .ne 13, 3) := by decide +kernel
theorem dX12_isFull_18 : decode cX12_isFull 18 = .ok (.aload_n 0, 1) := by decide +kernel
theorem dX12_isFull_19 : decode cX12_isFull 19 = .ok (.iconst 1, 1) := by decide +kernel
theorem dX12_isFull_20 : decode cX12_isFull 20 = .ok (.invokevirtual 233, 3) := by decide +kernel
theorem dX12_isFull_23 : decode cX12_isFull 23 = .ok (.bipush 6, 2) := by decide +kernel
theorem dX12_isFull_25 : decode cX12_isFull 25 = .ok (.if_icmp .eq 31, 3) := by decide +kernel
theorem dX12_isFull_28 : decode cX12_isFull 28 = .ok (.iload_n 1, 1) := by decide +kernel
theorem dX12_isFull_29 : decode cX12_isFull 29 = .ok (.iconst 2, 1) := by decide +kernel
theorem dX12_isFull_30 : decode cX12_isFull 30 = .ok (.if_icmp .ne 12, 3) := by decide +kernel
theorem dX12_isFull_33 : decode cX12_isFull 33 = .ok (.aload_n 0, 1) := by decide +kernel
theorem dX12_isFull_34 : decode cX12_isFull 34 = .ok (.iconst 2, 1) := by decide +kernel
theorem dX12_isFull_35 : decode cX12_isFull 35 = .ok (.invokevirtual 233, 3) := by decide +kernel
theorem dX12_isFull_38 : decode cX12_isFull 38 = .ok (.iconst 4, 1) := by decide +kernel
theorem dX12_isFull_39 : decode cX12_isFull 39 = .ok (.if_icmp .eq 17, 3) := by decide +kernel
theorem dX12_isFull_42 : decode cX12_isFull 42 = .ok (.iload_n 1, 1) := by decide +kernel
theorem dX12_isFull_43 : decode cX12_isFull 43 = .ok (.iconst 3, 1) := by decide +kernel
theorem dX12_isFull_44 : decode cX12_isFull 44 = .ok (.if_icmp .ne 16, 3) := by decide +kernel
theorem dX12_isFull_47 : decode cX12_isFull 47 = .ok (.aload_n 0, 1) := by decide +kernel
theorem dX12_isFull_48 : decode cX12_isFull 48 = .ok (.iconst 3, 1) := by decide +kernel
theorem dX12_isFull_49 : decode cX12_isFull 49 = .ok (.invokevirtual 233, 3) := by decide +kernel
theorem dX12_isFull_52 : decode cX12_isFull 52 = .ok (.iconst 3, 1) := by decide +kernel
theorem dX12_isFull_53 : decode cX12_isFull 53 = .ok (.if_icmp .ne 7, 3) := by decide +kernel
theorem dX12_isFull_56 : decode cX12_isFull 56 = .ok (.iconst 1, 1) := by decide +kernel
theorem dX12_isFull_57 : decode cX12_isFull 57 = .ok (.goto 4, 3) := by decide +kernel
theorem dX12_isFull_60 : decode cX12_isFull 60 = .ok (.iconst 0, 1) := by decide +kernel
theorem dX12_isFull_61 : decode cX12_isFull 61 = .ok (.ireturn, 1) := by decide +kernel
theorem dX12_isGang_0 : decode cX12_isGang 0 = .ok (.iconst 0, 1) := by decide +kernel
theorem dX12_isGang_1 : decode cX12_isGang 1 = .ok (.istore_n 2, 1) := by decide +kernel
theorem dX12_isGang_2 : decode cX12_isGang 2 = .ok (.iload_n 2, 1) := by decide +kernel
theorem dX12_isGang_3 : decode cX12_isGang 3 = .ok (.aload_n 0, 1) := by decide +kernel
theorem dX12_isGang_4 : decode cX12_isGang 4 = .ok (.invokevirtual 467, 3) := by decide +kernel
theorem dX12_isGang_7 : decode cX12_isGang 7 = .ok (.if_icmp .ge 90, 3) := by decide +kernel
theorem dX12_isGang_10 : decode cX12_isGang 10 = .ok (.aload_n 0, 1) := by decide +kernel
theorem dX12_isGang_11 : decode cX12_isGang 11 = .ok (.iload_n 2, 1) := by decide +kernel
theorem dX12_isGang_12 : decode cX12_isGang 12 = .ok (.invokevirtual 470, 3) := by decide +kernel
theorem dX12_isGang_15 : decode cX12_isGang 15 = .ok (.ifCond .ne 6, 3) := by decide +kernel
theorem dX12_isGang_18 : decode cX12_isGang 18 = .ok (.goto 73, 3) := by decide +kernel
theorem dX12_isGang_21 : decode cX12_isGang 21 = .ok (.iconst 0, 1) := by decide +kernel
theorem dX12_isGang_22 : decode cX12_isGang 22 = .ok (.istore_n 3, 1) := by decide +kernel
theorem dX12_isGang_23 : decode cX12_isGang 23 = .ok (.iconst 0, 1) := by decide +kernel
theorem dX12_isGang_24 : decode cX12_isGang 24 = .ok (.istore 4, 2) := by decide +kernel
theorem dX12_isGang_26 : decode cX12_isGang 26 = .ok (.iload 4, 2) := by decide +kernel
theorem dX12_isGang_28 : decode cX12_isGang 28 = .ok (.aload_n 0, 1) := by decide +kernel
theorem dX12_isGang_29 : decode cX12_isGang 29 = .ok (.getfield 13, 3) := by decide +kernel
theorem dX12_isGang_32 : decode cX12_isGang 32 = .ok (.iconst 1, 1) := by decide +kernel
theorem dX12_isGang_33 : decode cX12_isGang 33 = .ok (.iaload, 1) := by decide +kernel
theorem dX12_isGang_34 : decode cX12_isGang 34 = .ok (.if_icmp .ge 51, 3) := by decide +kernel
theorem dX12_isGang_37 : decode cX12_isGang 37 = .ok (.iload_n 3, 1) := by decide +kernel
theorem dX12_isGang_38 : decode cX12_isGang 38 = .ok (.iload_n 1, 1) := by decide +kernel
theorem dX12_isGang_39 : decode cX12_isGang 39 = .ok (.iload 4, 2) := by decide +kernel
theorem dX12_isGang_41 : decode cX12_isGang 41 = .ok (.ishr, 1) := by decide +kernel
theorem dX12_isGang_42 : decode cX12_isGang 42 = .ok (.iconst 1, 1) := by decide +kernel
theorem dX12_isGang_43 : decode cX12_isGang 43 = .ok (.iand, 1) := by decide +kernel
theorem dX12_isGang_44 : decode cX12_isGang 44 = .ok (.iconst 1, 1) := by decide +kernel
theorem dX12_isGang_45 : decode cX12_isGang 45 = .ok (.if_icmp .ne 31, 3) := by decide +kernel
theorem dX12_isGang_48 : decode cX12_isGang 48 = .ok (.aload_n 0, 1) := by decide +kernel
theorem dX12_isGang_49 : decode cX12_isGang 49 = .ok (.iload 4, 2) := by decide +kernel
theorem dX12_isGang_51 : decode cX12_isGang 51 = .ok (.invokevirtual 338, 3) := by decide +kernel
theorem dX12_isGang_54 : decode cX12_isGang 54 = .ok (.ifCond .ne 22, 3) := by decide +kernel
theorem dX12_isGang_57 : decode cX12_isGang 57 = .ok (.aload_n 0, 1) := by decide +kernel
theorem dX12_isGang_58 : decode cX12_isGang 58 = .ok (.iload 4, 2) := by decide +kernel
theorem dX12_isGang_60 : decode cX12_isGang 60 = .ok (.aload_n 0, 1) := by decide +kernel
theorem dX12_isGang_61 : decode cX12_isGang 61 = .ok (.getfield 145, 3) := by decide +kernel
theorem dX12_isGang_64 : decode cX12_isGang 64 = .ok (.iload_n 2, 1) := by decide +kernel
theorem dX12_isGang_65 : decode cX12_isGang 65 = .ok (.iaload, 1) := by decide +kernel
theorem dX12_isGang_66 : decode cX12_isGang 66 = .ok (.invokevirtual 378, 3) := by decide +kernel
theorem dX12_isGang_69 : decode cX12_isGang 69 = .ok (.ifCond .eq 7, 3) := by decide +kernel
theorem dX12_isGang_72 : decode cX12_isGang 72 = .ok (.iconst 1, 1) := by decide +kernel
theorem dX12_isGang_73 : decode cX12_isGang 73 = .ok (.goto 4, 3) := by decide +kernel
theorem dX12_isGang_76 : decode cX12_isGang 76 = .ok (.iconst 0, 1) := by decide +kernel
theorem dX12_isGang_77 : decode cX12_isGang 77 = .ok (.ior, 1) := by decide +kernel
theorem dX12_isGang_78 : decode cX12_isGang 78 = .ok (.istore_n 3, 1) := by decide +kernel
theorem dX12_isGang_79 : decode cX12_isGang 79 = .ok (.iinc 4 1, 3) := by decide +kernel
theorem dX12_isGang_82 : decode cX12_isGang 82 = .ok (.goto (-56), 3) := by decide +kernel
theorem dX12_isGang_85 : decode cX12_isGang 85 = .ok (.iload_n 3, 1) := by decide +kernel
theorem dX12_isGang_86 : decode cX12_isGang 86 = .ok (.ifCond .ne 5, 3) := by decide +kernel
theorem dX12_isGang_89 : decode cX12_isGang 89 = .ok (.iconst 0, 1) := by decide +kernel
theorem dX12_isGang_90 : decode cX12_isGang 90 = .ok (.ireturn, 1) := by decide +kernel
theorem dX12_isGang_91 : decode cX12_isGang 91 = .ok (.iinc 2 1, 3) := by decide +kernel
theorem dX12_isGang_94 : decode cX12_isGang 94 = .ok (.goto (-92), 3) := by decide +kernel
theorem dX12_isGang_97 : decode cX12_isGang 97 = .ok (.iconst 1, 1) := by decide +kernel
theorem dX12_isGang_98 : decode cX12_isGang 98 = .ok (.ireturn, 1) := by decide +kernel
theorem dX12_isHummed_0 : decode cX12_isHummed 0 = .ok (.aload_n 0, 1) := by decide +kernel
theorem dX12_isHummed_1 : decode cX12_isHummed 1 = .ok (.getfield 151, 3) := by decide +kernel
theorem dX12_isHummed_4 : decode cX12_isHummed 4 = .ok (.iload_n 1, 1) := by decide +kernel
theorem dX12_isHummed_5 : decode cX12_isHummed 5 = .ok (.baload, 1) := by decide +kernel
theorem dX12_isHummed_6 : decode cX12_isHummed 6 = .ok (.ifCond .ne 17, 3) := by decide +kernel
theorem dX12_isHummed_9 : decode cX12_isHummed 9 = .ok (.aload_n 0, 1) := by decide +kernel
theorem dX12_isHummed_10 : decode cX12_isHummed 10 = .ok (.getfield 148, 3) := by decide +kernel
theorem dX12_isHummed_13 : decode cX12_isHummed 13 = .ok (.iload_n 1, 1) := by decide +kernel
theorem dX12_isHummed_14 : decode cX12_isHummed 14 = .ok (.iaload, 1) := by decide +kernel
theorem dX12_isHummed_15 : decode cX12_isHummed 15 = .ok (.iconst (-1), 1) := by decide +kernel
theorem dX12_isHummed_16 : decode cX12_isHummed 16 = .ok (.if_icmp .ne 7, 3) := by decide +kernel
theorem dX12_isHummed_19 : decode cX12_isHummed 19 = .ok (.iconst 1, 1) := by decide +kernel
theorem dX12_isHummed_20 : decode cX12_isHummed 20 = .ok (.goto 4, 3) := by decide +kernel
theorem dX12_isHummed_23 : decode cX12_isHummed 23 = .ok (.iconst 0, 1) := by decide +kernel
theorem dX12_isHummed_24 : decode cX12_isHummed 24 = .ok (.ireturn, 1) := by decide +kernel
theorem dX12_isPart_0 : decode cX12_isPart 0 = .ok (.aload_n 0, 1) := by decide +kernel
theorem dX12_isPart_1 : decode cX12_isPart 1 = .ok (.iload_n 1, 1) := by decide +kernel
theorem dX12_isPart_2 : decode cX12_isPart 2 = .ok (.invokevirtual 332, 3) := by decide +kernel
theorem dX12_isPart_5 : decode cX12_isPart 5 = .ok (.ifCond .eq 21, 3) := by decide +kernel
theorem dX12_isPart_8 : decode cX12_isPart 8 = .ok (.iload_n 2, 1) := by decide +kernel
theorem dX12_isPart_9 : decode cX12_isPart 9 = .ok (.ifCond .lt 17, 3) := by decide +kernel
theorem dX12_isPart_12 : decode cX12_isPart 12 = .ok (.iload_n 2, 1) := by decide +kernel
theorem dX12_isPart_13 : decode cX12_isPart 13 = .ok (.aload_n 0, 1) := by decide +kernel
theorem dX12_isPart_14 : decode cX12_isPart 14 = .ok (.getfield 50, 3) := by decide +kernel
theorem dX12_isPart_17 : decode cX12_isPart 17 = .ok (.iload_n 1, 1) := by decide +kernel
theorem dX12_isPart_18 : decode cX12_isPart 18 = .ok (.iaload, 1) := by decide +kernel
theorem dX12_isPart_19 : decode cX12_isPart 19 = .ok (.if_icmp .ge 7, 3) := by decide +kernel
theorem dX12_isPart_22 : decode cX12_isPart 22 = .ok (.iconst 1, 1) := by decide +kernel
theorem dX12_isPart_23 : decode cX12_isPart 23 = .ok (.goto 4, 3) := by decide +kernel
theorem dX12_isPart_26 : decode cX12_isPart 26 = .ok (.iconst 0, 1) := by decide +kernel
theorem dX12_isPart_27 : decode cX12_isPart 27 = .ok (.ireturn, 1) := by decide +kernel
theorem dX12_isRound_0 : decode cX12_isRound 0 = .ok (.iload_n 0, 1) := by decide +kernel
theorem dX12_isRound_1 : decode cX12_isRound 1 = .ok (.iconst 1, 1) := by decide +kernel
theorem dX12_isRound_2 : decode cX12_isRound 2 = .ok (.if_icmp .lt 23, 3) := by decide +kernel
theorem dX12_isRound_5 : decode cX12_isRound 5 = .ok (.iload_n 0, 1) := by decide +kernel
theorem dX12_isRound_6 : decode cX12_isRound 6 = .ok (.iconst 4, 1) := by decide +kernel
theorem dX12_isRound_7 : decode cX12_isRound 7 = .ok (.if_icmp .gt 18, 3) := by decide +kernel
theorem dX12_isRound_10 : decode cX12_isRound 10 = .ok (.iload_n 1, 1) := by decide +kernel
theorem dX12_isRound_11 : decode cX12_isRound 11 = .ok (.iconst 1, 1) := by decide +kernel
theorem dX12_isRound_12 : decode cX12_isRound 12 = .ok (.if_icmp .lt 13, 3) := by decide +kernel
theorem dX12_isRound_15 : decode cX12_isRound 15 = .ok (.iload_n 1, 1) := by decide +kernel
theorem dX12_isRound_16 : decode cX12_isRound 16 = .ok (.bipush 8, 2) := by decide +kernel
theorem dX12_isRound_18 : decode cX12_isRound 18 = .ok (.if_icmp .gt 7, 3) := by decide +kernel
theorem dX12_isRound_21 : decode cX12_isRound 21 = .ok (.iconst 1, 1) := by decide +kernel
theorem dX12_isRound_22 : decode cX12_isRound 22 = .ok (.goto 4, 3) := by decide +kernel
theorem dX12_isRound_25 : decode cX12_isRound 25 = .ok (.iconst 0, 1) := by decide +kernel
theorem dX12_isRound_26 : decode cX12_isRound 26 = .ok (.ireturn, 1) := by decide +kernel
theorem dX12_isSign_0 : decode cX12_isSign 0 = .ok (.aload_n 0, 1) := by decide +kernel
theorem dX12_isSign_1 : decode cX12_isSign 1 = .ok (.getfield 217, 3) := by decide +kernel
theorem dX12_isSign_4 : decode cX12_isSign 4 = .ok (.ifCond .ne 23, 3) := by decide +kernel
theorem dX12_isSign_7 : decode cX12_isSign 7 = .ok (.aload_n 0, 1) := by decide +kernel
theorem dX12_isSign_8 : decode cX12_isSign 8 = .ok (.getfield 182, 3) := by decide +kernel
theorem dX12_isSign_11 : decode cX12_isSign 11 = .ok (.iconst 3, 1) := by decide +kernel
theorem dX12_isSign_12 : decode cX12_isSign 12 = .ok (.if_icmp .ne 15, 3) := by decide +kernel
theorem dX12_isSign_15 : decode cX12_isSign 15 = .ok (.aload_n 0, 1) := by decide +kernel
theorem dX12_isSign_16 : decode cX12_isSign 16 = .ok (.getfield 192, 3) := by decide +kernel
theorem dX12_isSign_19 : decode cX12_isSign 19 = .ok (.iload_n 1, 1) := by decide +kernel
theorem dX12_isSign_20 : decode cX12_isSign 20 = .ok (.if_icmp .ne 7, 3) := by decide +kernel
theorem dX12_isSign_23 : decode cX12_isSign 23 = .ok (.iconst 1, 1) := by decide +kernel
theorem dX12_isSign_24 : decode cX12_isSign 24 = .ok (.goto 4, 3) := by decide +kernel
theorem dX12_isSign_27 : decode cX12_isSign 27 = .ok (.iconst 0, 1) := by decide +kernel
theorem dX12_isSign_28 : decode cX12_isSign 28 = .ok (.ireturn, 1) := by decide +kernel
theorem dX12_isSmall_0 : decode cX12_isSmall 0 = .ok (.iload_n 0, 1) := by decide +kernel
theorem dX12_isSmall_1 : decode cX12_isSmall 1 = .ok (.bipush 97, 2) := by decide +kernel
theorem dX12_isSmall_3 : decode cX12_isSmall 3 = .ok (.if_icmp .lt 13, 3) := by decide +kernel
theorem dX12_isSmall_6 : decode cX12_isSmall 6 = .ok (.iload_n 0, 1) := by decide +kernel
theorem dX12_isSmall_7 : decode cX12_isSmall 7 = .ok (.bipush 122, 2) := by decide +kernel
theorem dX12_isSmall_9 : decode cX12_isSmall 9 = .ok (.if_icmp .gt 7, 3) := by decide +kernel
theorem dX12_isSmall_12 : decode cX12_isSmall 12 = .ok (.iconst 1, 1) := by decide +kernel
theorem dX12_isSmall_13 : decode cX12_isSmall 13 = .ok (.goto 4, 3) := by decide +kernel
theorem dX12_isSmall_16 : decode cX12_isSmall 16 = .ok (.iconst 0, 1) := by decide +kernel
theorem dX12_isSmall_17 : decode cX12_isSmall 17 = .ok (.ireturn, 1) := by decide +kernel
theorem dX12_isSounded_0 : decode cX12_isSounded 0 = .ok (.iload_n 3, 1) := by decide +kernel
theorem dX12_isSounded_1 : decode cX12_isSounded 1 = .ok (.ifCond .lt 44, 3) := by decide +kernel
theorem dX12_isSounded_4 : decode cX12_isSounded 4 = .ok (.iload_n 3, 1) := by decide +kernel
theorem dX12_isSounded_5 : decode cX12_isSounded 5 = .ok (.aload_n 0, 1) := by decide +kernel
theorem dX12_isSounded_6 : decode cX12_isSounded 6 = .ok (.getfield 53, 3) := by decide +kernel
theorem dX12_isSounded_9 : decode cX12_isSounded 9 = .ok (.iload_n 1, 1) := by decide +kernel
theorem dX12_isSounded_10 : decode cX12_isSounded 10 = .ok (.iaload, 1) := by decide +kernel
theorem dX12_isSounded_11 : decode cX12_isSounded 11 = .ok (.if_icmp .ge 34, 3) := by decide +kernel
theorem dX12_isSounded_14 : decode cX12_isSounded 14 = .ok (.aload_n 0, 1) := by decide +kernel
theorem dX12_isSounded_15 : decode cX12_isSounded 15 = .ok (.iload_n 2, 1) := by decide +kernel
theorem dX12_isSounded_16 : decode cX12_isSounded 16 = .ok (.invokevirtual 338, 3) := by decide +kernel
theorem dX12_isSounded_19 : decode cX12_isSounded 19 = .ok (.ifCond .ne 26, 3) := by decide +kernel
theorem dX12_isSounded_22 : decode cX12_isSounded 22 = .ok (.aload_n 0, 1) := by decide +kernel
theorem dX12_isSounded_23 : decode cX12_isSounded 23 = .ok (.iload_n 2, 1) := by decide +kernel
theorem dX12_isSounded_24 : decode cX12_isSounded 24 = .ok (.aload_n 0, 1) := by decide +kernel
theorem dX12_isSounded_25 : decode cX12_isSounded 25 = .ok (.getfield 56, 3) := by decide +kernel
theorem dX12_isSounded_28 : decode cX12_isSounded 28 = .ok (.bipush 8, 2) := by decide +kernel
theorem dX12_isSounded_30 : decode cX12_isSounded 30 = .ok (.iload_n 1, 1) := by decide +kernel
theorem dX12_isSounded_31 : decode cX12_isSounded 31 = .ok (.imul, 1) := by decide +kernel
theorem dX12_isSounded_32 : decode cX12_isSounded 32 = .ok (.iload_n 3, 1) := by decide +kernel
theorem dX12_isSounded_33 : decode cX12_isSounded 33 = .ok (.iadd, 1) := by decide +kernel
theorem dX12_isSounded_34 : decode cX12_isSounded 34 = .ok (.iaload, 1) := by decide +kernel
theorem dX12_isSounded_35 : decode cX12_isSounded 35 = .ok (.invokevirtual 378, 3) := by decide +kernel
theorem dX12_isSounded_38 : decode cX12_isSounded 38 = .ok (.ifCond .eq 7, 3) := by decide +kernel
theorem dX12_isSounded_41 : decode cX12_isSounded 41 = .ok (.iconst 1, 1) := by decide +kernel
theorem dX12_isSounded_42 : decode cX12_isSounded 42 = .ok (.goto 4, 3) := by decide +kernel
theorem dX12_isSounded_45 : decode cX12_isSounded 45 = .ok (.iconst 0, 1) := by decide +kernel
theorem dX12_isSounded_46 : decode cX12_isSounded 46 = .ok (.ireturn, 1) := by decide +kernel
theorem dX12_isTavern_0 : decode cX12_isTavern 0 = .ok (.iload_n 1, 1) := by decide +kernel
theorem dX12_isTavern_1 : decode cX12_isTavern 1 = .ok (.ifCond .lt 17, 3) := by decide +kernel
theorem dX12_isTavern_4 : decode cX12_isTavern 4 = .ok (.iload_n 1, 1) := by decide +kernel
theorem dX12_isTavern_5 : decode cX12_isTavern 5 = .ok (.aload_n 0, 1) := by decide +kernel
theorem dX12_isTavern_6 : decode cX12_isTavern 6 = .ok (.getfield 13, 3) := by decide +kernel
theorem dX12_isTavern_9 : decode cX12_isTavern 9 = .ok (.iconst 0, 1) := by decide +kernel
theorem dX12_isTavern_10 : decode cX12_isTavern 10 = .ok (.iaload, 1) := by decide +kernel
theorem dX12_isTavern_11 : decode cX12_isTavern 11 = .ok (.if_icmp .ge 7, 3) := by decide +kernel
theorem dX12_isTavern_14 : decode cX12_isTavern 14 = .ok (.iconst 1, 1) := by decide +kernel
theorem dX12_isTavern_15 : decode cX12_isTavern 15 = .ok (.goto 4, 3) := by decide +kernel
theorem dX12_isTavern_18 : decode cX12_isTavern 18 = .ok (.iconst 0, 1) := by decide +kernel
theorem dX12_isTavern_19 : decode cX12_isTavern 19 = .ok (.ireturn, 1) := by decide +kernel
theorem dX12_isThief_0 : decode cX12_isThief 0 = .ok (.iconst 0, 1) := by decide +kernel
theorem dX12_isThief_1 : decode cX12_isThief 1 = .ok (.istore_n 2, 1) := by decide +kernel
theorem dX12_isThief_2 : decode cX12_isThief 2 = .ok (.iload_n 2, 1) := by decide +kernel
theorem dX12_isThief_3 : decode cX12_isThief 3 = .ok (.aload_n 0, 1) := by decide +kernel
theorem dX12_isThief_4 : decode cX12_isThief 4 = .ok (.invokevirtual 467, 3) := by decide +kernel
theorem dX12_isThief_7 : decode cX12_isThief 7 = .ok (.if_icmp .ge 33, 3) := by decide +kernel
theorem dX12_isThief_10 : decode cX12_isThief 10 = .ok (.aload_n 0, 1) := by decide +kernel
theorem dX12_isThief_11 : decode cX12_isThief 11 = .ok (.iload_n 2, 1) := by decide +kernel
theorem dX12_isThief_12 : decode cX12_isThief 12 = .ok (.invokevirtual 470, 3) := by decide +kernel
theorem dX12_isThief_15 : decode cX12_isThief 15 = .ok (.ifCond .eq 19, 3) := by decide +kernel
theorem dX12_isThief_18 : decode cX12_isThief 18 = .ok (.aload_n 0, 1) := by decide +kernel
theorem dX12_isThief_19 : decode cX12_isThief 19 = .ok (.iload_n 1, 1) := by decide +kernel
theorem dX12_isThief_20 : decode cX12_isThief 20 = .ok (.aload_n 0, 1) := by decide +kernel
theorem dX12_isThief_21 : decode cX12_isThief 21 = .ok (.getfield 145, 3) := by decide +kernel
theorem dX12_isThief_24 : decode cX12_isThief 24 = .ok (.iload_n 2, 1) := by decide +kernel
theorem dX12_isThief_25 : decode cX12_isThief 25 = .ok (.iaload, 1) := by decide +kernel
theorem dX12_isThief_26 : decode cX12_isThief 26 = .ok (.invokevirtual 378, 3) := by decide +kernel
theorem dX12_isThief_29 : decode cX12_isThief 29 = .ok (.ifCond .ne 5, 3) := by decide +kernel
theorem dX12_isThief_32 : decode cX12_isThief 32 = .ok (.iconst 0, 1) := by decide +kernel
theorem dX12_isThief_33 : decode cX12_isThief 33 = .ok (.ireturn, 1) := by decide +kernel
theorem dX12_isThief_34 : decode cX12_isThief 34 = .ok (.iinc 2 1, 3) := by decide +kernel
theorem dX12_isThief_37 : decode cX12_isThief 37 = .ok (.goto (-35), 3) := by decide +kernel
theorem dX12_isThief_40 : decode cX12_isThief 40 = .ok (.aload_n 0, 1) := by decide +kernel
theorem dX12_isThief_41 : decode cX12_isThief 41 = .ok (.iload_n 1, 1) := by decide +kernel
theorem dX12_isThief_42 : decode cX12_isThief 42 = .ok (.invokevirtual 338, 3) := by decide +kernel
theorem dX12_isThief_45 : decode cX12_isThief 45 = .ok (.ifCond .ne 7, 3) := by decide +kernel
theorem dX12_isThief_48 : decode cX12_isThief 48 = .ok (.iconst 1, 1) := by decide +kernel
theorem dX12_isThief_49 : decode cX12_isThief 49 = .ok (.goto 4, 3) := by decide +kernel
theorem dX12_isThief_52 : decode cX12_isThief 52 = .ok (.iconst 0, 1) := by decide +kernel
theorem dX12_isThief_53 : decode cX12_isThief 53 = .ok (.ireturn, 1) := by decide +kernel
theorem dX12_isVerse_0 : decode cX12_isVerse 0 = .ok (.iload_n 1, 1) := by decide +kernel
theorem dX12_isVerse_1 : decode cX12_isVerse 1 = .ok (.ifCond .lt 17, 3) := by decide +kernel
theorem dX12_isVerse_4 : decode cX12_isVerse 4 = .ok (.iload_n 1, 1) := by decide +kernel
theorem dX12_isVerse_5 : decode cX12_isVerse 5 = .ok (.aload_n 0, 1) := by decide +kernel
theorem dX12_isVerse_6 : decode cX12_isVerse 6 = .ok (.getfield 13, 3) := by decide +kernel
theorem dX12_isVerse_9 : decode cX12_isVerse 9 = .ok (.iconst 2, 1) := by decide +kernel
theorem dX12_isVerse_10 : decode cX12_isVerse 10 = .ok (.iaload, 1) := by decide +kernel
theorem dX12_isVerse_11 : decode cX12_isVerse 11 = .ok (.if_icmp .ge 7, 3) := by decide +kernel
theorem dX12_isVerse_14 : decode cX12_isVerse 14 = .ok (.iconst 1, 1) := by decide +kernel
theorem dX12_isVerse_15 : decode cX12_isVerse 15 = .ok (.goto 4, 3) := by decide +kernel
theorem dX12_isVerse_18 : decode cX12_isVerse 18 = .ok (.iconst 0, 1) := by decide +kernel
theorem dX12_isVerse_19 : decode cX12_isVerse 19 = .ok (.ireturn, 1) := by decide +kernel
theorem dX12_isVoice_0 : decode cX12_isVoice 0 = .ok (.iload_n 1, 1) := by decide +kernel
theorem dX12_isVoice_1 : decode cX12_isVoice 1 = .ok (.ifCond .lt 17, 3) := by decide +kernel
theorem dX12_isVoice_4 : decode cX12_isVoice 4 = .ok (.iload_n 1, 1) := by decide +kernel
theorem dX12_isVoice_5 : decode cX12_isVoice 5 = .ok (.aload_n 0, 1) := by decide +kernel
theorem dX12_isVoice_6 : decode cX12_isVoice 6 = .ok (.getfield 13, 3) := by decide +kernel
theorem dX12_isVoice_9 : decode cX12_isVoice 9 = .ok (.iconst 1, 1) := by decide +kernel
theorem dX12_isVoice_10 : decode cX12_isVoice 10 = .ok (.iaload, 1) := by decide +kernel
theorem dX12_isVoice_11 : decode cX12_isVoice 11 = .ok (.if_icmp .ge 7, 3) := by decide +kernel
theorem dX12_isVoice_14 : decode cX12_isVoice 14 = .ok (.iconst 1, 1) := by decide +kernel
theorem dX12_isVoice_15 : decode cX12_isVoice 15 = .ok (.goto 4, 3) := by decide +kernel
theorem dX12_isVoice_18 : decode cX12_isVoice 18 = .ok (.iconst 0, 1) := by decide +kernel
theorem dX12_isVoice_19 : decode cX12_isVoice 19 = .ok (.ireturn, 1) := by decide +kernel
theorem dX12_isWord_0 : decode cX12_isWord 0 = .ok (.aload_n 0, 1) := by decide +kernel
theorem dX12_isWord_1 : decode cX12_isWord 1 = .ok (.getfield 217, 3) := by decide +kernel
theorem dX12_isWord_4 : decode cX12_isWord 4 = .ok (.ifCond .ne 22, 3) := by decide +kernel
theorem dX12_isWord_7 : decode cX12_isWord 7 = .ok (.aload_n 0, 1) := by decide +kernel
theorem dX12_isWord_8 : decode cX12_isWord 8 = .ok (.getfield 182, 3) := by decide +kernel
theorem dX12_isWord_11 : decode cX12_isWord 11 = .ok (.ifCond .ne 15, 3) := by decide +kernel
theorem dX12_isWord_14 : decode cX12_isWord 14 = .ok (.aload_n 0, 1) := by decide +kernel
theorem dX12_isWord_15 : decode cX12_isWord 15 = .ok (.getfield 192, 3) := by decide +kernel
theorem dX12_isWord_18 : decode cX12_isWord 18 = .ok (.iload_n 1, 1) := by decide +kernel
theorem dX12_isWord_19 : decode cX12_isWord 19 = .ok (.if_icmp .ne 7, 3) := by decide +kernel
theorem dX12_isWord_22 : decode cX12_isWord 22 = .ok (.iconst 1, 1) := by decide +kernel
theorem dX12_isWord_23 : decode cX12_isWord 23 = .ok (.goto 4, 3) := by decide +kernel
theorem dX12_isWord_26 : decode cX12_isWord 26 = .ok (.iconst 0, 1) := by decide +kernel
theorem dX12_isWord_27 : decode cX12_isWord 27 = .ok (.ireturn, 1) := by decide +kernel
theorem dX12_keep_0 : decode cX12_keep 0 = .ok (.aload_n 0, 1) := by decide +kernel
theorem dX12_keep_1 : decode cX12_keep 1 = .ok (.iconst 0, 1) := by decide +kernel
theorem dX12_keep_2 : decode cX12_keep 2 = .ok (.putfield 163, 3) := by decide +kernel
theorem dX12_keep_5 : decode cX12_keep 5 = .ok (.aload_n 0, 1) := by decide +kernel
theorem dX12_keep_6 : decode cX12_keep 6 = .ok (.iconst 1, 1) := by decide +kernel
theorem dX12_keep_7 : decode cX12_keep 7 = .ok (.iconst 0, 1) := by decide +kernel
theorem dX12_keep_8 : decode cX12_keep 8 = .ok (.invokevirtual 508, 3) := by decide +kernel
theorem dX12_keep_11 : decode cX12_keep 11 = .ok (.aload_n 0, 1) := by decide +kernel
theorem dX12_keep_12 : decode cX12_keep 12 = .ok (.iconst 1, 1) := by decide +kernel
theorem dX12_keep_13 : decode cX12_keep 13 = .ok (.putfield 328, 3) := by decide +kernel
theorem dX12_keep_16 : decode cX12_keep 16 = .ok (.aload_n 0, 1) := by decide +kernel
theorem dX12_keep_17 : decode cX12_keep 17 = .ok (.getfield 81, 3) := by decide +kernel
theorem dX12_keep_20 : decode cX12_keep 20 = .ok (.iconst 0, 1) := by decide +kernel
theorem dX12_keep_21 : decode cX12_keep 21 = .ok (.iaload, 1) := by decide +kernel
theorem dX12_keep_22 : decode cX12_keep 22 = .ok (.ireturn, 1) := by decide +kernel
theorem dX12_knot_0 : decode cX12_knot 0 = .ok (.aload_n 0, 1) := by decide +kernel
theorem dX12_knot_1 : decode cX12_knot 1 = .ok (.getfield 217, 3) := by decide +kernel
theorem dX12_knot_4 : decode cX12_knot 4 = .ok (.ifCond .eq 4, 3) := by decide +kernel
theorem dX12_knot_7 : decode cX12_knot 7 = .ok (.return_, 1) := by decide +kernel
theorem dX12_knot_8 : decode cX12_knot 8 = .ok (.aload_n 0, 1) := by decide +kernel
theorem dX12_knot_9 : decode cX12_knot 9 = .ok (.getfield 288, 3) := by decide +kernel
theorem dX12_knot_12 : decode cX12_knot 12 = .ok (.bipush 64, 2) := by decide +kernel
theorem dX12_knot_14 : decode cX12_knot 14 = .ok (.if_icmp .ne 11, 3) := by decide +kernel
theorem dX12_knot_17 : decode cX12_knot 17 = .ok (.aload_n 0, 1) := by decide +kernel
theorem dX12_knot_18 : decode cX12_knot 18 = .ok (.iconst 2, 1) := by decide +kernel
theorem dX12_knot_19 : decode cX12_knot 19 = .ok (.invokevirtual 226, 3) := by decide +kernel
theorem dX12_knot_22 : decode cX12_knot 22 = .ok (.goto 13, 3) := by decide +kernel
theorem dX12_knot_25 : decode cX12_knot 25 = .ok (.aload_n 0, 1) := by decide +kernel
theorem dX12_knot_26 : decode cX12_knot 26 = .ok (.dup, 1) := by decide +kernel
theorem dX12_knot_27 : decode cX12_knot 27 = .ok (.getfield 288, 3) := by decide +kernel
theorem dX12_knot_30 : decode cX12_knot 30 = .ok (.iconst 1, 1) := by decide +kernel
theorem dX12_knot_31 : decode cX12_knot 31 = .ok (.iadd, 1) := by decide +kernel
theorem dX12_knot_32 : decode cX12_knot 32 = .ok (.putfield 288, 3) := by decide +kernel
theorem dX12_knot_35 : decode cX12_knot 35 = .ok (.return_, 1) := by decide +kernel
theorem dX12_known_0 : decode cX12_known 0 = .ok (.aload_n 0, 1) := by decide +kernel
theorem dX12_known_1 : decode cX12_known 1 = .ok (.iconst 0, 1) := by decide +kernel
theorem dX12_known_2 : decode cX12_known 2 = .ok (.putfield 163, 3) := by decide +kernel
theorem dX12_known_5 : decode cX12_known 5 = .ok (.iload_n 1, 1) := by decide +kernel
theorem dX12_known_6 : decode cX12_known 6 = .ok (.iconst (-1), 1) := by decide +kernel
theorem dX12_known_7 : decode cX12_known 7 = .ok (.if_icmp .lt 11, 3) := by decide +kernel
theorem dX12_known_10 : decode cX12_known 10 = .ok (.iload_n 1, 1) := by decide +kernel
theorem dX12_known_11 : decode cX12_known 11 = .ok (.aload_n 0, 1) := by decide +kernel
theorem dX12_known_12 : decode cX12_known 12 = .ok (.getfield 325, 3) := by decide +kernel
theorem dX12_known_15 : decode cX12_known 15 = .ok (.if_icmp .le 5, 3) := by decide +kernel
theorem dX12_known_18 : decode cX12_known 18 = .ok (.iconst 0, 1) := by decide +kernel
theorem dX12_known_19 : decode cX12_known 19 = .ok (.ireturn, 1) := by decide +kernel
theorem dX12_known_20 : decode cX12_known 20 = .ok (.aload_n 0, 1) := by decide +kernel
theorem dX12_known_21 : decode cX12_known 21 = .ok (.iload_n 1, 1) := by decide +kernel
theorem dX12_known_22 : decode cX12_known 22 = .ok (.putfield 142, 3) := by decide +kernel
theorem dX12_known_25 : decode cX12_known 25 = .ok (.iconst 1, 1) := by decide +kernel
theorem dX12_known_26 : decode cX12_known 26 = .ok (.ireturn, 1) := by decide +kernel
theorem dX12_knownMany_0 : decode cX12_knownMany 0 = .ok (.aload_n 0, 1) := by decide +kernel
theorem dX12_knownMany_1 : decode cX12_knownMany 1 = .ok (.getfield 142, 3) := by decide +kernel
theorem dX12_knownMany_4 : decode cX12_knownMany 4 = .ok (.iconst (-1), 1) := by decide +kernel
theorem dX12_knownMany_5 : decode cX12_knownMany 5 = .ok (.if_icmp .ne 10, 3) := by decide +kernel
theorem dX12_knownMany_8 : decode cX12_knownMany 8 = .ok (.aload_n 0, 1) := by decide +kernel
theorem dX12_knownMany_9 : decode cX12_knownMany 9 = .ok (.getfield 325, 3) := by decide +kernel
theorem dX12_knownMany_12 : decode cX12_knownMany 12 = .ok (.goto 7, 3) := by decide +kernel
theorem dX12_knownMany_15 : decode cX12_knownMany 15 = .ok (.aload_n 0, 1) := by decide +kernel
theorem dX12_knownMany_16 : decode cX12_knownMany 16 = .ok (.getfield 142, 3) := by decide +kernel
theorem dX12_knownMany_19 : decode cX12_knownMany 19 = .ok (.ireturn, 1) := by decide +kernel
theorem dX12_lawLine_0 : decode cX12_lawLine 0 = .ok (.aload_n 0, 1) := by decide +kernel
theorem dX12_lawLine_1 : decode cX12_lawLine 1 = .ok (.getfield 182, 3) := by decide +kernel
theorem dX12_lawLine_4 : decode cX12_lawLine 4 = .ok (.ifCond .ne 21, 3) := by decide +kernel
theorem dX12_lawLine_7 : decode cX12_lawLine 7 = .ok (.aload_n 0, 1) := by decide +kernel
theorem dX12_lawLine_8 : decode cX12_lawLine 8 = .ok (.getfield 192, 3) := by decide +kernel
theorem dX12_lawLine_11 : decode cX12_lawLine 11 = .ok (.bipush 11, 2) := by decide +kernel
theorem dX12_lawLine_13 : decode cX12_lawLine 13 = .ok (.if_icmp .eq 17, 3) := by decide +kernel
theorem dX12_lawLine_16 : decode cX12_lawLine 16 = .ok (.aload_n 0, 1) := by decide +kernel
theorem dX12_lawLine_17 : decode cX12_lawLine 17 = .ok (.getfield 192, 3) := by decide +kernel
theorem dX12_lawLine_20 : decode cX12_lawLine 20 = .ok (.bipush 12, 2) := by decide +kernel
theorem dX12_lawLine_22 : decode cX12_lawLine 22 = .ok (.if_icmp .eq 8, 3) := by decide +kernel
theorem dX12_lawLine_25 : decode cX12_lawLine 25 = .ok (.aload_n 0, 1) := by decide +kernel
theorem dX12_lawLine_26 : decode cX12_lawLine 26 = .ok (.iconst 1, 1) := by decide +kernel
theorem dX12_lawLine_27 : decode cX12_lawLine 27 = .ok (.invokevirtual 226, 3) := by decide +kernel
theorem dX12_lawLine_30 : decode cX12_lawLine 30 = .ok (.aload_n 0, 1) := by decide +kernel
theorem dX12_lawLine_31 : decode cX12_lawLine 31 = .ok (.getfield 192, 3) := by decide +kernel
theorem dX12_lawLine_34 : decode cX12_lawLine 34 = .ok (.bipush 11, 2) := by decide +kernel
theorem dX12_lawLine_36 : decode cX12_lawLine 36 = .ok (.isub, 1) := by decide +kernel
theorem dX12_lawLine_37 : decode cX12_lawLine 37 = .ok (.istore_n 1, 1) := by decide +kernel
theorem dX12_lawLine_38 : decode cX12_lawLine 38 = .ok (.aload_n 0, 1) := by decide +kernel
theorem dX12_lawLine_39 : decode cX12_lawLine 39 = .ok (.getfield 217, 3) := by decide +kernel
theorem dX12_lawLine_42 : decode cX12_lawLine 42 = .ok (.ifCond .ne 23, 3) := by decide +kernel
theorem dX12_lawLine_45 : decode cX12_lawLine 45 = .ok (.aload_n 0, 1) := by decide +kernel
theorem dX12_lawLine_46 : decode cX12_lawLine 46 = .ok (.getfield 243, 3) := by decide +kernel
theorem dX12_lawLine_49 : decode cX12_lawLine 49 = .ok (.bipush 10, 2) := by decide +kernel
theorem dX12_lawLine_51 : decode cX12_lawLine 51 = .ok (.iload_n 1, 1) := by decide +kernel
theorem dX12_lawLine_52 : decode cX12_lawLine 52 = .ok (.iadd, 1) := by decide +kernel
theorem dX12_lawLine_53 : decode cX12_lawLine 53 = .ok (.ishr, 1) := by decide +kernel
theorem dX12_lawLine_54 : decode cX12_lawLine 54 = .ok (.iconst 1, 1) := by decide +kernel
theorem dX12_lawLine_55 : decode cX12_lawLine 55 = .ok (.iand, 1) := by decide +kernel
theorem dX12_lawLine_56 : decode cX12_lawLine 56 = .ok (.iconst 1, 1) := by decide +kernel
theorem dX12_lawLine_57 : decode cX12_lawLine 57 = .ok (.if_icmp .ne 8, 3) := by decide +kernel
theorem dX12_lawLine_60 : decode cX12_lawLine 60 = .ok (.aload_n 0, 1) := by decide +kernel
theorem dX12_lawLine_61 : decode cX12_lawLine 61 = .ok (.iconst 3, 1) := by decide +kernel
theorem dX12_lawLine_62 : decode cX12_lawLine 62 = .ok (.invokevirtual 226, 3) := by decide +kernel
theorem dX12_lawLine_65 : decode cX12_lawLine 65 = .ok (.aload_n 0, 1) := by decide +kernel
theorem dX12_lawLine_66 : decode cX12_lawLine 66 = .ok (.getfield 217, 3) := by decide +kernel
theorem dX12_lawLine_69 : decode cX12_lawLine 69 = .ok (.ifCond .eq 4, 3) := by decide +kernel
theorem dX12_lawLine_72 : decode cX12_lawLine 72 = .ok (.return_, 1) := by decide +kernel
theorem dX12_lawLine_73 : decode cX12_lawLine 73 = .ok (.aload_n 0, 1) := by decide +kernel
theorem dX12_lawLine_74 : decode cX12_lawLine 74 = .ok (.dup, 1) := by decide +kernel
theorem dX12_lawLine_75 : decode cX12_lawLine 75 = .ok (.getfield 243, 3) := by decide +kernel
theorem dX12_lawLine_78 : decode cX12_lawLine 78 = .ok (.iconst 1, 1) := by decide +kernel
theorem dX12_lawLine_79 : decode cX12_lawLine 79 = .ok (.bipush 10, 2) := by decide +kernel
theorem dX12_lawLine_81 : decode cX12_lawLine 81 = .ok (.iload_n 1, 1) := by decide +kernel
theorem dX12_lawLine_82 : decode cX12_lawLine 82 = .ok (.iadd, 1) := by decide +kernel
theorem dX12_lawLine_83 : decode cX12_lawLine 83 = .ok (.ishl, 1) := by decide +kernel
theorem dX12_lawLine_84 : decode cX12_lawLine 84 = .ok (.ior, 1) := by decide +kernel
theorem dX12_lawLine_85 : decode cX12_lawLine 85 = .ok (.putfield 243, 3) := by decide +kernel
theorem dX12_lawLine_88 : decode cX12_lawLine 88 = .ok (.aload_n 0, 1) := by decide +kernel
theorem dX12_lawLine_89 : decode cX12_lawLine 89 = .ok (.invokevirtual 223, 3) := by decide +kernel
theorem dX12_lawLine_92 : decode cX12_lawLine 92 = .ok (.aload_n 0, 1) := by decide +kernel
theorem dX12_lawLine_93 : decode cX12_lawLine 93 = .ok (.iconst 5, 1) := by decide +kernel
theorem dX12_lawLine_94 : decode cX12_lawLine 94 = .ok (.iload_n 1, 1) := by decide +kernel
theorem dX12_lawLine_95 : decode cX12_lawLine 95 = .ok (.iadd, 1) := by decide +kernel
theorem dX12_lawLine_96 : decode cX12_lawLine 96 = .ok (.invokevirtual 264, 3) := by decide +kernel
theorem dX12_lawLine_99 : decode cX12_lawLine 99 = .ok (.return_, 1) := by decide +kernel
theorem dX12_layBest_0 : decode cX12_layBest 0 = .ok (.aload_n 0, 1) := by decide +kernel
theorem dX12_layBest_1 : decode cX12_layBest 1 = .ok (.invokevirtual 424, 3) := by decide +kernel
theorem dX12_layBest_4 : decode cX12_layBest 4 = .ok (.iconst 0, 1) := by decide +kernel
theorem dX12_layBest_5 : decode cX12_layBest 5 = .ok (.istore_n 2, 1) := by decide +kernel
theorem dX12_layBest_6 : decode cX12_layBest 6 = .ok (.iload_n 2, 1) := by decide +kernel
theorem dX12_layBest_7 : decode cX12_layBest 7 = .ok (.iload_n 1, 1) := by decide +kernel
theorem dX12_layBest_8 : decode cX12_layBest 8 = .ok (.if_icmp .gt 45, 3) := by decide +kernel
theorem dX12_layBest_11 : decode cX12_layBest 11 = .ok (.aload_n 0, 1) := by decide +kernel
theorem dX12_layBest_12 : decode cX12_layBest 12 = .ok (.getfield 124, 3) := by decide +kernel
theorem dX12_layBest_15 : decode cX12_layBest 15 = .ok (.sipush 1000, 3) := by decide +kernel
theorem dX12_layBest_18 : decode cX12_layBest 18 = .ok (.aload_n 0, 1) := by decide +kernel
theorem dX12_layBest_19 : decode cX12_layBest 19 = .ok (.getfield 13, 3) := by decide +kernel
theorem dX12_layBest_22 : decode cX12_layBest 22 = .ok (.iconst 2, 1) := by decide +kernel
theorem dX12_layBest_23 : decode cX12_layBest 23 = .ok (.iaload, 1) := by decide +kernel
theorem dX12_layBest_24 : decode cX12_layBest 24 = .ok (.imul, 1) := by decide +kernel
theorem dX12_layBest_25 : decode cX12_layBest 25 = .ok (.iload_n 2, 1) := by decide +kernel
theorem dX12_layBest_26 : decode cX12_layBest 26 = .ok (.iadd, 1) := by decide +kernel
theorem dX12_layBest_27 : decode cX12_layBest 27 = .ok (.iconst 0, 1) := by decide +kernel
theorem dX12_layBest_28 : decode cX12_layBest 28 = .ok (.iastore, 1) := by decide +kernel
theorem dX12_layBest_29 : decode cX12_layBest 29 = .ok (.aload_n 0, 1) := by decide +kernel
theorem dX12_layBest_30 : decode cX12_layBest 30 = .ok (.getfield 127, 3) := by decide +kernel
theorem dX12_layBest_33 : decode cX12_layBest 33 = .ok (.sipush 1000, 3) := by decide +kernel
theorem dX12_layBest_36 : decode cX12_layBest 36 = .ok (.aload_n 0, 1) := by decide +kernel
theorem dX12_layBest_37 : decode cX12_layBest 37 = .ok (.getfield 13, 3) := by decide +kernel
theorem dX12_layBest_40 : decode cX12_layBest 40 = .ok (.iconst 2, 1) := by decide +kernel
theorem dX12_layBest_41 : decode cX12_layBest 41 = .ok (.iaload, 1) := by decide +kernel
theorem dX12_layBest_42 : decode cX12_layBest 42 = .ok (.imul, 1) := by decide +kernel
theorem dX12_layBest_43 : decode cX12_layBest 43 = .ok (.iload_n 2, 1) := by decide +kernel
theorem dX12_layBest_44 : decode cX12_layBest 44 = .ok (.iadd, 1) := by decide +kernel
theorem dX12_layBest_45 : decode cX12_layBest 45 = .ok (.iconst 0, 1) := by decide +kernel
theorem dX12_layBest_46 : decode cX12_layBest 46 = .ok (.iastore, 1) := by decide +kernel
theorem dX12_layBest_47 : decode cX12_layBest 47 = .ok (.iinc 2 1, 3) := by decide +kernel
theorem dX12_layBest_50 : decode cX12_layBest 50 = .ok (.goto (-44), 3) := by decide +kernel
theorem dX12_layBest_53 : decode cX12_layBest 53 = .ok (.aload_n 0, 1) := by decide +kernel
theorem dX12_layBest_54 : decode cX12_layBest 54 = .ok (.getfield 13, 3) := by decide +kernel
theorem dX12_layBest_57 : decode cX12_layBest 57 = .ok (.iconst 2, 1) := by decide +kernel
theorem dX12_layBest_58 : decode cX12_layBest 58 = .ok (.iaload, 1) := by decide +kernel
theorem dX12_layBest_59 : decode cX12_layBest 59 = .ok (.iconst 1, 1) := by decide +kernel
theorem dX12_layBest_60 : decode cX12_layBest 60 = .ok (.isub, 1) := by decide +kernel
theorem dX12_layBest_61 : decode cX12_layBest 61 = .ok (.istore_n 2, 1) := by decide +kernel
theorem dX12_layBest_62 : decode cX12_layBest 62 = .ok (.iload_n 2, 1) := by decide +kernel
theorem dX12_layBest_63 : decode cX12_layBest 63 = .ok (.ifCond .lt 71, 3) := by decide +kernel
theorem dX12_layBest_66 : decode cX12_layBest 66 = .ok (.iconst 0, 1) := by decide +kernel
theorem dX12_layBest_67 : decode cX12_layBest 67 = .ok (.istore_n 3, 1) := by decide +kernel
theorem dX12_layBest_68 : decode cX12_layBest 68 = .ok (.iload_n 3, 1) := by decide +kernel
theorem dX12_layBest_69 : decode cX12_layBest 69 = .ok (.iload_n 1, 1) := by decide +kernel
theorem dX12_layBest_70 : decode cX12_layBest 70 = .ok (.if_icmp .gt 22, 3) := by decide +kernel
theorem dX12_layBest_73 : decode cX12_layBest 73 = .ok (.aload_n 0, 1) := by decide +kernel
theorem dX12_layBest_74 : decode cX12_layBest 74 = .ok (.getfield 124, 3) := by decide +kernel
theorem dX12_layBest_77 : decode cX12_layBest 77 = .ok (.sipush 1000, 3) := by decide +kernel
theorem dX12_layBest_80 : decode cX12_layBest 80 = .ok (.iload_n 2, 1) := by decide +kernel
theorem dX12_layBest_81 : decode cX12_layBest 81 = .ok (.imul, 1) := by decide +kernel
theorem dX12_layBest_82 : decode cX12_layBest 82 = .ok (.iload_n 3, 1) := by decide +kernel
theorem dX12_layBest_83 : decode cX12_layBest 83 = .ok (.iadd, 1) := by decide +kernel
theorem dX12_layBest_84 : decode cX12_layBest 84 = .ok (.iconst (-1), 1) := by decide +kernel
theorem dX12_layBest_85 : decode cX12_layBest 85 = .ok (.iastore, 1) := by decide +kernel
theorem dX12_layBest_86 : decode cX12_layBest 86 = .ok (.iinc 3 1, 3) := by decide +kernel
theorem dX12_layBest_89 : decode cX12_layBest 89 = .ok (.goto (-21), 3) := by decide +kernel
theorem dX12_layBest_92 : decode cX12_layBest 92 = .ok (.aload_n 0, 1) := by decide +kernel
theorem dX12_layBest_93 : decode cX12_layBest 93 = .ok (.invokevirtual 427, 3) := by decide +kernel
theorem dX12_layBest_96 : decode cX12_layBest 96 = .ok (.aload_n 0, 1) := by decide +kernel
theorem dX12_layBest_97 : decode cX12_layBest 97 = .ok (.iload_n 2, 1) := by decide +kernel
theorem dX12_layBest_98 : decode cX12_layBest 98 = .ok (.invokevirtual 430, 3) := by decide +kernel
theorem dX12_layBest_101 : decode cX12_layBest 101 = .ok (.ifCond .eq 19, 3) := by decide +kernel
theorem dX12_layBest_104 : decode cX12_layBest 104 = .ok (.aload_n 0, 1) := by decide +kernel
theorem dX12_layBest_105 : decode cX12_layBest 105 = .ok (.iload_n 2, 1) := by decide +kernel
theorem dX12_layBest_106 : decode cX12_layBest 106 = .ok (.iload_n 1, 1) := by decide +kernel
theorem dX12_layBest_107 : decode cX12_layBest 107 = .ok (.aload_n 0, 1) := by decide +kernel
theorem dX12_layBest_108 : decode cX12_layBest 108 = .ok (.iload_n 2, 1) := by decide +kernel
theorem dX12_layBest_109 : decode cX12_layBest 109 = .ok (.invokevirtual 433, 3) := by decide +kernel
theorem dX12_layBest_112 : decode cX12_layBest 112 = .ok (.aload_n 0, 1) := by decide +kernel
theorem dX12_layBest_113 : decode cX12_layBest 113 = .ok (.iload_n 2, 1) := by decide +kernel
theorem dX12_layBest_114 : decode cX12_layBest 114 = .ok (.invokevirtual 436, 3) := by decide +kernel
theorem dX12_layBest_117 : decode cX12_layBest 117 = .ok (.invokevirtual 439, 3) := by decide +kernel
theorem dX12_layBest_120 : decode cX12_layBest 120 = .ok (.aload_n 0, 1) := by decide +kernel
theorem dX12_layBest_121 : decode cX12_layBest 121 = .ok (.iload_n 2, 1) := by decide +kernel
theorem dX12_layBest_122 : decode cX12_layBest 122 = .ok (.invokevirtual 443, 3) := by decide +kernel
theorem dX12_layBest_125 : decode cX12_layBest 125 = .ok (.ifCond .ne (-29), 3) := by decide +kernel
theorem dX12_layBest_128 : decode cX12_layBest 128 = .ok (.iinc 2 (-1), 3) := by decide +kernel
theorem dX12_layBest_131 : decode cX12_layBest 131 = .ok (.goto (-69), 3) := by decide +kernel
theorem dX12_layBest_134 : decode cX12_layBest 134 = .ok (.return_, 1) := by decide +kernel
theorem dX12_layDues_0 : decode cX12_layDues 0 = .ok (.iconst 0, 1) := by decide +kernel
theorem dX12_layDues_1 : decode cX12_layDues 1 = .ok (.istore_n 1, 1) := by decide +kernel
theorem dX12_layDues_2 : decode cX12_layDues 2 = .ok (.iload_n 1, 1) := by decide +kernel
theorem dX12_layDues_3 : decode cX12_layDues 3 = .ok (.bipush 12, 2) := by decide +kernel
theorem dX12_layDues_5 : decode cX12_layDues 5 = .ok (.if_icmp .ge 77, 3) := by decide +kernel
theorem dX12_layDues_8 : decode cX12_layDues 8 = .ok (.aload_n 0, 1) := by decide +kernel
theorem dX12_layDues_9 : decode cX12_layDues 9 = .ok (.iload_n 1, 1) := by decide +kernel
theorem dX12_layDues_10 : decode cX12_layDues 10 = .ok (.iconst 3, 1) := by decide +kernel
theorem dX12_layDues_11 : decode cX12_layDues 11 = .ok (.idiv, 1) := by decide +kernel
theorem dX12_layDues_12 : decode cX12_layDues 12 = .ok (.iload_n 1, 1) := by decide +kernel
theorem dX12_layDues_13 : decode cX12_layDues 13 = .ok (.iconst 3, 1) := by decide +kernel
theorem dX12_layDues_14 : decode cX12_layDues 14 = .ok (.irem, 1) := by decide +kernel
theorem dX12_layDues_15 : decode cX12_layDues 15 = .ok (.invokevirtual 344, 3) := by decide +kernel
theorem dX12_layDues_18 : decode cX12_layDues 18 = .ok (.ifCond .ne 6, 3) := by decide +kernel
theorem dX12_layDues_21 : decode cX12_layDues 21 = .ok (.goto 55, 3) := by decide +kernel
theorem dX12_layDues_24 : decode cX12_layDues 24 = .ok (.iconst 0, 1) := by decide +kernel
theorem dX12_layDues_25 : decode cX12_layDues 25 = .ok (.istore_n 2, 1) := by decide +kernel
theorem dX12_layDues_26 : decode cX12_layDues 26 = .ok (.iload_n 2, 1) := by decide +kernel
theorem dX12_layDues_27 : decode cX12_layDues 27 = .ok (.aload_n 0, 1) := by decide +kernel
theorem dX12_layDues_28 : decode cX12_layDues 28 = .ok (.getfield 13, 3) := by decide +kernel
theorem dX12_layDues_31 : decode cX12_layDues 31 = .ok (.iconst 1, 1) := by decide +kernel
theorem dX12_layDues_32 : decode cX12_layDues 32 = .ok (.iaload, 1) := by decide +kernel
theorem dX12_layDues_33 : decode cX12_layDues 33 = .ok (.if_icmp .ge 43, 3) := by decide +kernel
theorem dX12_layDues_36 : decode cX12_layDues 36 = .ok (.aload_n 0, 1) := by decide +kernel
theorem dX12_layDues_37 : decode cX12_layDues 37 = .ok (.getfield 130, 3) := by decide +kernel
theorem dX12_layDues_40 : decode cX12_layDues 40 = .ok (.bipush 6, 2) := by decide +kernel
theorem dX12_layDues_42 : decode cX12_layDues 42 = .ok (.iload_n 1, 1) := by decide +kernel
theorem dX12_layDues_43 : decode cX12_layDues 43 = .ok (.imul, 1) := by decide +kernel
theorem dX12_layDues_44 : decode cX12_layDues 44 = .ok (.iload_n 2, 1) := by decide +kernel
theorem dX12_layDues_45 : decode cX12_layDues 45 = .ok (.iadd, 1) := by decide +kernel
theorem dX12_layDues_46 : decode cX12_layDues 46 = .ok (.aload_n 0, 1) := by decide +kernel
theorem dX12_layDues_47 : decode cX12_layDues 47 = .ok (.iload_n 1, 1) := by decide +kernel
theorem dX12_layDues_48 : decode cX12_layDues 48 = .ok (.iload_n 2, 1) := by decide +kernel
theorem dX12_layDues_49 : decode cX12_layDues 49 = .ok (.invokevirtual 405, 3) := by decide +kernel
theorem dX12_layDues_52 : decode cX12_layDues 52 = .ok (.iastore, 1) := by decide +kernel
theorem dX12_layDues_53 : decode cX12_layDues 53 = .ok (.aload_n 0, 1) := by decide +kernel
theorem dX12_layDues_54 : decode cX12_layDues 54 = .ok (.getfield 133, 3) := by decide +kernel
theorem dX12_layDues_57 : decode cX12_layDues 57 = .ok (.bipush 6, 2) := by decide +kernel
theorem dX12_layDues_59 : decode cX12_layDues 59 = .ok (.iload_n 1, 1) := by decide +kernel
theorem dX12_layDues_60 : decode cX12_layDues 60 = .ok (.imul, 1) := by decide +kernel
theorem dX12_layDues_61 : decode cX12_layDues 61 = .ok (.iload_n 2, 1) := by decide +kernel
theorem dX12_layDues_62 : decode cX12_layDues 62 = .ok (.iadd, 1) := by decide +kernel
theorem dX12_layDues_63 : decode cX12_layDues 63 = .ok (.aload_n 0, 1) := by decide +kernel
theorem dX12_layDues_64 : decode cX12_layDues 64 = .ok (.iload_n 1, 1) := by decide +kernel
theorem dX12_layDues_65 : decode cX12_layDues 65 = .ok (.iload_n 2, 1) := by decide +kernel
theorem dX12_layDues_66 : decode cX12_layDues 66 = .ok (.invokevirtual 390, 3) := by decide +kernel
theorem dX12_layDues_69 : decode cX12_layDues 69 = .ok (.iastore, 1) := by decide +kernel
theorem dX12_layDues_70 : decode cX12_layDues 70 = .ok (.iinc 2 1, 3) := by decide +kernel
theorem dX12_layDues_73 : decode cX12_layDues 73 = .ok (.goto (-47), 3) := by decide +kernel
theorem dX12_layDues_76 : decode cX12_layDues 76 = .ok (.iinc 1 1, 3) := by decide +kernel
theorem dX12_layDues_79 : decode cX12_layDues 79 = .ok (.goto (-77), 3) := by decide +kernel
theorem dX12_layDues_82 : decode cX12_layDues 82 = .ok (.return_, 1) := by decide +kernel
theorem dX12_line_0 : decode cX12_line 0 = .ok (.aload_n 0, 1) := by decide +kernel
theorem dX12_line_1 : decode cX12_line 1 = .ok (.getfield 182, 3) := by decide +kernel
theorem dX12_line_4 : decode cX12_line 4 = .ok (.ifCond .ne 12, 3) := by decide +kernel
theorem dX12_line_7 : decode cX12_line 7 = .ok (.aload_n 0, 1) := by decide +kernel
theorem dX12_line_8 : decode cX12_line 8 = .ok (.getfield 192, 3) := by decide +kernel
theorem dX12_line_11 : decode cX12_line 11 = .ok (.bipush 6, 2) := by decide +kernel
theorem dX12_line_13 : decode cX12_line 13 = .ok (.if_icmp .le 9, 3) := by decide +kernel
theorem dX12_line_16 : decode cX12_line 16 = .ok (.aload_n 0, 1) := by decide +kernel
theorem dX12_line_17 : decode cX12_line 17 = .ok (.iconst 1, 1) := by decide +kernel
theorem dX12_line_18 : decode cX12_line 18 = .ok (.invokevirtual 226, 3) := by decide +kernel
theorem dX12_line_21 : decode cX12_line 21 = .ok (.return_, 1) := by decide +kernel
theorem dX12_line_22 : decode cX12_line 22 = .ok (.aload_n 0, 1) := by decide +kernel
theorem dX12_line_23 : decode cX12_line 23 = .ok (.getfield 192, 3) := by decide +kernel
theorem dX12_line_26 : decode cX12_line 26 = .ok (.istore_n 1, 1) := by decide +kernel
theorem dX12_line_27 : decode cX12_line 27 = .ok (.aload_n 0, 1) := by decide +kernel
theorem dX12_line_28 : decode cX12_line 28 = .ok (.iload_n 1, 1) := by decide +kernel
theorem dX12_line_29 : decode cX12_line 29 = .ok (.invokevirtual 240, 3) := by decide +kernel
theorem dX12_line_32 : decode cX12_line 32 = .ok (.ifCond .eq 11, 3) := by decide +kernel
theorem dX12_line_35 : decode cX12_line 35 = .ok (.aload_n 0, 1) := by decide +kernel
theorem dX12_line_36 : decode cX12_line 36 = .ok (.iconst 2, 1) := by decide +kernel
theorem dX12_line_37 : decode cX12_line 37 = .ok (.invokevirtual 226, 3) := by decide +kernel
theorem dX12_line_40 : decode cX12_line 40 = .ok (.goto 30, 3) := by decide +kernel
theorem dX12_line_43 : decode cX12_line 43 = .ok (.iload_n 1, 1) := by decide +kernel
theorem dX12_line_44 : decode cX12_line 44 = .ok (.iconst 4, 1) := by decide +kernel
theorem dX12_line_45 : decode cX12_line 45 = .ok (.if_icmp .eq 8, 3) := by decide +kernel
theorem dX12_line_48 : decode cX12_line 48 = .ok (.iload_n 1, 1) := by decide +kernel
theorem dX12_line_49 : decode cX12_line 49 = .ok (.iconst 5, 1) := by decide +kernel
theorem dX12_line_50 : decode cX12_line 50 = .ok (.if_icmp .ne 20, 3) := by decide +kernel
theorem dX12_line_53 : decode cX12_line 53 = .ok (.aload_n 0, 1) := by decide +kernel
theorem dX12_line_54 : decode cX12_line 54 = .ok (.getfield 243, 3) := by decide +kernel
theorem dX12_line_57 : decode cX12_line 57 = .ok (.iload_n 1, 1) := by decide +kernel
theorem dX12_line_58 : decode cX12_line 58 = .ok (.ishr, 1) := by decide +kernel
theorem dX12_line_59 : decode cX12_line 59 = .ok (.iconst 1, 1) := by decide +kernel
theorem dX12_line_60 : decode cX12_line 60 = .ok (.iand, 1) := by decide +kernel
theorem dX12_line_61 : decode cX12_line 61 = .ok (.iconst 1, 1) := by decide +kernel
theorem dX12_line_62 : decode cX12_line 62 = .ok (.if_icmp .ne 8, 3) := by decide +kernel
theorem dX12_line_65 : decode cX12_line 65 = .ok (.aload_n 0, 1) := by decide +kernel
theorem dX12_line_66 : decode cX12_line 66 = .ok (.iconst 3, 1) := by decide +kernel
theorem dX12_line_67 : decode cX12_line 67 = .ok (.invokevirtual 226, 3) := by decide +kernel
theorem dX12_line_70 : decode cX12_line 70 = .ok (.aload_n 0, 1) := by decide +kernel
theorem dX12_line_71 : decode cX12_line 71 = .ok (.getfield 217, 3) := by decide +kernel
theorem dX12_line_74 : decode cX12_line 74 = .ok (.ifCond .eq 4, 3) := by decide +kernel
theorem dX12_line_77 : decode cX12_line 77 = .ok (.return_, 1) := by decide +kernel
theorem dX12_line_78 : decode cX12_line 78 = .ok (.aload_n 0, 1) := by decide +kernel
theorem dX12_line_79 : decode cX12_line 79 = .ok (.dup, 1) := by decide +kernel
theorem dX12_line_80 : decode cX12_line 80 = .ok (.getfield 243, 3) := by decide +kernel
theorem dX12_line_83 : decode cX12_line 83 = .ok (.iconst 1, 1) := by decide +kernel
theorem dX12_line_84 : decode cX12_line 84 = .ok (.iload_n 1, 1) := by decide +kernel
theorem dX12_line_85 : decode cX12_line 85 = .ok (.ishl, 1) := by decide +kernel
theorem dX12_line_86 : decode cX12_line 86 = .ok (.ior, 1) := by decide +kernel
theorem dX12_line_87 : decode cX12_line 87 = .ok (.putfield 243, 3) := by decide +kernel
theorem dX12_line_90 : decode cX12_line 90 = .ok (.aload_n 0, 1) := by decide +kernel
theorem dX12_line_91 : decode cX12_line 91 = .ok (.invokevirtual 223, 3) := by decide +kernel
theorem dX12_line_94 : decode cX12_line 94 = .ok (.iload_n 1, 1) := by decide +kernel
theorem dX12_line_95 : decode cX12_line 95 = .ok (.tableswitch 226 0 5 #[37, 107, 122, 136, 195, 211], 37) := by decide +kernel
theorem dX12_line_132 : decode cX12_line 132 = .ok (.iconst 3, 1) := by decide +kernel
theorem dX12_line_133 : decode cX12_line 133 = .ok (.aload_n 0, 1) := by decide +kernel
theorem dX12_line_134 : decode cX12_line 134 = .ok (.iconst 0, 1) := by decide +kernel
theorem dX12_line_135 : decode cX12_line 135 = .ok (.invokevirtual 233, 3) := by decide +kernel
theorem dX12_line_138 : decode cX12_line 138 = .ok (.iadd, 1) := by decide +kernel
theorem dX12_line_139 : decode cX12_line 139 = .ok (.istore_n 2, 1) := by decide +kernel
theorem dX12_line_140 : decode cX12_line 140 = .ok (.aload_n 0, 1) := by decide +kernel
theorem dX12_line_141 : decode cX12_line 141 = .ok (.getfield 16, 3) := by decide +kernel
