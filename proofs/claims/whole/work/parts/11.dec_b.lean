theorem dX8_hasRoom_24 : decode cX8_hasRoom 24 = .ok (.iconst 0, 1) := by decide +kernel
theorem dX8_hasRoom_25 : decode cX8_hasRoom 25 = .ok (.ireturn, 1) := by decide +kernel
theorem dX8_hasRoom_26 : decode cX8_hasRoom 26 = .ok (.iconst 0, 1) := by decide +kernel
theorem dX8_hasRoom_27 : decode cX8_hasRoom 27 = .ok (.istore 4, 2) := by decide +kernel
theorem dX8_hasRoom_29 : decode cX8_hasRoom 29 = .ok (.iload 4, 2) := by decide +kernel
theorem dX8_hasRoom_31 : decode cX8_hasRoom 31 = .ok (.aload_n 1, 1) := by decide +kernel
theorem dX8_hasRoom_32 : decode cX8_hasRoom 32 = .ok (.getfield 34, 3) := by decide +kernel
theorem dX8_hasRoom_35 : decode cX8_hasRoom 35 = .ok (.if_icmp .ge 60, 3) := by decide +kernel
theorem dX8_hasRoom_38 : decode cX8_hasRoom 38 = .ok (.iload_n 2, 1) := by decide +kernel
theorem dX8_hasRoom_39 : decode cX8_hasRoom 39 = .ok (.aload_n 1, 1) := by decide +kernel
theorem dX8_hasRoom_40 : decode cX8_hasRoom 40 = .ok (.getfield 40, 3) := by decide +kernel
theorem dX8_hasRoom_43 : decode cX8_hasRoom 43 = .ok (.iload 4, 2) := by decide +kernel
theorem dX8_hasRoom_45 : decode cX8_hasRoom 45 = .ok (.iaload, 1) := by decide +kernel
theorem dX8_hasRoom_46 : decode cX8_hasRoom 46 = .ok (.iadd, 1) := by decide +kernel
theorem dX8_hasRoom_47 : decode cX8_hasRoom 47 = .ok (.istore 5, 2) := by decide +kernel
theorem dX8_hasRoom_49 : decode cX8_hasRoom 49 = .ok (.iload_n 3, 1) := by decide +kernel
theorem dX8_hasRoom_50 : decode cX8_hasRoom 50 = .ok (.aload_n 1, 1) := by decide +kernel
theorem dX8_hasRoom_51 : decode cX8_hasRoom 51 = .ok (.getfield 43, 3) := by decide +kernel
theorem dX8_hasRoom_54 : decode cX8_hasRoom 54 = .ok (.iload 4, 2) := by decide +kernel
theorem dX8_hasRoom_56 : decode cX8_hasRoom 56 = .ok (.iaload, 1) := by decide +kernel
theorem dX8_hasRoom_57 : decode cX8_hasRoom 57 = .ok (.iadd, 1) := by decide +kernel
theorem dX8_hasRoom_58 : decode cX8_hasRoom 58 = .ok (.istore 6, 2) := by decide +kernel
theorem dX8_hasRoom_60 : decode cX8_hasRoom 60 = .ok (.iload 5, 2) := by decide +kernel
theorem dX8_hasRoom_62 : decode cX8_hasRoom 62 = .ok (.iload 6, 2) := by decide +kernel
theorem dX8_hasRoom_64 : decode cX8_hasRoom 64 = .ok (.invokestatic 30, 3) := by decide +kernel
theorem dX8_hasRoom_67 : decode cX8_hasRoom 67 = .ok (.ifCond .eq 20, 3) := by decide +kernel
theorem dX8_hasRoom_70 : decode cX8_hasRoom 70 = .ok (.aload_n 0, 1) := by decide +kernel
theorem dX8_hasRoom_71 : decode cX8_hasRoom 71 = .ok (.getfield 15, 3) := by decide +kernel
theorem dX8_hasRoom_74 : decode cX8_hasRoom 74 = .ok (.iload 5, 2) := by decide +kernel
theorem dX8_hasRoom_76 : decode cX8_hasRoom 76 = .ok (.bipush 32, 2) := by decide +kernel
theorem dX8_hasRoom_78 : decode cX8_hasRoom 78 = .ok (.imul, 1) := by decide +kernel
theorem dX8_hasRoom_79 : decode cX8_hasRoom 79 = .ok (.iload 6, 2) := by decide +kernel
theorem dX8_hasRoom_81 : decode cX8_hasRoom 81 = .ok (.iadd, 1) := by decide +kernel
theorem dX8_hasRoom_82 : decode cX8_hasRoom 82 = .ok (.iaload, 1) := by decide +kernel
theorem dX8_hasRoom_83 : decode cX8_hasRoom 83 = .ok (.iconst (-1), 1) := by decide +kernel
theorem dX8_hasRoom_84 : decode cX8_hasRoom 84 = .ok (.if_icmp .eq 5, 3) := by decide +kernel
theorem dX8_hasRoom_87 : decode cX8_hasRoom 87 = .ok (.iconst 0, 1) := by decide +kernel
theorem dX8_hasRoom_88 : decode cX8_hasRoom 88 = .ok (.ireturn, 1) := by decide +kernel
theorem dX8_hasRoom_89 : decode cX8_hasRoom 89 = .ok (.iinc 4 1, 3) := by decide +kernel
theorem dX8_hasRoom_92 : decode cX8_hasRoom 92 = .ok (.goto (-63), 3) := by decide +kernel
theorem dX8_hasRoom_95 : decode cX8_hasRoom 95 = .ok (.iconst 1, 1) := by decide +kernel
theorem dX8_hasRoom_96 : decode cX8_hasRoom 96 = .ok (.ireturn, 1) := by decide +kernel
theorem dX8_fibreWorth_0 : decode cX8_fibreWorth 0 = .ok (.aload_n 0, 1) := by decide +kernel
theorem dX8_fibreWorth_1 : decode cX8_fibreWorth 1 = .ok (.getfield 23, 3) := by decide +kernel
theorem dX8_fibreWorth_4 : decode cX8_fibreWorth 4 = .ok (.aload_n 1, 1) := by decide +kernel
theorem dX8_fibreWorth_5 : decode cX8_fibreWorth 5 = .ok (.getfield 46, 3) := by decide +kernel
theorem dX8_fibreWorth_8 : decode cX8_fibreWorth 8 = .ok (.iload_n 2, 1) := by decide +kernel
theorem dX8_fibreWorth_9 : decode cX8_fibreWorth 9 = .ok (.invokevirtual 49, 3) := by decide +kernel
theorem dX8_fibreWorth_12 : decode cX8_fibreWorth 12 = .ok (.istore 4, 2) := by decide +kernel
theorem dX8_fibreWorth_14 : decode cX8_fibreWorth 14 = .ok (.aload_n 0, 1) := by decide +kernel
theorem dX8_fibreWorth_15 : decode cX8_fibreWorth 15 = .ok (.getfield 27, 3) := by decide +kernel
theorem dX8_fibreWorth_18 : decode cX8_fibreWorth 18 = .ok (.aload_n 1, 1) := by decide +kernel
theorem dX8_fibreWorth_19 : decode cX8_fibreWorth 19 = .ok (.getfield 53, 3) := by decide +kernel
theorem dX8_fibreWorth_22 : decode cX8_fibreWorth 22 = .ok (.iload_n 3, 1) := by decide +kernel
theorem dX8_fibreWorth_23 : decode cX8_fibreWorth 23 = .ok (.invokevirtual 49, 3) := by decide +kernel
theorem dX8_fibreWorth_26 : decode cX8_fibreWorth 26 = .ok (.istore 5, 2) := by decide +kernel
theorem dX8_fibreWorth_28 : decode cX8_fibreWorth 28 = .ok (.iload 4, 2) := by decide +kernel
theorem dX8_fibreWorth_30 : decode cX8_fibreWorth 30 = .ok (.iconst (-1), 1) := by decide +kernel
theorem dX8_fibreWorth_31 : decode cX8_fibreWorth 31 = .ok (.if_icmp .eq 9, 3) := by decide +kernel
theorem dX8_fibreWorth_34 : decode cX8_fibreWorth 34 = .ok (.iload 5, 2) := by decide +kernel
theorem dX8_fibreWorth_36 : decode cX8_fibreWorth 36 = .ok (.iconst (-1), 1) := by decide +kernel
theorem dX8_fibreWorth_37 : decode cX8_fibreWorth 37 = .ok (.if_icmp .ne 5, 3) := by decide +kernel
theorem dX8_fibreWorth_40 : decode cX8_fibreWorth 40 = .ok (.iconst (-1), 1) := by decide +kernel
theorem dX8_fibreWorth_41 : decode cX8_fibreWorth 41 = .ok (.ireturn, 1) := by decide +kernel
theorem dX8_fibreWorth_42 : decode cX8_fibreWorth 42 = .ok (.iload 4, 2) := by decide +kernel
theorem dX8_fibreWorth_44 : decode cX8_fibreWorth 44 = .ok (.iload 5, 2) := by decide +kernel
theorem dX8_fibreWorth_46 : decode cX8_fibreWorth 46 = .ok (.iadd, 1) := by decide +kernel
theorem dX8_fibreWorth_47 : decode cX8_fibreWorth 47 = .ok (.ireturn, 1) := by decide +kernel
theorem dX8_sidesOf_0 : decode cX8_sidesOf 0 = .ok (.iconst 0, 1) := by decide +kernel
theorem dX8_sidesOf_1 : decode cX8_sidesOf 1 = .ok (.istore 4, 2) := by decide +kernel
theorem dX8_sidesOf_3 : decode cX8_sidesOf 3 = .ok (.iconst 0, 1) := by decide +kernel
theorem dX8_sidesOf_4 : decode cX8_sidesOf 4 = .ok (.istore 5, 2) := by decide +kernel
theorem dX8_sidesOf_6 : decode cX8_sidesOf 6 = .ok (.iload 5, 2) := by decide +kernel
theorem dX8_sidesOf_8 : decode cX8_sidesOf 8 = .ok (.aload_n 1, 1) := by decide +kernel
theorem dX8_sidesOf_9 : decode cX8_sidesOf 9 = .ok (.getfield 34, 3) := by decide +kernel
theorem dX8_sidesOf_12 : decode cX8_sidesOf 12 = .ok (.if_icmp .ge 79, 3) := by decide +kernel
theorem dX8_sidesOf_15 : decode cX8_sidesOf 15 = .ok (.iload_n 2, 1) := by decide +kernel
theorem dX8_sidesOf_16 : decode cX8_sidesOf 16 = .ok (.aload_n 1, 1) := by decide +kernel
theorem dX8_sidesOf_17 : decode cX8_sidesOf 17 = .ok (.getfield 40, 3) := by decide +kernel
theorem dX8_sidesOf_20 : decode cX8_sidesOf 20 = .ok (.iload 5, 2) := by decide +kernel
theorem dX8_sidesOf_22 : decode cX8_sidesOf 22 = .ok (.iaload, 1) := by decide +kernel
theorem dX8_sidesOf_23 : decode cX8_sidesOf 23 = .ok (.iadd, 1) := by decide +kernel
theorem dX8_sidesOf_24 : decode cX8_sidesOf 24 = .ok (.istore 6, 2) := by decide +kernel
theorem dX8_sidesOf_26 : decode cX8_sidesOf 26 = .ok (.iload_n 3, 1) := by decide +kernel
theorem dX8_sidesOf_27 : decode cX8_sidesOf 27 = .ok (.aload_n 1, 1) := by decide +kernel
theorem dX8_sidesOf_28 : decode cX8_sidesOf 28 = .ok (.getfield 43, 3) := by decide +kernel
theorem dX8_sidesOf_31 : decode cX8_sidesOf 31 = .ok (.iload 5, 2) := by decide +kernel
theorem dX8_sidesOf_33 : decode cX8_sidesOf 33 = .ok (.iaload, 1) := by decide +kernel
theorem dX8_sidesOf_34 : decode cX8_sidesOf 34 = .ok (.iadd, 1) := by decide +kernel
theorem dX8_sidesOf_35 : decode cX8_sidesOf 35 = .ok (.istore 7, 2) := by decide +kernel
theorem dX8_sidesOf_37 : decode cX8_sidesOf 37 = .ok (.iload 4, 2) := by decide +kernel
theorem dX8_sidesOf_39 : decode cX8_sidesOf 39 = .ok (.aload_n 0, 1) := by decide +kernel
theorem dX8_sidesOf_40 : decode cX8_sidesOf 40 = .ok (.iload 6, 2) := by decide +kernel
theorem dX8_sidesOf_42 : decode cX8_sidesOf 42 = .ok (.iconst 1, 1) := by decide +kernel
theorem dX8_sidesOf_43 : decode cX8_sidesOf 43 = .ok (.isub, 1) := by decide +kernel
theorem dX8_sidesOf_44 : decode cX8_sidesOf 44 = .ok (.iload 7, 2) := by decide +kernel
theorem dX8_sidesOf_46 : decode cX8_sidesOf 46 = .ok (.invokevirtual 55, 3) := by decide +kernel
theorem dX8_sidesOf_49 : decode cX8_sidesOf 49 = .ok (.aload_n 0, 1) := by decide +kernel
theorem dX8_sidesOf_50 : decode cX8_sidesOf 50 = .ok (.iload 6, 2) := by decide +kernel
theorem dX8_sidesOf_52 : decode cX8_sidesOf 52 = .ok (.iconst 1, 1) := by decide +kernel
theorem dX8_sidesOf_53 : decode cX8_sidesOf 53 = .ok (.iadd, 1) := by decide +kernel
theorem dX8_sidesOf_54 : decode cX8_sidesOf 54 = .ok (.iload 7, 2) := by decide +kernel
theorem dX8_sidesOf_56 : decode cX8_sidesOf 56 = .ok (.invokevirtual 55, 3) := by decide +kernel
theorem dX8_sidesOf_59 : decode cX8_sidesOf 59 = .ok (.iadd, 1) := by decide +kernel
theorem dX8_sidesOf_60 : decode cX8_sidesOf 60 = .ok (.aload_n 0, 1) := by decide +kernel
theorem dX8_sidesOf_61 : decode cX8_sidesOf 61 = .ok (.iload 6, 2) := by decide +kernel
theorem dX8_sidesOf_63 : decode cX8_sidesOf 63 = .ok (.iload 7, 2) := by decide +kernel
theorem dX8_sidesOf_65 : decode cX8_sidesOf 65 = .ok (.iconst 1, 1) := by decide +kernel
theorem dX8_sidesOf_66 : decode cX8_sidesOf 66 = .ok (.isub, 1) := by decide +kernel
theorem dX8_sidesOf_67 : decode cX8_sidesOf 67 = .ok (.invokevirtual 55, 3) := by decide +kernel
theorem dX8_sidesOf_70 : decode cX8_sidesOf 70 = .ok (.iadd, 1) := by decide +kernel
theorem dX8_sidesOf_71 : decode cX8_sidesOf 71 = .ok (.aload_n 0, 1) := by decide +kernel
theorem dX8_sidesOf_72 : decode cX8_sidesOf 72 = .ok (.iload 6, 2) := by decide +kernel
theorem dX8_sidesOf_74 : decode cX8_sidesOf 74 = .ok (.iload 7, 2) := by decide +kernel
theorem dX8_sidesOf_76 : decode cX8_sidesOf 76 = .ok (.iconst 1, 1) := by decide +kernel
theorem dX8_sidesOf_77 : decode cX8_sidesOf 77 = .ok (.iadd, 1) := by decide +kernel
theorem dX8_sidesOf_78 : decode cX8_sidesOf 78 = .ok (.invokevirtual 55, 3) := by decide +kernel
theorem dX8_sidesOf_81 : decode cX8_sidesOf 81 = .ok (.iadd, 1) := by decide +kernel
theorem dX8_sidesOf_82 : decode cX8_sidesOf 82 = .ok (.iadd, 1) := by decide +kernel
theorem dX8_sidesOf_83 : decode cX8_sidesOf 83 = .ok (.istore 4, 2) := by decide +kernel
theorem dX8_sidesOf_85 : decode cX8_sidesOf 85 = .ok (.iinc 5 1, 3) := by decide +kernel
theorem dX8_sidesOf_88 : decode cX8_sidesOf 88 = .ok (.goto (-82), 3) := by decide +kernel
theorem dX8_sidesOf_91 : decode cX8_sidesOf 91 = .ok (.iload 4, 2) := by decide +kernel
theorem dX8_sidesOf_93 : decode cX8_sidesOf 93 = .ok (.ireturn, 1) := by decide +kernel
theorem dX8_taken_0 : decode cX8_taken 0 = .ok (.aload_n 0, 1) := by decide +kernel
theorem dX8_taken_1 : decode cX8_taken 1 = .ok (.iload_n 1, 1) := by decide +kernel
theorem dX8_taken_2 : decode cX8_taken 2 = .ok (.iload_n 2, 1) := by decide +kernel
theorem dX8_taken_3 : decode cX8_taken 3 = .ok (.invokevirtual 59, 3) := by decide +kernel
theorem dX8_taken_6 : decode cX8_taken 6 = .ok (.iconst (-1), 1) := by decide +kernel
theorem dX8_taken_7 : decode cX8_taken 7 = .ok (.if_icmp .ne 7, 3) := by decide +kernel
theorem dX8_taken_10 : decode cX8_taken 10 = .ok (.iconst 0, 1) := by decide +kernel
theorem dX8_taken_11 : decode cX8_taken 11 = .ok (.goto 4, 3) := by decide +kernel
theorem dX8_taken_14 : decode cX8_taken 14 = .ok (.iconst 1, 1) := by decide +kernel
theorem dX8_taken_15 : decode cX8_taken 15 = .ok (.ireturn, 1) := by decide +kernel
theorem dX8_allRunsCan_0 : decode cX8_allRunsCan 0 = .ok (.iconst 0, 1) := by decide +kernel
theorem dX8_allRunsCan_1 : decode cX8_allRunsCan 1 = .ok (.istore_n 2, 1) := by decide +kernel
theorem dX8_allRunsCan_2 : decode cX8_allRunsCan 2 = .ok (.iload_n 2, 1) := by decide +kernel
theorem dX8_allRunsCan_3 : decode cX8_allRunsCan 3 = .ok (.bipush 16, 2) := by decide +kernel
theorem dX8_allRunsCan_5 : decode cX8_allRunsCan 5 = .ok (.if_icmp .ge 23, 3) := by decide +kernel
theorem dX8_allRunsCan_8 : decode cX8_allRunsCan 8 = .ok (.aload_n 0, 1) := by decide +kernel
theorem dX8_allRunsCan_9 : decode cX8_allRunsCan 9 = .ok (.iload_n 2, 1) := by decide +kernel
theorem dX8_allRunsCan_10 : decode cX8_allRunsCan 10 = .ok (.iconst 0, 1) := by decide +kernel
theorem dX8_allRunsCan_11 : decode cX8_allRunsCan 11 = .ok (.bipush 31, 2) := by decide +kernel
theorem dX8_allRunsCan_13 : decode cX8_allRunsCan 13 = .ok (.aload_n 1, 1) := by decide +kernel
theorem dX8_allRunsCan_14 : decode cX8_allRunsCan 14 = .ok (.invokevirtual 62, 3) := by decide +kernel
theorem dX8_allRunsCan_17 : decode cX8_allRunsCan 17 = .ok (.ifCond .ne 5, 3) := by decide +kernel
theorem dX8_allRunsCan_20 : decode cX8_allRunsCan 20 = .ok (.iconst 0, 1) := by decide +kernel
theorem dX8_allRunsCan_21 : decode cX8_allRunsCan 21 = .ok (.ireturn, 1) := by decide +kernel
theorem dX8_allRunsCan_22 : decode cX8_allRunsCan 22 = .ok (.iinc 2 1, 3) := by decide +kernel
theorem dX8_allRunsCan_25 : decode cX8_allRunsCan 25 = .ok (.goto (-23), 3) := by decide +kernel
theorem dX8_allRunsCan_28 : decode cX8_allRunsCan 28 = .ok (.iconst 1, 1) := by decide +kernel
theorem dX8_allRunsCan_29 : decode cX8_allRunsCan 29 = .ok (.ireturn, 1) := by decide +kernel
theorem dX8_runsCanWith_0 : decode cX8_runsCanWith 0 = .ok (.aload 4, 2) := by decide +kernel
theorem dX8_runsCanWith_2 : decode cX8_runsCanWith 2 = .ok (.getfield 66, 3) := by decide +kernel
theorem dX8_runsCanWith_5 : decode cX8_runsCanWith 5 = .ok (.ifCond .ne 5, 3) := by decide +kernel
theorem dX8_runsCanWith_8 : decode cX8_runsCanWith 8 = .ok (.iconst 1, 1) := by decide +kernel
theorem dX8_runsCanWith_9 : decode cX8_runsCanWith 9 = .ok (.ireturn, 1) := by decide +kernel
theorem dX8_runsCanWith_10 : decode cX8_runsCanWith 10 = .ok (.aload_n 0, 1) := by decide +kernel
theorem dX8_runsCanWith_11 : decode cX8_runsCanWith 11 = .ok (.aload_n 1, 1) := by decide +kernel
theorem dX8_runsCanWith_12 : decode cX8_runsCanWith 12 = .ok (.iload_n 2, 1) := by decide +kernel
theorem dX8_runsCanWith_13 : decode cX8_runsCanWith 13 = .ok (.iload_n 3, 1) := by decide +kernel
theorem dX8_runsCanWith_14 : decode cX8_runsCanWith 14 = .ok (.invokevirtual 71, 3) := by decide +kernel
theorem dX8_runsCanWith_17 : decode cX8_runsCanWith 17 = .ok (.iconst 1, 1) := by decide +kernel
theorem dX8_runsCanWith_18 : decode cX8_runsCanWith 18 = .ok (.istore 5, 2) := by decide +kernel
theorem dX8_runsCanWith_20 : decode cX8_runsCanWith 20 = .ok (.iconst 0, 1) := by decide +kernel
theorem dX8_runsCanWith_21 : decode cX8_runsCanWith 21 = .ok (.istore 6, 2) := by decide +kernel
theorem dX8_runsCanWith_23 : decode cX8_runsCanWith 23 = .ok (.iload 6, 2) := by decide +kernel
theorem dX8_runsCanWith_25 : decode cX8_runsCanWith 25 = .ok (.iconst 5, 1) := by decide +kernel
theorem dX8_runsCanWith_26 : decode cX8_runsCanWith 26 = .ok (.if_icmp .ge 55, 3) := by decide +kernel
theorem dX8_runsCanWith_29 : decode cX8_runsCanWith 29 = .ok (.iload 5, 2) := by decide +kernel
theorem dX8_runsCanWith_31 : decode cX8_runsCanWith 31 = .ok (.ifCond .eq 50, 3) := by decide +kernel
theorem dX8_runsCanWith_34 : decode cX8_runsCanWith 34 = .ok (.aload_n 1, 1) := by decide +kernel
theorem dX8_runsCanWith_35 : decode cX8_runsCanWith 35 = .ok (.getfield 75, 3) := by decide +kernel
theorem dX8_runsCanWith_38 : decode cX8_runsCanWith 38 = .ok (.iload 6, 2) := by decide +kernel
theorem dX8_runsCanWith_40 : decode cX8_runsCanWith 40 = .ok (.iaload, 1) := by decide +kernel
theorem dX8_runsCanWith_41 : decode cX8_runsCanWith 41 = .ok (.iconst (-1), 1) := by decide +kernel
theorem dX8_runsCanWith_42 : decode cX8_runsCanWith 42 = .ok (.if_icmp .eq 33, 3) := by decide +kernel
theorem dX8_runsCanWith_45 : decode cX8_runsCanWith 45 = .ok (.aload_n 0, 1) := by decide +kernel
theorem dX8_runsCanWith_46 : decode cX8_runsCanWith 46 = .ok (.iload_n 2, 1) := by decide +kernel
theorem dX8_runsCanWith_47 : decode cX8_runsCanWith 47 = .ok (.iload 6, 2) := by decide +kernel
theorem dX8_runsCanWith_49 : decode cX8_runsCanWith 49 = .ok (.iadd, 1) := by decide +kernel
theorem dX8_runsCanWith_50 : decode cX8_runsCanWith 50 = .ok (.iload_n 3, 1) := by decide +kernel
theorem dX8_runsCanWith_51 : decode cX8_runsCanWith 51 = .ok (.aload_n 1, 1) := by decide +kernel
theorem dX8_runsCanWith_52 : decode cX8_runsCanWith 52 = .ok (.getfield 78, 3) := by decide +kernel
theorem dX8_runsCanWith_55 : decode cX8_runsCanWith 55 = .ok (.iload 6, 2) := by decide +kernel
theorem dX8_runsCanWith_57 : decode cX8_runsCanWith 57 = .ok (.iaload, 1) := by decide +kernel
theorem dX8_runsCanWith_58 : decode cX8_runsCanWith 58 = .ok (.iadd, 1) := by decide +kernel
theorem dX8_runsCanWith_59 : decode cX8_runsCanWith 59 = .ok (.iload_n 3, 1) := by decide +kernel
theorem dX8_runsCanWith_60 : decode cX8_runsCanWith 60 = .ok (.aload_n 1, 1) := by decide +kernel
theorem dX8_runsCanWith_61 : decode cX8_runsCanWith 61 = .ok (.getfield 75, 3) := by decide +kernel
theorem dX8_runsCanWith_64 : decode cX8_runsCanWith 64 = .ok (.iload 6, 2) := by decide +kernel
theorem dX8_runsCanWith_66 : decode cX8_runsCanWith 66 = .ok (.iaload, 1) := by decide +kernel
theorem dX8_runsCanWith_67 : decode cX8_runsCanWith 67 = .ok (.iadd, 1) := by decide +kernel
theorem dX8_runsCanWith_68 : decode cX8_runsCanWith 68 = .ok (.aload 4, 2) := by decide +kernel
theorem dX8_runsCanWith_70 : decode cX8_runsCanWith 70 = .ok (.invokevirtual 62, 3) := by decide +kernel
theorem dX8_runsCanWith_73 : decode cX8_runsCanWith 73 = .ok (.istore 5, 2) := by decide +kernel
theorem dX8_runsCanWith_75 : decode cX8_runsCanWith 75 = .ok (.iinc 6 1, 3) := by decide +kernel
theorem dX8_runsCanWith_78 : decode cX8_runsCanWith 78 = .ok (.goto (-55), 3) := by decide +kernel
theorem dX8_runsCanWith_81 : decode cX8_runsCanWith 81 = .ok (.aload_n 0, 1) := by decide +kernel
theorem dX8_runsCanWith_82 : decode cX8_runsCanWith 82 = .ok (.aload_n 1, 1) := by decide +kernel
theorem dX8_runsCanWith_83 : decode cX8_runsCanWith 83 = .ok (.iload_n 2, 1) := by decide +kernel
theorem dX8_runsCanWith_84 : decode cX8_runsCanWith 84 = .ok (.iload_n 3, 1) := by decide +kernel
theorem dX8_runsCanWith_85 : decode cX8_runsCanWith 85 = .ok (.invokevirtual 81, 3) := by decide +kernel
theorem dX8_runsCanWith_88 : decode cX8_runsCanWith 88 = .ok (.iload 5, 2) := by decide +kernel
theorem dX8_runsCanWith_90 : decode cX8_runsCanWith 90 = .ok (.ireturn, 1) := by decide +kernel
theorem dX8_runsCan_0 : decode cX8_runsCan 0 = .ok (.iconst 0, 1) := by decide +kernel
theorem dX8_runsCan_1 : decode cX8_runsCan 1 = .ok (.istore 5, 2) := by decide +kernel
theorem dX8_runsCan_3 : decode cX8_runsCan 3 = .ok (.aload_n 0, 1) := by decide +kernel
theorem dX8_runsCan_4 : decode cX8_runsCan 4 = .ok (.iload_n 1, 1) := by decide +kernel
theorem dX8_runsCan_5 : decode cX8_runsCan 5 = .ok (.iload_n 2, 1) := by decide +kernel
theorem dX8_runsCan_6 : decode cX8_runsCan 6 = .ok (.invokevirtual 84, 3) := by decide +kernel
theorem dX8_runsCan_9 : decode cX8_runsCan 9 = .ok (.istore 6, 2) := by decide +kernel
theorem dX8_runsCan_11 : decode cX8_runsCan 11 = .ok (.iload 6, 2) := by decide +kernel
theorem dX8_runsCan_13 : decode cX8_runsCan 13 = .ok (.bipush 32, 2) := by decide +kernel
theorem dX8_runsCan_15 : decode cX8_runsCan 15 = .ok (.if_icmp .gt 111, 3) := by decide +kernel
theorem dX8_runsCan_18 : decode cX8_runsCan 18 = .ok (.aload_n 0, 1) := by decide +kernel
theorem dX8_runsCan_19 : decode cX8_runsCan 19 = .ok (.iload_n 1, 1) := by decide +kernel
theorem dX8_runsCan_20 : decode cX8_runsCan 20 = .ok (.iload 6, 2) := by decide +kernel
theorem dX8_runsCan_22 : decode cX8_runsCan 22 = .ok (.invokevirtual 87, 3) := by decide +kernel
theorem dX8_runsCan_25 : decode cX8_runsCan 25 = .ok (.istore 7, 2) := by decide +kernel
theorem dX8_runsCan_27 : decode cX8_runsCan 27 = .ok (.iload 7, 2) := by decide +kernel
theorem dX8_runsCan_29 : decode cX8_runsCan 29 = .ok (.invokestatic 90, 3) := by decide +kernel
theorem dX8_runsCan_32 : decode cX8_runsCan 32 = .ok (.ifCond .eq 45, 3) := by decide +kernel
theorem dX8_runsCan_35 : decode cX8_runsCan 35 = .ok (.iload 5, 2) := by decide +kernel
theorem dX8_runsCan_37 : decode cX8_runsCan 37 = .ok (.ifCond .ne 27, 3) := by decide +kernel
theorem dX8_runsCan_40 : decode cX8_runsCan 40 = .ok (.aload 4, 2) := by decide +kernel
theorem dX8_runsCan_42 : decode cX8_runsCan 42 = .ok (.aload_n 0, 1) := by decide +kernel
theorem dX8_runsCan_43 : decode cX8_runsCan 43 = .ok (.iload_n 1, 1) := by decide +kernel
theorem dX8_runsCan_44 : decode cX8_runsCan 44 = .ok (.iload 6, 2) := by decide +kernel
theorem dX8_runsCan_46 : decode cX8_runsCan 46 = .ok (.iconst 1, 1) := by decide +kernel
theorem dX8_runsCan_47 : decode cX8_runsCan 47 = .ok (.isub, 1) := by decide +kernel
theorem dX8_runsCan_48 : decode cX8_runsCan 48 = .ok (.invokevirtual 87, 3) := by decide +kernel
theorem dX8_runsCan_51 : decode cX8_runsCan 51 = .ok (.bipush 44, 2) := by decide +kernel
theorem dX8_runsCan_53 : decode cX8_runsCan 53 = .ok (.if_icmp .ne 7, 3) := by decide +kernel
theorem dX8_runsCan_56 : decode cX8_runsCan 56 = .ok (.iconst 1, 1) := by decide +kernel
theorem dX8_runsCan_57 : decode cX8_runsCan 57 = .ok (.goto 4, 3) := by decide +kernel
theorem dX8_runsCan_60 : decode cX8_runsCan 60 = .ok (.iconst 0, 1) := by decide +kernel
theorem dX8_runsCan_61 : decode cX8_runsCan 61 = .ok (.invokevirtual 94, 3) := by decide +kernel
theorem dX8_runsCan_64 : decode cX8_runsCan 64 = .ok (.iconst 1, 1) := by decide +kernel
theorem dX8_runsCan_65 : decode cX8_runsCan 65 = .ok (.istore 5, 2) := by decide +kernel
theorem dX8_runsCan_67 : decode cX8_runsCan 67 = .ok (.aload 4, 2) := by decide +kernel
theorem dX8_runsCan_69 : decode cX8_runsCan 69 = .ok (.iload 7, 2) := by decide +kernel
theorem dX8_runsCan_71 : decode cX8_runsCan 71 = .ok (.invokevirtual 98, 3) := by decide +kernel
theorem dX8_runsCan_74 : decode cX8_runsCan 74 = .ok (.goto 46, 3) := by decide +kernel
theorem dX8_runsCan_77 : decode cX8_runsCan 77 = .ok (.iload 5, 2) := by decide +kernel
theorem dX8_runsCan_79 : decode cX8_runsCan 79 = .ok (.ifCond .eq 30, 3) := by decide +kernel
theorem dX8_runsCan_82 : decode cX8_runsCan 82 = .ok (.aload 4, 2) := by decide +kernel
theorem dX8_runsCan_84 : decode cX8_runsCan 84 = .ok (.iload 7, 2) := by decide +kernel
theorem dX8_runsCan_86 : decode cX8_runsCan 86 = .ok (.bipush 44, 2) := by decide +kernel
theorem dX8_runsCan_88 : decode cX8_runsCan 88 = .ok (.if_icmp .ne 7, 3) := by decide +kernel
theorem dX8_runsCan_91 : decode cX8_runsCan 91 = .ok (.iconst 1, 1) := by decide +kernel
theorem dX8_runsCan_92 : decode cX8_runsCan 92 = .ok (.goto 4, 3) := by decide +kernel
theorem dX8_runsCan_95 : decode cX8_runsCan 95 = .ok (.iconst 0, 1) := by decide +kernel
theorem dX8_runsCan_96 : decode cX8_runsCan 96 = .ok (.invokevirtual 101, 3) := by decide +kernel
theorem dX8_runsCan_99 : decode cX8_runsCan 99 = .ok (.aload 4, 2) := by decide +kernel
theorem dX8_runsCan_101 : decode cX8_runsCan 101 = .ok (.invokevirtual 104, 3) := by decide +kernel
theorem dX8_runsCan_104 : decode cX8_runsCan 104 = .ok (.ifCond .ne 5, 3) := by decide +kernel
theorem dX8_runsCan_107 : decode cX8_runsCan 107 = .ok (.iconst 0, 1) := by decide +kernel
theorem dX8_runsCan_108 : decode cX8_runsCan 108 = .ok (.ireturn, 1) := by decide +kernel
theorem dX8_runsCan_109 : decode cX8_runsCan 109 = .ok (.iconst 0, 1) := by decide +kernel
theorem dX8_runsCan_110 : decode cX8_runsCan 110 = .ok (.istore 5, 2) := by decide +kernel
theorem dX8_runsCan_112 : decode cX8_runsCan 112 = .ok (.iload 6, 2) := by decide +kernel
theorem dX8_runsCan_114 : decode cX8_runsCan 114 = .ok (.iload_n 3, 1) := by decide +kernel
theorem dX8_runsCan_115 : decode cX8_runsCan 115 = .ok (.if_icmp .le 5, 3) := by decide +kernel
theorem dX8_runsCan_118 : decode cX8_runsCan 118 = .ok (.iconst 1, 1) := by decide +kernel
theorem dX8_runsCan_119 : decode cX8_runsCan 119 = .ok (.ireturn, 1) := by decide +kernel
theorem dX8_runsCan_120 : decode cX8_runsCan 120 = .ok (.iinc 6 1, 3) := by decide +kernel
theorem dX8_runsCan_123 : decode cX8_runsCan 123 = .ok (.goto (-112), 3) := by decide +kernel
theorem dX8_runsCan_126 : decode cX8_runsCan 126 = .ok (.iconst 1, 1) := by decide +kernel
theorem dX8_runsCan_127 : decode cX8_runsCan 127 = .ok (.ireturn, 1) := by decide +kernel
theorem dX8_startOfRun_0 : decode cX8_startOfRun 0 = .ok (.iload_n 2, 1) := by decide +kernel
theorem dX8_startOfRun_1 : decode cX8_startOfRun 1 = .ok (.istore_n 3, 1) := by decide +kernel
theorem dX8_startOfRun_2 : decode cX8_startOfRun 2 = .ok (.iload_n 3, 1) := by decide +kernel
theorem dX8_startOfRun_3 : decode cX8_startOfRun 3 = .ok (.ifCond .le 23, 3) := by decide +kernel
theorem dX8_startOfRun_6 : decode cX8_startOfRun 6 = .ok (.aload_n 0, 1) := by decide +kernel
theorem dX8_startOfRun_7 : decode cX8_startOfRun 7 = .ok (.iload_n 1, 1) := by decide +kernel
theorem dX8_startOfRun_8 : decode cX8_startOfRun 8 = .ok (.iload_n 3, 1) := by decide +kernel
theorem dX8_startOfRun_9 : decode cX8_startOfRun 9 = .ok (.iconst 1, 1) := by decide +kernel
theorem dX8_startOfRun_10 : decode cX8_startOfRun 10 = .ok (.isub, 1) := by decide +kernel
theorem dX8_startOfRun_11 : decode cX8_startOfRun 11 = .ok (.invokevirtual 87, 3) := by decide +kernel
theorem dX8_startOfRun_14 : decode cX8_startOfRun 14 = .ok (.invokestatic 90, 3) := by decide +kernel
theorem dX8_startOfRun_17 : decode cX8_startOfRun 17 = .ok (.ifCond .eq 9, 3) := by decide +kernel
theorem dX8_startOfRun_20 : decode cX8_startOfRun 20 = .ok (.iinc 3 (-1), 3) := by decide +kernel
theorem dX8_startOfRun_23 : decode cX8_startOfRun 23 = .ok (.goto (-21), 3) := by decide +kernel
theorem dX8_startOfRun_26 : decode cX8_startOfRun 26 = .ok (.iload_n 3, 1) := by decide +kernel
theorem dX8_startOfRun_27 : decode cX8_startOfRun 27 = .ok (.ireturn, 1) := by decide +kernel
theorem dX8_followRun_0 : decode cX8_followRun 0 = .ok (.aload_n 0, 1) := by decide +kernel
theorem dX8_followRun_1 : decode cX8_followRun 1 = .ok (.iload_n 1, 1) := by decide +kernel
theorem dX8_followRun_2 : decode cX8_followRun 2 = .ok (.iload_n 2, 1) := by decide +kernel
theorem dX8_followRun_3 : decode cX8_followRun 3 = .ok (.invokevirtual 84, 3) := by decide +kernel
theorem dX8_followRun_6 : decode cX8_followRun 6 = .ok (.istore 4, 2) := by decide +kernel
theorem dX8_followRun_8 : decode cX8_followRun 8 = .ok (.aload_n 3, 1) := by decide +kernel
theorem dX8_followRun_9 : decode cX8_followRun 9 = .ok (.aload_n 0, 1) := by decide +kernel
theorem dX8_followRun_10 : decode cX8_followRun 10 = .ok (.iload_n 1, 1) := by decide +kernel
theorem dX8_followRun_11 : decode cX8_followRun 11 = .ok (.iload 4, 2) := by decide +kernel
theorem dX8_followRun_13 : decode cX8_followRun 13 = .ok (.iconst 1, 1) := by decide +kernel
theorem dX8_followRun_14 : decode cX8_followRun 14 = .ok (.isub, 1) := by decide +kernel
theorem dX8_followRun_15 : decode cX8_followRun 15 = .ok (.invokevirtual 87, 3) := by decide +kernel
theorem dX8_followRun_18 : decode cX8_followRun 18 = .ok (.bipush 44, 2) := by decide +kernel
theorem dX8_followRun_20 : decode cX8_followRun 20 = .ok (.if_icmp .ne 7, 3) := by decide +kernel
theorem dX8_followRun_23 : decode cX8_followRun 23 = .ok (.iconst 1, 1) := by decide +kernel
theorem dX8_followRun_24 : decode cX8_followRun 24 = .ok (.goto 4, 3) := by decide +kernel
theorem dX8_followRun_27 : decode cX8_followRun 27 = .ok (.iconst 0, 1) := by decide +kernel
theorem dX8_followRun_28 : decode cX8_followRun 28 = .ok (.invokevirtual 94, 3) := by decide +kernel
theorem dX8_followRun_31 : decode cX8_followRun 31 = .ok (.iload 4, 2) := by decide +kernel
theorem dX8_followRun_33 : decode cX8_followRun 33 = .ok (.istore 5, 2) := by decide +kernel
theorem dX8_followRun_35 : decode cX8_followRun 35 = .ok (.iload 5, 2) := by decide +kernel
theorem dX8_followRun_37 : decode cX8_followRun 37 = .ok (.bipush 32, 2) := by decide +kernel
theorem dX8_followRun_39 : decode cX8_followRun 39 = .ok (.if_icmp .ge 33, 3) := by decide +kernel
theorem dX8_followRun_42 : decode cX8_followRun 42 = .ok (.aload_n 0, 1) := by decide +kernel
theorem dX8_followRun_43 : decode cX8_followRun 43 = .ok (.iload_n 1, 1) := by decide +kernel
theorem dX8_followRun_44 : decode cX8_followRun 44 = .ok (.iload 5, 2) := by decide +kernel
theorem dX8_followRun_46 : decode cX8_followRun 46 = .ok (.invokevirtual 87, 3) := by decide +kernel
theorem dX8_followRun_49 : decode cX8_followRun 49 = .ok (.invokestatic 90, 3) := by decide +kernel
theorem dX8_followRun_52 : decode cX8_followRun 52 = .ok (.ifCond .eq 20, 3) := by decide +kernel
theorem dX8_followRun_55 : decode cX8_followRun 55 = .ok (.aload_n 3, 1) := by decide +kernel
theorem dX8_followRun_56 : decode cX8_followRun 56 = .ok (.aload_n 0, 1) := by decide +kernel
theorem dX8_followRun_57 : decode cX8_followRun 57 = .ok (.iload_n 1, 1) := by decide +kernel
theorem dX8_followRun_58 : decode cX8_followRun 58 = .ok (.iload 5, 2) := by decide +kernel
theorem dX8_followRun_60 : decode cX8_followRun 60 = .ok (.invokevirtual 87, 3) := by decide +kernel
theorem dX8_followRun_63 : decode cX8_followRun 63 = .ok (.invokevirtual 98, 3) := by decide +kernel
theorem dX8_followRun_66 : decode cX8_followRun 66 = .ok (.iinc 5 1, 3) := by decide +kernel
theorem dX8_followRun_69 : decode cX8_followRun 69 = .ok (.goto (-34), 3) := by decide +kernel
theorem dX8_followRun_72 : decode cX8_followRun 72 = .ok (.aload_n 3, 1) := by decide +kernel
theorem dX8_followRun_73 : decode cX8_followRun 73 = .ok (.aload_n 0, 1) := by decide +kernel
theorem dX8_followRun_74 : decode cX8_followRun 74 = .ok (.iload_n 1, 1) := by decide +kernel
theorem dX8_followRun_75 : decode cX8_followRun 75 = .ok (.iload 5, 2) := by decide +kernel
theorem dX8_followRun_77 : decode cX8_followRun 77 = .ok (.invokevirtual 87, 3) := by decide +kernel
theorem dX8_followRun_80 : decode cX8_followRun 80 = .ok (.bipush 44, 2) := by decide +kernel
theorem dX8_followRun_82 : decode cX8_followRun 82 = .ok (.if_icmp .ne 7, 3) := by decide +kernel
theorem dX8_followRun_85 : decode cX8_followRun 85 = .ok (.iconst 1, 1) := by decide +kernel
theorem dX8_followRun_86 : decode cX8_followRun 86 = .ok (.goto 4, 3) := by decide +kernel
theorem dX8_followRun_89 : decode cX8_followRun 89 = .ok (.iconst 0, 1) := by decide +kernel
theorem dX8_followRun_90 : decode cX8_followRun 90 = .ok (.invokevirtual 101, 3) := by decide +kernel
theorem dX8_followRun_93 : decode cX8_followRun 93 = .ok (.return_, 1) := by decide +kernel
theorem dX8_wholeWorth_0 : decode cX8_wholeWorth 0 = .ok (.aload_n 0, 1) := by decide +kernel
theorem dX8_wholeWorth_1 : decode cX8_wholeWorth 1 = .ok (.getfield 23, 3) := by decide +kernel
theorem dX8_wholeWorth_4 : decode cX8_wholeWorth 4 = .ok (.invokevirtual 108, 3) := by decide +kernel
theorem dX8_wholeWorth_7 : decode cX8_wholeWorth 7 = .ok (.aload_n 0, 1) := by decide +kernel
theorem dX8_wholeWorth_8 : decode cX8_wholeWorth 8 = .ok (.getfield 27, 3) := by decide +kernel
theorem dX8_wholeWorth_11 : decode cX8_wholeWorth 11 = .ok (.invokevirtual 108, 3) := by decide +kernel
theorem dX8_wholeWorth_14 : decode cX8_wholeWorth 14 = .ok (.iadd, 1) := by decide +kernel
theorem dX8_wholeWorth_15 : decode cX8_wholeWorth 15 = .ok (.istore_n 1, 1) := by decide +kernel
theorem dX8_wholeWorth_16 : decode cX8_wholeWorth 16 = .ok (.iconst 0, 1) := by decide +kernel
theorem dX8_wholeWorth_17 : decode cX8_wholeWorth 17 = .ok (.istore_n 2, 1) := by decide +kernel
theorem dX8_wholeWorth_18 : decode cX8_wholeWorth 18 = .ok (.iload_n 2, 1) := by decide +kernel
theorem dX8_wholeWorth_19 : decode cX8_wholeWorth 19 = .ok (.bipush 16, 2) := by decide +kernel
theorem dX8_wholeWorth_21 : decode cX8_wholeWorth 21 = .ok (.if_icmp .ge 61, 3) := by decide +kernel
theorem dX8_wholeWorth_24 : decode cX8_wholeWorth 24 = .ok (.iconst 0, 1) := by decide +kernel
theorem dX8_wholeWorth_25 : decode cX8_wholeWorth 25 = .ok (.istore_n 3, 1) := by decide +kernel
theorem dX8_wholeWorth_26 : decode cX8_wholeWorth 26 = .ok (.iload_n 3, 1) := by decide +kernel
theorem dX8_wholeWorth_27 : decode cX8_wholeWorth 27 = .ok (.bipush 32, 2) := by decide +kernel
theorem dX8_wholeWorth_29 : decode cX8_wholeWorth 29 = .ok (.if_icmp .ge 47, 3) := by decide +kernel
theorem dX8_wholeWorth_32 : decode cX8_wholeWorth 32 = .ok (.aload_n 0, 1) := by decide +kernel
theorem dX8_wholeWorth_33 : decode cX8_wholeWorth 33 = .ok (.iload_n 2, 1) := by decide +kernel
theorem dX8_wholeWorth_34 : decode cX8_wholeWorth 34 = .ok (.iload_n 3, 1) := by decide +kernel
theorem dX8_wholeWorth_35 : decode cX8_wholeWorth 35 = .ok (.invokevirtual 59, 3) := by decide +kernel
theorem dX8_wholeWorth_38 : decode cX8_wholeWorth 38 = .ok (.istore 4, 2) := by decide +kernel
theorem dX8_wholeWorth_40 : decode cX8_wholeWorth 40 = .ok (.iload_n 1, 1) := by decide +kernel
theorem dX8_wholeWorth_41 : decode cX8_wholeWorth 41 = .ok (.iload 4, 2) := by decide +kernel
theorem dX8_wholeWorth_43 : decode cX8_wholeWorth 43 = .ok (.aload_n 0, 1) := by decide +kernel
theorem dX8_wholeWorth_44 : decode cX8_wholeWorth 44 = .ok (.iload_n 2, 1) := by decide +kernel
theorem dX8_wholeWorth_45 : decode cX8_wholeWorth 45 = .ok (.iload_n 3, 1) := by decide +kernel
theorem dX8_wholeWorth_46 : decode cX8_wholeWorth 46 = .ok (.iconst 1, 1) := by decide +kernel
theorem dX8_wholeWorth_47 : decode cX8_wholeWorth 47 = .ok (.iadd, 1) := by decide +kernel
theorem dX8_wholeWorth_48 : decode cX8_wholeWorth 48 = .ok (.invokevirtual 59, 3) := by decide +kernel
theorem dX8_wholeWorth_51 : decode cX8_wholeWorth 51 = .ok (.invokestatic 112, 3) := by decide +kernel
theorem dX8_wholeWorth_54 : decode cX8_wholeWorth 54 = .ok (.iload 4, 2) := by decide +kernel
theorem dX8_wholeWorth_56 : decode cX8_wholeWorth 56 = .ok (.aload_n 0, 1) := by decide +kernel
theorem dX8_wholeWorth_57 : decode cX8_wholeWorth 57 = .ok (.iload_n 2, 1) := by decide +kernel
theorem dX8_wholeWorth_58 : decode cX8_wholeWorth 58 = .ok (.iconst 1, 1) := by decide +kernel
theorem dX8_wholeWorth_59 : decode cX8_wholeWorth 59 = .ok (.iadd, 1) := by decide +kernel
theorem dX8_wholeWorth_60 : decode cX8_wholeWorth 60 = .ok (.iload_n 3, 1) := by decide +kernel
theorem dX8_wholeWorth_61 : decode cX8_wholeWorth 61 = .ok (.invokevirtual 59, 3) := by decide +kernel
theorem dX8_wholeWorth_64 : decode cX8_wholeWorth 64 = .ok (.invokestatic 112, 3) := by decide +kernel
theorem dX8_wholeWorth_67 : decode cX8_wholeWorth 67 = .ok (.iadd, 1) := by decide +kernel
theorem dX8_wholeWorth_68 : decode cX8_wholeWorth 68 = .ok (.iadd, 1) := by decide +kernel
theorem dX8_wholeWorth_69 : decode cX8_wholeWorth 69 = .ok (.istore_n 1, 1) := by decide +kernel
theorem dX8_wholeWorth_70 : decode cX8_wholeWorth 70 = .ok (.iinc 3 1, 3) := by decide +kernel
theorem dX8_wholeWorth_73 : decode cX8_wholeWorth 73 = .ok (.goto (-47), 3) := by decide +kernel
theorem dX8_wholeWorth_76 : decode cX8_wholeWorth 76 = .ok (.iinc 2 1, 3) := by decide +kernel
theorem dX8_wholeWorth_79 : decode cX8_wholeWorth 79 = .ok (.goto (-61), 3) := by decide +kernel
theorem dX8_wholeWorth_82 : decode cX8_wholeWorth 82 = .ok (.iload_n 1, 1) := by decide +kernel
theorem dX8_wholeWorth_83 : decode cX8_wholeWorth 83 = .ok (.ireturn, 1) := by decide +kernel
theorem dX8_meet_0 : decode cX8_meet 0 = .ok (.iload_n 0, 1) := by decide +kernel
theorem dX8_meet_1 : decode cX8_meet 1 = .ok (.iconst (-1), 1) := by decide +kernel
theorem dX8_meet_2 : decode cX8_meet 2 = .ok (.if_icmp .eq 17, 3) := by decide +kernel
theorem dX8_meet_5 : decode cX8_meet 5 = .ok (.iload_n 1, 1) := by decide +kernel
theorem dX8_meet_6 : decode cX8_meet 6 = .ok (.iconst (-1), 1) := by decide +kernel
theorem dX8_meet_7 : decode cX8_meet 7 = .ok (.if_icmp .eq 12, 3) := by decide +kernel
theorem dX8_meet_10 : decode cX8_meet 10 = .ok (.iload_n 0, 1) := by decide +kernel
theorem dX8_meet_11 : decode cX8_meet 11 = .ok (.iload_n 1, 1) := by decide +kernel
theorem dX8_meet_12 : decode cX8_meet 12 = .ok (.if_icmp .eq 7, 3) := by decide +kernel
theorem dX8_meet_15 : decode cX8_meet 15 = .ok (.iconst 1, 1) := by decide +kernel
theorem dX8_meet_16 : decode cX8_meet 16 = .ok (.goto 4, 3) := by decide +kernel
theorem dX8_meet_19 : decode cX8_meet 19 = .ok (.iconst 0, 1) := by decide +kernel
theorem dX8_meet_20 : decode cX8_meet 20 = .ok (.ireturn, 1) := by decide +kernel
theorem dX8_write_0 : decode cX8_write 0 = .ok (.iconst 0, 1) := by decide +kernel
theorem dX8_write_1 : decode cX8_write 1 = .ok (.istore 4, 2) := by decide +kernel
theorem dX8_write_3 : decode cX8_write 3 = .ok (.iload 4, 2) := by decide +kernel
theorem dX8_write_5 : decode cX8_write 5 = .ok (.aload_n 1, 1) := by decide +kernel
theorem dX8_write_6 : decode cX8_write 6 = .ok (.getfield 34, 3) := by decide +kernel
theorem dX8_write_9 : decode cX8_write 9 = .ok (.if_icmp .ge 77, 3) := by decide +kernel
theorem dX8_write_12 : decode cX8_write 12 = .ok (.iload_n 2, 1) := by decide +kernel
theorem dX8_write_13 : decode cX8_write 13 = .ok (.aload_n 1, 1) := by decide +kernel
theorem dX8_write_14 : decode cX8_write 14 = .ok (.getfield 40, 3) := by decide +kernel
theorem dX8_write_17 : decode cX8_write 17 = .ok (.iload 4, 2) := by decide +kernel
theorem dX8_write_19 : decode cX8_write 19 = .ok (.iaload, 1) := by decide +kernel
theorem dX8_write_20 : decode cX8_write 20 = .ok (.iadd, 1) := by decide +kernel
theorem dX8_write_21 : decode cX8_write 21 = .ok (.istore 5, 2) := by decide +kernel
theorem dX8_write_23 : decode cX8_write 23 = .ok (.iload_n 3, 1) := by decide +kernel
theorem dX8_write_24 : decode cX8_write 24 = .ok (.aload_n 1, 1) := by decide +kernel
theorem dX8_write_25 : decode cX8_write 25 = .ok (.getfield 43, 3) := by decide +kernel
theorem dX8_write_28 : decode cX8_write 28 = .ok (.iload 4, 2) := by decide +kernel
theorem dX8_write_30 : decode cX8_write 30 = .ok (.iaload, 1) := by decide +kernel
theorem dX8_write_31 : decode cX8_write 31 = .ok (.iadd, 1) := by decide +kernel
theorem dX8_write_32 : decode cX8_write 32 = .ok (.istore 6, 2) := by decide +kernel
theorem dX8_write_34 : decode cX8_write 34 = .ok (.iload 5, 2) := by decide +kernel
theorem dX8_write_36 : decode cX8_write 36 = .ok (.iload 6, 2) := by decide +kernel
theorem dX8_write_38 : decode cX8_write 38 = .ok (.invokestatic 30, 3) := by decide +kernel
theorem dX8_write_41 : decode cX8_write 41 = .ok (.ifCond .eq 39, 3) := by decide +kernel
theorem dX8_write_44 : decode cX8_write 44 = .ok (.aload_n 0, 1) := by decide +kernel
theorem dX8_write_45 : decode cX8_write 45 = .ok (.getfield 9, 3) := by decide +kernel
theorem dX8_write_48 : decode cX8_write 48 = .ok (.iload 5, 2) := by decide +kernel
theorem dX8_write_50 : decode cX8_write 50 = .ok (.bipush 32, 2) := by decide +kernel
theorem dX8_write_52 : decode cX8_write 52 = .ok (.imul, 1) := by decide +kernel
theorem dX8_write_53 : decode cX8_write 53 = .ok (.iload 6, 2) := by decide +kernel
theorem dX8_write_55 : decode cX8_write 55 = .ok (.iadd, 1) := by decide +kernel
theorem dX8_write_56 : decode cX8_write 56 = .ok (.aload_n 1, 1) := by decide +kernel
theorem dX8_write_57 : decode cX8_write 57 = .ok (.getfield 115, 3) := by decide +kernel
theorem dX8_write_60 : decode cX8_write 60 = .ok (.aload_n 1, 1) := by decide +kernel
theorem dX8_write_61 : decode cX8_write 61 = .ok (.getfield 40, 3) := by decide +kernel
theorem dX8_write_64 : decode cX8_write 64 = .ok (.iload 4, 2) := by decide +kernel
theorem dX8_write_66 : decode cX8_write 66 = .ok (.iaload, 1) := by decide +kernel
theorem dX8_write_67 : decode cX8_write 67 = .ok (.bipush 10, 2) := by decide +kernel
theorem dX8_write_69 : decode cX8_write 69 = .ok (.imul, 1) := by decide +kernel
theorem dX8_write_70 : decode cX8_write 70 = .ok (.aload_n 1, 1) := by decide +kernel
theorem dX8_write_71 : decode cX8_write 71 = .ok (.getfield 43, 3) := by decide +kernel
theorem dX8_write_74 : decode cX8_write 74 = .ok (.iload 4, 2) := by decide +kernel
theorem dX8_write_76 : decode cX8_write 76 = .ok (.iaload, 1) := by decide +kernel
theorem dX8_write_77 : decode cX8_write 77 = .ok (.iadd, 1) := by decide +kernel
theorem dX8_write_78 : decode cX8_write 78 = .ok (.iaload, 1) := by decide +kernel
theorem dX8_write_79 : decode cX8_write 79 = .ok (.iastore, 1) := by decide +kernel
theorem dX8_write_80 : decode cX8_write 80 = .ok (.iinc 4 1, 3) := by decide +kernel
theorem dX8_write_83 : decode cX8_write 83 = .ok (.goto (-80), 3) := by decide +kernel
theorem dX8_write_86 : decode cX8_write 86 = .ok (.return_, 1) := by decide +kernel
theorem dX8_wipe_0 : decode cX8_wipe 0 = .ok (.iconst 0, 1) := by decide +kernel
theorem dX8_wipe_1 : decode cX8_wipe 1 = .ok (.istore 4, 2) := by decide +kernel
theorem dX8_wipe_3 : decode cX8_wipe 3 = .ok (.iload 4, 2) := by decide +kernel
theorem dX8_wipe_5 : decode cX8_wipe 5 = .ok (.aload_n 1, 1) := by decide +kernel
theorem dX8_wipe_6 : decode cX8_wipe 6 = .ok (.getfield 34, 3) := by decide +kernel
theorem dX8_wipe_9 : decode cX8_wipe 9 = .ok (.if_icmp .ge 56, 3) := by decide +kernel
theorem dX8_wipe_12 : decode cX8_wipe 12 = .ok (.iload_n 2, 1) := by decide +kernel
theorem dX8_wipe_13 : decode cX8_wipe 13 = .ok (.aload_n 1, 1) := by decide +kernel
theorem dX8_wipe_14 : decode cX8_wipe 14 = .ok (.getfield 40, 3) := by decide +kernel
theorem dX8_wipe_17 : decode cX8_wipe 17 = .ok (.iload 4, 2) := by decide +kernel
theorem dX8_wipe_19 : decode cX8_wipe 19 = .ok (.iaload, 1) := by decide +kernel
theorem dX8_wipe_20 : decode cX8_wipe 20 = .ok (.iadd, 1) := by decide +kernel
theorem dX8_wipe_21 : decode cX8_wipe 21 = .ok (.istore 5, 2) := by decide +kernel
theorem dX8_wipe_23 : decode cX8_wipe 23 = .ok (.iload_n 3, 1) := by decide +kernel
theorem dX8_wipe_24 : decode cX8_wipe 24 = .ok (.aload_n 1, 1) := by decide +kernel
theorem dX8_wipe_25 : decode cX8_wipe 25 = .ok (.getfield 43, 3) := by decide +kernel
theorem dX8_wipe_28 : decode cX8_wipe 28 = .ok (.iload 4, 2) := by decide +kernel
theorem dX8_wipe_30 : decode cX8_wipe 30 = .ok (.iaload, 1) := by decide +kernel
theorem dX8_wipe_31 : decode cX8_wipe 31 = .ok (.iadd, 1) := by decide +kernel
theorem dX8_wipe_32 : decode cX8_wipe 32 = .ok (.istore 6, 2) := by decide +kernel
theorem dX8_wipe_34 : decode cX8_wipe 34 = .ok (.iload 5, 2) := by decide +kernel
theorem dX8_wipe_36 : decode cX8_wipe 36 = .ok (.iload 6, 2) := by decide +kernel
theorem dX8_wipe_38 : decode cX8_wipe 38 = .ok (.invokestatic 30, 3) := by decide +kernel
theorem dX8_wipe_41 : decode cX8_wipe 41 = .ok (.ifCond .eq 18, 3) := by decide +kernel
theorem dX8_wipe_44 : decode cX8_wipe 44 = .ok (.aload_n 0, 1) := by decide +kernel
theorem dX8_wipe_45 : decode cX8_wipe 45 = .ok (.getfield 9, 3) := by decide +kernel
theorem dX8_wipe_48 : decode cX8_wipe 48 = .ok (.iload 5, 2) := by decide +kernel
theorem dX8_wipe_50 : decode cX8_wipe 50 = .ok (.bipush 32, 2) := by decide +kernel
theorem dX8_wipe_52 : decode cX8_wipe 52 = .ok (.imul, 1) := by decide +kernel
theorem dX8_wipe_53 : decode cX8_wipe 53 = .ok (.iload 6, 2) := by decide +kernel
theorem dX8_wipe_55 : decode cX8_wipe 55 = .ok (.iadd, 1) := by decide +kernel
theorem dX8_wipe_56 : decode cX8_wipe 56 = .ok (.bipush 95, 2) := by decide +kernel
theorem dX8_wipe_58 : decode cX8_wipe 58 = .ok (.iastore, 1) := by decide +kernel
theorem dX8_wipe_59 : decode cX8_wipe 59 = .ok (.iinc 4 1, 3) := by decide +kernel
theorem dX8_wipe_62 : decode cX8_wipe 62 = .ok (.goto (-59), 3) := by decide +kernel
theorem dX8_wipe_65 : decode cX8_wipe 65 = .ok (.return_, 1) := by decide +kernel
theorem dX8_put_0 : decode cX8_put 0 = .ok (.aload_n 0, 1) := by decide +kernel
theorem dX8_put_1 : decode cX8_put 1 = .ok (.aload_n 1, 1) := by decide +kernel
theorem dX8_put_2 : decode cX8_put 2 = .ok (.iload_n 2, 1) := by decide +kernel
theorem dX8_put_3 : decode cX8_put 3 = .ok (.iload_n 3, 1) := by decide +kernel
theorem dX8_put_4 : decode cX8_put 4 = .ok (.invokevirtual 71, 3) := by decide +kernel
theorem dX8_put_7 : decode cX8_put 7 = .ok (.aload_n 0, 1) := by decide +kernel
theorem dX8_put_8 : decode cX8_put 8 = .ok (.aload_n 1, 1) := by decide +kernel
theorem dX8_put_9 : decode cX8_put 9 = .ok (.iload_n 2, 1) := by decide +kernel
theorem dX8_put_10 : decode cX8_put 10 = .ok (.iload_n 3, 1) := by decide +kernel
theorem dX8_put_11 : decode cX8_put 11 = .ok (.aload_n 1, 1) := by decide +kernel
theorem dX8_put_12 : decode cX8_put 12 = .ok (.getfield 116, 3) := by decide +kernel
theorem dX8_put_15 : decode cX8_put 15 = .ok (.invokevirtual 119, 3) := by decide +kernel
theorem dX8_put_18 : decode cX8_put 18 = .ok (.aload_n 0, 1) := by decide +kernel
theorem dX8_put_19 : decode cX8_put 19 = .ok (.getfield 23, 3) := by decide +kernel
theorem dX8_put_22 : decode cX8_put 22 = .ok (.aload_n 1, 1) := by decide +kernel
theorem dX8_put_23 : decode cX8_put 23 = .ok (.getfield 46, 3) := by decide +kernel
theorem dX8_put_26 : decode cX8_put 26 = .ok (.iload_n 2, 1) := by decide +kernel
theorem dX8_put_27 : decode cX8_put 27 = .ok (.iconst 1, 1) := by decide +kernel
theorem dX8_put_28 : decode cX8_put 28 = .ok (.invokevirtual 123, 3) := by decide +kernel
theorem dX8_put_31 : decode cX8_put 31 = .ok (.aload_n 0, 1) := by decide +kernel
theorem dX8_put_32 : decode cX8_put 32 = .ok (.getfield 27, 3) := by decide +kernel
theorem dX8_put_35 : decode cX8_put 35 = .ok (.aload_n 1, 1) := by decide +kernel
theorem dX8_put_36 : decode cX8_put 36 = .ok (.getfield 53, 3) := by decide +kernel
theorem dX8_put_39 : decode cX8_put 39 = .ok (.iload_n 3, 1) := by decide +kernel
theorem dX8_put_40 : decode cX8_put 40 = .ok (.iconst 1, 1) := by decide +kernel
theorem dX8_put_41 : decode cX8_put 41 = .ok (.invokevirtual 123, 3) := by decide +kernel
theorem dX8_put_44 : decode cX8_put 44 = .ok (.aload_n 1, 1) := by decide +kernel
theorem dX8_put_45 : decode cX8_put 45 = .ok (.iconst 1, 1) := by decide +kernel
theorem dX8_put_46 : decode cX8_put 46 = .ok (.putfield 127, 3) := by decide +kernel
theorem dX8_put_49 : decode cX8_put 49 = .ok (.aload_n 1, 1) := by decide +kernel
theorem dX8_put_50 : decode cX8_put 50 = .ok (.iload_n 2, 1) := by decide +kernel
theorem dX8_put_51 : decode cX8_put 51 = .ok (.putfield 131, 3) := by decide +kernel
theorem dX8_put_54 : decode cX8_put 54 = .ok (.aload_n 1, 1) := by decide +kernel
theorem dX8_put_55 : decode cX8_put 55 = .ok (.iload_n 3, 1) := by decide +kernel
theorem dX8_put_56 : decode cX8_put 56 = .ok (.putfield 134, 3) := by decide +kernel
theorem dX8_put_59 : decode cX8_put 59 = .ok (.aload_n 0, 1) := by decide +kernel
theorem dX8_put_60 : decode cX8_put 60 = .ok (.dup, 1) := by decide +kernel
theorem dX8_put_61 : decode cX8_put 61 = .ok (.getfield 137, 3) := by decide +kernel
theorem dX8_put_64 : decode cX8_put 64 = .ok (.iconst 1, 1) := by decide +kernel
theorem dX8_put_65 : decode cX8_put 65 = .ok (.iadd, 1) := by decide +kernel
theorem dX8_put_66 : decode cX8_put 66 = .ok (.putfield 137, 3) := by decide +kernel
theorem dX8_put_69 : decode cX8_put 69 = .ok (.return_, 1) := by decide +kernel
theorem dX8_remove_0 : decode cX8_remove 0 = .ok (.aload_n 0, 1) := by decide +kernel
theorem dX8_remove_1 : decode cX8_remove 1 = .ok (.aload_n 1, 1) := by decide +kernel
theorem dX8_remove_2 : decode cX8_remove 2 = .ok (.aload_n 1, 1) := by decide +kernel
theorem dX8_remove_3 : decode cX8_remove 3 = .ok (.getfield 131, 3) := by decide +kernel
theorem dX8_remove_6 : decode cX8_remove 6 = .ok (.aload_n 1, 1) := by decide +kernel
theorem dX8_remove_7 : decode cX8_remove 7 = .ok (.getfield 134, 3) := by decide +kernel
theorem dX8_remove_10 : decode cX8_remove 10 = .ok (.invokevirtual 81, 3) := by decide +kernel
theorem dX8_remove_13 : decode cX8_remove 13 = .ok (.aload_n 0, 1) := by decide +kernel
theorem dX8_remove_14 : decode cX8_remove 14 = .ok (.aload_n 1, 1) := by decide +kernel
theorem dX8_remove_15 : decode cX8_remove 15 = .ok (.aload_n 1, 1) := by decide +kernel
theorem dX8_remove_16 : decode cX8_remove 16 = .ok (.getfield 131, 3) := by decide +kernel
theorem dX8_remove_19 : decode cX8_remove 19 = .ok (.aload_n 1, 1) := by decide +kernel
theorem dX8_remove_20 : decode cX8_remove 20 = .ok (.getfield 134, 3) := by decide +kernel
theorem dX8_remove_23 : decode cX8_remove 23 = .ok (.iconst (-1), 1) := by decide +kernel
theorem dX8_remove_24 : decode cX8_remove 24 = .ok (.invokevirtual 119, 3) := by decide +kernel
theorem dX8_remove_27 : decode cX8_remove 27 = .ok (.aload_n 0, 1) := by decide +kernel
theorem dX8_remove_28 : decode cX8_remove 28 = .ok (.getfield 23, 3) := by decide +kernel
theorem dX8_remove_31 : decode cX8_remove 31 = .ok (.aload_n 1, 1) := by decide +kernel
theorem dX8_remove_32 : decode cX8_remove 32 = .ok (.getfield 46, 3) := by decide +kernel
theorem dX8_remove_35 : decode cX8_remove 35 = .ok (.aload_n 1, 1) := by decide +kernel
theorem dX8_remove_36 : decode cX8_remove 36 = .ok (.getfield 131, 3) := by decide +kernel
theorem dX8_remove_39 : decode cX8_remove 39 = .ok (.iconst (-1), 1) := by decide +kernel
theorem dX8_remove_40 : decode cX8_remove 40 = .ok (.invokevirtual 123, 3) := by decide +kernel
theorem dX8_remove_43 : decode cX8_remove 43 = .ok (.aload_n 0, 1) := by decide +kernel
theorem dX8_remove_44 : decode cX8_remove 44 = .ok (.getfield 27, 3) := by decide +kernel
theorem dX8_remove_47 : decode cX8_remove 47 = .ok (.aload_n 1, 1) := by decide +kernel
theorem dX8_remove_48 : decode cX8_remove 48 = .ok (.getfield 53, 3) := by decide +kernel
theorem dX8_remove_51 : decode cX8_remove 51 = .ok (.aload_n 1, 1) := by decide +kernel
theorem dX8_remove_52 : decode cX8_remove 52 = .ok (.getfield 134, 3) := by decide +kernel
theorem dX8_remove_55 : decode cX8_remove 55 = .ok (.iconst (-1), 1) := by decide +kernel
theorem dX8_remove_56 : decode cX8_remove 56 = .ok (.invokevirtual 123, 3) := by decide +kernel
theorem dX8_remove_59 : decode cX8_remove 59 = .ok (.aload_n 1, 1) := by decide +kernel
theorem dX8_remove_60 : decode cX8_remove 60 = .ok (.iconst 0, 1) := by decide +kernel
theorem dX8_remove_61 : decode cX8_remove 61 = .ok (.putfield 127, 3) := by decide +kernel
theorem dX8_remove_64 : decode cX8_remove 64 = .ok (.aload_n 0, 1) := by decide +kernel
theorem dX8_remove_65 : decode cX8_remove 65 = .ok (.dup, 1) := by decide +kernel
theorem dX8_remove_66 : decode cX8_remove 66 = .ok (.getfield 137, 3) := by decide +kernel
theorem dX8_remove_69 : decode cX8_remove 69 = .ok (.iconst 1, 1) := by decide +kernel
theorem dX8_remove_70 : decode cX8_remove 70 = .ok (.isub, 1) := by decide +kernel
theorem dX8_remove_71 : decode cX8_remove 71 = .ok (.putfield 137, 3) := by decide +kernel
theorem dX8_remove_74 : decode cX8_remove 74 = .ok (.return_, 1) := by decide +kernel
theorem dX8_own_0 : decode cX8_own 0 = .ok (.iconst 0, 1) := by decide +kernel
theorem dX8_own_1 : decode cX8_own 1 = .ok (.istore 5, 2) := by decide +kernel
theorem dX8_own_3 : decode cX8_own 3 = .ok (.iload 5, 2) := by decide +kernel
theorem dX8_own_5 : decode cX8_own 5 = .ok (.aload_n 1, 1) := by decide +kernel
theorem dX8_own_6 : decode cX8_own 6 = .ok (.getfield 34, 3) := by decide +kernel
theorem dX8_own_9 : decode cX8_own 9 = .ok (.if_icmp .ge 56, 3) := by decide +kernel
theorem dX8_own_12 : decode cX8_own 12 = .ok (.iload_n 2, 1) := by decide +kernel
theorem dX8_own_13 : decode cX8_own 13 = .ok (.aload_n 1, 1) := by decide +kernel
theorem dX8_own_14 : decode cX8_own 14 = .ok (.getfield 40, 3) := by decide +kernel
theorem dX8_own_17 : decode cX8_own 17 = .ok (.iload 5, 2) := by decide +kernel
theorem dX8_own_19 : decode cX8_own 19 = .ok (.iaload, 1) := by decide +kernel
theorem dX8_own_20 : decode cX8_own 20 = .ok (.iadd, 1) := by decide +kernel
theorem dX8_own_21 : decode cX8_own 21 = .ok (.istore 6, 2) := by decide +kernel
theorem dX8_own_23 : decode cX8_own 23 = .ok (.iload_n 3, 1) := by decide +kernel
theorem dX8_own_24 : decode cX8_own 24 = .ok (.aload_n 1, 1) := by decide +kernel
theorem dX8_own_25 : decode cX8_own 25 = .ok (.getfield 43, 3) := by decide +kernel
theorem dX8_own_28 : decode cX8_own 28 = .ok (.iload 5, 2) := by decide +kernel
theorem dX8_own_30 : decode cX8_own 30 = .ok (.iaload, 1) := by decide +kernel
theorem dX8_own_31 : decode cX8_own 31 = .ok (.iadd, 1) := by decide +kernel
theorem dX8_own_32 : decode cX8_own 32 = .ok (.istore 7, 2) := by decide +kernel
theorem dX8_own_34 : decode cX8_own 34 = .ok (.iload 6, 2) := by decide +kernel
theorem dX8_own_36 : decode cX8_own 36 = .ok (.iload 7, 2) := by decide +kernel
theorem dX8_own_38 : decode cX8_own 38 = .ok (.invokestatic 30, 3) := by decide +kernel
theorem dX8_own_41 : decode cX8_own 41 = .ok (.ifCond .eq 18, 3) := by decide +kernel
theorem dX8_own_44 : decode cX8_own 44 = .ok (.aload_n 0, 1) := by decide +kernel
theorem dX8_own_45 : decode cX8_own 45 = .ok (.getfield 15, 3) := by decide +kernel
theorem dX8_own_48 : decode cX8_own 48 = .ok (.iload 6, 2) := by decide +kernel
theorem dX8_own_50 : decode cX8_own 50 = .ok (.bipush 32, 2) := by decide +kernel
theorem dX8_own_52 : decode cX8_own 52 = .ok (.imul, 1) := by decide +kernel
theorem dX8_own_53 : decode cX8_own 53 = .ok (.iload 7, 2) := by decide +kernel
theorem dX8_own_55 : decode cX8_own 55 = .ok (.iadd, 1) := by decide +kernel
theorem dX8_own_56 : decode cX8_own 56 = .ok (.iload 4, 2) := by decide +kernel
theorem dX8_own_58 : decode cX8_own 58 = .ok (.iastore, 1) := by decide +kernel
theorem dX8_own_59 : decode cX8_own 59 = .ok (.iinc 5 1, 3) := by decide +kernel
theorem dX8_own_62 : decode cX8_own 62 = .ok (.goto (-59), 3) := by decide +kernel
theorem dX8_own_65 : decode cX8_own 65 = .ok (.return_, 1) := by decide +kernel
theorem dX9_init_0 : decode cX9_init 0 = .ok (.aload_n 0, 1) := by decide +kernel
theorem dX9_init_1 : decode cX9_init 1 = .ok (.invokespecial 3, 3) := by decide +kernel
theorem dX9_init_4 : decode cX9_init 4 = .ok (.aload_n 0, 1) := by decide +kernel
theorem dX9_init_5 : decode cX9_init 5 = .ok (.sipush 200, 3) := by decide +kernel
theorem dX9_init_8 : decode cX9_init 8 = .ok (.newarray .int, 2) := by decide +kernel
theorem dX9_init_10 : decode cX9_init 10 = .ok (.putfield 9, 3) := by decide +kernel
theorem dX9_init_13 : decode cX9_init 13 = .ok (.return_, 1) := by decide +kernel
theorem dX9_append_0 : decode cX9_append 0 = .ok (.bipush 24, 2) := by decide +kernel
theorem dX9_append_2 : decode cX9_append 2 = .ok (.istore_n 2, 1) := by decide +kernel
theorem dX9_append_3 : decode cX9_append 3 = .ok (.iload_n 2, 1) := by decide +kernel
theorem dX9_append_4 : decode cX9_append 4 = .ok (.ifCond .lt 45, 3) := by decide +kernel
theorem dX9_append_7 : decode cX9_append 7 = .ok (.aload_n 0, 1) := by decide +kernel
theorem dX9_append_8 : decode cX9_append 8 = .ok (.getfield 15, 3) := by decide +kernel
theorem dX9_append_11 : decode cX9_append 11 = .ok (.sipush 200, 3) := by decide +kernel
theorem dX9_append_14 : decode cX9_append 14 = .ok (.if_icmp .ge 35, 3) := by decide +kernel
theorem dX9_append_17 : decode cX9_append 17 = .ok (.aload_n 0, 1) := by decide +kernel
theorem dX9_append_18 : decode cX9_append 18 = .ok (.getfield 9, 3) := by decide +kernel
theorem dX9_append_21 : decode cX9_append 21 = .ok (.aload_n 0, 1) := by decide +kernel
theorem dX9_append_22 : decode cX9_append 22 = .ok (.getfield 15, 3) := by decide +kernel
theorem dX9_append_25 : decode cX9_append 25 = .ok (.iload_n 1, 1) := by decide +kernel
theorem dX9_append_26 : decode cX9_append 26 = .ok (.iload_n 2, 1) := by decide +kernel
theorem dX9_append_27 : decode cX9_append 27 = .ok (.iushr, 1) := by decide +kernel
theorem dX9_append_28 : decode cX9_append 28 = .ok (.sipush 255, 3) := by decide +kernel
theorem dX9_append_31 : decode cX9_append 31 = .ok (.iand, 1) := by decide +kernel
theorem dX9_append_32 : decode cX9_append 32 = .ok (.iastore, 1) := by decide +kernel
theorem dX9_append_33 : decode cX9_append 33 = .ok (.aload_n 0, 1) := by decide +kernel
theorem dX9_append_34 : decode cX9_append 34 = .ok (.dup, 1) := by decide +kernel
theorem dX9_append_35 : decode cX9_append 35 = .ok (.getfield 15, 3) := by decide +kernel
theorem dX9_append_38 : decode cX9_append 38 = .ok (.iconst 1, 1) := by decide +kernel
theorem dX9_append_39 : decode cX9_append 39 = .ok (.iadd, 1) := by decide +kernel
theorem dX9_append_40 : decode cX9_append 40 = .ok (.putfield 15, 3) := by decide +kernel
theorem dX9_append_43 : decode cX9_append 43 = .ok (.iinc 2 (-8), 3) := by decide +kernel
theorem dX9_append_46 : decode cX9_append 46 = .ok (.goto (-43), 3) := by decide +kernel
theorem dX9_append_49 : decode cX9_append 49 = .ok (.return_, 1) := by decide +kernel
theorem dX9_isLetters_0 : decode cX9_isLetters 0 = .ok (.aload_n 0, 1) := by decide +kernel
theorem dX9_isLetters_1 : decode cX9_isLetters 1 = .ok (.getfield 15, 3) := by decide +kernel
theorem dX9_isLetters_4 : decode cX9_isLetters 4 = .ok (.iconst 1, 1) := by decide +kernel
theorem dX9_isLetters_5 : decode cX9_isLetters 5 = .ok (.if_icmp .lt 11, 3) := by decide +kernel
theorem dX9_isLetters_8 : decode cX9_isLetters 8 = .ok (.aload_n 0, 1) := by decide +kernel
theorem dX9_isLetters_9 : decode cX9_isLetters 9 = .ok (.getfield 15, 3) := by decide +kernel
theorem dX9_isLetters_12 : decode cX9_isLetters 12 = .ok (.iload_n 1, 1) := by decide +kernel
theorem dX9_isLetters_13 : decode cX9_isLetters 13 = .ok (.if_icmp .le 5, 3) := by decide +kernel
theorem dX9_isLetters_16 : decode cX9_isLetters 16 = .ok (.iconst 0, 1) := by decide +kernel
theorem dX9_isLetters_17 : decode cX9_isLetters 17 = .ok (.ireturn, 1) := by decide +kernel
theorem dX9_isLetters_18 : decode cX9_isLetters 18 = .ok (.iconst 0, 1) := by decide +kernel
theorem dX9_isLetters_19 : decode cX9_isLetters 19 = .ok (.istore_n 2, 1) := by decide +kernel
theorem dX9_isLetters_20 : decode cX9_isLetters 20 = .ok (.iload_n 2, 1) := by decide +kernel
theorem dX9_isLetters_21 : decode cX9_isLetters 21 = .ok (.aload_n 0, 1) := by decide +kernel
theorem dX9_isLetters_22 : decode cX9_isLetters 22 = .ok (.getfield 15, 3) := by decide +kernel
theorem dX9_isLetters_25 : decode cX9_isLetters 25 = .ok (.if_icmp .ge 23, 3) := by decide +kernel
theorem dX9_isLetters_28 : decode cX9_isLetters 28 = .ok (.aload_n 0, 1) := by decide +kernel
theorem dX9_isLetters_29 : decode cX9_isLetters 29 = .ok (.getfield 9, 3) := by decide +kernel
theorem dX9_isLetters_32 : decode cX9_isLetters 32 = .ok (.iload_n 2, 1) := by decide +kernel
theorem dX9_isLetters_33 : decode cX9_isLetters 33 = .ok (.iaload, 1) := by decide +kernel
theorem dX9_isLetters_34 : decode cX9_isLetters 34 = .ok (.invokestatic 19, 3) := by decide +kernel
theorem dX9_isLetters_37 : decode cX9_isLetters 37 = .ok (.ifCond .ne 5, 3) := by decide +kernel
theorem dX9_isLetters_40 : decode cX9_isLetters 40 = .ok (.iconst 0, 1) := by decide +kernel
theorem dX9_isLetters_41 : decode cX9_isLetters 41 = .ok (.ireturn, 1) := by decide +kernel
theorem dX9_isLetters_42 : decode cX9_isLetters 42 = .ok (.iinc 2 1, 3) := by decide +kernel
theorem dX9_isLetters_45 : decode cX9_isLetters 45 = .ok (.goto (-25), 3) := by decide +kernel
theorem dX9_isLetters_48 : decode cX9_isLetters 48 = .ok (.iconst 1, 1) := by decide +kernel
theorem dX9_isLetters_49 : decode cX9_isLetters 49 = .ok (.ireturn, 1) := by decide +kernel
theorem dX10_init_0 : decode cX10_init 0 = .ok (.aload_n 0, 1) := by decide +kernel
theorem dX10_init_1 : decode cX10_init 1 = .ok (.invokespecial 3, 3) := by decide +kernel
theorem dX10_init_4 : decode cX10_init 4 = .ok (.aload_n 0, 1) := by decide +kernel
theorem dX10_init_5 : decode cX10_init 5 = .ok (.iconst 2, 1) := by decide +kernel
theorem dX10_init_6 : decode cX10_init 6 = .ok (.bipush 27, 2) := by decide +kernel
theorem dX10_init_8 : decode cX10_init 8 = .ok (.multianewarray 11 2, 4) := by decide +kernel
theorem dX10_init_12 : decode cX10_init 12 = .ok (.putfield 13, 3) := by decide +kernel
theorem dX10_init_15 : decode cX10_init 15 = .ok (.aload_n 0, 1) := by decide +kernel
theorem dX10_init_16 : decode cX10_init 16 = .ok (.iconst 2, 1) := by decide +kernel
theorem dX10_init_17 : decode cX10_init 17 = .ok (.newarray .long, 2) := by decide +kernel
theorem dX10_init_19 : decode cX10_init 19 = .ok (.putfield 16, 3) := by decide +kernel
theorem dX10_init_22 : decode cX10_init 22 = .ok (.aload_n 0, 1) := by decide +kernel
theorem dX10_init_23 : decode cX10_init 23 = .ok (.iconst 2, 1) := by decide +kernel
theorem dX10_init_24 : decode cX10_init 24 = .ok (.newarray .long, 2) := by decide +kernel
theorem dX10_init_26 : decode cX10_init 26 = .ok (.putfield 20, 3) := by decide +kernel
theorem dX10_init_29 : decode cX10_init 29 = .ok (.aload_n 0, 1) := by decide +kernel
theorem dX10_init_30 : decode cX10_init 30 = .ok (.iconst 2, 1) := by decide +kernel
theorem dX10_init_31 : decode cX10_init 31 = .ok (.newarray .long, 2) := by decide +kernel
theorem dX10_init_33 : decode cX10_init 33 = .ok (.putfield 23, 3) := by decide +kernel
theorem dX10_init_36 : decode cX10_init 36 = .ok (.aload_n 0, 1) := by decide +kernel
theorem dX10_init_37 : decode cX10_init 37 = .ok (.iconst 2, 1) := by decide +kernel
theorem dX10_init_38 : decode cX10_init 38 = .ok (.newarray .long, 2) := by decide +kernel
theorem dX10_init_40 : decode cX10_init 40 = .ok (.putfield 26, 3) := by decide +kernel
theorem dX10_init_43 : decode cX10_init 43 = .ok (.return_, 1) := by decide +kernel
theorem dX10_append_0 : decode cX10_append 0 = .ok (.aload_n 0, 1) := by decide +kernel
theorem dX10_append_1 : decode cX10_append 1 = .ok (.getfield 29, 3) := by decide +kernel
theorem dX10_append_4 : decode cX10_append 4 = .ok (.bipush 6, 2) := by decide +kernel
theorem dX10_append_6 : decode cX10_append 6 = .ok (.idiv, 1) := by decide +kernel
theorem dX10_append_7 : decode cX10_append 7 = .ok (.istore_n 2, 1) := by decide +kernel
theorem dX10_append_8 : decode cX10_append 8 = .ok (.aload_n 0, 1) := by decide +kernel
theorem dX10_append_9 : decode cX10_append 9 = .ok (.getfield 29, 3) := by decide +kernel
theorem dX10_append_12 : decode cX10_append 12 = .ok (.bipush 6, 2) := by decide +kernel
theorem dX10_append_14 : decode cX10_append 14 = .ok (.irem, 1) := by decide +kernel
theorem dX10_append_15 : decode cX10_append 15 = .ok (.bipush 10, 2) := by decide +kernel
theorem dX10_append_17 : decode cX10_append 17 = .ok (.imul, 1) := by decide +kernel
theorem dX10_append_18 : decode cX10_append 18 = .ok (.istore_n 3, 1) := by decide +kernel
theorem dX10_append_19 : decode cX10_append 19 = .ok (.iload_n 2, 1) := by decide +kernel
theorem dX10_append_20 : decode cX10_append 20 = .ok (.iconst 2, 1) := by decide +kernel
theorem dX10_append_21 : decode cX10_append 21 = .ok (.if_icmp .ge 20, 3) := by decide +kernel
theorem dX10_append_24 : decode cX10_append 24 = .ok (.aload_n 1, 1) := by decide +kernel
theorem dX10_append_25 : decode cX10_append 25 = .ok (.getfield 33, 3) := by decide +kernel
theorem dX10_append_28 : decode cX10_append 28 = .ok (.iconst 1, 1) := by decide +kernel
theorem dX10_append_29 : decode cX10_append 29 = .ok (.if_icmp .lt 12, 3) := by decide +kernel
theorem dX10_append_32 : decode cX10_append 32 = .ok (.aload_n 1, 1) := by decide +kernel
theorem dX10_append_33 : decode cX10_append 33 = .ok (.getfield 33, 3) := by decide +kernel
theorem dX10_append_36 : decode cX10_append 36 = .ok (.bipush 10, 2) := by decide +kernel
theorem dX10_append_38 : decode cX10_append 38 = .ok (.if_icmp .le 4, 3) := by decide +kernel
theorem dX10_append_41 : decode cX10_append 41 = .ok (.return_, 1) := by decide +kernel
theorem dX10_append_42 : decode cX10_append 42 = .ok (.iconst 0, 1) := by decide +kernel
theorem dX10_append_43 : decode cX10_append 43 = .ok (.istore 4, 2) := by decide +kernel
theorem dX10_append_45 : decode cX10_append 45 = .ok (.iload 4, 2) := by decide +kernel
theorem dX10_append_47 : decode cX10_append 47 = .ok (.aload_n 1, 1) := by decide +kernel
theorem dX10_append_48 : decode cX10_append 48 = .ok (.getfield 33, 3) := by decide +kernel
theorem dX10_append_51 : decode cX10_append 51 = .ok (.if_icmp .ge 53, 3) := by decide +kernel
theorem dX10_append_54 : decode cX10_append 54 = .ok (.lconst 1, 1) := by decide +kernel
theorem dX10_append_55 : decode cX10_append 55 = .ok (.iload_n 3, 1) := by decide +kernel
theorem dX10_append_56 : decode cX10_append 56 = .ok (.iload 4, 2) := by decide +kernel
theorem dX10_append_58 : decode cX10_append 58 = .ok (.iadd, 1) := by decide +kernel
theorem dX10_append_59 : decode cX10_append 59 = .ok (.lshl, 1) := by decide +kernel
theorem dX10_append_60 : decode cX10_append 60 = .ok (.lstore 5, 2) := by decide +kernel
theorem dX10_append_62 : decode cX10_append 62 = .ok (.aload_n 0, 1) := by decide +kernel
theorem dX10_append_63 : decode cX10_append 63 = .ok (.getfield 13, 3) := by decide +kernel
theorem dX10_append_66 : decode cX10_append 66 = .ok (.iload_n 2, 1) := by decide +kernel
theorem dX10_append_67 : decode cX10_append 67 = .ok (.aaload, 1) := by decide +kernel
theorem dX10_append_68 : decode cX10_append 68 = .ok (.aload_n 1, 1) := by decide +kernel
theorem dX10_append_69 : decode cX10_append 69 = .ok (.getfield 38, 3) := by decide +kernel
theorem dX10_append_72 : decode cX10_append 72 = .ok (.iload 4, 2) := by decide +kernel
theorem dX10_append_74 : decode cX10_append 74 = .ok (.iaload, 1) := by decide +kernel
theorem dX10_append_75 : decode cX10_append 75 = .ok (.invokestatic 42, 3) := by decide +kernel
theorem dX10_append_78 : decode cX10_append 78 = .ok (.dup2, 1) := by decide +kernel
theorem dX10_append_79 : decode cX10_append 79 = .ok (.laload, 1) := by decide +kernel
theorem dX10_append_80 : decode cX10_append 80 = .ok (.lload 5, 2) := by decide +kernel
theorem dX10_append_82 : decode cX10_append 82 = .ok (.lor, 1) := by decide +kernel
theorem dX10_append_83 : decode cX10_append 83 = .ok (.lastore, 1) := by decide +kernel
theorem dX10_append_84 : decode cX10_append 84 = .ok (.aload_n 0, 1) := by decide +kernel
theorem dX10_append_85 : decode cX10_append 85 = .ok (.getfield 13, 3) := by decide +kernel
theorem dX10_append_88 : decode cX10_append 88 = .ok (.iload_n 2, 1) := by decide +kernel
theorem dX10_append_89 : decode cX10_append 89 = .ok (.aaload, 1) := by decide +kernel
theorem dX10_append_90 : decode cX10_append 90 = .ok (.bipush 26, 2) := by decide +kernel
theorem dX10_append_92 : decode cX10_append 92 = .ok (.dup2, 1) := by decide +kernel
theorem dX10_append_93 : decode cX10_append 93 = .ok (.laload, 1) := by decide +kernel
theorem dX10_append_94 : decode cX10_append 94 = .ok (.lload 5, 2) := by decide +kernel
theorem dX10_append_96 : decode cX10_append 96 = .ok (.lor, 1) := by decide +kernel
theorem dX10_append_97 : decode cX10_append 97 = .ok (.lastore, 1) := by decide +kernel
theorem dX10_append_98 : decode cX10_append 98 = .ok (.iinc 4 1, 3) := by decide +kernel
theorem dX10_append_101 : decode cX10_append 101 = .ok (.goto (-56), 3) := by decide +kernel
theorem dX10_append_104 : decode cX10_append 104 = .ok (.aload_n 0, 1) := by decide +kernel
theorem dX10_append_105 : decode cX10_append 105 = .ok (.getfield 16, 3) := by decide +kernel
theorem dX10_append_108 : decode cX10_append 108 = .ok (.iload_n 2, 1) := by decide +kernel
theorem dX10_append_109 : decode cX10_append 109 = .ok (.dup2, 1) := by decide +kernel
theorem dX10_append_110 : decode cX10_append 110 = .ok (.laload, 1) := by decide +kernel
theorem dX10_append_111 : decode cX10_append 111 = .ok (.lconst 1, 1) := by decide +kernel
theorem dX10_append_112 : decode cX10_append 112 = .ok (.iload_n 3, 1) := by decide +kernel
theorem dX10_append_113 : decode cX10_append 113 = .ok (.lshl, 1) := by decide +kernel
theorem dX10_append_114 : decode cX10_append 114 = .ok (.lor, 1) := by decide +kernel
theorem dX10_append_115 : decode cX10_append 115 = .ok (.lastore, 1) := by decide +kernel
theorem dX10_append_116 : decode cX10_append 116 = .ok (.aload_n 0, 1) := by decide +kernel
theorem dX10_append_117 : decode cX10_append 117 = .ok (.getfield 20, 3) := by decide +kernel
theorem dX10_append_120 : decode cX10_append 120 = .ok (.iload_n 2, 1) := by decide +kernel
theorem dX10_append_121 : decode cX10_append 121 = .ok (.dup2, 1) := by decide +kernel
theorem dX10_append_122 : decode cX10_append 122 = .ok (.laload, 1) := by decide +kernel
theorem dX10_append_123 : decode cX10_append 123 = .ok (.lconst 1, 1) := by decide +kernel
theorem dX10_append_124 : decode cX10_append 124 = .ok (.iload_n 3, 1) := by decide +kernel
theorem dX10_append_125 : decode cX10_append 125 = .ok (.aload_n 1, 1) := by decide +kernel
theorem dX10_append_126 : decode cX10_append 126 = .ok (.getfield 33, 3) := by decide +kernel
theorem dX10_append_129 : decode cX10_append 129 = .ok (.iadd, 1) := by decide +kernel
theorem dX10_append_130 : decode cX10_append 130 = .ok (.iconst 1, 1) := by decide +kernel
theorem dX10_append_131 : decode cX10_append 131 = .ok (.isub, 1) := by decide +kernel
theorem dX10_append_132 : decode cX10_append 132 = .ok (.lshl, 1) := by decide +kernel
theorem dX10_append_133 : decode cX10_append 133 = .ok (.lor, 1) := by decide +kernel
theorem dX10_append_134 : decode cX10_append 134 = .ok (.lastore, 1) := by decide +kernel
theorem dX10_append_135 : decode cX10_append 135 = .ok (.aload_n 0, 1) := by decide +kernel
theorem dX10_append_136 : decode cX10_append 136 = .ok (.dup, 1) := by decide +kernel
theorem dX10_append_137 : decode cX10_append 137 = .ok (.getfield 29, 3) := by decide +kernel
theorem dX10_append_140 : decode cX10_append 140 = .ok (.iconst 1, 1) := by decide +kernel
theorem dX10_append_141 : decode cX10_append 141 = .ok (.iadd, 1) := by decide +kernel
theorem dX10_append_142 : decode cX10_append 142 = .ok (.putfield 29, 3) := by decide +kernel
theorem dX10_append_145 : decode cX10_append 145 = .ok (.return_, 1) := by decide +kernel
theorem dX10_indexOf_0 : decode cX10_indexOf 0 = .ok (.iload_n 0, 1) := by decide +kernel
theorem dX10_indexOf_1 : decode cX10_indexOf 1 = .ok (.bipush 97, 2) := by decide +kernel
theorem dX10_indexOf_3 : decode cX10_indexOf 3 = .ok (.if_icmp .lt 16, 3) := by decide +kernel
theorem dX10_indexOf_6 : decode cX10_indexOf 6 = .ok (.iload_n 0, 1) := by decide +kernel
theorem dX10_indexOf_7 : decode cX10_indexOf 7 = .ok (.bipush 122, 2) := by decide +kernel
theorem dX10_indexOf_9 : decode cX10_indexOf 9 = .ok (.if_icmp .gt 10, 3) := by decide +kernel
theorem dX10_indexOf_12 : decode cX10_indexOf 12 = .ok (.iload_n 0, 1) := by decide +kernel
theorem dX10_indexOf_13 : decode cX10_indexOf 13 = .ok (.bipush 97, 2) := by decide +kernel
theorem dX10_indexOf_15 : decode cX10_indexOf 15 = .ok (.isub, 1) := by decide +kernel
theorem dX10_indexOf_16 : decode cX10_indexOf 16 = .ok (.goto 5, 3) := by decide +kernel
theorem dX10_indexOf_19 : decode cX10_indexOf 19 = .ok (.bipush 26, 2) := by decide +kernel
theorem dX10_indexOf_21 : decode cX10_indexOf 21 = .ok (.ireturn, 1) := by decide +kernel
theorem dX10_beginRun_0 : decode cX10_beginRun 0 = .ok (.iconst 0, 1) := by decide +kernel
theorem dX10_beginRun_1 : decode cX10_beginRun 1 = .ok (.istore_n 2, 1) := by decide +kernel
theorem dX10_beginRun_2 : decode cX10_beginRun 2 = .ok (.iload_n 2, 1) := by decide +kernel
theorem dX10_beginRun_3 : decode cX10_beginRun 3 = .ok (.iconst 2, 1) := by decide +kernel
theorem dX10_beginRun_4 : decode cX10_beginRun 4 = .ok (.if_icmp .ge 37, 3) := by decide +kernel
theorem dX10_beginRun_7 : decode cX10_beginRun 7 = .ok (.aload_n 0, 1) := by decide +kernel
theorem dX10_beginRun_8 : decode cX10_beginRun 8 = .ok (.getfield 23, 3) := by decide +kernel
theorem dX10_beginRun_11 : decode cX10_beginRun 11 = .ok (.iload_n 2, 1) := by decide +kernel
theorem dX10_beginRun_12 : decode cX10_beginRun 12 = .ok (.iload_n 1, 1) := by decide +kernel
theorem dX10_beginRun_13 : decode cX10_beginRun 13 = .ok (.ifCond .eq 12, 3) := by decide +kernel
theorem dX10_beginRun_16 : decode cX10_beginRun 16 = .ok (.aload_n 0, 1) := by decide +kernel
theorem dX10_beginRun_17 : decode cX10_beginRun 17 = .ok (.getfield 16, 3) := by decide +kernel
theorem dX10_beginRun_20 : decode cX10_beginRun 20 = .ok (.iload_n 2, 1) := by decide +kernel
theorem dX10_beginRun_21 : decode cX10_beginRun 21 = .ok (.laload, 1) := by decide +kernel
theorem dX10_beginRun_22 : decode cX10_beginRun 22 = .ok (.goto 12, 3) := by decide +kernel
theorem dX10_beginRun_25 : decode cX10_beginRun 25 = .ok (.aload_n 0, 1) := by decide +kernel
theorem dX10_beginRun_26 : decode cX10_beginRun 26 = .ok (.getfield 13, 3) := by decide +kernel
theorem dX10_beginRun_29 : decode cX10_beginRun 29 = .ok (.iload_n 2, 1) := by decide +kernel
theorem dX10_beginRun_30 : decode cX10_beginRun 30 = .ok (.aaload, 1) := by decide +kernel
theorem dX10_beginRun_31 : decode cX10_beginRun 31 = .ok (.bipush 26, 2) := by decide +kernel
theorem dX10_beginRun_33 : decode cX10_beginRun 33 = .ok (.laload, 1) := by decide +kernel
theorem dX10_beginRun_34 : decode cX10_beginRun 34 = .ok (.lastore, 1) := by decide +kernel
theorem dX10_beginRun_35 : decode cX10_beginRun 35 = .ok (.iinc 2 1, 3) := by decide +kernel
theorem dX10_beginRun_38 : decode cX10_beginRun 38 = .ok (.goto (-36), 3) := by decide +kernel
theorem dX10_beginRun_41 : decode cX10_beginRun 41 = .ok (.return_, 1) := by decide +kernel
theorem dX10_nextSign_0 : decode cX10_nextSign 0 = .ok (.iload_n 1, 1) := by decide +kernel
theorem dX10_nextSign_1 : decode cX10_nextSign 1 = .ok (.invokestatic 42, 3) := by decide +kernel
theorem dX10_nextSign_4 : decode cX10_nextSign 4 = .ok (.istore_n 2, 1) := by decide +kernel
theorem dX10_nextSign_5 : decode cX10_nextSign 5 = .ok (.iconst 0, 1) := by decide +kernel
theorem dX10_nextSign_6 : decode cX10_nextSign 6 = .ok (.istore_n 3, 1) := by decide +kernel
theorem dX10_nextSign_7 : decode cX10_nextSign 7 = .ok (.iload_n 3, 1) := by decide +kernel
theorem dX10_nextSign_8 : decode cX10_nextSign 8 = .ok (.iconst 2, 1) := by decide +kernel
theorem dX10_nextSign_9 : decode cX10_nextSign 9 = .ok (.if_icmp .ge 55, 3) := by decide +kernel
theorem dX10_nextSign_12 : decode cX10_nextSign 12 = .ok (.aload_n 0, 1) := by decide +kernel
theorem dX10_nextSign_13 : decode cX10_nextSign 13 = .ok (.getfield 26, 3) := by decide +kernel
theorem dX10_nextSign_16 : decode cX10_nextSign 16 = .ok (.iload_n 3, 1) := by decide +kernel
theorem dX10_nextSign_17 : decode cX10_nextSign 17 = .ok (.aload_n 0, 1) := by decide +kernel
theorem dX10_nextSign_18 : decode cX10_nextSign 18 = .ok (.getfield 23, 3) := by decide +kernel
theorem dX10_nextSign_21 : decode cX10_nextSign 21 = .ok (.iload_n 3, 1) := by decide +kernel
theorem dX10_nextSign_22 : decode cX10_nextSign 22 = .ok (.laload, 1) := by decide +kernel
theorem dX10_nextSign_23 : decode cX10_nextSign 23 = .ok (.aload_n 0, 1) := by decide +kernel
theorem dX10_nextSign_24 : decode cX10_nextSign 24 = .ok (.getfield 13, 3) := by decide +kernel
theorem dX10_nextSign_27 : decode cX10_nextSign 27 = .ok (.iload_n 3, 1) := by decide +kernel
theorem dX10_nextSign_28 : decode cX10_nextSign 28 = .ok (.aaload, 1) := by decide +kernel
theorem dX10_nextSign_29 : decode cX10_nextSign 29 = .ok (.iload_n 2, 1) := by decide +kernel
theorem dX10_nextSign_30 : decode cX10_nextSign 30 = .ok (.laload, 1) := by decide +kernel
theorem dX10_nextSign_31 : decode cX10_nextSign 31 = .ok (.land, 1) := by decide +kernel
theorem dX10_nextSign_32 : decode cX10_nextSign 32 = .ok (.lastore, 1) := by decide +kernel
theorem dX10_nextSign_33 : decode cX10_nextSign 33 = .ok (.aload_n 0, 1) := by decide +kernel
theorem dX10_nextSign_34 : decode cX10_nextSign 34 = .ok (.getfield 23, 3) := by decide +kernel
theorem dX10_nextSign_37 : decode cX10_nextSign 37 = .ok (.iload_n 3, 1) := by decide +kernel
theorem dX10_nextSign_38 : decode cX10_nextSign 38 = .ok (.aload_n 0, 1) := by decide +kernel
theorem dX10_nextSign_39 : decode cX10_nextSign 39 = .ok (.getfield 26, 3) := by decide +kernel
theorem dX10_nextSign_42 : decode cX10_nextSign 42 = .ok (.iload_n 3, 1) := by decide +kernel
theorem dX10_nextSign_43 : decode cX10_nextSign 43 = .ok (.laload, 1) := by decide +kernel
theorem dX10_nextSign_44 : decode cX10_nextSign 44 = .ok (.iconst 1, 1) := by decide +kernel
theorem dX10_nextSign_45 : decode cX10_nextSign 45 = .ok (.lshl, 1) := by decide +kernel
theorem dX10_nextSign_46 : decode cX10_nextSign 46 = .ok (.aload_n 0, 1) := by decide +kernel
theorem dX10_nextSign_47 : decode cX10_nextSign 47 = .ok (.getfield 16, 3) := by decide +kernel
theorem dX10_nextSign_50 : decode cX10_nextSign 50 = .ok (.iload_n 3, 1) := by decide +kernel
theorem dX10_nextSign_51 : decode cX10_nextSign 51 = .ok (.laload, 1) := by decide +kernel
theorem dX10_nextSign_52 : decode cX10_nextSign 52 = .ok (.ldc2_w 46, 3) := by decide +kernel
theorem dX10_nextSign_55 : decode cX10_nextSign 55 = .ok (.lxor, 1) := by decide +kernel
theorem dX10_nextSign_56 : decode cX10_nextSign 56 = .ok (.land, 1) := by decide +kernel
theorem dX10_nextSign_57 : decode cX10_nextSign 57 = .ok (.lastore, 1) := by decide +kernel
theorem dX10_nextSign_58 : decode cX10_nextSign 58 = .ok (.iinc 3 1, 3) := by decide +kernel
theorem dX10_nextSign_61 : decode cX10_nextSign 61 = .ok (.goto (-54), 3) := by decide +kernel
theorem dX10_nextSign_64 : decode cX10_nextSign 64 = .ok (.return_, 1) := by decide +kernel
theorem dX10_endRun_0 : decode cX10_endRun 0 = .ok (.iload_n 1, 1) := by decide +kernel
theorem dX10_endRun_1 : decode cX10_endRun 1 = .ok (.ifCond .eq 31, 3) := by decide +kernel
theorem dX10_endRun_4 : decode cX10_endRun 4 = .ok (.iconst 0, 1) := by decide +kernel
theorem dX10_endRun_5 : decode cX10_endRun 5 = .ok (.istore_n 2, 1) := by decide +kernel
theorem dX10_endRun_6 : decode cX10_endRun 6 = .ok (.iload_n 2, 1) := by decide +kernel
theorem dX10_endRun_7 : decode cX10_endRun 7 = .ok (.iconst 2, 1) := by decide +kernel
theorem dX10_endRun_8 : decode cX10_endRun 8 = .ok (.if_icmp .ge 24, 3) := by decide +kernel
theorem dX10_endRun_11 : decode cX10_endRun 11 = .ok (.aload_n 0, 1) := by decide +kernel
theorem dX10_endRun_12 : decode cX10_endRun 12 = .ok (.getfield 26, 3) := by decide +kernel
theorem dX10_endRun_15 : decode cX10_endRun 15 = .ok (.iload_n 2, 1) := by decide +kernel
theorem dX10_endRun_16 : decode cX10_endRun 16 = .ok (.dup2, 1) := by decide +kernel
theorem dX10_endRun_17 : decode cX10_endRun 17 = .ok (.laload, 1) := by decide +kernel
theorem dX10_endRun_18 : decode cX10_endRun 18 = .ok (.aload_n 0, 1) := by decide +kernel
theorem dX10_endRun_19 : decode cX10_endRun 19 = .ok (.getfield 20, 3) := by decide +kernel
theorem dX10_endRun_22 : decode cX10_endRun 22 = .ok (.iload_n 2, 1) := by decide +kernel
theorem dX10_endRun_23 : decode cX10_endRun 23 = .ok (.laload, 1) := by decide +kernel
theorem dX10_endRun_24 : decode cX10_endRun 24 = .ok (.land, 1) := by decide +kernel
theorem dX10_endRun_25 : decode cX10_endRun 25 = .ok (.lastore, 1) := by decide +kernel
theorem dX10_endRun_26 : decode cX10_endRun 26 = .ok (.iinc 2 1, 3) := by decide +kernel
theorem dX10_endRun_29 : decode cX10_endRun 29 = .ok (.goto (-23), 3) := by decide +kernel
theorem dX10_endRun_32 : decode cX10_endRun 32 = .ok (.return_, 1) := by decide +kernel
theorem dX10_canBeSome_0 : decode cX10_canBeSome 0 = .ok (.aload_n 0, 1) := by decide +kernel
theorem dX10_canBeSome_1 : decode cX10_canBeSome 1 = .ok (.getfield 29, 3) := by decide +kernel
theorem dX10_canBeSome_4 : decode cX10_canBeSome 4 = .ok (.ifCond .eq 25, 3) := by decide +kernel
theorem dX10_canBeSome_7 : decode cX10_canBeSome 7 = .ok (.aload_n 0, 1) := by decide +kernel
theorem dX10_canBeSome_8 : decode cX10_canBeSome 8 = .ok (.getfield 26, 3) := by decide +kernel
theorem dX10_canBeSome_11 : decode cX10_canBeSome 11 = .ok (.iconst 0, 1) := by decide +kernel
theorem dX10_canBeSome_12 : decode cX10_canBeSome 12 = .ok (.laload, 1) := by decide +kernel
theorem dX10_canBeSome_13 : decode cX10_canBeSome 13 = .ok (.lconst 0, 1) := by decide +kernel
theorem dX10_canBeSome_14 : decode cX10_canBeSome 14 = .ok (.lcmp, 1) := by decide +kernel
theorem dX10_canBeSome_15 : decode cX10_canBeSome 15 = .ok (.ifCond .ne 14, 3) := by decide +kernel
theorem dX10_canBeSome_18 : decode cX10_canBeSome 18 = .ok (.aload_n 0, 1) := by decide +kernel
theorem dX10_canBeSome_19 : decode cX10_canBeSome 19 = .ok (.getfield 26, 3) := by decide +kernel
theorem dX10_canBeSome_22 : decode cX10_canBeSome 22 = .ok (.iconst 1, 1) := by decide +kernel
theorem dX10_canBeSome_23 : decode cX10_canBeSome 23 = .ok (.laload, 1) := by decide +kernel
theorem dX10_canBeSome_24 : decode cX10_canBeSome 24 = .ok (.lconst 0, 1) := by decide +kernel
theorem dX10_canBeSome_25 : decode cX10_canBeSome 25 = .ok (.lcmp, 1) := by decide +kernel
theorem dX10_canBeSome_26 : decode cX10_canBeSome 26 = .ok (.ifCond .eq 7, 3) := by decide +kernel
theorem dX10_canBeSome_29 : decode cX10_canBeSome 29 = .ok (.iconst 1, 1) := by decide +kernel
theorem dX10_canBeSome_30 : decode cX10_canBeSome 30 = .ok (.goto 4, 3) := by decide +kernel
theorem dX10_canBeSome_33 : decode cX10_canBeSome 33 = .ok (.iconst 0, 1) := by decide +kernel
theorem dX10_canBeSome_34 : decode cX10_canBeSome 34 = .ok (.ireturn, 1) := by decide +kernel
theorem dX10_canBe_0 : decode cX10_canBe 0 = .ok (.iload_n 1, 1) := by decide +kernel
theorem dX10_canBe_1 : decode cX10_canBe 1 = .ok (.ifCond .lt 11, 3) := by decide +kernel
theorem dX10_canBe_4 : decode cX10_canBe 4 = .ok (.iload_n 1, 1) := by decide +kernel
theorem dX10_canBe_5 : decode cX10_canBe 5 = .ok (.aload_n 0, 1) := by decide +kernel
theorem dX10_canBe_6 : decode cX10_canBe 6 = .ok (.getfield 29, 3) := by decide +kernel
theorem dX10_canBe_9 : decode cX10_canBe 9 = .ok (.if_icmp .lt 5, 3) := by decide +kernel
theorem dX10_canBe_12 : decode cX10_canBe 12 = .ok (.iconst 0, 1) := by decide +kernel
theorem dX10_canBe_13 : decode cX10_canBe 13 = .ok (.ireturn, 1) := by decide +kernel
theorem dX10_canBe_14 : decode cX10_canBe 14 = .ok (.aload_n 0, 1) := by decide +kernel
theorem dX10_canBe_15 : decode cX10_canBe 15 = .ok (.getfield 26, 3) := by decide +kernel
theorem dX10_canBe_18 : decode cX10_canBe 18 = .ok (.iload_n 1, 1) := by decide +kernel
theorem dX10_canBe_19 : decode cX10_canBe 19 = .ok (.bipush 6, 2) := by decide +kernel
theorem dX10_canBe_21 : decode cX10_canBe 21 = .ok (.idiv, 1) := by decide +kernel
theorem dX10_canBe_22 : decode cX10_canBe 22 = .ok (.laload, 1) := by decide +kernel
theorem dX10_canBe_23 : decode cX10_canBe 23 = .ok (.iload_n 1, 1) := by decide +kernel
theorem dX10_canBe_24 : decode cX10_canBe 24 = .ok (.bipush 6, 2) := by decide +kernel
theorem dX10_canBe_26 : decode cX10_canBe 26 = .ok (.irem, 1) := by decide +kernel
theorem dX10_canBe_27 : decode cX10_canBe 27 = .ok (.bipush 10, 2) := by decide +kernel
theorem dX10_canBe_29 : decode cX10_canBe 29 = .ok (.imul, 1) := by decide +kernel
theorem dX10_canBe_30 : decode cX10_canBe 30 = .ok (.lushr, 1) := by decide +kernel
theorem dX10_canBe_31 : decode cX10_canBe 31 = .ok (.lstore_n 2, 1) := by decide +kernel
theorem dX10_canBe_32 : decode cX10_canBe 32 = .ok (.lload_n 2, 1) := by decide +kernel
theorem dX10_canBe_33 : decode cX10_canBe 33 = .ok (.ldc2_w 48, 3) := by decide +kernel
theorem dX10_canBe_36 : decode cX10_canBe 36 = .ok (.land, 1) := by decide +kernel
theorem dX10_canBe_37 : decode cX10_canBe 37 = .ok (.lconst 0, 1) := by decide +kernel
theorem dX10_canBe_38 : decode cX10_canBe 38 = .ok (.lcmp, 1) := by decide +kernel
theorem dX10_canBe_39 : decode cX10_canBe 39 = .ok (.ifCond .eq 7, 3) := by decide +kernel
theorem dX10_canBe_42 : decode cX10_canBe 42 = .ok (.iconst 1, 1) := by decide +kernel
theorem dX10_canBe_43 : decode cX10_canBe 43 = .ok (.goto 4, 3) := by decide +kernel
theorem dX10_canBe_46 : decode cX10_canBe 46 = .ok (.iconst 0, 1) := by decide +kernel
theorem dX10_canBe_47 : decode cX10_canBe 47 = .ok (.ireturn, 1) := by decide +kernel
theorem dX11_init_0 : decode cX11_init 0 = .ok (.aload_n 0, 1) := by decide +kernel
theorem dX11_init_1 : decode cX11_init 1 = .ok (.invokespecial 3, 3) := by decide +kernel
theorem dX11_init_4 : decode cX11_init 4 = .ok (.aload_n 0, 1) := by decide +kernel
theorem dX11_init_5 : decode cX11_init 5 = .ok (.new 9, 3) := by decide +kernel
theorem dX11_init_8 : decode cX11_init 8 = .ok (.dup, 1) := by decide +kernel
theorem dX11_init_9 : decode cX11_init 9 = .ok (.invokespecial 11, 3) := by decide +kernel
theorem dX11_init_12 : decode cX11_init 12 = .ok (.putfield 12, 3) := by decide +kernel
theorem dX11_init_15 : decode cX11_init 15 = .ok (.aload_n 0, 1) := by decide +kernel
theorem dX11_init_16 : decode cX11_init 16 = .ok (.bipush 10, 2) := by decide +kernel
theorem dX11_init_18 : decode cX11_init 18 = .ok (.anewarray 16, 3) := by decide +kernel
theorem dX11_init_21 : decode cX11_init 21 = .ok (.putfield 18, 3) := by decide +kernel
theorem dX11_init_24 : decode cX11_init 24 = .ok (.iconst 0, 1) := by decide +kernel
theorem dX11_init_25 : decode cX11_init 25 = .ok (.istore_n 1, 1) := by decide +kernel
theorem dX11_init_26 : decode cX11_init 26 = .ok (.iload_n 1, 1) := by decide +kernel
theorem dX11_init_27 : decode cX11_init 27 = .ok (.bipush 10, 2) := by decide +kernel
theorem dX11_init_29 : decode cX11_init 29 = .ok (.if_icmp .ge 23, 3) := by decide +kernel
theorem dX11_init_32 : decode cX11_init 32 = .ok (.aload_n 0, 1) := by decide +kernel
theorem dX11_init_33 : decode cX11_init 33 = .ok (.getfield 18, 3) := by decide +kernel
theorem dX11_init_36 : decode cX11_init 36 = .ok (.iload_n 1, 1) := by decide +kernel
theorem dX11_init_37 : decode cX11_init 37 = .ok (.new 16, 3) := by decide +kernel
theorem dX11_init_40 : decode cX11_init 40 = .ok (.dup, 1) := by decide +kernel
theorem dX11_init_41 : decode cX11_init 41 = .ok (.iload_n 1, 1) := by decide +kernel
theorem dX11_init_42 : decode cX11_init 42 = .ok (.invokespecial 22, 3) := by decide +kernel
theorem dX11_init_45 : decode cX11_init 45 = .ok (.aastore, 1) := by decide +kernel
theorem dX11_init_46 : decode cX11_init 46 = .ok (.iinc 1 1, 3) := by decide +kernel
theorem dX11_init_49 : decode cX11_init 49 = .ok (.goto (-23), 3) := by decide +kernel
theorem dX11_init_52 : decode cX11_init 52 = .ok (.aload_n 0, 1) := by decide +kernel
theorem dX11_init_53 : decode cX11_init 53 = .ok (.new 25, 3) := by decide +kernel
theorem dX11_init_56 : decode cX11_init 56 = .ok (.dup, 1) := by decide +kernel
theorem dX11_init_57 : decode cX11_init 57 = .ok (.invokespecial 27, 3) := by decide +kernel
theorem dX11_init_60 : decode cX11_init 60 = .ok (.putfield 28, 3) := by decide +kernel
theorem dX11_init_63 : decode cX11_init 63 = .ok (.aload_n 0, 1) := by decide +kernel
theorem dX11_init_64 : decode cX11_init 64 = .ok (.new 32, 3) := by decide +kernel
theorem dX11_init_67 : decode cX11_init 67 = .ok (.dup, 1) := by decide +kernel
theorem dX11_init_68 : decode cX11_init 68 = .ok (.invokespecial 34, 3) := by decide +kernel
theorem dX11_init_71 : decode cX11_init 71 = .ok (.putfield 35, 3) := by decide +kernel
theorem dX11_init_74 : decode cX11_init 74 = .ok (.aload_n 0, 1) := by decide +kernel
theorem dX11_init_75 : decode cX11_init 75 = .ok (.new 39, 3) := by decide +kernel
theorem dX11_init_78 : decode cX11_init 78 = .ok (.dup, 1) := by decide +kernel
theorem dX11_init_79 : decode cX11_init 79 = .ok (.invokespecial 41, 3) := by decide +kernel
theorem dX11_init_82 : decode cX11_init 82 = .ok (.putfield 42, 3) := by decide +kernel
theorem dX11_init_85 : decode cX11_init 85 = .ok (.aload_n 0, 1) := by decide +kernel
theorem dX11_init_86 : decode cX11_init 86 = .ok (.new 46, 3) := by decide +kernel
theorem dX11_init_89 : decode cX11_init 89 = .ok (.dup, 1) := by decide +kernel
theorem dX11_init_90 : decode cX11_init 90 = .ok (.invokespecial 48, 3) := by decide +kernel
theorem dX11_init_93 : decode cX11_init 93 = .ok (.putfield 49, 3) := by decide +kernel
theorem dX11_init_96 : decode cX11_init 96 = .ok (.aload_n 0, 1) := by decide +kernel
theorem dX11_init_97 : decode cX11_init 97 = .ok (.new 53, 3) := by decide +kernel
theorem dX11_init_100 : decode cX11_init 100 = .ok (.dup, 1) := by decide +kernel
theorem dX11_init_101 : decode cX11_init 101 = .ok (.invokespecial 55, 3) := by decide +kernel
theorem dX11_init_104 : decode cX11_init 104 = .ok (.putfield 56, 3) := by decide +kernel
theorem dX11_init_107 : decode cX11_init 107 = .ok (.return_, 1) := by decide +kernel
theorem dX11_feed_0 : decode cX11_feed 0 = .ok (.aload_n 0, 1) := by decide +kernel
theorem dX11_feed_1 : decode cX11_feed 1 = .ok (.getfield 12, 3) := by decide +kernel
theorem dX11_feed_4 : decode cX11_feed 4 = .ok (.getfield 60, 3) := by decide +kernel
theorem dX11_feed_7 : decode cX11_feed 7 = .ok (.bipush 20, 2) := by decide +kernel
theorem dX11_feed_9 : decode cX11_feed 9 = .ok (.iadd, 1) := by decide +kernel
theorem dX11_feed_10 : decode cX11_feed 10 = .ok (.sipush 200, 3) := by decide +kernel
theorem dX11_feed_13 : decode cX11_feed 13 = .ok (.if_icmp .le 5, 3) := by decide +kernel
theorem dX11_feed_16 : decode cX11_feed 16 = .ok (.iconst (-1), 1) := by decide +kernel
theorem dX11_feed_17 : decode cX11_feed 17 = .ok (.ireturn, 1) := by decide +kernel
theorem dX11_feed_18 : decode cX11_feed 18 = .ok (.aload_n 0, 1) := by decide +kernel
theorem dX11_feed_19 : decode cX11_feed 19 = .ok (.getfield 12, 3) := by decide +kernel
theorem dX11_feed_22 : decode cX11_feed 22 = .ok (.iload_n 1, 1) := by decide +kernel
theorem dX11_feed_23 : decode cX11_feed 23 = .ok (.invokevirtual 64, 3) := by decide +kernel
theorem dX11_feed_26 : decode cX11_feed 26 = .ok (.aload_n 0, 1) := by decide +kernel
theorem dX11_feed_27 : decode cX11_feed 27 = .ok (.getfield 12, 3) := by decide +kernel
theorem dX11_feed_30 : decode cX11_feed 30 = .ok (.iload_n 2, 1) := by decide +kernel
theorem dX11_feed_31 : decode cX11_feed 31 = .ok (.invokevirtual 64, 3) := by decide +kernel
theorem dX11_feed_34 : decode cX11_feed 34 = .ok (.aload_n 0, 1) := by decide +kernel
theorem dX11_feed_35 : decode cX11_feed 35 = .ok (.getfield 12, 3) := by decide +kernel
theorem dX11_feed_38 : decode cX11_feed 38 = .ok (.iload_n 3, 1) := by decide +kernel
theorem dX11_feed_39 : decode cX11_feed 39 = .ok (.invokevirtual 64, 3) := by decide +kernel
theorem dX11_feed_42 : decode cX11_feed 42 = .ok (.aload_n 0, 1) := by decide +kernel
theorem dX11_feed_43 : decode cX11_feed 43 = .ok (.getfield 12, 3) := by decide +kernel
theorem dX11_feed_46 : decode cX11_feed 46 = .ok (.iload 4, 2) := by decide +kernel
theorem dX11_feed_48 : decode cX11_feed 48 = .ok (.invokevirtual 64, 3) := by decide +kernel
theorem dX11_feed_51 : decode cX11_feed 51 = .ok (.aload_n 0, 1) := by decide +kernel
theorem dX11_feed_52 : decode cX11_feed 52 = .ok (.getfield 12, 3) := by decide +kernel
theorem dX11_feed_55 : decode cX11_feed 55 = .ok (.iload 5, 2) := by decide +kernel
theorem dX11_feed_57 : decode cX11_feed 57 = .ok (.invokevirtual 64, 3) := by decide +kernel
theorem dX11_feed_60 : decode cX11_feed 60 = .ok (.aload_n 0, 1) := by decide +kernel
theorem dX11_feed_61 : decode cX11_feed 61 = .ok (.getfield 12, 3) := by decide +kernel
theorem dX11_feed_64 : decode cX11_feed 64 = .ok (.getfield 60, 3) := by decide +kernel
theorem dX11_feed_67 : decode cX11_feed 67 = .ok (.ireturn, 1) := by decide +kernel
theorem dX11_end_0 : decode cX11_end 0 = .ok (.iload_n 1, 1) := by decide +kernel
theorem dX11_end_1 : decode cX11_end 1 = .ok (.ifCond .lt 14, 3) := by decide +kernel
theorem dX11_end_4 : decode cX11_end 4 = .ok (.iload_n 1, 1) := by decide +kernel
theorem dX11_end_5 : decode cX11_end 5 = .ok (.aload_n 0, 1) := by decide +kernel
theorem dX11_end_6 : decode cX11_end 6 = .ok (.getfield 12, 3) := by decide +kernel
theorem dX11_end_9 : decode cX11_end 9 = .ok (.getfield 60, 3) := by decide +kernel
theorem dX11_end_12 : decode cX11_end 12 = .ok (.if_icmp .le 5, 3) := by decide +kernel
theorem dX11_end_15 : decode cX11_end 15 = .ok (.iconst 0, 1) := by decide +kernel
theorem dX11_end_16 : decode cX11_end 16 = .ok (.ireturn, 1) := by decide +kernel
theorem dX11_end_17 : decode cX11_end 17 = .ok (.aload_n 0, 1) := by decide +kernel
theorem dX11_end_18 : decode cX11_end 18 = .ok (.getfield 12, 3) := by decide +kernel
theorem dX11_end_21 : decode cX11_end 21 = .ok (.iload_n 1, 1) := by decide +kernel
theorem dX11_end_22 : decode cX11_end 22 = .ok (.putfield 60, 3) := by decide +kernel
theorem dX11_end_25 : decode cX11_end 25 = .ok (.iconst 1, 1) := by decide +kernel
theorem dX11_end_26 : decode cX11_end 26 = .ok (.ireturn, 1) := by decide +kernel
theorem dX11_bit_0 : decode cX11_bit 0 = .ok (.iload_n 1, 1) := by decide +kernel
theorem dX11_bit_1 : decode cX11_bit 1 = .ok (.ifCond .lt 9, 3) := by decide +kernel
theorem dX11_bit_4 : decode cX11_bit 4 = .ok (.iload_n 1, 1) := by decide +kernel
theorem dX11_bit_5 : decode cX11_bit 5 = .ok (.bipush 10, 2) := by decide +kernel
theorem dX11_bit_7 : decode cX11_bit 7 = .ok (.if_icmp .lt 7, 3) := by decide +kernel
theorem dX11_bit_10 : decode cX11_bit 10 = .ok (.iconst (-1), 1) := by decide +kernel
theorem dX11_bit_11 : decode cX11_bit 11 = .ok (.goto 10, 3) := by decide +kernel
theorem dX11_bit_14 : decode cX11_bit 14 = .ok (.aload_n 0, 1) := by decide +kernel
theorem dX11_bit_15 : decode cX11_bit 15 = .ok (.getfield 12, 3) := by decide +kernel
theorem dX11_bit_18 : decode cX11_bit 18 = .ok (.invokestatic 67, 3) := by decide +kernel
theorem dX11_bit_21 : decode cX11_bit 21 = .ok (.istore_n 2, 1) := by decide +kernel
theorem dX11_bit_22 : decode cX11_bit 22 = .ok (.iload_n 2, 1) := by decide +kernel
theorem dX11_bit_23 : decode cX11_bit 23 = .ok (.iconst (-1), 1) := by decide +kernel
theorem dX11_bit_24 : decode cX11_bit 24 = .ok (.if_icmp .eq 33, 3) := by decide +kernel
theorem dX11_bit_27 : decode cX11_bit 27 = .ok (.aload_n 0, 1) := by decide +kernel
theorem dX11_bit_28 : decode cX11_bit 28 = .ok (.getfield 18, 3) := by decide +kernel
theorem dX11_bit_31 : decode cX11_bit 31 = .ok (.iload_n 1, 1) := by decide +kernel
theorem dX11_bit_32 : decode cX11_bit 32 = .ok (.aaload, 1) := by decide +kernel
theorem dX11_bit_33 : decode cX11_bit 33 = .ok (.astore_n 3, 1) := by decide +kernel
theorem dX11_bit_34 : decode cX11_bit 34 = .ok (.aload_n 3, 1) := by decide +kernel
theorem dX11_bit_35 : decode cX11_bit 35 = .ok (.getfield 71, 3) := by decide +kernel
theorem dX11_bit_38 : decode cX11_bit 38 = .ok (.ifCond .eq 11, 3) := by decide +kernel
theorem dX11_bit_41 : decode cX11_bit 41 = .ok (.aload_n 0, 1) := by decide +kernel
theorem dX11_bit_42 : decode cX11_bit 42 = .ok (.getfield 35, 3) := by decide +kernel
theorem dX11_bit_45 : decode cX11_bit 45 = .ok (.aload_n 3, 1) := by decide +kernel
theorem dX11_bit_46 : decode cX11_bit 46 = .ok (.invokevirtual 75, 3) := by decide +kernel
theorem dX11_bit_49 : decode cX11_bit 49 = .ok (.aload_n 3, 1) := by decide +kernel
theorem dX11_bit_50 : decode cX11_bit 50 = .ok (.aload_n 0, 1) := by decide +kernel
theorem dX11_bit_51 : decode cX11_bit 51 = .ok (.getfield 12, 3) := by decide +kernel
theorem dX11_bit_54 : decode cX11_bit 54 = .ok (.invokevirtual 79, 3) := by decide +kernel
theorem dX11_bit_57 : decode cX11_bit 57 = .ok (.aload_n 0, 1) := by decide +kernel
theorem dX11_bit_58 : decode cX11_bit 58 = .ok (.getfield 12, 3) := by decide +kernel
theorem dX11_bit_61 : decode cX11_bit 61 = .ok (.iconst 0, 1) := by decide +kernel
theorem dX11_bit_62 : decode cX11_bit 62 = .ok (.putfield 60, 3) := by decide +kernel
theorem dX11_bit_65 : decode cX11_bit 65 = .ok (.iload_n 2, 1) := by decide +kernel
theorem dX11_bit_66 : decode cX11_bit 66 = .ok (.ireturn, 1) := by decide +kernel
theorem dX11_cell_0 : decode cX11_cell 0 = .ok (.aload_n 0, 1) := by decide +kernel
theorem dX11_cell_1 : decode cX11_cell 1 = .ok (.iload_n 1, 1) := by decide +kernel
theorem dX11_cell_2 : decode cX11_cell 2 = .ok (.invokevirtual 83, 3) := by decide +kernel
theorem dX11_cell_5 : decode cX11_cell 5 = .ok (.astore 4, 2) := by decide +kernel
theorem dX11_cell_7 : decode cX11_cell 7 = .ok (.aload 4, 2) := by decide +kernel
theorem dX11_cell_9 : decode cX11_cell 9 = .ok (.ifnull 22, 3) := by decide +kernel
theorem dX11_cell_12 : decode cX11_cell 12 = .ok (.iload_n 2, 1) := by decide +kernel
theorem dX11_cell_13 : decode cX11_cell 13 = .ok (.ifCond .lt 18, 3) := by decide +kernel
theorem dX11_cell_16 : decode cX11_cell 16 = .ok (.iload_n 2, 1) := by decide +kernel
theorem dX11_cell_17 : decode cX11_cell 17 = .ok (.iconst 5, 1) := by decide +kernel
theorem dX11_cell_18 : decode cX11_cell 18 = .ok (.if_icmp .ge 13, 3) := by decide +kernel
theorem dX11_cell_21 : decode cX11_cell 21 = .ok (.iload_n 3, 1) := by decide +kernel
theorem dX11_cell_22 : decode cX11_cell 22 = .ok (.ifCond .lt 9, 3) := by decide +kernel
theorem dX11_cell_25 : decode cX11_cell 25 = .ok (.iload_n 3, 1) := by decide +kernel
theorem dX11_cell_26 : decode cX11_cell 26 = .ok (.bipush 10, 2) := by decide +kernel
theorem dX11_cell_28 : decode cX11_cell 28 = .ok (.if_icmp .lt 5, 3) := by decide +kernel
theorem dX11_cell_31 : decode cX11_cell 31 = .ok (.iconst (-1), 1) := by decide +kernel
theorem dX11_cell_32 : decode cX11_cell 32 = .ok (.ireturn, 1) := by decide +kernel
theorem dX11_cell_33 : decode cX11_cell 33 = .ok (.aload 4, 2) := by decide +kernel
theorem dX11_cell_35 : decode cX11_cell 35 = .ok (.getfield 87, 3) := by decide +kernel
theorem dX11_cell_38 : decode cX11_cell 38 = .ok (.iload_n 2, 1) := by decide +kernel
theorem dX11_cell_39 : decode cX11_cell 39 = .ok (.bipush 10, 2) := by decide +kernel
theorem dX11_cell_41 : decode cX11_cell 41 = .ok (.imul, 1) := by decide +kernel
theorem dX11_cell_42 : decode cX11_cell 42 = .ok (.iload_n 3, 1) := by decide +kernel
theorem dX11_cell_43 : decode cX11_cell 43 = .ok (.iadd, 1) := by decide +kernel
theorem dX11_cell_44 : decode cX11_cell 44 = .ok (.iaload, 1) := by decide +kernel
theorem dX11_cell_45 : decode cX11_cell 45 = .ok (.ireturn, 1) := by decide +kernel
theorem dX11_fibre_0 : decode cX11_fibre 0 = .ok (.aload_n 0, 1) := by decide +kernel
theorem dX11_fibre_1 : decode cX11_fibre 1 = .ok (.iload_n 1, 1) := by decide +kernel
theorem dX11_fibre_2 : decode cX11_fibre 2 = .ok (.invokevirtual 83, 3) := by decide +kernel
theorem dX11_fibre_5 : decode cX11_fibre 5 = .ok (.astore 5, 2) := by decide +kernel
theorem dX11_fibre_7 : decode cX11_fibre 7 = .ok (.aload 5, 2) := by decide +kernel
theorem dX11_fibre_9 : decode cX11_fibre 9 = .ok (.ifnull 23, 3) := by decide +kernel
theorem dX11_fibre_12 : decode cX11_fibre 12 = .ok (.aload 5, 2) := by decide +kernel
theorem dX11_fibre_14 : decode cX11_fibre 14 = .ok (.getfield 71, 3) := by decide +kernel
theorem dX11_fibre_17 : decode cX11_fibre 17 = .ok (.ifCond .ne 15, 3) := by decide +kernel
theorem dX11_fibre_20 : decode cX11_fibre 20 = .ok (.iload 4, 2) := by decide +kernel
theorem dX11_fibre_22 : decode cX11_fibre 22 = .ok (.ifCond .lt 10, 3) := by decide +kernel
theorem dX11_fibre_25 : decode cX11_fibre 25 = .ok (.iload 4, 2) := by decide +kernel
theorem dX11_fibre_27 : decode cX11_fibre 27 = .ok (.bipush 99, 2) := by decide +kernel
theorem dX11_fibre_29 : decode cX11_fibre 29 = .ok (.if_icmp .le 5, 3) := by decide +kernel
theorem dX11_fibre_32 : decode cX11_fibre 32 = .ok (.iconst (-1), 1) := by decide +kernel
theorem dX11_fibre_33 : decode cX11_fibre 33 = .ok (.ireturn, 1) := by decide +kernel
theorem dX11_fibre_34 : decode cX11_fibre 34 = .ok (.iload_n 2, 1) := by decide +kernel
theorem dX11_fibre_35 : decode cX11_fibre 35 = .ok (.ifCond .eq 11, 3) := by decide +kernel
theorem dX11_fibre_38 : decode cX11_fibre 38 = .ok (.aload 5, 2) := by decide +kernel
theorem dX11_fibre_40 : decode cX11_fibre 40 = .ok (.getfield 91, 3) := by decide +kernel
theorem dX11_fibre_43 : decode cX11_fibre 43 = .ok (.goto 8, 3) := by decide +kernel
theorem dX11_fibre_46 : decode cX11_fibre 46 = .ok (.aload 5, 2) := by decide +kernel
theorem dX11_fibre_48 : decode cX11_fibre 48 = .ok (.getfield 95, 3) := by decide +kernel
theorem dX11_fibre_51 : decode cX11_fibre 51 = .ok (.astore 6, 2) := by decide +kernel
theorem dX11_fibre_53 : decode cX11_fibre 53 = .ok (.iload_n 3, 1) := by decide +kernel
theorem dX11_fibre_54 : decode cX11_fibre 54 = .ok (.ifCond .lt 13, 3) := by decide +kernel
theorem dX11_fibre_57 : decode cX11_fibre 57 = .ok (.iload_n 3, 1) := by decide +kernel
theorem dX11_fibre_58 : decode cX11_fibre 58 = .ok (.aload 6, 2) := by decide +kernel
theorem dX11_fibre_60 : decode cX11_fibre 60 = .ok (.getfield 98, 3) := by decide +kernel
theorem dX11_fibre_63 : decode cX11_fibre 63 = .ok (.arraylength, 1) := by decide +kernel
theorem dX11_fibre_64 : decode cX11_fibre 64 = .ok (.if_icmp .lt 5, 3) := by decide +kernel
theorem dX11_fibre_67 : decode cX11_fibre 67 = .ok (.iconst (-1), 1) := by decide +kernel
theorem dX11_fibre_68 : decode cX11_fibre 68 = .ok (.ireturn, 1) := by decide +kernel
theorem dX11_fibre_69 : decode cX11_fibre 69 = .ok (.aload 6, 2) := by decide +kernel
theorem dX11_fibre_71 : decode cX11_fibre 71 = .ok (.getfield 98, 3) := by decide +kernel
theorem dX11_fibre_74 : decode cX11_fibre 74 = .ok (.iload_n 3, 1) := by decide +kernel
theorem dX11_fibre_75 : decode cX11_fibre 75 = .ok (.iaload, 1) := by decide +kernel
theorem dX11_fibre_76 : decode cX11_fibre 76 = .ok (.istore 7, 2) := by decide +kernel
theorem dX11_fibre_78 : decode cX11_fibre 78 = .ok (.aload 6, 2) := by decide +kernel
theorem dX11_fibre_80 : decode cX11_fibre 80 = .ok (.getfield 98, 3) := by decide +kernel
theorem dX11_fibre_83 : decode cX11_fibre 83 = .ok (.iload_n 3, 1) := by decide +kernel
theorem dX11_fibre_84 : decode cX11_fibre 84 = .ok (.iload 4, 2) := by decide +kernel
theorem dX11_fibre_86 : decode cX11_fibre 86 = .ok (.iastore, 1) := by decide +kernel
theorem dX11_fibre_87 : decode cX11_fibre 87 = .ok (.iload 7, 2) := by decide +kernel
theorem dX11_fibre_89 : decode cX11_fibre 89 = .ok (.ireturn, 1) := by decide +kernel
theorem dX11_word_0 : decode cX11_word 0 = .ok (.aload_n 0, 1) := by decide +kernel
theorem dX11_word_1 : decode cX11_word 1 = .ok (.getfield 12, 3) := by decide +kernel
theorem dX11_word_4 : decode cX11_word 4 = .ok (.bipush 10, 2) := by decide +kernel
theorem dX11_word_6 : decode cX11_word 6 = .ok (.invokevirtual 103, 3) := by decide +kernel
theorem dX11_word_9 : decode cX11_word 9 = .ok (.ifCond .eq 19, 3) := by decide +kernel
theorem dX11_word_12 : decode cX11_word 12 = .ok (.aload_n 0, 1) := by decide +kernel
theorem dX11_word_13 : decode cX11_word 13 = .ok (.getfield 28, 3) := by decide +kernel
theorem dX11_word_16 : decode cX11_word 16 = .ok (.getfield 107, 3) := by decide +kernel
theorem dX11_word_19 : decode cX11_word 19 = .ok (.bipush 12, 2) := by decide +kernel
theorem dX11_word_21 : decode cX11_word 21 = .ok (.if_icmp .ge 7, 3) := by decide +kernel
theorem dX11_word_24 : decode cX11_word 24 = .ok (.iconst 1, 1) := by decide +kernel
theorem dX11_word_25 : decode cX11_word 25 = .ok (.goto 4, 3) := by decide +kernel
theorem dX11_word_28 : decode cX11_word 28 = .ok (.iconst 0, 1) := by decide +kernel
theorem dX11_word_29 : decode cX11_word 29 = .ok (.istore_n 1, 1) := by decide +kernel
theorem dX11_word_30 : decode cX11_word 30 = .ok (.iload_n 1, 1) := by decide +kernel
theorem dX11_word_31 : decode cX11_word 31 = .ok (.ifCond .eq 14, 3) := by decide +kernel
theorem dX11_word_34 : decode cX11_word 34 = .ok (.aload_n 0, 1) := by decide +kernel
theorem dX11_word_35 : decode cX11_word 35 = .ok (.getfield 28, 3) := by decide +kernel
theorem dX11_word_38 : decode cX11_word 38 = .ok (.aload_n 0, 1) := by decide +kernel
theorem dX11_word_39 : decode cX11_word 39 = .ok (.getfield 12, 3) := by decide +kernel
theorem dX11_word_42 : decode cX11_word 42 = .ok (.invokevirtual 110, 3) := by decide +kernel
theorem dX11_word_45 : decode cX11_word 45 = .ok (.aload_n 0, 1) := by decide +kernel
theorem dX11_word_46 : decode cX11_word 46 = .ok (.getfield 12, 3) := by decide +kernel
theorem dX11_word_49 : decode cX11_word 49 = .ok (.iconst 0, 1) := by decide +kernel
theorem dX11_word_50 : decode cX11_word 50 = .ok (.putfield 60, 3) := by decide +kernel
theorem dX11_word_53 : decode cX11_word 53 = .ok (.iload_n 1, 1) := by decide +kernel
theorem dX11_word_54 : decode cX11_word 54 = .ok (.ifCond .eq 13, 3) := by decide +kernel
theorem dX11_word_57 : decode cX11_word 57 = .ok (.aload_n 0, 1) := by decide +kernel
theorem dX11_word_58 : decode cX11_word 58 = .ok (.getfield 28, 3) := by decide +kernel
theorem dX11_word_61 : decode cX11_word 61 = .ok (.getfield 107, 3) := by decide +kernel
theorem dX11_word_64 : decode cX11_word 64 = .ok (.goto 4, 3) := by decide +kernel
theorem dX11_word_67 : decode cX11_word 67 = .ok (.iconst (-1), 1) := by decide +kernel
theorem dX11_word_68 : decode cX11_word 68 = .ok (.ireturn, 1) := by decide +kernel
theorem dX11_lay_0 : decode cX11_lay 0 = .ok (.aload_n 0, 1) := by decide +kernel
theorem dX11_lay_1 : decode cX11_lay 1 = .ok (.iload_n 1, 1) := by decide +kernel
theorem dX11_lay_2 : decode cX11_lay 2 = .ok (.invokevirtual 83, 3) := by decide +kernel
theorem dX11_lay_5 : decode cX11_lay 5 = .ok (.astore 4, 2) := by decide +kernel
theorem dX11_lay_7 : decode cX11_lay 7 = .ok (.aload 4, 2) := by decide +kernel
theorem dX11_lay_9 : decode cX11_lay 9 = .ok (.ifnull 11, 3) := by decide +kernel
theorem dX11_lay_12 : decode cX11_lay 12 = .ok (.aload 4, 2) := by decide +kernel
theorem dX11_lay_14 : decode cX11_lay 14 = .ok (.getfield 71, 3) := by decide +kernel
theorem dX11_lay_17 : decode cX11_lay 17 = .ok (.ifCond .eq 5, 3) := by decide +kernel
theorem dX11_lay_20 : decode cX11_lay 20 = .ok (.iconst 0, 1) := by decide +kernel
theorem dX11_lay_21 : decode cX11_lay 21 = .ok (.ireturn, 1) := by decide +kernel
theorem dX11_lay_22 : decode cX11_lay 22 = .ok (.aload_n 0, 1) := by decide +kernel
theorem dX11_lay_23 : decode cX11_lay 23 = .ok (.getfield 35, 3) := by decide +kernel
theorem dX11_lay_26 : decode cX11_lay 26 = .ok (.aload 4, 2) := by decide +kernel
theorem dX11_lay_28 : decode cX11_lay 28 = .ok (.iload_n 2, 1) := by decide +kernel
theorem dX11_lay_29 : decode cX11_lay 29 = .ok (.iload_n 3, 1) := by decide +kernel
theorem dX11_lay_30 : decode cX11_lay 30 = .ok (.invokevirtual 112, 3) := by decide +kernel
theorem dX11_lay_33 : decode cX11_lay 33 = .ok (.ifCond .eq 54, 3) := by decide +kernel
theorem dX11_lay_36 : decode cX11_lay 36 = .ok (.aload_n 0, 1) := by decide +kernel
theorem dX11_lay_37 : decode cX11_lay 37 = .ok (.getfield 35, 3) := by decide +kernel
theorem dX11_lay_40 : decode cX11_lay 40 = .ok (.aload 4, 2) := by decide +kernel
theorem dX11_lay_42 : decode cX11_lay 42 = .ok (.iload_n 2, 1) := by decide +kernel
theorem dX11_lay_43 : decode cX11_lay 43 = .ok (.iload_n 3, 1) := by decide +kernel
theorem dX11_lay_44 : decode cX11_lay 44 = .ok (.invokevirtual 116, 3) := by decide +kernel
theorem dX11_lay_47 : decode cX11_lay 47 = .ok (.iconst (-1), 1) := by decide +kernel
theorem dX11_lay_48 : decode cX11_lay 48 = .ok (.if_icmp .eq 39, 3) := by decide +kernel
theorem dX11_lay_51 : decode cX11_lay 51 = .ok (.aload_n 0, 1) := by decide +kernel
theorem dX11_lay_52 : decode cX11_lay 52 = .ok (.getfield 35, 3) := by decide +kernel
theorem dX11_lay_55 : decode cX11_lay 55 = .ok (.aload_n 0, 1) := by decide +kernel
theorem dX11_lay_56 : decode cX11_lay 56 = .ok (.getfield 28, 3) := by decide +kernel
theorem dX11_lay_59 : decode cX11_lay 59 = .ok (.invokevirtual 120, 3) := by decide +kernel
theorem dX11_lay_62 : decode cX11_lay 62 = .ok (.ifCond .eq 25, 3) := by decide +kernel
theorem dX11_lay_65 : decode cX11_lay 65 = .ok (.aload_n 0, 1) := by decide +kernel
theorem dX11_lay_66 : decode cX11_lay 66 = .ok (.getfield 35, 3) := by decide +kernel
theorem dX11_lay_69 : decode cX11_lay 69 = .ok (.aload 4, 2) := by decide +kernel
theorem dX11_lay_71 : decode cX11_lay 71 = .ok (.iload_n 2, 1) := by decide +kernel
theorem dX11_lay_72 : decode cX11_lay 72 = .ok (.iload_n 3, 1) := by decide +kernel
theorem dX11_lay_73 : decode cX11_lay 73 = .ok (.aload_n 0, 1) := by decide +kernel
theorem dX11_lay_74 : decode cX11_lay 74 = .ok (.getfield 28, 3) := by decide +kernel
theorem dX11_lay_77 : decode cX11_lay 77 = .ok (.invokevirtual 124, 3) := by decide +kernel
theorem dX11_lay_80 : decode cX11_lay 80 = .ok (.ifCond .eq 7, 3) := by decide +kernel
theorem dX11_lay_83 : decode cX11_lay 83 = .ok (.iconst 1, 1) := by decide +kernel
theorem dX11_lay_84 : decode cX11_lay 84 = .ok (.goto 4, 3) := by decide +kernel
theorem dX11_lay_87 : decode cX11_lay 87 = .ok (.iconst 0, 1) := by decide +kernel
theorem dX11_lay_88 : decode cX11_lay 88 = .ok (.istore 5, 2) := by decide +kernel
theorem dX11_lay_90 : decode cX11_lay 90 = .ok (.iload 5, 2) := by decide +kernel
theorem dX11_lay_92 : decode cX11_lay 92 = .ok (.ifCond .eq 14, 3) := by decide +kernel
theorem dX11_lay_95 : decode cX11_lay 95 = .ok (.aload_n 0, 1) := by decide +kernel
theorem dX11_lay_96 : decode cX11_lay 96 = .ok (.getfield 35, 3) := by decide +kernel
theorem dX11_lay_99 : decode cX11_lay 99 = .ok (.aload 4, 2) := by decide +kernel
theorem dX11_lay_101 : decode cX11_lay 101 = .ok (.iload_n 2, 1) := by decide +kernel
theorem dX11_lay_102 : decode cX11_lay 102 = .ok (.iload_n 3, 1) := by decide +kernel
theorem dX11_lay_103 : decode cX11_lay 103 = .ok (.invokevirtual 128, 3) := by decide +kernel
theorem dX11_lay_106 : decode cX11_lay 106 = .ok (.iload 5, 2) := by decide +kernel
theorem dX11_lay_108 : decode cX11_lay 108 = .ok (.ireturn, 1) := by decide +kernel
theorem dX11_take_0 : decode cX11_take 0 = .ok (.aload_n 0, 1) := by decide +kernel
theorem dX11_take_1 : decode cX11_take 1 = .ok (.iload_n 1, 1) := by decide +kernel
theorem dX11_take_2 : decode cX11_take 2 = .ok (.invokevirtual 83, 3) := by decide +kernel
theorem dX11_take_5 : decode cX11_take 5 = .ok (.astore_n 2, 1) := by decide +kernel
theorem dX11_take_6 : decode cX11_take 6 = .ok (.aload_n 2, 1) := by decide +kernel
theorem dX11_take_7 : decode cX11_take 7 = .ok (.ifnull 10, 3) := by decide +kernel
theorem dX11_take_10 : decode cX11_take 10 = .ok (.aload_n 2, 1) := by decide +kernel
theorem dX11_take_11 : decode cX11_take 11 = .ok (.getfield 71, 3) := by decide +kernel
theorem dX11_take_14 : decode cX11_take 14 = .ok (.ifCond .ne 5, 3) := by decide +kernel
theorem dX11_take_17 : decode cX11_take 17 = .ok (.iconst 0, 1) := by decide +kernel
theorem dX11_take_18 : decode cX11_take 18 = .ok (.ireturn, 1) := by decide +kernel
theorem dX11_take_19 : decode cX11_take 19 = .ok (.aload_n 0, 1) := by decide +kernel
theorem dX11_take_20 : decode cX11_take 20 = .ok (.getfield 35, 3) := by decide +kernel
theorem dX11_take_23 : decode cX11_take 23 = .ok (.aload_n 2, 1) := by decide +kernel
theorem dX11_take_24 : decode cX11_take 24 = .ok (.invokevirtual 75, 3) := by decide +kernel
theorem dX11_take_27 : decode cX11_take 27 = .ok (.iconst 1, 1) := by decide +kernel
theorem dX11_take_28 : decode cX11_take 28 = .ok (.ireturn, 1) := by decide +kernel
theorem dX11_place_0 : decode cX11_place 0 = .ok (.aload_n 0, 1) := by decide +kernel
theorem dX11_place_1 : decode cX11_place 1 = .ok (.iload_n 1, 1) := by decide +kernel
theorem dX11_place_2 : decode cX11_place 2 = .ok (.invokevirtual 83, 3) := by decide +kernel
theorem dX11_place_5 : decode cX11_place 5 = .ok (.astore_n 3, 1) := by decide +kernel
theorem dX11_place_6 : decode cX11_place 6 = .ok (.aload_n 3, 1) := by decide +kernel
theorem dX11_place_7 : decode cX11_place 7 = .ok (.ifnull 19, 3) := by decide +kernel
theorem dX11_place_10 : decode cX11_place 10 = .ok (.aload_n 3, 1) := by decide +kernel
theorem dX11_place_11 : decode cX11_place 11 = .ok (.getfield 71, 3) := by decide +kernel
theorem dX11_place_14 : decode cX11_place 14 = .ok (.ifCond .eq 12, 3) := by decide +kernel
theorem dX11_place_17 : decode cX11_place 17 = .ok (.iload_n 2, 1) := by decide +kernel
theorem dX11_place_18 : decode cX11_place 18 = .ok (.ifCond .lt 8, 3) := by decide +kernel
theorem dX11_place_21 : decode cX11_place 21 = .ok (.iload_n 2, 1) := by decide +kernel
theorem dX11_place_22 : decode cX11_place 22 = .ok (.iconst 1, 1) := by decide +kernel
theorem dX11_place_23 : decode cX11_place 23 = .ok (.if_icmp .le 5, 3) := by decide +kernel
theorem dX11_place_26 : decode cX11_place 26 = .ok (.iconst (-1), 1) := by decide +kernel
theorem dX11_place_27 : decode cX11_place 27 = .ok (.ireturn, 1) := by decide +kernel
theorem dX11_place_28 : decode cX11_place 28 = .ok (.iload_n 2, 1) := by decide +kernel
theorem dX11_place_29 : decode cX11_place 29 = .ok (.ifCond .ne 10, 3) := by decide +kernel
theorem dX11_place_32 : decode cX11_place 32 = .ok (.aload_n 3, 1) := by decide +kernel
theorem dX11_place_33 : decode cX11_place 33 = .ok (.getfield 132, 3) := by decide +kernel
theorem dX11_place_36 : decode cX11_place 36 = .ok (.goto 7, 3) := by decide +kernel
theorem dX11_place_39 : decode cX11_place 39 = .ok (.aload_n 3, 1) := by decide +kernel
theorem dX11_place_40 : decode cX11_place 40 = .ok (.getfield 135, 3) := by decide +kernel
theorem dX11_place_43 : decode cX11_place 43 = .ok (.ireturn, 1) := by decide +kernel
theorem dX11_sheet_0 : decode cX11_sheet 0 = .ok (.iload_n 1, 1) := by decide +kernel
theorem dX11_sheet_1 : decode cX11_sheet 1 = .ok (.iload_n 2, 1) := by decide +kernel
theorem dX11_sheet_2 : decode cX11_sheet 2 = .ok (.invokestatic 138, 3) := by decide +kernel
theorem dX11_sheet_5 : decode cX11_sheet 5 = .ok (.ifCond .eq 15, 3) := by decide +kernel
theorem dX11_sheet_8 : decode cX11_sheet 8 = .ok (.aload_n 0, 1) := by decide +kernel
theorem dX11_sheet_9 : decode cX11_sheet 9 = .ok (.getfield 35, 3) := by decide +kernel
theorem dX11_sheet_12 : decode cX11_sheet 12 = .ok (.iload_n 1, 1) := by decide +kernel
theorem dX11_sheet_13 : decode cX11_sheet 13 = .ok (.iload_n 2, 1) := by decide +kernel
theorem dX11_sheet_14 : decode cX11_sheet 14 = .ok (.invokevirtual 142, 3) := by decide +kernel
theorem dX11_sheet_17 : decode cX11_sheet 17 = .ok (.goto 4, 3) := by decide +kernel
theorem dX11_sheet_20 : decode cX11_sheet 20 = .ok (.iconst (-1), 1) := by decide +kernel
theorem dX11_sheet_21 : decode cX11_sheet 21 = .ok (.ireturn, 1) := by decide +kernel
theorem dX11_whose_0 : decode cX11_whose 0 = .ok (.aload_n 0, 1) := by decide +kernel
theorem dX11_whose_1 : decode cX11_whose 1 = .ok (.getfield 35, 3) := by decide +kernel
theorem dX11_whose_4 : decode cX11_whose 4 = .ok (.iload_n 1, 1) := by decide +kernel
theorem dX11_whose_5 : decode cX11_whose 5 = .ok (.iload_n 2, 1) := by decide +kernel
theorem dX11_whose_6 : decode cX11_whose 6 = .ok (.invokevirtual 146, 3) := by decide +kernel
theorem dX11_whose_9 : decode cX11_whose 9 = .ok (.ireturn, 1) := by decide +kernel
theorem dX11_words_0 : decode cX11_words 0 = .ok (.aload_n 0, 1) := by decide +kernel
theorem dX11_words_1 : decode cX11_words 1 = .ok (.getfield 35, 3) := by decide +kernel
theorem dX11_words_4 : decode cX11_words 4 = .ok (.iload_n 1, 1) := by decide +kernel
theorem dX11_words_5 : decode cX11_words 5 = .ok (.iload_n 2, 1) := by decide +kernel
theorem dX11_words_6 : decode cX11_words 6 = .ok (.invokevirtual 142, 3) := by decide +kernel
theorem dX11_words_9 : decode cX11_words 9 = .ok (.invokestatic 149, 3) := by decide +kernel
theorem dX11_words_12 : decode cX11_words 12 = .ok (.ifCond .ne 5, 3) := by decide +kernel
theorem dX11_words_15 : decode cX11_words 15 = .ok (.iconst (-1), 1) := by decide +kernel
theorem dX11_words_16 : decode cX11_words 16 = .ok (.ireturn, 1) := by decide +kernel
theorem dX11_words_17 : decode cX11_words 17 = .ok (.aload_n 0, 1) := by decide +kernel
theorem dX11_words_18 : decode cX11_words 18 = .ok (.getfield 35, 3) := by decide +kernel
theorem dX11_words_21 : decode cX11_words 21 = .ok (.iload_n 1, 1) := by decide +kernel
theorem dX11_words_22 : decode cX11_words 22 = .ok (.iload_n 2, 1) := by decide +kernel
theorem dX11_words_23 : decode cX11_words 23 = .ok (.aload_n 0, 1) := by decide +kernel
theorem dX11_words_24 : decode cX11_words 24 = .ok (.getfield 28, 3) := by decide +kernel
theorem dX11_words_27 : decode cX11_words 27 = .ok (.invokevirtual 152, 3) := by decide +kernel
theorem dX11_words_30 : decode cX11_words 30 = .ok (.iconst 0, 1) := by decide +kernel
theorem dX11_words_31 : decode cX11_words 31 = .ok (.istore_n 3, 1) := by decide +kernel
theorem dX11_words_32 : decode cX11_words 32 = .ok (.iconst 0, 1) := by decide +kernel
theorem dX11_words_33 : decode cX11_words 33 = .ok (.istore 4, 2) := by decide +kernel
theorem dX11_words_35 : decode cX11_words 35 = .ok (.iload 4, 2) := by decide +kernel
theorem dX11_words_37 : decode cX11_words 37 = .ok (.aload_n 0, 1) := by decide +kernel
theorem dX11_words_38 : decode cX11_words 38 = .ok (.getfield 28, 3) := by decide +kernel
theorem dX11_words_41 : decode cX11_words 41 = .ok (.getfield 107, 3) := by decide +kernel
theorem dX11_words_44 : decode cX11_words 44 = .ok (.if_icmp .ge 24, 3) := by decide +kernel
theorem dX11_words_47 : decode cX11_words 47 = .ok (.aload_n 0, 1) := by decide +kernel
theorem dX11_words_48 : decode cX11_words 48 = .ok (.getfield 28, 3) := by decide +kernel
theorem dX11_words_51 : decode cX11_words 51 = .ok (.iload 4, 2) := by decide +kernel
theorem dX11_words_53 : decode cX11_words 53 = .ok (.invokevirtual 156, 3) := by decide +kernel
theorem dX11_words_56 : decode cX11_words 56 = .ok (.ifCond .eq 6, 3) := by decide +kernel
theorem dX11_words_59 : decode cX11_words 59 = .ok (.iinc 3 1, 3) := by decide +kernel
theorem dX11_words_62 : decode cX11_words 62 = .ok (.iinc 4 1, 3) := by decide +kernel
theorem dX11_words_65 : decode cX11_words 65 = .ok (.goto (-30), 3) := by decide +kernel
theorem dX11_words_68 : decode cX11_words 68 = .ok (.iload_n 3, 1) := by decide +kernel
theorem dX11_words_69 : decode cX11_words 69 = .ok (.ireturn, 1) := by decide +kernel
theorem dX11_read_0 : decode cX11_read 0 = .ok (.iload_n 3, 1) := by decide +kernel
theorem dX11_read_1 : decode cX11_read 1 = .ok (.ifCond .lt 18, 3) := by decide +kernel
theorem dX11_read_4 : decode cX11_read 4 = .ok (.aload_n 0, 1) := by decide +kernel
theorem dX11_read_5 : decode cX11_read 5 = .ok (.getfield 35, 3) := by decide +kernel
theorem dX11_read_8 : decode cX11_read 8 = .ok (.iload_n 1, 1) := by decide +kernel
theorem dX11_read_9 : decode cX11_read 9 = .ok (.iload_n 2, 1) := by decide +kernel
theorem dX11_read_10 : decode cX11_read 10 = .ok (.invokevirtual 142, 3) := by decide +kernel
theorem dX11_read_13 : decode cX11_read 13 = .ok (.invokestatic 149, 3) := by decide +kernel
theorem dX11_read_16 : decode cX11_read 16 = .ok (.ifCond .ne 5, 3) := by decide +kernel
theorem dX11_read_19 : decode cX11_read 19 = .ok (.iconst (-1), 1) := by decide +kernel
theorem dX11_read_20 : decode cX11_read 20 = .ok (.ireturn, 1) := by decide +kernel
theorem dX11_read_21 : decode cX11_read 21 = .ok (.aload_n 0, 1) := by decide +kernel
theorem dX11_read_22 : decode cX11_read 22 = .ok (.getfield 35, 3) := by decide +kernel
theorem dX11_read_25 : decode cX11_read 25 = .ok (.iload_n 1, 1) := by decide +kernel
theorem dX11_read_26 : decode cX11_read 26 = .ok (.iload_n 2, 1) := by decide +kernel
theorem dX11_read_27 : decode cX11_read 27 = .ok (.aload_n 0, 1) := by decide +kernel
theorem dX11_read_28 : decode cX11_read 28 = .ok (.getfield 28, 3) := by decide +kernel
theorem dX11_read_31 : decode cX11_read 31 = .ok (.invokevirtual 152, 3) := by decide +kernel
theorem dX11_read_34 : decode cX11_read 34 = .ok (.iconst 0, 1) := by decide +kernel
theorem dX11_read_35 : decode cX11_read 35 = .ok (.istore 4, 2) := by decide +kernel
theorem dX11_read_37 : decode cX11_read 37 = .ok (.iconst 0, 1) := by decide +kernel
theorem dX11_read_38 : decode cX11_read 38 = .ok (.istore 5, 2) := by decide +kernel
theorem dX11_read_40 : decode cX11_read 40 = .ok (.iload 5, 2) := by decide +kernel
theorem dX11_read_42 : decode cX11_read 42 = .ok (.aload_n 0, 1) := by decide +kernel
theorem dX11_read_43 : decode cX11_read 43 = .ok (.getfield 28, 3) := by decide +kernel
theorem dX11_read_46 : decode cX11_read 46 = .ok (.getfield 107, 3) := by decide +kernel
theorem dX11_read_49 : decode cX11_read 49 = .ok (.if_icmp .ge 33, 3) := by decide +kernel
theorem dX11_read_52 : decode cX11_read 52 = .ok (.aload_n 0, 1) := by decide +kernel
theorem dX11_read_53 : decode cX11_read 53 = .ok (.getfield 28, 3) := by decide +kernel
theorem dX11_read_56 : decode cX11_read 56 = .ok (.iload 5, 2) := by decide +kernel
theorem dX11_read_58 : decode cX11_read 58 = .ok (.invokevirtual 156, 3) := by decide +kernel
theorem dX11_read_61 : decode cX11_read 61 = .ok (.ifCond .eq 15, 3) := by decide +kernel
theorem dX11_read_64 : decode cX11_read 64 = .ok (.iload 4, 2) := by decide +kernel
theorem dX11_read_66 : decode cX11_read 66 = .ok (.iload_n 3, 1) := by decide +kernel
theorem dX11_read_67 : decode cX11_read 67 = .ok (.if_icmp .ne 6, 3) := by decide +kernel
theorem dX11_read_70 : decode cX11_read 70 = .ok (.iload 5, 2) := by decide +kernel
theorem dX11_read_72 : decode cX11_read 72 = .ok (.ireturn, 1) := by decide +kernel
theorem dX11_read_73 : decode cX11_read 73 = .ok (.iinc 4 1, 3) := by decide +kernel
theorem dX11_read_76 : decode cX11_read 76 = .ok (.iinc 5 1, 3) := by decide +kernel
theorem dX11_read_79 : decode cX11_read 79 = .ok (.goto (-39), 3) := by decide +kernel
theorem dX11_read_82 : decode cX11_read 82 = .ok (.iconst (-1), 1) := by decide +kernel
theorem dX11_read_83 : decode cX11_read 83 = .ok (.ireturn, 1) := by decide +kernel
theorem dX11_worth_0 : decode cX11_worth 0 = .ok (.aload_n 0, 1) := by decide +kernel
theorem dX11_worth_1 : decode cX11_worth 1 = .ok (.getfield 35, 3) := by decide +kernel
theorem dX11_worth_4 : decode cX11_worth 4 = .ok (.invokevirtual 159, 3) := by decide +kernel
theorem dX11_worth_7 : decode cX11_worth 7 = .ok (.ireturn, 1) := by decide +kernel
theorem dX11_join_0 : decode cX11_join 0 = .ok (.aload_n 0, 1) := by decide +kernel
theorem dX11_join_1 : decode cX11_join 1 = .ok (.iload_n 1, 1) := by decide +kernel
theorem dX11_join_2 : decode cX11_join 2 = .ok (.invokevirtual 163, 3) := by decide +kernel
theorem dX11_join_5 : decode cX11_join 5 = .ok (.astore_n 3, 1) := by decide +kernel
theorem dX11_join_6 : decode cX11_join 6 = .ok (.iload_n 2, 1) := by decide +kernel
theorem dX11_join_7 : decode cX11_join 7 = .ok (.iconst (-1), 1) := by decide +kernel
theorem dX11_join_8 : decode cX11_join 8 = .ok (.if_icmp .ne 7, 3) := by decide +kernel
theorem dX11_join_11 : decode cX11_join 11 = .ok (.aconst_null, 1) := by decide +kernel
theorem dX11_join_12 : decode cX11_join 12 = .ok (.goto 8, 3) := by decide +kernel
theorem dX11_join_15 : decode cX11_join 15 = .ok (.aload_n 0, 1) := by decide +kernel
theorem dX11_join_16 : decode cX11_join 16 = .ok (.iload_n 2, 1) := by decide +kernel
theorem dX11_join_17 : decode cX11_join 17 = .ok (.invokevirtual 163, 3) := by decide +kernel
theorem dX11_join_20 : decode cX11_join 20 = .ok (.astore 4, 2) := by decide +kernel
theorem dX11_join_22 : decode cX11_join 22 = .ok (.aload_n 3, 1) := by decide +kernel
theorem dX11_join_23 : decode cX11_join 23 = .ok (.ifnull 19, 3) := by decide +kernel
theorem dX11_join_26 : decode cX11_join 26 = .ok (.aload_n 3, 1) := by decide +kernel
theorem dX11_join_27 : decode cX11_join 27 = .ok (.aload 4, 2) := by decide +kernel
theorem dX11_join_29 : decode cX11_join 29 = .ok (.if_acmp .eq 13, 3) := by decide +kernel
theorem dX11_join_32 : decode cX11_join 32 = .ok (.aload 4, 2) := by decide +kernel
theorem dX11_join_34 : decode cX11_join 34 = .ok (.ifnonnull 10, 3) := by decide +kernel
theorem dX11_join_37 : decode cX11_join 37 = .ok (.iload_n 2, 1) := by decide +kernel
theorem dX11_join_38 : decode cX11_join 38 = .ok (.iconst (-1), 1) := by decide +kernel
theorem dX11_join_39 : decode cX11_join 39 = .ok (.if_icmp .eq 5, 3) := by decide +kernel
theorem dX11_join_42 : decode cX11_join 42 = .ok (.iconst (-1), 1) := by decide +kernel
theorem dX11_join_43 : decode cX11_join 43 = .ok (.ireturn, 1) := by decide +kernel
theorem dX11_join_44 : decode cX11_join 44 = .ok (.iconst 0, 1) := by decide +kernel
theorem dX11_join_45 : decode cX11_join 45 = .ok (.istore 5, 2) := by decide +kernel
theorem dX11_join_47 : decode cX11_join 47 = .ok (.aload 4, 2) := by decide +kernel
theorem dX11_join_49 : decode cX11_join 49 = .ok (.ifnonnull 24, 3) := by decide +kernel
theorem dX11_join_52 : decode cX11_join 52 = .ok (.aload_n 0, 1) := by decide +kernel
theorem dX11_join_53 : decode cX11_join 53 = .ok (.getfield 42, 3) := by decide +kernel
theorem dX11_join_56 : decode cX11_join 56 = .ok (.aload_n 3, 1) := by decide +kernel
theorem dX11_join_57 : decode cX11_join 57 = .ok (.aload_n 0, 1) := by decide +kernel
theorem dX11_join_58 : decode cX11_join 58 = .ok (.getfield 35, 3) := by decide +kernel
theorem dX11_join_61 : decode cX11_join 61 = .ok (.aload_n 0, 1) := by decide +kernel
theorem dX11_join_62 : decode cX11_join 62 = .ok (.getfield 28, 3) := by decide +kernel
theorem dX11_join_65 : decode cX11_join 65 = .ok (.invokevirtual 166, 3) := by decide +kernel
theorem dX11_join_68 : decode cX11_join 68 = .ok (.istore 5, 2) := by decide +kernel
theorem dX11_join_70 : decode cX11_join 70 = .ok (.goto 58, 3) := by decide +kernel
theorem dX11_join_73 : decode cX11_join 73 = .ok (.aload_n 3, 1) := by decide +kernel
theorem dX11_join_74 : decode cX11_join 74 = .ok (.getfield 170, 3) := by decide +kernel
theorem dX11_join_77 : decode cX11_join 77 = .ok (.aload 4, 2) := by decide +kernel
theorem dX11_join_79 : decode cX11_join 79 = .ok (.getfield 170, 3) := by decide +kernel
theorem dX11_join_82 : decode cX11_join 82 = .ok (.if_icmp .ge 26, 3) := by decide +kernel
theorem dX11_join_85 : decode cX11_join 85 = .ok (.aload_n 0, 1) := by decide +kernel
theorem dX11_join_86 : decode cX11_join 86 = .ok (.getfield 42, 3) := by decide +kernel
theorem dX11_join_89 : decode cX11_join 89 = .ok (.aload_n 3, 1) := by decide +kernel
theorem dX11_join_90 : decode cX11_join 90 = .ok (.aload 4, 2) := by decide +kernel
theorem dX11_join_92 : decode cX11_join 92 = .ok (.aload_n 0, 1) := by decide +kernel
theorem dX11_join_93 : decode cX11_join 93 = .ok (.getfield 35, 3) := by decide +kernel
theorem dX11_join_96 : decode cX11_join 96 = .ok (.aload_n 0, 1) := by decide +kernel
theorem dX11_join_97 : decode cX11_join 97 = .ok (.getfield 28, 3) := by decide +kernel
theorem dX11_join_100 : decode cX11_join 100 = .ok (.invokevirtual 173, 3) := by decide +kernel
theorem dX11_join_103 : decode cX11_join 103 = .ok (.istore 5, 2) := by decide +kernel
theorem dX11_join_105 : decode cX11_join 105 = .ok (.goto 23, 3) := by decide +kernel
theorem dX11_join_108 : decode cX11_join 108 = .ok (.aload_n 0, 1) := by decide +kernel
theorem dX11_join_109 : decode cX11_join 109 = .ok (.getfield 42, 3) := by decide +kernel
theorem dX11_join_112 : decode cX11_join 112 = .ok (.aload 4, 2) := by decide +kernel
theorem dX11_join_114 : decode cX11_join 114 = .ok (.aload_n 3, 1) := by decide +kernel
theorem dX11_join_115 : decode cX11_join 115 = .ok (.aload_n 0, 1) := by decide +kernel
theorem dX11_join_116 : decode cX11_join 116 = .ok (.getfield 35, 3) := by decide +kernel
theorem dX11_join_119 : decode cX11_join 119 = .ok (.aload_n 0, 1) := by decide +kernel
theorem dX11_join_120 : decode cX11_join 120 = .ok (.getfield 28, 3) := by decide +kernel
theorem dX11_join_123 : decode cX11_join 123 = .ok (.invokevirtual 173, 3) := by decide +kernel
theorem dX11_join_126 : decode cX11_join 126 = .ok (.istore 5, 2) := by decide +kernel
theorem dX11_join_128 : decode cX11_join 128 = .ok (.iload 5, 2) := by decide +kernel
theorem dX11_join_130 : decode cX11_join 130 = .ok (.ifCond .eq 13, 3) := by decide +kernel
theorem dX11_join_133 : decode cX11_join 133 = .ok (.aload_n 0, 1) := by decide +kernel
theorem dX11_join_134 : decode cX11_join 134 = .ok (.getfield 35, 3) := by decide +kernel
theorem dX11_join_137 : decode cX11_join 137 = .ok (.invokevirtual 159, 3) := by decide +kernel
theorem dX11_join_140 : decode cX11_join 140 = .ok (.goto 5, 3) := by decide +kernel
theorem dX11_join_143 : decode cX11_join 143 = .ok (.bipush (-2), 2) := by decide +kernel
theorem dX11_join_145 : decode cX11_join 145 = .ok (.ireturn, 1) := by decide +kernel
theorem dX11_joins_0 : decode cX11_joins 0 = .ok (.aload_n 0, 1) := by decide +kernel
theorem dX11_joins_1 : decode cX11_joins 1 = .ok (.iload_n 1, 1) := by decide +kernel
theorem dX11_joins_2 : decode cX11_joins 2 = .ok (.invokevirtual 163, 3) := by decide +kernel
theorem dX11_joins_5 : decode cX11_joins 5 = .ok (.astore_n 2, 1) := by decide +kernel
theorem dX11_joins_6 : decode cX11_joins 6 = .ok (.aload_n 2, 1) := by decide +kernel
theorem dX11_joins_7 : decode cX11_joins 7 = .ok (.ifnonnull 7, 3) := by decide +kernel
theorem dX11_joins_10 : decode cX11_joins 10 = .ok (.iconst (-1), 1) := by decide +kernel
theorem dX11_joins_11 : decode cX11_joins 11 = .ok (.goto 19, 3) := by decide +kernel
theorem dX11_joins_14 : decode cX11_joins 14 = .ok (.aload_n 0, 1) := by decide +kernel
theorem dX11_joins_15 : decode cX11_joins 15 = .ok (.getfield 42, 3) := by decide +kernel
theorem dX11_joins_18 : decode cX11_joins 18 = .ok (.aload_n 2, 1) := by decide +kernel
theorem dX11_joins_19 : decode cX11_joins 19 = .ok (.aload_n 0, 1) := by decide +kernel
theorem dX11_joins_20 : decode cX11_joins 20 = .ok (.getfield 35, 3) := by decide +kernel
theorem dX11_joins_23 : decode cX11_joins 23 = .ok (.aload_n 0, 1) := by decide +kernel
theorem dX11_joins_24 : decode cX11_joins 24 = .ok (.getfield 28, 3) := by decide +kernel
theorem dX11_joins_27 : decode cX11_joins 27 = .ok (.invokevirtual 177, 3) := by decide +kernel
theorem dX11_joins_30 : decode cX11_joins 30 = .ok (.ireturn, 1) := by decide +kernel
theorem dX11_roll_0 : decode cX11_roll 0 = .ok (.iload_n 1, 1) := by decide +kernel
theorem dX11_roll_1 : decode cX11_roll 1 = .ok (.iconst 1, 1) := by decide +kernel
theorem dX11_roll_2 : decode cX11_roll 2 = .ok (.if_icmp .lt 20, 3) := by decide +kernel
theorem dX11_roll_5 : decode cX11_roll 5 = .ok (.iload_n 1, 1) := by decide +kernel
theorem dX11_roll_6 : decode cX11_roll 6 = .ok (.sipush 1000, 3) := by decide +kernel
theorem dX11_roll_9 : decode cX11_roll 9 = .ok (.if_icmp .gt 13, 3) := by decide +kernel
theorem dX11_roll_12 : decode cX11_roll 12 = .ok (.iload_n 2, 1) := by decide +kernel
theorem dX11_roll_13 : decode cX11_roll 13 = .ok (.ifCond .lt 9, 3) := by decide +kernel
theorem dX11_roll_16 : decode cX11_roll 16 = .ok (.iload_n 2, 1) := by decide +kernel
theorem dX11_roll_17 : decode cX11_roll 17 = .ok (.bipush 100, 2) := by decide +kernel
theorem dX11_roll_19 : decode cX11_roll 19 = .ok (.if_icmp .le 5, 3) := by decide +kernel
theorem dX11_roll_22 : decode cX11_roll 22 = .ok (.iconst (-1), 1) := by decide +kernel
theorem dX11_roll_23 : decode cX11_roll 23 = .ok (.ireturn, 1) := by decide +kernel
theorem dX11_roll_24 : decode cX11_roll 24 = .ok (.aload_n 0, 1) := by decide +kernel
theorem dX11_roll_25 : decode cX11_roll 25 = .ok (.getfield 49, 3) := by decide +kernel
theorem dX11_roll_28 : decode cX11_roll 28 = .ok (.iload_n 1, 1) := by decide +kernel
theorem dX11_roll_29 : decode cX11_roll 29 = .ok (.iload_n 2, 1) := by decide +kernel
theorem dX11_roll_30 : decode cX11_roll 30 = .ok (.invokevirtual 181, 3) := by decide +kernel
theorem dX11_roll_33 : decode cX11_roll 33 = .ok (.aload_n 0, 1) := by decide +kernel
theorem dX11_roll_34 : decode cX11_roll 34 = .ok (.getfield 49, 3) := by decide +kernel
theorem dX11_roll_37 : decode cX11_roll 37 = .ok (.getfield 185, 3) := by decide +kernel
theorem dX11_roll_40 : decode cX11_roll 40 = .ok (.ireturn, 1) := by decide +kernel
theorem dX11_hole_0 : decode cX11_hole 0 = .ok (.aload_n 0, 1) := by decide +kernel
theorem dX11_hole_1 : decode cX11_hole 1 = .ok (.iload_n 1, 1) := by decide +kernel
theorem dX11_hole_2 : decode cX11_hole 2 = .ok (.invokevirtual 83, 3) := by decide +kernel
theorem dX11_hole_5 : decode cX11_hole 5 = .ok (.astore_n 3, 1) := by decide +kernel
theorem dX11_hole_6 : decode cX11_hole 6 = .ok (.aload_n 3, 1) := by decide +kernel
theorem dX11_hole_7 : decode cX11_hole 7 = .ok (.ifnull 14, 3) := by decide +kernel
theorem dX11_hole_10 : decode cX11_hole 10 = .ok (.iload_n 2, 1) := by decide +kernel
theorem dX11_hole_11 : decode cX11_hole 11 = .ok (.ifCond .lt 10, 3) := by decide +kernel
theorem dX11_hole_14 : decode cX11_hole 14 = .ok (.iload_n 2, 1) := by decide +kernel
theorem dX11_hole_15 : decode cX11_hole 15 = .ok (.sipush 2000, 3) := by decide +kernel
theorem dX11_hole_18 : decode cX11_hole 18 = .ok (.if_icmp .le 5, 3) := by decide +kernel
theorem dX11_hole_21 : decode cX11_hole 21 = .ok (.iconst (-1), 1) := by decide +kernel
theorem dX11_hole_22 : decode cX11_hole 22 = .ok (.ireturn, 1) := by decide +kernel
theorem dX11_hole_23 : decode cX11_hole 23 = .ok (.aload_n 3, 1) := by decide +kernel
theorem dX11_hole_24 : decode cX11_hole 24 = .ok (.iload_n 2, 1) := by decide +kernel
theorem dX11_hole_25 : decode cX11_hole 25 = .ok (.invokevirtual 186, 3) := by decide +kernel
theorem dX11_hole_28 : decode cX11_hole 28 = .ok (.ireturn, 1) := by decide +kernel
theorem dX11_stood_0 : decode cX11_stood 0 = .ok (.aload_n 0, 1) := by decide +kernel
theorem dX11_stood_1 : decode cX11_stood 1 = .ok (.iload_n 1, 1) := by decide +kernel
theorem dX11_stood_2 : decode cX11_stood 2 = .ok (.invokevirtual 83, 3) := by decide +kernel
theorem dX11_stood_5 : decode cX11_stood 5 = .ok (.astore_n 2, 1) := by decide +kernel
theorem dX11_stood_6 : decode cX11_stood 6 = .ok (.aload_n 2, 1) := by decide +kernel
theorem dX11_stood_7 : decode cX11_stood 7 = .ok (.ifnull 20, 3) := by decide +kernel
theorem dX11_stood_10 : decode cX11_stood 10 = .ok (.aload_n 2, 1) := by decide +kernel
theorem dX11_stood_11 : decode cX11_stood 11 = .ok (.getfield 190, 3) := by decide +kernel
theorem dX11_stood_14 : decode cX11_stood 14 = .ok (.ifCond .eq 13, 3) := by decide +kernel
theorem dX11_stood_17 : decode cX11_stood 17 = .ok (.aload_n 0, 1) := by decide +kernel
theorem dX11_stood_18 : decode cX11_stood 18 = .ok (.getfield 49, 3) := by decide +kernel
theorem dX11_stood_21 : decode cX11_stood 21 = .ok (.getfield 185, 3) := by decide +kernel
theorem dX11_stood_24 : decode cX11_stood 24 = .ok (.ifCond .ne 5, 3) := by decide +kernel
theorem dX11_stood_27 : decode cX11_stood 27 = .ok (.iconst (-1), 1) := by decide +kernel
theorem dX11_stood_28 : decode cX11_stood 28 = .ok (.ireturn, 1) := by decide +kernel
theorem dX11_stood_29 : decode cX11_stood 29 = .ok (.aload_n 0, 1) := by decide +kernel
theorem dX11_stood_30 : decode cX11_stood 30 = .ok (.getfield 49, 3) := by decide +kernel
theorem dX11_stood_33 : decode cX11_stood 33 = .ok (.aload_n 2, 1) := by decide +kernel
theorem dX11_stood_34 : decode cX11_stood 34 = .ok (.invokevirtual 193, 3) := by decide +kernel
theorem dX11_stood_37 : decode cX11_stood 37 = .ok (.ireturn, 1) := by decide +kernel
theorem dX11_standing_0 : decode cX11_standing 0 = .ok (.aload_n 0, 1) := by decide +kernel
theorem dX11_standing_1 : decode cX11_standing 1 = .ok (.iload_n 1, 1) := by decide +kernel
theorem dX11_standing_2 : decode cX11_standing 2 = .ok (.invokevirtual 83, 3) := by decide +kernel
theorem dX11_standing_5 : decode cX11_standing 5 = .ok (.astore_n 3, 1) := by decide +kernel
theorem dX11_standing_6 : decode cX11_standing 6 = .ok (.aload_n 3, 1) := by decide +kernel
theorem dX11_standing_7 : decode cX11_standing 7 = .ok (.ifnull 14, 3) := by decide +kernel
theorem dX11_standing_10 : decode cX11_standing 10 = .ok (.aload_n 3, 1) := by decide +kernel
theorem dX11_standing_11 : decode cX11_standing 11 = .ok (.getfield 190, 3) := by decide +kernel
theorem dX11_standing_14 : decode cX11_standing 14 = .ok (.ifCond .eq 7, 3) := by decide +kernel
theorem dX11_standing_17 : decode cX11_standing 17 = .ok (.iload_n 2, 1) := by decide +kernel
theorem dX11_standing_18 : decode cX11_standing 18 = .ok (.ifCond .ge 5, 3) := by decide +kernel
theorem dX11_standing_21 : decode cX11_standing 21 = .ok (.iconst (-1), 1) := by decide +kernel
theorem dX11_standing_22 : decode cX11_standing 22 = .ok (.ireturn, 1) := by decide +kernel
theorem dX11_standing_23 : decode cX11_standing 23 = .ok (.aload_n 0, 1) := by decide +kernel
theorem dX11_standing_24 : decode cX11_standing 24 = .ok (.getfield 49, 3) := by decide +kernel
theorem dX11_standing_27 : decode cX11_standing 27 = .ok (.aload_n 3, 1) := by decide +kernel
theorem dX11_standing_28 : decode cX11_standing 28 = .ok (.iload_n 2, 1) := by decide +kernel
theorem dX11_standing_29 : decode cX11_standing 29 = .ok (.invokevirtual 197, 3) := by decide +kernel
theorem dX11_standing_32 : decode cX11_standing 32 = .ok (.ireturn, 1) := by decide +kernel
theorem dX11_known_0 : decode cX11_known 0 = .ok (.aload_n 0, 1) := by decide +kernel
theorem dX11_known_1 : decode cX11_known 1 = .ok (.getfield 12, 3) := by decide +kernel
theorem dX11_known_4 : decode cX11_known 4 = .ok (.sipush 200, 3) := by decide +kernel
theorem dX11_known_7 : decode cX11_known 7 = .ok (.invokevirtual 103, 3) := by decide +kernel
theorem dX11_known_10 : decode cX11_known 10 = .ok (.istore_n 1, 1) := by decide +kernel
theorem dX11_known_11 : decode cX11_known 11 = .ok (.iload_n 1, 1) := by decide +kernel
theorem dX11_known_12 : decode cX11_known 12 = .ok (.ifCond .eq 14, 3) := by decide +kernel
theorem dX11_known_15 : decode cX11_known 15 = .ok (.aload_n 0, 1) := by decide +kernel
theorem dX11_known_16 : decode cX11_known 16 = .ok (.getfield 56, 3) := by decide +kernel
theorem dX11_known_19 : decode cX11_known 19 = .ok (.aload_n 0, 1) := by decide +kernel
theorem dX11_known_20 : decode cX11_known 20 = .ok (.getfield 12, 3) := by decide +kernel
theorem dX11_known_23 : decode cX11_known 23 = .ok (.invokevirtual 201, 3) := by decide +kernel
theorem dX11_known_26 : decode cX11_known 26 = .ok (.aload_n 0, 1) := by decide +kernel
theorem dX11_known_27 : decode cX11_known 27 = .ok (.getfield 12, 3) := by decide +kernel
theorem dX11_known_30 : decode cX11_known 30 = .ok (.iconst 0, 1) := by decide +kernel
theorem dX11_known_31 : decode cX11_known 31 = .ok (.putfield 60, 3) := by decide +kernel
theorem dX11_known_34 : decode cX11_known 34 = .ok (.iload_n 1, 1) := by decide +kernel
theorem dX11_known_35 : decode cX11_known 35 = .ok (.ifCond .eq 13, 3) := by decide +kernel
theorem dX11_known_38 : decode cX11_known 38 = .ok (.aload_n 0, 1) := by decide +kernel
theorem dX11_known_39 : decode cX11_known 39 = .ok (.getfield 56, 3) := by decide +kernel
theorem dX11_known_42 : decode cX11_known 42 = .ok (.getfield 202, 3) := by decide +kernel
theorem dX11_known_45 : decode cX11_known 45 = .ok (.goto 4, 3) := by decide +kernel
theorem dX11_known_48 : decode cX11_known 48 = .ok (.iconst (-1), 1) := by decide +kernel
theorem dX11_known_49 : decode cX11_known 49 = .ok (.ireturn, 1) := by decide +kernel
theorem dX11_stands_0 : decode cX11_stands 0 = .ok (.aload_n 0, 1) := by decide +kernel
theorem dX11_stands_1 : decode cX11_stands 1 = .ok (.iload_n 1, 1) := by decide +kernel
theorem dX11_stands_2 : decode cX11_stands 2 = .ok (.invokevirtual 83, 3) := by decide +kernel
theorem dX11_stands_5 : decode cX11_stands 5 = .ok (.astore_n 3, 1) := by decide +kernel
theorem dX11_stands_6 : decode cX11_stands 6 = .ok (.aload_n 3, 1) := by decide +kernel
theorem dX11_stands_7 : decode cX11_stands 7 = .ok (.ifnull 20, 3) := by decide +kernel
theorem dX11_stands_10 : decode cX11_stands 10 = .ok (.aload_n 0, 1) := by decide +kernel
theorem dX11_stands_11 : decode cX11_stands 11 = .ok (.getfield 56, 3) := by decide +kernel
theorem dX11_stands_14 : decode cX11_stands 14 = .ok (.getfield 202, 3) := by decide +kernel
theorem dX11_stands_17 : decode cX11_stands 17 = .ok (.ifCond .eq 10, 3) := by decide +kernel
theorem dX11_stands_20 : decode cX11_stands 20 = .ok (.iload_n 2, 1) := by decide +kernel
theorem dX11_stands_21 : decode cX11_stands 21 = .ok (.invokestatic 203, 3) := by decide +kernel
theorem dX11_stands_24 : decode cX11_stands 24 = .ok (.ifCond .ne 5, 3) := by decide +kernel
theorem dX11_stands_27 : decode cX11_stands 27 = .ok (.iconst (-1), 1) := by decide +kernel
theorem dX11_stands_28 : decode cX11_stands 28 = .ok (.ireturn, 1) := by decide +kernel
theorem dX11_stands_29 : decode cX11_stands 29 = .ok (.aload_n 0, 1) := by decide +kernel
theorem dX11_stands_30 : decode cX11_stands 30 = .ok (.getfield 56, 3) := by decide +kernel
theorem dX11_stands_33 : decode cX11_stands 33 = .ok (.aload_n 3, 1) := by decide +kernel
theorem dX11_stands_34 : decode cX11_stands 34 = .ok (.iload_n 2, 1) := by decide +kernel
theorem dX11_stands_35 : decode cX11_stands 35 = .ok (.invokevirtual 206, 3) := by decide +kernel
theorem dX11_stands_38 : decode cX11_stands 38 = .ok (.ireturn, 1) := by decide +kernel
theorem dX11_letter_0 : decode cX11_letter 0 = .ok (.aload_n 0, 1) := by decide +kernel
theorem dX11_letter_1 : decode cX11_letter 1 = .ok (.iload_n 1, 1) := by decide +kernel
theorem dX11_letter_2 : decode cX11_letter 2 = .ok (.invokevirtual 83, 3) := by decide +kernel
theorem dX11_letter_5 : decode cX11_letter 5 = .ok (.astore 4, 2) := by decide +kernel
theorem dX11_letter_7 : decode cX11_letter 7 = .ok (.aload 4, 2) := by decide +kernel
theorem dX11_letter_9 : decode cX11_letter 9 = .ok (.ifnull 14, 3) := by decide +kernel
theorem dX11_letter_12 : decode cX11_letter 12 = .ok (.iload_n 2, 1) := by decide +kernel
theorem dX11_letter_13 : decode cX11_letter 13 = .ok (.invokestatic 203, 3) := by decide +kernel
theorem dX11_letter_16 : decode cX11_letter 16 = .ok (.ifCond .eq 7, 3) := by decide +kernel
theorem dX11_letter_19 : decode cX11_letter 19 = .ok (.iload_n 3, 1) := by decide +kernel
theorem dX11_letter_20 : decode cX11_letter 20 = .ok (.ifCond .ge 7, 3) := by decide +kernel
theorem dX11_letter_23 : decode cX11_letter 23 = .ok (.sipush (-1000), 3) := by decide +kernel
theorem dX11_letter_26 : decode cX11_letter 26 = .ok (.ireturn, 1) := by decide +kernel
theorem dX11_letter_27 : decode cX11_letter 27 = .ok (.aload_n 0, 1) := by decide +kernel
theorem dX11_letter_28 : decode cX11_letter 28 = .ok (.getfield 56, 3) := by decide +kernel
theorem dX11_letter_31 : decode cX11_letter 31 = .ok (.aload 4, 2) := by decide +kernel
theorem dX11_letter_33 : decode cX11_letter 33 = .ok (.iload_n 2, 1) := by decide +kernel
theorem dX11_letter_34 : decode cX11_letter 34 = .ok (.iload_n 3, 1) := by decide +kernel
theorem dX11_letter_35 : decode cX11_letter 35 = .ok (.invokevirtual 209, 3) := by decide +kernel
theorem dX11_letter_38 : decode cX11_letter 38 = .ok (.ireturn, 1) := by decide +kernel
theorem dX11_width_0 : decode cX11_width 0 = .ok (.aload_n 0, 1) := by decide +kernel
theorem dX11_width_1 : decode cX11_width 1 = .ok (.iload_n 1, 1) := by decide +kernel
theorem dX11_width_2 : decode cX11_width 2 = .ok (.invokevirtual 83, 3) := by decide +kernel
theorem dX11_width_5 : decode cX11_width 5 = .ok (.astore 4, 2) := by decide +kernel
theorem dX11_width_7 : decode cX11_width 7 = .ok (.aload 4, 2) := by decide +kernel
theorem dX11_width_9 : decode cX11_width 9 = .ok (.ifnull 17, 3) := by decide +kernel
theorem dX11_width_12 : decode cX11_width 12 = .ok (.iload_n 2, 1) := by decide +kernel
theorem dX11_width_13 : decode cX11_width 13 = .ok (.invokestatic 203, 3) := by decide +kernel
theorem dX11_width_16 : decode cX11_width 16 = .ok (.ifCond .eq 10, 3) := by decide +kernel
theorem dX11_width_19 : decode cX11_width 19 = .ok (.iload_n 3, 1) := by decide +kernel
theorem dX11_width_20 : decode cX11_width 20 = .ok (.invokestatic 203, 3) := by decide +kernel
theorem dX11_width_23 : decode cX11_width 23 = .ok (.ifCond .ne 5, 3) := by decide +kernel
theorem dX11_width_26 : decode cX11_width 26 = .ok (.iconst (-1), 1) := by decide +kernel
theorem dX11_width_27 : decode cX11_width 27 = .ok (.ireturn, 1) := by decide +kernel
theorem dX11_width_28 : decode cX11_width 28 = .ok (.iconst (-1), 1) := by decide +kernel
theorem dX11_width_29 : decode cX11_width 29 = .ok (.istore 5, 2) := by decide +kernel
theorem dX11_width_31 : decode cX11_width 31 = .ok (.iconst 0, 1) := by decide +kernel
theorem dX11_width_32 : decode cX11_width 32 = .ok (.istore 6, 2) := by decide +kernel
theorem dX11_width_34 : decode cX11_width 34 = .ok (.iload_n 2, 1) := by decide +kernel
theorem dX11_width_35 : decode cX11_width 35 = .ok (.istore 7, 2) := by decide +kernel
theorem dX11_width_37 : decode cX11_width 37 = .ok (.iload 7, 2) := by decide +kernel
theorem dX11_width_39 : decode cX11_width 39 = .ok (.iload_n 3, 1) := by decide +kernel
theorem dX11_width_40 : decode cX11_width 40 = .ok (.if_icmp .gt 37, 3) := by decide +kernel
theorem dX11_width_43 : decode cX11_width 43 = .ok (.aload_n 0, 1) := by decide +kernel
theorem dX11_width_44 : decode cX11_width 44 = .ok (.getfield 56, 3) := by decide +kernel
theorem dX11_width_47 : decode cX11_width 47 = .ok (.aload 4, 2) := by decide +kernel
theorem dX11_width_49 : decode cX11_width 49 = .ok (.iload 7, 2) := by decide +kernel
theorem dX11_width_51 : decode cX11_width 51 = .ok (.invokevirtual 206, 3) := by decide +kernel
theorem dX11_width_54 : decode cX11_width 54 = .ok (.istore 8, 2) := by decide +kernel
theorem dX11_width_56 : decode cX11_width 56 = .ok (.iload 8, 2) := by decide +kernel
theorem dX11_width_58 : decode cX11_width 58 = .ok (.iload 6, 2) := by decide +kernel
theorem dX11_width_60 : decode cX11_width 60 = .ok (.if_icmp .le 11, 3) := by decide +kernel
theorem dX11_width_63 : decode cX11_width 63 = .ok (.iload 8, 2) := by decide +kernel
theorem dX11_width_65 : decode cX11_width 65 = .ok (.istore 6, 2) := by decide +kernel
theorem dX11_width_67 : decode cX11_width 67 = .ok (.iload 7, 2) := by decide +kernel
theorem dX11_width_69 : decode cX11_width 69 = .ok (.istore 5, 2) := by decide +kernel
theorem dX11_width_71 : decode cX11_width 71 = .ok (.iinc 7 1, 3) := by decide +kernel
theorem dX11_width_74 : decode cX11_width 74 = .ok (.goto (-37), 3) := by decide +kernel
theorem dX11_width_77 : decode cX11_width 77 = .ok (.iload 5, 2) := by decide +kernel
theorem dX11_width_79 : decode cX11_width 79 = .ok (.ireturn, 1) := by decide +kernel
theorem dX11_bitOf_0 : decode cX11_bitOf 0 = .ok (.iload_n 1, 1) := by decide +kernel
theorem dX11_bitOf_1 : decode cX11_bitOf 1 = .ok (.ifCond .lt 21, 3) := by decide +kernel
theorem dX11_bitOf_4 : decode cX11_bitOf 4 = .ok (.iload_n 1, 1) := by decide +kernel
theorem dX11_bitOf_5 : decode cX11_bitOf 5 = .ok (.bipush 10, 2) := by decide +kernel
theorem dX11_bitOf_7 : decode cX11_bitOf 7 = .ok (.if_icmp .ge 15, 3) := by decide +kernel
theorem dX11_bitOf_10 : decode cX11_bitOf 10 = .ok (.aload_n 0, 1) := by decide +kernel
theorem dX11_bitOf_11 : decode cX11_bitOf 11 = .ok (.getfield 18, 3) := by decide +kernel
theorem dX11_bitOf_14 : decode cX11_bitOf 14 = .ok (.iload_n 1, 1) := by decide +kernel
theorem dX11_bitOf_15 : decode cX11_bitOf 15 = .ok (.aaload, 1) := by decide +kernel
theorem dX11_bitOf_16 : decode cX11_bitOf 16 = .ok (.getfield 212, 3) := by decide +kernel
theorem dX11_bitOf_19 : decode cX11_bitOf 19 = .ok (.ifCond .ne 5, 3) := by decide +kernel
theorem dX11_bitOf_22 : decode cX11_bitOf 22 = .ok (.aconst_null, 1) := by decide +kernel
theorem dX11_bitOf_23 : decode cX11_bitOf 23 = .ok (.areturn, 1) := by decide +kernel
theorem dX11_bitOf_24 : decode cX11_bitOf 24 = .ok (.aload_n 0, 1) := by decide +kernel
theorem dX11_bitOf_25 : decode cX11_bitOf 25 = .ok (.getfield 18, 3) := by decide +kernel
theorem dX11_bitOf_28 : decode cX11_bitOf 28 = .ok (.iload_n 1, 1) := by decide +kernel
theorem dX11_bitOf_29 : decode cX11_bitOf 29 = .ok (.aaload, 1) := by decide +kernel
theorem dX11_bitOf_30 : decode cX11_bitOf 30 = .ok (.areturn, 1) := by decide +kernel
theorem dX11_looseBit_0 : decode cX11_looseBit 0 = .ok (.aload_n 0, 1) := by decide +kernel
theorem dX11_looseBit_1 : decode cX11_looseBit 1 = .ok (.iload_n 1, 1) := by decide +kernel
theorem dX11_looseBit_2 : decode cX11_looseBit 2 = .ok (.invokevirtual 83, 3) := by decide +kernel
theorem dX11_looseBit_5 : decode cX11_looseBit 5 = .ok (.astore_n 2, 1) := by decide +kernel
theorem dX11_looseBit_6 : decode cX11_looseBit 6 = .ok (.aload_n 2, 1) := by decide +kernel
theorem dX11_looseBit_7 : decode cX11_looseBit 7 = .ok (.ifnull 20, 3) := by decide +kernel
theorem dX11_looseBit_10 : decode cX11_looseBit 10 = .ok (.aload_n 2, 1) := by decide +kernel
theorem dX11_looseBit_11 : decode cX11_looseBit 11 = .ok (.getfield 71, 3) := by decide +kernel
theorem dX11_looseBit_14 : decode cX11_looseBit 14 = .ok (.ifCond .ne 13, 3) := by decide +kernel
theorem dX11_looseBit_17 : decode cX11_looseBit 17 = .ok (.aload_n 0, 1) := by decide +kernel
theorem dX11_looseBit_18 : decode cX11_looseBit 18 = .ok (.getfield 35, 3) := by decide +kernel
theorem dX11_looseBit_21 : decode cX11_looseBit 21 = .ok (.getfield 215, 3) := by decide +kernel
theorem dX11_looseBit_24 : decode cX11_looseBit 24 = .ok (.ifCond .ne 5, 3) := by decide +kernel
theorem dX11_looseBit_27 : decode cX11_looseBit 27 = .ok (.aconst_null, 1) := by decide +kernel
theorem dX11_looseBit_28 : decode cX11_looseBit 28 = .ok (.areturn, 1) := by decide +kernel
theorem dX11_looseBit_29 : decode cX11_looseBit 29 = .ok (.aload_n 2, 1) := by decide +kernel
theorem dX11_looseBit_30 : decode cX11_looseBit 30 = .ok (.areturn, 1) := by decide +kernel
theorem dX11_isWidth_0 : decode cX11_isWidth 0 = .ok (.iload_n 0, 1) := by decide +kernel
theorem dX11_isWidth_1 : decode cX11_isWidth 1 = .ok (.iconst 2, 1) := by decide +kernel
theorem dX11_isWidth_2 : decode cX11_isWidth 2 = .ok (.if_icmp .lt 13, 3) := by decide +kernel
theorem dX11_isWidth_5 : decode cX11_isWidth 5 = .ok (.iload_n 0, 1) := by decide +kernel
theorem dX11_isWidth_6 : decode cX11_isWidth 6 = .ok (.bipush 60, 2) := by decide +kernel
theorem dX11_isWidth_8 : decode cX11_isWidth 8 = .ok (.if_icmp .gt 7, 3) := by decide +kernel
theorem dX11_isWidth_11 : decode cX11_isWidth 11 = .ok (.iconst 1, 1) := by decide +kernel
theorem dX11_isWidth_12 : decode cX11_isWidth 12 = .ok (.goto 4, 3) := by decide +kernel
theorem dX11_isWidth_15 : decode cX11_isWidth 15 = .ok (.iconst 0, 1) := by decide +kernel
theorem dX11_isWidth_16 : decode cX11_isWidth 16 = .ok (.ireturn, 1) := by decide +kernel
theorem dX11_isLetter_0 : decode cX11_isLetter 0 = .ok (.iload_n 0, 1) := by decide +kernel
theorem dX11_isLetter_1 : decode cX11_isLetter 1 = .ok (.bipush 97, 2) := by decide +kernel
theorem dX11_isLetter_3 : decode cX11_isLetter 3 = .ok (.if_icmp .lt 13, 3) := by decide +kernel
theorem dX11_isLetter_6 : decode cX11_isLetter 6 = .ok (.iload_n 0, 1) := by decide +kernel
theorem dX11_isLetter_7 : decode cX11_isLetter 7 = .ok (.bipush 122, 2) := by decide +kernel
theorem dX11_isLetter_9 : decode cX11_isLetter 9 = .ok (.if_icmp .gt 7, 3) := by decide +kernel
theorem dX11_isLetter_12 : decode cX11_isLetter 12 = .ok (.iconst 1, 1) := by decide +kernel
theorem dX11_isLetter_13 : decode cX11_isLetter 13 = .ok (.goto 4, 3) := by decide +kernel
theorem dX11_isLetter_16 : decode cX11_isLetter 16 = .ok (.iconst 0, 1) := by decide +kernel
theorem dX11_isLetter_17 : decode cX11_isLetter 17 = .ok (.ireturn, 1) := by decide +kernel
theorem dX11_isText_0 : decode cX11_isText 0 = .ok (.iload_n 0, 1) := by decide +kernel
theorem dX11_isText_1 : decode cX11_isText 1 = .ok (.bipush 46, 2) := by decide +kernel
theorem dX11_isText_3 : decode cX11_isText 3 = .ok (.if_icmp .eq 15, 3) := by decide +kernel
theorem dX11_isText_6 : decode cX11_isText 6 = .ok (.iload_n 0, 1) := by decide +kernel
theorem dX11_isText_7 : decode cX11_isText 7 = .ok (.bipush 97, 2) := by decide +kernel
theorem dX11_isText_9 : decode cX11_isText 9 = .ok (.if_icmp .lt 13, 3) := by decide +kernel
theorem dX11_isText_12 : decode cX11_isText 12 = .ok (.iload_n 0, 1) := by decide +kernel
theorem dX11_isText_13 : decode cX11_isText 13 = .ok (.bipush 122, 2) := by decide +kernel
theorem dX11_isText_15 : decode cX11_isText 15 = .ok (.if_icmp .gt 7, 3) := by decide +kernel
theorem dX11_isText_18 : decode cX11_isText 18 = .ok (.iconst 1, 1) := by decide +kernel
theorem dX11_isText_19 : decode cX11_isText 19 = .ok (.goto 4, 3) := by decide +kernel
theorem dX11_isText_22 : decode cX11_isText 22 = .ok (.iconst 0, 1) := by decide +kernel
theorem dX11_isText_23 : decode cX11_isText 23 = .ok (.ireturn, 1) := by decide +kernel
theorem dJ9_floorMod_7cf53_0 : decode cJ9_floorMod_7cf53 0 = .ok (.iload_n 0, 1) := by decide +kernel
theorem dJ9_floorMod_7cf53_1 : decode cJ9_floorMod_7cf53 1 = .ok (.iload_n 1, 1) := by decide +kernel
theorem dJ9_floorMod_7cf53_2 : decode cJ9_floorMod_7cf53 2 = .ok (.irem, 1) := by decide +kernel
theorem dJ9_floorMod_7cf53_3 : decode cJ9_floorMod_7cf53 3 = .ok (.istore_n 2, 1) := by decide +kernel
theorem dJ9_floorMod_7cf53_4 : decode cJ9_floorMod_7cf53 4 = .ok (.iload_n 0, 1) := by decide +kernel
theorem dJ9_floorMod_7cf53_5 : decode cJ9_floorMod_7cf53 5 = .ok (.iload_n 1, 1) := by decide +kernel
theorem dJ9_floorMod_7cf53_6 : decode cJ9_floorMod_7cf53 6 = .ok (.ixor, 1) := by decide +kernel
theorem dJ9_floorMod_7cf53_7 : decode cJ9_floorMod_7cf53 7 = .ok (.ifCond .ge 11, 3) := by decide +kernel
theorem dJ9_floorMod_7cf53_10 : decode cJ9_floorMod_7cf53 10 = .ok (.iload_n 2, 1) := by decide +kernel
theorem dJ9_floorMod_7cf53_11 : decode cJ9_floorMod_7cf53 11 = .ok (.ifCond .eq 7, 3) := by decide +kernel
theorem dJ9_floorMod_7cf53_14 : decode cJ9_floorMod_7cf53 14 = .ok (.iload_n 2, 1) := by decide +kernel
theorem dJ9_floorMod_7cf53_15 : decode cJ9_floorMod_7cf53 15 = .ok (.iload_n 1, 1) := by decide +kernel
theorem dJ9_floorMod_7cf53_16 : decode cJ9_floorMod_7cf53 16 = .ok (.iadd, 1) := by decide +kernel
theorem dJ9_floorMod_7cf53_17 : decode cJ9_floorMod_7cf53 17 = .ok (.ireturn, 1) := by decide +kernel
theorem dJ9_floorMod_7cf53_18 : decode cJ9_floorMod_7cf53 18 = .ok (.iload_n 2, 1) := by decide +kernel
theorem dJ9_floorMod_7cf53_19 : decode cJ9_floorMod_7cf53 19 = .ok (.ireturn, 1) := by decide +kernel
theorem dJ9_max_7cf53_0 : decode cJ9_max_7cf53 0 = .ok (.iload_n 0, 1) := by decide +kernel
theorem dJ9_max_7cf53_1 : decode cJ9_max_7cf53 1 = .ok (.iload_n 1, 1) := by decide +kernel
theorem dJ9_max_7cf53_2 : decode cJ9_max_7cf53 2 = .ok (.if_icmp .lt 7, 3) := by decide +kernel
theorem dJ9_max_7cf53_5 : decode cJ9_max_7cf53 5 = .ok (.iload_n 0, 1) := by decide +kernel
theorem dJ9_max_7cf53_6 : decode cJ9_max_7cf53 6 = .ok (.goto 4, 3) := by decide +kernel
theorem dJ9_max_7cf53_9 : decode cJ9_max_7cf53 9 = .ok (.iload_n 1, 1) := by decide +kernel
theorem dJ9_max_7cf53_10 : decode cJ9_max_7cf53 10 = .ok (.ireturn, 1) := by decide +kernel
