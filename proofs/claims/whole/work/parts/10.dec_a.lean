theorem dX0_init_0 : decode cX0_init 0 = .ok (.aload_n 0, 1) := by decide +kernel
theorem dX0_init_1 : decode cX0_init 1 = .ok (.invokespecial 3, 3) := by decide +kernel
theorem dX0_init_4 : decode cX0_init 4 = .ok (.aload_n 0, 1) := by decide +kernel
theorem dX0_init_5 : decode cX0_init 5 = .ok (.bipush 50, 2) := by decide +kernel
theorem dX0_init_7 : decode cX0_init 7 = .ok (.newarray .int, 2) := by decide +kernel
theorem dX0_init_9 : decode cX0_init 9 = .ok (.putfield 9, 3) := by decide +kernel
theorem dX0_init_12 : decode cX0_init 12 = .ok (.aload_n 0, 1) := by decide +kernel
theorem dX0_init_13 : decode cX0_init 13 = .ok (.bipush 50, 2) := by decide +kernel
theorem dX0_init_15 : decode cX0_init 15 = .ok (.newarray .int, 2) := by decide +kernel
theorem dX0_init_17 : decode cX0_init 17 = .ok (.putfield 15, 3) := by decide +kernel
theorem dX0_init_20 : decode cX0_init 20 = .ok (.aload_n 0, 1) := by decide +kernel
theorem dX0_init_21 : decode cX0_init 21 = .ok (.bipush 50, 2) := by decide +kernel
theorem dX0_init_23 : decode cX0_init 23 = .ok (.newarray .int, 2) := by decide +kernel
theorem dX0_init_25 : decode cX0_init 25 = .ok (.putfield 18, 3) := by decide +kernel
theorem dX0_init_28 : decode cX0_init 28 = .ok (.aload_n 0, 1) := by decide +kernel
theorem dX0_init_29 : decode cX0_init 29 = .ok (.iconst 5, 1) := by decide +kernel
theorem dX0_init_30 : decode cX0_init 30 = .ok (.newarray .int, 2) := by decide +kernel
theorem dX0_init_32 : decode cX0_init 32 = .ok (.putfield 21, 3) := by decide +kernel
theorem dX0_init_35 : decode cX0_init 35 = .ok (.aload_n 0, 1) := by decide +kernel
theorem dX0_init_36 : decode cX0_init 36 = .ok (.iconst 5, 1) := by decide +kernel
theorem dX0_init_37 : decode cX0_init 37 = .ok (.newarray .int, 2) := by decide +kernel
theorem dX0_init_39 : decode cX0_init 39 = .ok (.putfield 24, 3) := by decide +kernel
theorem dX0_init_42 : decode cX0_init 42 = .ok (.aload_n 0, 1) := by decide +kernel
theorem dX0_init_43 : decode cX0_init 43 = .ok (.new 27, 3) := by decide +kernel
theorem dX0_init_46 : decode cX0_init 46 = .ok (.dup, 1) := by decide +kernel
theorem dX0_init_47 : decode cX0_init 47 = .ok (.iconst 5, 1) := by decide +kernel
theorem dX0_init_48 : decode cX0_init 48 = .ok (.invokespecial 29, 3) := by decide +kernel
theorem dX0_init_51 : decode cX0_init 51 = .ok (.putfield 32, 3) := by decide +kernel
theorem dX0_init_54 : decode cX0_init 54 = .ok (.aload_n 0, 1) := by decide +kernel
theorem dX0_init_55 : decode cX0_init 55 = .ok (.new 27, 3) := by decide +kernel
theorem dX0_init_58 : decode cX0_init 58 = .ok (.dup, 1) := by decide +kernel
theorem dX0_init_59 : decode cX0_init 59 = .ok (.bipush 10, 2) := by decide +kernel
theorem dX0_init_61 : decode cX0_init 61 = .ok (.invokespecial 29, 3) := by decide +kernel
theorem dX0_init_64 : decode cX0_init 64 = .ok (.putfield 36, 3) := by decide +kernel
theorem dX0_init_67 : decode cX0_init 67 = .ok (.aload_n 0, 1) := by decide +kernel
theorem dX0_init_68 : decode cX0_init 68 = .ok (.bipush 6, 2) := by decide +kernel
theorem dX0_init_70 : decode cX0_init 70 = .ok (.newarray .int, 2) := by decide +kernel
theorem dX0_init_72 : decode cX0_init 72 = .ok (.putfield 39, 3) := by decide +kernel
theorem dX0_init_75 : decode cX0_init 75 = .ok (.aload_n 0, 1) := by decide +kernel
theorem dX0_init_76 : decode cX0_init 76 = .ok (.iload_n 1, 1) := by decide +kernel
theorem dX0_init_77 : decode cX0_init 77 = .ok (.putfield 42, 3) := by decide +kernel
theorem dX0_init_80 : decode cX0_init 80 = .ok (.return_, 1) := by decide +kernel
theorem dX0_cellsTold_0 : decode cX0_cellsTold 0 = .ok (.iconst 0, 1) := by decide +kernel
theorem dX0_cellsTold_1 : decode cX0_cellsTold 1 = .ok (.istore_n 1, 1) := by decide +kernel
theorem dX0_cellsTold_2 : decode cX0_cellsTold 2 = .ok (.iconst 0, 1) := by decide +kernel
theorem dX0_cellsTold_3 : decode cX0_cellsTold 3 = .ok (.istore_n 2, 1) := by decide +kernel
theorem dX0_cellsTold_4 : decode cX0_cellsTold 4 = .ok (.iconst 0, 1) := by decide +kernel
theorem dX0_cellsTold_5 : decode cX0_cellsTold 5 = .ok (.istore_n 3, 1) := by decide +kernel
theorem dX0_cellsTold_6 : decode cX0_cellsTold 6 = .ok (.iconst 0, 1) := by decide +kernel
theorem dX0_cellsTold_7 : decode cX0_cellsTold 7 = .ok (.istore 4, 2) := by decide +kernel
theorem dX0_cellsTold_9 : decode cX0_cellsTold 9 = .ok (.iload 4, 2) := by decide +kernel
theorem dX0_cellsTold_11 : decode cX0_cellsTold 11 = .ok (.aload_n 0, 1) := by decide +kernel
theorem dX0_cellsTold_12 : decode cX0_cellsTold 12 = .ok (.getfield 46, 3) := by decide +kernel
theorem dX0_cellsTold_15 : decode cX0_cellsTold 15 = .ok (.if_icmp .ge 67, 3) := by decide +kernel
theorem dX0_cellsTold_18 : decode cX0_cellsTold 18 = .ok (.aload_n 0, 1) := by decide +kernel
theorem dX0_cellsTold_19 : decode cX0_cellsTold 19 = .ok (.getfield 51, 3) := by decide +kernel
theorem dX0_cellsTold_22 : decode cX0_cellsTold 22 = .ok (.iload 4, 2) := by decide +kernel
theorem dX0_cellsTold_24 : decode cX0_cellsTold 24 = .ok (.iaload, 1) := by decide +kernel
theorem dX0_cellsTold_25 : decode cX0_cellsTold 25 = .ok (.istore 5, 2) := by decide +kernel
theorem dX0_cellsTold_27 : decode cX0_cellsTold 27 = .ok (.iload 5, 2) := by decide +kernel
theorem dX0_cellsTold_29 : decode cX0_cellsTold 29 = .ok (.bipush 59, 2) := by decide +kernel
theorem dX0_cellsTold_31 : decode cX0_cellsTold 31 = .ok (.if_icmp .ne 11, 3) := by decide +kernel
theorem dX0_cellsTold_34 : decode cX0_cellsTold 34 = .ok (.iinc 1 1, 3) := by decide +kernel
theorem dX0_cellsTold_37 : decode cX0_cellsTold 37 = .ok (.iconst 0, 1) := by decide +kernel
theorem dX0_cellsTold_38 : decode cX0_cellsTold 38 = .ok (.istore_n 2, 1) := by decide +kernel
theorem dX0_cellsTold_39 : decode cX0_cellsTold 39 = .ok (.goto 16, 3) := by decide +kernel
theorem dX0_cellsTold_42 : decode cX0_cellsTold 42 = .ok (.iinc 2 1, 3) := by decide +kernel
theorem dX0_cellsTold_45 : decode cX0_cellsTold 45 = .ok (.iload 5, 2) := by decide +kernel
theorem dX0_cellsTold_47 : decode cX0_cellsTold 47 = .ok (.bipush 95, 2) := by decide +kernel
theorem dX0_cellsTold_49 : decode cX0_cellsTold 49 = .ok (.if_icmp .eq 6, 3) := by decide +kernel
theorem dX0_cellsTold_52 : decode cX0_cellsTold 52 = .ok (.iinc 3 1, 3) := by decide +kernel
theorem dX0_cellsTold_55 : decode cX0_cellsTold 55 = .ok (.iload_n 1, 1) := by decide +kernel
theorem dX0_cellsTold_56 : decode cX0_cellsTold 56 = .ok (.iconst 5, 1) := by decide +kernel
theorem dX0_cellsTold_57 : decode cX0_cellsTold 57 = .ok (.if_icmp .ge 17, 3) := by decide +kernel
theorem dX0_cellsTold_60 : decode cX0_cellsTold 60 = .ok (.iload_n 2, 1) := by decide +kernel
theorem dX0_cellsTold_61 : decode cX0_cellsTold 61 = .ok (.bipush 10, 2) := by decide +kernel
theorem dX0_cellsTold_63 : decode cX0_cellsTold 63 = .ok (.if_icmp .gt 11, 3) := by decide +kernel
theorem dX0_cellsTold_66 : decode cX0_cellsTold 66 = .ok (.iload 5, 2) := by decide +kernel
theorem dX0_cellsTold_68 : decode cX0_cellsTold 68 = .ok (.invokestatic 54, 3) := by decide +kernel
theorem dX0_cellsTold_71 : decode cX0_cellsTold 71 = .ok (.ifCond .ne 5, 3) := by decide +kernel
theorem dX0_cellsTold_74 : decode cX0_cellsTold 74 = .ok (.iconst (-1), 1) := by decide +kernel
theorem dX0_cellsTold_75 : decode cX0_cellsTold 75 = .ok (.ireturn, 1) := by decide +kernel
theorem dX0_cellsTold_76 : decode cX0_cellsTold 76 = .ok (.iinc 4 1, 3) := by decide +kernel
theorem dX0_cellsTold_79 : decode cX0_cellsTold 79 = .ok (.goto (-70), 3) := by decide +kernel
theorem dX0_cellsTold_82 : decode cX0_cellsTold 82 = .ok (.iload_n 3, 1) := by decide +kernel
theorem dX0_cellsTold_83 : decode cX0_cellsTold 83 = .ok (.ifCond .le 7, 3) := by decide +kernel
theorem dX0_cellsTold_86 : decode cX0_cellsTold 86 = .ok (.iload_n 3, 1) := by decide +kernel
theorem dX0_cellsTold_87 : decode cX0_cellsTold 87 = .ok (.goto 4, 3) := by decide +kernel
theorem dX0_cellsTold_90 : decode cX0_cellsTold 90 = .ok (.iconst (-1), 1) := by decide +kernel
theorem dX0_cellsTold_91 : decode cX0_cellsTold 91 = .ok (.ireturn, 1) := by decide +kernel
theorem dX0_isSign_0 : decode cX0_isSign 0 = .ok (.iload_n 0, 1) := by decide +kernel
theorem dX0_isSign_1 : decode cX0_isSign 1 = .ok (.invokestatic 58, 3) := by decide +kernel
theorem dX0_isSign_4 : decode cX0_isSign 4 = .ok (.ifCond .ne 21, 3) := by decide +kernel
theorem dX0_isSign_7 : decode cX0_isSign 7 = .ok (.iload_n 0, 1) := by decide +kernel
theorem dX0_isSign_8 : decode cX0_isSign 8 = .ok (.bipush 44, 2) := by decide +kernel
theorem dX0_isSign_10 : decode cX0_isSign 10 = .ok (.if_icmp .eq 15, 3) := by decide +kernel
theorem dX0_isSign_13 : decode cX0_isSign 13 = .ok (.iload_n 0, 1) := by decide +kernel
theorem dX0_isSign_14 : decode cX0_isSign 14 = .ok (.bipush 95, 2) := by decide +kernel
theorem dX0_isSign_16 : decode cX0_isSign 16 = .ok (.if_icmp .eq 9, 3) := by decide +kernel
theorem dX0_isSign_19 : decode cX0_isSign 19 = .ok (.iload_n 0, 1) := by decide +kernel
theorem dX0_isSign_20 : decode cX0_isSign 20 = .ok (.bipush 59, 2) := by decide +kernel
theorem dX0_isSign_22 : decode cX0_isSign 22 = .ok (.if_icmp .ne 7, 3) := by decide +kernel
theorem dX0_isSign_25 : decode cX0_isSign 25 = .ok (.iconst 1, 1) := by decide +kernel
theorem dX0_isSign_26 : decode cX0_isSign 26 = .ok (.goto 4, 3) := by decide +kernel
theorem dX0_isSign_29 : decode cX0_isSign 29 = .ok (.iconst 0, 1) := by decide +kernel
theorem dX0_isSign_30 : decode cX0_isSign 30 = .ok (.ireturn, 1) := by decide +kernel
theorem dX0_become_0 : decode cX0_become 0 = .ok (.aload_n 0, 1) := by decide +kernel
theorem dX0_become_1 : decode cX0_become 1 = .ok (.invokevirtual 61, 3) := by decide +kernel
theorem dX0_become_4 : decode cX0_become 4 = .ok (.iconst 0, 1) := by decide +kernel
theorem dX0_become_5 : decode cX0_become 5 = .ok (.istore_n 2, 1) := by decide +kernel
theorem dX0_become_6 : decode cX0_become 6 = .ok (.iconst 0, 1) := by decide +kernel
theorem dX0_become_7 : decode cX0_become 7 = .ok (.istore_n 3, 1) := by decide +kernel
theorem dX0_become_8 : decode cX0_become 8 = .ok (.iconst 0, 1) := by decide +kernel
theorem dX0_become_9 : decode cX0_become 9 = .ok (.istore 4, 2) := by decide +kernel
theorem dX0_become_11 : decode cX0_become 11 = .ok (.iload 4, 2) := by decide +kernel
theorem dX0_become_13 : decode cX0_become 13 = .ok (.aload_n 1, 1) := by decide +kernel
theorem dX0_become_14 : decode cX0_become 14 = .ok (.getfield 46, 3) := by decide +kernel
theorem dX0_become_17 : decode cX0_become 17 = .ok (.if_icmp .ge 62, 3) := by decide +kernel
theorem dX0_become_20 : decode cX0_become 20 = .ok (.aload_n 1, 1) := by decide +kernel
theorem dX0_become_21 : decode cX0_become 21 = .ok (.getfield 51, 3) := by decide +kernel
theorem dX0_become_24 : decode cX0_become 24 = .ok (.iload 4, 2) := by decide +kernel
theorem dX0_become_26 : decode cX0_become 26 = .ok (.iaload, 1) := by decide +kernel
theorem dX0_become_27 : decode cX0_become 27 = .ok (.istore 5, 2) := by decide +kernel
theorem dX0_become_29 : decode cX0_become 29 = .ok (.iload 5, 2) := by decide +kernel
theorem dX0_become_31 : decode cX0_become 31 = .ok (.bipush 59, 2) := by decide +kernel
theorem dX0_become_33 : decode cX0_become 33 = .ok (.if_icmp .ne 11, 3) := by decide +kernel
theorem dX0_become_36 : decode cX0_become 36 = .ok (.iinc 2 1, 3) := by decide +kernel
theorem dX0_become_39 : decode cX0_become 39 = .ok (.iconst 0, 1) := by decide +kernel
theorem dX0_become_40 : decode cX0_become 40 = .ok (.istore_n 3, 1) := by decide +kernel
theorem dX0_become_41 : decode cX0_become 41 = .ok (.goto 32, 3) := by decide +kernel
theorem dX0_become_44 : decode cX0_become 44 = .ok (.iload 5, 2) := by decide +kernel
theorem dX0_become_46 : decode cX0_become 46 = .ok (.bipush 95, 2) := by decide +kernel
theorem dX0_become_48 : decode cX0_become 48 = .ok (.if_icmp .eq 22, 3) := by decide +kernel
theorem dX0_become_51 : decode cX0_become 51 = .ok (.iload_n 2, 1) := by decide +kernel
theorem dX0_become_52 : decode cX0_become 52 = .ok (.iconst 5, 1) := by decide +kernel
theorem dX0_become_53 : decode cX0_become 53 = .ok (.if_icmp .ge 17, 3) := by decide +kernel
theorem dX0_become_56 : decode cX0_become 56 = .ok (.iload_n 3, 1) := by decide +kernel
theorem dX0_become_57 : decode cX0_become 57 = .ok (.bipush 10, 2) := by decide +kernel
theorem dX0_become_59 : decode cX0_become 59 = .ok (.if_icmp .ge 11, 3) := by decide +kernel
theorem dX0_become_62 : decode cX0_become 62 = .ok (.aload_n 0, 1) := by decide +kernel
theorem dX0_become_63 : decode cX0_become 63 = .ok (.iload_n 2, 1) := by decide +kernel
theorem dX0_become_64 : decode cX0_become 64 = .ok (.iload_n 3, 1) := by decide +kernel
theorem dX0_become_65 : decode cX0_become 65 = .ok (.iload 5, 2) := by decide +kernel
theorem dX0_become_67 : decode cX0_become 67 = .ok (.invokevirtual 64, 3) := by decide +kernel
theorem dX0_become_70 : decode cX0_become 70 = .ok (.iinc 3 1, 3) := by decide +kernel
theorem dX0_become_73 : decode cX0_become 73 = .ok (.iinc 4 1, 3) := by decide +kernel
theorem dX0_become_76 : decode cX0_become 76 = .ok (.goto (-65), 3) := by decide +kernel
theorem dX0_become_79 : decode cX0_become 79 = .ok (.return_, 1) := by decide +kernel
theorem dX0_clear_0 : decode cX0_clear 0 = .ok (.iconst 0, 1) := by decide +kernel
theorem dX0_clear_1 : decode cX0_clear 1 = .ok (.istore_n 1, 1) := by decide +kernel
theorem dX0_clear_2 : decode cX0_clear 2 = .ok (.iload_n 1, 1) := by decide +kernel
theorem dX0_clear_3 : decode cX0_clear 3 = .ok (.bipush 50, 2) := by decide +kernel
theorem dX0_clear_5 : decode cX0_clear 5 = .ok (.if_icmp .ge 17, 3) := by decide +kernel
theorem dX0_clear_8 : decode cX0_clear 8 = .ok (.aload_n 0, 1) := by decide +kernel
theorem dX0_clear_9 : decode cX0_clear 9 = .ok (.getfield 9, 3) := by decide +kernel
theorem dX0_clear_12 : decode cX0_clear 12 = .ok (.iload_n 1, 1) := by decide +kernel
theorem dX0_clear_13 : decode cX0_clear 13 = .ok (.bipush 95, 2) := by decide +kernel
theorem dX0_clear_15 : decode cX0_clear 15 = .ok (.iastore, 1) := by decide +kernel
theorem dX0_clear_16 : decode cX0_clear 16 = .ok (.iinc 1 1, 3) := by decide +kernel
theorem dX0_clear_19 : decode cX0_clear 19 = .ok (.goto (-17), 3) := by decide +kernel
theorem dX0_clear_22 : decode cX0_clear 22 = .ok (.iconst 0, 1) := by decide +kernel
theorem dX0_clear_23 : decode cX0_clear 23 = .ok (.istore_n 1, 1) := by decide +kernel
theorem dX0_clear_24 : decode cX0_clear 24 = .ok (.iload_n 1, 1) := by decide +kernel
theorem dX0_clear_25 : decode cX0_clear 25 = .ok (.iconst 5, 1) := by decide +kernel
theorem dX0_clear_26 : decode cX0_clear 26 = .ok (.if_icmp .ge 23, 3) := by decide +kernel
theorem dX0_clear_29 : decode cX0_clear 29 = .ok (.aload_n 0, 1) := by decide +kernel
theorem dX0_clear_30 : decode cX0_clear 30 = .ok (.getfield 21, 3) := by decide +kernel
theorem dX0_clear_33 : decode cX0_clear 33 = .ok (.iload_n 1, 1) := by decide +kernel
theorem dX0_clear_34 : decode cX0_clear 34 = .ok (.iconst (-1), 1) := by decide +kernel
theorem dX0_clear_35 : decode cX0_clear 35 = .ok (.iastore, 1) := by decide +kernel
theorem dX0_clear_36 : decode cX0_clear 36 = .ok (.aload_n 0, 1) := by decide +kernel
theorem dX0_clear_37 : decode cX0_clear 37 = .ok (.getfield 24, 3) := by decide +kernel
theorem dX0_clear_40 : decode cX0_clear 40 = .ok (.iload_n 1, 1) := by decide +kernel
theorem dX0_clear_41 : decode cX0_clear 41 = .ok (.iconst (-1), 1) := by decide +kernel
theorem dX0_clear_42 : decode cX0_clear 42 = .ok (.iastore, 1) := by decide +kernel
theorem dX0_clear_43 : decode cX0_clear 43 = .ok (.iinc 1 1, 3) := by decide +kernel
theorem dX0_clear_46 : decode cX0_clear 46 = .ok (.goto (-22), 3) := by decide +kernel
theorem dX0_clear_49 : decode cX0_clear 49 = .ok (.aload_n 0, 1) := by decide +kernel
theorem dX0_clear_50 : decode cX0_clear 50 = .ok (.iconst 0, 1) := by decide +kernel
theorem dX0_clear_51 : decode cX0_clear 51 = .ok (.putfield 68, 3) := by decide +kernel
theorem dX0_clear_54 : decode cX0_clear 54 = .ok (.aload_n 0, 1) := by decide +kernel
theorem dX0_clear_55 : decode cX0_clear 55 = .ok (.iconst (-1), 1) := by decide +kernel
theorem dX0_clear_56 : decode cX0_clear 56 = .ok (.putfield 71, 3) := by decide +kernel
theorem dX0_clear_59 : decode cX0_clear 59 = .ok (.aload_n 0, 1) := by decide +kernel
theorem dX0_clear_60 : decode cX0_clear 60 = .ok (.iconst (-1), 1) := by decide +kernel
theorem dX0_clear_61 : decode cX0_clear 61 = .ok (.putfield 74, 3) := by decide +kernel
theorem dX0_clear_64 : decode cX0_clear 64 = .ok (.aload_n 0, 1) := by decide +kernel
theorem dX0_clear_65 : decode cX0_clear 65 = .ok (.getfield 32, 3) := by decide +kernel
theorem dX0_clear_68 : decode cX0_clear 68 = .ok (.invokevirtual 77, 3) := by decide +kernel
theorem dX0_clear_71 : decode cX0_clear 71 = .ok (.aload_n 0, 1) := by decide +kernel
theorem dX0_clear_72 : decode cX0_clear 72 = .ok (.getfield 36, 3) := by decide +kernel
theorem dX0_clear_75 : decode cX0_clear 75 = .ok (.invokevirtual 77, 3) := by decide +kernel
theorem dX0_clear_78 : decode cX0_clear 78 = .ok (.aload_n 0, 1) := by decide +kernel
theorem dX0_clear_79 : decode cX0_clear 79 = .ok (.iconst 0, 1) := by decide +kernel
theorem dX0_clear_80 : decode cX0_clear 80 = .ok (.putfield 78, 3) := by decide +kernel
theorem dX0_clear_83 : decode cX0_clear 83 = .ok (.return_, 1) := by decide +kernel
theorem dX0_addCell_0 : decode cX0_addCell 0 = .ok (.aload_n 0, 1) := by decide +kernel
theorem dX0_addCell_1 : decode cX0_addCell 1 = .ok (.getfield 9, 3) := by decide +kernel
theorem dX0_addCell_4 : decode cX0_addCell 4 = .ok (.iload_n 1, 1) := by decide +kernel
theorem dX0_addCell_5 : decode cX0_addCell 5 = .ok (.bipush 10, 2) := by decide +kernel
theorem dX0_addCell_7 : decode cX0_addCell 7 = .ok (.imul, 1) := by decide +kernel
theorem dX0_addCell_8 : decode cX0_addCell 8 = .ok (.iload_n 2, 1) := by decide +kernel
theorem dX0_addCell_9 : decode cX0_addCell 9 = .ok (.iadd, 1) := by decide +kernel
theorem dX0_addCell_10 : decode cX0_addCell 10 = .ok (.iload_n 3, 1) := by decide +kernel
theorem dX0_addCell_11 : decode cX0_addCell 11 = .ok (.iastore, 1) := by decide +kernel
theorem dX0_addCell_12 : decode cX0_addCell 12 = .ok (.iload_n 3, 1) := by decide +kernel
theorem dX0_addCell_13 : decode cX0_addCell 13 = .ok (.invokestatic 58, 3) := by decide +kernel
theorem dX0_addCell_16 : decode cX0_addCell 16 = .ok (.ifCond .eq 31, 3) := by decide +kernel
theorem dX0_addCell_19 : decode cX0_addCell 19 = .ok (.aload_n 0, 1) := by decide +kernel
theorem dX0_addCell_20 : decode cX0_addCell 20 = .ok (.getfield 71, 3) := by decide +kernel
theorem dX0_addCell_23 : decode cX0_addCell 23 = .ok (.iconst (-1), 1) := by decide +kernel
theorem dX0_addCell_24 : decode cX0_addCell 24 = .ok (.if_icmp .ne 11, 3) := by decide +kernel
theorem dX0_addCell_27 : decode cX0_addCell 27 = .ok (.aload_n 0, 1) := by decide +kernel
theorem dX0_addCell_28 : decode cX0_addCell 28 = .ok (.aload_n 0, 1) := by decide +kernel
theorem dX0_addCell_29 : decode cX0_addCell 29 = .ok (.getfield 68, 3) := by decide +kernel
theorem dX0_addCell_32 : decode cX0_addCell 32 = .ok (.putfield 71, 3) := by decide +kernel
theorem dX0_addCell_35 : decode cX0_addCell 35 = .ok (.aload_n 0, 1) := by decide +kernel
theorem dX0_addCell_36 : decode cX0_addCell 36 = .ok (.aload_n 0, 1) := by decide +kernel
theorem dX0_addCell_37 : decode cX0_addCell 37 = .ok (.getfield 74, 3) := by decide +kernel
theorem dX0_addCell_40 : decode cX0_addCell 40 = .ok (.iload_n 2, 1) := by decide +kernel
theorem dX0_addCell_41 : decode cX0_addCell 41 = .ok (.invokestatic 81, 3) := by decide +kernel
theorem dX0_addCell_44 : decode cX0_addCell 44 = .ok (.putfield 74, 3) := by decide +kernel
theorem dX0_addCell_47 : decode cX0_addCell 47 = .ok (.aload_n 0, 1) := by decide +kernel
theorem dX0_addCell_48 : decode cX0_addCell 48 = .ok (.getfield 21, 3) := by decide +kernel
theorem dX0_addCell_51 : decode cX0_addCell 51 = .ok (.iload_n 1, 1) := by decide +kernel
theorem dX0_addCell_52 : decode cX0_addCell 52 = .ok (.iaload, 1) := by decide +kernel
theorem dX0_addCell_53 : decode cX0_addCell 53 = .ok (.iconst (-1), 1) := by decide +kernel
theorem dX0_addCell_54 : decode cX0_addCell 54 = .ok (.if_icmp .ne 10, 3) := by decide +kernel
theorem dX0_addCell_57 : decode cX0_addCell 57 = .ok (.aload_n 0, 1) := by decide +kernel
theorem dX0_addCell_58 : decode cX0_addCell 58 = .ok (.getfield 21, 3) := by decide +kernel
theorem dX0_addCell_61 : decode cX0_addCell 61 = .ok (.iload_n 1, 1) := by decide +kernel
theorem dX0_addCell_62 : decode cX0_addCell 62 = .ok (.iload_n 2, 1) := by decide +kernel
theorem dX0_addCell_63 : decode cX0_addCell 63 = .ok (.iastore, 1) := by decide +kernel
theorem dX0_addCell_64 : decode cX0_addCell 64 = .ok (.aload_n 0, 1) := by decide +kernel
theorem dX0_addCell_65 : decode cX0_addCell 65 = .ok (.getfield 24, 3) := by decide +kernel
theorem dX0_addCell_68 : decode cX0_addCell 68 = .ok (.iload_n 1, 1) := by decide +kernel
theorem dX0_addCell_69 : decode cX0_addCell 69 = .ok (.iload_n 2, 1) := by decide +kernel
theorem dX0_addCell_70 : decode cX0_addCell 70 = .ok (.iastore, 1) := by decide +kernel
theorem dX0_addCell_71 : decode cX0_addCell 71 = .ok (.aload_n 0, 1) := by decide +kernel
theorem dX0_addCell_72 : decode cX0_addCell 72 = .ok (.getfield 32, 3) := by decide +kernel
theorem dX0_addCell_75 : decode cX0_addCell 75 = .ok (.getfield 87, 3) := by decide +kernel
theorem dX0_addCell_78 : decode cX0_addCell 78 = .ok (.iload_n 1, 1) := by decide +kernel
theorem dX0_addCell_79 : decode cX0_addCell 79 = .ok (.iconst 1, 1) := by decide +kernel
theorem dX0_addCell_80 : decode cX0_addCell 80 = .ok (.bastore, 1) := by decide +kernel
theorem dX0_addCell_81 : decode cX0_addCell 81 = .ok (.aload_n 0, 1) := by decide +kernel
theorem dX0_addCell_82 : decode cX0_addCell 82 = .ok (.getfield 36, 3) := by decide +kernel
theorem dX0_addCell_85 : decode cX0_addCell 85 = .ok (.getfield 87, 3) := by decide +kernel
theorem dX0_addCell_88 : decode cX0_addCell 88 = .ok (.iload_n 2, 1) := by decide +kernel
theorem dX0_addCell_89 : decode cX0_addCell 89 = .ok (.iconst 1, 1) := by decide +kernel
theorem dX0_addCell_90 : decode cX0_addCell 90 = .ok (.bastore, 1) := by decide +kernel
theorem dX0_addCell_91 : decode cX0_addCell 91 = .ok (.aload_n 0, 1) := by decide +kernel
theorem dX0_addCell_92 : decode cX0_addCell 92 = .ok (.getfield 15, 3) := by decide +kernel
theorem dX0_addCell_95 : decode cX0_addCell 95 = .ok (.aload_n 0, 1) := by decide +kernel
theorem dX0_addCell_96 : decode cX0_addCell 96 = .ok (.getfield 68, 3) := by decide +kernel
theorem dX0_addCell_99 : decode cX0_addCell 99 = .ok (.iload_n 1, 1) := by decide +kernel
theorem dX0_addCell_100 : decode cX0_addCell 100 = .ok (.iastore, 1) := by decide +kernel
theorem dX0_addCell_101 : decode cX0_addCell 101 = .ok (.aload_n 0, 1) := by decide +kernel
theorem dX0_addCell_102 : decode cX0_addCell 102 = .ok (.getfield 18, 3) := by decide +kernel
theorem dX0_addCell_105 : decode cX0_addCell 105 = .ok (.aload_n 0, 1) := by decide +kernel
theorem dX0_addCell_106 : decode cX0_addCell 106 = .ok (.getfield 68, 3) := by decide +kernel
theorem dX0_addCell_109 : decode cX0_addCell 109 = .ok (.iload_n 2, 1) := by decide +kernel
theorem dX0_addCell_110 : decode cX0_addCell 110 = .ok (.iastore, 1) := by decide +kernel
theorem dX0_addCell_111 : decode cX0_addCell 111 = .ok (.aload_n 0, 1) := by decide +kernel
theorem dX0_addCell_112 : decode cX0_addCell 112 = .ok (.dup, 1) := by decide +kernel
theorem dX0_addCell_113 : decode cX0_addCell 113 = .ok (.getfield 68, 3) := by decide +kernel
theorem dX0_addCell_116 : decode cX0_addCell 116 = .ok (.iconst 1, 1) := by decide +kernel
theorem dX0_addCell_117 : decode cX0_addCell 117 = .ok (.iadd, 1) := by decide +kernel
theorem dX0_addCell_118 : decode cX0_addCell 118 = .ok (.putfield 68, 3) := by decide +kernel
theorem dX0_addCell_121 : decode cX0_addCell 121 = .ok (.return_, 1) := by decide +kernel
theorem dX0_hasCell_0 : decode cX0_hasCell 0 = .ok (.iload_n 1, 1) := by decide +kernel
theorem dX0_hasCell_1 : decode cX0_hasCell 1 = .ok (.ifCond .lt 38, 3) := by decide +kernel
theorem dX0_hasCell_4 : decode cX0_hasCell 4 = .ok (.iload_n 1, 1) := by decide +kernel
theorem dX0_hasCell_5 : decode cX0_hasCell 5 = .ok (.iconst 5, 1) := by decide +kernel
theorem dX0_hasCell_6 : decode cX0_hasCell 6 = .ok (.if_icmp .ge 33, 3) := by decide +kernel
theorem dX0_hasCell_9 : decode cX0_hasCell 9 = .ok (.iload_n 2, 1) := by decide +kernel
theorem dX0_hasCell_10 : decode cX0_hasCell 10 = .ok (.ifCond .lt 29, 3) := by decide +kernel
theorem dX0_hasCell_13 : decode cX0_hasCell 13 = .ok (.iload_n 2, 1) := by decide +kernel
theorem dX0_hasCell_14 : decode cX0_hasCell 14 = .ok (.bipush 10, 2) := by decide +kernel
theorem dX0_hasCell_16 : decode cX0_hasCell 16 = .ok (.if_icmp .ge 23, 3) := by decide +kernel
theorem dX0_hasCell_19 : decode cX0_hasCell 19 = .ok (.aload_n 0, 1) := by decide +kernel
theorem dX0_hasCell_20 : decode cX0_hasCell 20 = .ok (.getfield 9, 3) := by decide +kernel
theorem dX0_hasCell_23 : decode cX0_hasCell 23 = .ok (.iload_n 1, 1) := by decide +kernel
theorem dX0_hasCell_24 : decode cX0_hasCell 24 = .ok (.bipush 10, 2) := by decide +kernel
theorem dX0_hasCell_26 : decode cX0_hasCell 26 = .ok (.imul, 1) := by decide +kernel
theorem dX0_hasCell_27 : decode cX0_hasCell 27 = .ok (.iload_n 2, 1) := by decide +kernel
theorem dX0_hasCell_28 : decode cX0_hasCell 28 = .ok (.iadd, 1) := by decide +kernel
theorem dX0_hasCell_29 : decode cX0_hasCell 29 = .ok (.iaload, 1) := by decide +kernel
theorem dX0_hasCell_30 : decode cX0_hasCell 30 = .ok (.bipush 95, 2) := by decide +kernel
theorem dX0_hasCell_32 : decode cX0_hasCell 32 = .ok (.if_icmp .eq 7, 3) := by decide +kernel
theorem dX0_hasCell_35 : decode cX0_hasCell 35 = .ok (.iconst 1, 1) := by decide +kernel
theorem dX0_hasCell_36 : decode cX0_hasCell 36 = .ok (.goto 4, 3) := by decide +kernel
theorem dX0_hasCell_39 : decode cX0_hasCell 39 = .ok (.iconst 0, 1) := by decide +kernel
theorem dX0_hasCell_40 : decode cX0_hasCell 40 = .ok (.ireturn, 1) := by decide +kernel
theorem dX0_addHole_0 : decode cX0_addHole 0 = .ok (.aload_n 0, 1) := by decide +kernel
theorem dX0_addHole_1 : decode cX0_addHole 1 = .ok (.getfield 78, 3) := by decide +kernel
theorem dX0_addHole_4 : decode cX0_addHole 4 = .ok (.ifCond .eq 18, 3) := by decide +kernel
theorem dX0_addHole_7 : decode cX0_addHole 7 = .ok (.iload_n 1, 1) := by decide +kernel
theorem dX0_addHole_8 : decode cX0_addHole 8 = .ok (.aload_n 0, 1) := by decide +kernel
theorem dX0_addHole_9 : decode cX0_addHole 9 = .ok (.getfield 39, 3) := by decide +kernel
theorem dX0_addHole_12 : decode cX0_addHole 12 = .ok (.aload_n 0, 1) := by decide +kernel
theorem dX0_addHole_13 : decode cX0_addHole 13 = .ok (.getfield 78, 3) := by decide +kernel
theorem dX0_addHole_16 : decode cX0_addHole 16 = .ok (.iconst 1, 1) := by decide +kernel
theorem dX0_addHole_17 : decode cX0_addHole 17 = .ok (.isub, 1) := by decide +kernel
theorem dX0_addHole_18 : decode cX0_addHole 18 = .ok (.iaload, 1) := by decide +kernel
theorem dX0_addHole_19 : decode cX0_addHole 19 = .ok (.if_icmp .le 7, 3) := by decide +kernel
theorem dX0_addHole_22 : decode cX0_addHole 22 = .ok (.iconst 1, 1) := by decide +kernel
theorem dX0_addHole_23 : decode cX0_addHole 23 = .ok (.goto 4, 3) := by decide +kernel
theorem dX0_addHole_26 : decode cX0_addHole 26 = .ok (.iconst 0, 1) := by decide +kernel
theorem dX0_addHole_27 : decode cX0_addHole 27 = .ok (.istore_n 2, 1) := by decide +kernel
theorem dX0_addHole_28 : decode cX0_addHole 28 = .ok (.aload_n 0, 1) := by decide +kernel
theorem dX0_addHole_29 : decode cX0_addHole 29 = .ok (.getfield 78, 3) := by decide +kernel
theorem dX0_addHole_32 : decode cX0_addHole 32 = .ok (.bipush 6, 2) := by decide +kernel
theorem dX0_addHole_34 : decode cX0_addHole 34 = .ok (.if_icmp .ge 7, 3) := by decide +kernel
theorem dX0_addHole_37 : decode cX0_addHole 37 = .ok (.iload_n 2, 1) := by decide +kernel
theorem dX0_addHole_38 : decode cX0_addHole 38 = .ok (.ifCond .ne 5, 3) := by decide +kernel
theorem dX0_addHole_41 : decode cX0_addHole 41 = .ok (.iconst (-1), 1) := by decide +kernel
theorem dX0_addHole_42 : decode cX0_addHole 42 = .ok (.ireturn, 1) := by decide +kernel
theorem dX0_addHole_43 : decode cX0_addHole 43 = .ok (.aload_n 0, 1) := by decide +kernel
theorem dX0_addHole_44 : decode cX0_addHole 44 = .ok (.getfield 39, 3) := by decide +kernel
theorem dX0_addHole_47 : decode cX0_addHole 47 = .ok (.aload_n 0, 1) := by decide +kernel
theorem dX0_addHole_48 : decode cX0_addHole 48 = .ok (.getfield 78, 3) := by decide +kernel
theorem dX0_addHole_51 : decode cX0_addHole 51 = .ok (.iload_n 1, 1) := by decide +kernel
theorem dX0_addHole_52 : decode cX0_addHole 52 = .ok (.iastore, 1) := by decide +kernel
theorem dX0_addHole_53 : decode cX0_addHole 53 = .ok (.aload_n 0, 1) := by decide +kernel
theorem dX0_addHole_54 : decode cX0_addHole 54 = .ok (.dup, 1) := by decide +kernel
theorem dX0_addHole_55 : decode cX0_addHole 55 = .ok (.getfield 78, 3) := by decide +kernel
theorem dX0_addHole_58 : decode cX0_addHole 58 = .ok (.iconst 1, 1) := by decide +kernel
theorem dX0_addHole_59 : decode cX0_addHole 59 = .ok (.iadd, 1) := by decide +kernel
theorem dX0_addHole_60 : decode cX0_addHole 60 = .ok (.putfield 78, 3) := by decide +kernel
theorem dX0_addHole_63 : decode cX0_addHole 63 = .ok (.aload_n 0, 1) := by decide +kernel
theorem dX0_addHole_64 : decode cX0_addHole 64 = .ok (.getfield 78, 3) := by decide +kernel
theorem dX0_addHole_67 : decode cX0_addHole 67 = .ok (.ireturn, 1) := by decide +kernel
theorem dX1_init_0 : decode cX1_init 0 = .ok (.aload_n 0, 1) := by decide +kernel
theorem dX1_init_1 : decode cX1_init 1 = .ok (.invokespecial 3, 3) := by decide +kernel
theorem dX1_init_4 : decode cX1_init 4 = .ok (.aload_n 0, 1) := by decide +kernel
theorem dX1_init_5 : decode cX1_init 5 = .ok (.iload_n 1, 1) := by decide +kernel
theorem dX1_init_6 : decode cX1_init 6 = .ok (.newarray .int, 2) := by decide +kernel
theorem dX1_init_8 : decode cX1_init 8 = .ok (.putfield 9, 3) := by decide +kernel
theorem dX1_init_11 : decode cX1_init 11 = .ok (.aload_n 0, 1) := by decide +kernel
theorem dX1_init_12 : decode cX1_init 12 = .ok (.iload_n 1, 1) := by decide +kernel
theorem dX1_init_13 : decode cX1_init 13 = .ok (.newarray .boolean, 2) := by decide +kernel
theorem dX1_init_15 : decode cX1_init 15 = .ok (.putfield 15, 3) := by decide +kernel
theorem dX1_init_18 : decode cX1_init 18 = .ok (.return_, 1) := by decide +kernel
theorem dX1_clear_0 : decode cX1_clear 0 = .ok (.iconst 0, 1) := by decide +kernel
theorem dX1_clear_1 : decode cX1_clear 1 = .ok (.istore_n 1, 1) := by decide +kernel
theorem dX1_clear_2 : decode cX1_clear 2 = .ok (.iload_n 1, 1) := by decide +kernel
theorem dX1_clear_3 : decode cX1_clear 3 = .ok (.aload_n 0, 1) := by decide +kernel
theorem dX1_clear_4 : decode cX1_clear 4 = .ok (.getfield 9, 3) := by decide +kernel
theorem dX1_clear_7 : decode cX1_clear 7 = .ok (.arraylength, 1) := by decide +kernel
theorem dX1_clear_8 : decode cX1_clear 8 = .ok (.if_icmp .ge 23, 3) := by decide +kernel
theorem dX1_clear_11 : decode cX1_clear 11 = .ok (.aload_n 0, 1) := by decide +kernel
theorem dX1_clear_12 : decode cX1_clear 12 = .ok (.getfield 9, 3) := by decide +kernel
theorem dX1_clear_15 : decode cX1_clear 15 = .ok (.iload_n 1, 1) := by decide +kernel
theorem dX1_clear_16 : decode cX1_clear 16 = .ok (.iconst 0, 1) := by decide +kernel
theorem dX1_clear_17 : decode cX1_clear 17 = .ok (.iastore, 1) := by decide +kernel
theorem dX1_clear_18 : decode cX1_clear 18 = .ok (.aload_n 0, 1) := by decide +kernel
theorem dX1_clear_19 : decode cX1_clear 19 = .ok (.getfield 15, 3) := by decide +kernel
theorem dX1_clear_22 : decode cX1_clear 22 = .ok (.iload_n 1, 1) := by decide +kernel
theorem dX1_clear_23 : decode cX1_clear 23 = .ok (.iconst 0, 1) := by decide +kernel
theorem dX1_clear_24 : decode cX1_clear 24 = .ok (.bastore, 1) := by decide +kernel
theorem dX1_clear_25 : decode cX1_clear 25 = .ok (.iinc 1 1, 3) := by decide +kernel
theorem dX1_clear_28 : decode cX1_clear 28 = .ok (.goto (-26), 3) := by decide +kernel
theorem dX1_clear_31 : decode cX1_clear 31 = .ok (.return_, 1) := by decide +kernel
theorem dX1_told_0 : decode cX1_told 0 = .ok (.iload_n 1, 1) := by decide +kernel
theorem dX1_told_1 : decode cX1_told 1 = .ok (.ifCond .lt 12, 3) := by decide +kernel
theorem dX1_told_4 : decode cX1_told 4 = .ok (.iload_n 1, 1) := by decide +kernel
theorem dX1_told_5 : decode cX1_told 5 = .ok (.aload_n 0, 1) := by decide +kernel
theorem dX1_told_6 : decode cX1_told 6 = .ok (.getfield 9, 3) := by decide +kernel
theorem dX1_told_9 : decode cX1_told 9 = .ok (.arraylength, 1) := by decide +kernel
theorem dX1_told_10 : decode cX1_told 10 = .ok (.if_icmp .lt 5, 3) := by decide +kernel
theorem dX1_told_13 : decode cX1_told 13 = .ok (.iconst 0, 1) := by decide +kernel
theorem dX1_told_14 : decode cX1_told 14 = .ok (.ireturn, 1) := by decide +kernel
theorem dX1_told_15 : decode cX1_told 15 = .ok (.aload_n 0, 1) := by decide +kernel
theorem dX1_told_16 : decode cX1_told 16 = .ok (.getfield 15, 3) := by decide +kernel
theorem dX1_told_19 : decode cX1_told 19 = .ok (.iload_n 1, 1) := by decide +kernel
theorem dX1_told_20 : decode cX1_told 20 = .ok (.baload, 1) := by decide +kernel
theorem dX1_told_21 : decode cX1_told 21 = .ok (.ifCond .eq 12, 3) := by decide +kernel
theorem dX1_told_24 : decode cX1_told 24 = .ok (.aload_n 0, 1) := by decide +kernel
theorem dX1_told_25 : decode cX1_told 25 = .ok (.getfield 9, 3) := by decide +kernel
theorem dX1_told_28 : decode cX1_told 28 = .ok (.iload_n 1, 1) := by decide +kernel
theorem dX1_told_29 : decode cX1_told 29 = .ok (.iaload, 1) := by decide +kernel
theorem dX1_told_30 : decode cX1_told 30 = .ok (.goto 4, 3) := by decide +kernel
theorem dX1_told_33 : decode cX1_told 33 = .ok (.iconst 0, 1) := by decide +kernel
theorem dX1_told_34 : decode cX1_told 34 = .ok (.ireturn, 1) := by decide +kernel
theorem dX1_worthBeside_0 : decode cX1_worthBeside 0 = .ok (.iconst 0, 1) := by decide +kernel
theorem dX1_worthBeside_1 : decode cX1_worthBeside 1 = .ok (.istore_n 3, 1) := by decide +kernel
theorem dX1_worthBeside_2 : decode cX1_worthBeside 2 = .ok (.iconst 0, 1) := by decide +kernel
theorem dX1_worthBeside_3 : decode cX1_worthBeside 3 = .ok (.istore 4, 2) := by decide +kernel
theorem dX1_worthBeside_5 : decode cX1_worthBeside 5 = .ok (.iload 4, 2) := by decide +kernel
theorem dX1_worthBeside_7 : decode cX1_worthBeside 7 = .ok (.aload_n 0, 1) := by decide +kernel
theorem dX1_worthBeside_8 : decode cX1_worthBeside 8 = .ok (.getfield 9, 3) := by decide +kernel
theorem dX1_worthBeside_11 : decode cX1_worthBeside 11 = .ok (.arraylength, 1) := by decide +kernel
theorem dX1_worthBeside_12 : decode cX1_worthBeside 12 = .ok (.if_icmp .ge 49, 3) := by decide +kernel
theorem dX1_worthBeside_15 : decode cX1_worthBeside 15 = .ok (.aload_n 0, 1) := by decide +kernel
theorem dX1_worthBeside_16 : decode cX1_worthBeside 16 = .ok (.iload 4, 2) := by decide +kernel
theorem dX1_worthBeside_18 : decode cX1_worthBeside 18 = .ok (.invokevirtual 19, 3) := by decide +kernel
theorem dX1_worthBeside_21 : decode cX1_worthBeside 21 = .ok (.istore 5, 2) := by decide +kernel
theorem dX1_worthBeside_23 : decode cX1_worthBeside 23 = .ok (.aload_n 1, 1) := by decide +kernel
theorem dX1_worthBeside_24 : decode cX1_worthBeside 24 = .ok (.iload 4, 2) := by decide +kernel
theorem dX1_worthBeside_26 : decode cX1_worthBeside 26 = .ok (.iload_n 2, 1) := by decide +kernel
theorem dX1_worthBeside_27 : decode cX1_worthBeside 27 = .ok (.isub, 1) := by decide +kernel
theorem dX1_worthBeside_28 : decode cX1_worthBeside 28 = .ok (.invokevirtual 19, 3) := by decide +kernel
theorem dX1_worthBeside_31 : decode cX1_worthBeside 31 = .ok (.istore 6, 2) := by decide +kernel
theorem dX1_worthBeside_33 : decode cX1_worthBeside 33 = .ok (.iload 5, 2) := by decide +kernel
theorem dX1_worthBeside_35 : decode cX1_worthBeside 35 = .ok (.ifCond .eq 20, 3) := by decide +kernel
theorem dX1_worthBeside_38 : decode cX1_worthBeside 38 = .ok (.iload 6, 2) := by decide +kernel
theorem dX1_worthBeside_40 : decode cX1_worthBeside 40 = .ok (.ifCond .eq 15, 3) := by decide +kernel
theorem dX1_worthBeside_43 : decode cX1_worthBeside 43 = .ok (.iload 5, 2) := by decide +kernel
theorem dX1_worthBeside_45 : decode cX1_worthBeside 45 = .ok (.iload 6, 2) := by decide +kernel
theorem dX1_worthBeside_47 : decode cX1_worthBeside 47 = .ok (.if_icmp .eq 5, 3) := by decide +kernel
theorem dX1_worthBeside_50 : decode cX1_worthBeside 50 = .ok (.iconst (-1), 1) := by decide +kernel
theorem dX1_worthBeside_51 : decode cX1_worthBeside 51 = .ok (.ireturn, 1) := by decide +kernel
theorem dX1_worthBeside_52 : decode cX1_worthBeside 52 = .ok (.iinc 3 2, 3) := by decide +kernel
theorem dX1_worthBeside_55 : decode cX1_worthBeside 55 = .ok (.iinc 4 1, 3) := by decide +kernel
theorem dX1_worthBeside_58 : decode cX1_worthBeside 58 = .ok (.goto (-53), 3) := by decide +kernel
theorem dX1_worthBeside_61 : decode cX1_worthBeside 61 = .ok (.iload_n 3, 1) := by decide +kernel
theorem dX1_worthBeside_62 : decode cX1_worthBeside 62 = .ok (.ireturn, 1) := by decide +kernel
theorem dX2_init_0 : decode cX2_init 0 = .ok (.aload_n 0, 1) := by decide +kernel
theorem dX2_init_1 : decode cX2_init 1 = .ok (.invokespecial 3, 3) := by decide +kernel
theorem dX2_init_4 : decode cX2_init 4 = .ok (.aload_n 0, 1) := by decide +kernel
theorem dX2_init_5 : decode cX2_init 5 = .ok (.sipush 200, 3) := by decide +kernel
theorem dX2_init_8 : decode cX2_init 8 = .ok (.newarray .int, 2) := by decide +kernel
theorem dX2_init_10 : decode cX2_init 10 = .ok (.putfield 9, 3) := by decide +kernel
theorem dX2_init_13 : decode cX2_init 13 = .ok (.return_, 1) := by decide +kernel
theorem dX2_become_0 : decode cX2_become 0 = .ok (.aload_n 1, 1) := by decide +kernel
theorem dX2_become_1 : decode cX2_become 1 = .ok (.getfield 15, 3) := by decide +kernel
theorem dX2_become_4 : decode cX2_become 4 = .ok (.iconst 0, 1) := by decide +kernel
theorem dX2_become_5 : decode cX2_become 5 = .ok (.aload_n 0, 1) := by decide +kernel
theorem dX2_become_6 : decode cX2_become 6 = .ok (.getfield 9, 3) := by decide +kernel
theorem dX2_become_9 : decode cX2_become 9 = .ok (.iconst 0, 1) := by decide +kernel
theorem dX2_become_10 : decode cX2_become 10 = .ok (.aload_n 1, 1) := by decide +kernel
theorem dX2_become_11 : decode cX2_become 11 = .ok (.getfield 20, 3) := by decide +kernel
theorem dX2_become_14 : decode cX2_become 14 = .ok (.invokestatic 24, 3) := by decide +kernel
theorem dX2_become_17 : decode cX2_become 17 = .ok (.aload_n 0, 1) := by decide +kernel
theorem dX2_become_18 : decode cX2_become 18 = .ok (.aload_n 1, 1) := by decide +kernel
theorem dX2_become_19 : decode cX2_become 19 = .ok (.getfield 20, 3) := by decide +kernel
theorem dX2_become_22 : decode cX2_become 22 = .ok (.putfield 30, 3) := by decide +kernel
theorem dX2_become_25 : decode cX2_become 25 = .ok (.return_, 1) := by decide +kernel
theorem dX2_countTimes_0 : decode cX2_countTimes 0 = .ok (.iconst 0, 1) := by decide +kernel
theorem dX2_countTimes_1 : decode cX2_countTimes 1 = .ok (.istore_n 3, 1) := by decide +kernel
theorem dX2_countTimes_2 : decode cX2_countTimes 2 = .ok (.iconst 0, 1) := by decide +kernel
theorem dX2_countTimes_3 : decode cX2_countTimes 3 = .ok (.istore 4, 2) := by decide +kernel
theorem dX2_countTimes_5 : decode cX2_countTimes 5 = .ok (.iload 4, 2) := by decide +kernel
theorem dX2_countTimes_7 : decode cX2_countTimes 7 = .ok (.aload_n 0, 1) := by decide +kernel
theorem dX2_countTimes_8 : decode cX2_countTimes 8 = .ok (.getfield 30, 3) := by decide +kernel
theorem dX2_countTimes_11 : decode cX2_countTimes 11 = .ok (.if_icmp .ge 30, 3) := by decide +kernel
theorem dX2_countTimes_14 : decode cX2_countTimes 14 = .ok (.aload_n 0, 1) := by decide +kernel
theorem dX2_countTimes_15 : decode cX2_countTimes 15 = .ok (.aload_n 1, 1) := by decide +kernel
theorem dX2_countTimes_16 : decode cX2_countTimes 16 = .ok (.iload_n 2, 1) := by decide +kernel
theorem dX2_countTimes_17 : decode cX2_countTimes 17 = .ok (.iload 4, 2) := by decide +kernel
theorem dX2_countTimes_19 : decode cX2_countTimes 19 = .ok (.aload_n 0, 1) := by decide +kernel
theorem dX2_countTimes_20 : decode cX2_countTimes 20 = .ok (.aload_n 1, 1) := by decide +kernel
theorem dX2_countTimes_21 : decode cX2_countTimes 21 = .ok (.iload_n 2, 1) := by decide +kernel
theorem dX2_countTimes_22 : decode cX2_countTimes 22 = .ok (.invokevirtual 31, 3) := by decide +kernel
theorem dX2_countTimes_25 : decode cX2_countTimes 25 = .ok (.isub, 1) := by decide +kernel
theorem dX2_countTimes_26 : decode cX2_countTimes 26 = .ok (.invokevirtual 35, 3) := by decide +kernel
theorem dX2_countTimes_29 : decode cX2_countTimes 29 = .ok (.ifCond .eq 6, 3) := by decide +kernel
theorem dX2_countTimes_32 : decode cX2_countTimes 32 = .ok (.iinc 3 1, 3) := by decide +kernel
theorem dX2_countTimes_35 : decode cX2_countTimes 35 = .ok (.iinc 4 1, 3) := by decide +kernel
theorem dX2_countTimes_38 : decode cX2_countTimes 38 = .ok (.goto (-33), 3) := by decide +kernel
theorem dX2_countTimes_41 : decode cX2_countTimes 41 = .ok (.iload_n 3, 1) := by decide +kernel
theorem dX2_countTimes_42 : decode cX2_countTimes 42 = .ok (.ireturn, 1) := by decide +kernel
theorem dX2_timeOf_0 : decode cX2_timeOf 0 = .ok (.iconst 0, 1) := by decide +kernel
theorem dX2_timeOf_1 : decode cX2_timeOf 1 = .ok (.istore 4, 2) := by decide +kernel
theorem dX2_timeOf_3 : decode cX2_timeOf 3 = .ok (.iconst 0, 1) := by decide +kernel
theorem dX2_timeOf_4 : decode cX2_timeOf 4 = .ok (.istore 5, 2) := by decide +kernel
theorem dX2_timeOf_6 : decode cX2_timeOf 6 = .ok (.iload 5, 2) := by decide +kernel
theorem dX2_timeOf_8 : decode cX2_timeOf 8 = .ok (.aload_n 0, 1) := by decide +kernel
theorem dX2_timeOf_9 : decode cX2_timeOf 9 = .ok (.getfield 30, 3) := by decide +kernel
theorem dX2_timeOf_12 : decode cX2_timeOf 12 = .ok (.if_icmp .ge 43, 3) := by decide +kernel
theorem dX2_timeOf_15 : decode cX2_timeOf 15 = .ok (.iload 5, 2) := by decide +kernel
theorem dX2_timeOf_17 : decode cX2_timeOf 17 = .ok (.aload_n 0, 1) := by decide +kernel
theorem dX2_timeOf_18 : decode cX2_timeOf 18 = .ok (.aload_n 1, 1) := by decide +kernel
theorem dX2_timeOf_19 : decode cX2_timeOf 19 = .ok (.iload_n 2, 1) := by decide +kernel
theorem dX2_timeOf_20 : decode cX2_timeOf 20 = .ok (.invokevirtual 31, 3) := by decide +kernel
theorem dX2_timeOf_23 : decode cX2_timeOf 23 = .ok (.isub, 1) := by decide +kernel
theorem dX2_timeOf_24 : decode cX2_timeOf 24 = .ok (.istore 6, 2) := by decide +kernel
theorem dX2_timeOf_26 : decode cX2_timeOf 26 = .ok (.aload_n 0, 1) := by decide +kernel
theorem dX2_timeOf_27 : decode cX2_timeOf 27 = .ok (.aload_n 1, 1) := by decide +kernel
theorem dX2_timeOf_28 : decode cX2_timeOf 28 = .ok (.iload_n 2, 1) := by decide +kernel
theorem dX2_timeOf_29 : decode cX2_timeOf 29 = .ok (.iload 6, 2) := by decide +kernel
theorem dX2_timeOf_31 : decode cX2_timeOf 31 = .ok (.invokevirtual 35, 3) := by decide +kernel
theorem dX2_timeOf_34 : decode cX2_timeOf 34 = .ok (.ifCond .eq 15, 3) := by decide +kernel
theorem dX2_timeOf_37 : decode cX2_timeOf 37 = .ok (.iload 4, 2) := by decide +kernel
theorem dX2_timeOf_39 : decode cX2_timeOf 39 = .ok (.iload_n 3, 1) := by decide +kernel
theorem dX2_timeOf_40 : decode cX2_timeOf 40 = .ok (.if_icmp .ne 6, 3) := by decide +kernel
theorem dX2_timeOf_43 : decode cX2_timeOf 43 = .ok (.iload 6, 2) := by decide +kernel
theorem dX2_timeOf_45 : decode cX2_timeOf 45 = .ok (.ireturn, 1) := by decide +kernel
theorem dX2_timeOf_46 : decode cX2_timeOf 46 = .ok (.iinc 4 1, 3) := by decide +kernel
theorem dX2_timeOf_49 : decode cX2_timeOf 49 = .ok (.iinc 5 1, 3) := by decide +kernel
theorem dX2_timeOf_52 : decode cX2_timeOf 52 = .ok (.goto (-46), 3) := by decide +kernel
theorem dX2_timeOf_55 : decode cX2_timeOf 55 = .ok (.sipush (-1000), 3) := by decide +kernel
theorem dX2_timeOf_58 : decode cX2_timeOf 58 = .ok (.ireturn, 1) := by decide +kernel
theorem dX2_firstShift_0 : decode cX2_firstShift 0 = .ok (.aload_n 1, 1) := by decide +kernel
theorem dX2_firstShift_1 : decode cX2_firstShift 1 = .ok (.getfield 39, 3) := by decide +kernel
theorem dX2_firstShift_4 : decode cX2_firstShift 4 = .ok (.istore_n 3, 1) := by decide +kernel
theorem dX2_firstShift_5 : decode cX2_firstShift 5 = .ok (.iload_n 3, 1) := by decide +kernel
theorem dX2_firstShift_6 : decode cX2_firstShift 6 = .ok (.iconst (-1), 1) := by decide +kernel
theorem dX2_firstShift_7 : decode cX2_firstShift 7 = .ok (.if_icmp .ne 7, 3) := by decide +kernel
theorem dX2_firstShift_10 : decode cX2_firstShift 10 = .ok (.iconst 0, 1) := by decide +kernel
theorem dX2_firstShift_11 : decode cX2_firstShift 11 = .ok (.goto 18, 3) := by decide +kernel
theorem dX2_firstShift_14 : decode cX2_firstShift 14 = .ok (.aload_n 1, 1) := by decide +kernel
theorem dX2_firstShift_15 : decode cX2_firstShift 15 = .ok (.getfield 44, 3) := by decide +kernel
theorem dX2_firstShift_18 : decode cX2_firstShift 18 = .ok (.iload_n 3, 1) := by decide +kernel
theorem dX2_firstShift_19 : decode cX2_firstShift 19 = .ok (.iaload, 1) := by decide +kernel
theorem dX2_firstShift_20 : decode cX2_firstShift 20 = .ok (.iload_n 2, 1) := by decide +kernel
theorem dX2_firstShift_21 : decode cX2_firstShift 21 = .ok (.imul, 1) := by decide +kernel
theorem dX2_firstShift_22 : decode cX2_firstShift 22 = .ok (.aload_n 1, 1) := by decide +kernel
theorem dX2_firstShift_23 : decode cX2_firstShift 23 = .ok (.getfield 47, 3) := by decide +kernel
theorem dX2_firstShift_26 : decode cX2_firstShift 26 = .ok (.iload_n 3, 1) := by decide +kernel
theorem dX2_firstShift_27 : decode cX2_firstShift 27 = .ok (.iaload, 1) := by decide +kernel
theorem dX2_firstShift_28 : decode cX2_firstShift 28 = .ok (.iadd, 1) := by decide +kernel
theorem dX2_firstShift_29 : decode cX2_firstShift 29 = .ok (.ireturn, 1) := by decide +kernel
theorem dX2_standsAt_0 : decode cX2_standsAt 0 = .ok (.aload_n 1, 1) := by decide +kernel
theorem dX2_standsAt_1 : decode cX2_standsAt 1 = .ok (.getfield 39, 3) := by decide +kernel
theorem dX2_standsAt_4 : decode cX2_standsAt 4 = .ok (.iconst (-1), 1) := by decide +kernel
theorem dX2_standsAt_5 : decode cX2_standsAt 5 = .ok (.if_icmp .eq 17, 3) := by decide +kernel
theorem dX2_standsAt_8 : decode cX2_standsAt 8 = .ok (.iload_n 3, 1) := by decide +kernel
theorem dX2_standsAt_9 : decode cX2_standsAt 9 = .ok (.iload_n 2, 1) := by decide +kernel
theorem dX2_standsAt_10 : decode cX2_standsAt 10 = .ok (.invokestatic 50, 3) := by decide +kernel
theorem dX2_standsAt_13 : decode cX2_standsAt 13 = .ok (.aload_n 1, 1) := by decide +kernel
theorem dX2_standsAt_14 : decode cX2_standsAt 14 = .ok (.getfield 56, 3) := by decide +kernel
theorem dX2_standsAt_17 : decode cX2_standsAt 17 = .ok (.iadd, 1) := by decide +kernel
theorem dX2_standsAt_18 : decode cX2_standsAt 18 = .ok (.iload_n 2, 1) := by decide +kernel
theorem dX2_standsAt_19 : decode cX2_standsAt 19 = .ok (.if_icmp .lt 5, 3) := by decide +kernel
theorem dX2_standsAt_22 : decode cX2_standsAt 22 = .ok (.iconst 0, 1) := by decide +kernel
theorem dX2_standsAt_23 : decode cX2_standsAt 23 = .ok (.ireturn, 1) := by decide +kernel
theorem dX2_standsAt_24 : decode cX2_standsAt 24 = .ok (.aload_n 1, 1) := by decide +kernel
theorem dX2_standsAt_25 : decode cX2_standsAt 25 = .ok (.getfield 39, 3) := by decide +kernel
theorem dX2_standsAt_28 : decode cX2_standsAt 28 = .ok (.istore 4, 2) := by decide +kernel
theorem dX2_standsAt_30 : decode cX2_standsAt 30 = .ok (.iload 4, 2) := by decide +kernel
theorem dX2_standsAt_32 : decode cX2_standsAt 32 = .ok (.aload_n 1, 1) := by decide +kernel
theorem dX2_standsAt_33 : decode cX2_standsAt 33 = .ok (.getfield 59, 3) := by decide +kernel
theorem dX2_standsAt_36 : decode cX2_standsAt 36 = .ok (.if_icmp .ge 76, 3) := by decide +kernel
theorem dX2_standsAt_39 : decode cX2_standsAt 39 = .ok (.aload_n 1, 1) := by decide +kernel
theorem dX2_standsAt_40 : decode cX2_standsAt 40 = .ok (.getfield 62, 3) := by decide +kernel
theorem dX2_standsAt_43 : decode cX2_standsAt 43 = .ok (.aload_n 1, 1) := by decide +kernel
theorem dX2_standsAt_44 : decode cX2_standsAt 44 = .ok (.getfield 44, 3) := by decide +kernel
theorem dX2_standsAt_47 : decode cX2_standsAt 47 = .ok (.iload 4, 2) := by decide +kernel
theorem dX2_standsAt_49 : decode cX2_standsAt 49 = .ok (.iaload, 1) := by decide +kernel
theorem dX2_standsAt_50 : decode cX2_standsAt 50 = .ok (.bipush 10, 2) := by decide +kernel
theorem dX2_standsAt_52 : decode cX2_standsAt 52 = .ok (.imul, 1) := by decide +kernel
theorem dX2_standsAt_53 : decode cX2_standsAt 53 = .ok (.aload_n 1, 1) := by decide +kernel
theorem dX2_standsAt_54 : decode cX2_standsAt 54 = .ok (.getfield 47, 3) := by decide +kernel
theorem dX2_standsAt_57 : decode cX2_standsAt 57 = .ok (.iload 4, 2) := by decide +kernel
theorem dX2_standsAt_59 : decode cX2_standsAt 59 = .ok (.iaload, 1) := by decide +kernel
theorem dX2_standsAt_60 : decode cX2_standsAt 60 = .ok (.iadd, 1) := by decide +kernel
theorem dX2_standsAt_61 : decode cX2_standsAt 61 = .ok (.iaload, 1) := by decide +kernel
theorem dX2_standsAt_62 : decode cX2_standsAt 62 = .ok (.istore 5, 2) := by decide +kernel
theorem dX2_standsAt_64 : decode cX2_standsAt 64 = .ok (.iload_n 3, 1) := by decide +kernel
theorem dX2_standsAt_65 : decode cX2_standsAt 65 = .ok (.aload_n 1, 1) := by decide +kernel
theorem dX2_standsAt_66 : decode cX2_standsAt 66 = .ok (.getfield 44, 3) := by decide +kernel
theorem dX2_standsAt_69 : decode cX2_standsAt 69 = .ok (.iload 4, 2) := by decide +kernel
theorem dX2_standsAt_71 : decode cX2_standsAt 71 = .ok (.iaload, 1) := by decide +kernel
theorem dX2_standsAt_72 : decode cX2_standsAt 72 = .ok (.iload_n 2, 1) := by decide +kernel
theorem dX2_standsAt_73 : decode cX2_standsAt 73 = .ok (.imul, 1) := by decide +kernel
theorem dX2_standsAt_74 : decode cX2_standsAt 74 = .ok (.iadd, 1) := by decide +kernel
theorem dX2_standsAt_75 : decode cX2_standsAt 75 = .ok (.aload_n 1, 1) := by decide +kernel
theorem dX2_standsAt_76 : decode cX2_standsAt 76 = .ok (.getfield 47, 3) := by decide +kernel
theorem dX2_standsAt_79 : decode cX2_standsAt 79 = .ok (.iload 4, 2) := by decide +kernel
theorem dX2_standsAt_81 : decode cX2_standsAt 81 = .ok (.iaload, 1) := by decide +kernel
theorem dX2_standsAt_82 : decode cX2_standsAt 82 = .ok (.iadd, 1) := by decide +kernel
theorem dX2_standsAt_83 : decode cX2_standsAt 83 = .ok (.istore 6, 2) := by decide +kernel
theorem dX2_standsAt_85 : decode cX2_standsAt 85 = .ok (.iload 5, 2) := by decide +kernel
theorem dX2_standsAt_87 : decode cX2_standsAt 87 = .ok (.invokestatic 65, 3) := by decide +kernel
theorem dX2_standsAt_90 : decode cX2_standsAt 90 = .ok (.ifCond .eq 16, 3) := by decide +kernel
theorem dX2_standsAt_93 : decode cX2_standsAt 93 = .ok (.aload_n 0, 1) := by decide +kernel
theorem dX2_standsAt_94 : decode cX2_standsAt 94 = .ok (.iload 6, 2) := by decide +kernel
theorem dX2_standsAt_96 : decode cX2_standsAt 96 = .ok (.iload 5, 2) := by decide +kernel
theorem dX2_standsAt_98 : decode cX2_standsAt 98 = .ok (.invokevirtual 69, 3) := by decide +kernel
theorem dX2_standsAt_101 : decode cX2_standsAt 101 = .ok (.ifCond .ne 5, 3) := by decide +kernel
theorem dX2_standsAt_104 : decode cX2_standsAt 104 = .ok (.iconst 0, 1) := by decide +kernel
theorem dX2_standsAt_105 : decode cX2_standsAt 105 = .ok (.ireturn, 1) := by decide +kernel
theorem dX2_standsAt_106 : decode cX2_standsAt 106 = .ok (.iinc 4 1, 3) := by decide +kernel
theorem dX2_standsAt_109 : decode cX2_standsAt 109 = .ok (.goto (-79), 3) := by decide +kernel
theorem dX2_standsAt_112 : decode cX2_standsAt 112 = .ok (.iconst 1, 1) := by decide +kernel
theorem dX2_standsAt_113 : decode cX2_standsAt 113 = .ok (.ireturn, 1) := by decide +kernel
theorem dX2_agrees_0 : decode cX2_agrees 0 = .ok (.iload_n 1, 1) := by decide +kernel
theorem dX2_agrees_1 : decode cX2_agrees 1 = .ok (.ifCond .lt 31, 3) := by decide +kernel
theorem dX2_agrees_4 : decode cX2_agrees 4 = .ok (.iload_n 1, 1) := by decide +kernel
theorem dX2_agrees_5 : decode cX2_agrees 5 = .ok (.aload_n 0, 1) := by decide +kernel
theorem dX2_agrees_6 : decode cX2_agrees 6 = .ok (.getfield 30, 3) := by decide +kernel
theorem dX2_agrees_9 : decode cX2_agrees 9 = .ok (.if_icmp .ge 23, 3) := by decide +kernel
theorem dX2_agrees_12 : decode cX2_agrees 12 = .ok (.iload_n 2, 1) := by decide +kernel
theorem dX2_agrees_13 : decode cX2_agrees 13 = .ok (.bipush 46, 2) := by decide +kernel
theorem dX2_agrees_15 : decode cX2_agrees 15 = .ok (.if_icmp .eq 13, 3) := by decide +kernel
theorem dX2_agrees_18 : decode cX2_agrees 18 = .ok (.aload_n 0, 1) := by decide +kernel
theorem dX2_agrees_19 : decode cX2_agrees 19 = .ok (.getfield 9, 3) := by decide +kernel
theorem dX2_agrees_22 : decode cX2_agrees 22 = .ok (.iload_n 1, 1) := by decide +kernel
theorem dX2_agrees_23 : decode cX2_agrees 23 = .ok (.iaload, 1) := by decide +kernel
theorem dX2_agrees_24 : decode cX2_agrees 24 = .ok (.iload_n 2, 1) := by decide +kernel
theorem dX2_agrees_25 : decode cX2_agrees 25 = .ok (.if_icmp .ne 7, 3) := by decide +kernel
theorem dX2_agrees_28 : decode cX2_agrees 28 = .ok (.iconst 1, 1) := by decide +kernel
theorem dX2_agrees_29 : decode cX2_agrees 29 = .ok (.goto 4, 3) := by decide +kernel
theorem dX2_agrees_32 : decode cX2_agrees 32 = .ok (.iconst 0, 1) := by decide +kernel
theorem dX2_agrees_33 : decode cX2_agrees 33 = .ok (.ireturn, 1) := by decide +kernel
theorem dX3_init_0 : decode cX3_init 0 = .ok (.aload_n 0, 1) := by decide +kernel
theorem dX3_init_1 : decode cX3_init 1 = .ok (.invokespecial 3, 3) := by decide +kernel
theorem dX3_init_4 : decode cX3_init 4 = .ok (.aload_n 0, 1) := by decide +kernel
theorem dX3_init_5 : decode cX3_init 5 = .ok (.iload_n 1, 1) := by decide +kernel
theorem dX3_init_6 : decode cX3_init 6 = .ok (.newarray .int, 2) := by decide +kernel
theorem dX3_init_8 : decode cX3_init 8 = .ok (.putfield 9, 3) := by decide +kernel
theorem dX3_init_11 : decode cX3_init 11 = .ok (.aload_n 0, 1) := by decide +kernel
theorem dX3_init_12 : decode cX3_init 12 = .ok (.iload_n 1, 1) := by decide +kernel
theorem dX3_init_13 : decode cX3_init 13 = .ok (.newarray .int, 2) := by decide +kernel
theorem dX3_init_15 : decode cX3_init 15 = .ok (.putfield 15, 3) := by decide +kernel
theorem dX3_init_18 : decode cX3_init 18 = .ok (.return_, 1) := by decide +kernel
theorem dX3_has_0 : decode cX3_has 0 = .ok (.iload_n 1, 1) := by decide +kernel
theorem dX3_has_1 : decode cX3_has 1 = .ok (.ifCond .lt 16, 3) := by decide +kernel
theorem dX3_has_4 : decode cX3_has 4 = .ok (.iload_n 1, 1) := by decide +kernel
theorem dX3_has_5 : decode cX3_has 5 = .ok (.aload_n 0, 1) := by decide +kernel
theorem dX3_has_6 : decode cX3_has 6 = .ok (.getfield 9, 3) := by decide +kernel
theorem dX3_has_9 : decode cX3_has 9 = .ok (.arraylength, 1) := by decide +kernel
theorem dX3_has_10 : decode cX3_has 10 = .ok (.if_icmp .ge 7, 3) := by decide +kernel
theorem dX3_has_13 : decode cX3_has 13 = .ok (.iconst 1, 1) := by decide +kernel
theorem dX3_has_14 : decode cX3_has 14 = .ok (.goto 4, 3) := by decide +kernel
theorem dX3_has_17 : decode cX3_has 17 = .ok (.iconst 0, 1) := by decide +kernel
theorem dX3_has_18 : decode cX3_has 18 = .ok (.ireturn, 1) := by decide +kernel
theorem dX3_worthOf_0 : decode cX3_worthOf 0 = .ok (.iconst 0, 1) := by decide +kernel
theorem dX3_worthOf_1 : decode cX3_worthOf 1 = .ok (.istore_n 3, 1) := by decide +kernel
theorem dX3_worthOf_2 : decode cX3_worthOf 2 = .ok (.iconst 0, 1) := by decide +kernel
theorem dX3_worthOf_3 : decode cX3_worthOf 3 = .ok (.istore 4, 2) := by decide +kernel
theorem dX3_worthOf_5 : decode cX3_worthOf 5 = .ok (.iload 4, 2) := by decide +kernel
theorem dX3_worthOf_7 : decode cX3_worthOf 7 = .ok (.aload_n 1, 1) := by decide +kernel
theorem dX3_worthOf_8 : decode cX3_worthOf 8 = .ok (.getfield 18, 3) := by decide +kernel
theorem dX3_worthOf_11 : decode cX3_worthOf 11 = .ok (.arraylength, 1) := by decide +kernel
theorem dX3_worthOf_12 : decode cX3_worthOf 12 = .ok (.if_icmp .ge 73, 3) := by decide +kernel
theorem dX3_worthOf_15 : decode cX3_worthOf 15 = .ok (.aload_n 1, 1) := by decide +kernel
theorem dX3_worthOf_16 : decode cX3_worthOf 16 = .ok (.iload 4, 2) := by decide +kernel
theorem dX3_worthOf_18 : decode cX3_worthOf 18 = .ok (.invokevirtual 21, 3) := by decide +kernel
theorem dX3_worthOf_21 : decode cX3_worthOf 21 = .ok (.istore 5, 2) := by decide +kernel
theorem dX3_worthOf_23 : decode cX3_worthOf 23 = .ok (.iload_n 2, 1) := by decide +kernel
theorem dX3_worthOf_24 : decode cX3_worthOf 24 = .ok (.iload 4, 2) := by decide +kernel
theorem dX3_worthOf_26 : decode cX3_worthOf 26 = .ok (.iadd, 1) := by decide +kernel
theorem dX3_worthOf_27 : decode cX3_worthOf 27 = .ok (.istore 6, 2) := by decide +kernel
theorem dX3_worthOf_29 : decode cX3_worthOf 29 = .ok (.iload 5, 2) := by decide +kernel
theorem dX3_worthOf_31 : decode cX3_worthOf 31 = .ok (.ifCond .eq 48, 3) := by decide +kernel
theorem dX3_worthOf_34 : decode cX3_worthOf 34 = .ok (.aload_n 0, 1) := by decide +kernel
theorem dX3_worthOf_35 : decode cX3_worthOf 35 = .ok (.iload 6, 2) := by decide +kernel
theorem dX3_worthOf_37 : decode cX3_worthOf 37 = .ok (.invokevirtual 25, 3) := by decide +kernel
theorem dX3_worthOf_40 : decode cX3_worthOf 40 = .ok (.ifCond .eq 39, 3) := by decide +kernel
theorem dX3_worthOf_43 : decode cX3_worthOf 43 = .ok (.aload_n 0, 1) := by decide +kernel
theorem dX3_worthOf_44 : decode cX3_worthOf 44 = .ok (.getfield 15, 3) := by decide +kernel
theorem dX3_worthOf_47 : decode cX3_worthOf 47 = .ok (.iload 6, 2) := by decide +kernel
theorem dX3_worthOf_49 : decode cX3_worthOf 49 = .ok (.iaload, 1) := by decide +kernel
theorem dX3_worthOf_50 : decode cX3_worthOf 50 = .ok (.ifCond .le 29, 3) := by decide +kernel
theorem dX3_worthOf_53 : decode cX3_worthOf 53 = .ok (.aload_n 0, 1) := by decide +kernel
theorem dX3_worthOf_54 : decode cX3_worthOf 54 = .ok (.getfield 9, 3) := by decide +kernel
theorem dX3_worthOf_57 : decode cX3_worthOf 57 = .ok (.iload 6, 2) := by decide +kernel
theorem dX3_worthOf_59 : decode cX3_worthOf 59 = .ok (.iaload, 1) := by decide +kernel
theorem dX3_worthOf_60 : decode cX3_worthOf 60 = .ok (.iload 5, 2) := by decide +kernel
theorem dX3_worthOf_62 : decode cX3_worthOf 62 = .ok (.if_icmp .eq 5, 3) := by decide +kernel
theorem dX3_worthOf_65 : decode cX3_worthOf 65 = .ok (.iconst (-1), 1) := by decide +kernel
theorem dX3_worthOf_66 : decode cX3_worthOf 66 = .ok (.ireturn, 1) := by decide +kernel
theorem dX3_worthOf_67 : decode cX3_worthOf 67 = .ok (.iload_n 3, 1) := by decide +kernel
theorem dX3_worthOf_68 : decode cX3_worthOf 68 = .ok (.iconst 2, 1) := by decide +kernel
theorem dX3_worthOf_69 : decode cX3_worthOf 69 = .ok (.aload_n 0, 1) := by decide +kernel
theorem dX3_worthOf_70 : decode cX3_worthOf 70 = .ok (.getfield 15, 3) := by decide +kernel
theorem dX3_worthOf_73 : decode cX3_worthOf 73 = .ok (.iload 6, 2) := by decide +kernel
theorem dX3_worthOf_75 : decode cX3_worthOf 75 = .ok (.iaload, 1) := by decide +kernel
theorem dX3_worthOf_76 : decode cX3_worthOf 76 = .ok (.imul, 1) := by decide +kernel
theorem dX3_worthOf_77 : decode cX3_worthOf 77 = .ok (.iadd, 1) := by decide +kernel
theorem dX3_worthOf_78 : decode cX3_worthOf 78 = .ok (.istore_n 3, 1) := by decide +kernel
theorem dX3_worthOf_79 : decode cX3_worthOf 79 = .ok (.iinc 4 1, 3) := by decide +kernel
theorem dX3_worthOf_82 : decode cX3_worthOf 82 = .ok (.goto (-77), 3) := by decide +kernel
theorem dX3_worthOf_85 : decode cX3_worthOf 85 = .ok (.iload_n 3, 1) := by decide +kernel
theorem dX3_worthOf_86 : decode cX3_worthOf 86 = .ok (.ireturn, 1) := by decide +kernel
theorem dX3_change_0 : decode cX3_change 0 = .ok (.iconst 0, 1) := by decide +kernel
theorem dX3_change_1 : decode cX3_change 1 = .ok (.istore 4, 2) := by decide +kernel
theorem dX3_change_3 : decode cX3_change 3 = .ok (.iload 4, 2) := by decide +kernel
theorem dX3_change_5 : decode cX3_change 5 = .ok (.aload_n 1, 1) := by decide +kernel
theorem dX3_change_6 : decode cX3_change 6 = .ok (.getfield 18, 3) := by decide +kernel
theorem dX3_change_9 : decode cX3_change 9 = .ok (.arraylength, 1) := by decide +kernel
theorem dX3_change_10 : decode cX3_change 10 = .ok (.if_icmp .ge 57, 3) := by decide +kernel
theorem dX3_change_13 : decode cX3_change 13 = .ok (.aload_n 1, 1) := by decide +kernel
theorem dX3_change_14 : decode cX3_change 14 = .ok (.iload 4, 2) := by decide +kernel
theorem dX3_change_16 : decode cX3_change 16 = .ok (.invokevirtual 21, 3) := by decide +kernel
theorem dX3_change_19 : decode cX3_change 19 = .ok (.istore 5, 2) := by decide +kernel
theorem dX3_change_21 : decode cX3_change 21 = .ok (.iload_n 2, 1) := by decide +kernel
theorem dX3_change_22 : decode cX3_change 22 = .ok (.iload 4, 2) := by decide +kernel
theorem dX3_change_24 : decode cX3_change 24 = .ok (.iadd, 1) := by decide +kernel
theorem dX3_change_25 : decode cX3_change 25 = .ok (.istore 6, 2) := by decide +kernel
theorem dX3_change_27 : decode cX3_change 27 = .ok (.iload 5, 2) := by decide +kernel
theorem dX3_change_29 : decode cX3_change 29 = .ok (.ifCond .eq 32, 3) := by decide +kernel
theorem dX3_change_32 : decode cX3_change 32 = .ok (.aload_n 0, 1) := by decide +kernel
theorem dX3_change_33 : decode cX3_change 33 = .ok (.iload 6, 2) := by decide +kernel
theorem dX3_change_35 : decode cX3_change 35 = .ok (.invokevirtual 25, 3) := by decide +kernel
theorem dX3_change_38 : decode cX3_change 38 = .ok (.ifCond .eq 23, 3) := by decide +kernel
theorem dX3_change_41 : decode cX3_change 41 = .ok (.aload_n 0, 1) := by decide +kernel
theorem dX3_change_42 : decode cX3_change 42 = .ok (.getfield 9, 3) := by decide +kernel
theorem dX3_change_45 : decode cX3_change 45 = .ok (.iload 6, 2) := by decide +kernel
theorem dX3_change_47 : decode cX3_change 47 = .ok (.iload 5, 2) := by decide +kernel
theorem dX3_change_49 : decode cX3_change 49 = .ok (.iastore, 1) := by decide +kernel
theorem dX3_change_50 : decode cX3_change 50 = .ok (.aload_n 0, 1) := by decide +kernel
theorem dX3_change_51 : decode cX3_change 51 = .ok (.getfield 15, 3) := by decide +kernel
theorem dX3_change_54 : decode cX3_change 54 = .ok (.iload 6, 2) := by decide +kernel
theorem dX3_change_56 : decode cX3_change 56 = .ok (.dup2, 1) := by decide +kernel
theorem dX3_change_57 : decode cX3_change 57 = .ok (.iaload, 1) := by decide +kernel
theorem dX3_change_58 : decode cX3_change 58 = .ok (.iload_n 3, 1) := by decide +kernel
theorem dX3_change_59 : decode cX3_change 59 = .ok (.iadd, 1) := by decide +kernel
theorem dX3_change_60 : decode cX3_change 60 = .ok (.iastore, 1) := by decide +kernel
theorem dX3_change_61 : decode cX3_change 61 = .ok (.iinc 4 1, 3) := by decide +kernel
theorem dX3_change_64 : decode cX3_change 64 = .ok (.goto (-61), 3) := by decide +kernel
theorem dX3_change_67 : decode cX3_change 67 = .ok (.return_, 1) := by decide +kernel
theorem dX3_pairsWorth_0 : decode cX3_pairsWorth 0 = .ok (.iconst 0, 1) := by decide +kernel
theorem dX3_pairsWorth_1 : decode cX3_pairsWorth 1 = .ok (.istore_n 1, 1) := by decide +kernel
theorem dX3_pairsWorth_2 : decode cX3_pairsWorth 2 = .ok (.iconst 0, 1) := by decide +kernel
theorem dX3_pairsWorth_3 : decode cX3_pairsWorth 3 = .ok (.istore_n 2, 1) := by decide +kernel
theorem dX3_pairsWorth_4 : decode cX3_pairsWorth 4 = .ok (.iload_n 2, 1) := by decide +kernel
theorem dX3_pairsWorth_5 : decode cX3_pairsWorth 5 = .ok (.aload_n 0, 1) := by decide +kernel
theorem dX3_pairsWorth_6 : decode cX3_pairsWorth 6 = .ok (.getfield 15, 3) := by decide +kernel
theorem dX3_pairsWorth_9 : decode cX3_pairsWorth 9 = .ok (.arraylength, 1) := by decide +kernel
theorem dX3_pairsWorth_10 : decode cX3_pairsWorth 10 = .ok (.if_icmp .ge 27, 3) := by decide +kernel
theorem dX3_pairsWorth_13 : decode cX3_pairsWorth 13 = .ok (.iload_n 1, 1) := by decide +kernel
theorem dX3_pairsWorth_14 : decode cX3_pairsWorth 14 = .ok (.aload_n 0, 1) := by decide +kernel
theorem dX3_pairsWorth_15 : decode cX3_pairsWorth 15 = .ok (.getfield 15, 3) := by decide +kernel
theorem dX3_pairsWorth_18 : decode cX3_pairsWorth 18 = .ok (.iload_n 2, 1) := by decide +kernel
theorem dX3_pairsWorth_19 : decode cX3_pairsWorth 19 = .ok (.iaload, 1) := by decide +kernel
theorem dX3_pairsWorth_20 : decode cX3_pairsWorth 20 = .ok (.aload_n 0, 1) := by decide +kernel
theorem dX3_pairsWorth_21 : decode cX3_pairsWorth 21 = .ok (.getfield 15, 3) := by decide +kernel
theorem dX3_pairsWorth_24 : decode cX3_pairsWorth 24 = .ok (.iload_n 2, 1) := by decide +kernel
theorem dX3_pairsWorth_25 : decode cX3_pairsWorth 25 = .ok (.iaload, 1) := by decide +kernel
theorem dX3_pairsWorth_26 : decode cX3_pairsWorth 26 = .ok (.iconst 1, 1) := by decide +kernel
theorem dX3_pairsWorth_27 : decode cX3_pairsWorth 27 = .ok (.isub, 1) := by decide +kernel
theorem dX3_pairsWorth_28 : decode cX3_pairsWorth 28 = .ok (.imul, 1) := by decide +kernel
theorem dX3_pairsWorth_29 : decode cX3_pairsWorth 29 = .ok (.iadd, 1) := by decide +kernel
theorem dX3_pairsWorth_30 : decode cX3_pairsWorth 30 = .ok (.istore_n 1, 1) := by decide +kernel
theorem dX3_pairsWorth_31 : decode cX3_pairsWorth 31 = .ok (.iinc 2 1, 3) := by decide +kernel
theorem dX3_pairsWorth_34 : decode cX3_pairsWorth 34 = .ok (.goto (-30), 3) := by decide +kernel
theorem dX3_pairsWorth_37 : decode cX3_pairsWorth 37 = .ok (.iload_n 1, 1) := by decide +kernel
theorem dX3_pairsWorth_38 : decode cX3_pairsWorth 38 = .ok (.ireturn, 1) := by decide +kernel
theorem dX4_init_0 : decode cX4_init 0 = .ok (.aload_n 0, 1) := by decide +kernel
theorem dX4_init_1 : decode cX4_init 1 = .ok (.invokespecial 3, 3) := by decide +kernel
theorem dX4_init_4 : decode cX4_init 4 = .ok (.aload_n 0, 1) := by decide +kernel
theorem dX4_init_5 : decode cX4_init 5 = .ok (.sipush 231, 3) := by decide +kernel
theorem dX4_init_8 : decode cX4_init 8 = .ok (.newarray .int, 2) := by decide +kernel
theorem dX4_init_10 : decode cX4_init 10 = .ok (.putfield 11, 3) := by decide +kernel
theorem dX4_init_13 : decode cX4_init 13 = .ok (.aload_n 0, 1) := by decide +kernel
theorem dX4_init_14 : decode cX4_init 14 = .ok (.bipush 11, 2) := by decide +kernel
theorem dX4_init_16 : decode cX4_init 16 = .ok (.newarray .int, 2) := by decide +kernel
theorem dX4_init_18 : decode cX4_init 18 = .ok (.putfield 15, 3) := by decide +kernel
theorem dX4_init_21 : decode cX4_init 21 = .ok (.aload_n 0, 1) := by decide +kernel
theorem dX4_init_22 : decode cX4_init 22 = .ok (.bipush 21, 2) := by decide +kernel
theorem dX4_init_24 : decode cX4_init 24 = .ok (.newarray .int, 2) := by decide +kernel
theorem dX4_init_26 : decode cX4_init 26 = .ok (.putfield 18, 3) := by decide +kernel
theorem dX4_init_29 : decode cX4_init 29 = .ok (.return_, 1) := by decide +kernel
theorem dX4_compare_0 : decode cX4_compare 0 = .ok (.iconst 0, 1) := by decide +kernel
theorem dX4_compare_1 : decode cX4_compare 1 = .ok (.istore_n 3, 1) := by decide +kernel
theorem dX4_compare_2 : decode cX4_compare 2 = .ok (.iload_n 3, 1) := by decide +kernel
theorem dX4_compare_3 : decode cX4_compare 3 = .ok (.bipush 11, 2) := by decide +kernel
theorem dX4_compare_5 : decode cX4_compare 5 = .ok (.if_icmp .ge 73, 3) := by decide +kernel
theorem dX4_compare_8 : decode cX4_compare 8 = .ok (.iload_n 3, 1) := by decide +kernel
theorem dX4_compare_9 : decode cX4_compare 9 = .ok (.iconst 5, 1) := by decide +kernel
theorem dX4_compare_10 : decode cX4_compare 10 = .ok (.isub, 1) := by decide +kernel
theorem dX4_compare_11 : decode cX4_compare 11 = .ok (.istore 4, 2) := by decide +kernel
theorem dX4_compare_13 : decode cX4_compare 13 = .ok (.aload_n 0, 1) := by decide +kernel
theorem dX4_compare_14 : decode cX4_compare 14 = .ok (.getfield 15, 3) := by decide +kernel
theorem dX4_compare_17 : decode cX4_compare 17 = .ok (.iload_n 3, 1) := by decide +kernel
theorem dX4_compare_18 : decode cX4_compare 18 = .ok (.aload_n 1, 1) := by decide +kernel
theorem dX4_compare_19 : decode cX4_compare 19 = .ok (.getfield 21, 3) := by decide +kernel
theorem dX4_compare_22 : decode cX4_compare 22 = .ok (.aload_n 2, 1) := by decide +kernel
theorem dX4_compare_23 : decode cX4_compare 23 = .ok (.getfield 21, 3) := by decide +kernel
theorem dX4_compare_26 : decode cX4_compare 26 = .ok (.iload 4, 2) := by decide +kernel
theorem dX4_compare_28 : decode cX4_compare 28 = .ok (.invokevirtual 27, 3) := by decide +kernel
theorem dX4_compare_31 : decode cX4_compare 31 = .ok (.iastore, 1) := by decide +kernel
theorem dX4_compare_32 : decode cX4_compare 32 = .ok (.iconst 0, 1) := by decide +kernel
theorem dX4_compare_33 : decode cX4_compare 33 = .ok (.istore 5, 2) := by decide +kernel
theorem dX4_compare_35 : decode cX4_compare 35 = .ok (.iload 5, 2) := by decide +kernel
theorem dX4_compare_37 : decode cX4_compare 37 = .ok (.bipush 21, 2) := by decide +kernel
theorem dX4_compare_39 : decode cX4_compare 39 = .ok (.if_icmp .ge 33, 3) := by decide +kernel
theorem dX4_compare_42 : decode cX4_compare 42 = .ok (.aload_n 0, 1) := by decide +kernel
theorem dX4_compare_43 : decode cX4_compare 43 = .ok (.getfield 11, 3) := by decide +kernel
theorem dX4_compare_46 : decode cX4_compare 46 = .ok (.iload_n 3, 1) := by decide +kernel
theorem dX4_compare_47 : decode cX4_compare 47 = .ok (.bipush 21, 2) := by decide +kernel
theorem dX4_compare_49 : decode cX4_compare 49 = .ok (.imul, 1) := by decide +kernel
theorem dX4_compare_50 : decode cX4_compare 50 = .ok (.iload 5, 2) := by decide +kernel
theorem dX4_compare_52 : decode cX4_compare 52 = .ok (.iadd, 1) := by decide +kernel
theorem dX4_compare_53 : decode cX4_compare 53 = .ok (.aload_n 1, 1) := by decide +kernel
theorem dX4_compare_54 : decode cX4_compare 54 = .ok (.aload_n 2, 1) := by decide +kernel
theorem dX4_compare_55 : decode cX4_compare 55 = .ok (.iload 4, 2) := by decide +kernel
theorem dX4_compare_57 : decode cX4_compare 57 = .ok (.iload 5, 2) := by decide +kernel
theorem dX4_compare_59 : decode cX4_compare 59 = .ok (.bipush 10, 2) := by decide +kernel
theorem dX4_compare_61 : decode cX4_compare 61 = .ok (.isub, 1) := by decide +kernel
theorem dX4_compare_62 : decode cX4_compare 62 = .ok (.invokestatic 33, 3) := by decide +kernel
theorem dX4_compare_65 : decode cX4_compare 65 = .ok (.iastore, 1) := by decide +kernel
theorem dX4_compare_66 : decode cX4_compare 66 = .ok (.iinc 5 1, 3) := by decide +kernel
theorem dX4_compare_69 : decode cX4_compare 69 = .ok (.goto (-34), 3) := by decide +kernel
theorem dX4_compare_72 : decode cX4_compare 72 = .ok (.iinc 3 1, 3) := by decide +kernel
theorem dX4_compare_75 : decode cX4_compare 75 = .ok (.goto (-73), 3) := by decide +kernel
theorem dX4_compare_78 : decode cX4_compare 78 = .ok (.iconst 0, 1) := by decide +kernel
theorem dX4_compare_79 : decode cX4_compare 79 = .ok (.istore_n 3, 1) := by decide +kernel
theorem dX4_compare_80 : decode cX4_compare 80 = .ok (.iload_n 3, 1) := by decide +kernel
theorem dX4_compare_81 : decode cX4_compare 81 = .ok (.bipush 21, 2) := by decide +kernel
theorem dX4_compare_83 : decode cX4_compare 83 = .ok (.if_icmp .ge 30, 3) := by decide +kernel
theorem dX4_compare_86 : decode cX4_compare 86 = .ok (.aload_n 0, 1) := by decide +kernel
theorem dX4_compare_87 : decode cX4_compare 87 = .ok (.getfield 18, 3) := by decide +kernel
theorem dX4_compare_90 : decode cX4_compare 90 = .ok (.iload_n 3, 1) := by decide +kernel
theorem dX4_compare_91 : decode cX4_compare 91 = .ok (.aload_n 1, 1) := by decide +kernel
theorem dX4_compare_92 : decode cX4_compare 92 = .ok (.getfield 37, 3) := by decide +kernel
theorem dX4_compare_95 : decode cX4_compare 95 = .ok (.aload_n 2, 1) := by decide +kernel
theorem dX4_compare_96 : decode cX4_compare 96 = .ok (.getfield 37, 3) := by decide +kernel
theorem dX4_compare_99 : decode cX4_compare 99 = .ok (.iload_n 3, 1) := by decide +kernel
theorem dX4_compare_100 : decode cX4_compare 100 = .ok (.bipush 10, 2) := by decide +kernel
theorem dX4_compare_102 : decode cX4_compare 102 = .ok (.isub, 1) := by decide +kernel
theorem dX4_compare_103 : decode cX4_compare 103 = .ok (.invokevirtual 27, 3) := by decide +kernel
theorem dX4_compare_106 : decode cX4_compare 106 = .ok (.iastore, 1) := by decide +kernel
theorem dX4_compare_107 : decode cX4_compare 107 = .ok (.iinc 3 1, 3) := by decide +kernel
theorem dX4_compare_110 : decode cX4_compare 110 = .ok (.goto (-30), 3) := by decide +kernel
theorem dX4_compare_113 : decode cX4_compare 113 = .ok (.return_, 1) := by decide +kernel
theorem dX4_countSides_0 : decode cX4_countSides 0 = .ok (.iconst 0, 1) := by decide +kernel
theorem dX4_countSides_1 : decode cX4_countSides 1 = .ok (.istore 4, 2) := by decide +kernel
theorem dX4_countSides_3 : decode cX4_countSides 3 = .ok (.iconst 0, 1) := by decide +kernel
theorem dX4_countSides_4 : decode cX4_countSides 4 = .ok (.istore 5, 2) := by decide +kernel
theorem dX4_countSides_6 : decode cX4_countSides 6 = .ok (.iload 5, 2) := by decide +kernel
theorem dX4_countSides_8 : decode cX4_countSides 8 = .ok (.aload_n 1, 1) := by decide +kernel
theorem dX4_countSides_9 : decode cX4_countSides 9 = .ok (.getfield 40, 3) := by decide +kernel
theorem dX4_countSides_12 : decode cX4_countSides 12 = .ok (.if_icmp .ge 104, 3) := by decide +kernel
theorem dX4_countSides_15 : decode cX4_countSides 15 = .ok (.aload_n 1, 1) := by decide +kernel
theorem dX4_countSides_16 : decode cX4_countSides 16 = .ok (.getfield 44, 3) := by decide +kernel
theorem dX4_countSides_19 : decode cX4_countSides 19 = .ok (.iload 5, 2) := by decide +kernel
theorem dX4_countSides_21 : decode cX4_countSides 21 = .ok (.iaload, 1) := by decide +kernel
theorem dX4_countSides_22 : decode cX4_countSides 22 = .ok (.iload_n 2, 1) := by decide +kernel
theorem dX4_countSides_23 : decode cX4_countSides 23 = .ok (.iadd, 1) := by decide +kernel
theorem dX4_countSides_24 : decode cX4_countSides 24 = .ok (.istore 6, 2) := by decide +kernel
theorem dX4_countSides_26 : decode cX4_countSides 26 = .ok (.aload_n 1, 1) := by decide +kernel
theorem dX4_countSides_27 : decode cX4_countSides 27 = .ok (.getfield 47, 3) := by decide +kernel
theorem dX4_countSides_30 : decode cX4_countSides 30 = .ok (.iload 5, 2) := by decide +kernel
theorem dX4_countSides_32 : decode cX4_countSides 32 = .ok (.iaload, 1) := by decide +kernel
theorem dX4_countSides_33 : decode cX4_countSides 33 = .ok (.iload_n 3, 1) := by decide +kernel
theorem dX4_countSides_34 : decode cX4_countSides 34 = .ok (.iadd, 1) := by decide +kernel
theorem dX4_countSides_35 : decode cX4_countSides 35 = .ok (.istore 7, 2) := by decide +kernel
theorem dX4_countSides_37 : decode cX4_countSides 37 = .ok (.aload_n 0, 1) := by decide +kernel
theorem dX4_countSides_38 : decode cX4_countSides 38 = .ok (.iload 6, 2) := by decide +kernel
theorem dX4_countSides_40 : decode cX4_countSides 40 = .ok (.iload 7, 2) := by decide +kernel
theorem dX4_countSides_42 : decode cX4_countSides 42 = .ok (.invokevirtual 50, 3) := by decide +kernel
theorem dX4_countSides_45 : decode cX4_countSides 45 = .ok (.ifCond .eq 5, 3) := by decide +kernel
theorem dX4_countSides_48 : decode cX4_countSides 48 = .ok (.iconst (-1), 1) := by decide +kernel
theorem dX4_countSides_49 : decode cX4_countSides 49 = .ok (.ireturn, 1) := by decide +kernel
theorem dX4_countSides_50 : decode cX4_countSides 50 = .ok (.iload 4, 2) := by decide +kernel
theorem dX4_countSides_52 : decode cX4_countSides 52 = .ok (.aload_n 0, 1) := by decide +kernel
theorem dX4_countSides_53 : decode cX4_countSides 53 = .ok (.iload 6, 2) := by decide +kernel
theorem dX4_countSides_55 : decode cX4_countSides 55 = .ok (.iconst 1, 1) := by decide +kernel
theorem dX4_countSides_56 : decode cX4_countSides 56 = .ok (.isub, 1) := by decide +kernel
theorem dX4_countSides_57 : decode cX4_countSides 57 = .ok (.iload 7, 2) := by decide +kernel
theorem dX4_countSides_59 : decode cX4_countSides 59 = .ok (.invokevirtual 50, 3) := by decide +kernel
theorem dX4_countSides_62 : decode cX4_countSides 62 = .ok (.invokestatic 54, 3) := by decide +kernel
theorem dX4_countSides_65 : decode cX4_countSides 65 = .ok (.aload_n 0, 1) := by decide +kernel
theorem dX4_countSides_66 : decode cX4_countSides 66 = .ok (.iload 6, 2) := by decide +kernel
theorem dX4_countSides_68 : decode cX4_countSides 68 = .ok (.iconst 1, 1) := by decide +kernel
theorem dX4_countSides_69 : decode cX4_countSides 69 = .ok (.iadd, 1) := by decide +kernel
theorem dX4_countSides_70 : decode cX4_countSides 70 = .ok (.iload 7, 2) := by decide +kernel
theorem dX4_countSides_72 : decode cX4_countSides 72 = .ok (.invokevirtual 50, 3) := by decide +kernel
theorem dX4_countSides_75 : decode cX4_countSides 75 = .ok (.invokestatic 54, 3) := by decide +kernel
theorem dX4_countSides_78 : decode cX4_countSides 78 = .ok (.iadd, 1) := by decide +kernel
theorem dX4_countSides_79 : decode cX4_countSides 79 = .ok (.aload_n 0, 1) := by decide +kernel
theorem dX4_countSides_80 : decode cX4_countSides 80 = .ok (.iload 6, 2) := by decide +kernel
theorem dX4_countSides_82 : decode cX4_countSides 82 = .ok (.iload 7, 2) := by decide +kernel
theorem dX4_countSides_84 : decode cX4_countSides 84 = .ok (.iconst 1, 1) := by decide +kernel
theorem dX4_countSides_85 : decode cX4_countSides 85 = .ok (.isub, 1) := by decide +kernel
theorem dX4_countSides_86 : decode cX4_countSides 86 = .ok (.invokevirtual 50, 3) := by decide +kernel
theorem dX4_countSides_89 : decode cX4_countSides 89 = .ok (.invokestatic 54, 3) := by decide +kernel
theorem dX4_countSides_92 : decode cX4_countSides 92 = .ok (.iadd, 1) := by decide +kernel
theorem dX4_countSides_93 : decode cX4_countSides 93 = .ok (.aload_n 0, 1) := by decide +kernel
theorem dX4_countSides_94 : decode cX4_countSides 94 = .ok (.iload 6, 2) := by decide +kernel
theorem dX4_countSides_96 : decode cX4_countSides 96 = .ok (.iload 7, 2) := by decide +kernel
theorem dX4_countSides_98 : decode cX4_countSides 98 = .ok (.iconst 1, 1) := by decide +kernel
theorem dX4_countSides_99 : decode cX4_countSides 99 = .ok (.iadd, 1) := by decide +kernel
theorem dX4_countSides_100 : decode cX4_countSides 100 = .ok (.invokevirtual 50, 3) := by decide +kernel
theorem dX4_countSides_103 : decode cX4_countSides 103 = .ok (.invokestatic 54, 3) := by decide +kernel
theorem dX4_countSides_106 : decode cX4_countSides 106 = .ok (.iadd, 1) := by decide +kernel
theorem dX4_countSides_107 : decode cX4_countSides 107 = .ok (.iadd, 1) := by decide +kernel
theorem dX4_countSides_108 : decode cX4_countSides 108 = .ok (.istore 4, 2) := by decide +kernel
theorem dX4_countSides_110 : decode cX4_countSides 110 = .ok (.iinc 5 1, 3) := by decide +kernel
theorem dX4_countSides_113 : decode cX4_countSides 113 = .ok (.goto (-107), 3) := by decide +kernel
theorem dX4_countSides_116 : decode cX4_countSides 116 = .ok (.iload 4, 2) := by decide +kernel
theorem dX4_countSides_118 : decode cX4_countSides 118 = .ok (.ireturn, 1) := by decide +kernel
theorem dX4_one_0 : decode cX4_one 0 = .ok (.iload_n 0, 1) := by decide +kernel
theorem dX4_one_1 : decode cX4_one 1 = .ok (.ifCond .eq 7, 3) := by decide +kernel
theorem dX4_one_4 : decode cX4_one 4 = .ok (.iconst 1, 1) := by decide +kernel
theorem dX4_one_5 : decode cX4_one 5 = .ok (.goto 4, 3) := by decide +kernel
theorem dX4_one_8 : decode cX4_one 8 = .ok (.iconst 0, 1) := by decide +kernel
theorem dX4_one_9 : decode cX4_one 9 = .ok (.ireturn, 1) := by decide +kernel
theorem dX4_sidesAt_0 : decode cX4_sidesAt 0 = .ok (.aload_n 0, 1) := by decide +kernel
theorem dX4_sidesAt_1 : decode cX4_sidesAt 1 = .ok (.iload_n 1, 1) := by decide +kernel
theorem dX4_sidesAt_2 : decode cX4_sidesAt 2 = .ok (.invokevirtual 58, 3) := by decide +kernel
theorem dX4_sidesAt_5 : decode cX4_sidesAt 5 = .ok (.ifCond .eq 30, 3) := by decide +kernel
theorem dX4_sidesAt_8 : decode cX4_sidesAt 8 = .ok (.aload_n 0, 1) := by decide +kernel
theorem dX4_sidesAt_9 : decode cX4_sidesAt 9 = .ok (.iload_n 2, 1) := by decide +kernel
theorem dX4_sidesAt_10 : decode cX4_sidesAt 10 = .ok (.invokevirtual 62, 3) := by decide +kernel
theorem dX4_sidesAt_13 : decode cX4_sidesAt 13 = .ok (.ifCond .eq 22, 3) := by decide +kernel
theorem dX4_sidesAt_16 : decode cX4_sidesAt 16 = .ok (.aload_n 0, 1) := by decide +kernel
theorem dX4_sidesAt_17 : decode cX4_sidesAt 17 = .ok (.getfield 11, 3) := by decide +kernel
theorem dX4_sidesAt_20 : decode cX4_sidesAt 20 = .ok (.iload_n 1, 1) := by decide +kernel
theorem dX4_sidesAt_21 : decode cX4_sidesAt 21 = .ok (.iconst 5, 1) := by decide +kernel
theorem dX4_sidesAt_22 : decode cX4_sidesAt 22 = .ok (.iadd, 1) := by decide +kernel
theorem dX4_sidesAt_23 : decode cX4_sidesAt 23 = .ok (.bipush 21, 2) := by decide +kernel
theorem dX4_sidesAt_25 : decode cX4_sidesAt 25 = .ok (.imul, 1) := by decide +kernel
theorem dX4_sidesAt_26 : decode cX4_sidesAt 26 = .ok (.iload_n 2, 1) := by decide +kernel
theorem dX4_sidesAt_27 : decode cX4_sidesAt 27 = .ok (.iadd, 1) := by decide +kernel
theorem dX4_sidesAt_28 : decode cX4_sidesAt 28 = .ok (.bipush 10, 2) := by decide +kernel
theorem dX4_sidesAt_30 : decode cX4_sidesAt 30 = .ok (.iadd, 1) := by decide +kernel
theorem dX4_sidesAt_31 : decode cX4_sidesAt 31 = .ok (.iaload, 1) := by decide +kernel
theorem dX4_sidesAt_32 : decode cX4_sidesAt 32 = .ok (.goto 4, 3) := by decide +kernel
theorem dX4_sidesAt_35 : decode cX4_sidesAt 35 = .ok (.iconst 0, 1) := by decide +kernel
theorem dX4_sidesAt_36 : decode cX4_sidesAt 36 = .ok (.ireturn, 1) := by decide +kernel
theorem dX4_acrossAt_0 : decode cX4_acrossAt 0 = .ok (.aload_n 0, 1) := by decide +kernel
theorem dX4_acrossAt_1 : decode cX4_acrossAt 1 = .ok (.iload_n 1, 1) := by decide +kernel
theorem dX4_acrossAt_2 : decode cX4_acrossAt 2 = .ok (.invokevirtual 58, 3) := by decide +kernel
theorem dX4_acrossAt_5 : decode cX4_acrossAt 5 = .ok (.ifCond .eq 14, 3) := by decide +kernel
theorem dX4_acrossAt_8 : decode cX4_acrossAt 8 = .ok (.aload_n 0, 1) := by decide +kernel
theorem dX4_acrossAt_9 : decode cX4_acrossAt 9 = .ok (.getfield 15, 3) := by decide +kernel
theorem dX4_acrossAt_12 : decode cX4_acrossAt 12 = .ok (.iload_n 1, 1) := by decide +kernel
theorem dX4_acrossAt_13 : decode cX4_acrossAt 13 = .ok (.iconst 5, 1) := by decide +kernel
theorem dX4_acrossAt_14 : decode cX4_acrossAt 14 = .ok (.iadd, 1) := by decide +kernel
theorem dX4_acrossAt_15 : decode cX4_acrossAt 15 = .ok (.iaload, 1) := by decide +kernel
theorem dX4_acrossAt_16 : decode cX4_acrossAt 16 = .ok (.goto 4, 3) := by decide +kernel
theorem dX4_acrossAt_19 : decode cX4_acrossAt 19 = .ok (.iconst 0, 1) := by decide +kernel
theorem dX4_acrossAt_20 : decode cX4_acrossAt 20 = .ok (.ireturn, 1) := by decide +kernel
theorem dX4_downAt_0 : decode cX4_downAt 0 = .ok (.aload_n 0, 1) := by decide +kernel
theorem dX4_downAt_1 : decode cX4_downAt 1 = .ok (.iload_n 1, 1) := by decide +kernel
theorem dX4_downAt_2 : decode cX4_downAt 2 = .ok (.invokevirtual 62, 3) := by decide +kernel
theorem dX4_downAt_5 : decode cX4_downAt 5 = .ok (.ifCond .eq 15, 3) := by decide +kernel
theorem dX4_downAt_8 : decode cX4_downAt 8 = .ok (.aload_n 0, 1) := by decide +kernel
theorem dX4_downAt_9 : decode cX4_downAt 9 = .ok (.getfield 18, 3) := by decide +kernel
theorem dX4_downAt_12 : decode cX4_downAt 12 = .ok (.iload_n 1, 1) := by decide +kernel
theorem dX4_downAt_13 : decode cX4_downAt 13 = .ok (.bipush 10, 2) := by decide +kernel
theorem dX4_downAt_15 : decode cX4_downAt 15 = .ok (.iadd, 1) := by decide +kernel
theorem dX4_downAt_16 : decode cX4_downAt 16 = .ok (.iaload, 1) := by decide +kernel
theorem dX4_downAt_17 : decode cX4_downAt 17 = .ok (.goto 4, 3) := by decide +kernel
theorem dX4_downAt_20 : decode cX4_downAt 20 = .ok (.iconst 0, 1) := by decide +kernel
theorem dX4_downAt_21 : decode cX4_downAt 21 = .ok (.ireturn, 1) := by decide +kernel
theorem dX4_rowsMeet_0 : decode cX4_rowsMeet 0 = .ok (.iload_n 1, 1) := by decide +kernel
theorem dX4_rowsMeet_1 : decode cX4_rowsMeet 1 = .ok (.bipush (-5), 2) := by decide +kernel
theorem dX4_rowsMeet_3 : decode cX4_rowsMeet 3 = .ok (.if_icmp .lt 12, 3) := by decide +kernel
theorem dX4_rowsMeet_6 : decode cX4_rowsMeet 6 = .ok (.iload_n 1, 1) := by decide +kernel
theorem dX4_rowsMeet_7 : decode cX4_rowsMeet 7 = .ok (.iconst 5, 1) := by decide +kernel
theorem dX4_rowsMeet_8 : decode cX4_rowsMeet 8 = .ok (.if_icmp .gt 7, 3) := by decide +kernel
theorem dX4_rowsMeet_11 : decode cX4_rowsMeet 11 = .ok (.iconst 1, 1) := by decide +kernel
theorem dX4_rowsMeet_12 : decode cX4_rowsMeet 12 = .ok (.goto 4, 3) := by decide +kernel
theorem dX4_rowsMeet_15 : decode cX4_rowsMeet 15 = .ok (.iconst 0, 1) := by decide +kernel
theorem dX4_rowsMeet_16 : decode cX4_rowsMeet 16 = .ok (.ireturn, 1) := by decide +kernel
theorem dX4_columnsMeet_0 : decode cX4_columnsMeet 0 = .ok (.iload_n 1, 1) := by decide +kernel
theorem dX4_columnsMeet_1 : decode cX4_columnsMeet 1 = .ok (.bipush (-10), 2) := by decide +kernel
theorem dX4_columnsMeet_3 : decode cX4_columnsMeet 3 = .ok (.if_icmp .lt 13, 3) := by decide +kernel
theorem dX4_columnsMeet_6 : decode cX4_columnsMeet 6 = .ok (.iload_n 1, 1) := by decide +kernel
theorem dX4_columnsMeet_7 : decode cX4_columnsMeet 7 = .ok (.bipush 10, 2) := by decide +kernel
theorem dX4_columnsMeet_9 : decode cX4_columnsMeet 9 = .ok (.if_icmp .gt 7, 3) := by decide +kernel
theorem dX4_columnsMeet_12 : decode cX4_columnsMeet 12 = .ok (.iconst 1, 1) := by decide +kernel
theorem dX4_columnsMeet_13 : decode cX4_columnsMeet 13 = .ok (.goto 4, 3) := by decide +kernel
theorem dX4_columnsMeet_16 : decode cX4_columnsMeet 16 = .ok (.iconst 0, 1) := by decide +kernel
theorem dX4_columnsMeet_17 : decode cX4_columnsMeet 17 = .ok (.ireturn, 1) := by decide +kernel
theorem dX5_init_0 : decode cX5_init 0 = .ok (.aload_n 0, 1) := by decide +kernel
theorem dX5_init_1 : decode cX5_init 1 = .ok (.invokespecial 3, 3) := by decide +kernel
theorem dX5_init_4 : decode cX5_init 4 = .ok (.aload_n 0, 1) := by decide +kernel
theorem dX5_init_5 : decode cX5_init 5 = .ok (.sipush 512, 3) := by decide +kernel
theorem dX5_init_8 : decode cX5_init 8 = .ok (.newarray .int, 2) := by decide +kernel
theorem dX5_init_10 : decode cX5_init 10 = .ok (.putfield 9, 3) := by decide +kernel
theorem dX5_init_13 : decode cX5_init 13 = .ok (.aload_n 0, 1) := by decide +kernel
theorem dX5_init_14 : decode cX5_init 14 = .ok (.sipush 512, 3) := by decide +kernel
theorem dX5_init_17 : decode cX5_init 17 = .ok (.newarray .int, 2) := by decide +kernel
theorem dX5_init_19 : decode cX5_init 19 = .ok (.putfield 15, 3) := by decide +kernel
theorem dX5_init_22 : decode cX5_init 22 = .ok (.aload_n 0, 1) := by decide +kernel
theorem dX5_init_23 : decode cX5_init 23 = .ok (.sipush 512, 3) := by decide +kernel
theorem dX5_init_26 : decode cX5_init 26 = .ok (.newarray .int, 2) := by decide +kernel
theorem dX5_init_28 : decode cX5_init 28 = .ok (.putfield 18, 3) := by decide +kernel
theorem dX5_init_31 : decode cX5_init 31 = .ok (.aload_n 0, 1) := by decide +kernel
theorem dX5_init_32 : decode cX5_init 32 = .ok (.sipush 512, 3) := by decide +kernel
theorem dX5_init_35 : decode cX5_init 35 = .ok (.newarray .boolean, 2) := by decide +kernel
theorem dX5_init_37 : decode cX5_init 37 = .ok (.putfield 21, 3) := by decide +kernel
theorem dX5_init_40 : decode cX5_init 40 = .ok (.return_, 1) := by decide +kernel
theorem dX5_collect_0 : decode cX5_collect 0 = .ok (.aload_n 0, 1) := by decide +kernel
theorem dX5_collect_1 : decode cX5_collect 1 = .ok (.iconst 0, 1) := by decide +kernel
theorem dX5_collect_2 : decode cX5_collect 2 = .ok (.putfield 25, 3) := by decide +kernel
theorem dX5_collect_5 : decode cX5_collect 5 = .ok (.aload_n 3, 1) := by decide +kernel
theorem dX5_collect_6 : decode cX5_collect 6 = .ok (.aload 4, 2) := by decide +kernel
theorem dX5_collect_8 : decode cX5_collect 8 = .ok (.invokevirtual 29, 3) := by decide +kernel
theorem dX5_collect_11 : decode cX5_collect 11 = .ok (.ifCond .ne 4, 3) := by decide +kernel
theorem dX5_collect_14 : decode cX5_collect 14 = .ok (.return_, 1) := by decide +kernel
theorem dX5_collect_15 : decode cX5_collect 15 = .ok (.bipush (-4), 2) := by decide +kernel
theorem dX5_collect_17 : decode cX5_collect 17 = .ok (.istore 5, 2) := by decide +kernel
theorem dX5_collect_19 : decode cX5_collect 19 = .ok (.iload 5, 2) := by decide +kernel
theorem dX5_collect_21 : decode cX5_collect 21 = .ok (.bipush 16, 2) := by decide +kernel
theorem dX5_collect_23 : decode cX5_collect 23 = .ok (.if_icmp .ge 118, 3) := by decide +kernel
theorem dX5_collect_26 : decode cX5_collect 26 = .ok (.bipush (-9), 2) := by decide +kernel
theorem dX5_collect_28 : decode cX5_collect 28 = .ok (.istore 6, 2) := by decide +kernel
theorem dX5_collect_30 : decode cX5_collect 30 = .ok (.iload 6, 2) := by decide +kernel
theorem dX5_collect_32 : decode cX5_collect 32 = .ok (.bipush 32, 2) := by decide +kernel
theorem dX5_collect_34 : decode cX5_collect 34 = .ok (.if_icmp .ge 101, 3) := by decide +kernel
theorem dX5_collect_37 : decode cX5_collect 37 = .ok (.aload_n 3, 1) := by decide +kernel
theorem dX5_collect_38 : decode cX5_collect 38 = .ok (.aload_n 1, 1) := by decide +kernel
theorem dX5_collect_39 : decode cX5_collect 39 = .ok (.iload 5, 2) := by decide +kernel
theorem dX5_collect_41 : decode cX5_collect 41 = .ok (.iload 6, 2) := by decide +kernel
theorem dX5_collect_43 : decode cX5_collect 43 = .ok (.invokevirtual 35, 3) := by decide +kernel
theorem dX5_collect_46 : decode cX5_collect 46 = .ok (.ifCond .ne 6, 3) := by decide +kernel
theorem dX5_collect_49 : decode cX5_collect 49 = .ok (.goto 80, 3) := by decide +kernel
theorem dX5_collect_52 : decode cX5_collect 52 = .ok (.aload_n 3, 1) := by decide +kernel
theorem dX5_collect_53 : decode cX5_collect 53 = .ok (.aload_n 1, 1) := by decide +kernel
theorem dX5_collect_54 : decode cX5_collect 54 = .ok (.iload 5, 2) := by decide +kernel
theorem dX5_collect_56 : decode cX5_collect 56 = .ok (.iload 6, 2) := by decide +kernel
theorem dX5_collect_58 : decode cX5_collect 58 = .ok (.invokevirtual 39, 3) := by decide +kernel
theorem dX5_collect_61 : decode cX5_collect 61 = .ok (.istore 7, 2) := by decide +kernel
theorem dX5_collect_63 : decode cX5_collect 63 = .ok (.aload_n 3, 1) := by decide +kernel
theorem dX5_collect_64 : decode cX5_collect 64 = .ok (.aload_n 1, 1) := by decide +kernel
theorem dX5_collect_65 : decode cX5_collect 65 = .ok (.iload 5, 2) := by decide +kernel
theorem dX5_collect_67 : decode cX5_collect 67 = .ok (.iload 6, 2) := by decide +kernel
theorem dX5_collect_69 : decode cX5_collect 69 = .ok (.invokevirtual 43, 3) := by decide +kernel
theorem dX5_collect_72 : decode cX5_collect 72 = .ok (.istore 8, 2) := by decide +kernel
theorem dX5_collect_74 : decode cX5_collect 74 = .ok (.iload 8, 2) := by decide +kernel
theorem dX5_collect_76 : decode cX5_collect 76 = .ok (.iconst (-1), 1) := by decide +kernel
theorem dX5_collect_77 : decode cX5_collect 77 = .ok (.if_icmp .eq 52, 3) := by decide +kernel
theorem dX5_collect_80 : decode cX5_collect 80 = .ok (.iload_n 2, 1) := by decide +kernel
theorem dX5_collect_81 : decode cX5_collect 81 = .ok (.ifCond .eq 11, 3) := by decide +kernel
theorem dX5_collect_84 : decode cX5_collect 84 = .ok (.iload 7, 2) := by decide +kernel
theorem dX5_collect_86 : decode cX5_collect 86 = .ok (.ifCond .ne 6, 3) := by decide +kernel
theorem dX5_collect_89 : decode cX5_collect 89 = .ok (.goto 40, 3) := by decide +kernel
theorem dX5_collect_92 : decode cX5_collect 92 = .ok (.aload_n 3, 1) := by decide +kernel
theorem dX5_collect_93 : decode cX5_collect 93 = .ok (.aload_n 1, 1) := by decide +kernel
theorem dX5_collect_94 : decode cX5_collect 94 = .ok (.iload 5, 2) := by decide +kernel
theorem dX5_collect_96 : decode cX5_collect 96 = .ok (.iload 6, 2) := by decide +kernel
theorem dX5_collect_98 : decode cX5_collect 98 = .ok (.aload 4, 2) := by decide +kernel
theorem dX5_collect_100 : decode cX5_collect 100 = .ok (.invokevirtual 46, 3) := by decide +kernel
theorem dX5_collect_103 : decode cX5_collect 103 = .ok (.ifCond .eq 26, 3) := by decide +kernel
theorem dX5_collect_106 : decode cX5_collect 106 = .ok (.aload_n 0, 1) := by decide +kernel
theorem dX5_collect_107 : decode cX5_collect 107 = .ok (.iload 5, 2) := by decide +kernel
theorem dX5_collect_109 : decode cX5_collect 109 = .ok (.iload 6, 2) := by decide +kernel
theorem dX5_collect_111 : decode cX5_collect 111 = .ok (.iload 8, 2) := by decide +kernel
theorem dX5_collect_113 : decode cX5_collect 113 = .ok (.iload 7, 2) := by decide +kernel
theorem dX5_collect_115 : decode cX5_collect 115 = .ok (.iadd, 1) := by decide +kernel
theorem dX5_collect_116 : decode cX5_collect 116 = .ok (.iload 7, 2) := by decide +kernel
theorem dX5_collect_118 : decode cX5_collect 118 = .ok (.ifCond .le 7, 3) := by decide +kernel
theorem dX5_collect_121 : decode cX5_collect 121 = .ok (.iconst 1, 1) := by decide +kernel
theorem dX5_collect_122 : decode cX5_collect 122 = .ok (.goto 4, 3) := by decide +kernel
theorem dX5_collect_125 : decode cX5_collect 125 = .ok (.iconst 0, 1) := by decide +kernel
theorem dX5_collect_126 : decode cX5_collect 126 = .ok (.invokevirtual 50, 3) := by decide +kernel
theorem dX5_collect_129 : decode cX5_collect 129 = .ok (.iinc 6 1, 3) := by decide +kernel
theorem dX5_collect_132 : decode cX5_collect 132 = .ok (.goto (-102), 3) := by decide +kernel
theorem dX5_collect_135 : decode cX5_collect 135 = .ok (.iinc 5 1, 3) := by decide +kernel
theorem dX5_collect_138 : decode cX5_collect 138 = .ok (.goto (-119), 3) := by decide +kernel
theorem dX5_collect_141 : decode cX5_collect 141 = .ok (.return_, 1) := by decide +kernel
theorem dX5_add_0 : decode cX5_add 0 = .ok (.aload_n 0, 1) := by decide +kernel
theorem dX5_add_1 : decode cX5_add 1 = .ok (.getfield 25, 3) := by decide +kernel
theorem dX5_add_4 : decode cX5_add 4 = .ok (.sipush 512, 3) := by decide +kernel
theorem dX5_add_7 : decode cX5_add 7 = .ok (.if_icmp .ge 54, 3) := by decide +kernel
theorem dX5_add_10 : decode cX5_add 10 = .ok (.aload_n 0, 1) := by decide +kernel
theorem dX5_add_11 : decode cX5_add 11 = .ok (.getfield 9, 3) := by decide +kernel
theorem dX5_add_14 : decode cX5_add 14 = .ok (.aload_n 0, 1) := by decide +kernel
theorem dX5_add_15 : decode cX5_add 15 = .ok (.getfield 25, 3) := by decide +kernel
theorem dX5_add_18 : decode cX5_add 18 = .ok (.iload_n 1, 1) := by decide +kernel
theorem dX5_add_19 : decode cX5_add 19 = .ok (.iastore, 1) := by decide +kernel
theorem dX5_add_20 : decode cX5_add 20 = .ok (.aload_n 0, 1) := by decide +kernel
theorem dX5_add_21 : decode cX5_add 21 = .ok (.getfield 15, 3) := by decide +kernel
theorem dX5_add_24 : decode cX5_add 24 = .ok (.aload_n 0, 1) := by decide +kernel
theorem dX5_add_25 : decode cX5_add 25 = .ok (.getfield 25, 3) := by decide +kernel
theorem dX5_add_28 : decode cX5_add 28 = .ok (.iload_n 2, 1) := by decide +kernel
theorem dX5_add_29 : decode cX5_add 29 = .ok (.iastore, 1) := by decide +kernel
theorem dX5_add_30 : decode cX5_add 30 = .ok (.aload_n 0, 1) := by decide +kernel
theorem dX5_add_31 : decode cX5_add 31 = .ok (.getfield 18, 3) := by decide +kernel
theorem dX5_add_34 : decode cX5_add 34 = .ok (.aload_n 0, 1) := by decide +kernel
theorem dX5_add_35 : decode cX5_add 35 = .ok (.getfield 25, 3) := by decide +kernel
theorem dX5_add_38 : decode cX5_add 38 = .ok (.iload_n 3, 1) := by decide +kernel
theorem dX5_add_39 : decode cX5_add 39 = .ok (.iastore, 1) := by decide +kernel
theorem dX5_add_40 : decode cX5_add 40 = .ok (.aload_n 0, 1) := by decide +kernel
theorem dX5_add_41 : decode cX5_add 41 = .ok (.getfield 21, 3) := by decide +kernel
theorem dX5_add_44 : decode cX5_add 44 = .ok (.aload_n 0, 1) := by decide +kernel
theorem dX5_add_45 : decode cX5_add 45 = .ok (.getfield 25, 3) := by decide +kernel
theorem dX5_add_48 : decode cX5_add 48 = .ok (.iload 4, 2) := by decide +kernel
theorem dX5_add_50 : decode cX5_add 50 = .ok (.bastore, 1) := by decide +kernel
theorem dX5_add_51 : decode cX5_add 51 = .ok (.aload_n 0, 1) := by decide +kernel
theorem dX5_add_52 : decode cX5_add 52 = .ok (.dup, 1) := by decide +kernel
theorem dX5_add_53 : decode cX5_add 53 = .ok (.getfield 25, 3) := by decide +kernel
theorem dX5_add_56 : decode cX5_add 56 = .ok (.iconst 1, 1) := by decide +kernel
theorem dX5_add_57 : decode cX5_add 57 = .ok (.iadd, 1) := by decide +kernel
theorem dX5_add_58 : decode cX5_add 58 = .ok (.putfield 25, 3) := by decide +kernel
theorem dX5_add_61 : decode cX5_add 61 = .ok (.return_, 1) := by decide +kernel
theorem dX5_best_0 : decode cX5_best 0 = .ok (.iconst (-1), 1) := by decide +kernel
theorem dX5_best_1 : decode cX5_best 1 = .ok (.istore_n 1, 1) := by decide +kernel
theorem dX5_best_2 : decode cX5_best 2 = .ok (.iconst 0, 1) := by decide +kernel
theorem dX5_best_3 : decode cX5_best 3 = .ok (.istore_n 2, 1) := by decide +kernel
theorem dX5_best_4 : decode cX5_best 4 = .ok (.iload_n 2, 1) := by decide +kernel
theorem dX5_best_5 : decode cX5_best 5 = .ok (.aload_n 0, 1) := by decide +kernel
theorem dX5_best_6 : decode cX5_best 6 = .ok (.getfield 25, 3) := by decide +kernel
theorem dX5_best_9 : decode cX5_best 9 = .ok (.if_icmp .ge 31, 3) := by decide +kernel
theorem dX5_best_12 : decode cX5_best 12 = .ok (.iload_n 1, 1) := by decide +kernel
theorem dX5_best_13 : decode cX5_best 13 = .ok (.iconst (-1), 1) := by decide +kernel
theorem dX5_best_14 : decode cX5_best 14 = .ok (.if_icmp .eq 18, 3) := by decide +kernel
theorem dX5_best_17 : decode cX5_best 17 = .ok (.aload_n 0, 1) := by decide +kernel
theorem dX5_best_18 : decode cX5_best 18 = .ok (.getfield 18, 3) := by decide +kernel
theorem dX5_best_21 : decode cX5_best 21 = .ok (.iload_n 2, 1) := by decide +kernel
theorem dX5_best_22 : decode cX5_best 22 = .ok (.iaload, 1) := by decide +kernel
theorem dX5_best_23 : decode cX5_best 23 = .ok (.aload_n 0, 1) := by decide +kernel
theorem dX5_best_24 : decode cX5_best 24 = .ok (.getfield 18, 3) := by decide +kernel
theorem dX5_best_27 : decode cX5_best 27 = .ok (.iload_n 1, 1) := by decide +kernel
theorem dX5_best_28 : decode cX5_best 28 = .ok (.iaload, 1) := by decide +kernel
theorem dX5_best_29 : decode cX5_best 29 = .ok (.if_icmp .le 5, 3) := by decide +kernel
theorem dX5_best_32 : decode cX5_best 32 = .ok (.iload_n 2, 1) := by decide +kernel
theorem dX5_best_33 : decode cX5_best 33 = .ok (.istore_n 1, 1) := by decide +kernel
theorem dX5_best_34 : decode cX5_best 34 = .ok (.iinc 2 1, 3) := by decide +kernel
theorem dX5_best_37 : decode cX5_best 37 = .ok (.goto (-33), 3) := by decide +kernel
theorem dX5_best_40 : decode cX5_best 40 = .ok (.iload_n 1, 1) := by decide +kernel
theorem dX5_best_41 : decode cX5_best 41 = .ok (.ireturn, 1) := by decide +kernel
theorem dX5_listTouching_0 : decode cX5_listTouching 0 = .ok (.iconst 0, 1) := by decide +kernel
theorem dX5_listTouching_1 : decode cX5_listTouching 1 = .ok (.istore_n 2, 1) := by decide +kernel
theorem dX5_listTouching_2 : decode cX5_listTouching 2 = .ok (.iconst 0, 1) := by decide +kernel
theorem dX5_listTouching_3 : decode cX5_listTouching 3 = .ok (.istore_n 3, 1) := by decide +kernel
theorem dX5_listTouching_4 : decode cX5_listTouching 4 = .ok (.iload_n 3, 1) := by decide +kernel
theorem dX5_listTouching_5 : decode cX5_listTouching 5 = .ok (.aload_n 0, 1) := by decide +kernel
theorem dX5_listTouching_6 : decode cX5_listTouching 6 = .ok (.getfield 25, 3) := by decide +kernel
theorem dX5_listTouching_9 : decode cX5_listTouching 9 = .ok (.if_icmp .ge 31, 3) := by decide +kernel
theorem dX5_listTouching_12 : decode cX5_listTouching 12 = .ok (.iload_n 2, 1) := by decide +kernel
theorem dX5_listTouching_13 : decode cX5_listTouching 13 = .ok (.aload_n 1, 1) := by decide +kernel
theorem dX5_listTouching_14 : decode cX5_listTouching 14 = .ok (.arraylength, 1) := by decide +kernel
theorem dX5_listTouching_15 : decode cX5_listTouching 15 = .ok (.if_icmp .ge 25, 3) := by decide +kernel
theorem dX5_listTouching_18 : decode cX5_listTouching 18 = .ok (.aload_n 0, 1) := by decide +kernel
theorem dX5_listTouching_19 : decode cX5_listTouching 19 = .ok (.getfield 21, 3) := by decide +kernel
theorem dX5_listTouching_22 : decode cX5_listTouching 22 = .ok (.iload_n 3, 1) := by decide +kernel
theorem dX5_listTouching_23 : decode cX5_listTouching 23 = .ok (.baload, 1) := by decide +kernel
theorem dX5_listTouching_24 : decode cX5_listTouching 24 = .ok (.ifCond .eq 10, 3) := by decide +kernel
theorem dX5_listTouching_27 : decode cX5_listTouching 27 = .ok (.aload_n 1, 1) := by decide +kernel
theorem dX5_listTouching_28 : decode cX5_listTouching 28 = .ok (.iload_n 2, 1) := by decide +kernel
theorem dX5_listTouching_29 : decode cX5_listTouching 29 = .ok (.iload_n 3, 1) := by decide +kernel
theorem dX5_listTouching_30 : decode cX5_listTouching 30 = .ok (.iastore, 1) := by decide +kernel
theorem dX5_listTouching_31 : decode cX5_listTouching 31 = .ok (.iinc 2 1, 3) := by decide +kernel
theorem dX5_listTouching_34 : decode cX5_listTouching 34 = .ok (.iinc 3 1, 3) := by decide +kernel
theorem dX5_listTouching_37 : decode cX5_listTouching 37 = .ok (.goto (-33), 3) := by decide +kernel
theorem dX5_listTouching_40 : decode cX5_listTouching 40 = .ok (.iload_n 2, 1) := by decide +kernel
theorem dX5_listTouching_41 : decode cX5_listTouching 41 = .ok (.ireturn, 1) := by decide +kernel
theorem dX6_init_0 : decode cX6_init 0 = .ok (.aload_n 0, 1) := by decide +kernel
theorem dX6_init_1 : decode cX6_init 1 = .ok (.invokespecial 3, 3) := by decide +kernel
theorem dX6_init_4 : decode cX6_init 4 = .ok (.aload_n 0, 1) := by decide +kernel
theorem dX6_init_5 : decode cX6_init 5 = .ok (.bipush 40, 2) := by decide +kernel
theorem dX6_init_7 : decode cX6_init 7 = .ok (.newarray .int, 2) := by decide +kernel
theorem dX6_init_9 : decode cX6_init 9 = .ok (.putfield 9, 3) := by decide +kernel
theorem dX6_init_12 : decode cX6_init 12 = .ok (.return_, 1) := by decide +kernel
theorem dX6_bore_0 : decode cX6_bore 0 = .ok (.aload_n 0, 1) := by decide +kernel
theorem dX6_bore_1 : decode cX6_bore 1 = .ok (.getfield 9, 3) := by decide +kernel
theorem dX6_bore_4 : decode cX6_bore 4 = .ok (.iconst 0, 1) := by decide +kernel
theorem dX6_bore_5 : decode cX6_bore 5 = .ok (.iconst 0, 1) := by decide +kernel
theorem dX6_bore_6 : decode cX6_bore 6 = .ok (.iastore, 1) := by decide +kernel
theorem dX6_bore_7 : decode cX6_bore 7 = .ok (.aload_n 0, 1) := by decide +kernel
theorem dX6_bore_8 : decode cX6_bore 8 = .ok (.iconst 1, 1) := by decide +kernel
theorem dX6_bore_9 : decode cX6_bore 9 = .ok (.putfield 15, 3) := by decide +kernel
theorem dX6_bore_12 : decode cX6_bore 12 = .ok (.iload_n 1, 1) := by decide +kernel
theorem dX6_bore_13 : decode cX6_bore 13 = .ok (.istore_n 3, 1) := by decide +kernel
theorem dX6_bore_14 : decode cX6_bore 14 = .ok (.iload_n 3, 1) := by decide +kernel
theorem dX6_bore_15 : decode cX6_bore 15 = .ok (.iconst 1, 1) := by decide +kernel
theorem dX6_bore_16 : decode cX6_bore 16 = .ok (.if_icmp .lt 51, 3) := by decide +kernel
theorem dX6_bore_19 : decode cX6_bore 19 = .ok (.aload_n 0, 1) := by decide +kernel
theorem dX6_bore_20 : decode cX6_bore 20 = .ok (.getfield 15, 3) := by decide +kernel
theorem dX6_bore_23 : decode cX6_bore 23 = .ok (.bipush 40, 2) := by decide +kernel
theorem dX6_bore_25 : decode cX6_bore 25 = .ok (.if_icmp .ge 42, 3) := by decide +kernel
theorem dX6_bore_28 : decode cX6_bore 28 = .ok (.aload_n 0, 1) := by decide +kernel
theorem dX6_bore_29 : decode cX6_bore 29 = .ok (.getfield 9, 3) := by decide +kernel
theorem dX6_bore_32 : decode cX6_bore 32 = .ok (.aload_n 0, 1) := by decide +kernel
theorem dX6_bore_33 : decode cX6_bore 33 = .ok (.getfield 15, 3) := by decide +kernel
theorem dX6_bore_36 : decode cX6_bore 36 = .ok (.aload_n 0, 1) := by decide +kernel
theorem dX6_bore_37 : decode cX6_bore 37 = .ok (.getfield 9, 3) := by decide +kernel
theorem dX6_bore_40 : decode cX6_bore 40 = .ok (.aload_n 0, 1) := by decide +kernel
theorem dX6_bore_41 : decode cX6_bore 41 = .ok (.getfield 15, 3) := by decide +kernel
theorem dX6_bore_44 : decode cX6_bore 44 = .ok (.iconst 1, 1) := by decide +kernel
theorem dX6_bore_45 : decode cX6_bore 45 = .ok (.isub, 1) := by decide +kernel
theorem dX6_bore_46 : decode cX6_bore 46 = .ok (.iaload, 1) := by decide +kernel
theorem dX6_bore_47 : decode cX6_bore 47 = .ok (.iload_n 3, 1) := by decide +kernel
theorem dX6_bore_48 : decode cX6_bore 48 = .ok (.iadd, 1) := by decide +kernel
theorem dX6_bore_49 : decode cX6_bore 49 = .ok (.iastore, 1) := by decide +kernel
theorem dX6_bore_50 : decode cX6_bore 50 = .ok (.aload_n 0, 1) := by decide +kernel
theorem dX6_bore_51 : decode cX6_bore 51 = .ok (.dup, 1) := by decide +kernel
theorem dX6_bore_52 : decode cX6_bore 52 = .ok (.getfield 15, 3) := by decide +kernel
theorem dX6_bore_55 : decode cX6_bore 55 = .ok (.iconst 1, 1) := by decide +kernel
theorem dX6_bore_56 : decode cX6_bore 56 = .ok (.iadd, 1) := by decide +kernel
theorem dX6_bore_57 : decode cX6_bore 57 = .ok (.putfield 15, 3) := by decide +kernel
theorem dX6_bore_60 : decode cX6_bore 60 = .ok (.iload_n 3, 1) := by decide +kernel
theorem dX6_bore_61 : decode cX6_bore 61 = .ok (.iload_n 2, 1) := by decide +kernel
theorem dX6_bore_62 : decode cX6_bore 62 = .ok (.isub, 1) := by decide +kernel
theorem dX6_bore_63 : decode cX6_bore 63 = .ok (.istore_n 3, 1) := by decide +kernel
theorem dX6_bore_64 : decode cX6_bore 64 = .ok (.goto (-50), 3) := by decide +kernel
theorem dX6_bore_67 : decode cX6_bore 67 = .ok (.return_, 1) := by decide +kernel
theorem dX6_stoodBy_0 : decode cX6_stoodBy 0 = .ok (.aload_n 0, 1) := by decide +kernel
theorem dX6_stoodBy_1 : decode cX6_stoodBy 1 = .ok (.getfield 9, 3) := by decide +kernel
theorem dX6_stoodBy_4 : decode cX6_stoodBy 4 = .ok (.iload_n 2, 1) := by decide +kernel
theorem dX6_stoodBy_5 : decode cX6_stoodBy 5 = .ok (.iaload, 1) := by decide +kernel
theorem dX6_stoodBy_6 : decode cX6_stoodBy 6 = .ok (.aload_n 1, 1) := by decide +kernel
theorem dX6_stoodBy_7 : decode cX6_stoodBy 7 = .ok (.getfield 19, 3) := by decide +kernel
theorem dX6_stoodBy_10 : decode cX6_stoodBy 10 = .ok (.iconst 0, 1) := by decide +kernel
theorem dX6_stoodBy_11 : decode cX6_stoodBy 11 = .ok (.iaload, 1) := by decide +kernel
theorem dX6_stoodBy_12 : decode cX6_stoodBy 12 = .ok (.isub, 1) := by decide +kernel
theorem dX6_stoodBy_13 : decode cX6_stoodBy 13 = .ok (.istore_n 3, 1) := by decide +kernel
theorem dX6_stoodBy_14 : decode cX6_stoodBy 14 = .ok (.iload_n 3, 1) := by decide +kernel
theorem dX6_stoodBy_15 : decode cX6_stoodBy 15 = .ok (.ifCond .lt 19, 3) := by decide +kernel
theorem dX6_stoodBy_18 : decode cX6_stoodBy 18 = .ok (.iload_n 2, 1) := by decide +kernel
theorem dX6_stoodBy_19 : decode cX6_stoodBy 19 = .ok (.ifCond .le 17, 3) := by decide +kernel
theorem dX6_stoodBy_22 : decode cX6_stoodBy 22 = .ok (.aload_n 0, 1) := by decide +kernel
theorem dX6_stoodBy_23 : decode cX6_stoodBy 23 = .ok (.getfield 9, 3) := by decide +kernel
theorem dX6_stoodBy_26 : decode cX6_stoodBy 26 = .ok (.iload_n 2, 1) := by decide +kernel
theorem dX6_stoodBy_27 : decode cX6_stoodBy 27 = .ok (.iconst 1, 1) := by decide +kernel
theorem dX6_stoodBy_28 : decode cX6_stoodBy 28 = .ok (.isub, 1) := by decide +kernel
theorem dX6_stoodBy_29 : decode cX6_stoodBy 29 = .ok (.iaload, 1) := by decide +kernel
theorem dX6_stoodBy_30 : decode cX6_stoodBy 30 = .ok (.iload_n 3, 1) := by decide +kernel
theorem dX6_stoodBy_31 : decode cX6_stoodBy 31 = .ok (.if_icmp .lt 5, 3) := by decide +kernel
theorem dX6_stoodBy_34 : decode cX6_stoodBy 34 = .ok (.iconst 0, 1) := by decide +kernel
theorem dX6_stoodBy_35 : decode cX6_stoodBy 35 = .ok (.ireturn, 1) := by decide +kernel
theorem dX6_stoodBy_36 : decode cX6_stoodBy 36 = .ok (.iconst 0, 1) := by decide +kernel
theorem dX6_stoodBy_37 : decode cX6_stoodBy 37 = .ok (.istore 4, 2) := by decide +kernel
theorem dX6_stoodBy_39 : decode cX6_stoodBy 39 = .ok (.iload 4, 2) := by decide +kernel
theorem dX6_stoodBy_41 : decode cX6_stoodBy 41 = .ok (.aload_n 1, 1) := by decide +kernel
theorem dX6_stoodBy_42 : decode cX6_stoodBy 42 = .ok (.getfield 24, 3) := by decide +kernel
theorem dX6_stoodBy_45 : decode cX6_stoodBy 45 = .ok (.if_icmp .ge 45, 3) := by decide +kernel
theorem dX6_stoodBy_48 : decode cX6_stoodBy 48 = .ok (.iload_n 2, 1) := by decide +kernel
theorem dX6_stoodBy_49 : decode cX6_stoodBy 49 = .ok (.iload 4, 2) := by decide +kernel
theorem dX6_stoodBy_51 : decode cX6_stoodBy 51 = .ok (.iadd, 1) := by decide +kernel
theorem dX6_stoodBy_52 : decode cX6_stoodBy 52 = .ok (.istore 5, 2) := by decide +kernel
theorem dX6_stoodBy_54 : decode cX6_stoodBy 54 = .ok (.iload 5, 2) := by decide +kernel
theorem dX6_stoodBy_56 : decode cX6_stoodBy 56 = .ok (.aload_n 0, 1) := by decide +kernel
theorem dX6_stoodBy_57 : decode cX6_stoodBy 57 = .ok (.getfield 15, 3) := by decide +kernel
theorem dX6_stoodBy_60 : decode cX6_stoodBy 60 = .ok (.if_icmp .ge 22, 3) := by decide +kernel
theorem dX6_stoodBy_63 : decode cX6_stoodBy 63 = .ok (.aload_n 0, 1) := by decide +kernel
theorem dX6_stoodBy_64 : decode cX6_stoodBy 64 = .ok (.getfield 9, 3) := by decide +kernel
theorem dX6_stoodBy_67 : decode cX6_stoodBy 67 = .ok (.iload 5, 2) := by decide +kernel
theorem dX6_stoodBy_69 : decode cX6_stoodBy 69 = .ok (.iaload, 1) := by decide +kernel
theorem dX6_stoodBy_70 : decode cX6_stoodBy 70 = .ok (.iload_n 3, 1) := by decide +kernel
theorem dX6_stoodBy_71 : decode cX6_stoodBy 71 = .ok (.aload_n 1, 1) := by decide +kernel
theorem dX6_stoodBy_72 : decode cX6_stoodBy 72 = .ok (.getfield 19, 3) := by decide +kernel
theorem dX6_stoodBy_75 : decode cX6_stoodBy 75 = .ok (.iload 4, 2) := by decide +kernel
theorem dX6_stoodBy_77 : decode cX6_stoodBy 77 = .ok (.iaload, 1) := by decide +kernel
theorem dX6_stoodBy_78 : decode cX6_stoodBy 78 = .ok (.iadd, 1) := by decide +kernel
theorem dX6_stoodBy_79 : decode cX6_stoodBy 79 = .ok (.if_icmp .eq 5, 3) := by decide +kernel
theorem dX6_stoodBy_82 : decode cX6_stoodBy 82 = .ok (.iconst 0, 1) := by decide +kernel
theorem dX6_stoodBy_83 : decode cX6_stoodBy 83 = .ok (.ireturn, 1) := by decide +kernel
theorem dX6_stoodBy_84 : decode cX6_stoodBy 84 = .ok (.iinc 4 1, 3) := by decide +kernel
theorem dX6_stoodBy_87 : decode cX6_stoodBy 87 = .ok (.goto (-48), 3) := by decide +kernel
theorem dX6_stoodBy_90 : decode cX6_stoodBy 90 = .ok (.iconst 1, 1) := by decide +kernel
theorem dX6_stoodBy_91 : decode cX6_stoodBy 91 = .ok (.ireturn, 1) := by decide +kernel
theorem dX6_countPlaces_0 : decode cX6_countPlaces 0 = .ok (.iconst 0, 1) := by decide +kernel
theorem dX6_countPlaces_1 : decode cX6_countPlaces 1 = .ok (.istore_n 2, 1) := by decide +kernel
theorem dX6_countPlaces_2 : decode cX6_countPlaces 2 = .ok (.iconst 0, 1) := by decide +kernel
theorem dX6_countPlaces_3 : decode cX6_countPlaces 3 = .ok (.istore_n 3, 1) := by decide +kernel
theorem dX6_countPlaces_4 : decode cX6_countPlaces 4 = .ok (.iload_n 3, 1) := by decide +kernel
theorem dX6_countPlaces_5 : decode cX6_countPlaces 5 = .ok (.aload_n 0, 1) := by decide +kernel
theorem dX6_countPlaces_6 : decode cX6_countPlaces 6 = .ok (.getfield 15, 3) := by decide +kernel
theorem dX6_countPlaces_9 : decode cX6_countPlaces 9 = .ok (.if_icmp .ge 21, 3) := by decide +kernel
theorem dX6_countPlaces_12 : decode cX6_countPlaces 12 = .ok (.aload_n 0, 1) := by decide +kernel
theorem dX6_countPlaces_13 : decode cX6_countPlaces 13 = .ok (.aload_n 1, 1) := by decide +kernel
theorem dX6_countPlaces_14 : decode cX6_countPlaces 14 = .ok (.iload_n 3, 1) := by decide +kernel
theorem dX6_countPlaces_15 : decode cX6_countPlaces 15 = .ok (.invokevirtual 27, 3) := by decide +kernel
theorem dX6_countPlaces_18 : decode cX6_countPlaces 18 = .ok (.ifCond .eq 6, 3) := by decide +kernel
theorem dX6_countPlaces_21 : decode cX6_countPlaces 21 = .ok (.iinc 2 1, 3) := by decide +kernel
theorem dX6_countPlaces_24 : decode cX6_countPlaces 24 = .ok (.iinc 3 1, 3) := by decide +kernel
theorem dX6_countPlaces_27 : decode cX6_countPlaces 27 = .ok (.goto (-23), 3) := by decide +kernel
theorem dX6_countPlaces_30 : decode cX6_countPlaces 30 = .ok (.iload_n 2, 1) := by decide +kernel
theorem dX6_countPlaces_31 : decode cX6_countPlaces 31 = .ok (.ireturn, 1) := by decide +kernel
theorem dX6_placeOf_0 : decode cX6_placeOf 0 = .ok (.iconst 0, 1) := by decide +kernel
theorem dX6_placeOf_1 : decode cX6_placeOf 1 = .ok (.istore_n 3, 1) := by decide +kernel
theorem dX6_placeOf_2 : decode cX6_placeOf 2 = .ok (.iconst 0, 1) := by decide +kernel
theorem dX6_placeOf_3 : decode cX6_placeOf 3 = .ok (.istore 4, 2) := by decide +kernel
theorem dX6_placeOf_5 : decode cX6_placeOf 5 = .ok (.iload 4, 2) := by decide +kernel
theorem dX6_placeOf_7 : decode cX6_placeOf 7 = .ok (.aload_n 0, 1) := by decide +kernel
theorem dX6_placeOf_8 : decode cX6_placeOf 8 = .ok (.getfield 15, 3) := by decide +kernel
theorem dX6_placeOf_11 : decode cX6_placeOf 11 = .ok (.if_icmp .ge 42, 3) := by decide +kernel
theorem dX6_placeOf_14 : decode cX6_placeOf 14 = .ok (.aload_n 0, 1) := by decide +kernel
theorem dX6_placeOf_15 : decode cX6_placeOf 15 = .ok (.aload_n 1, 1) := by decide +kernel
theorem dX6_placeOf_16 : decode cX6_placeOf 16 = .ok (.iload 4, 2) := by decide +kernel
theorem dX6_placeOf_18 : decode cX6_placeOf 18 = .ok (.invokevirtual 27, 3) := by decide +kernel
theorem dX6_placeOf_21 : decode cX6_placeOf 21 = .ok (.ifCond .eq 26, 3) := by decide +kernel
theorem dX6_placeOf_24 : decode cX6_placeOf 24 = .ok (.iload_n 3, 1) := by decide +kernel
theorem dX6_placeOf_25 : decode cX6_placeOf 25 = .ok (.iload_n 2, 1) := by decide +kernel
theorem dX6_placeOf_26 : decode cX6_placeOf 26 = .ok (.if_icmp .ne 18, 3) := by decide +kernel
theorem dX6_placeOf_29 : decode cX6_placeOf 29 = .ok (.aload_n 0, 1) := by decide +kernel
theorem dX6_placeOf_30 : decode cX6_placeOf 30 = .ok (.getfield 9, 3) := by decide +kernel
theorem dX6_placeOf_33 : decode cX6_placeOf 33 = .ok (.iload 4, 2) := by decide +kernel
theorem dX6_placeOf_35 : decode cX6_placeOf 35 = .ok (.iaload, 1) := by decide +kernel
theorem dX6_placeOf_36 : decode cX6_placeOf 36 = .ok (.aload_n 1, 1) := by decide +kernel
theorem dX6_placeOf_37 : decode cX6_placeOf 37 = .ok (.getfield 19, 3) := by decide +kernel
theorem dX6_placeOf_40 : decode cX6_placeOf 40 = .ok (.iconst 0, 1) := by decide +kernel
theorem dX6_placeOf_41 : decode cX6_placeOf 41 = .ok (.iaload, 1) := by decide +kernel
theorem dX6_placeOf_42 : decode cX6_placeOf 42 = .ok (.isub, 1) := by decide +kernel
theorem dX6_placeOf_43 : decode cX6_placeOf 43 = .ok (.ireturn, 1) := by decide +kernel
theorem dX6_placeOf_44 : decode cX6_placeOf 44 = .ok (.iinc 3 1, 3) := by decide +kernel
theorem dX6_placeOf_47 : decode cX6_placeOf 47 = .ok (.iinc 4 1, 3) := by decide +kernel
theorem dX6_placeOf_50 : decode cX6_placeOf 50 = .ok (.goto (-45), 3) := by decide +kernel
theorem dX6_placeOf_53 : decode cX6_placeOf 53 = .ok (.iconst (-1), 1) := by decide +kernel
theorem dX6_placeOf_54 : decode cX6_placeOf 54 = .ok (.ireturn, 1) := by decide +kernel
theorem dX7_init_0 : decode cX7_init 0 = .ok (.aload_n 0, 1) := by decide +kernel
theorem dX7_init_1 : decode cX7_init 1 = .ok (.invokespecial 3, 3) := by decide +kernel
theorem dX7_init_4 : decode cX7_init 4 = .ok (.aload_n 0, 1) := by decide +kernel
theorem dX7_init_5 : decode cX7_init 5 = .ok (.new 9, 3) := by decide +kernel
theorem dX7_init_8 : decode cX7_init 8 = .ok (.dup, 1) := by decide +kernel
theorem dX7_init_9 : decode cX7_init 9 = .ok (.invokespecial 11, 3) := by decide +kernel
theorem dX7_init_12 : decode cX7_init 12 = .ok (.putfield 12, 3) := by decide +kernel
theorem dX7_init_15 : decode cX7_init 15 = .ok (.aload_n 0, 1) := by decide +kernel
theorem dX7_init_16 : decode cX7_init 16 = .ok (.new 9, 3) := by decide +kernel
theorem dX7_init_19 : decode cX7_init 19 = .ok (.dup, 1) := by decide +kernel
theorem dX7_init_20 : decode cX7_init 20 = .ok (.invokespecial 11, 3) := by decide +kernel
theorem dX7_init_23 : decode cX7_init 23 = .ok (.putfield 18, 3) := by decide +kernel
theorem dX7_init_26 : decode cX7_init 26 = .ok (.aload_n 0, 1) := by decide +kernel
theorem dX7_init_27 : decode cX7_init 27 = .ok (.sipush 512, 3) := by decide +kernel
theorem dX7_init_30 : decode cX7_init 30 = .ok (.newarray .int, 2) := by decide +kernel
theorem dX7_init_32 : decode cX7_init 32 = .ok (.putfield 21, 3) := by decide +kernel
theorem dX7_init_35 : decode cX7_init 35 = .ok (.aload_n 0, 1) := by decide +kernel
theorem dX7_init_36 : decode cX7_init 36 = .ok (.new 25, 3) := by decide +kernel
theorem dX7_init_39 : decode cX7_init 39 = .ok (.dup, 1) := by decide +kernel
theorem dX7_init_40 : decode cX7_init 40 = .ok (.invokespecial 27, 3) := by decide +kernel
theorem dX7_init_43 : decode cX7_init 43 = .ok (.putfield 28, 3) := by decide +kernel
theorem dX7_init_46 : decode cX7_init 46 = .ok (.return_, 1) := by decide +kernel
theorem dX7_countAlone_0 : decode cX7_countAlone 0 = .ok (.aload_n 0, 1) := by decide +kernel
theorem dX7_countAlone_1 : decode cX7_countAlone 1 = .ok (.getfield 12, 3) := by decide +kernel
theorem dX7_countAlone_4 : decode cX7_countAlone 4 = .ok (.aload_n 1, 1) := by decide +kernel
theorem dX7_countAlone_5 : decode cX7_countAlone 5 = .ok (.iconst 1, 1) := by decide +kernel
theorem dX7_countAlone_6 : decode cX7_countAlone 6 = .ok (.aload_n 2, 1) := by decide +kernel
theorem dX7_countAlone_7 : decode cX7_countAlone 7 = .ok (.aload_n 3, 1) := by decide +kernel
theorem dX7_countAlone_8 : decode cX7_countAlone 8 = .ok (.invokevirtual 32, 3) := by decide +kernel
theorem dX7_countAlone_11 : decode cX7_countAlone 11 = .ok (.aload_n 0, 1) := by decide +kernel
theorem dX7_countAlone_12 : decode cX7_countAlone 12 = .ok (.getfield 12, 3) := by decide +kernel
theorem dX7_countAlone_15 : decode cX7_countAlone 15 = .ok (.getfield 36, 3) := by decide +kernel
theorem dX7_countAlone_18 : decode cX7_countAlone 18 = .ok (.ireturn, 1) := by decide +kernel
theorem dX7_joinAlone_0 : decode cX7_joinAlone 0 = .ok (.aload_n 0, 1) := by decide +kernel
theorem dX7_joinAlone_1 : decode cX7_joinAlone 1 = .ok (.getfield 12, 3) := by decide +kernel
theorem dX7_joinAlone_4 : decode cX7_joinAlone 4 = .ok (.aload_n 1, 1) := by decide +kernel
theorem dX7_joinAlone_5 : decode cX7_joinAlone 5 = .ok (.iconst 1, 1) := by decide +kernel
theorem dX7_joinAlone_6 : decode cX7_joinAlone 6 = .ok (.aload_n 2, 1) := by decide +kernel
theorem dX7_joinAlone_7 : decode cX7_joinAlone 7 = .ok (.aload_n 3, 1) := by decide +kernel
theorem dX7_joinAlone_8 : decode cX7_joinAlone 8 = .ok (.invokevirtual 32, 3) := by decide +kernel
theorem dX7_joinAlone_11 : decode cX7_joinAlone 11 = .ok (.aload_n 0, 1) := by decide +kernel
theorem dX7_joinAlone_12 : decode cX7_joinAlone 12 = .ok (.getfield 12, 3) := by decide +kernel
theorem dX7_joinAlone_15 : decode cX7_joinAlone 15 = .ok (.invokevirtual 40, 3) := by decide +kernel
theorem dX7_joinAlone_18 : decode cX7_joinAlone 18 = .ok (.istore 4, 2) := by decide +kernel
theorem dX7_joinAlone_20 : decode cX7_joinAlone 20 = .ok (.iload 4, 2) := by decide +kernel
theorem dX7_joinAlone_22 : decode cX7_joinAlone 22 = .ok (.iconst (-1), 1) := by decide +kernel
theorem dX7_joinAlone_23 : decode cX7_joinAlone 23 = .ok (.if_icmp .ne 5, 3) := by decide +kernel
theorem dX7_joinAlone_26 : decode cX7_joinAlone 26 = .ok (.iconst 0, 1) := by decide +kernel
theorem dX7_joinAlone_27 : decode cX7_joinAlone 27 = .ok (.ireturn, 1) := by decide +kernel
theorem dX7_joinAlone_28 : decode cX7_joinAlone 28 = .ok (.aload_n 2, 1) := by decide +kernel
theorem dX7_joinAlone_29 : decode cX7_joinAlone 29 = .ok (.aload_n 1, 1) := by decide +kernel
theorem dX7_joinAlone_30 : decode cX7_joinAlone 30 = .ok (.aload_n 0, 1) := by decide +kernel
theorem dX7_joinAlone_31 : decode cX7_joinAlone 31 = .ok (.getfield 12, 3) := by decide +kernel
theorem dX7_joinAlone_34 : decode cX7_joinAlone 34 = .ok (.getfield 44, 3) := by decide +kernel
theorem dX7_joinAlone_37 : decode cX7_joinAlone 37 = .ok (.iload 4, 2) := by decide +kernel
theorem dX7_joinAlone_39 : decode cX7_joinAlone 39 = .ok (.iaload, 1) := by decide +kernel
theorem dX7_joinAlone_40 : decode cX7_joinAlone 40 = .ok (.aload_n 0, 1) := by decide +kernel
theorem dX7_joinAlone_41 : decode cX7_joinAlone 41 = .ok (.getfield 12, 3) := by decide +kernel
theorem dX7_joinAlone_44 : decode cX7_joinAlone 44 = .ok (.getfield 47, 3) := by decide +kernel
theorem dX7_joinAlone_47 : decode cX7_joinAlone 47 = .ok (.iload 4, 2) := by decide +kernel
theorem dX7_joinAlone_49 : decode cX7_joinAlone 49 = .ok (.iaload, 1) := by decide +kernel
theorem dX7_joinAlone_50 : decode cX7_joinAlone 50 = .ok (.invokevirtual 50, 3) := by decide +kernel
theorem dX7_joinAlone_53 : decode cX7_joinAlone 53 = .ok (.iconst 1, 1) := by decide +kernel
theorem dX7_joinAlone_54 : decode cX7_joinAlone 54 = .ok (.ireturn, 1) := by decide +kernel
theorem dX7_joinBoth_0 : decode cX7_joinBoth 0 = .ok (.aload_n 0, 1) := by decide +kernel
theorem dX7_joinBoth_1 : decode cX7_joinBoth 1 = .ok (.getfield 12, 3) := by decide +kernel
theorem dX7_joinBoth_4 : decode cX7_joinBoth 4 = .ok (.aload_n 1, 1) := by decide +kernel
theorem dX7_joinBoth_5 : decode cX7_joinBoth 5 = .ok (.iconst 0, 1) := by decide +kernel
theorem dX7_joinBoth_6 : decode cX7_joinBoth 6 = .ok (.aload_n 3, 1) := by decide +kernel
theorem dX7_joinBoth_7 : decode cX7_joinBoth 7 = .ok (.aload 4, 2) := by decide +kernel
theorem dX7_joinBoth_9 : decode cX7_joinBoth 9 = .ok (.invokevirtual 32, 3) := by decide +kernel
theorem dX7_joinBoth_12 : decode cX7_joinBoth 12 = .ok (.aload_n 0, 1) := by decide +kernel
theorem dX7_joinBoth_13 : decode cX7_joinBoth 13 = .ok (.getfield 18, 3) := by decide +kernel
theorem dX7_joinBoth_16 : decode cX7_joinBoth 16 = .ok (.aload_n 2, 1) := by decide +kernel
theorem dX7_joinBoth_17 : decode cX7_joinBoth 17 = .ok (.iconst 0, 1) := by decide +kernel
theorem dX7_joinBoth_18 : decode cX7_joinBoth 18 = .ok (.aload_n 3, 1) := by decide +kernel
theorem dX7_joinBoth_19 : decode cX7_joinBoth 19 = .ok (.aload 4, 2) := by decide +kernel
theorem dX7_joinBoth_21 : decode cX7_joinBoth 21 = .ok (.invokevirtual 32, 3) := by decide +kernel
theorem dX7_joinBoth_24 : decode cX7_joinBoth 24 = .ok (.aload_n 0, 1) := by decide +kernel
theorem dX7_joinBoth_25 : decode cX7_joinBoth 25 = .ok (.getfield 28, 3) := by decide +kernel
theorem dX7_joinBoth_28 : decode cX7_joinBoth 28 = .ok (.aload_n 1, 1) := by decide +kernel
theorem dX7_joinBoth_29 : decode cX7_joinBoth 29 = .ok (.aload_n 2, 1) := by decide +kernel
theorem dX7_joinBoth_30 : decode cX7_joinBoth 30 = .ok (.invokevirtual 56, 3) := by decide +kernel
theorem dX7_joinBoth_33 : decode cX7_joinBoth 33 = .ok (.aload_n 0, 1) := by decide +kernel
theorem dX7_joinBoth_34 : decode cX7_joinBoth 34 = .ok (.getfield 18, 3) := by decide +kernel
theorem dX7_joinBoth_37 : decode cX7_joinBoth 37 = .ok (.aload_n 0, 1) := by decide +kernel
theorem dX7_joinBoth_38 : decode cX7_joinBoth 38 = .ok (.getfield 21, 3) := by decide +kernel
theorem dX7_joinBoth_41 : decode cX7_joinBoth 41 = .ok (.invokevirtual 60, 3) := by decide +kernel
theorem dX7_joinBoth_44 : decode cX7_joinBoth 44 = .ok (.istore 5, 2) := by decide +kernel
theorem dX7_joinBoth_46 : decode cX7_joinBoth 46 = .ok (.aload_n 0, 1) := by decide +kernel
theorem dX7_joinBoth_47 : decode cX7_joinBoth 47 = .ok (.iconst (-1), 1) := by decide +kernel
theorem dX7_joinBoth_48 : decode cX7_joinBoth 48 = .ok (.putfield 64, 3) := by decide +kernel
theorem dX7_joinBoth_51 : decode cX7_joinBoth 51 = .ok (.iconst 0, 1) := by decide +kernel
theorem dX7_joinBoth_52 : decode cX7_joinBoth 52 = .ok (.istore 6, 2) := by decide +kernel
theorem dX7_joinBoth_54 : decode cX7_joinBoth 54 = .ok (.iload 6, 2) := by decide +kernel
theorem dX7_joinBoth_56 : decode cX7_joinBoth 56 = .ok (.aload_n 0, 1) := by decide +kernel
theorem dX7_joinBoth_57 : decode cX7_joinBoth 57 = .ok (.getfield 12, 3) := by decide +kernel
theorem dX7_joinBoth_60 : decode cX7_joinBoth 60 = .ok (.getfield 36, 3) := by decide +kernel
theorem dX7_joinBoth_63 : decode cX7_joinBoth 63 = .ok (.if_icmp .ge 93, 3) := by decide +kernel
theorem dX7_joinBoth_66 : decode cX7_joinBoth 66 = .ok (.aload_n 0, 1) := by decide +kernel
theorem dX7_joinBoth_67 : decode cX7_joinBoth 67 = .ok (.getfield 12, 3) := by decide +kernel
theorem dX7_joinBoth_70 : decode cX7_joinBoth 70 = .ok (.getfield 67, 3) := by decide +kernel
theorem dX7_joinBoth_73 : decode cX7_joinBoth 73 = .ok (.iload 6, 2) := by decide +kernel
theorem dX7_joinBoth_75 : decode cX7_joinBoth 75 = .ok (.baload, 1) := by decide +kernel
theorem dX7_joinBoth_76 : decode cX7_joinBoth 76 = .ok (.ifCond .eq 40, 3) := by decide +kernel
theorem dX7_joinBoth_79 : decode cX7_joinBoth 79 = .ok (.iconst 0, 1) := by decide +kernel
theorem dX7_joinBoth_80 : decode cX7_joinBoth 80 = .ok (.istore 7, 2) := by decide +kernel
theorem dX7_joinBoth_82 : decode cX7_joinBoth 82 = .ok (.iload 7, 2) := by decide +kernel
theorem dX7_joinBoth_84 : decode cX7_joinBoth 84 = .ok (.aload_n 0, 1) := by decide +kernel
theorem dX7_joinBoth_85 : decode cX7_joinBoth 85 = .ok (.getfield 18, 3) := by decide +kernel
theorem dX7_joinBoth_88 : decode cX7_joinBoth 88 = .ok (.getfield 36, 3) := by decide +kernel
theorem dX7_joinBoth_91 : decode cX7_joinBoth 91 = .ok (.if_icmp .ge 22, 3) := by decide +kernel
theorem dX7_joinBoth_94 : decode cX7_joinBoth 94 = .ok (.aload_n 0, 1) := by decide +kernel
theorem dX7_joinBoth_95 : decode cX7_joinBoth 95 = .ok (.aload_n 1, 1) := by decide +kernel
theorem dX7_joinBoth_96 : decode cX7_joinBoth 96 = .ok (.iload 6, 2) := by decide +kernel
theorem dX7_joinBoth_98 : decode cX7_joinBoth 98 = .ok (.aload_n 2, 1) := by decide +kernel
theorem dX7_joinBoth_99 : decode cX7_joinBoth 99 = .ok (.iload 7, 2) := by decide +kernel
theorem dX7_joinBoth_101 : decode cX7_joinBoth 101 = .ok (.aload_n 3, 1) := by decide +kernel
theorem dX7_joinBoth_102 : decode cX7_joinBoth 102 = .ok (.aload 4, 2) := by decide +kernel
theorem dX7_joinBoth_104 : decode cX7_joinBoth 104 = .ok (.invokevirtual 71, 3) := by decide +kernel
theorem dX7_joinBoth_107 : decode cX7_joinBoth 107 = .ok (.iinc 7 1, 3) := by decide +kernel
theorem dX7_joinBoth_110 : decode cX7_joinBoth 110 = .ok (.goto (-28), 3) := by decide +kernel
theorem dX7_joinBoth_113 : decode cX7_joinBoth 113 = .ok (.goto 37, 3) := by decide +kernel
theorem dX7_joinBoth_116 : decode cX7_joinBoth 116 = .ok (.iconst 0, 1) := by decide +kernel
theorem dX7_joinBoth_117 : decode cX7_joinBoth 117 = .ok (.istore 7, 2) := by decide +kernel
theorem dX7_joinBoth_119 : decode cX7_joinBoth 119 = .ok (.iload 7, 2) := by decide +kernel
theorem dX7_joinBoth_121 : decode cX7_joinBoth 121 = .ok (.iload 5, 2) := by decide +kernel
theorem dX7_joinBoth_123 : decode cX7_joinBoth 123 = .ok (.if_icmp .ge 27, 3) := by decide +kernel
theorem dX7_joinBoth_126 : decode cX7_joinBoth 126 = .ok (.aload_n 0, 1) := by decide +kernel
theorem dX7_joinBoth_127 : decode cX7_joinBoth 127 = .ok (.aload_n 1, 1) := by decide +kernel
theorem dX7_joinBoth_128 : decode cX7_joinBoth 128 = .ok (.iload 6, 2) := by decide +kernel
theorem dX7_joinBoth_130 : decode cX7_joinBoth 130 = .ok (.aload_n 2, 1) := by decide +kernel
theorem dX7_joinBoth_131 : decode cX7_joinBoth 131 = .ok (.aload_n 0, 1) := by decide +kernel
theorem dX7_joinBoth_132 : decode cX7_joinBoth 132 = .ok (.getfield 21, 3) := by decide +kernel
theorem dX7_joinBoth_135 : decode cX7_joinBoth 135 = .ok (.iload 7, 2) := by decide +kernel
theorem dX7_joinBoth_137 : decode cX7_joinBoth 137 = .ok (.iaload, 1) := by decide +kernel
theorem dX7_joinBoth_138 : decode cX7_joinBoth 138 = .ok (.aload_n 3, 1) := by decide +kernel
theorem dX7_joinBoth_139 : decode cX7_joinBoth 139 = .ok (.aload 4, 2) := by decide +kernel
theorem dX7_joinBoth_141 : decode cX7_joinBoth 141 = .ok (.invokevirtual 71, 3) := by decide +kernel
theorem dX7_joinBoth_144 : decode cX7_joinBoth 144 = .ok (.iinc 7 1, 3) := by decide +kernel
theorem dX7_joinBoth_147 : decode cX7_joinBoth 147 = .ok (.goto (-28), 3) := by decide +kernel
theorem dX7_joinBoth_150 : decode cX7_joinBoth 150 = .ok (.iinc 6 1, 3) := by decide +kernel
theorem dX7_joinBoth_153 : decode cX7_joinBoth 153 = .ok (.goto (-99), 3) := by decide +kernel
theorem dX7_joinBoth_156 : decode cX7_joinBoth 156 = .ok (.aload_n 0, 1) := by decide +kernel
theorem dX7_joinBoth_157 : decode cX7_joinBoth 157 = .ok (.getfield 64, 3) := by decide +kernel
theorem dX7_joinBoth_160 : decode cX7_joinBoth 160 = .ok (.iconst (-1), 1) := by decide +kernel
theorem dX7_joinBoth_161 : decode cX7_joinBoth 161 = .ok (.if_icmp .ne 5, 3) := by decide +kernel
theorem dX7_joinBoth_164 : decode cX7_joinBoth 164 = .ok (.iconst 0, 1) := by decide +kernel
theorem dX7_joinBoth_165 : decode cX7_joinBoth 165 = .ok (.ireturn, 1) := by decide +kernel
theorem dX7_joinBoth_166 : decode cX7_joinBoth 166 = .ok (.aload_n 3, 1) := by decide +kernel
theorem dX7_joinBoth_167 : decode cX7_joinBoth 167 = .ok (.aload_n 1, 1) := by decide +kernel
theorem dX7_joinBoth_168 : decode cX7_joinBoth 168 = .ok (.aload_n 0, 1) := by decide +kernel
theorem dX7_joinBoth_169 : decode cX7_joinBoth 169 = .ok (.getfield 12, 3) := by decide +kernel
theorem dX7_joinBoth_172 : decode cX7_joinBoth 172 = .ok (.getfield 44, 3) := by decide +kernel
theorem dX7_joinBoth_175 : decode cX7_joinBoth 175 = .ok (.aload_n 0, 1) := by decide +kernel
theorem dX7_joinBoth_176 : decode cX7_joinBoth 176 = .ok (.getfield 75, 3) := by decide +kernel
theorem dX7_joinBoth_179 : decode cX7_joinBoth 179 = .ok (.iaload, 1) := by decide +kernel
theorem dX7_joinBoth_180 : decode cX7_joinBoth 180 = .ok (.aload_n 0, 1) := by decide +kernel
theorem dX7_joinBoth_181 : decode cX7_joinBoth 181 = .ok (.getfield 12, 3) := by decide +kernel
theorem dX7_joinBoth_184 : decode cX7_joinBoth 184 = .ok (.getfield 47, 3) := by decide +kernel
theorem dX7_joinBoth_187 : decode cX7_joinBoth 187 = .ok (.aload_n 0, 1) := by decide +kernel
theorem dX7_joinBoth_188 : decode cX7_joinBoth 188 = .ok (.getfield 75, 3) := by decide +kernel
theorem dX7_joinBoth_191 : decode cX7_joinBoth 191 = .ok (.iaload, 1) := by decide +kernel
theorem dX7_joinBoth_192 : decode cX7_joinBoth 192 = .ok (.invokevirtual 50, 3) := by decide +kernel
theorem dX7_joinBoth_195 : decode cX7_joinBoth 195 = .ok (.aload_n 3, 1) := by decide +kernel
theorem dX7_joinBoth_196 : decode cX7_joinBoth 196 = .ok (.aload_n 2, 1) := by decide +kernel
theorem dX7_joinBoth_197 : decode cX7_joinBoth 197 = .ok (.aload_n 0, 1) := by decide +kernel
theorem dX7_joinBoth_198 : decode cX7_joinBoth 198 = .ok (.getfield 18, 3) := by decide +kernel
theorem dX7_joinBoth_201 : decode cX7_joinBoth 201 = .ok (.getfield 44, 3) := by decide +kernel
theorem dX7_joinBoth_204 : decode cX7_joinBoth 204 = .ok (.aload_n 0, 1) := by decide +kernel
theorem dX7_joinBoth_205 : decode cX7_joinBoth 205 = .ok (.getfield 78, 3) := by decide +kernel
theorem dX7_joinBoth_208 : decode cX7_joinBoth 208 = .ok (.iaload, 1) := by decide +kernel
theorem dX7_joinBoth_209 : decode cX7_joinBoth 209 = .ok (.aload_n 0, 1) := by decide +kernel
theorem dX7_joinBoth_210 : decode cX7_joinBoth 210 = .ok (.getfield 18, 3) := by decide +kernel
theorem dX7_joinBoth_213 : decode cX7_joinBoth 213 = .ok (.getfield 47, 3) := by decide +kernel
theorem dX7_joinBoth_216 : decode cX7_joinBoth 216 = .ok (.aload_n 0, 1) := by decide +kernel
theorem dX7_joinBoth_217 : decode cX7_joinBoth 217 = .ok (.getfield 78, 3) := by decide +kernel
theorem dX7_joinBoth_220 : decode cX7_joinBoth 220 = .ok (.iaload, 1) := by decide +kernel
theorem dX7_joinBoth_221 : decode cX7_joinBoth 221 = .ok (.invokevirtual 50, 3) := by decide +kernel
theorem dX7_joinBoth_224 : decode cX7_joinBoth 224 = .ok (.iconst 1, 1) := by decide +kernel
theorem dX7_joinBoth_225 : decode cX7_joinBoth 225 = .ok (.ireturn, 1) := by decide +kernel
theorem dX7_weigh_0 : decode cX7_weigh 0 = .ok (.aload_n 0, 1) := by decide +kernel
theorem dX7_weigh_1 : decode cX7_weigh 1 = .ok (.iload_n 2, 1) := by decide +kernel
theorem dX7_weigh_2 : decode cX7_weigh 2 = .ok (.iload 4, 2) := by decide +kernel
theorem dX7_weigh_4 : decode cX7_weigh 4 = .ok (.invokevirtual 81, 3) := by decide +kernel
theorem dX7_weigh_7 : decode cX7_weigh 7 = .ok (.istore 7, 2) := by decide +kernel
theorem dX7_weigh_9 : decode cX7_weigh 9 = .ok (.iload 7, 2) := by decide +kernel
theorem dX7_weigh_11 : decode cX7_weigh 11 = .ok (.aload_n 0, 1) := by decide +kernel
theorem dX7_weigh_12 : decode cX7_weigh 12 = .ok (.getfield 64, 3) := by decide +kernel
theorem dX7_weigh_15 : decode cX7_weigh 15 = .ok (.if_icmp .gt 4, 3) := by decide +kernel
theorem dX7_weigh_18 : decode cX7_weigh 18 = .ok (.return_, 1) := by decide +kernel
theorem dX7_weigh_19 : decode cX7_weigh 19 = .ok (.iconst 1, 1) := by decide +kernel
theorem dX7_weigh_20 : decode cX7_weigh 20 = .ok (.istore 8, 2) := by decide +kernel
theorem dX7_weigh_22 : decode cX7_weigh 22 = .ok (.aload_n 0, 1) := by decide +kernel
theorem dX7_weigh_23 : decode cX7_weigh 23 = .ok (.getfield 28, 3) := by decide +kernel
theorem dX7_weigh_26 : decode cX7_weigh 26 = .ok (.aload_n 0, 1) := by decide +kernel
theorem dX7_weigh_27 : decode cX7_weigh 27 = .ok (.getfield 18, 3) := by decide +kernel
theorem dX7_weigh_30 : decode cX7_weigh 30 = .ok (.getfield 44, 3) := by decide +kernel
theorem dX7_weigh_33 : decode cX7_weigh 33 = .ok (.iload 4, 2) := by decide +kernel
theorem dX7_weigh_35 : decode cX7_weigh 35 = .ok (.iaload, 1) := by decide +kernel
theorem dX7_weigh_36 : decode cX7_weigh 36 = .ok (.aload_n 0, 1) := by decide +kernel
theorem dX7_weigh_37 : decode cX7_weigh 37 = .ok (.getfield 12, 3) := by decide +kernel
theorem dX7_weigh_40 : decode cX7_weigh 40 = .ok (.getfield 44, 3) := by decide +kernel
theorem dX7_weigh_43 : decode cX7_weigh 43 = .ok (.iload_n 2, 1) := by decide +kernel
theorem dX7_weigh_44 : decode cX7_weigh 44 = .ok (.iaload, 1) := by decide +kernel
theorem dX7_weigh_45 : decode cX7_weigh 45 = .ok (.isub, 1) := by decide +kernel
theorem dX7_weigh_46 : decode cX7_weigh 46 = .ok (.invokevirtual 85, 3) := by decide +kernel
theorem dX7_weigh_49 : decode cX7_weigh 49 = .ok (.ifCond .eq 81, 3) := by decide +kernel
theorem dX7_weigh_52 : decode cX7_weigh 52 = .ok (.aload 5, 2) := by decide +kernel
theorem dX7_weigh_54 : decode cX7_weigh 54 = .ok (.aload_n 1, 1) := by decide +kernel
theorem dX7_weigh_55 : decode cX7_weigh 55 = .ok (.aload_n 0, 1) := by decide +kernel
theorem dX7_weigh_56 : decode cX7_weigh 56 = .ok (.getfield 12, 3) := by decide +kernel
theorem dX7_weigh_59 : decode cX7_weigh 59 = .ok (.getfield 44, 3) := by decide +kernel
theorem dX7_weigh_62 : decode cX7_weigh 62 = .ok (.iload_n 2, 1) := by decide +kernel
theorem dX7_weigh_63 : decode cX7_weigh 63 = .ok (.iaload, 1) := by decide +kernel
theorem dX7_weigh_64 : decode cX7_weigh 64 = .ok (.aload_n 0, 1) := by decide +kernel
theorem dX7_weigh_65 : decode cX7_weigh 65 = .ok (.getfield 12, 3) := by decide +kernel
theorem dX7_weigh_68 : decode cX7_weigh 68 = .ok (.getfield 47, 3) := by decide +kernel
theorem dX7_weigh_71 : decode cX7_weigh 71 = .ok (.iload_n 2, 1) := by decide +kernel
theorem dX7_weigh_72 : decode cX7_weigh 72 = .ok (.iaload, 1) := by decide +kernel
theorem dX7_weigh_73 : decode cX7_weigh 73 = .ok (.invokevirtual 89, 3) := by decide +kernel
theorem dX7_weigh_76 : decode cX7_weigh 76 = .ok (.aload 5, 2) := by decide +kernel
theorem dX7_weigh_78 : decode cX7_weigh 78 = .ok (.aload_n 3, 1) := by decide +kernel
theorem dX7_weigh_79 : decode cX7_weigh 79 = .ok (.aload_n 0, 1) := by decide +kernel
theorem dX7_weigh_80 : decode cX7_weigh 80 = .ok (.getfield 18, 3) := by decide +kernel
theorem dX7_weigh_83 : decode cX7_weigh 83 = .ok (.getfield 44, 3) := by decide +kernel
theorem dX7_weigh_86 : decode cX7_weigh 86 = .ok (.iload 4, 2) := by decide +kernel
theorem dX7_weigh_88 : decode cX7_weigh 88 = .ok (.iaload, 1) := by decide +kernel
theorem dX7_weigh_89 : decode cX7_weigh 89 = .ok (.aload_n 0, 1) := by decide +kernel
theorem dX7_weigh_90 : decode cX7_weigh 90 = .ok (.getfield 18, 3) := by decide +kernel
theorem dX7_weigh_93 : decode cX7_weigh 93 = .ok (.getfield 47, 3) := by decide +kernel
theorem dX7_weigh_96 : decode cX7_weigh 96 = .ok (.iload 4, 2) := by decide +kernel
theorem dX7_weigh_98 : decode cX7_weigh 98 = .ok (.iaload, 1) := by decide +kernel
theorem dX7_weigh_99 : decode cX7_weigh 99 = .ok (.aload 6, 2) := by decide +kernel
theorem dX7_weigh_101 : decode cX7_weigh 101 = .ok (.invokevirtual 92, 3) := by decide +kernel
theorem dX7_weigh_104 : decode cX7_weigh 104 = .ok (.istore 8, 2) := by decide +kernel
theorem dX7_weigh_106 : decode cX7_weigh 106 = .ok (.aload 5, 2) := by decide +kernel
theorem dX7_weigh_108 : decode cX7_weigh 108 = .ok (.aload_n 1, 1) := by decide +kernel
theorem dX7_weigh_109 : decode cX7_weigh 109 = .ok (.aload_n 0, 1) := by decide +kernel
theorem dX7_weigh_110 : decode cX7_weigh 110 = .ok (.getfield 12, 3) := by decide +kernel
theorem dX7_weigh_113 : decode cX7_weigh 113 = .ok (.getfield 44, 3) := by decide +kernel
theorem dX7_weigh_116 : decode cX7_weigh 116 = .ok (.iload_n 2, 1) := by decide +kernel
theorem dX7_weigh_117 : decode cX7_weigh 117 = .ok (.iaload, 1) := by decide +kernel
theorem dX7_weigh_118 : decode cX7_weigh 118 = .ok (.aload_n 0, 1) := by decide +kernel
theorem dX7_weigh_119 : decode cX7_weigh 119 = .ok (.getfield 12, 3) := by decide +kernel
theorem dX7_weigh_122 : decode cX7_weigh 122 = .ok (.getfield 47, 3) := by decide +kernel
theorem dX7_weigh_125 : decode cX7_weigh 125 = .ok (.iload_n 2, 1) := by decide +kernel
theorem dX7_weigh_126 : decode cX7_weigh 126 = .ok (.iaload, 1) := by decide +kernel
theorem dX7_weigh_127 : decode cX7_weigh 127 = .ok (.invokevirtual 96, 3) := by decide +kernel
theorem dX7_weigh_130 : decode cX7_weigh 130 = .ok (.iload 8, 2) := by decide +kernel
theorem dX7_weigh_132 : decode cX7_weigh 132 = .ok (.ifCond .eq 20, 3) := by decide +kernel
theorem dX7_weigh_135 : decode cX7_weigh 135 = .ok (.aload_n 0, 1) := by decide +kernel
theorem dX7_weigh_136 : decode cX7_weigh 136 = .ok (.iload 7, 2) := by decide +kernel
theorem dX7_weigh_138 : decode cX7_weigh 138 = .ok (.putfield 64, 3) := by decide +kernel
theorem dX7_weigh_141 : decode cX7_weigh 141 = .ok (.aload_n 0, 1) := by decide +kernel
theorem dX7_weigh_142 : decode cX7_weigh 142 = .ok (.iload_n 2, 1) := by decide +kernel
theorem dX7_weigh_143 : decode cX7_weigh 143 = .ok (.putfield 75, 3) := by decide +kernel
theorem dX7_weigh_146 : decode cX7_weigh 146 = .ok (.aload_n 0, 1) := by decide +kernel
theorem dX7_weigh_147 : decode cX7_weigh 147 = .ok (.iload 4, 2) := by decide +kernel
theorem dX7_weigh_149 : decode cX7_weigh 149 = .ok (.putfield 78, 3) := by decide +kernel
theorem dX7_weigh_152 : decode cX7_weigh 152 = .ok (.return_, 1) := by decide +kernel
theorem dX7_gainOf_0 : decode cX7_gainOf 0 = .ok (.aload_n 0, 1) := by decide +kernel
theorem dX7_gainOf_1 : decode cX7_gainOf 1 = .ok (.getfield 18, 3) := by decide +kernel
theorem dX7_gainOf_4 : decode cX7_gainOf 4 = .ok (.getfield 44, 3) := by decide +kernel
theorem dX7_gainOf_7 : decode cX7_gainOf 7 = .ok (.iload_n 2, 1) := by decide +kernel
theorem dX7_gainOf_8 : decode cX7_gainOf 8 = .ok (.iaload, 1) := by decide +kernel
theorem dX7_gainOf_9 : decode cX7_gainOf 9 = .ok (.aload_n 0, 1) := by decide +kernel
theorem dX7_gainOf_10 : decode cX7_gainOf 10 = .ok (.getfield 12, 3) := by decide +kernel
theorem dX7_gainOf_13 : decode cX7_gainOf 13 = .ok (.getfield 44, 3) := by decide +kernel
theorem dX7_gainOf_16 : decode cX7_gainOf 16 = .ok (.iload_n 1, 1) := by decide +kernel
theorem dX7_gainOf_17 : decode cX7_gainOf 17 = .ok (.iaload, 1) := by decide +kernel
theorem dX7_gainOf_18 : decode cX7_gainOf 18 = .ok (.isub, 1) := by decide +kernel
theorem dX7_gainOf_19 : decode cX7_gainOf 19 = .ok (.istore_n 3, 1) := by decide +kernel
theorem dX7_gainOf_20 : decode cX7_gainOf 20 = .ok (.aload_n 0, 1) := by decide +kernel
theorem dX7_gainOf_21 : decode cX7_gainOf 21 = .ok (.getfield 18, 3) := by decide +kernel
theorem dX7_gainOf_24 : decode cX7_gainOf 24 = .ok (.getfield 47, 3) := by decide +kernel
theorem dX7_gainOf_27 : decode cX7_gainOf 27 = .ok (.iload_n 2, 1) := by decide +kernel
theorem dX7_gainOf_28 : decode cX7_gainOf 28 = .ok (.iaload, 1) := by decide +kernel
theorem dX7_gainOf_29 : decode cX7_gainOf 29 = .ok (.aload_n 0, 1) := by decide +kernel
theorem dX7_gainOf_30 : decode cX7_gainOf 30 = .ok (.getfield 12, 3) := by decide +kernel
theorem dX7_gainOf_33 : decode cX7_gainOf 33 = .ok (.getfield 47, 3) := by decide +kernel
theorem dX7_gainOf_36 : decode cX7_gainOf 36 = .ok (.iload_n 1, 1) := by decide +kernel
theorem dX7_gainOf_37 : decode cX7_gainOf 37 = .ok (.iaload, 1) := by decide +kernel
theorem dX7_gainOf_38 : decode cX7_gainOf 38 = .ok (.isub, 1) := by decide +kernel
theorem dX7_gainOf_39 : decode cX7_gainOf 39 = .ok (.istore 4, 2) := by decide +kernel
theorem dX7_gainOf_41 : decode cX7_gainOf 41 = .ok (.aload_n 0, 1) := by decide +kernel
theorem dX7_gainOf_42 : decode cX7_gainOf 42 = .ok (.getfield 28, 3) := by decide +kernel
theorem dX7_gainOf_45 : decode cX7_gainOf 45 = .ok (.iload_n 3, 1) := by decide +kernel
theorem dX7_gainOf_46 : decode cX7_gainOf 46 = .ok (.iload 4, 2) := by decide +kernel
theorem dX7_gainOf_48 : decode cX7_gainOf 48 = .ok (.invokevirtual 99, 3) := by decide +kernel
theorem dX7_gainOf_51 : decode cX7_gainOf 51 = .ok (.istore 5, 2) := by decide +kernel
theorem dX7_gainOf_53 : decode cX7_gainOf 53 = .ok (.iload 5, 2) := by decide +kernel
theorem dX7_gainOf_55 : decode cX7_gainOf 55 = .ok (.ifCond .gt 27, 3) := by decide +kernel
theorem dX7_gainOf_58 : decode cX7_gainOf 58 = .ok (.aload_n 0, 1) := by decide +kernel
theorem dX7_gainOf_59 : decode cX7_gainOf 59 = .ok (.getfield 12, 3) := by decide +kernel
theorem dX7_gainOf_62 : decode cX7_gainOf 62 = .ok (.getfield 67, 3) := by decide +kernel
theorem dX7_gainOf_65 : decode cX7_gainOf 65 = .ok (.iload_n 1, 1) := by decide +kernel
theorem dX7_gainOf_66 : decode cX7_gainOf 66 = .ok (.baload, 1) := by decide +kernel
theorem dX7_gainOf_67 : decode cX7_gainOf 67 = .ok (.ifCond .eq 19, 3) := by decide +kernel
theorem dX7_gainOf_70 : decode cX7_gainOf 70 = .ok (.aload_n 0, 1) := by decide +kernel
theorem dX7_gainOf_71 : decode cX7_gainOf 71 = .ok (.getfield 18, 3) := by decide +kernel
theorem dX7_gainOf_74 : decode cX7_gainOf 74 = .ok (.getfield 67, 3) := by decide +kernel
theorem dX7_gainOf_77 : decode cX7_gainOf 77 = .ok (.iload_n 2, 1) := by decide +kernel
theorem dX7_gainOf_78 : decode cX7_gainOf 78 = .ok (.baload, 1) := by decide +kernel
theorem dX7_gainOf_79 : decode cX7_gainOf 79 = .ok (.ifCond .eq 7, 3) := by decide +kernel
theorem dX7_gainOf_82 : decode cX7_gainOf 82 = .ok (.iconst 1, 1) := by decide +kernel
theorem dX7_gainOf_83 : decode cX7_gainOf 83 = .ok (.goto 4, 3) := by decide +kernel
theorem dX7_gainOf_86 : decode cX7_gainOf 86 = .ok (.iconst 0, 1) := by decide +kernel
theorem dX7_gainOf_87 : decode cX7_gainOf 87 = .ok (.istore 6, 2) := by decide +kernel
theorem dX7_gainOf_89 : decode cX7_gainOf 89 = .ok (.iload 6, 2) := by decide +kernel
theorem dX7_gainOf_91 : decode cX7_gainOf 91 = .ok (.ifCond .eq 9, 3) := by decide +kernel
theorem dX7_gainOf_94 : decode cX7_gainOf 94 = .ok (.iload 5, 2) := by decide +kernel
theorem dX7_gainOf_96 : decode cX7_gainOf 96 = .ok (.iconst (-1), 1) := by decide +kernel
theorem dX7_gainOf_97 : decode cX7_gainOf 97 = .ok (.if_icmp .ne 5, 3) := by decide +kernel
theorem dX7_gainOf_100 : decode cX7_gainOf 100 = .ok (.iconst (-1), 1) := by decide +kernel
theorem dX7_gainOf_101 : decode cX7_gainOf 101 = .ok (.ireturn, 1) := by decide +kernel
theorem dX7_gainOf_102 : decode cX7_gainOf 102 = .ok (.aload_n 0, 1) := by decide +kernel
theorem dX7_gainOf_103 : decode cX7_gainOf 103 = .ok (.getfield 28, 3) := by decide +kernel
theorem dX7_gainOf_106 : decode cX7_gainOf 106 = .ok (.iload_n 3, 1) := by decide +kernel
theorem dX7_gainOf_107 : decode cX7_gainOf 107 = .ok (.invokevirtual 102, 3) := by decide +kernel
theorem dX7_gainOf_110 : decode cX7_gainOf 110 = .ok (.istore 7, 2) := by decide +kernel
theorem dX7_gainOf_112 : decode cX7_gainOf 112 = .ok (.aload_n 0, 1) := by decide +kernel
theorem dX7_gainOf_113 : decode cX7_gainOf 113 = .ok (.getfield 28, 3) := by decide +kernel
theorem dX7_gainOf_116 : decode cX7_gainOf 116 = .ok (.iload 4, 2) := by decide +kernel
theorem dX7_gainOf_118 : decode cX7_gainOf 118 = .ok (.invokevirtual 106, 3) := by decide +kernel
theorem dX7_gainOf_121 : decode cX7_gainOf 121 = .ok (.istore 8, 2) := by decide +kernel
theorem dX7_gainOf_123 : decode cX7_gainOf 123 = .ok (.iload 7, 2) := by decide +kernel
theorem dX7_gainOf_125 : decode cX7_gainOf 125 = .ok (.iconst (-1), 1) := by decide +kernel
theorem dX7_gainOf_126 : decode cX7_gainOf 126 = .ok (.if_icmp .eq 9, 3) := by decide +kernel
theorem dX7_gainOf_129 : decode cX7_gainOf 129 = .ok (.iload 8, 2) := by decide +kernel
theorem dX7_gainOf_131 : decode cX7_gainOf 131 = .ok (.iconst (-1), 1) := by decide +kernel
theorem dX7_gainOf_132 : decode cX7_gainOf 132 = .ok (.if_icmp .ne 5, 3) := by decide +kernel
theorem dX7_gainOf_135 : decode cX7_gainOf 135 = .ok (.iconst (-1), 1) := by decide +kernel
theorem dX7_gainOf_136 : decode cX7_gainOf 136 = .ok (.ireturn, 1) := by decide +kernel
theorem dX7_gainOf_137 : decode cX7_gainOf 137 = .ok (.aload_n 0, 1) := by decide +kernel
theorem dX7_gainOf_138 : decode cX7_gainOf 138 = .ok (.getfield 12, 3) := by decide +kernel
theorem dX7_gainOf_141 : decode cX7_gainOf 141 = .ok (.getfield 109, 3) := by decide +kernel
theorem dX7_gainOf_144 : decode cX7_gainOf 144 = .ok (.iload_n 1, 1) := by decide +kernel
theorem dX7_gainOf_145 : decode cX7_gainOf 145 = .ok (.iaload, 1) := by decide +kernel
theorem dX7_gainOf_146 : decode cX7_gainOf 146 = .ok (.aload_n 0, 1) := by decide +kernel
theorem dX7_gainOf_147 : decode cX7_gainOf 147 = .ok (.getfield 18, 3) := by decide +kernel
theorem dX7_gainOf_150 : decode cX7_gainOf 150 = .ok (.getfield 109, 3) := by decide +kernel
theorem dX7_gainOf_153 : decode cX7_gainOf 153 = .ok (.iload_n 2, 1) := by decide +kernel
theorem dX7_gainOf_154 : decode cX7_gainOf 154 = .ok (.iaload, 1) := by decide +kernel
theorem dX7_gainOf_155 : decode cX7_gainOf 155 = .ok (.iadd, 1) := by decide +kernel
theorem dX7_gainOf_156 : decode cX7_gainOf 156 = .ok (.iload 5, 2) := by decide +kernel
theorem dX7_gainOf_158 : decode cX7_gainOf 158 = .ok (.iadd, 1) := by decide +kernel
theorem dX7_gainOf_159 : decode cX7_gainOf 159 = .ok (.iload 7, 2) := by decide +kernel
theorem dX7_gainOf_161 : decode cX7_gainOf 161 = .ok (.iadd, 1) := by decide +kernel
theorem dX7_gainOf_162 : decode cX7_gainOf 162 = .ok (.iload 8, 2) := by decide +kernel
theorem dX7_gainOf_164 : decode cX7_gainOf 164 = .ok (.iadd, 1) := by decide +kernel
theorem dX7_gainOf_165 : decode cX7_gainOf 165 = .ok (.ireturn, 1) := by decide +kernel
theorem dX8_init_0 : decode cX8_init 0 = .ok (.aload_n 0, 1) := by decide +kernel
theorem dX8_init_1 : decode cX8_init 1 = .ok (.invokespecial 3, 3) := by decide +kernel
theorem dX8_init_4 : decode cX8_init 4 = .ok (.aload_n 0, 1) := by decide +kernel
theorem dX8_init_5 : decode cX8_init 5 = .ok (.sipush 512, 3) := by decide +kernel
theorem dX8_init_8 : decode cX8_init 8 = .ok (.newarray .int, 2) := by decide +kernel
theorem dX8_init_10 : decode cX8_init 10 = .ok (.putfield 9, 3) := by decide +kernel
theorem dX8_init_13 : decode cX8_init 13 = .ok (.aload_n 0, 1) := by decide +kernel
theorem dX8_init_14 : decode cX8_init 14 = .ok (.sipush 512, 3) := by decide +kernel
theorem dX8_init_17 : decode cX8_init 17 = .ok (.newarray .int, 2) := by decide +kernel
theorem dX8_init_19 : decode cX8_init 19 = .ok (.putfield 15, 3) := by decide +kernel
theorem dX8_init_22 : decode cX8_init 22 = .ok (.aload_n 0, 1) := by decide +kernel
theorem dX8_init_23 : decode cX8_init 23 = .ok (.new 18, 3) := by decide +kernel
theorem dX8_init_26 : decode cX8_init 26 = .ok (.dup, 1) := by decide +kernel
theorem dX8_init_27 : decode cX8_init 27 = .ok (.bipush 16, 2) := by decide +kernel
theorem dX8_init_29 : decode cX8_init 29 = .ok (.invokespecial 20, 3) := by decide +kernel
theorem dX8_init_32 : decode cX8_init 32 = .ok (.putfield 23, 3) := by decide +kernel
theorem dX8_init_35 : decode cX8_init 35 = .ok (.aload_n 0, 1) := by decide +kernel
theorem dX8_init_36 : decode cX8_init 36 = .ok (.new 18, 3) := by decide +kernel
theorem dX8_init_39 : decode cX8_init 39 = .ok (.dup, 1) := by decide +kernel
theorem dX8_init_40 : decode cX8_init 40 = .ok (.bipush 32, 2) := by decide +kernel
theorem dX8_init_42 : decode cX8_init 42 = .ok (.invokespecial 20, 3) := by decide +kernel
theorem dX8_init_45 : decode cX8_init 45 = .ok (.putfield 27, 3) := by decide +kernel
theorem dX8_init_48 : decode cX8_init 48 = .ok (.iconst 0, 1) := by decide +kernel
theorem dX8_init_49 : decode cX8_init 49 = .ok (.istore_n 1, 1) := by decide +kernel
theorem dX8_init_50 : decode cX8_init 50 = .ok (.iload_n 1, 1) := by decide +kernel
theorem dX8_init_51 : decode cX8_init 51 = .ok (.sipush 512, 3) := by decide +kernel
theorem dX8_init_54 : decode cX8_init 54 = .ok (.if_icmp .ge 24, 3) := by decide +kernel
theorem dX8_init_57 : decode cX8_init 57 = .ok (.aload_n 0, 1) := by decide +kernel
theorem dX8_init_58 : decode cX8_init 58 = .ok (.getfield 9, 3) := by decide +kernel
theorem dX8_init_61 : decode cX8_init 61 = .ok (.iload_n 1, 1) := by decide +kernel
theorem dX8_init_62 : decode cX8_init 62 = .ok (.bipush 95, 2) := by decide +kernel
theorem dX8_init_64 : decode cX8_init 64 = .ok (.iastore, 1) := by decide +kernel
theorem dX8_init_65 : decode cX8_init 65 = .ok (.aload_n 0, 1) := by decide +kernel
theorem dX8_init_66 : decode cX8_init 66 = .ok (.getfield 15, 3) := by decide +kernel
theorem dX8_init_69 : decode cX8_init 69 = .ok (.iload_n 1, 1) := by decide +kernel
theorem dX8_init_70 : decode cX8_init 70 = .ok (.iconst (-1), 1) := by decide +kernel
theorem dX8_init_71 : decode cX8_init 71 = .ok (.iastore, 1) := by decide +kernel
theorem dX8_init_72 : decode cX8_init 72 = .ok (.iinc 1 1, 3) := by decide +kernel
theorem dX8_init_75 : decode cX8_init 75 = .ok (.goto (-25), 3) := by decide +kernel
theorem dX8_init_78 : decode cX8_init 78 = .ok (.return_, 1) := by decide +kernel
theorem dX8_isInside_0 : decode cX8_isInside 0 = .ok (.iload_n 0, 1) := by decide +kernel
theorem dX8_isInside_1 : decode cX8_isInside 1 = .ok (.ifCond .lt 23, 3) := by decide +kernel
theorem dX8_isInside_4 : decode cX8_isInside 4 = .ok (.iload_n 0, 1) := by decide +kernel
theorem dX8_isInside_5 : decode cX8_isInside 5 = .ok (.bipush 16, 2) := by decide +kernel
theorem dX8_isInside_7 : decode cX8_isInside 7 = .ok (.if_icmp .ge 17, 3) := by decide +kernel
theorem dX8_isInside_10 : decode cX8_isInside 10 = .ok (.iload_n 1, 1) := by decide +kernel
theorem dX8_isInside_11 : decode cX8_isInside 11 = .ok (.ifCond .lt 13, 3) := by decide +kernel
theorem dX8_isInside_14 : decode cX8_isInside 14 = .ok (.iload_n 1, 1) := by decide +kernel
theorem dX8_isInside_15 : decode cX8_isInside 15 = .ok (.bipush 32, 2) := by decide +kernel
theorem dX8_isInside_17 : decode cX8_isInside 17 = .ok (.if_icmp .ge 7, 3) := by decide +kernel
theorem dX8_isInside_20 : decode cX8_isInside 20 = .ok (.iconst 1, 1) := by decide +kernel
theorem dX8_isInside_21 : decode cX8_isInside 21 = .ok (.goto 4, 3) := by decide +kernel
theorem dX8_isInside_24 : decode cX8_isInside 24 = .ok (.iconst 0, 1) := by decide +kernel
theorem dX8_isInside_25 : decode cX8_isInside 25 = .ok (.ireturn, 1) := by decide +kernel
theorem dX8_signAt_0 : decode cX8_signAt 0 = .ok (.iload_n 1, 1) := by decide +kernel
theorem dX8_signAt_1 : decode cX8_signAt 1 = .ok (.ifCond .lt 19, 3) := by decide +kernel
theorem dX8_signAt_4 : decode cX8_signAt 4 = .ok (.iload_n 1, 1) := by decide +kernel
theorem dX8_signAt_5 : decode cX8_signAt 5 = .ok (.bipush 16, 2) := by decide +kernel
theorem dX8_signAt_7 : decode cX8_signAt 7 = .ok (.if_icmp .ge 13, 3) := by decide +kernel
theorem dX8_signAt_10 : decode cX8_signAt 10 = .ok (.iload_n 2, 1) := by decide +kernel
theorem dX8_signAt_11 : decode cX8_signAt 11 = .ok (.ifCond .lt 9, 3) := by decide +kernel
theorem dX8_signAt_14 : decode cX8_signAt 14 = .ok (.iload_n 2, 1) := by decide +kernel
theorem dX8_signAt_15 : decode cX8_signAt 15 = .ok (.bipush 32, 2) := by decide +kernel
theorem dX8_signAt_17 : decode cX8_signAt 17 = .ok (.if_icmp .lt 6, 3) := by decide +kernel
theorem dX8_signAt_20 : decode cX8_signAt 20 = .ok (.bipush 95, 2) := by decide +kernel
theorem dX8_signAt_22 : decode cX8_signAt 22 = .ok (.ireturn, 1) := by decide +kernel
theorem dX8_signAt_23 : decode cX8_signAt 23 = .ok (.aload_n 0, 1) := by decide +kernel
theorem dX8_signAt_24 : decode cX8_signAt 24 = .ok (.getfield 9, 3) := by decide +kernel
theorem dX8_signAt_27 : decode cX8_signAt 27 = .ok (.iload_n 1, 1) := by decide +kernel
theorem dX8_signAt_28 : decode cX8_signAt 28 = .ok (.bipush 32, 2) := by decide +kernel
theorem dX8_signAt_30 : decode cX8_signAt 30 = .ok (.imul, 1) := by decide +kernel
theorem dX8_signAt_31 : decode cX8_signAt 31 = .ok (.iload_n 2, 1) := by decide +kernel
theorem dX8_signAt_32 : decode cX8_signAt 32 = .ok (.iadd, 1) := by decide +kernel
theorem dX8_signAt_33 : decode cX8_signAt 33 = .ok (.iaload, 1) := by decide +kernel
theorem dX8_signAt_34 : decode cX8_signAt 34 = .ok (.ireturn, 1) := by decide +kernel
theorem dX8_ownerAt_0 : decode cX8_ownerAt 0 = .ok (.iload_n 1, 1) := by decide +kernel
theorem dX8_ownerAt_1 : decode cX8_ownerAt 1 = .ok (.iload_n 2, 1) := by decide +kernel
theorem dX8_ownerAt_2 : decode cX8_ownerAt 2 = .ok (.invokestatic 30, 3) := by decide +kernel
theorem dX8_ownerAt_5 : decode cX8_ownerAt 5 = .ok (.ifCond .eq 17, 3) := by decide +kernel
theorem dX8_ownerAt_8 : decode cX8_ownerAt 8 = .ok (.aload_n 0, 1) := by decide +kernel
theorem dX8_ownerAt_9 : decode cX8_ownerAt 9 = .ok (.getfield 15, 3) := by decide +kernel
theorem dX8_ownerAt_12 : decode cX8_ownerAt 12 = .ok (.iload_n 1, 1) := by decide +kernel
theorem dX8_ownerAt_13 : decode cX8_ownerAt 13 = .ok (.bipush 32, 2) := by decide +kernel
theorem dX8_ownerAt_15 : decode cX8_ownerAt 15 = .ok (.imul, 1) := by decide +kernel
theorem dX8_ownerAt_16 : decode cX8_ownerAt 16 = .ok (.iload_n 2, 1) := by decide +kernel
theorem dX8_ownerAt_17 : decode cX8_ownerAt 17 = .ok (.iadd, 1) := by decide +kernel
theorem dX8_ownerAt_18 : decode cX8_ownerAt 18 = .ok (.iaload, 1) := by decide +kernel
theorem dX8_ownerAt_19 : decode cX8_ownerAt 19 = .ok (.goto 4, 3) := by decide +kernel
theorem dX8_ownerAt_22 : decode cX8_ownerAt 22 = .ok (.iconst (-1), 1) := by decide +kernel
theorem dX8_ownerAt_23 : decode cX8_ownerAt 23 = .ok (.ireturn, 1) := by decide +kernel
theorem dX8_hasRoom_0 : decode cX8_hasRoom 0 = .ok (.iload_n 2, 1) := by decide +kernel
theorem dX8_hasRoom_1 : decode cX8_hasRoom 1 = .ok (.bipush (-5), 2) := by decide +kernel
theorem dX8_hasRoom_3 : decode cX8_hasRoom 3 = .ok (.if_icmp .le 21, 3) := by decide +kernel
theorem dX8_hasRoom_6 : decode cX8_hasRoom 6 = .ok (.iload_n 2, 1) := by decide +kernel
theorem dX8_hasRoom_7 : decode cX8_hasRoom 7 = .ok (.bipush 16, 2) := by decide +kernel
theorem dX8_hasRoom_9 : decode cX8_hasRoom 9 = .ok (.if_icmp .ge 15, 3) := by decide +kernel
theorem dX8_hasRoom_12 : decode cX8_hasRoom 12 = .ok (.iload_n 3, 1) := by decide +kernel
theorem dX8_hasRoom_13 : decode cX8_hasRoom 13 = .ok (.bipush (-10), 2) := by decide +kernel
theorem dX8_hasRoom_15 : decode cX8_hasRoom 15 = .ok (.if_icmp .le 9, 3) := by decide +kernel
theorem dX8_hasRoom_18 : decode cX8_hasRoom 18 = .ok (.iload_n 3, 1) := by decide +kernel
theorem dX8_hasRoom_19 : decode cX8_hasRoom 19 = .ok (.bipush 32, 2) := by decide +kernel
theorem dX8_hasRoom_21 : decode cX8_hasRoom 21 = .ok (.if_icmp .lt 5, 3) := by decide +kernel
