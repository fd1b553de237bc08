theorem dX12_init_0 : decode cX12_init 0 = .ok (.aload_n 0, 1) := by decide +kernel
theorem dX12_init_1 : decode cX12_init 1 = .ok (.invokespecial 1, 3) := by decide +kernel
theorem dX12_init_4 : decode cX12_init 4 = .ok (.aload_n 0, 1) := by decide +kernel
theorem dX12_init_5 : decode cX12_init 5 = .ok (.sipush 200, 3) := by decide +kernel
theorem dX12_init_8 : decode cX12_init 8 = .ok (.newarray .int, 2) := by decide +kernel
theorem dX12_init_10 : decode cX12_init 10 = .ok (.putfield 7, 3) := by decide +kernel
theorem dX12_init_13 : decode cX12_init 13 = .ok (.aload_n 0, 1) := by decide +kernel
theorem dX12_init_14 : decode cX12_init 14 = .ok (.bipush 10, 2) := by decide +kernel
theorem dX12_init_16 : decode cX12_init 16 = .ok (.newarray .boolean, 2) := by decide +kernel
theorem dX12_init_18 : decode cX12_init 18 = .ok (.putfield 13, 3) := by decide +kernel
theorem dX12_init_21 : decode cX12_init 21 = .ok (.aload_n 0, 1) := by decide +kernel
theorem dX12_init_22 : decode cX12_init 22 = .ok (.sipush 500, 3) := by decide +kernel
theorem dX12_init_25 : decode cX12_init 25 = .ok (.newarray .int, 2) := by decide +kernel
theorem dX12_init_27 : decode cX12_init 27 = .ok (.putfield 17, 3) := by decide +kernel
theorem dX12_init_30 : decode cX12_init 30 = .ok (.aload_n 0, 1) := by decide +kernel
theorem dX12_init_31 : decode cX12_init 31 = .ok (.bipush 50, 2) := by decide +kernel
theorem dX12_init_33 : decode cX12_init 33 = .ok (.newarray .int, 2) := by decide +kernel
theorem dX12_init_35 : decode cX12_init 35 = .ok (.putfield 20, 3) := by decide +kernel
theorem dX12_init_38 : decode cX12_init 38 = .ok (.aload_n 0, 1) := by decide +kernel
theorem dX12_init_39 : decode cX12_init 39 = .ok (.bipush 100, 2) := by decide +kernel
theorem dX12_init_41 : decode cX12_init 41 = .ok (.newarray .int, 2) := by decide +kernel
theorem dX12_init_43 : decode cX12_init 43 = .ok (.putfield 23, 3) := by decide +kernel
theorem dX12_init_46 : decode cX12_init 46 = .ok (.aload_n 0, 1) := by decide +kernel
theorem dX12_init_47 : decode cX12_init 47 = .ok (.bipush 10, 2) := by decide +kernel
theorem dX12_init_49 : decode cX12_init 49 = .ok (.newarray .boolean, 2) := by decide +kernel
theorem dX12_init_51 : decode cX12_init 51 = .ok (.putfield 26, 3) := by decide +kernel
theorem dX12_init_54 : decode cX12_init 54 = .ok (.aload_n 0, 1) := by decide +kernel
theorem dX12_init_55 : decode cX12_init 55 = .ok (.bipush 10, 2) := by decide +kernel
theorem dX12_init_57 : decode cX12_init 57 = .ok (.newarray .int, 2) := by decide +kernel
theorem dX12_init_59 : decode cX12_init 59 = .ok (.putfield 29, 3) := by decide +kernel
theorem dX12_init_62 : decode cX12_init 62 = .ok (.aload_n 0, 1) := by decide +kernel
theorem dX12_init_63 : decode cX12_init 63 = .ok (.bipush 10, 2) := by decide +kernel
theorem dX12_init_65 : decode cX12_init 65 = .ok (.newarray .int, 2) := by decide +kernel
theorem dX12_init_67 : decode cX12_init 67 = .ok (.putfield 32, 3) := by decide +kernel
theorem dX12_init_70 : decode cX12_init 70 = .ok (.aload_n 0, 1) := by decide +kernel
theorem dX12_init_71 : decode cX12_init 71 = .ok (.bipush 10, 2) := by decide +kernel
theorem dX12_init_73 : decode cX12_init 73 = .ok (.newarray .int, 2) := by decide +kernel
theorem dX12_init_75 : decode cX12_init 75 = .ok (.putfield 35, 3) := by decide +kernel
theorem dX12_init_78 : decode cX12_init 78 = .ok (.aload_n 0, 1) := by decide +kernel
theorem dX12_init_79 : decode cX12_init 79 = .ok (.bipush 60, 2) := by decide +kernel
theorem dX12_init_81 : decode cX12_init 81 = .ok (.newarray .int, 2) := by decide +kernel
theorem dX12_init_83 : decode cX12_init 83 = .ok (.putfield 38, 3) := by decide +kernel
theorem dX12_init_86 : decode cX12_init 86 = .ok (.aload_n 0, 1) := by decide +kernel
theorem dX12_init_87 : decode cX12_init 87 = .ok (.bipush 50, 2) := by decide +kernel
theorem dX12_init_89 : decode cX12_init 89 = .ok (.newarray .int, 2) := by decide +kernel
theorem dX12_init_91 : decode cX12_init 91 = .ok (.putfield 41, 3) := by decide +kernel
theorem dX12_init_94 : decode cX12_init 94 = .ok (.aload_n 0, 1) := by decide +kernel
theorem dX12_init_95 : decode cX12_init 95 = .ok (.bipush 12, 2) := by decide +kernel
theorem dX12_init_97 : decode cX12_init 97 = .ok (.newarray .int, 2) := by decide +kernel
theorem dX12_init_99 : decode cX12_init 99 = .ok (.putfield 44, 3) := by decide +kernel
theorem dX12_init_102 : decode cX12_init 102 = .ok (.aload_n 0, 1) := by decide +kernel
theorem dX12_init_103 : decode cX12_init 103 = .ok (.bipush 120, 2) := by decide +kernel
theorem dX12_init_105 : decode cX12_init 105 = .ok (.newarray .int, 2) := by decide +kernel
theorem dX12_init_107 : decode cX12_init 107 = .ok (.putfield 47, 3) := by decide +kernel
theorem dX12_init_110 : decode cX12_init 110 = .ok (.aload_n 0, 1) := by decide +kernel
theorem dX12_init_111 : decode cX12_init 111 = .ok (.sipush 512, 3) := by decide +kernel
theorem dX12_init_114 : decode cX12_init 114 = .ok (.newarray .int, 2) := by decide +kernel
theorem dX12_init_116 : decode cX12_init 116 = .ok (.putfield 50, 3) := by decide +kernel
theorem dX12_init_119 : decode cX12_init 119 = .ok (.aload_n 0, 1) := by decide +kernel
theorem dX12_init_120 : decode cX12_init 120 = .ok (.sipush 512, 3) := by decide +kernel
theorem dX12_init_123 : decode cX12_init 123 = .ok (.newarray .int, 2) := by decide +kernel
theorem dX12_init_125 : decode cX12_init 125 = .ok (.putfield 53, 3) := by decide +kernel
theorem dX12_init_128 : decode cX12_init 128 = .ok (.aload_n 0, 1) := by decide +kernel
theorem dX12_init_129 : decode cX12_init 129 = .ok (.sipush 512, 3) := by decide +kernel
theorem dX12_init_132 : decode cX12_init 132 = .ok (.newarray .int, 2) := by decide +kernel
theorem dX12_init_134 : decode cX12_init 134 = .ok (.putfield 56, 3) := by decide +kernel
theorem dX12_init_137 : decode cX12_init 137 = .ok (.aload_n 0, 1) := by decide +kernel
theorem dX12_init_138 : decode cX12_init 138 = .ok (.bipush 40, 2) := by decide +kernel
theorem dX12_init_140 : decode cX12_init 140 = .ok (.newarray .int, 2) := by decide +kernel
theorem dX12_init_142 : decode cX12_init 142 = .ok (.putfield 59, 3) := by decide +kernel
theorem dX12_init_145 : decode cX12_init 145 = .ok (.aload_n 0, 1) := by decide +kernel
theorem dX12_init_146 : decode cX12_init 146 = .ok (.sipush 200, 3) := by decide +kernel
theorem dX12_init_149 : decode cX12_init 149 = .ok (.newarray .int, 2) := by decide +kernel
theorem dX12_init_151 : decode cX12_init 151 = .ok (.putfield 62, 3) := by decide +kernel
theorem dX12_init_154 : decode cX12_init 154 = .ok (.return_, 1) := by decide +kernel
theorem dX12_feed_0 : decode cX12_feed 0 = .ok (.aload_n 0, 1) := by decide +kernel
theorem dX12_feed_1 : decode cX12_feed 1 = .ok (.getfield 65, 3) := by decide +kernel
theorem dX12_feed_4 : decode cX12_feed 4 = .ok (.bipush 20, 2) := by decide +kernel
theorem dX12_feed_6 : decode cX12_feed 6 = .ok (.iadd, 1) := by decide +kernel
theorem dX12_feed_7 : decode cX12_feed 7 = .ok (.sipush 200, 3) := by decide +kernel
theorem dX12_feed_10 : decode cX12_feed 10 = .ok (.if_icmp .le 5, 3) := by decide +kernel
theorem dX12_feed_13 : decode cX12_feed 13 = .ok (.iconst (-1), 1) := by decide +kernel
theorem dX12_feed_14 : decode cX12_feed 14 = .ok (.ireturn, 1) := by decide +kernel
theorem dX12_feed_15 : decode cX12_feed 15 = .ok (.iconst 0, 1) := by decide +kernel
theorem dX12_feed_16 : decode cX12_feed 16 = .ok (.istore 6, 2) := by decide +kernel
theorem dX12_feed_18 : decode cX12_feed 18 = .ok (.iload 6, 2) := by decide +kernel
theorem dX12_feed_20 : decode cX12_feed 20 = .ok (.bipush 20, 2) := by decide +kernel
theorem dX12_feed_22 : decode cX12_feed 22 = .ok (.if_icmp .ge 92, 3) := by decide +kernel
theorem dX12_feed_25 : decode cX12_feed 25 = .ok (.iload 6, 2) := by decide +kernel
theorem dX12_feed_27 : decode cX12_feed 27 = .ok (.iconst 4, 1) := by decide +kernel
theorem dX12_feed_28 : decode cX12_feed 28 = .ok (.if_icmp .ge 7, 3) := by decide +kernel
theorem dX12_feed_31 : decode cX12_feed 31 = .ok (.iload_n 1, 1) := by decide +kernel
theorem dX12_feed_32 : decode cX12_feed 32 = .ok (.goto 39, 3) := by decide +kernel
theorem dX12_feed_35 : decode cX12_feed 35 = .ok (.iload 6, 2) := by decide +kernel
theorem dX12_feed_37 : decode cX12_feed 37 = .ok (.bipush 8, 2) := by decide +kernel
theorem dX12_feed_39 : decode cX12_feed 39 = .ok (.if_icmp .ge 7, 3) := by decide +kernel
theorem dX12_feed_42 : decode cX12_feed 42 = .ok (.iload_n 2, 1) := by decide +kernel
theorem dX12_feed_43 : decode cX12_feed 43 = .ok (.goto 28, 3) := by decide +kernel
theorem dX12_feed_46 : decode cX12_feed 46 = .ok (.iload 6, 2) := by decide +kernel
theorem dX12_feed_48 : decode cX12_feed 48 = .ok (.bipush 12, 2) := by decide +kernel
theorem dX12_feed_50 : decode cX12_feed 50 = .ok (.if_icmp .ge 7, 3) := by decide +kernel
theorem dX12_feed_53 : decode cX12_feed 53 = .ok (.iload_n 3, 1) := by decide +kernel
theorem dX12_feed_54 : decode cX12_feed 54 = .ok (.goto 17, 3) := by decide +kernel
theorem dX12_feed_57 : decode cX12_feed 57 = .ok (.iload 6, 2) := by decide +kernel
theorem dX12_feed_59 : decode cX12_feed 59 = .ok (.bipush 16, 2) := by decide +kernel
theorem dX12_feed_61 : decode cX12_feed 61 = .ok (.if_icmp .ge 8, 3) := by decide +kernel
theorem dX12_feed_64 : decode cX12_feed 64 = .ok (.iload 4, 2) := by decide +kernel
theorem dX12_feed_66 : decode cX12_feed 66 = .ok (.goto 5, 3) := by decide +kernel
theorem dX12_feed_69 : decode cX12_feed 69 = .ok (.iload 5, 2) := by decide +kernel
theorem dX12_feed_71 : decode cX12_feed 71 = .ok (.istore 7, 2) := by decide +kernel
theorem dX12_feed_73 : decode cX12_feed 73 = .ok (.aload_n 0, 1) := by decide +kernel
theorem dX12_feed_74 : decode cX12_feed 74 = .ok (.getfield 7, 3) := by decide +kernel
theorem dX12_feed_77 : decode cX12_feed 77 = .ok (.aload_n 0, 1) := by decide +kernel
theorem dX12_feed_78 : decode cX12_feed 78 = .ok (.getfield 65, 3) := by decide +kernel
theorem dX12_feed_81 : decode cX12_feed 81 = .ok (.iload 7, 2) := by decide +kernel
theorem dX12_feed_83 : decode cX12_feed 83 = .ok (.bipush 8, 2) := by decide +kernel
theorem dX12_feed_85 : decode cX12_feed 85 = .ok (.iconst 3, 1) := by decide +kernel
theorem dX12_feed_86 : decode cX12_feed 86 = .ok (.iload 6, 2) := by decide +kernel
theorem dX12_feed_88 : decode cX12_feed 88 = .ok (.iconst 4, 1) := by decide +kernel
theorem dX12_feed_89 : decode cX12_feed 89 = .ok (.irem, 1) := by decide +kernel
theorem dX12_feed_90 : decode cX12_feed 90 = .ok (.isub, 1) := by decide +kernel
theorem dX12_feed_91 : decode cX12_feed 91 = .ok (.imul, 1) := by decide +kernel
theorem dX12_feed_92 : decode cX12_feed 92 = .ok (.ishr, 1) := by decide +kernel
theorem dX12_feed_93 : decode cX12_feed 93 = .ok (.sipush 255, 3) := by decide +kernel
theorem dX12_feed_96 : decode cX12_feed 96 = .ok (.iand, 1) := by decide +kernel
theorem dX12_feed_97 : decode cX12_feed 97 = .ok (.iastore, 1) := by decide +kernel
theorem dX12_feed_98 : decode cX12_feed 98 = .ok (.aload_n 0, 1) := by decide +kernel
theorem dX12_feed_99 : decode cX12_feed 99 = .ok (.dup, 1) := by decide +kernel
theorem dX12_feed_100 : decode cX12_feed 100 = .ok (.getfield 65, 3) := by decide +kernel
theorem dX12_feed_103 : decode cX12_feed 103 = .ok (.iconst 1, 1) := by decide +kernel
theorem dX12_feed_104 : decode cX12_feed 104 = .ok (.iadd, 1) := by decide +kernel
theorem dX12_feed_105 : decode cX12_feed 105 = .ok (.putfield 65, 3) := by decide +kernel
theorem dX12_feed_108 : decode cX12_feed 108 = .ok (.iinc 6 1, 3) := by decide +kernel
theorem dX12_feed_111 : decode cX12_feed 111 = .ok (.goto (-93), 3) := by decide +kernel
theorem dX12_feed_114 : decode cX12_feed 114 = .ok (.aload_n 0, 1) := by decide +kernel
theorem dX12_feed_115 : decode cX12_feed 115 = .ok (.getfield 65, 3) := by decide +kernel
theorem dX12_feed_118 : decode cX12_feed 118 = .ok (.ireturn, 1) := by decide +kernel
theorem dX12_end_0 : decode cX12_end 0 = .ok (.iload_n 1, 1) := by decide +kernel
theorem dX12_end_1 : decode cX12_end 1 = .ok (.ifCond .lt 11, 3) := by decide +kernel
theorem dX12_end_4 : decode cX12_end 4 = .ok (.iload_n 1, 1) := by decide +kernel
theorem dX12_end_5 : decode cX12_end 5 = .ok (.aload_n 0, 1) := by decide +kernel
theorem dX12_end_6 : decode cX12_end 6 = .ok (.getfield 65, 3) := by decide +kernel
theorem dX12_end_9 : decode cX12_end 9 = .ok (.if_icmp .le 5, 3) := by decide +kernel
theorem dX12_end_12 : decode cX12_end 12 = .ok (.iconst 0, 1) := by decide +kernel
theorem dX12_end_13 : decode cX12_end 13 = .ok (.ireturn, 1) := by decide +kernel
theorem dX12_end_14 : decode cX12_end 14 = .ok (.aload_n 0, 1) := by decide +kernel
theorem dX12_end_15 : decode cX12_end 15 = .ok (.iload_n 1, 1) := by decide +kernel
theorem dX12_end_16 : decode cX12_end 16 = .ok (.putfield 65, 3) := by decide +kernel
theorem dX12_end_19 : decode cX12_end 19 = .ok (.iconst 1, 1) := by decide +kernel
theorem dX12_end_20 : decode cX12_end 20 = .ok (.ireturn, 1) := by decide +kernel
theorem dX12_isIn_0 : decode cX12_isIn 0 = .ok (.iload_n 0, 1) := by decide +kernel
theorem dX12_isIn_1 : decode cX12_isIn 1 = .ok (.iload_n 1, 1) := by decide +kernel
theorem dX12_isIn_2 : decode cX12_isIn 2 = .ok (.if_icmp .lt 12, 3) := by decide +kernel
theorem dX12_isIn_5 : decode cX12_isIn 5 = .ok (.iload_n 0, 1) := by decide +kernel
theorem dX12_isIn_6 : decode cX12_isIn 6 = .ok (.iload_n 2, 1) := by decide +kernel
theorem dX12_isIn_7 : decode cX12_isIn 7 = .ok (.if_icmp .gt 7, 3) := by decide +kernel
theorem dX12_isIn_10 : decode cX12_isIn 10 = .ok (.iconst 1, 1) := by decide +kernel
theorem dX12_isIn_11 : decode cX12_isIn 11 = .ok (.goto 4, 3) := by decide +kernel
theorem dX12_isIn_14 : decode cX12_isIn 14 = .ok (.iconst 0, 1) := by decide +kernel
theorem dX12_isIn_15 : decode cX12_isIn 15 = .ok (.ireturn, 1) := by decide +kernel
theorem dX12_isLetter_0 : decode cX12_isLetter 0 = .ok (.iload_n 0, 1) := by decide +kernel
theorem dX12_isLetter_1 : decode cX12_isLetter 1 = .ok (.bipush 97, 2) := by decide +kernel
theorem dX12_isLetter_3 : decode cX12_isLetter 3 = .ok (.if_icmp .lt 13, 3) := by decide +kernel
theorem dX12_isLetter_6 : decode cX12_isLetter 6 = .ok (.iload_n 0, 1) := by decide +kernel
theorem dX12_isLetter_7 : decode cX12_isLetter 7 = .ok (.bipush 122, 2) := by decide +kernel
theorem dX12_isLetter_9 : decode cX12_isLetter 9 = .ok (.if_icmp .gt 7, 3) := by decide +kernel
theorem dX12_isLetter_12 : decode cX12_isLetter 12 = .ok (.iconst 1, 1) := by decide +kernel
theorem dX12_isLetter_13 : decode cX12_isLetter 13 = .ok (.goto 4, 3) := by decide +kernel
theorem dX12_isLetter_16 : decode cX12_isLetter 16 = .ok (.iconst 0, 1) := by decide +kernel
theorem dX12_isLetter_17 : decode cX12_isLetter 17 = .ok (.ireturn, 1) := by decide +kernel
theorem dX12_isBit_0 : decode cX12_isBit 0 = .ok (.iload_n 1, 1) := by decide +kernel
theorem dX12_isBit_1 : decode cX12_isBit 1 = .ok (.iconst 0, 1) := by decide +kernel
theorem dX12_isBit_2 : decode cX12_isBit 2 = .ok (.bipush 9, 2) := by decide +kernel
theorem dX12_isBit_4 : decode cX12_isBit 4 = .ok (.invokestatic 69, 3) := by decide +kernel
theorem dX12_isBit_7 : decode cX12_isBit 7 = .ok (.ifCond .eq 16, 3) := by decide +kernel
theorem dX12_isBit_10 : decode cX12_isBit 10 = .ok (.aload_n 0, 1) := by decide +kernel
theorem dX12_isBit_11 : decode cX12_isBit 11 = .ok (.getfield 13, 3) := by decide +kernel
theorem dX12_isBit_14 : decode cX12_isBit 14 = .ok (.iload_n 1, 1) := by decide +kernel
theorem dX12_isBit_15 : decode cX12_isBit 15 = .ok (.baload, 1) := by decide +kernel
theorem dX12_isBit_16 : decode cX12_isBit 16 = .ok (.ifCond .eq 7, 3) := by decide +kernel
theorem dX12_isBit_19 : decode cX12_isBit 19 = .ok (.iconst 1, 1) := by decide +kernel
theorem dX12_isBit_20 : decode cX12_isBit 20 = .ok (.goto 4, 3) := by decide +kernel
theorem dX12_isBit_23 : decode cX12_isBit 23 = .ok (.iconst 0, 1) := by decide +kernel
theorem dX12_isBit_24 : decode cX12_isBit 24 = .ok (.ireturn, 1) := by decide +kernel
theorem dX12_reads_0 : decode cX12_reads 0 = .ok (.iconst 0, 1) := by decide +kernel
theorem dX12_reads_1 : decode cX12_reads 1 = .ok (.istore_n 2, 1) := by decide +kernel
theorem dX12_reads_2 : decode cX12_reads 2 = .ok (.iload_n 2, 1) := by decide +kernel
theorem dX12_reads_3 : decode cX12_reads 3 = .ok (.bipush 50, 2) := by decide +kernel
theorem dX12_reads_5 : decode cX12_reads 5 = .ok (.if_icmp .ge 17, 3) := by decide +kernel
theorem dX12_reads_8 : decode cX12_reads 8 = .ok (.aload_n 0, 1) := by decide +kernel
theorem dX12_reads_9 : decode cX12_reads 9 = .ok (.getfield 41, 3) := by decide +kernel
theorem dX12_reads_12 : decode cX12_reads 12 = .ok (.iload_n 2, 1) := by decide +kernel
theorem dX12_reads_13 : decode cX12_reads 13 = .ok (.bipush 95, 2) := by decide +kernel
theorem dX12_reads_15 : decode cX12_reads 15 = .ok (.iastore, 1) := by decide +kernel
theorem dX12_reads_16 : decode cX12_reads 16 = .ok (.iinc 2 1, 3) := by decide +kernel
theorem dX12_reads_19 : decode cX12_reads 19 = .ok (.goto (-17), 3) := by decide +kernel
theorem dX12_reads_22 : decode cX12_reads 22 = .ok (.iconst 0, 1) := by decide +kernel
theorem dX12_reads_23 : decode cX12_reads 23 = .ok (.istore_n 2, 1) := by decide +kernel
theorem dX12_reads_24 : decode cX12_reads 24 = .ok (.iconst 0, 1) := by decide +kernel
theorem dX12_reads_25 : decode cX12_reads 25 = .ok (.istore_n 3, 1) := by decide +kernel
theorem dX12_reads_26 : decode cX12_reads 26 = .ok (.iconst 0, 1) := by decide +kernel
theorem dX12_reads_27 : decode cX12_reads 27 = .ok (.istore 4, 2) := by decide +kernel
theorem dX12_reads_29 : decode cX12_reads 29 = .ok (.iconst 0, 1) := by decide +kernel
theorem dX12_reads_30 : decode cX12_reads 30 = .ok (.istore 5, 2) := by decide +kernel
theorem dX12_reads_32 : decode cX12_reads 32 = .ok (.iload 5, 2) := by decide +kernel
theorem dX12_reads_34 : decode cX12_reads 34 = .ok (.iload_n 1, 1) := by decide +kernel
theorem dX12_reads_35 : decode cX12_reads 35 = .ok (.if_icmp .ge 100, 3) := by decide +kernel
theorem dX12_reads_38 : decode cX12_reads 38 = .ok (.aload_n 0, 1) := by decide +kernel
theorem dX12_reads_39 : decode cX12_reads 39 = .ok (.getfield 7, 3) := by decide +kernel
theorem dX12_reads_42 : decode cX12_reads 42 = .ok (.iload 5, 2) := by decide +kernel
theorem dX12_reads_44 : decode cX12_reads 44 = .ok (.iaload, 1) := by decide +kernel
theorem dX12_reads_45 : decode cX12_reads 45 = .ok (.istore 6, 2) := by decide +kernel
theorem dX12_reads_47 : decode cX12_reads 47 = .ok (.iload 6, 2) := by decide +kernel
theorem dX12_reads_49 : decode cX12_reads 49 = .ok (.bipush 59, 2) := by decide +kernel
theorem dX12_reads_51 : decode cX12_reads 51 = .ok (.if_icmp .ne 15, 3) := by decide +kernel
theorem dX12_reads_54 : decode cX12_reads 54 = .ok (.iinc 2 1, 3) := by decide +kernel
theorem dX12_reads_57 : decode cX12_reads 57 = .ok (.iconst 0, 1) := by decide +kernel
theorem dX12_reads_58 : decode cX12_reads 58 = .ok (.istore_n 3, 1) := by decide +kernel
theorem dX12_reads_59 : decode cX12_reads 59 = .ok (.iload_n 2, 1) := by decide +kernel
theorem dX12_reads_60 : decode cX12_reads 60 = .ok (.iconst 5, 1) := by decide +kernel
theorem dX12_reads_61 : decode cX12_reads 61 = .ok (.if_icmp .ne 68, 3) := by decide +kernel
theorem dX12_reads_64 : decode cX12_reads 64 = .ok (.iconst (-1), 1) := by decide +kernel
theorem dX12_reads_65 : decode cX12_reads 65 = .ok (.ireturn, 1) := by decide +kernel
theorem dX12_reads_66 : decode cX12_reads 66 = .ok (.iload 6, 2) := by decide +kernel
theorem dX12_reads_68 : decode cX12_reads 68 = .ok (.invokestatic 73, 3) := by decide +kernel
theorem dX12_reads_71 : decode cX12_reads 71 = .ok (.ifCond .ne 24, 3) := by decide +kernel
theorem dX12_reads_74 : decode cX12_reads 74 = .ok (.iload 6, 2) := by decide +kernel
theorem dX12_reads_76 : decode cX12_reads 76 = .ok (.bipush 46, 2) := by decide +kernel
theorem dX12_reads_78 : decode cX12_reads 78 = .ok (.if_icmp .eq 17, 3) := by decide +kernel
theorem dX12_reads_81 : decode cX12_reads 81 = .ok (.iload 6, 2) := by decide +kernel
theorem dX12_reads_83 : decode cX12_reads 83 = .ok (.bipush 44, 2) := by decide +kernel
theorem dX12_reads_85 : decode cX12_reads 85 = .ok (.if_icmp .eq 10, 3) := by decide +kernel
theorem dX12_reads_88 : decode cX12_reads 88 = .ok (.iload 6, 2) := by decide +kernel
theorem dX12_reads_90 : decode cX12_reads 90 = .ok (.bipush 95, 2) := by decide +kernel
theorem dX12_reads_92 : decode cX12_reads 92 = .ok (.if_icmp .ne 9, 3) := by decide +kernel
theorem dX12_reads_95 : decode cX12_reads 95 = .ok (.iload_n 3, 1) := by decide +kernel
theorem dX12_reads_96 : decode cX12_reads 96 = .ok (.bipush 10, 2) := by decide +kernel
theorem dX12_reads_98 : decode cX12_reads 98 = .ok (.if_icmp .ne 5, 3) := by decide +kernel
theorem dX12_reads_101 : decode cX12_reads 101 = .ok (.iconst (-1), 1) := by decide +kernel
theorem dX12_reads_102 : decode cX12_reads 102 = .ok (.ireturn, 1) := by decide +kernel
theorem dX12_reads_103 : decode cX12_reads 103 = .ok (.aload_n 0, 1) := by decide +kernel
theorem dX12_reads_104 : decode cX12_reads 104 = .ok (.getfield 41, 3) := by decide +kernel
theorem dX12_reads_107 : decode cX12_reads 107 = .ok (.bipush 10, 2) := by decide +kernel
theorem dX12_reads_109 : decode cX12_reads 109 = .ok (.iload_n 2, 1) := by decide +kernel
theorem dX12_reads_110 : decode cX12_reads 110 = .ok (.imul, 1) := by decide +kernel
theorem dX12_reads_111 : decode cX12_reads 111 = .ok (.iload_n 3, 1) := by decide +kernel
theorem dX12_reads_112 : decode cX12_reads 112 = .ok (.iadd, 1) := by decide +kernel
theorem dX12_reads_113 : decode cX12_reads 113 = .ok (.iload 6, 2) := by decide +kernel
theorem dX12_reads_115 : decode cX12_reads 115 = .ok (.iastore, 1) := by decide +kernel
theorem dX12_reads_116 : decode cX12_reads 116 = .ok (.iinc 3 1, 3) := by decide +kernel
theorem dX12_reads_119 : decode cX12_reads 119 = .ok (.iload 6, 2) := by decide +kernel
theorem dX12_reads_121 : decode cX12_reads 121 = .ok (.bipush 95, 2) := by decide +kernel
theorem dX12_reads_123 : decode cX12_reads 123 = .ok (.if_icmp .eq 6, 3) := by decide +kernel
theorem dX12_reads_126 : decode cX12_reads 126 = .ok (.iinc 4 1, 3) := by decide +kernel
theorem dX12_reads_129 : decode cX12_reads 129 = .ok (.iinc 5 1, 3) := by decide +kernel
theorem dX12_reads_132 : decode cX12_reads 132 = .ok (.goto (-100), 3) := by decide +kernel
theorem dX12_reads_135 : decode cX12_reads 135 = .ok (.iload 4, 2) := by decide +kernel
theorem dX12_reads_137 : decode cX12_reads 137 = .ok (.ifCond .ne 7, 3) := by decide +kernel
theorem dX12_reads_140 : decode cX12_reads 140 = .ok (.iconst (-1), 1) := by decide +kernel
theorem dX12_reads_141 : decode cX12_reads 141 = .ok (.goto 5, 3) := by decide +kernel
theorem dX12_reads_144 : decode cX12_reads 144 = .ok (.iload 4, 2) := by decide +kernel
theorem dX12_reads_146 : decode cX12_reads 146 = .ok (.ireturn, 1) := by decide +kernel
theorem dX12_bit_0 : decode cX12_bit 0 = .ok (.aload_n 0, 1) := by decide +kernel
theorem dX12_bit_1 : decode cX12_bit 1 = .ok (.getfield 65, 3) := by decide +kernel
theorem dX12_bit_4 : decode cX12_bit 4 = .ok (.istore_n 2, 1) := by decide +kernel
theorem dX12_bit_5 : decode cX12_bit 5 = .ok (.aload_n 0, 1) := by decide +kernel
theorem dX12_bit_6 : decode cX12_bit 6 = .ok (.iconst 0, 1) := by decide +kernel
theorem dX12_bit_7 : decode cX12_bit 7 = .ok (.putfield 65, 3) := by decide +kernel
theorem dX12_bit_10 : decode cX12_bit 10 = .ok (.iload_n 1, 1) := by decide +kernel
theorem dX12_bit_11 : decode cX12_bit 11 = .ok (.iconst 0, 1) := by decide +kernel
theorem dX12_bit_12 : decode cX12_bit 12 = .ok (.bipush 9, 2) := by decide +kernel
theorem dX12_bit_14 : decode cX12_bit 14 = .ok (.invokestatic 69, 3) := by decide +kernel
theorem dX12_bit_17 : decode cX12_bit 17 = .ok (.ifCond .ne 5, 3) := by decide +kernel
theorem dX12_bit_20 : decode cX12_bit 20 = .ok (.iconst (-1), 1) := by decide +kernel
theorem dX12_bit_21 : decode cX12_bit 21 = .ok (.ireturn, 1) := by decide +kernel
theorem dX12_bit_22 : decode cX12_bit 22 = .ok (.aload_n 0, 1) := by decide +kernel
theorem dX12_bit_23 : decode cX12_bit 23 = .ok (.iload_n 2, 1) := by decide +kernel
theorem dX12_bit_24 : decode cX12_bit 24 = .ok (.invokevirtual 77, 3) := by decide +kernel
theorem dX12_bit_27 : decode cX12_bit 27 = .ok (.istore_n 3, 1) := by decide +kernel
theorem dX12_bit_28 : decode cX12_bit 28 = .ok (.iload_n 3, 1) := by decide +kernel
theorem dX12_bit_29 : decode cX12_bit 29 = .ok (.iconst (-1), 1) := by decide +kernel
theorem dX12_bit_30 : decode cX12_bit 30 = .ok (.if_icmp .ne 5, 3) := by decide +kernel
theorem dX12_bit_33 : decode cX12_bit 33 = .ok (.iconst (-1), 1) := by decide +kernel
theorem dX12_bit_34 : decode cX12_bit 34 = .ok (.ireturn, 1) := by decide +kernel
theorem dX12_bit_35 : decode cX12_bit 35 = .ok (.aload_n 0, 1) := by decide +kernel
theorem dX12_bit_36 : decode cX12_bit 36 = .ok (.getfield 13, 3) := by decide +kernel
theorem dX12_bit_39 : decode cX12_bit 39 = .ok (.iload_n 1, 1) := by decide +kernel
theorem dX12_bit_40 : decode cX12_bit 40 = .ok (.iconst 1, 1) := by decide +kernel
theorem dX12_bit_41 : decode cX12_bit 41 = .ok (.bastore, 1) := by decide +kernel
theorem dX12_bit_42 : decode cX12_bit 42 = .ok (.aload_n 0, 1) := by decide +kernel
theorem dX12_bit_43 : decode cX12_bit 43 = .ok (.getfield 26, 3) := by decide +kernel
theorem dX12_bit_46 : decode cX12_bit 46 = .ok (.iload_n 1, 1) := by decide +kernel
theorem dX12_bit_47 : decode cX12_bit 47 = .ok (.iconst 0, 1) := by decide +kernel
theorem dX12_bit_48 : decode cX12_bit 48 = .ok (.bastore, 1) := by decide +kernel
theorem dX12_bit_49 : decode cX12_bit 49 = .ok (.aload_n 0, 1) := by decide +kernel
theorem dX12_bit_50 : decode cX12_bit 50 = .ok (.getfield 35, 3) := by decide +kernel
theorem dX12_bit_53 : decode cX12_bit 53 = .ok (.iload_n 1, 1) := by decide +kernel
theorem dX12_bit_54 : decode cX12_bit 54 = .ok (.iconst 0, 1) := by decide +kernel
theorem dX12_bit_55 : decode cX12_bit 55 = .ok (.iastore, 1) := by decide +kernel
theorem dX12_bit_56 : decode cX12_bit 56 = .ok (.iconst 0, 1) := by decide +kernel
theorem dX12_bit_57 : decode cX12_bit 57 = .ok (.istore 4, 2) := by decide +kernel
theorem dX12_bit_59 : decode cX12_bit 59 = .ok (.iload 4, 2) := by decide +kernel
theorem dX12_bit_61 : decode cX12_bit 61 = .ok (.bipush 50, 2) := by decide +kernel
theorem dX12_bit_63 : decode cX12_bit 63 = .ok (.if_icmp .ge 28, 3) := by decide +kernel
theorem dX12_bit_66 : decode cX12_bit 66 = .ok (.aload_n 0, 1) := by decide +kernel
theorem dX12_bit_67 : decode cX12_bit 67 = .ok (.getfield 17, 3) := by decide +kernel
theorem dX12_bit_70 : decode cX12_bit 70 = .ok (.bipush 50, 2) := by decide +kernel
theorem dX12_bit_72 : decode cX12_bit 72 = .ok (.iload_n 1, 1) := by decide +kernel
theorem dX12_bit_73 : decode cX12_bit 73 = .ok (.imul, 1) := by decide +kernel
theorem dX12_bit_74 : decode cX12_bit 74 = .ok (.iload 4, 2) := by decide +kernel
theorem dX12_bit_76 : decode cX12_bit 76 = .ok (.iadd, 1) := by decide +kernel
theorem dX12_bit_77 : decode cX12_bit 77 = .ok (.aload_n 0, 1) := by decide +kernel
theorem dX12_bit_78 : decode cX12_bit 78 = .ok (.getfield 41, 3) := by decide +kernel
theorem dX12_bit_81 : decode cX12_bit 81 = .ok (.iload 4, 2) := by decide +kernel
theorem dX12_bit_83 : decode cX12_bit 83 = .ok (.iaload, 1) := by decide +kernel
theorem dX12_bit_84 : decode cX12_bit 84 = .ok (.iastore, 1) := by decide +kernel
theorem dX12_bit_85 : decode cX12_bit 85 = .ok (.iinc 4 1, 3) := by decide +kernel
theorem dX12_bit_88 : decode cX12_bit 88 = .ok (.goto (-29), 3) := by decide +kernel
theorem dX12_bit_91 : decode cX12_bit 91 = .ok (.iconst 0, 1) := by decide +kernel
theorem dX12_bit_92 : decode cX12_bit 92 = .ok (.istore 4, 2) := by decide +kernel
theorem dX12_bit_94 : decode cX12_bit 94 = .ok (.iload 4, 2) := by decide +kernel
theorem dX12_bit_96 : decode cX12_bit 96 = .ok (.iconst 5, 1) := by decide +kernel
theorem dX12_bit_97 : decode cX12_bit 97 = .ok (.if_icmp .ge 21, 3) := by decide +kernel
theorem dX12_bit_100 : decode cX12_bit 100 = .ok (.aload_n 0, 1) := by decide +kernel
theorem dX12_bit_101 : decode cX12_bit 101 = .ok (.getfield 20, 3) := by decide +kernel
theorem dX12_bit_104 : decode cX12_bit 104 = .ok (.iconst 5, 1) := by decide +kernel
theorem dX12_bit_105 : decode cX12_bit 105 = .ok (.iload_n 1, 1) := by decide +kernel
theorem dX12_bit_106 : decode cX12_bit 106 = .ok (.imul, 1) := by decide +kernel
theorem dX12_bit_107 : decode cX12_bit 107 = .ok (.iload 4, 2) := by decide +kernel
theorem dX12_bit_109 : decode cX12_bit 109 = .ok (.iadd, 1) := by decide +kernel
theorem dX12_bit_110 : decode cX12_bit 110 = .ok (.iconst 0, 1) := by decide +kernel
theorem dX12_bit_111 : decode cX12_bit 111 = .ok (.iastore, 1) := by decide +kernel
theorem dX12_bit_112 : decode cX12_bit 112 = .ok (.iinc 4 1, 3) := by decide +kernel
theorem dX12_bit_115 : decode cX12_bit 115 = .ok (.goto (-21), 3) := by decide +kernel
theorem dX12_bit_118 : decode cX12_bit 118 = .ok (.iconst 0, 1) := by decide +kernel
theorem dX12_bit_119 : decode cX12_bit 119 = .ok (.istore 4, 2) := by decide +kernel
theorem dX12_bit_121 : decode cX12_bit 121 = .ok (.iload 4, 2) := by decide +kernel
theorem dX12_bit_123 : decode cX12_bit 123 = .ok (.bipush 10, 2) := by decide +kernel
theorem dX12_bit_125 : decode cX12_bit 125 = .ok (.if_icmp .ge 22, 3) := by decide +kernel
theorem dX12_bit_128 : decode cX12_bit 128 = .ok (.aload_n 0, 1) := by decide +kernel
theorem dX12_bit_129 : decode cX12_bit 129 = .ok (.getfield 23, 3) := by decide +kernel
theorem dX12_bit_132 : decode cX12_bit 132 = .ok (.bipush 10, 2) := by decide +kernel
theorem dX12_bit_134 : decode cX12_bit 134 = .ok (.iload_n 1, 1) := by decide +kernel
theorem dX12_bit_135 : decode cX12_bit 135 = .ok (.imul, 1) := by decide +kernel
theorem dX12_bit_136 : decode cX12_bit 136 = .ok (.iload 4, 2) := by decide +kernel
theorem dX12_bit_138 : decode cX12_bit 138 = .ok (.iadd, 1) := by decide +kernel
theorem dX12_bit_139 : decode cX12_bit 139 = .ok (.iconst 0, 1) := by decide +kernel
theorem dX12_bit_140 : decode cX12_bit 140 = .ok (.iastore, 1) := by decide +kernel
theorem dX12_bit_141 : decode cX12_bit 141 = .ok (.iinc 4 1, 3) := by decide +kernel
theorem dX12_bit_144 : decode cX12_bit 144 = .ok (.goto (-23), 3) := by decide +kernel
theorem dX12_bit_147 : decode cX12_bit 147 = .ok (.iload_n 3, 1) := by decide +kernel
theorem dX12_bit_148 : decode cX12_bit 148 = .ok (.ireturn, 1) := by decide +kernel
theorem dX12_cell_0 : decode cX12_cell 0 = .ok (.aload_n 0, 1) := by decide +kernel
theorem dX12_cell_1 : decode cX12_cell 1 = .ok (.iload_n 1, 1) := by decide +kernel
theorem dX12_cell_2 : decode cX12_cell 2 = .ok (.invokevirtual 81, 3) := by decide +kernel
theorem dX12_cell_5 : decode cX12_cell 5 = .ok (.ifCond .eq 41, 3) := by decide +kernel
theorem dX12_cell_8 : decode cX12_cell 8 = .ok (.iload_n 2, 1) := by decide +kernel
theorem dX12_cell_9 : decode cX12_cell 9 = .ok (.iconst 0, 1) := by decide +kernel
theorem dX12_cell_10 : decode cX12_cell 10 = .ok (.iconst 4, 1) := by decide +kernel
theorem dX12_cell_11 : decode cX12_cell 11 = .ok (.invokestatic 69, 3) := by decide +kernel
theorem dX12_cell_14 : decode cX12_cell 14 = .ok (.ifCond .eq 32, 3) := by decide +kernel
theorem dX12_cell_17 : decode cX12_cell 17 = .ok (.iload_n 3, 1) := by decide +kernel
theorem dX12_cell_18 : decode cX12_cell 18 = .ok (.iconst 0, 1) := by decide +kernel
theorem dX12_cell_19 : decode cX12_cell 19 = .ok (.bipush 9, 2) := by decide +kernel
theorem dX12_cell_21 : decode cX12_cell 21 = .ok (.invokestatic 69, 3) := by decide +kernel
theorem dX12_cell_24 : decode cX12_cell 24 = .ok (.ifCond .eq 22, 3) := by decide +kernel
theorem dX12_cell_27 : decode cX12_cell 27 = .ok (.aload_n 0, 1) := by decide +kernel
theorem dX12_cell_28 : decode cX12_cell 28 = .ok (.getfield 17, 3) := by decide +kernel
theorem dX12_cell_31 : decode cX12_cell 31 = .ok (.bipush 50, 2) := by decide +kernel
theorem dX12_cell_33 : decode cX12_cell 33 = .ok (.iload_n 1, 1) := by decide +kernel
theorem dX12_cell_34 : decode cX12_cell 34 = .ok (.imul, 1) := by decide +kernel
theorem dX12_cell_35 : decode cX12_cell 35 = .ok (.bipush 10, 2) := by decide +kernel
theorem dX12_cell_37 : decode cX12_cell 37 = .ok (.iload_n 2, 1) := by decide +kernel
theorem dX12_cell_38 : decode cX12_cell 38 = .ok (.imul, 1) := by decide +kernel
theorem dX12_cell_39 : decode cX12_cell 39 = .ok (.iadd, 1) := by decide +kernel
theorem dX12_cell_40 : decode cX12_cell 40 = .ok (.iload_n 3, 1) := by decide +kernel
theorem dX12_cell_41 : decode cX12_cell 41 = .ok (.iadd, 1) := by decide +kernel
theorem dX12_cell_42 : decode cX12_cell 42 = .ok (.iaload, 1) := by decide +kernel
theorem dX12_cell_43 : decode cX12_cell 43 = .ok (.goto 4, 3) := by decide +kernel
theorem dX12_cell_46 : decode cX12_cell 46 = .ok (.iconst (-1), 1) := by decide +kernel
theorem dX12_cell_47 : decode cX12_cell 47 = .ok (.ireturn, 1) := by decide +kernel
theorem dX12_fibre_0 : decode cX12_fibre 0 = .ok (.aload_n 0, 1) := by decide +kernel
theorem dX12_fibre_1 : decode cX12_fibre 1 = .ok (.iload_n 1, 1) := by decide +kernel
theorem dX12_fibre_2 : decode cX12_fibre 2 = .ok (.invokevirtual 81, 3) := by decide +kernel
theorem dX12_fibre_5 : decode cX12_fibre 5 = .ok (.ifCond .eq 41, 3) := by decide +kernel
theorem dX12_fibre_8 : decode cX12_fibre 8 = .ok (.aload_n 0, 1) := by decide +kernel
theorem dX12_fibre_9 : decode cX12_fibre 9 = .ok (.getfield 26, 3) := by decide +kernel
theorem dX12_fibre_12 : decode cX12_fibre 12 = .ok (.iload_n 1, 1) := by decide +kernel
theorem dX12_fibre_13 : decode cX12_fibre 13 = .ok (.baload, 1) := by decide +kernel
theorem dX12_fibre_14 : decode cX12_fibre 14 = .ok (.ifCond .ne 32, 3) := by decide +kernel
theorem dX12_fibre_17 : decode cX12_fibre 17 = .ok (.iload 4, 2) := by decide +kernel
theorem dX12_fibre_19 : decode cX12_fibre 19 = .ok (.iconst 0, 1) := by decide +kernel
theorem dX12_fibre_20 : decode cX12_fibre 20 = .ok (.bipush 99, 2) := by decide +kernel
theorem dX12_fibre_22 : decode cX12_fibre 22 = .ok (.invokestatic 69, 3) := by decide +kernel
theorem dX12_fibre_25 : decode cX12_fibre 25 = .ok (.ifCond .eq 21, 3) := by decide +kernel
theorem dX12_fibre_28 : decode cX12_fibre 28 = .ok (.iload_n 3, 1) := by decide +kernel
theorem dX12_fibre_29 : decode cX12_fibre 29 = .ok (.iconst 0, 1) := by decide +kernel
theorem dX12_fibre_30 : decode cX12_fibre 30 = .ok (.iload_n 2, 1) := by decide +kernel
theorem dX12_fibre_31 : decode cX12_fibre 31 = .ok (.ifCond .eq 7, 3) := by decide +kernel
theorem dX12_fibre_34 : decode cX12_fibre 34 = .ok (.iconst 4, 1) := by decide +kernel
theorem dX12_fibre_35 : decode cX12_fibre 35 = .ok (.goto 5, 3) := by decide +kernel
theorem dX12_fibre_38 : decode cX12_fibre 38 = .ok (.bipush 9, 2) := by decide +kernel
theorem dX12_fibre_40 : decode cX12_fibre 40 = .ok (.invokestatic 69, 3) := by decide +kernel
theorem dX12_fibre_43 : decode cX12_fibre 43 = .ok (.ifCond .ne 5, 3) := by decide +kernel
theorem dX12_fibre_46 : decode cX12_fibre 46 = .ok (.iconst (-1), 1) := by decide +kernel
theorem dX12_fibre_47 : decode cX12_fibre 47 = .ok (.ireturn, 1) := by decide +kernel
theorem dX12_fibre_48 : decode cX12_fibre 48 = .ok (.iload_n 2, 1) := by decide +kernel
theorem dX12_fibre_49 : decode cX12_fibre 49 = .ok (.ifCond .eq 16, 3) := by decide +kernel
theorem dX12_fibre_52 : decode cX12_fibre 52 = .ok (.aload_n 0, 1) := by decide +kernel
theorem dX12_fibre_53 : decode cX12_fibre 53 = .ok (.getfield 20, 3) := by decide +kernel
theorem dX12_fibre_56 : decode cX12_fibre 56 = .ok (.iconst 5, 1) := by decide +kernel
theorem dX12_fibre_57 : decode cX12_fibre 57 = .ok (.iload_n 1, 1) := by decide +kernel
theorem dX12_fibre_58 : decode cX12_fibre 58 = .ok (.imul, 1) := by decide +kernel
theorem dX12_fibre_59 : decode cX12_fibre 59 = .ok (.iload_n 3, 1) := by decide +kernel
theorem dX12_fibre_60 : decode cX12_fibre 60 = .ok (.iadd, 1) := by decide +kernel
theorem dX12_fibre_61 : decode cX12_fibre 61 = .ok (.iaload, 1) := by decide +kernel
theorem dX12_fibre_62 : decode cX12_fibre 62 = .ok (.goto 14, 3) := by decide +kernel
theorem dX12_fibre_65 : decode cX12_fibre 65 = .ok (.aload_n 0, 1) := by decide +kernel
theorem dX12_fibre_66 : decode cX12_fibre 66 = .ok (.getfield 23, 3) := by decide +kernel
theorem dX12_fibre_69 : decode cX12_fibre 69 = .ok (.bipush 10, 2) := by decide +kernel
theorem dX12_fibre_71 : decode cX12_fibre 71 = .ok (.iload_n 1, 1) := by decide +kernel
theorem dX12_fibre_72 : decode cX12_fibre 72 = .ok (.imul, 1) := by decide +kernel
theorem dX12_fibre_73 : decode cX12_fibre 73 = .ok (.iload_n 3, 1) := by decide +kernel
theorem dX12_fibre_74 : decode cX12_fibre 74 = .ok (.iadd, 1) := by decide +kernel
theorem dX12_fibre_75 : decode cX12_fibre 75 = .ok (.iaload, 1) := by decide +kernel
theorem dX12_fibre_76 : decode cX12_fibre 76 = .ok (.istore 5, 2) := by decide +kernel
theorem dX12_fibre_78 : decode cX12_fibre 78 = .ok (.iload_n 2, 1) := by decide +kernel
theorem dX12_fibre_79 : decode cX12_fibre 79 = .ok (.ifCond .eq 18, 3) := by decide +kernel
theorem dX12_fibre_82 : decode cX12_fibre 82 = .ok (.aload_n 0, 1) := by decide +kernel
theorem dX12_fibre_83 : decode cX12_fibre 83 = .ok (.getfield 20, 3) := by decide +kernel
theorem dX12_fibre_86 : decode cX12_fibre 86 = .ok (.iconst 5, 1) := by decide +kernel
theorem dX12_fibre_87 : decode cX12_fibre 87 = .ok (.iload_n 1, 1) := by decide +kernel
theorem dX12_fibre_88 : decode cX12_fibre 88 = .ok (.imul, 1) := by decide +kernel
theorem dX12_fibre_89 : decode cX12_fibre 89 = .ok (.iload_n 3, 1) := by decide +kernel
theorem dX12_fibre_90 : decode cX12_fibre 90 = .ok (.iadd, 1) := by decide +kernel
theorem dX12_fibre_91 : decode cX12_fibre 91 = .ok (.iload 4, 2) := by decide +kernel
theorem dX12_fibre_93 : decode cX12_fibre 93 = .ok (.iastore, 1) := by decide +kernel
theorem dX12_fibre_94 : decode cX12_fibre 94 = .ok (.goto 16, 3) := by decide +kernel
theorem dX12_fibre_97 : decode cX12_fibre 97 = .ok (.aload_n 0, 1) := by decide +kernel
theorem dX12_fibre_98 : decode cX12_fibre 98 = .ok (.getfield 23, 3) := by decide +kernel
theorem dX12_fibre_101 : decode cX12_fibre 101 = .ok (.bipush 10, 2) := by decide +kernel
theorem dX12_fibre_103 : decode cX12_fibre 103 = .ok (.iload_n 1, 1) := by decide +kernel
theorem dX12_fibre_104 : decode cX12_fibre 104 = .ok (.imul, 1) := by decide +kernel
theorem dX12_fibre_105 : decode cX12_fibre 105 = .ok (.iload_n 3, 1) := by decide +kernel
theorem dX12_fibre_106 : decode cX12_fibre 106 = .ok (.iadd, 1) := by decide +kernel
theorem dX12_fibre_107 : decode cX12_fibre 107 = .ok (.iload 4, 2) := by decide +kernel
theorem dX12_fibre_109 : decode cX12_fibre 109 = .ok (.iastore, 1) := by decide +kernel
theorem dX12_fibre_110 : decode cX12_fibre 110 = .ok (.iload 5, 2) := by decide +kernel
theorem dX12_fibre_112 : decode cX12_fibre 112 = .ok (.ireturn, 1) := by decide +kernel
theorem dX12_word_0 : decode cX12_word 0 = .ok (.aload_n 0, 1) := by decide +kernel
theorem dX12_word_1 : decode cX12_word 1 = .ok (.getfield 65, 3) := by decide +kernel
theorem dX12_word_4 : decode cX12_word 4 = .ok (.istore_n 1, 1) := by decide +kernel
theorem dX12_word_5 : decode cX12_word 5 = .ok (.aload_n 0, 1) := by decide +kernel
theorem dX12_word_6 : decode cX12_word 6 = .ok (.iconst 0, 1) := by decide +kernel
theorem dX12_word_7 : decode cX12_word 7 = .ok (.putfield 65, 3) := by decide +kernel
theorem dX12_word_10 : decode cX12_word 10 = .ok (.iload_n 1, 1) := by decide +kernel
theorem dX12_word_11 : decode cX12_word 11 = .ok (.iconst 1, 1) := by decide +kernel
theorem dX12_word_12 : decode cX12_word 12 = .ok (.if_icmp .lt 18, 3) := by decide +kernel
theorem dX12_word_15 : decode cX12_word 15 = .ok (.iload_n 1, 1) := by decide +kernel
theorem dX12_word_16 : decode cX12_word 16 = .ok (.bipush 10, 2) := by decide +kernel
theorem dX12_word_18 : decode cX12_word 18 = .ok (.if_icmp .gt 12, 3) := by decide +kernel
theorem dX12_word_21 : decode cX12_word 21 = .ok (.aload_n 0, 1) := by decide +kernel
theorem dX12_word_22 : decode cX12_word 22 = .ok (.getfield 83, 3) := by decide +kernel
theorem dX12_word_25 : decode cX12_word 25 = .ok (.bipush 12, 2) := by decide +kernel
theorem dX12_word_27 : decode cX12_word 27 = .ok (.if_icmp .ne 5, 3) := by decide +kernel
theorem dX12_word_30 : decode cX12_word 30 = .ok (.iconst (-1), 1) := by decide +kernel
theorem dX12_word_31 : decode cX12_word 31 = .ok (.ireturn, 1) := by decide +kernel
theorem dX12_word_32 : decode cX12_word 32 = .ok (.iconst 0, 1) := by decide +kernel
theorem dX12_word_33 : decode cX12_word 33 = .ok (.istore_n 2, 1) := by decide +kernel
theorem dX12_word_34 : decode cX12_word 34 = .ok (.iload_n 2, 1) := by decide +kernel
theorem dX12_word_35 : decode cX12_word 35 = .ok (.iload_n 1, 1) := by decide +kernel
theorem dX12_word_36 : decode cX12_word 36 = .ok (.if_icmp .ge 23, 3) := by decide +kernel
theorem dX12_word_39 : decode cX12_word 39 = .ok (.aload_n 0, 1) := by decide +kernel
theorem dX12_word_40 : decode cX12_word 40 = .ok (.getfield 7, 3) := by decide +kernel
theorem dX12_word_43 : decode cX12_word 43 = .ok (.iload_n 2, 1) := by decide +kernel
theorem dX12_word_44 : decode cX12_word 44 = .ok (.iaload, 1) := by decide +kernel
theorem dX12_word_45 : decode cX12_word 45 = .ok (.invokestatic 73, 3) := by decide +kernel
theorem dX12_word_48 : decode cX12_word 48 = .ok (.ifCond .ne 5, 3) := by decide +kernel
theorem dX12_word_51 : decode cX12_word 51 = .ok (.iconst (-1), 1) := by decide +kernel
theorem dX12_word_52 : decode cX12_word 52 = .ok (.ireturn, 1) := by decide +kernel
theorem dX12_word_53 : decode cX12_word 53 = .ok (.iinc 2 1, 3) := by decide +kernel
theorem dX12_word_56 : decode cX12_word 56 = .ok (.goto (-22), 3) := by decide +kernel
theorem dX12_word_59 : decode cX12_word 59 = .ok (.aload_n 0, 1) := by decide +kernel
theorem dX12_word_60 : decode cX12_word 60 = .ok (.getfield 44, 3) := by decide +kernel
theorem dX12_word_63 : decode cX12_word 63 = .ok (.aload_n 0, 1) := by decide +kernel
theorem dX12_word_64 : decode cX12_word 64 = .ok (.getfield 83, 3) := by decide +kernel
theorem dX12_word_67 : decode cX12_word 67 = .ok (.iload_n 1, 1) := by decide +kernel
theorem dX12_word_68 : decode cX12_word 68 = .ok (.iastore, 1) := by decide +kernel
theorem dX12_word_69 : decode cX12_word 69 = .ok (.iconst 0, 1) := by decide +kernel
theorem dX12_word_70 : decode cX12_word 70 = .ok (.istore_n 2, 1) := by decide +kernel
theorem dX12_word_71 : decode cX12_word 71 = .ok (.iload_n 2, 1) := by decide +kernel
theorem dX12_word_72 : decode cX12_word 72 = .ok (.iload_n 1, 1) := by decide +kernel
theorem dX12_word_73 : decode cX12_word 73 = .ok (.if_icmp .ge 29, 3) := by decide +kernel
theorem dX12_word_76 : decode cX12_word 76 = .ok (.aload_n 0, 1) := by decide +kernel
theorem dX12_word_77 : decode cX12_word 77 = .ok (.getfield 47, 3) := by decide +kernel
theorem dX12_word_80 : decode cX12_word 80 = .ok (.bipush 10, 2) := by decide +kernel
theorem dX12_word_82 : decode cX12_word 82 = .ok (.aload_n 0, 1) := by decide +kernel
theorem dX12_word_83 : decode cX12_word 83 = .ok (.getfield 83, 3) := by decide +kernel
theorem dX12_word_86 : decode cX12_word 86 = .ok (.imul, 1) := by decide +kernel
theorem dX12_word_87 : decode cX12_word 87 = .ok (.iload_n 2, 1) := by decide +kernel
theorem dX12_word_88 : decode cX12_word 88 = .ok (.iadd, 1) := by decide +kernel
theorem dX12_word_89 : decode cX12_word 89 = .ok (.aload_n 0, 1) := by decide +kernel
theorem dX12_word_90 : decode cX12_word 90 = .ok (.getfield 7, 3) := by decide +kernel
theorem dX12_word_93 : decode cX12_word 93 = .ok (.iload_n 2, 1) := by decide +kernel
theorem dX12_word_94 : decode cX12_word 94 = .ok (.iaload, 1) := by decide +kernel
theorem dX12_word_95 : decode cX12_word 95 = .ok (.iastore, 1) := by decide +kernel
theorem dX12_word_96 : decode cX12_word 96 = .ok (.iinc 2 1, 3) := by decide +kernel
theorem dX12_word_99 : decode cX12_word 99 = .ok (.goto (-28), 3) := by decide +kernel
theorem dX12_word_102 : decode cX12_word 102 = .ok (.aload_n 0, 1) := by decide +kernel
theorem dX12_word_103 : decode cX12_word 103 = .ok (.dup, 1) := by decide +kernel
theorem dX12_word_104 : decode cX12_word 104 = .ok (.getfield 83, 3) := by decide +kernel
theorem dX12_word_107 : decode cX12_word 107 = .ok (.iconst 1, 1) := by decide +kernel
theorem dX12_word_108 : decode cX12_word 108 = .ok (.iadd, 1) := by decide +kernel
theorem dX12_word_109 : decode cX12_word 109 = .ok (.putfield 83, 3) := by decide +kernel
theorem dX12_word_112 : decode cX12_word 112 = .ok (.aload_n 0, 1) := by decide +kernel
theorem dX12_word_113 : decode cX12_word 113 = .ok (.getfield 83, 3) := by decide +kernel
theorem dX12_word_116 : decode cX12_word 116 = .ok (.ireturn, 1) := by decide +kernel
theorem dX12_at_0 : decode cX12_at 0 = .ok (.aload_n 0, 1) := by decide +kernel
theorem dX12_at_1 : decode cX12_at 1 = .ok (.getfield 17, 3) := by decide +kernel
theorem dX12_at_4 : decode cX12_at 4 = .ok (.bipush 50, 2) := by decide +kernel
theorem dX12_at_6 : decode cX12_at 6 = .ok (.iload_n 1, 1) := by decide +kernel
theorem dX12_at_7 : decode cX12_at 7 = .ok (.imul, 1) := by decide +kernel
theorem dX12_at_8 : decode cX12_at 8 = .ok (.bipush 10, 2) := by decide +kernel
theorem dX12_at_10 : decode cX12_at 10 = .ok (.iload_n 2, 1) := by decide +kernel
theorem dX12_at_11 : decode cX12_at 11 = .ok (.imul, 1) := by decide +kernel
theorem dX12_at_12 : decode cX12_at 12 = .ok (.iadd, 1) := by decide +kernel
theorem dX12_at_13 : decode cX12_at 13 = .ok (.iload_n 3, 1) := by decide +kernel
theorem dX12_at_14 : decode cX12_at 14 = .ok (.iadd, 1) := by decide +kernel
theorem dX12_at_15 : decode cX12_at 15 = .ok (.iaload, 1) := by decide +kernel
theorem dX12_at_16 : decode cX12_at 16 = .ok (.ireturn, 1) := by decide +kernel
theorem dX12_lays_0 : decode cX12_lays 0 = .ok (.iconst 0, 1) := by decide +kernel
theorem dX12_lays_1 : decode cX12_lays 1 = .ok (.istore_n 2, 1) := by decide +kernel
theorem dX12_lays_2 : decode cX12_lays 2 = .ok (.iload_n 2, 1) := by decide +kernel
theorem dX12_lays_3 : decode cX12_lays 3 = .ok (.iconst 5, 1) := by decide +kernel
theorem dX12_lays_4 : decode cX12_lays 4 = .ok (.if_icmp .ge 133, 3) := by decide +kernel
theorem dX12_lays_7 : decode cX12_lays 7 = .ok (.iconst 0, 1) := by decide +kernel
theorem dX12_lays_8 : decode cX12_lays 8 = .ok (.istore_n 3, 1) := by decide +kernel
theorem dX12_lays_9 : decode cX12_lays 9 = .ok (.iload_n 3, 1) := by decide +kernel
theorem dX12_lays_10 : decode cX12_lays 10 = .ok (.bipush 10, 2) := by decide +kernel
theorem dX12_lays_12 : decode cX12_lays 12 = .ok (.if_icmp .ge 119, 3) := by decide +kernel
theorem dX12_lays_15 : decode cX12_lays 15 = .ok (.aload_n 0, 1) := by decide +kernel
theorem dX12_lays_16 : decode cX12_lays 16 = .ok (.iload_n 1, 1) := by decide +kernel
theorem dX12_lays_17 : decode cX12_lays 17 = .ok (.iload_n 2, 1) := by decide +kernel
theorem dX12_lays_18 : decode cX12_lays 18 = .ok (.iload_n 3, 1) := by decide +kernel
theorem dX12_lays_19 : decode cX12_lays 19 = .ok (.invokevirtual 86, 3) := by decide +kernel
theorem dX12_lays_22 : decode cX12_lays 22 = .ok (.bipush 95, 2) := by decide +kernel
theorem dX12_lays_24 : decode cX12_lays 24 = .ok (.if_icmp .ne 6, 3) := by decide +kernel
theorem dX12_lays_27 : decode cX12_lays 27 = .ok (.goto 98, 3) := by decide +kernel
theorem dX12_lays_30 : decode cX12_lays 30 = .ok (.aload_n 0, 1) := by decide +kernel
theorem dX12_lays_31 : decode cX12_lays 31 = .ok (.getfield 29, 3) := by decide +kernel
theorem dX12_lays_34 : decode cX12_lays 34 = .ok (.iload_n 1, 1) := by decide +kernel
theorem dX12_lays_35 : decode cX12_lays 35 = .ok (.iaload, 1) := by decide +kernel
theorem dX12_lays_36 : decode cX12_lays 36 = .ok (.iload_n 2, 1) := by decide +kernel
theorem dX12_lays_37 : decode cX12_lays 37 = .ok (.iadd, 1) := by decide +kernel
theorem dX12_lays_38 : decode cX12_lays 38 = .ok (.istore 4, 2) := by decide +kernel
theorem dX12_lays_40 : decode cX12_lays 40 = .ok (.aload_n 0, 1) := by decide +kernel
theorem dX12_lays_41 : decode cX12_lays 41 = .ok (.getfield 32, 3) := by decide +kernel
theorem dX12_lays_44 : decode cX12_lays 44 = .ok (.iload_n 1, 1) := by decide +kernel
theorem dX12_lays_45 : decode cX12_lays 45 = .ok (.iaload, 1) := by decide +kernel
theorem dX12_lays_46 : decode cX12_lays 46 = .ok (.iload_n 3, 1) := by decide +kernel
theorem dX12_lays_47 : decode cX12_lays 47 = .ok (.iadd, 1) := by decide +kernel
theorem dX12_lays_48 : decode cX12_lays 48 = .ok (.istore 5, 2) := by decide +kernel
theorem dX12_lays_50 : decode cX12_lays 50 = .ok (.iload 4, 2) := by decide +kernel
theorem dX12_lays_52 : decode cX12_lays 52 = .ok (.iconst 0, 1) := by decide +kernel
theorem dX12_lays_53 : decode cX12_lays 53 = .ok (.bipush 15, 2) := by decide +kernel
theorem dX12_lays_55 : decode cX12_lays 55 = .ok (.invokestatic 69, 3) := by decide +kernel
theorem dX12_lays_58 : decode cX12_lays 58 = .ok (.ifCond .eq 31, 3) := by decide +kernel
theorem dX12_lays_61 : decode cX12_lays 61 = .ok (.iload 5, 2) := by decide +kernel
theorem dX12_lays_63 : decode cX12_lays 63 = .ok (.iconst 0, 1) := by decide +kernel
theorem dX12_lays_64 : decode cX12_lays 64 = .ok (.bipush 31, 2) := by decide +kernel
theorem dX12_lays_66 : decode cX12_lays 66 = .ok (.invokestatic 69, 3) := by decide +kernel
theorem dX12_lays_69 : decode cX12_lays 69 = .ok (.ifCond .eq 20, 3) := by decide +kernel
theorem dX12_lays_72 : decode cX12_lays 72 = .ok (.aload_n 0, 1) := by decide +kernel
theorem dX12_lays_73 : decode cX12_lays 73 = .ok (.getfield 53, 3) := by decide +kernel
theorem dX12_lays_76 : decode cX12_lays 76 = .ok (.bipush 32, 2) := by decide +kernel
theorem dX12_lays_78 : decode cX12_lays 78 = .ok (.iload 4, 2) := by decide +kernel
theorem dX12_lays_80 : decode cX12_lays 80 = .ok (.imul, 1) := by decide +kernel
theorem dX12_lays_81 : decode cX12_lays 81 = .ok (.iload 5, 2) := by decide +kernel
theorem dX12_lays_83 : decode cX12_lays 83 = .ok (.iadd, 1) := by decide +kernel
theorem dX12_lays_84 : decode cX12_lays 84 = .ok (.iaload, 1) := by decide +kernel
theorem dX12_lays_85 : decode cX12_lays 85 = .ok (.iconst (-1), 1) := by decide +kernel
theorem dX12_lays_86 : decode cX12_lays 86 = .ok (.if_icmp .eq 5, 3) := by decide +kernel
theorem dX12_lays_89 : decode cX12_lays 89 = .ok (.iconst 0, 1) := by decide +kernel
theorem dX12_lays_90 : decode cX12_lays 90 = .ok (.ireturn, 1) := by decide +kernel
theorem dX12_lays_91 : decode cX12_lays 91 = .ok (.aload_n 0, 1) := by decide +kernel
theorem dX12_lays_92 : decode cX12_lays 92 = .ok (.getfield 53, 3) := by decide +kernel
theorem dX12_lays_95 : decode cX12_lays 95 = .ok (.bipush 32, 2) := by decide +kernel
theorem dX12_lays_97 : decode cX12_lays 97 = .ok (.iload 4, 2) := by decide +kernel
theorem dX12_lays_99 : decode cX12_lays 99 = .ok (.imul, 1) := by decide +kernel
theorem dX12_lays_100 : decode cX12_lays 100 = .ok (.iload 5, 2) := by decide +kernel
theorem dX12_lays_102 : decode cX12_lays 102 = .ok (.iadd, 1) := by decide +kernel
theorem dX12_lays_103 : decode cX12_lays 103 = .ok (.iload_n 1, 1) := by decide +kernel
theorem dX12_lays_104 : decode cX12_lays 104 = .ok (.iastore, 1) := by decide +kernel
theorem dX12_lays_105 : decode cX12_lays 105 = .ok (.aload_n 0, 1) := by decide +kernel
theorem dX12_lays_106 : decode cX12_lays 106 = .ok (.getfield 50, 3) := by decide +kernel
theorem dX12_lays_109 : decode cX12_lays 109 = .ok (.bipush 32, 2) := by decide +kernel
theorem dX12_lays_111 : decode cX12_lays 111 = .ok (.iload 4, 2) := by decide +kernel
theorem dX12_lays_113 : decode cX12_lays 113 = .ok (.imul, 1) := by decide +kernel
theorem dX12_lays_114 : decode cX12_lays 114 = .ok (.iload 5, 2) := by decide +kernel
theorem dX12_lays_116 : decode cX12_lays 116 = .ok (.iadd, 1) := by decide +kernel
theorem dX12_lays_117 : decode cX12_lays 117 = .ok (.aload_n 0, 1) := by decide +kernel
theorem dX12_lays_118 : decode cX12_lays 118 = .ok (.iload_n 1, 1) := by decide +kernel
theorem dX12_lays_119 : decode cX12_lays 119 = .ok (.iload_n 2, 1) := by decide +kernel
theorem dX12_lays_120 : decode cX12_lays 120 = .ok (.iload_n 3, 1) := by decide +kernel
theorem dX12_lays_121 : decode cX12_lays 121 = .ok (.invokevirtual 86, 3) := by decide +kernel
theorem dX12_lays_124 : decode cX12_lays 124 = .ok (.iastore, 1) := by decide +kernel
theorem dX12_lays_125 : decode cX12_lays 125 = .ok (.iinc 3 1, 3) := by decide +kernel
theorem dX12_lays_128 : decode cX12_lays 128 = .ok (.goto (-119), 3) := by decide +kernel
theorem dX12_lays_131 : decode cX12_lays 131 = .ok (.iinc 2 1, 3) := by decide +kernel
theorem dX12_lays_134 : decode cX12_lays 134 = .ok (.goto (-132), 3) := by decide +kernel
theorem dX12_lays_137 : decode cX12_lays 137 = .ok (.iconst 1, 1) := by decide +kernel
theorem dX12_lays_138 : decode cX12_lays 138 = .ok (.ireturn, 1) := by decide +kernel
theorem dX12_laysAll_0 : decode cX12_laysAll 0 = .ok (.iconst 0, 1) := by decide +kernel
theorem dX12_laysAll_1 : decode cX12_laysAll 1 = .ok (.istore_n 1, 1) := by decide +kernel
theorem dX12_laysAll_2 : decode cX12_laysAll 2 = .ok (.iload_n 1, 1) := by decide +kernel
theorem dX12_laysAll_3 : decode cX12_laysAll 3 = .ok (.sipush 512, 3) := by decide +kernel
theorem dX12_laysAll_6 : decode cX12_laysAll 6 = .ok (.if_icmp .ge 24, 3) := by decide +kernel
theorem dX12_laysAll_9 : decode cX12_laysAll 9 = .ok (.aload_n 0, 1) := by decide +kernel
theorem dX12_laysAll_10 : decode cX12_laysAll 10 = .ok (.getfield 50, 3) := by decide +kernel
theorem dX12_laysAll_13 : decode cX12_laysAll 13 = .ok (.iload_n 1, 1) := by decide +kernel
theorem dX12_laysAll_14 : decode cX12_laysAll 14 = .ok (.bipush 95, 2) := by decide +kernel
theorem dX12_laysAll_16 : decode cX12_laysAll 16 = .ok (.iastore, 1) := by decide +kernel
theorem dX12_laysAll_17 : decode cX12_laysAll 17 = .ok (.aload_n 0, 1) := by decide +kernel
theorem dX12_laysAll_18 : decode cX12_laysAll 18 = .ok (.getfield 53, 3) := by decide +kernel
theorem dX12_laysAll_21 : decode cX12_laysAll 21 = .ok (.iload_n 1, 1) := by decide +kernel
theorem dX12_laysAll_22 : decode cX12_laysAll 22 = .ok (.iconst (-1), 1) := by decide +kernel
theorem dX12_laysAll_23 : decode cX12_laysAll 23 = .ok (.iastore, 1) := by decide +kernel
theorem dX12_laysAll_24 : decode cX12_laysAll 24 = .ok (.iinc 1 1, 3) := by decide +kernel
theorem dX12_laysAll_27 : decode cX12_laysAll 27 = .ok (.goto (-25), 3) := by decide +kernel
theorem dX12_laysAll_30 : decode cX12_laysAll 30 = .ok (.iconst 0, 1) := by decide +kernel
theorem dX12_laysAll_31 : decode cX12_laysAll 31 = .ok (.istore_n 1, 1) := by decide +kernel
theorem dX12_laysAll_32 : decode cX12_laysAll 32 = .ok (.iload_n 1, 1) := by decide +kernel
theorem dX12_laysAll_33 : decode cX12_laysAll 33 = .ok (.bipush 10, 2) := by decide +kernel
theorem dX12_laysAll_35 : decode cX12_laysAll 35 = .ok (.if_icmp .ge 28, 3) := by decide +kernel
theorem dX12_laysAll_38 : decode cX12_laysAll 38 = .ok (.aload_n 0, 1) := by decide +kernel
theorem dX12_laysAll_39 : decode cX12_laysAll 39 = .ok (.getfield 26, 3) := by decide +kernel
theorem dX12_laysAll_42 : decode cX12_laysAll 42 = .ok (.iload_n 1, 1) := by decide +kernel
theorem dX12_laysAll_43 : decode cX12_laysAll 43 = .ok (.baload, 1) := by decide +kernel
theorem dX12_laysAll_44 : decode cX12_laysAll 44 = .ok (.ifCond .eq 13, 3) := by decide +kernel
theorem dX12_laysAll_47 : decode cX12_laysAll 47 = .ok (.aload_n 0, 1) := by decide +kernel
theorem dX12_laysAll_48 : decode cX12_laysAll 48 = .ok (.iload_n 1, 1) := by decide +kernel
theorem dX12_laysAll_49 : decode cX12_laysAll 49 = .ok (.invokevirtual 90, 3) := by decide +kernel
theorem dX12_laysAll_52 : decode cX12_laysAll 52 = .ok (.ifCond .ne 5, 3) := by decide +kernel
theorem dX12_laysAll_55 : decode cX12_laysAll 55 = .ok (.iconst 0, 1) := by decide +kernel
theorem dX12_laysAll_56 : decode cX12_laysAll 56 = .ok (.ireturn, 1) := by decide +kernel
theorem dX12_laysAll_57 : decode cX12_laysAll 57 = .ok (.iinc 1 1, 3) := by decide +kernel
theorem dX12_laysAll_60 : decode cX12_laysAll 60 = .ok (.goto (-28), 3) := by decide +kernel
theorem dX12_laysAll_63 : decode cX12_laysAll 63 = .ok (.iconst 1, 1) := by decide +kernel
theorem dX12_laysAll_64 : decode cX12_laysAll 64 = .ok (.ireturn, 1) := by decide +kernel
theorem dX12_hasInRow_0 : decode cX12_hasInRow 0 = .ok (.iload_n 2, 1) := by decide +kernel
theorem dX12_hasInRow_1 : decode cX12_hasInRow 1 = .ok (.aload_n 0, 1) := by decide +kernel
theorem dX12_hasInRow_2 : decode cX12_hasInRow 2 = .ok (.getfield 29, 3) := by decide +kernel
theorem dX12_hasInRow_5 : decode cX12_hasInRow 5 = .ok (.iload_n 1, 1) := by decide +kernel
theorem dX12_hasInRow_6 : decode cX12_hasInRow 6 = .ok (.iaload, 1) := by decide +kernel
theorem dX12_hasInRow_7 : decode cX12_hasInRow 7 = .ok (.isub, 1) := by decide +kernel
theorem dX12_hasInRow_8 : decode cX12_hasInRow 8 = .ok (.istore_n 3, 1) := by decide +kernel
theorem dX12_hasInRow_9 : decode cX12_hasInRow 9 = .ok (.iload_n 3, 1) := by decide +kernel
theorem dX12_hasInRow_10 : decode cX12_hasInRow 10 = .ok (.iconst 0, 1) := by decide +kernel
theorem dX12_hasInRow_11 : decode cX12_hasInRow 11 = .ok (.iconst 4, 1) := by decide +kernel
theorem dX12_hasInRow_12 : decode cX12_hasInRow 12 = .ok (.invokestatic 69, 3) := by decide +kernel
theorem dX12_hasInRow_15 : decode cX12_hasInRow 15 = .ok (.ifCond .ne 5, 3) := by decide +kernel
theorem dX12_hasInRow_18 : decode cX12_hasInRow 18 = .ok (.iconst 0, 1) := by decide +kernel
theorem dX12_hasInRow_19 : decode cX12_hasInRow 19 = .ok (.ireturn, 1) := by decide +kernel
theorem dX12_hasInRow_20 : decode cX12_hasInRow 20 = .ok (.iconst 0, 1) := by decide +kernel
theorem dX12_hasInRow_21 : decode cX12_hasInRow 21 = .ok (.istore 4, 2) := by decide +kernel
theorem dX12_hasInRow_23 : decode cX12_hasInRow 23 = .ok (.iload 4, 2) := by decide +kernel
theorem dX12_hasInRow_25 : decode cX12_hasInRow 25 = .ok (.bipush 10, 2) := by decide +kernel
theorem dX12_hasInRow_27 : decode cX12_hasInRow 27 = .ok (.if_icmp .ge 24, 3) := by decide +kernel
theorem dX12_hasInRow_30 : decode cX12_hasInRow 30 = .ok (.aload_n 0, 1) := by decide +kernel
theorem dX12_hasInRow_31 : decode cX12_hasInRow 31 = .ok (.iload_n 1, 1) := by decide +kernel
theorem dX12_hasInRow_32 : decode cX12_hasInRow 32 = .ok (.iload_n 3, 1) := by decide +kernel
theorem dX12_hasInRow_33 : decode cX12_hasInRow 33 = .ok (.iload 4, 2) := by decide +kernel
theorem dX12_hasInRow_35 : decode cX12_hasInRow 35 = .ok (.invokevirtual 86, 3) := by decide +kernel
theorem dX12_hasInRow_38 : decode cX12_hasInRow 38 = .ok (.bipush 95, 2) := by decide +kernel
theorem dX12_hasInRow_40 : decode cX12_hasInRow 40 = .ok (.if_icmp .eq 5, 3) := by decide +kernel
theorem dX12_hasInRow_43 : decode cX12_hasInRow 43 = .ok (.iconst 1, 1) := by decide +kernel
theorem dX12_hasInRow_44 : decode cX12_hasInRow 44 = .ok (.ireturn, 1) := by decide +kernel
theorem dX12_hasInRow_45 : decode cX12_hasInRow 45 = .ok (.iinc 4 1, 3) := by decide +kernel
theorem dX12_hasInRow_48 : decode cX12_hasInRow 48 = .ok (.goto (-25), 3) := by decide +kernel
theorem dX12_hasInRow_51 : decode cX12_hasInRow 51 = .ok (.iconst 0, 1) := by decide +kernel
theorem dX12_hasInRow_52 : decode cX12_hasInRow 52 = .ok (.ireturn, 1) := by decide +kernel
theorem dX12_hasInColumn_0 : decode cX12_hasInColumn 0 = .ok (.iload_n 2, 1) := by decide +kernel
theorem dX12_hasInColumn_1 : decode cX12_hasInColumn 1 = .ok (.aload_n 0, 1) := by decide +kernel
theorem dX12_hasInColumn_2 : decode cX12_hasInColumn 2 = .ok (.getfield 32, 3) := by decide +kernel
theorem dX12_hasInColumn_5 : decode cX12_hasInColumn 5 = .ok (.iload_n 1, 1) := by decide +kernel
theorem dX12_hasInColumn_6 : decode cX12_hasInColumn 6 = .ok (.iaload, 1) := by decide +kernel
theorem dX12_hasInColumn_7 : decode cX12_hasInColumn 7 = .ok (.isub, 1) := by decide +kernel
theorem dX12_hasInColumn_8 : decode cX12_hasInColumn 8 = .ok (.istore_n 3, 1) := by decide +kernel
theorem dX12_hasInColumn_9 : decode cX12_hasInColumn 9 = .ok (.iload_n 3, 1) := by decide +kernel
theorem dX12_hasInColumn_10 : decode cX12_hasInColumn 10 = .ok (.iconst 0, 1) := by decide +kernel
theorem dX12_hasInColumn_11 : decode cX12_hasInColumn 11 = .ok (.bipush 9, 2) := by decide +kernel
theorem dX12_hasInColumn_13 : decode cX12_hasInColumn 13 = .ok (.invokestatic 69, 3) := by decide +kernel
theorem dX12_hasInColumn_16 : decode cX12_hasInColumn 16 = .ok (.ifCond .ne 5, 3) := by decide +kernel
theorem dX12_hasInColumn_19 : decode cX12_hasInColumn 19 = .ok (.iconst 0, 1) := by decide +kernel
theorem dX12_hasInColumn_20 : decode cX12_hasInColumn 20 = .ok (.ireturn, 1) := by decide +kernel
theorem dX12_hasInColumn_21 : decode cX12_hasInColumn 21 = .ok (.iconst 0, 1) := by decide +kernel
theorem dX12_hasInColumn_22 : decode cX12_hasInColumn 22 = .ok (.istore 4, 2) := by decide +kernel
theorem dX12_hasInColumn_24 : decode cX12_hasInColumn 24 = .ok (.iload 4, 2) := by decide +kernel
theorem dX12_hasInColumn_26 : decode cX12_hasInColumn 26 = .ok (.iconst 5, 1) := by decide +kernel
theorem dX12_hasInColumn_27 : decode cX12_hasInColumn 27 = .ok (.if_icmp .ge 24, 3) := by decide +kernel
theorem dX12_hasInColumn_30 : decode cX12_hasInColumn 30 = .ok (.aload_n 0, 1) := by decide +kernel
theorem dX12_hasInColumn_31 : decode cX12_hasInColumn 31 = .ok (.iload_n 1, 1) := by decide +kernel
theorem dX12_hasInColumn_32 : decode cX12_hasInColumn 32 = .ok (.iload 4, 2) := by decide +kernel
theorem dX12_hasInColumn_34 : decode cX12_hasInColumn 34 = .ok (.iload_n 3, 1) := by decide +kernel
theorem dX12_hasInColumn_35 : decode cX12_hasInColumn 35 = .ok (.invokevirtual 86, 3) := by decide +kernel
theorem dX12_hasInColumn_38 : decode cX12_hasInColumn 38 = .ok (.bipush 95, 2) := by decide +kernel
theorem dX12_hasInColumn_40 : decode cX12_hasInColumn 40 = .ok (.if_icmp .eq 5, 3) := by decide +kernel
theorem dX12_hasInColumn_43 : decode cX12_hasInColumn 43 = .ok (.iconst 1, 1) := by decide +kernel
theorem dX12_hasInColumn_44 : decode cX12_hasInColumn 44 = .ok (.ireturn, 1) := by decide +kernel
theorem dX12_hasInColumn_45 : decode cX12_hasInColumn 45 = .ok (.iinc 4 1, 3) := by decide +kernel
theorem dX12_hasInColumn_48 : decode cX12_hasInColumn 48 = .ok (.goto (-24), 3) := by decide +kernel
theorem dX12_hasInColumn_51 : decode cX12_hasInColumn 51 = .ok (.iconst 0, 1) := by decide +kernel
theorem dX12_hasInColumn_52 : decode cX12_hasInColumn 52 = .ok (.ireturn, 1) := by decide +kernel
theorem dX12_acrossOf_0 : decode cX12_acrossOf 0 = .ok (.aload_n 0, 1) := by decide +kernel
theorem dX12_acrossOf_1 : decode cX12_acrossOf 1 = .ok (.iload_n 1, 1) := by decide +kernel
theorem dX12_acrossOf_2 : decode cX12_acrossOf 2 = .ok (.iload_n 3, 1) := by decide +kernel
theorem dX12_acrossOf_3 : decode cX12_acrossOf 3 = .ok (.invokevirtual 93, 3) := by decide +kernel
theorem dX12_acrossOf_6 : decode cX12_acrossOf 6 = .ok (.ifCond .eq 12, 3) := by decide +kernel
theorem dX12_acrossOf_9 : decode cX12_acrossOf 9 = .ok (.aload_n 0, 1) := by decide +kernel
theorem dX12_acrossOf_10 : decode cX12_acrossOf 10 = .ok (.iload_n 2, 1) := by decide +kernel
theorem dX12_acrossOf_11 : decode cX12_acrossOf 11 = .ok (.iload_n 3, 1) := by decide +kernel
theorem dX12_acrossOf_12 : decode cX12_acrossOf 12 = .ok (.invokevirtual 93, 3) := by decide +kernel
theorem dX12_acrossOf_15 : decode cX12_acrossOf 15 = .ok (.ifCond .ne 5, 3) := by decide +kernel
theorem dX12_acrossOf_18 : decode cX12_acrossOf 18 = .ok (.iconst 0, 1) := by decide +kernel
theorem dX12_acrossOf_19 : decode cX12_acrossOf 19 = .ok (.ireturn, 1) := by decide +kernel
theorem dX12_acrossOf_20 : decode cX12_acrossOf 20 = .ok (.aload_n 0, 1) := by decide +kernel
theorem dX12_acrossOf_21 : decode cX12_acrossOf 21 = .ok (.getfield 20, 3) := by decide +kernel
theorem dX12_acrossOf_24 : decode cX12_acrossOf 24 = .ok (.iconst 5, 1) := by decide +kernel
theorem dX12_acrossOf_25 : decode cX12_acrossOf 25 = .ok (.iload_n 1, 1) := by decide +kernel
theorem dX12_acrossOf_26 : decode cX12_acrossOf 26 = .ok (.imul, 1) := by decide +kernel
theorem dX12_acrossOf_27 : decode cX12_acrossOf 27 = .ok (.iload_n 3, 1) := by decide +kernel
theorem dX12_acrossOf_28 : decode cX12_acrossOf 28 = .ok (.iadd, 1) := by decide +kernel
theorem dX12_acrossOf_29 : decode cX12_acrossOf 29 = .ok (.aload_n 0, 1) := by decide +kernel
theorem dX12_acrossOf_30 : decode cX12_acrossOf 30 = .ok (.getfield 29, 3) := by decide +kernel
theorem dX12_acrossOf_33 : decode cX12_acrossOf 33 = .ok (.iload_n 1, 1) := by decide +kernel
theorem dX12_acrossOf_34 : decode cX12_acrossOf 34 = .ok (.iaload, 1) := by decide +kernel
theorem dX12_acrossOf_35 : decode cX12_acrossOf 35 = .ok (.isub, 1) := by decide +kernel
theorem dX12_acrossOf_36 : decode cX12_acrossOf 36 = .ok (.iaload, 1) := by decide +kernel
theorem dX12_acrossOf_37 : decode cX12_acrossOf 37 = .ok (.istore 4, 2) := by decide +kernel
theorem dX12_acrossOf_39 : decode cX12_acrossOf 39 = .ok (.aload_n 0, 1) := by decide +kernel
theorem dX12_acrossOf_40 : decode cX12_acrossOf 40 = .ok (.getfield 20, 3) := by decide +kernel
theorem dX12_acrossOf_43 : decode cX12_acrossOf 43 = .ok (.iconst 5, 1) := by decide +kernel
theorem dX12_acrossOf_44 : decode cX12_acrossOf 44 = .ok (.iload_n 2, 1) := by decide +kernel
theorem dX12_acrossOf_45 : decode cX12_acrossOf 45 = .ok (.imul, 1) := by decide +kernel
theorem dX12_acrossOf_46 : decode cX12_acrossOf 46 = .ok (.iload_n 3, 1) := by decide +kernel
theorem dX12_acrossOf_47 : decode cX12_acrossOf 47 = .ok (.iadd, 1) := by decide +kernel
theorem dX12_acrossOf_48 : decode cX12_acrossOf 48 = .ok (.aload_n 0, 1) := by decide +kernel
theorem dX12_acrossOf_49 : decode cX12_acrossOf 49 = .ok (.getfield 29, 3) := by decide +kernel
theorem dX12_acrossOf_52 : decode cX12_acrossOf 52 = .ok (.iload_n 2, 1) := by decide +kernel
theorem dX12_acrossOf_53 : decode cX12_acrossOf 53 = .ok (.iaload, 1) := by decide +kernel
theorem dX12_acrossOf_54 : decode cX12_acrossOf 54 = .ok (.isub, 1) := by decide +kernel
theorem dX12_acrossOf_55 : decode cX12_acrossOf 55 = .ok (.iaload, 1) := by decide +kernel
theorem dX12_acrossOf_56 : decode cX12_acrossOf 56 = .ok (.istore 5, 2) := by decide +kernel
theorem dX12_acrossOf_58 : decode cX12_acrossOf 58 = .ok (.iload 4, 2) := by decide +kernel
theorem dX12_acrossOf_60 : decode cX12_acrossOf 60 = .ok (.ifCond .eq 8, 3) := by decide +kernel
theorem dX12_acrossOf_63 : decode cX12_acrossOf 63 = .ok (.iload 5, 2) := by decide +kernel
theorem dX12_acrossOf_65 : decode cX12_acrossOf 65 = .ok (.ifCond .ne 7, 3) := by decide +kernel
theorem dX12_acrossOf_68 : decode cX12_acrossOf 68 = .ok (.iconst 0, 1) := by decide +kernel
theorem dX12_acrossOf_69 : decode cX12_acrossOf 69 = .ok (.goto 15, 3) := by decide +kernel
theorem dX12_acrossOf_72 : decode cX12_acrossOf 72 = .ok (.iload 4, 2) := by decide +kernel
theorem dX12_acrossOf_74 : decode cX12_acrossOf 74 = .ok (.iload 5, 2) := by decide +kernel
theorem dX12_acrossOf_76 : decode cX12_acrossOf 76 = .ok (.if_icmp .ne 7, 3) := by decide +kernel
theorem dX12_acrossOf_79 : decode cX12_acrossOf 79 = .ok (.iconst 1, 1) := by decide +kernel
theorem dX12_acrossOf_80 : decode cX12_acrossOf 80 = .ok (.goto 4, 3) := by decide +kernel
theorem dX12_acrossOf_83 : decode cX12_acrossOf 83 = .ok (.iconst (-1), 1) := by decide +kernel
theorem dX12_acrossOf_84 : decode cX12_acrossOf 84 = .ok (.ireturn, 1) := by decide +kernel
theorem dX12_downOf_0 : decode cX12_downOf 0 = .ok (.aload_n 0, 1) := by decide +kernel
theorem dX12_downOf_1 : decode cX12_downOf 1 = .ok (.iload_n 1, 1) := by decide +kernel
theorem dX12_downOf_2 : decode cX12_downOf 2 = .ok (.iload_n 3, 1) := by decide +kernel
theorem dX12_downOf_3 : decode cX12_downOf 3 = .ok (.invokevirtual 97, 3) := by decide +kernel
theorem dX12_downOf_6 : decode cX12_downOf 6 = .ok (.ifCond .eq 12, 3) := by decide +kernel
theorem dX12_downOf_9 : decode cX12_downOf 9 = .ok (.aload_n 0, 1) := by decide +kernel
theorem dX12_downOf_10 : decode cX12_downOf 10 = .ok (.iload_n 2, 1) := by decide +kernel
theorem dX12_downOf_11 : decode cX12_downOf 11 = .ok (.iload_n 3, 1) := by decide +kernel
theorem dX12_downOf_12 : decode cX12_downOf 12 = .ok (.invokevirtual 97, 3) := by decide +kernel
theorem dX12_downOf_15 : decode cX12_downOf 15 = .ok (.ifCond .ne 5, 3) := by decide +kernel
theorem dX12_downOf_18 : decode cX12_downOf 18 = .ok (.iconst 0, 1) := by decide +kernel
theorem dX12_downOf_19 : decode cX12_downOf 19 = .ok (.ireturn, 1) := by decide +kernel
theorem dX12_downOf_20 : decode cX12_downOf 20 = .ok (.aload_n 0, 1) := by decide +kernel
theorem dX12_downOf_21 : decode cX12_downOf 21 = .ok (.getfield 23, 3) := by decide +kernel
theorem dX12_downOf_24 : decode cX12_downOf 24 = .ok (.bipush 10, 2) := by decide +kernel
theorem dX12_downOf_26 : decode cX12_downOf 26 = .ok (.iload_n 1, 1) := by decide +kernel
theorem dX12_downOf_27 : decode cX12_downOf 27 = .ok (.imul, 1) := by decide +kernel
theorem dX12_downOf_28 : decode cX12_downOf 28 = .ok (.iload_n 3, 1) := by decide +kernel
theorem dX12_downOf_29 : decode cX12_downOf 29 = .ok (.iadd, 1) := by decide +kernel
theorem dX12_downOf_30 : decode cX12_downOf 30 = .ok (.aload_n 0, 1) := by decide +kernel
theorem dX12_downOf_31 : decode cX12_downOf 31 = .ok (.getfield 32, 3) := by decide +kernel
theorem dX12_downOf_34 : decode cX12_downOf 34 = .ok (.iload_n 1, 1) := by decide +kernel
theorem dX12_downOf_35 : decode cX12_downOf 35 = .ok (.iaload, 1) := by decide +kernel
theorem dX12_downOf_36 : decode cX12_downOf 36 = .ok (.isub, 1) := by decide +kernel
theorem dX12_downOf_37 : decode cX12_downOf 37 = .ok (.iaload, 1) := by decide +kernel
theorem dX12_downOf_38 : decode cX12_downOf 38 = .ok (.istore 4, 2) := by decide +kernel
theorem dX12_downOf_40 : decode cX12_downOf 40 = .ok (.aload_n 0, 1) := by decide +kernel
theorem dX12_downOf_41 : decode cX12_downOf 41 = .ok (.getfield 23, 3) := by decide +kernel
theorem dX12_downOf_44 : decode cX12_downOf 44 = .ok (.bipush 10, 2) := by decide +kernel
theorem dX12_downOf_46 : decode cX12_downOf 46 = .ok (.iload_n 2, 1) := by decide +kernel
theorem dX12_downOf_47 : decode cX12_downOf 47 = .ok (.imul, 1) := by decide +kernel
theorem dX12_downOf_48 : decode cX12_downOf 48 = .ok (.iload_n 3, 1) := by decide +kernel
theorem dX12_downOf_49 : decode cX12_downOf 49 = .ok (.iadd, 1) := by decide +kernel
theorem dX12_downOf_50 : decode cX12_downOf 50 = .ok (.aload_n 0, 1) := by decide +kernel
theorem dX12_downOf_51 : decode cX12_downOf 51 = .ok (.getfield 32, 3) := by decide +kernel
theorem dX12_downOf_54 : decode cX12_downOf 54 = .ok (.iload_n 2, 1) := by decide +kernel
theorem dX12_downOf_55 : decode cX12_downOf 55 = .ok (.iaload, 1) := by decide +kernel
theorem dX12_downOf_56 : decode cX12_downOf 56 = .ok (.isub, 1) := by decide +kernel
theorem dX12_downOf_57 : decode cX12_downOf 57 = .ok (.iaload, 1) := by decide +kernel
theorem dX12_downOf_58 : decode cX12_downOf 58 = .ok (.istore 5, 2) := by decide +kernel
theorem dX12_downOf_60 : decode cX12_downOf 60 = .ok (.iload 4, 2) := by decide +kernel
theorem dX12_downOf_62 : decode cX12_downOf 62 = .ok (.ifCond .eq 8, 3) := by decide +kernel
theorem dX12_downOf_65 : decode cX12_downOf 65 = .ok (.iload 5, 2) := by decide +kernel
theorem dX12_downOf_67 : decode cX12_downOf 67 = .ok (.ifCond .ne 7, 3) := by decide +kernel
theorem dX12_downOf_70 : decode cX12_downOf 70 = .ok (.iconst 0, 1) := by decide +kernel
theorem dX12_downOf_71 : decode cX12_downOf 71 = .ok (.goto 15, 3) := by decide +kernel
theorem dX12_downOf_74 : decode cX12_downOf 74 = .ok (.iload 4, 2) := by decide +kernel
theorem dX12_downOf_76 : decode cX12_downOf 76 = .ok (.iload 5, 2) := by decide +kernel
theorem dX12_downOf_78 : decode cX12_downOf 78 = .ok (.if_icmp .ne 7, 3) := by decide +kernel
theorem dX12_downOf_81 : decode cX12_downOf 81 = .ok (.iconst 1, 1) := by decide +kernel
theorem dX12_downOf_82 : decode cX12_downOf 82 = .ok (.goto 4, 3) := by decide +kernel
theorem dX12_downOf_85 : decode cX12_downOf 85 = .ok (.iconst (-1), 1) := by decide +kernel
theorem dX12_downOf_86 : decode cX12_downOf 86 = .ok (.ireturn, 1) := by decide +kernel
theorem dX12_quarrel_0 : decode cX12_quarrel 0 = .ok (.iconst 0, 1) := by decide +kernel
theorem dX12_quarrel_1 : decode cX12_quarrel 1 = .ok (.istore_n 3, 1) := by decide +kernel
theorem dX12_quarrel_2 : decode cX12_quarrel 2 = .ok (.iload_n 3, 1) := by decide +kernel
theorem dX12_quarrel_3 : decode cX12_quarrel 3 = .ok (.bipush 16, 2) := by decide +kernel
theorem dX12_quarrel_5 : decode cX12_quarrel 5 = .ok (.if_icmp .ge 21, 3) := by decide +kernel
theorem dX12_quarrel_8 : decode cX12_quarrel 8 = .ok (.aload_n 0, 1) := by decide +kernel
theorem dX12_quarrel_9 : decode cX12_quarrel 9 = .ok (.iload_n 1, 1) := by decide +kernel
theorem dX12_quarrel_10 : decode cX12_quarrel 10 = .ok (.iload_n 2, 1) := by decide +kernel
theorem dX12_quarrel_11 : decode cX12_quarrel 11 = .ok (.iload_n 3, 1) := by decide +kernel
theorem dX12_quarrel_12 : decode cX12_quarrel 12 = .ok (.invokevirtual 100, 3) := by decide +kernel
theorem dX12_quarrel_15 : decode cX12_quarrel 15 = .ok (.ifCond .ge 5, 3) := by decide +kernel
theorem dX12_quarrel_18 : decode cX12_quarrel 18 = .ok (.iconst 1, 1) := by decide +kernel
theorem dX12_quarrel_19 : decode cX12_quarrel 19 = .ok (.ireturn, 1) := by decide +kernel
theorem dX12_quarrel_20 : decode cX12_quarrel 20 = .ok (.iinc 3 1, 3) := by decide +kernel
theorem dX12_quarrel_23 : decode cX12_quarrel 23 = .ok (.goto (-21), 3) := by decide +kernel
theorem dX12_quarrel_26 : decode cX12_quarrel 26 = .ok (.iconst 0, 1) := by decide +kernel
theorem dX12_quarrel_27 : decode cX12_quarrel 27 = .ok (.istore_n 3, 1) := by decide +kernel
theorem dX12_quarrel_28 : decode cX12_quarrel 28 = .ok (.iload_n 3, 1) := by decide +kernel
theorem dX12_quarrel_29 : decode cX12_quarrel 29 = .ok (.bipush 32, 2) := by decide +kernel
theorem dX12_quarrel_31 : decode cX12_quarrel 31 = .ok (.if_icmp .ge 21, 3) := by decide +kernel
theorem dX12_quarrel_34 : decode cX12_quarrel 34 = .ok (.aload_n 0, 1) := by decide +kernel
theorem dX12_quarrel_35 : decode cX12_quarrel 35 = .ok (.iload_n 1, 1) := by decide +kernel
theorem dX12_quarrel_36 : decode cX12_quarrel 36 = .ok (.iload_n 2, 1) := by decide +kernel
theorem dX12_quarrel_37 : decode cX12_quarrel 37 = .ok (.iload_n 3, 1) := by decide +kernel
theorem dX12_quarrel_38 : decode cX12_quarrel 38 = .ok (.invokevirtual 103, 3) := by decide +kernel
theorem dX12_quarrel_41 : decode cX12_quarrel 41 = .ok (.ifCond .ge 5, 3) := by decide +kernel
theorem dX12_quarrel_44 : decode cX12_quarrel 44 = .ok (.iconst 1, 1) := by decide +kernel
theorem dX12_quarrel_45 : decode cX12_quarrel 45 = .ok (.ireturn, 1) := by decide +kernel
theorem dX12_quarrel_46 : decode cX12_quarrel 46 = .ok (.iinc 3 1, 3) := by decide +kernel
theorem dX12_quarrel_49 : decode cX12_quarrel 49 = .ok (.goto (-21), 3) := by decide +kernel
theorem dX12_quarrel_52 : decode cX12_quarrel 52 = .ok (.iconst 0, 1) := by decide +kernel
theorem dX12_quarrel_53 : decode cX12_quarrel 53 = .ok (.ireturn, 1) := by decide +kernel
theorem dX12_isInk_0 : decode cX12_isInk 0 = .ok (.aload_n 0, 1) := by decide +kernel
theorem dX12_isInk_1 : decode cX12_isInk 1 = .ok (.getfield 50, 3) := by decide +kernel
theorem dX12_isInk_4 : decode cX12_isInk 4 = .ok (.iload_n 1, 1) := by decide +kernel
theorem dX12_isInk_5 : decode cX12_isInk 5 = .ok (.iaload, 1) := by decide +kernel
theorem dX12_isInk_6 : decode cX12_isInk 6 = .ok (.invokestatic 73, 3) := by decide +kernel
theorem dX12_isInk_9 : decode cX12_isInk 9 = .ok (.ifCond .ne 14, 3) := by decide +kernel
theorem dX12_isInk_12 : decode cX12_isInk 12 = .ok (.aload_n 0, 1) := by decide +kernel
theorem dX12_isInk_13 : decode cX12_isInk 13 = .ok (.getfield 50, 3) := by decide +kernel
theorem dX12_isInk_16 : decode cX12_isInk 16 = .ok (.iload_n 1, 1) := by decide +kernel
theorem dX12_isInk_17 : decode cX12_isInk 17 = .ok (.iaload, 1) := by decide +kernel
theorem dX12_isInk_18 : decode cX12_isInk 18 = .ok (.bipush 46, 2) := by decide +kernel
theorem dX12_isInk_20 : decode cX12_isInk 20 = .ok (.if_icmp .ne 7, 3) := by decide +kernel
theorem dX12_isInk_23 : decode cX12_isInk 23 = .ok (.iconst 1, 1) := by decide +kernel
theorem dX12_isInk_24 : decode cX12_isInk 24 = .ok (.goto 4, 3) := by decide +kernel
theorem dX12_isInk_27 : decode cX12_isInk 27 = .ok (.iconst 0, 1) := by decide +kernel
theorem dX12_isInk_28 : decode cX12_isInk 28 = .ok (.ireturn, 1) := by decide +kernel
theorem dX12_runAt_0 : decode cX12_runAt 0 = .ok (.iload_n 2, 1) := by decide +kernel
theorem dX12_runAt_1 : decode cX12_runAt 1 = .ok (.istore_n 3, 1) := by decide +kernel
theorem dX12_runAt_2 : decode cX12_runAt 2 = .ok (.iload_n 3, 1) := by decide +kernel
theorem dX12_runAt_3 : decode cX12_runAt 3 = .ok (.ifCond .le 24, 3) := by decide +kernel
theorem dX12_runAt_6 : decode cX12_runAt 6 = .ok (.aload_n 0, 1) := by decide +kernel
theorem dX12_runAt_7 : decode cX12_runAt 7 = .ok (.bipush 32, 2) := by decide +kernel
theorem dX12_runAt_9 : decode cX12_runAt 9 = .ok (.iload_n 1, 1) := by decide +kernel
theorem dX12_runAt_10 : decode cX12_runAt 10 = .ok (.imul, 1) := by decide +kernel
theorem dX12_runAt_11 : decode cX12_runAt 11 = .ok (.iload_n 3, 1) := by decide +kernel
theorem dX12_runAt_12 : decode cX12_runAt 12 = .ok (.iadd, 1) := by decide +kernel
theorem dX12_runAt_13 : decode cX12_runAt 13 = .ok (.iconst 1, 1) := by decide +kernel
theorem dX12_runAt_14 : decode cX12_runAt 14 = .ok (.isub, 1) := by decide +kernel
theorem dX12_runAt_15 : decode cX12_runAt 15 = .ok (.invokevirtual 106, 3) := by decide +kernel
theorem dX12_runAt_18 : decode cX12_runAt 18 = .ok (.ifCond .eq 9, 3) := by decide +kernel
theorem dX12_runAt_21 : decode cX12_runAt 21 = .ok (.iinc 3 (-1), 3) := by decide +kernel
theorem dX12_runAt_24 : decode cX12_runAt 24 = .ok (.goto (-22), 3) := by decide +kernel
theorem dX12_runAt_27 : decode cX12_runAt 27 = .ok (.iload_n 2, 1) := by decide +kernel
theorem dX12_runAt_28 : decode cX12_runAt 28 = .ok (.iconst 1, 1) := by decide +kernel
theorem dX12_runAt_29 : decode cX12_runAt 29 = .ok (.iadd, 1) := by decide +kernel
theorem dX12_runAt_30 : decode cX12_runAt 30 = .ok (.istore 4, 2) := by decide +kernel
theorem dX12_runAt_32 : decode cX12_runAt 32 = .ok (.iload 4, 2) := by decide +kernel
theorem dX12_runAt_34 : decode cX12_runAt 34 = .ok (.bipush 32, 2) := by decide +kernel
theorem dX12_runAt_36 : decode cX12_runAt 36 = .ok (.if_icmp .ge 23, 3) := by decide +kernel
theorem dX12_runAt_39 : decode cX12_runAt 39 = .ok (.aload_n 0, 1) := by decide +kernel
theorem dX12_runAt_40 : decode cX12_runAt 40 = .ok (.bipush 32, 2) := by decide +kernel
theorem dX12_runAt_42 : decode cX12_runAt 42 = .ok (.iload_n 1, 1) := by decide +kernel
theorem dX12_runAt_43 : decode cX12_runAt 43 = .ok (.imul, 1) := by decide +kernel
theorem dX12_runAt_44 : decode cX12_runAt 44 = .ok (.iload 4, 2) := by decide +kernel
theorem dX12_runAt_46 : decode cX12_runAt 46 = .ok (.iadd, 1) := by decide +kernel
theorem dX12_runAt_47 : decode cX12_runAt 47 = .ok (.invokevirtual 106, 3) := by decide +kernel
theorem dX12_runAt_50 : decode cX12_runAt 50 = .ok (.ifCond .eq 9, 3) := by decide +kernel
theorem dX12_runAt_53 : decode cX12_runAt 53 = .ok (.iinc 4 1, 3) := by decide +kernel
theorem dX12_runAt_56 : decode cX12_runAt 56 = .ok (.goto (-24), 3) := by decide +kernel
theorem dX12_runAt_59 : decode cX12_runAt 59 = .ok (.aload_n 0, 1) := by decide +kernel
theorem dX12_runAt_60 : decode cX12_runAt 60 = .ok (.iload_n 3, 1) := by decide +kernel
theorem dX12_runAt_61 : decode cX12_runAt 61 = .ok (.ifCond .le 25, 3) := by decide +kernel
theorem dX12_runAt_64 : decode cX12_runAt 64 = .ok (.aload_n 0, 1) := by decide +kernel
theorem dX12_runAt_65 : decode cX12_runAt 65 = .ok (.getfield 50, 3) := by decide +kernel
theorem dX12_runAt_68 : decode cX12_runAt 68 = .ok (.bipush 32, 2) := by decide +kernel
theorem dX12_runAt_70 : decode cX12_runAt 70 = .ok (.iload_n 1, 1) := by decide +kernel
theorem dX12_runAt_71 : decode cX12_runAt 71 = .ok (.imul, 1) := by decide +kernel
theorem dX12_runAt_72 : decode cX12_runAt 72 = .ok (.iload_n 3, 1) := by decide +kernel
theorem dX12_runAt_73 : decode cX12_runAt 73 = .ok (.iadd, 1) := by decide +kernel
theorem dX12_runAt_74 : decode cX12_runAt 74 = .ok (.iconst 1, 1) := by decide +kernel
theorem dX12_runAt_75 : decode cX12_runAt 75 = .ok (.isub, 1) := by decide +kernel
theorem dX12_runAt_76 : decode cX12_runAt 76 = .ok (.iaload, 1) := by decide +kernel
theorem dX12_runAt_77 : decode cX12_runAt 77 = .ok (.bipush 44, 2) := by decide +kernel
theorem dX12_runAt_79 : decode cX12_runAt 79 = .ok (.if_icmp .ne 7, 3) := by decide +kernel
theorem dX12_runAt_82 : decode cX12_runAt 82 = .ok (.iconst 1, 1) := by decide +kernel
theorem dX12_runAt_83 : decode cX12_runAt 83 = .ok (.goto 4, 3) := by decide +kernel
theorem dX12_runAt_86 : decode cX12_runAt 86 = .ok (.iconst 0, 1) := by decide +kernel
theorem dX12_runAt_87 : decode cX12_runAt 87 = .ok (.putfield 109, 3) := by decide +kernel
theorem dX12_runAt_90 : decode cX12_runAt 90 = .ok (.aload_n 0, 1) := by decide +kernel
theorem dX12_runAt_91 : decode cX12_runAt 91 = .ok (.iload 4, 2) := by decide +kernel
theorem dX12_runAt_93 : decode cX12_runAt 93 = .ok (.bipush 32, 2) := by decide +kernel
theorem dX12_runAt_95 : decode cX12_runAt 95 = .ok (.if_icmp .ge 24, 3) := by decide +kernel
theorem dX12_runAt_98 : decode cX12_runAt 98 = .ok (.aload_n 0, 1) := by decide +kernel
theorem dX12_runAt_99 : decode cX12_runAt 99 = .ok (.getfield 50, 3) := by decide +kernel
theorem dX12_runAt_102 : decode cX12_runAt 102 = .ok (.bipush 32, 2) := by decide +kernel
theorem dX12_runAt_104 : decode cX12_runAt 104 = .ok (.iload_n 1, 1) := by decide +kernel
theorem dX12_runAt_105 : decode cX12_runAt 105 = .ok (.imul, 1) := by decide +kernel
theorem dX12_runAt_106 : decode cX12_runAt 106 = .ok (.iload 4, 2) := by decide +kernel
theorem dX12_runAt_108 : decode cX12_runAt 108 = .ok (.iadd, 1) := by decide +kernel
theorem dX12_runAt_109 : decode cX12_runAt 109 = .ok (.iaload, 1) := by decide +kernel
theorem dX12_runAt_110 : decode cX12_runAt 110 = .ok (.bipush 44, 2) := by decide +kernel
theorem dX12_runAt_112 : decode cX12_runAt 112 = .ok (.if_icmp .ne 7, 3) := by decide +kernel
theorem dX12_runAt_115 : decode cX12_runAt 115 = .ok (.iconst 1, 1) := by decide +kernel
theorem dX12_runAt_116 : decode cX12_runAt 116 = .ok (.goto 4, 3) := by decide +kernel
theorem dX12_runAt_119 : decode cX12_runAt 119 = .ok (.iconst 0, 1) := by decide +kernel
theorem dX12_runAt_120 : decode cX12_runAt 120 = .ok (.putfield 113, 3) := by decide +kernel
theorem dX12_runAt_123 : decode cX12_runAt 123 = .ok (.aload_n 0, 1) := by decide +kernel
theorem dX12_runAt_124 : decode cX12_runAt 124 = .ok (.bipush 32, 2) := by decide +kernel
theorem dX12_runAt_126 : decode cX12_runAt 126 = .ok (.iload_n 1, 1) := by decide +kernel
theorem dX12_runAt_127 : decode cX12_runAt 127 = .ok (.imul, 1) := by decide +kernel
theorem dX12_runAt_128 : decode cX12_runAt 128 = .ok (.iload_n 3, 1) := by decide +kernel
theorem dX12_runAt_129 : decode cX12_runAt 129 = .ok (.iadd, 1) := by decide +kernel
theorem dX12_runAt_130 : decode cX12_runAt 130 = .ok (.putfield 116, 3) := by decide +kernel
theorem dX12_runAt_133 : decode cX12_runAt 133 = .ok (.aload_n 0, 1) := by decide +kernel
theorem dX12_runAt_134 : decode cX12_runAt 134 = .ok (.bipush 32, 2) := by decide +kernel
theorem dX12_runAt_136 : decode cX12_runAt 136 = .ok (.iload_n 1, 1) := by decide +kernel
theorem dX12_runAt_137 : decode cX12_runAt 137 = .ok (.imul, 1) := by decide +kernel
theorem dX12_runAt_138 : decode cX12_runAt 138 = .ok (.iload 4, 2) := by decide +kernel
theorem dX12_runAt_140 : decode cX12_runAt 140 = .ok (.iadd, 1) := by decide +kernel
theorem dX12_runAt_141 : decode cX12_runAt 141 = .ok (.putfield 119, 3) := by decide +kernel
theorem dX12_runAt_144 : decode cX12_runAt 144 = .ok (.return_, 1) := by decide +kernel
theorem dX12_isFrom_0 : decode cX12_isFrom 0 = .ok (.aload_n 0, 1) := by decide +kernel
theorem dX12_isFrom_1 : decode cX12_isFrom 1 = .ok (.getfield 116, 3) := by decide +kernel
theorem dX12_isFrom_4 : decode cX12_isFrom 4 = .ok (.istore_n 3, 1) := by decide +kernel
theorem dX12_isFrom_5 : decode cX12_isFrom 5 = .ok (.iload_n 3, 1) := by decide +kernel
theorem dX12_isFrom_6 : decode cX12_isFrom 6 = .ok (.aload_n 0, 1) := by decide +kernel
theorem dX12_isFrom_7 : decode cX12_isFrom 7 = .ok (.getfield 119, 3) := by decide +kernel
theorem dX12_isFrom_10 : decode cX12_isFrom 10 = .ok (.if_icmp .ge 49, 3) := by decide +kernel
theorem dX12_isFrom_13 : decode cX12_isFrom 13 = .ok (.aload_n 0, 1) := by decide +kernel
theorem dX12_isFrom_14 : decode cX12_isFrom 14 = .ok (.getfield 50, 3) := by decide +kernel
theorem dX12_isFrom_17 : decode cX12_isFrom 17 = .ok (.iload_n 3, 1) := by decide +kernel
theorem dX12_isFrom_18 : decode cX12_isFrom 18 = .ok (.iaload, 1) := by decide +kernel
theorem dX12_isFrom_19 : decode cX12_isFrom 19 = .ok (.bipush 46, 2) := by decide +kernel
theorem dX12_isFrom_21 : decode cX12_isFrom 21 = .ok (.if_icmp .eq 32, 3) := by decide +kernel
theorem dX12_isFrom_24 : decode cX12_isFrom 24 = .ok (.aload_n 0, 1) := by decide +kernel
theorem dX12_isFrom_25 : decode cX12_isFrom 25 = .ok (.getfield 50, 3) := by decide +kernel
theorem dX12_isFrom_28 : decode cX12_isFrom 28 = .ok (.iload_n 3, 1) := by decide +kernel
theorem dX12_isFrom_29 : decode cX12_isFrom 29 = .ok (.iaload, 1) := by decide +kernel
theorem dX12_isFrom_30 : decode cX12_isFrom 30 = .ok (.aload_n 0, 1) := by decide +kernel
theorem dX12_isFrom_31 : decode cX12_isFrom 31 = .ok (.getfield 47, 3) := by decide +kernel
theorem dX12_isFrom_34 : decode cX12_isFrom 34 = .ok (.bipush 10, 2) := by decide +kernel
theorem dX12_isFrom_36 : decode cX12_isFrom 36 = .ok (.iload_n 1, 1) := by decide +kernel
theorem dX12_isFrom_37 : decode cX12_isFrom 37 = .ok (.imul, 1) := by decide +kernel
theorem dX12_isFrom_38 : decode cX12_isFrom 38 = .ok (.iload_n 2, 1) := by decide +kernel
theorem dX12_isFrom_39 : decode cX12_isFrom 39 = .ok (.iadd, 1) := by decide +kernel
theorem dX12_isFrom_40 : decode cX12_isFrom 40 = .ok (.iload_n 3, 1) := by decide +kernel
theorem dX12_isFrom_41 : decode cX12_isFrom 41 = .ok (.iadd, 1) := by decide +kernel
theorem dX12_isFrom_42 : decode cX12_isFrom 42 = .ok (.aload_n 0, 1) := by decide +kernel
theorem dX12_isFrom_43 : decode cX12_isFrom 43 = .ok (.getfield 116, 3) := by decide +kernel
theorem dX12_isFrom_46 : decode cX12_isFrom 46 = .ok (.isub, 1) := by decide +kernel
theorem dX12_isFrom_47 : decode cX12_isFrom 47 = .ok (.iaload, 1) := by decide +kernel
theorem dX12_isFrom_48 : decode cX12_isFrom 48 = .ok (.if_icmp .eq 5, 3) := by decide +kernel
theorem dX12_isFrom_51 : decode cX12_isFrom 51 = .ok (.iconst 0, 1) := by decide +kernel
theorem dX12_isFrom_52 : decode cX12_isFrom 52 = .ok (.ireturn, 1) := by decide +kernel
theorem dX12_isFrom_53 : decode cX12_isFrom 53 = .ok (.iinc 3 1, 3) := by decide +kernel
theorem dX12_isFrom_56 : decode cX12_isFrom 56 = .ok (.goto (-51), 3) := by decide +kernel
theorem dX12_isFrom_59 : decode cX12_isFrom 59 = .ok (.iconst 1, 1) := by decide +kernel
theorem dX12_isFrom_60 : decode cX12_isFrom 60 = .ok (.ireturn, 1) := by decide +kernel
theorem dX12_canBe_0 : decode cX12_canBe 0 = .ok (.aload_n 0, 1) := by decide +kernel
theorem dX12_canBe_1 : decode cX12_canBe 1 = .ok (.getfield 119, 3) := by decide +kernel
theorem dX12_canBe_4 : decode cX12_canBe 4 = .ok (.aload_n 0, 1) := by decide +kernel
theorem dX12_canBe_5 : decode cX12_canBe 5 = .ok (.getfield 116, 3) := by decide +kernel
theorem dX12_canBe_8 : decode cX12_canBe 8 = .ok (.isub, 1) := by decide +kernel
theorem dX12_canBe_9 : decode cX12_canBe 9 = .ok (.istore_n 2, 1) := by decide +kernel
theorem dX12_canBe_10 : decode cX12_canBe 10 = .ok (.iconst 0, 1) := by decide +kernel
theorem dX12_canBe_11 : decode cX12_canBe 11 = .ok (.istore_n 3, 1) := by decide +kernel
theorem dX12_canBe_12 : decode cX12_canBe 12 = .ok (.iload_n 3, 1) := by decide +kernel
theorem dX12_canBe_13 : decode cX12_canBe 13 = .ok (.iload_n 2, 1) := by decide +kernel
theorem dX12_canBe_14 : decode cX12_canBe 14 = .ok (.iadd, 1) := by decide +kernel
theorem dX12_canBe_15 : decode cX12_canBe 15 = .ok (.aload_n 0, 1) := by decide +kernel
theorem dX12_canBe_16 : decode cX12_canBe 16 = .ok (.getfield 44, 3) := by decide +kernel
theorem dX12_canBe_19 : decode cX12_canBe 19 = .ok (.iload_n 1, 1) := by decide +kernel
theorem dX12_canBe_20 : decode cX12_canBe 20 = .ok (.iaload, 1) := by decide +kernel
theorem dX12_canBe_21 : decode cX12_canBe 21 = .ok (.if_icmp .gt 53, 3) := by decide +kernel
theorem dX12_canBe_24 : decode cX12_canBe 24 = .ok (.aload_n 0, 1) := by decide +kernel
theorem dX12_canBe_25 : decode cX12_canBe 25 = .ok (.getfield 109, 3) := by decide +kernel
theorem dX12_canBe_28 : decode cX12_canBe 28 = .ok (.ifCond .eq 7, 3) := by decide +kernel
theorem dX12_canBe_31 : decode cX12_canBe 31 = .ok (.iload_n 3, 1) := by decide +kernel
theorem dX12_canBe_32 : decode cX12_canBe 32 = .ok (.ifCond .gt 36, 3) := by decide +kernel
theorem dX12_canBe_35 : decode cX12_canBe 35 = .ok (.aload_n 0, 1) := by decide +kernel
theorem dX12_canBe_36 : decode cX12_canBe 36 = .ok (.getfield 113, 3) := by decide +kernel
theorem dX12_canBe_39 : decode cX12_canBe 39 = .ok (.ifCond .eq 18, 3) := by decide +kernel
theorem dX12_canBe_42 : decode cX12_canBe 42 = .ok (.iload_n 3, 1) := by decide +kernel
theorem dX12_canBe_43 : decode cX12_canBe 43 = .ok (.iload_n 2, 1) := by decide +kernel
theorem dX12_canBe_44 : decode cX12_canBe 44 = .ok (.iadd, 1) := by decide +kernel
theorem dX12_canBe_45 : decode cX12_canBe 45 = .ok (.aload_n 0, 1) := by decide +kernel
theorem dX12_canBe_46 : decode cX12_canBe 46 = .ok (.getfield 44, 3) := by decide +kernel
theorem dX12_canBe_49 : decode cX12_canBe 49 = .ok (.iload_n 1, 1) := by decide +kernel
theorem dX12_canBe_50 : decode cX12_canBe 50 = .ok (.iaload, 1) := by decide +kernel
theorem dX12_canBe_51 : decode cX12_canBe 51 = .ok (.if_icmp .ge 6, 3) := by decide +kernel
theorem dX12_canBe_54 : decode cX12_canBe 54 = .ok (.goto 14, 3) := by decide +kernel
theorem dX12_canBe_57 : decode cX12_canBe 57 = .ok (.aload_n 0, 1) := by decide +kernel
theorem dX12_canBe_58 : decode cX12_canBe 58 = .ok (.iload_n 1, 1) := by decide +kernel
theorem dX12_canBe_59 : decode cX12_canBe 59 = .ok (.iload_n 3, 1) := by decide +kernel
theorem dX12_canBe_60 : decode cX12_canBe 60 = .ok (.invokevirtual 122, 3) := by decide +kernel
theorem dX12_canBe_63 : decode cX12_canBe 63 = .ok (.ifCond .eq 5, 3) := by decide +kernel
theorem dX12_canBe_66 : decode cX12_canBe 66 = .ok (.iconst 1, 1) := by decide +kernel
theorem dX12_canBe_67 : decode cX12_canBe 67 = .ok (.ireturn, 1) := by decide +kernel
theorem dX12_canBe_68 : decode cX12_canBe 68 = .ok (.iinc 3 1, 3) := by decide +kernel
theorem dX12_canBe_71 : decode cX12_canBe 71 = .ok (.goto (-59), 3) := by decide +kernel
theorem dX12_canBe_74 : decode cX12_canBe 74 = .ok (.iconst 0, 1) := by decide +kernel
theorem dX12_canBe_75 : decode cX12_canBe 75 = .ok (.ireturn, 1) := by decide +kernel
theorem dX12_canAny_0 : decode cX12_canAny 0 = .ok (.iconst 0, 1) := by decide +kernel
theorem dX12_canAny_1 : decode cX12_canAny 1 = .ok (.istore_n 1, 1) := by decide +kernel
theorem dX12_canAny_2 : decode cX12_canAny 2 = .ok (.iload_n 1, 1) := by decide +kernel
theorem dX12_canAny_3 : decode cX12_canAny 3 = .ok (.aload_n 0, 1) := by decide +kernel
theorem dX12_canAny_4 : decode cX12_canAny 4 = .ok (.getfield 83, 3) := by decide +kernel
theorem dX12_canAny_7 : decode cX12_canAny 7 = .ok (.if_icmp .ge 19, 3) := by decide +kernel
theorem dX12_canAny_10 : decode cX12_canAny 10 = .ok (.aload_n 0, 1) := by decide +kernel
theorem dX12_canAny_11 : decode cX12_canAny 11 = .ok (.iload_n 1, 1) := by decide +kernel
theorem dX12_canAny_12 : decode cX12_canAny 12 = .ok (.invokevirtual 125, 3) := by decide +kernel
theorem dX12_canAny_15 : decode cX12_canAny 15 = .ok (.ifCond .eq 5, 3) := by decide +kernel
theorem dX12_canAny_18 : decode cX12_canAny 18 = .ok (.iconst 1, 1) := by decide +kernel
theorem dX12_canAny_19 : decode cX12_canAny 19 = .ok (.ireturn, 1) := by decide +kernel
theorem dX12_canAny_20 : decode cX12_canAny 20 = .ok (.iinc 1 1, 3) := by decide +kernel
theorem dX12_canAny_23 : decode cX12_canAny 23 = .ok (.goto (-21), 3) := by decide +kernel
theorem dX12_canAny_26 : decode cX12_canAny 26 = .ok (.aload_n 0, 1) := by decide +kernel
theorem dX12_canAny_27 : decode cX12_canAny 27 = .ok (.getfield 83, 3) := by decide +kernel
theorem dX12_canAny_30 : decode cX12_canAny 30 = .ok (.ifCond .ne 7, 3) := by decide +kernel
theorem dX12_canAny_33 : decode cX12_canAny 33 = .ok (.iconst 1, 1) := by decide +kernel
theorem dX12_canAny_34 : decode cX12_canAny 34 = .ok (.goto 4, 3) := by decide +kernel
theorem dX12_canAny_37 : decode cX12_canAny 37 = .ok (.iconst 0, 1) := by decide +kernel
theorem dX12_canAny_38 : decode cX12_canAny 38 = .ok (.ireturn, 1) := by decide +kernel
theorem dX12_runsCan_0 : decode cX12_runsCan 0 = .ok (.aload_n 0, 1) := by decide +kernel
theorem dX12_runsCan_1 : decode cX12_runsCan 1 = .ok (.getfield 83, 3) := by decide +kernel
theorem dX12_runsCan_4 : decode cX12_runsCan 4 = .ok (.ifCond .ne 5, 3) := by decide +kernel
theorem dX12_runsCan_7 : decode cX12_runsCan 7 = .ok (.iconst 1, 1) := by decide +kernel
theorem dX12_runsCan_8 : decode cX12_runsCan 8 = .ok (.ireturn, 1) := by decide +kernel
theorem dX12_runsCan_9 : decode cX12_runsCan 9 = .ok (.iconst 0, 1) := by decide +kernel
theorem dX12_runsCan_10 : decode cX12_runsCan 10 = .ok (.istore_n 1, 1) := by decide +kernel
theorem dX12_runsCan_11 : decode cX12_runsCan 11 = .ok (.iload_n 1, 1) := by decide +kernel
theorem dX12_runsCan_12 : decode cX12_runsCan 12 = .ok (.bipush 16, 2) := by decide +kernel
theorem dX12_runsCan_14 : decode cX12_runsCan 14 = .ok (.if_icmp .ge 73, 3) := by decide +kernel
theorem dX12_runsCan_17 : decode cX12_runsCan 17 = .ok (.iconst 0, 1) := by decide +kernel
theorem dX12_runsCan_18 : decode cX12_runsCan 18 = .ok (.istore_n 2, 1) := by decide +kernel
theorem dX12_runsCan_19 : decode cX12_runsCan 19 = .ok (.iload_n 2, 1) := by decide +kernel
theorem dX12_runsCan_20 : decode cX12_runsCan 20 = .ok (.bipush 32, 2) := by decide +kernel
theorem dX12_runsCan_22 : decode cX12_runsCan 22 = .ok (.if_icmp .ge 59, 3) := by decide +kernel
theorem dX12_runsCan_25 : decode cX12_runsCan 25 = .ok (.aload_n 0, 1) := by decide +kernel
theorem dX12_runsCan_26 : decode cX12_runsCan 26 = .ok (.bipush 32, 2) := by decide +kernel
theorem dX12_runsCan_28 : decode cX12_runsCan 28 = .ok (.iload_n 1, 1) := by decide +kernel
theorem dX12_runsCan_29 : decode cX12_runsCan 29 = .ok (.imul, 1) := by decide +kernel
theorem dX12_runsCan_30 : decode cX12_runsCan 30 = .ok (.iload_n 2, 1) := by decide +kernel
theorem dX12_runsCan_31 : decode cX12_runsCan 31 = .ok (.iadd, 1) := by decide +kernel
theorem dX12_runsCan_32 : decode cX12_runsCan 32 = .ok (.invokevirtual 106, 3) := by decide +kernel
theorem dX12_runsCan_35 : decode cX12_runsCan 35 = .ok (.ifCond .eq 40, 3) := by decide +kernel
theorem dX12_runsCan_38 : decode cX12_runsCan 38 = .ok (.iload_n 2, 1) := by decide +kernel
theorem dX12_runsCan_39 : decode cX12_runsCan 39 = .ok (.ifCond .le 21, 3) := by decide +kernel
theorem dX12_runsCan_42 : decode cX12_runsCan 42 = .ok (.aload_n 0, 1) := by decide +kernel
theorem dX12_runsCan_43 : decode cX12_runsCan 43 = .ok (.bipush 32, 2) := by decide +kernel
theorem dX12_runsCan_45 : decode cX12_runsCan 45 = .ok (.iload_n 1, 1) := by decide +kernel
theorem dX12_runsCan_46 : decode cX12_runsCan 46 = .ok (.imul, 1) := by decide +kernel
theorem dX12_runsCan_47 : decode cX12_runsCan 47 = .ok (.iload_n 2, 1) := by decide +kernel
theorem dX12_runsCan_48 : decode cX12_runsCan 48 = .ok (.iadd, 1) := by decide +kernel
theorem dX12_runsCan_49 : decode cX12_runsCan 49 = .ok (.iconst 1, 1) := by decide +kernel
theorem dX12_runsCan_50 : decode cX12_runsCan 50 = .ok (.isub, 1) := by decide +kernel
theorem dX12_runsCan_51 : decode cX12_runsCan 51 = .ok (.invokevirtual 106, 3) := by decide +kernel
theorem dX12_runsCan_54 : decode cX12_runsCan 54 = .ok (.ifCond .eq 6, 3) := by decide +kernel
theorem dX12_runsCan_57 : decode cX12_runsCan 57 = .ok (.goto 18, 3) := by decide +kernel
theorem dX12_runsCan_60 : decode cX12_runsCan 60 = .ok (.aload_n 0, 1) := by decide +kernel
theorem dX12_runsCan_61 : decode cX12_runsCan 61 = .ok (.iload_n 1, 1) := by decide +kernel
theorem dX12_runsCan_62 : decode cX12_runsCan 62 = .ok (.iload_n 2, 1) := by decide +kernel
theorem dX12_runsCan_63 : decode cX12_runsCan 63 = .ok (.invokevirtual 128, 3) := by decide +kernel
theorem dX12_runsCan_66 : decode cX12_runsCan 66 = .ok (.aload_n 0, 1) := by decide +kernel
theorem dX12_runsCan_67 : decode cX12_runsCan 67 = .ok (.invokevirtual 132, 3) := by decide +kernel
theorem dX12_runsCan_70 : decode cX12_runsCan 70 = .ok (.ifCond .ne 5, 3) := by decide +kernel
theorem dX12_runsCan_73 : decode cX12_runsCan 73 = .ok (.iconst 0, 1) := by decide +kernel
theorem dX12_runsCan_74 : decode cX12_runsCan 74 = .ok (.ireturn, 1) := by decide +kernel
theorem dX12_runsCan_75 : decode cX12_runsCan 75 = .ok (.iinc 2 1, 3) := by decide +kernel
theorem dX12_runsCan_78 : decode cX12_runsCan 78 = .ok (.goto (-59), 3) := by decide +kernel
theorem dX12_runsCan_81 : decode cX12_runsCan 81 = .ok (.iinc 1 1, 3) := by decide +kernel
theorem dX12_runsCan_84 : decode cX12_runsCan 84 = .ok (.goto (-73), 3) := by decide +kernel
theorem dX12_runsCan_87 : decode cX12_runsCan 87 = .ok (.iconst 1, 1) := by decide +kernel
theorem dX12_runsCan_88 : decode cX12_runsCan 88 = .ok (.ireturn, 1) := by decide +kernel
theorem dX12_mayLie_0 : decode cX12_mayLie 0 = .ok (.aload_n 0, 1) := by decide +kernel
theorem dX12_mayLie_1 : decode cX12_mayLie 1 = .ok (.invokevirtual 136, 3) := by decide +kernel
theorem dX12_mayLie_4 : decode cX12_mayLie 4 = .ok (.ifCond .ne 5, 3) := by decide +kernel
theorem dX12_mayLie_7 : decode cX12_mayLie 7 = .ok (.iconst 0, 1) := by decide +kernel
theorem dX12_mayLie_8 : decode cX12_mayLie 8 = .ok (.ireturn, 1) := by decide +kernel
theorem dX12_mayLie_9 : decode cX12_mayLie 9 = .ok (.iconst 0, 1) := by decide +kernel
theorem dX12_mayLie_10 : decode cX12_mayLie 10 = .ok (.istore_n 1, 1) := by decide +kernel
theorem dX12_mayLie_11 : decode cX12_mayLie 11 = .ok (.iload_n 1, 1) := by decide +kernel
theorem dX12_mayLie_12 : decode cX12_mayLie 12 = .ok (.bipush 10, 2) := by decide +kernel
theorem dX12_mayLie_14 : decode cX12_mayLie 14 = .ok (.if_icmp .ge 54, 3) := by decide +kernel
theorem dX12_mayLie_17 : decode cX12_mayLie 17 = .ok (.iload_n 1, 1) := by decide +kernel
theorem dX12_mayLie_18 : decode cX12_mayLie 18 = .ok (.iconst 1, 1) := by decide +kernel
theorem dX12_mayLie_19 : decode cX12_mayLie 19 = .ok (.iadd, 1) := by decide +kernel
theorem dX12_mayLie_20 : decode cX12_mayLie 20 = .ok (.istore_n 2, 1) := by decide +kernel
theorem dX12_mayLie_21 : decode cX12_mayLie 21 = .ok (.iload_n 2, 1) := by decide +kernel
theorem dX12_mayLie_22 : decode cX12_mayLie 22 = .ok (.bipush 10, 2) := by decide +kernel
theorem dX12_mayLie_24 : decode cX12_mayLie 24 = .ok (.if_icmp .ge 38, 3) := by decide +kernel
theorem dX12_mayLie_27 : decode cX12_mayLie 27 = .ok (.aload_n 0, 1) := by decide +kernel
theorem dX12_mayLie_28 : decode cX12_mayLie 28 = .ok (.getfield 26, 3) := by decide +kernel
theorem dX12_mayLie_31 : decode cX12_mayLie 31 = .ok (.iload_n 1, 1) := by decide +kernel
theorem dX12_mayLie_32 : decode cX12_mayLie 32 = .ok (.baload, 1) := by decide +kernel
theorem dX12_mayLie_33 : decode cX12_mayLie 33 = .ok (.ifCond .eq 23, 3) := by decide +kernel
theorem dX12_mayLie_36 : decode cX12_mayLie 36 = .ok (.aload_n 0, 1) := by decide +kernel
theorem dX12_mayLie_37 : decode cX12_mayLie 37 = .ok (.getfield 26, 3) := by decide +kernel
theorem dX12_mayLie_40 : decode cX12_mayLie 40 = .ok (.iload_n 2, 1) := by decide +kernel
theorem dX12_mayLie_41 : decode cX12_mayLie 41 = .ok (.baload, 1) := by decide +kernel
theorem dX12_mayLie_42 : decode cX12_mayLie 42 = .ok (.ifCond .eq 14, 3) := by decide +kernel
theorem dX12_mayLie_45 : decode cX12_mayLie 45 = .ok (.aload_n 0, 1) := by decide +kernel
theorem dX12_mayLie_46 : decode cX12_mayLie 46 = .ok (.iload_n 1, 1) := by decide +kernel
theorem dX12_mayLie_47 : decode cX12_mayLie 47 = .ok (.iload_n 2, 1) := by decide +kernel
theorem dX12_mayLie_48 : decode cX12_mayLie 48 = .ok (.invokevirtual 139, 3) := by decide +kernel
theorem dX12_mayLie_51 : decode cX12_mayLie 51 = .ok (.ifCond .eq 5, 3) := by decide +kernel
theorem dX12_mayLie_54 : decode cX12_mayLie 54 = .ok (.iconst 0, 1) := by decide +kernel
theorem dX12_mayLie_55 : decode cX12_mayLie 55 = .ok (.ireturn, 1) := by decide +kernel
theorem dX12_mayLie_56 : decode cX12_mayLie 56 = .ok (.iinc 2 1, 3) := by decide +kernel
theorem dX12_mayLie_59 : decode cX12_mayLie 59 = .ok (.goto (-38), 3) := by decide +kernel
theorem dX12_mayLie_62 : decode cX12_mayLie 62 = .ok (.iinc 1 1, 3) := by decide +kernel
theorem dX12_mayLie_65 : decode cX12_mayLie 65 = .ok (.goto (-54), 3) := by decide +kernel
theorem dX12_mayLie_68 : decode cX12_mayLie 68 = .ok (.aload_n 0, 1) := by decide +kernel
theorem dX12_mayLie_69 : decode cX12_mayLie 69 = .ok (.invokevirtual 142, 3) := by decide +kernel
theorem dX12_mayLie_72 : decode cX12_mayLie 72 = .ok (.ireturn, 1) := by decide +kernel
theorem dX12_puts_0 : decode cX12_puts 0 = .ok (.aload_n 0, 1) := by decide +kernel
theorem dX12_puts_1 : decode cX12_puts 1 = .ok (.getfield 26, 3) := by decide +kernel
theorem dX12_puts_4 : decode cX12_puts 4 = .ok (.iload_n 1, 1) := by decide +kernel
theorem dX12_puts_5 : decode cX12_puts 5 = .ok (.iconst 1, 1) := by decide +kernel
theorem dX12_puts_6 : decode cX12_puts 6 = .ok (.bastore, 1) := by decide +kernel
theorem dX12_puts_7 : decode cX12_puts 7 = .ok (.aload_n 0, 1) := by decide +kernel
theorem dX12_puts_8 : decode cX12_puts 8 = .ok (.getfield 29, 3) := by decide +kernel
theorem dX12_puts_11 : decode cX12_puts 11 = .ok (.iload_n 1, 1) := by decide +kernel
theorem dX12_puts_12 : decode cX12_puts 12 = .ok (.iload_n 2, 1) := by decide +kernel
theorem dX12_puts_13 : decode cX12_puts 13 = .ok (.iastore, 1) := by decide +kernel
theorem dX12_puts_14 : decode cX12_puts 14 = .ok (.aload_n 0, 1) := by decide +kernel
theorem dX12_puts_15 : decode cX12_puts 15 = .ok (.getfield 32, 3) := by decide +kernel
theorem dX12_puts_18 : decode cX12_puts 18 = .ok (.iload_n 1, 1) := by decide +kernel
theorem dX12_puts_19 : decode cX12_puts 19 = .ok (.iload_n 3, 1) := by decide +kernel
theorem dX12_puts_20 : decode cX12_puts 20 = .ok (.iastore, 1) := by decide +kernel
theorem dX12_puts_21 : decode cX12_puts 21 = .ok (.return_, 1) := by decide +kernel
theorem dX12_lay_0 : decode cX12_lay 0 = .ok (.aload_n 0, 1) := by decide +kernel
theorem dX12_lay_1 : decode cX12_lay 1 = .ok (.iload_n 1, 1) := by decide +kernel
theorem dX12_lay_2 : decode cX12_lay 2 = .ok (.invokevirtual 81, 3) := by decide +kernel
theorem dX12_lay_5 : decode cX12_lay 5 = .ok (.ifCond .eq 34, 3) := by decide +kernel
theorem dX12_lay_8 : decode cX12_lay 8 = .ok (.aload_n 0, 1) := by decide +kernel
theorem dX12_lay_9 : decode cX12_lay 9 = .ok (.getfield 26, 3) := by decide +kernel
theorem dX12_lay_12 : decode cX12_lay 12 = .ok (.iload_n 1, 1) := by decide +kernel
theorem dX12_lay_13 : decode cX12_lay 13 = .ok (.baload, 1) := by decide +kernel
theorem dX12_lay_14 : decode cX12_lay 14 = .ok (.ifCond .ne 25, 3) := by decide +kernel
theorem dX12_lay_17 : decode cX12_lay 17 = .ok (.iload_n 2, 1) := by decide +kernel
theorem dX12_lay_18 : decode cX12_lay 18 = .ok (.bipush (-4), 2) := by decide +kernel
theorem dX12_lay_20 : decode cX12_lay 20 = .ok (.bipush 15, 2) := by decide +kernel
theorem dX12_lay_22 : decode cX12_lay 22 = .ok (.invokestatic 69, 3) := by decide +kernel
theorem dX12_lay_25 : decode cX12_lay 25 = .ok (.ifCond .eq 14, 3) := by decide +kernel
theorem dX12_lay_28 : decode cX12_lay 28 = .ok (.iload_n 3, 1) := by decide +kernel
theorem dX12_lay_29 : decode cX12_lay 29 = .ok (.bipush (-9), 2) := by decide +kernel
theorem dX12_lay_31 : decode cX12_lay 31 = .ok (.bipush 31, 2) := by decide +kernel
theorem dX12_lay_33 : decode cX12_lay 33 = .ok (.invokestatic 69, 3) := by decide +kernel
theorem dX12_lay_36 : decode cX12_lay 36 = .ok (.ifCond .ne 5, 3) := by decide +kernel
theorem dX12_lay_39 : decode cX12_lay 39 = .ok (.iconst 0, 1) := by decide +kernel
theorem dX12_lay_40 : decode cX12_lay 40 = .ok (.ireturn, 1) := by decide +kernel
theorem dX12_lay_41 : decode cX12_lay 41 = .ok (.aload_n 0, 1) := by decide +kernel
theorem dX12_lay_42 : decode cX12_lay 42 = .ok (.iload_n 1, 1) := by decide +kernel
theorem dX12_lay_43 : decode cX12_lay 43 = .ok (.iload_n 2, 1) := by decide +kernel
theorem dX12_lay_44 : decode cX12_lay 44 = .ok (.iload_n 3, 1) := by decide +kernel
theorem dX12_lay_45 : decode cX12_lay 45 = .ok (.invokevirtual 145, 3) := by decide +kernel
theorem dX12_lay_48 : decode cX12_lay 48 = .ok (.aload_n 0, 1) := by decide +kernel
theorem dX12_lay_49 : decode cX12_lay 49 = .ok (.invokevirtual 149, 3) := by decide +kernel
theorem dX12_lay_52 : decode cX12_lay 52 = .ok (.ifCond .eq 5, 3) := by decide +kernel
theorem dX12_lay_55 : decode cX12_lay 55 = .ok (.iconst 1, 1) := by decide +kernel
theorem dX12_lay_56 : decode cX12_lay 56 = .ok (.ireturn, 1) := by decide +kernel
theorem dX12_lay_57 : decode cX12_lay 57 = .ok (.aload_n 0, 1) := by decide +kernel
theorem dX12_lay_58 : decode cX12_lay 58 = .ok (.getfield 26, 3) := by decide +kernel
theorem dX12_lay_61 : decode cX12_lay 61 = .ok (.iload_n 1, 1) := by decide +kernel
theorem dX12_lay_62 : decode cX12_lay 62 = .ok (.iconst 0, 1) := by decide +kernel
theorem dX12_lay_63 : decode cX12_lay 63 = .ok (.bastore, 1) := by decide +kernel
theorem dX12_lay_64 : decode cX12_lay 64 = .ok (.iconst 0, 1) := by decide +kernel
theorem dX12_lay_65 : decode cX12_lay 65 = .ok (.ireturn, 1) := by decide +kernel
theorem dX12_take_0 : decode cX12_take 0 = .ok (.aload_n 0, 1) := by decide +kernel
theorem dX12_take_1 : decode cX12_take 1 = .ok (.iload_n 1, 1) := by decide +kernel
theorem dX12_take_2 : decode cX12_take 2 = .ok (.invokevirtual 81, 3) := by decide +kernel
theorem dX12_take_5 : decode cX12_take 5 = .ok (.ifCond .eq 12, 3) := by decide +kernel
theorem dX12_take_8 : decode cX12_take 8 = .ok (.aload_n 0, 1) := by decide +kernel
theorem dX12_take_9 : decode cX12_take 9 = .ok (.getfield 26, 3) := by decide +kernel
theorem dX12_take_12 : decode cX12_take 12 = .ok (.iload_n 1, 1) := by decide +kernel
theorem dX12_take_13 : decode cX12_take 13 = .ok (.baload, 1) := by decide +kernel
theorem dX12_take_14 : decode cX12_take 14 = .ok (.ifCond .ne 5, 3) := by decide +kernel
theorem dX12_take_17 : decode cX12_take 17 = .ok (.iconst 0, 1) := by decide +kernel
theorem dX12_take_18 : decode cX12_take 18 = .ok (.ireturn, 1) := by decide +kernel
theorem dX12_take_19 : decode cX12_take 19 = .ok (.aload_n 0, 1) := by decide +kernel
theorem dX12_take_20 : decode cX12_take 20 = .ok (.getfield 26, 3) := by decide +kernel
theorem dX12_take_23 : decode cX12_take 23 = .ok (.iload_n 1, 1) := by decide +kernel
theorem dX12_take_24 : decode cX12_take 24 = .ok (.iconst 0, 1) := by decide +kernel
theorem dX12_take_25 : decode cX12_take 25 = .ok (.bastore, 1) := by decide +kernel
theorem dX12_take_26 : decode cX12_take 26 = .ok (.iconst 1, 1) := by decide +kernel
theorem dX12_take_27 : decode cX12_take 27 = .ok (.ireturn, 1) := by decide +kernel
theorem dX12_place_0 : decode cX12_place 0 = .ok (.aload_n 0, 1) := by decide +kernel
theorem dX12_place_1 : decode cX12_place 1 = .ok (.iload_n 1, 1) := by decide +kernel
theorem dX12_place_2 : decode cX12_place 2 = .ok (.invokevirtual 81, 3) := by decide +kernel
theorem dX12_place_5 : decode cX12_place 5 = .ok (.ifCond .eq 12, 3) := by decide +kernel
theorem dX12_place_8 : decode cX12_place 8 = .ok (.aload_n 0, 1) := by decide +kernel
theorem dX12_place_9 : decode cX12_place 9 = .ok (.getfield 26, 3) := by decide +kernel
theorem dX12_place_12 : decode cX12_place 12 = .ok (.iload_n 1, 1) := by decide +kernel
theorem dX12_place_13 : decode cX12_place 13 = .ok (.baload, 1) := by decide +kernel
theorem dX12_place_14 : decode cX12_place 14 = .ok (.ifCond .ne 5, 3) := by decide +kernel
theorem dX12_place_17 : decode cX12_place 17 = .ok (.iconst (-1), 1) := by decide +kernel
theorem dX12_place_18 : decode cX12_place 18 = .ok (.ireturn, 1) := by decide +kernel
theorem dX12_place_19 : decode cX12_place 19 = .ok (.iload_n 2, 1) := by decide +kernel
theorem dX12_place_20 : decode cX12_place 20 = .ok (.ifCond .ne 12, 3) := by decide +kernel
theorem dX12_place_23 : decode cX12_place 23 = .ok (.aload_n 0, 1) := by decide +kernel
theorem dX12_place_24 : decode cX12_place 24 = .ok (.getfield 29, 3) := by decide +kernel
theorem dX12_place_27 : decode cX12_place 27 = .ok (.iload_n 1, 1) := by decide +kernel
theorem dX12_place_28 : decode cX12_place 28 = .ok (.iaload, 1) := by decide +kernel
theorem dX12_place_29 : decode cX12_place 29 = .ok (.goto 18, 3) := by decide +kernel
theorem dX12_place_32 : decode cX12_place 32 = .ok (.iload_n 2, 1) := by decide +kernel
theorem dX12_place_33 : decode cX12_place 33 = .ok (.iconst 1, 1) := by decide +kernel
theorem dX12_place_34 : decode cX12_place 34 = .ok (.if_icmp .ne 12, 3) := by decide +kernel
theorem dX12_place_37 : decode cX12_place 37 = .ok (.aload_n 0, 1) := by decide +kernel
theorem dX12_place_38 : decode cX12_place 38 = .ok (.getfield 32, 3) := by decide +kernel
theorem dX12_place_41 : decode cX12_place 41 = .ok (.iload_n 1, 1) := by decide +kernel
theorem dX12_place_42 : decode cX12_place 42 = .ok (.iaload, 1) := by decide +kernel
theorem dX12_place_43 : decode cX12_place 43 = .ok (.goto 4, 3) := by decide +kernel
theorem dX12_place_46 : decode cX12_place 46 = .ok (.iconst (-1), 1) := by decide +kernel
theorem dX12_place_47 : decode cX12_place 47 = .ok (.ireturn, 1) := by decide +kernel
theorem dX12_isPlace_0 : decode cX12_isPlace 0 = .ok (.iload_n 0, 1) := by decide +kernel
theorem dX12_isPlace_1 : decode cX12_isPlace 1 = .ok (.iconst 0, 1) := by decide +kernel
theorem dX12_isPlace_2 : decode cX12_isPlace 2 = .ok (.bipush 15, 2) := by decide +kernel
theorem dX12_isPlace_4 : decode cX12_isPlace 4 = .ok (.invokestatic 69, 3) := by decide +kernel
theorem dX12_isPlace_7 : decode cX12_isPlace 7 = .ok (.ifCond .eq 17, 3) := by decide +kernel
theorem dX12_isPlace_10 : decode cX12_isPlace 10 = .ok (.iload_n 1, 1) := by decide +kernel
theorem dX12_isPlace_11 : decode cX12_isPlace 11 = .ok (.iconst 0, 1) := by decide +kernel
theorem dX12_isPlace_12 : decode cX12_isPlace 12 = .ok (.bipush 31, 2) := by decide +kernel
theorem dX12_isPlace_14 : decode cX12_isPlace 14 = .ok (.invokestatic 69, 3) := by decide +kernel
theorem dX12_isPlace_17 : decode cX12_isPlace 17 = .ok (.ifCond .eq 7, 3) := by decide +kernel
theorem dX12_isPlace_20 : decode cX12_isPlace 20 = .ok (.iconst 1, 1) := by decide +kernel
theorem dX12_isPlace_21 : decode cX12_isPlace 21 = .ok (.goto 4, 3) := by decide +kernel
theorem dX12_isPlace_24 : decode cX12_isPlace 24 = .ok (.iconst 0, 1) := by decide +kernel
theorem dX12_isPlace_25 : decode cX12_isPlace 25 = .ok (.ireturn, 1) := by decide +kernel
theorem dX12_sheet_0 : decode cX12_sheet 0 = .ok (.iload_n 1, 1) := by decide +kernel
theorem dX12_sheet_1 : decode cX12_sheet 1 = .ok (.iload_n 2, 1) := by decide +kernel
theorem dX12_sheet_2 : decode cX12_sheet 2 = .ok (.invokestatic 152, 3) := by decide +kernel
theorem dX12_sheet_5 : decode cX12_sheet 5 = .ok (.ifCond .ne 5, 3) := by decide +kernel
theorem dX12_sheet_8 : decode cX12_sheet 8 = .ok (.iconst (-1), 1) := by decide +kernel
theorem dX12_sheet_9 : decode cX12_sheet 9 = .ok (.ireturn, 1) := by decide +kernel
theorem dX12_sheet_10 : decode cX12_sheet 10 = .ok (.aload_n 0, 1) := by decide +kernel
theorem dX12_sheet_11 : decode cX12_sheet 11 = .ok (.invokevirtual 136, 3) := by decide +kernel
theorem dX12_sheet_14 : decode cX12_sheet 14 = .ok (.pop, 1) := by decide +kernel
theorem dX12_sheet_15 : decode cX12_sheet 15 = .ok (.aload_n 0, 1) := by decide +kernel
theorem dX12_sheet_16 : decode cX12_sheet 16 = .ok (.getfield 50, 3) := by decide +kernel
theorem dX12_sheet_19 : decode cX12_sheet 19 = .ok (.bipush 32, 2) := by decide +kernel
theorem dX12_sheet_21 : decode cX12_sheet 21 = .ok (.iload_n 1, 1) := by decide +kernel
theorem dX12_sheet_22 : decode cX12_sheet 22 = .ok (.imul, 1) := by decide +kernel
theorem dX12_sheet_23 : decode cX12_sheet 23 = .ok (.iload_n 2, 1) := by decide +kernel
theorem dX12_sheet_24 : decode cX12_sheet 24 = .ok (.iadd, 1) := by decide +kernel
theorem dX12_sheet_25 : decode cX12_sheet 25 = .ok (.iaload, 1) := by decide +kernel
theorem dX12_sheet_26 : decode cX12_sheet 26 = .ok (.ireturn, 1) := by decide +kernel
theorem dX12_whose_0 : decode cX12_whose 0 = .ok (.iload_n 1, 1) := by decide +kernel
theorem dX12_whose_1 : decode cX12_whose 1 = .ok (.iload_n 2, 1) := by decide +kernel
theorem dX12_whose_2 : decode cX12_whose 2 = .ok (.invokestatic 152, 3) := by decide +kernel
theorem dX12_whose_5 : decode cX12_whose 5 = .ok (.ifCond .ne 5, 3) := by decide +kernel
theorem dX12_whose_8 : decode cX12_whose 8 = .ok (.iconst (-1), 1) := by decide +kernel
theorem dX12_whose_9 : decode cX12_whose 9 = .ok (.ireturn, 1) := by decide +kernel
theorem dX12_whose_10 : decode cX12_whose 10 = .ok (.aload_n 0, 1) := by decide +kernel
theorem dX12_whose_11 : decode cX12_whose 11 = .ok (.invokevirtual 136, 3) := by decide +kernel
theorem dX12_whose_14 : decode cX12_whose 14 = .ok (.pop, 1) := by decide +kernel
theorem dX12_whose_15 : decode cX12_whose 15 = .ok (.aload_n 0, 1) := by decide +kernel
theorem dX12_whose_16 : decode cX12_whose 16 = .ok (.getfield 53, 3) := by decide +kernel
theorem dX12_whose_19 : decode cX12_whose 19 = .ok (.bipush 32, 2) := by decide +kernel
theorem dX12_whose_21 : decode cX12_whose 21 = .ok (.iload_n 1, 1) := by decide +kernel
theorem dX12_whose_22 : decode cX12_whose 22 = .ok (.imul, 1) := by decide +kernel
theorem dX12_whose_23 : decode cX12_whose 23 = .ok (.iload_n 2, 1) := by decide +kernel
theorem dX12_whose_24 : decode cX12_whose 24 = .ok (.iadd, 1) := by decide +kernel
theorem dX12_whose_25 : decode cX12_whose 25 = .ok (.iaload, 1) := by decide +kernel
theorem dX12_whose_26 : decode cX12_whose 26 = .ok (.ireturn, 1) := by decide +kernel
theorem dX12_hasRun_0 : decode cX12_hasRun 0 = .ok (.iload_n 1, 1) := by decide +kernel
theorem dX12_hasRun_1 : decode cX12_hasRun 1 = .ok (.iload_n 2, 1) := by decide +kernel
theorem dX12_hasRun_2 : decode cX12_hasRun 2 = .ok (.invokestatic 152, 3) := by decide +kernel
theorem dX12_hasRun_5 : decode cX12_hasRun 5 = .ok (.ifCond .ne 5, 3) := by decide +kernel
theorem dX12_hasRun_8 : decode cX12_hasRun 8 = .ok (.iconst 0, 1) := by decide +kernel
theorem dX12_hasRun_9 : decode cX12_hasRun 9 = .ok (.ireturn, 1) := by decide +kernel
theorem dX12_hasRun_10 : decode cX12_hasRun 10 = .ok (.aload_n 0, 1) := by decide +kernel
theorem dX12_hasRun_11 : decode cX12_hasRun 11 = .ok (.invokevirtual 136, 3) := by decide +kernel
theorem dX12_hasRun_14 : decode cX12_hasRun 14 = .ok (.pop, 1) := by decide +kernel
theorem dX12_hasRun_15 : decode cX12_hasRun 15 = .ok (.aload_n 0, 1) := by decide +kernel
theorem dX12_hasRun_16 : decode cX12_hasRun 16 = .ok (.bipush 32, 2) := by decide +kernel
theorem dX12_hasRun_18 : decode cX12_hasRun 18 = .ok (.iload_n 1, 1) := by decide +kernel
theorem dX12_hasRun_19 : decode cX12_hasRun 19 = .ok (.imul, 1) := by decide +kernel
theorem dX12_hasRun_20 : decode cX12_hasRun 20 = .ok (.iload_n 2, 1) := by decide +kernel
theorem dX12_hasRun_21 : decode cX12_hasRun 21 = .ok (.iadd, 1) := by decide +kernel
theorem dX12_hasRun_22 : decode cX12_hasRun 22 = .ok (.invokevirtual 106, 3) := by decide +kernel
theorem dX12_hasRun_25 : decode cX12_hasRun 25 = .ok (.ifCond .ne 5, 3) := by decide +kernel
theorem dX12_hasRun_28 : decode cX12_hasRun 28 = .ok (.iconst 0, 1) := by decide +kernel
theorem dX12_hasRun_29 : decode cX12_hasRun 29 = .ok (.ireturn, 1) := by decide +kernel
theorem dX12_hasRun_30 : decode cX12_hasRun 30 = .ok (.aload_n 0, 1) := by decide +kernel
theorem dX12_hasRun_31 : decode cX12_hasRun 31 = .ok (.iload_n 1, 1) := by decide +kernel
theorem dX12_hasRun_32 : decode cX12_hasRun 32 = .ok (.iload_n 2, 1) := by decide +kernel
theorem dX12_hasRun_33 : decode cX12_hasRun 33 = .ok (.invokevirtual 128, 3) := by decide +kernel
theorem dX12_hasRun_36 : decode cX12_hasRun 36 = .ok (.iconst 1, 1) := by decide +kernel
theorem dX12_hasRun_37 : decode cX12_hasRun 37 = .ok (.ireturn, 1) := by decide +kernel
theorem dX12_words_0 : decode cX12_words 0 = .ok (.aload_n 0, 1) := by decide +kernel
theorem dX12_words_1 : decode cX12_words 1 = .ok (.iload_n 1, 1) := by decide +kernel
theorem dX12_words_2 : decode cX12_words 2 = .ok (.iload_n 2, 1) := by decide +kernel
theorem dX12_words_3 : decode cX12_words 3 = .ok (.invokevirtual 155, 3) := by decide +kernel
theorem dX12_words_6 : decode cX12_words 6 = .ok (.ifCond .ne 5, 3) := by decide +kernel
theorem dX12_words_9 : decode cX12_words 9 = .ok (.iconst (-1), 1) := by decide +kernel
theorem dX12_words_10 : decode cX12_words 10 = .ok (.ireturn, 1) := by decide +kernel
theorem dX12_words_11 : decode cX12_words 11 = .ok (.iconst 0, 1) := by decide +kernel
theorem dX12_words_12 : decode cX12_words 12 = .ok (.istore_n 3, 1) := by decide +kernel
theorem dX12_words_13 : decode cX12_words 13 = .ok (.iconst 0, 1) := by decide +kernel
theorem dX12_words_14 : decode cX12_words 14 = .ok (.istore 4, 2) := by decide +kernel
theorem dX12_words_16 : decode cX12_words 16 = .ok (.iload 4, 2) := by decide +kernel
theorem dX12_words_18 : decode cX12_words 18 = .ok (.aload_n 0, 1) := by decide +kernel
theorem dX12_words_19 : decode cX12_words 19 = .ok (.getfield 83, 3) := by decide +kernel
theorem dX12_words_22 : decode cX12_words 22 = .ok (.if_icmp .ge 21, 3) := by decide +kernel
theorem dX12_words_25 : decode cX12_words 25 = .ok (.aload_n 0, 1) := by decide +kernel
theorem dX12_words_26 : decode cX12_words 26 = .ok (.iload 4, 2) := by decide +kernel
theorem dX12_words_28 : decode cX12_words 28 = .ok (.invokevirtual 125, 3) := by decide +kernel
theorem dX12_words_31 : decode cX12_words 31 = .ok (.ifCond .eq 6, 3) := by decide +kernel
theorem dX12_words_34 : decode cX12_words 34 = .ok (.iinc 3 1, 3) := by decide +kernel
theorem dX12_words_37 : decode cX12_words 37 = .ok (.iinc 4 1, 3) := by decide +kernel
theorem dX12_words_40 : decode cX12_words 40 = .ok (.goto (-24), 3) := by decide +kernel
theorem dX12_words_43 : decode cX12_words 43 = .ok (.iload_n 3, 1) := by decide +kernel
theorem dX12_words_44 : decode cX12_words 44 = .ok (.ireturn, 1) := by decide +kernel
theorem dX12_read_0 : decode cX12_read 0 = .ok (.aload_n 0, 1) := by decide +kernel
theorem dX12_read_1 : decode cX12_read 1 = .ok (.iload_n 1, 1) := by decide +kernel
theorem dX12_read_2 : decode cX12_read 2 = .ok (.iload_n 2, 1) := by decide +kernel
theorem dX12_read_3 : decode cX12_read 3 = .ok (.invokevirtual 155, 3) := by decide +kernel
theorem dX12_read_6 : decode cX12_read 6 = .ok (.ifCond .eq 7, 3) := by decide +kernel
theorem dX12_read_9 : decode cX12_read 9 = .ok (.iload_n 3, 1) := by decide +kernel
theorem dX12_read_10 : decode cX12_read 10 = .ok (.ifCond .ge 5, 3) := by decide +kernel
theorem dX12_read_13 : decode cX12_read 13 = .ok (.iconst (-1), 1) := by decide +kernel
theorem dX12_read_14 : decode cX12_read 14 = .ok (.ireturn, 1) := by decide +kernel
theorem dX12_read_15 : decode cX12_read 15 = .ok (.iconst 0, 1) := by decide +kernel
theorem dX12_read_16 : decode cX12_read 16 = .ok (.istore 4, 2) := by decide +kernel
theorem dX12_read_18 : decode cX12_read 18 = .ok (.iconst 0, 1) := by decide +kernel
theorem dX12_read_19 : decode cX12_read 19 = .ok (.istore 5, 2) := by decide +kernel
theorem dX12_read_21 : decode cX12_read 21 = .ok (.iload 5, 2) := by decide +kernel
theorem dX12_read_23 : decode cX12_read 23 = .ok (.aload_n 0, 1) := by decide +kernel
theorem dX12_read_24 : decode cX12_read 24 = .ok (.getfield 83, 3) := by decide +kernel
theorem dX12_read_27 : decode cX12_read 27 = .ok (.if_icmp .ge 33, 3) := by decide +kernel
theorem dX12_read_30 : decode cX12_read 30 = .ok (.aload_n 0, 1) := by decide +kernel
theorem dX12_read_31 : decode cX12_read 31 = .ok (.iload 5, 2) := by decide +kernel
theorem dX12_read_33 : decode cX12_read 33 = .ok (.invokevirtual 125, 3) := by decide +kernel
theorem dX12_read_36 : decode cX12_read 36 = .ok (.ifCond .ne 6, 3) := by decide +kernel
theorem dX12_read_39 : decode cX12_read 39 = .ok (.goto 15, 3) := by decide +kernel
theorem dX12_read_42 : decode cX12_read 42 = .ok (.iload 4, 2) := by decide +kernel
theorem dX12_read_44 : decode cX12_read 44 = .ok (.iload_n 3, 1) := by decide +kernel
theorem dX12_read_45 : decode cX12_read 45 = .ok (.if_icmp .ne 6, 3) := by decide +kernel
theorem dX12_read_48 : decode cX12_read 48 = .ok (.iload 5, 2) := by decide +kernel
theorem dX12_read_50 : decode cX12_read 50 = .ok (.ireturn, 1) := by decide +kernel
theorem dX12_read_51 : decode cX12_read 51 = .ok (.iinc 4 1, 3) := by decide +kernel
theorem dX12_read_54 : decode cX12_read 54 = .ok (.iinc 5 1, 3) := by decide +kernel
theorem dX12_read_57 : decode cX12_read 57 = .ok (.goto (-36), 3) := by decide +kernel
theorem dX12_read_60 : decode cX12_read 60 = .ok (.iconst (-1), 1) := by decide +kernel
theorem dX12_read_61 : decode cX12_read 61 = .ok (.ireturn, 1) := by decide +kernel
theorem dX12_sides_0 : decode cX12_sides 0 = .ok (.iconst 0, 1) := by decide +kernel
theorem dX12_sides_1 : decode cX12_sides 1 = .ok (.istore_n 3, 1) := by decide +kernel
theorem dX12_sides_2 : decode cX12_sides 2 = .ok (.iconst 0, 1) := by decide +kernel
theorem dX12_sides_3 : decode cX12_sides 3 = .ok (.istore 4, 2) := by decide +kernel
theorem dX12_sides_5 : decode cX12_sides 5 = .ok (.iload 4, 2) := by decide +kernel
theorem dX12_sides_7 : decode cX12_sides 7 = .ok (.sipush 512, 3) := by decide +kernel
theorem dX12_sides_10 : decode cX12_sides 10 = .ok (.if_icmp .ge 125, 3) := by decide +kernel
theorem dX12_sides_13 : decode cX12_sides 13 = .ok (.aload_n 0, 1) := by decide +kernel
theorem dX12_sides_14 : decode cX12_sides 14 = .ok (.getfield 53, 3) := by decide +kernel
theorem dX12_sides_17 : decode cX12_sides 17 = .ok (.iload 4, 2) := by decide +kernel
theorem dX12_sides_19 : decode cX12_sides 19 = .ok (.iaload, 1) := by decide +kernel
theorem dX12_sides_20 : decode cX12_sides 20 = .ok (.iload_n 1, 1) := by decide +kernel
theorem dX12_sides_21 : decode cX12_sides 21 = .ok (.if_icmp .eq 6, 3) := by decide +kernel
theorem dX12_sides_24 : decode cX12_sides 24 = .ok (.goto 105, 3) := by decide +kernel
theorem dX12_sides_27 : decode cX12_sides 27 = .ok (.iload 4, 2) := by decide +kernel
theorem dX12_sides_29 : decode cX12_sides 29 = .ok (.bipush 32, 2) := by decide +kernel
theorem dX12_sides_31 : decode cX12_sides 31 = .ok (.irem, 1) := by decide +kernel
theorem dX12_sides_32 : decode cX12_sides 32 = .ok (.ifCond .le 19, 3) := by decide +kernel
theorem dX12_sides_35 : decode cX12_sides 35 = .ok (.aload_n 0, 1) := by decide +kernel
theorem dX12_sides_36 : decode cX12_sides 36 = .ok (.getfield 53, 3) := by decide +kernel
theorem dX12_sides_39 : decode cX12_sides 39 = .ok (.iload 4, 2) := by decide +kernel
theorem dX12_sides_41 : decode cX12_sides 41 = .ok (.iconst 1, 1) := by decide +kernel
theorem dX12_sides_42 : decode cX12_sides 42 = .ok (.isub, 1) := by decide +kernel
theorem dX12_sides_43 : decode cX12_sides 43 = .ok (.iaload, 1) := by decide +kernel
theorem dX12_sides_44 : decode cX12_sides 44 = .ok (.iload_n 2, 1) := by decide +kernel
theorem dX12_sides_45 : decode cX12_sides 45 = .ok (.if_icmp .ne 6, 3) := by decide +kernel
theorem dX12_sides_48 : decode cX12_sides 48 = .ok (.iinc 3 1, 3) := by decide +kernel
theorem dX12_sides_51 : decode cX12_sides 51 = .ok (.iload 4, 2) := by decide +kernel
theorem dX12_sides_53 : decode cX12_sides 53 = .ok (.bipush 32, 2) := by decide +kernel
theorem dX12_sides_55 : decode cX12_sides 55 = .ok (.irem, 1) := by decide +kernel
theorem dX12_sides_56 : decode cX12_sides 56 = .ok (.bipush 31, 2) := by decide +kernel
theorem dX12_sides_58 : decode cX12_sides 58 = .ok (.if_icmp .ge 19, 3) := by decide +kernel
theorem dX12_sides_61 : decode cX12_sides 61 = .ok (.aload_n 0, 1) := by decide +kernel
theorem dX12_sides_62 : decode cX12_sides 62 = .ok (.getfield 53, 3) := by decide +kernel
theorem dX12_sides_65 : decode cX12_sides 65 = .ok (.iload 4, 2) := by decide +kernel
theorem dX12_sides_67 : decode cX12_sides 67 = .ok (.iconst 1, 1) := by decide +kernel
theorem dX12_sides_68 : decode cX12_sides 68 = .ok (.iadd, 1) := by decide +kernel
theorem dX12_sides_69 : decode cX12_sides 69 = .ok (.iaload, 1) := by decide +kernel
theorem dX12_sides_70 : decode cX12_sides 70 = .ok (.iload_n 2, 1) := by decide +kernel
theorem dX12_sides_71 : decode cX12_sides 71 = .ok (.if_icmp .ne 6, 3) := by decide +kernel
theorem dX12_sides_74 : decode cX12_sides 74 = .ok (.iinc 3 1, 3) := by decide +kernel
theorem dX12_sides_77 : decode cX12_sides 77 = .ok (.iload 4, 2) := by decide +kernel
theorem dX12_sides_79 : decode cX12_sides 79 = .ok (.bipush 32, 2) := by decide +kernel
theorem dX12_sides_81 : decode cX12_sides 81 = .ok (.if_icmp .lt 20, 3) := by decide +kernel
theorem dX12_sides_84 : decode cX12_sides 84 = .ok (.aload_n 0, 1) := by decide +kernel
theorem dX12_sides_85 : decode cX12_sides 85 = .ok (.getfield 53, 3) := by decide +kernel
theorem dX12_sides_88 : decode cX12_sides 88 = .ok (.iload 4, 2) := by decide +kernel
theorem dX12_sides_90 : decode cX12_sides 90 = .ok (.bipush 32, 2) := by decide +kernel
theorem dX12_sides_92 : decode cX12_sides 92 = .ok (.isub, 1) := by decide +kernel
theorem dX12_sides_93 : decode cX12_sides 93 = .ok (.iaload, 1) := by decide +kernel
theorem dX12_sides_94 : decode cX12_sides 94 = .ok (.iload_n 2, 1) := by decide +kernel
theorem dX12_sides_95 : decode cX12_sides 95 = .ok (.if_icmp .ne 6, 3) := by decide +kernel
theorem dX12_sides_98 : decode cX12_sides 98 = .ok (.iinc 3 1, 3) := by decide +kernel
theorem dX12_sides_101 : decode cX12_sides 101 = .ok (.iload 4, 2) := by decide +kernel
theorem dX12_sides_103 : decode cX12_sides 103 = .ok (.bipush 32, 2) := by decide +kernel
theorem dX12_sides_105 : decode cX12_sides 105 = .ok (.iadd, 1) := by decide +kernel
theorem dX12_sides_106 : decode cX12_sides 106 = .ok (.sipush 512, 3) := by decide +kernel
theorem dX12_sides_109 : decode cX12_sides 109 = .ok (.if_icmp .ge 20, 3) := by decide +kernel
theorem dX12_sides_112 : decode cX12_sides 112 = .ok (.aload_n 0, 1) := by decide +kernel
theorem dX12_sides_113 : decode cX12_sides 113 = .ok (.getfield 53, 3) := by decide +kernel
theorem dX12_sides_116 : decode cX12_sides 116 = .ok (.iload 4, 2) := by decide +kernel
theorem dX12_sides_118 : decode cX12_sides 118 = .ok (.bipush 32, 2) := by decide +kernel
theorem dX12_sides_120 : decode cX12_sides 120 = .ok (.iadd, 1) := by decide +kernel
theorem dX12_sides_121 : decode cX12_sides 121 = .ok (.iaload, 1) := by decide +kernel
theorem dX12_sides_122 : decode cX12_sides 122 = .ok (.iload_n 2, 1) := by decide +kernel
theorem dX12_sides_123 : decode cX12_sides 123 = .ok (.if_icmp .ne 6, 3) := by decide +kernel
theorem dX12_sides_126 : decode cX12_sides 126 = .ok (.iinc 3 1, 3) := by decide +kernel
theorem dX12_sides_129 : decode cX12_sides 129 = .ok (.iinc 4 1, 3) := by decide +kernel
theorem dX12_sides_132 : decode cX12_sides 132 = .ok (.goto (-127), 3) := by decide +kernel
theorem dX12_sides_135 : decode cX12_sides 135 = .ok (.iload_n 3, 1) := by decide +kernel
theorem dX12_sides_136 : decode cX12_sides 136 = .ok (.ireturn, 1) := by decide +kernel
theorem dX12_worthOf_0 : decode cX12_worthOf 0 = .ok (.aload_n 0, 1) := by decide +kernel
theorem dX12_worthOf_1 : decode cX12_worthOf 1 = .ok (.iload_n 1, 1) := by decide +kernel
theorem dX12_worthOf_2 : decode cX12_worthOf 2 = .ok (.iload_n 2, 1) := by decide +kernel
theorem dX12_worthOf_3 : decode cX12_worthOf 3 = .ok (.invokevirtual 158, 3) := by decide +kernel
theorem dX12_worthOf_6 : decode cX12_worthOf 6 = .ok (.istore_n 3, 1) := by decide +kernel
theorem dX12_worthOf_7 : decode cX12_worthOf 7 = .ok (.iconst 0, 1) := by decide +kernel
theorem dX12_worthOf_8 : decode cX12_worthOf 8 = .ok (.istore 4, 2) := by decide +kernel
theorem dX12_worthOf_10 : decode cX12_worthOf 10 = .ok (.iload 4, 2) := by decide +kernel
theorem dX12_worthOf_12 : decode cX12_worthOf 12 = .ok (.bipush 16, 2) := by decide +kernel
theorem dX12_worthOf_14 : decode cX12_worthOf 14 = .ok (.if_icmp .ge 23, 3) := by decide +kernel
theorem dX12_worthOf_17 : decode cX12_worthOf 17 = .ok (.aload_n 0, 1) := by decide +kernel
theorem dX12_worthOf_18 : decode cX12_worthOf 18 = .ok (.iload_n 1, 1) := by decide +kernel
theorem dX12_worthOf_19 : decode cX12_worthOf 19 = .ok (.iload_n 2, 1) := by decide +kernel
theorem dX12_worthOf_20 : decode cX12_worthOf 20 = .ok (.iload 4, 2) := by decide +kernel
theorem dX12_worthOf_22 : decode cX12_worthOf 22 = .ok (.invokevirtual 100, 3) := by decide +kernel
theorem dX12_worthOf_25 : decode cX12_worthOf 25 = .ok (.ifCond .le 6, 3) := by decide +kernel
theorem dX12_worthOf_28 : decode cX12_worthOf 28 = .ok (.iinc 3 2, 3) := by decide +kernel
theorem dX12_worthOf_31 : decode cX12_worthOf 31 = .ok (.iinc 4 1, 3) := by decide +kernel
theorem dX12_worthOf_34 : decode cX12_worthOf 34 = .ok (.goto (-24), 3) := by decide +kernel
theorem dX12_worthOf_37 : decode cX12_worthOf 37 = .ok (.iconst 0, 1) := by decide +kernel
theorem dX12_worthOf_38 : decode cX12_worthOf 38 = .ok (.istore 4, 2) := by decide +kernel
theorem dX12_worthOf_40 : decode cX12_worthOf 40 = .ok (.iload 4, 2) := by decide +kernel
theorem dX12_worthOf_42 : decode cX12_worthOf 42 = .ok (.bipush 32, 2) := by decide +kernel
theorem dX12_worthOf_44 : decode cX12_worthOf 44 = .ok (.if_icmp .ge 23, 3) := by decide +kernel
theorem dX12_worthOf_47 : decode cX12_worthOf 47 = .ok (.aload_n 0, 1) := by decide +kernel
theorem dX12_worthOf_48 : decode cX12_worthOf 48 = .ok (.iload_n 1, 1) := by decide +kernel
theorem dX12_worthOf_49 : decode cX12_worthOf 49 = .ok (.iload_n 2, 1) := by decide +kernel
theorem dX12_worthOf_50 : decode cX12_worthOf 50 = .ok (.iload 4, 2) := by decide +kernel
theorem dX12_worthOf_52 : decode cX12_worthOf 52 = .ok (.invokevirtual 103, 3) := by decide +kernel
theorem dX12_worthOf_55 : decode cX12_worthOf 55 = .ok (.ifCond .le 6, 3) := by decide +kernel
theorem dX12_worthOf_58 : decode cX12_worthOf 58 = .ok (.iinc 3 2, 3) := by decide +kernel
theorem dX12_worthOf_61 : decode cX12_worthOf 61 = .ok (.iinc 4 1, 3) := by decide +kernel
theorem dX12_worthOf_64 : decode cX12_worthOf 64 = .ok (.goto (-24), 3) := by decide +kernel
theorem dX12_worthOf_67 : decode cX12_worthOf 67 = .ok (.iload_n 3, 1) := by decide +kernel
theorem dX12_worthOf_68 : decode cX12_worthOf 68 = .ok (.ireturn, 1) := by decide +kernel
theorem dX12_worthNow_0 : decode cX12_worthNow 0 = .ok (.iconst 0, 1) := by decide +kernel
theorem dX12_worthNow_1 : decode cX12_worthNow 1 = .ok (.istore_n 1, 1) := by decide +kernel
theorem dX12_worthNow_2 : decode cX12_worthNow 2 = .ok (.iconst 0, 1) := by decide +kernel
theorem dX12_worthNow_3 : decode cX12_worthNow 3 = .ok (.istore_n 2, 1) := by decide +kernel
theorem dX12_worthNow_4 : decode cX12_worthNow 4 = .ok (.iload_n 2, 1) := by decide +kernel
theorem dX12_worthNow_5 : decode cX12_worthNow 5 = .ok (.bipush 10, 2) := by decide +kernel
theorem dX12_worthNow_7 : decode cX12_worthNow 7 = .ok (.if_icmp .ge 52, 3) := by decide +kernel
theorem dX12_worthNow_10 : decode cX12_worthNow 10 = .ok (.iload_n 2, 1) := by decide +kernel
theorem dX12_worthNow_11 : decode cX12_worthNow 11 = .ok (.iconst 1, 1) := by decide +kernel
theorem dX12_worthNow_12 : decode cX12_worthNow 12 = .ok (.iadd, 1) := by decide +kernel
theorem dX12_worthNow_13 : decode cX12_worthNow 13 = .ok (.istore_n 3, 1) := by decide +kernel
theorem dX12_worthNow_14 : decode cX12_worthNow 14 = .ok (.iload_n 3, 1) := by decide +kernel
theorem dX12_worthNow_15 : decode cX12_worthNow 15 = .ok (.bipush 10, 2) := by decide +kernel
theorem dX12_worthNow_17 : decode cX12_worthNow 17 = .ok (.if_icmp .ge 36, 3) := by decide +kernel
theorem dX12_worthNow_20 : decode cX12_worthNow 20 = .ok (.aload_n 0, 1) := by decide +kernel
theorem dX12_worthNow_21 : decode cX12_worthNow 21 = .ok (.getfield 26, 3) := by decide +kernel
theorem dX12_worthNow_24 : decode cX12_worthNow 24 = .ok (.iload_n 2, 1) := by decide +kernel
theorem dX12_worthNow_25 : decode cX12_worthNow 25 = .ok (.baload, 1) := by decide +kernel
theorem dX12_worthNow_26 : decode cX12_worthNow 26 = .ok (.ifCond .eq 21, 3) := by decide +kernel
theorem dX12_worthNow_29 : decode cX12_worthNow 29 = .ok (.aload_n 0, 1) := by decide +kernel
theorem dX12_worthNow_30 : decode cX12_worthNow 30 = .ok (.getfield 26, 3) := by decide +kernel
theorem dX12_worthNow_33 : decode cX12_worthNow 33 = .ok (.iload_n 3, 1) := by decide +kernel
theorem dX12_worthNow_34 : decode cX12_worthNow 34 = .ok (.baload, 1) := by decide +kernel
theorem dX12_worthNow_35 : decode cX12_worthNow 35 = .ok (.ifCond .eq 12, 3) := by decide +kernel
theorem dX12_worthNow_38 : decode cX12_worthNow 38 = .ok (.iload_n 1, 1) := by decide +kernel
theorem dX12_worthNow_39 : decode cX12_worthNow 39 = .ok (.aload_n 0, 1) := by decide +kernel
theorem dX12_worthNow_40 : decode cX12_worthNow 40 = .ok (.iload_n 2, 1) := by decide +kernel
theorem dX12_worthNow_41 : decode cX12_worthNow 41 = .ok (.iload_n 3, 1) := by decide +kernel
theorem dX12_worthNow_42 : decode cX12_worthNow 42 = .ok (.invokevirtual 162, 3) := by decide +kernel
theorem dX12_worthNow_45 : decode cX12_worthNow 45 = .ok (.iadd, 1) := by decide +kernel
theorem dX12_worthNow_46 : decode cX12_worthNow 46 = .ok (.istore_n 1, 1) := by decide +kernel
theorem dX12_worthNow_47 : decode cX12_worthNow 47 = .ok (.iinc 3 1, 3) := by decide +kernel
theorem dX12_worthNow_50 : decode cX12_worthNow 50 = .ok (.goto (-36), 3) := by decide +kernel
theorem dX12_worthNow_53 : decode cX12_worthNow 53 = .ok (.iinc 2 1, 3) := by decide +kernel
theorem dX12_worthNow_56 : decode cX12_worthNow 56 = .ok (.goto (-52), 3) := by decide +kernel
theorem dX12_worthNow_59 : decode cX12_worthNow 59 = .ok (.iload_n 1, 1) := by decide +kernel
theorem dX12_worthNow_60 : decode cX12_worthNow 60 = .ok (.ireturn, 1) := by decide +kernel
theorem dX12_worth_0 : decode cX12_worth 0 = .ok (.aload_n 0, 1) := by decide +kernel
theorem dX12_worth_1 : decode cX12_worth 1 = .ok (.invokevirtual 136, 3) := by decide +kernel
theorem dX12_worth_4 : decode cX12_worth 4 = .ok (.pop, 1) := by decide +kernel
theorem dX12_worth_5 : decode cX12_worth 5 = .ok (.aload_n 0, 1) := by decide +kernel
theorem dX12_worth_6 : decode cX12_worth 6 = .ok (.invokevirtual 165, 3) := by decide +kernel
theorem dX12_worth_9 : decode cX12_worth 9 = .ok (.ireturn, 1) := by decide +kernel
theorem dX12_rowOf_0 : decode cX12_rowOf 0 = .ok (.iload_n 0, 1) := by decide +kernel
theorem dX12_rowOf_1 : decode cX12_rowOf 1 = .ok (.bipush 64, 2) := by decide +kernel
theorem dX12_rowOf_3 : decode cX12_rowOf 3 = .ok (.idiv, 1) := by decide +kernel
theorem dX12_rowOf_4 : decode cX12_rowOf 4 = .ok (.iconst 5, 1) := by decide +kernel
theorem dX12_rowOf_5 : decode cX12_rowOf 5 = .ok (.isub, 1) := by decide +kernel
theorem dX12_rowOf_6 : decode cX12_rowOf 6 = .ok (.ireturn, 1) := by decide +kernel
theorem dX12_columnOf_0 : decode cX12_columnOf 0 = .ok (.iload_n 0, 1) := by decide +kernel
theorem dX12_columnOf_1 : decode cX12_columnOf 1 = .ok (.bipush 64, 2) := by decide +kernel
theorem dX12_columnOf_3 : decode cX12_columnOf 3 = .ok (.irem, 1) := by decide +kernel
theorem dX12_columnOf_4 : decode cX12_columnOf 4 = .ok (.bipush 10, 2) := by decide +kernel
theorem dX12_columnOf_6 : decode cX12_columnOf 6 = .ok (.isub, 1) := by decide +kernel
theorem dX12_columnOf_7 : decode cX12_columnOf 7 = .ok (.ireturn, 1) := by decide +kernel
theorem dX12_fits_0 : decode cX12_fits 0 = .ok (.iconst 1, 1) := by decide +kernel
theorem dX12_fits_1 : decode cX12_fits 1 = .ok (.istore_n 2, 1) := by decide +kernel
theorem dX12_fits_2 : decode cX12_fits 2 = .ok (.iconst 0, 1) := by decide +kernel
theorem dX12_fits_3 : decode cX12_fits 3 = .ok (.istore_n 3, 1) := by decide +kernel
theorem dX12_fits_4 : decode cX12_fits 4 = .ok (.iload_n 3, 1) := by decide +kernel
theorem dX12_fits_5 : decode cX12_fits 5 = .ok (.iconst 5, 1) := by decide +kernel
theorem dX12_fits_6 : decode cX12_fits 6 = .ok (.if_icmp .ge 181, 3) := by decide +kernel
theorem dX12_fits_9 : decode cX12_fits 9 = .ok (.iconst 0, 1) := by decide +kernel
theorem dX12_fits_10 : decode cX12_fits 10 = .ok (.istore 4, 2) := by decide +kernel
theorem dX12_fits_12 : decode cX12_fits 12 = .ok (.iload 4, 2) := by decide +kernel
theorem dX12_fits_14 : decode cX12_fits 14 = .ok (.bipush 10, 2) := by decide +kernel
theorem dX12_fits_16 : decode cX12_fits 16 = .ok (.if_icmp .ge 165, 3) := by decide +kernel
theorem dX12_fits_19 : decode cX12_fits 19 = .ok (.aload_n 0, 1) := by decide +kernel
theorem dX12_fits_20 : decode cX12_fits 20 = .ok (.iload_n 1, 1) := by decide +kernel
theorem dX12_fits_21 : decode cX12_fits 21 = .ok (.iload_n 3, 1) := by decide +kernel
theorem dX12_fits_22 : decode cX12_fits 22 = .ok (.iload 4, 2) := by decide +kernel
theorem dX12_fits_24 : decode cX12_fits 24 = .ok (.invokevirtual 86, 3) := by decide +kernel
theorem dX12_fits_27 : decode cX12_fits 27 = .ok (.bipush 95, 2) := by decide +kernel
theorem dX12_fits_29 : decode cX12_fits 29 = .ok (.if_icmp .ne 6, 3) := by decide +kernel
theorem dX12_fits_32 : decode cX12_fits 32 = .ok (.goto 143, 3) := by decide +kernel
theorem dX12_fits_35 : decode cX12_fits 35 = .ok (.aload_n 0, 1) := by decide +kernel
theorem dX12_fits_36 : decode cX12_fits 36 = .ok (.getfield 29, 3) := by decide +kernel
theorem dX12_fits_39 : decode cX12_fits 39 = .ok (.iload_n 1, 1) := by decide +kernel
theorem dX12_fits_40 : decode cX12_fits 40 = .ok (.iaload, 1) := by decide +kernel
theorem dX12_fits_41 : decode cX12_fits 41 = .ok (.iload_n 3, 1) := by decide +kernel
theorem dX12_fits_42 : decode cX12_fits 42 = .ok (.iadd, 1) := by decide +kernel
theorem dX12_fits_43 : decode cX12_fits 43 = .ok (.istore 5, 2) := by decide +kernel
theorem dX12_fits_45 : decode cX12_fits 45 = .ok (.aload_n 0, 1) := by decide +kernel
theorem dX12_fits_46 : decode cX12_fits 46 = .ok (.getfield 32, 3) := by decide +kernel
theorem dX12_fits_49 : decode cX12_fits 49 = .ok (.iload_n 1, 1) := by decide +kernel
theorem dX12_fits_50 : decode cX12_fits 50 = .ok (.iaload, 1) := by decide +kernel
theorem dX12_fits_51 : decode cX12_fits 51 = .ok (.iload 4, 2) := by decide +kernel
theorem dX12_fits_53 : decode cX12_fits 53 = .ok (.iadd, 1) := by decide +kernel
theorem dX12_fits_54 : decode cX12_fits 54 = .ok (.istore 6, 2) := by decide +kernel
theorem dX12_fits_56 : decode cX12_fits 56 = .ok (.iload 5, 2) := by decide +kernel
theorem dX12_fits_58 : decode cX12_fits 58 = .ok (.iload 6, 2) := by decide +kernel
theorem dX12_fits_60 : decode cX12_fits 60 = .ok (.invokestatic 152, 3) := by decide +kernel
theorem dX12_fits_63 : decode cX12_fits 63 = .ok (.ifCond .eq 20, 3) := by decide +kernel
theorem dX12_fits_66 : decode cX12_fits 66 = .ok (.aload_n 0, 1) := by decide +kernel
theorem dX12_fits_67 : decode cX12_fits 67 = .ok (.getfield 56, 3) := by decide +kernel
theorem dX12_fits_70 : decode cX12_fits 70 = .ok (.bipush 32, 2) := by decide +kernel
theorem dX12_fits_72 : decode cX12_fits 72 = .ok (.iload 5, 2) := by decide +kernel
theorem dX12_fits_74 : decode cX12_fits 74 = .ok (.imul, 1) := by decide +kernel
theorem dX12_fits_75 : decode cX12_fits 75 = .ok (.iload 6, 2) := by decide +kernel
theorem dX12_fits_77 : decode cX12_fits 77 = .ok (.iadd, 1) := by decide +kernel
theorem dX12_fits_78 : decode cX12_fits 78 = .ok (.iaload, 1) := by decide +kernel
theorem dX12_fits_79 : decode cX12_fits 79 = .ok (.iconst (-1), 1) := by decide +kernel
theorem dX12_fits_80 : decode cX12_fits 80 = .ok (.if_icmp .eq 5, 3) := by decide +kernel
theorem dX12_fits_83 : decode cX12_fits 83 = .ok (.iconst 0, 1) := by decide +kernel
theorem dX12_fits_84 : decode cX12_fits 84 = .ok (.ireturn, 1) := by decide +kernel
theorem dX12_fits_85 : decode cX12_fits 85 = .ok (.bipush 32, 2) := by decide +kernel
theorem dX12_fits_87 : decode cX12_fits 87 = .ok (.iload 5, 2) := by decide +kernel
theorem dX12_fits_89 : decode cX12_fits 89 = .ok (.imul, 1) := by decide +kernel
theorem dX12_fits_90 : decode cX12_fits 90 = .ok (.iload 6, 2) := by decide +kernel
theorem dX12_fits_92 : decode cX12_fits 92 = .ok (.iadd, 1) := by decide +kernel
theorem dX12_fits_93 : decode cX12_fits 93 = .ok (.istore 7, 2) := by decide +kernel
theorem dX12_fits_95 : decode cX12_fits 95 = .ok (.iload 6, 2) := by decide +kernel
theorem dX12_fits_97 : decode cX12_fits 97 = .ok (.ifCond .le 16, 3) := by decide +kernel
theorem dX12_fits_100 : decode cX12_fits 100 = .ok (.aload_n 0, 1) := by decide +kernel
theorem dX12_fits_101 : decode cX12_fits 101 = .ok (.getfield 56, 3) := by decide +kernel
theorem dX12_fits_104 : decode cX12_fits 104 = .ok (.iload 7, 2) := by decide +kernel
theorem dX12_fits_106 : decode cX12_fits 106 = .ok (.iconst 1, 1) := by decide +kernel
theorem dX12_fits_107 : decode cX12_fits 107 = .ok (.isub, 1) := by decide +kernel
theorem dX12_fits_108 : decode cX12_fits 108 = .ok (.iaload, 1) := by decide +kernel
theorem dX12_fits_109 : decode cX12_fits 109 = .ok (.iconst (-1), 1) := by decide +kernel
theorem dX12_fits_110 : decode cX12_fits 110 = .ok (.if_icmp .ne 63, 3) := by decide +kernel
theorem dX12_fits_113 : decode cX12_fits 113 = .ok (.iload 6, 2) := by decide +kernel
theorem dX12_fits_115 : decode cX12_fits 115 = .ok (.bipush 31, 2) := by decide +kernel
theorem dX12_fits_117 : decode cX12_fits 117 = .ok (.if_icmp .ge 16, 3) := by decide +kernel
theorem dX12_fits_120 : decode cX12_fits 120 = .ok (.aload_n 0, 1) := by decide +kernel
theorem dX12_fits_121 : decode cX12_fits 121 = .ok (.getfield 56, 3) := by decide +kernel
theorem dX12_fits_124 : decode cX12_fits 124 = .ok (.iload 7, 2) := by decide +kernel
theorem dX12_fits_126 : decode cX12_fits 126 = .ok (.iconst 1, 1) := by decide +kernel
theorem dX12_fits_127 : decode cX12_fits 127 = .ok (.iadd, 1) := by decide +kernel
theorem dX12_fits_128 : decode cX12_fits 128 = .ok (.iaload, 1) := by decide +kernel
theorem dX12_fits_129 : decode cX12_fits 129 = .ok (.iconst (-1), 1) := by decide +kernel
theorem dX12_fits_130 : decode cX12_fits 130 = .ok (.if_icmp .ne 43, 3) := by decide +kernel
theorem dX12_fits_133 : decode cX12_fits 133 = .ok (.iload 5, 2) := by decide +kernel
theorem dX12_fits_135 : decode cX12_fits 135 = .ok (.ifCond .le 17, 3) := by decide +kernel
theorem dX12_fits_138 : decode cX12_fits 138 = .ok (.aload_n 0, 1) := by decide +kernel
theorem dX12_fits_139 : decode cX12_fits 139 = .ok (.getfield 56, 3) := by decide +kernel
theorem dX12_fits_142 : decode cX12_fits 142 = .ok (.iload 7, 2) := by decide +kernel
theorem dX12_fits_144 : decode cX12_fits 144 = .ok (.bipush 32, 2) := by decide +kernel
theorem dX12_fits_146 : decode cX12_fits 146 = .ok (.isub, 1) := by decide +kernel
theorem dX12_fits_147 : decode cX12_fits 147 = .ok (.iaload, 1) := by decide +kernel
theorem dX12_fits_148 : decode cX12_fits 148 = .ok (.iconst (-1), 1) := by decide +kernel
theorem dX12_fits_149 : decode cX12_fits 149 = .ok (.if_icmp .ne 24, 3) := by decide +kernel
theorem dX12_fits_152 : decode cX12_fits 152 = .ok (.iload 5, 2) := by decide +kernel
theorem dX12_fits_154 : decode cX12_fits 154 = .ok (.bipush 15, 2) := by decide +kernel
theorem dX12_fits_156 : decode cX12_fits 156 = .ok (.if_icmp .ge 19, 3) := by decide +kernel
theorem dX12_fits_159 : decode cX12_fits 159 = .ok (.aload_n 0, 1) := by decide +kernel
theorem dX12_fits_160 : decode cX12_fits 160 = .ok (.getfield 56, 3) := by decide +kernel
theorem dX12_fits_163 : decode cX12_fits 163 = .ok (.iload 7, 2) := by decide +kernel
theorem dX12_fits_165 : decode cX12_fits 165 = .ok (.bipush 32, 2) := by decide +kernel
theorem dX12_fits_167 : decode cX12_fits 167 = .ok (.iadd, 1) := by decide +kernel
theorem dX12_fits_168 : decode cX12_fits 168 = .ok (.iaload, 1) := by decide +kernel
theorem dX12_fits_169 : decode cX12_fits 169 = .ok (.iconst (-1), 1) := by decide +kernel
theorem dX12_fits_170 : decode cX12_fits 170 = .ok (.if_icmp .eq 5, 3) := by decide +kernel
theorem dX12_fits_173 : decode cX12_fits 173 = .ok (.iconst 2, 1) := by decide +kernel
theorem dX12_fits_174 : decode cX12_fits 174 = .ok (.istore_n 2, 1) := by decide +kernel
theorem dX12_fits_175 : decode cX12_fits 175 = .ok (.iinc 4 1, 3) := by decide +kernel
theorem dX12_fits_178 : decode cX12_fits 178 = .ok (.goto (-166), 3) := by decide +kernel
theorem dX12_fits_181 : decode cX12_fits 181 = .ok (.iinc 3 1, 3) := by decide +kernel
theorem dX12_fits_184 : decode cX12_fits 184 = .ok (.goto (-180), 3) := by decide +kernel
theorem dX12_fits_187 : decode cX12_fits 187 = .ok (.iload_n 2, 1) := by decide +kernel
theorem dX12_fits_188 : decode cX12_fits 188 = .ok (.ireturn, 1) := by decide +kernel
theorem dX12_anyLies_0 : decode cX12_anyLies 0 = .ok (.iconst 0, 1) := by decide +kernel
theorem dX12_anyLies_1 : decode cX12_anyLies 1 = .ok (.istore_n 1, 1) := by decide +kernel
theorem dX12_anyLies_2 : decode cX12_anyLies 2 = .ok (.iconst 0, 1) := by decide +kernel
theorem dX12_anyLies_3 : decode cX12_anyLies 3 = .ok (.istore_n 2, 1) := by decide +kernel
theorem dX12_anyLies_4 : decode cX12_anyLies 4 = .ok (.iload_n 2, 1) := by decide +kernel
theorem dX12_anyLies_5 : decode cX12_anyLies 5 = .ok (.bipush 10, 2) := by decide +kernel
theorem dX12_anyLies_7 : decode cX12_anyLies 7 = .ok (.if_icmp .ge 28, 3) := by decide +kernel
theorem dX12_anyLies_10 : decode cX12_anyLies 10 = .ok (.iload_n 1, 1) := by decide +kernel
theorem dX12_anyLies_11 : decode cX12_anyLies 11 = .ok (.ifCond .ne 12, 3) := by decide +kernel
theorem dX12_anyLies_14 : decode cX12_anyLies 14 = .ok (.aload_n 0, 1) := by decide +kernel
theorem dX12_anyLies_15 : decode cX12_anyLies 15 = .ok (.getfield 26, 3) := by decide +kernel
theorem dX12_anyLies_18 : decode cX12_anyLies 18 = .ok (.iload_n 2, 1) := by decide +kernel
theorem dX12_anyLies_19 : decode cX12_anyLies 19 = .ok (.baload, 1) := by decide +kernel
theorem dX12_anyLies_20 : decode cX12_anyLies 20 = .ok (.ifCond .eq 7, 3) := by decide +kernel
theorem dX12_anyLies_23 : decode cX12_anyLies 23 = .ok (.iconst 1, 1) := by decide +kernel
theorem dX12_anyLies_24 : decode cX12_anyLies 24 = .ok (.goto 4, 3) := by decide +kernel
theorem dX12_anyLies_27 : decode cX12_anyLies 27 = .ok (.iconst 0, 1) := by decide +kernel
theorem dX12_anyLies_28 : decode cX12_anyLies 28 = .ok (.istore_n 1, 1) := by decide +kernel
theorem dX12_anyLies_29 : decode cX12_anyLies 29 = .ok (.iinc 2 1, 3) := by decide +kernel
theorem dX12_anyLies_32 : decode cX12_anyLies 32 = .ok (.goto (-28), 3) := by decide +kernel
theorem dX12_anyLies_35 : decode cX12_anyLies 35 = .ok (.iload_n 1, 1) := by decide +kernel
theorem dX12_anyLies_36 : decode cX12_anyLies 36 = .ok (.ireturn, 1) := by decide +kernel
theorem dX12_notesEarly_0 : decode cX12_notesEarly 0 = .ok (.aload_n 0, 1) := by decide +kernel
theorem dX12_notesEarly_1 : decode cX12_notesEarly 1 = .ok (.invokevirtual 136, 3) := by decide +kernel
theorem dX12_notesEarly_4 : decode cX12_notesEarly 4 = .ok (.pop, 1) := by decide +kernel
theorem dX12_notesEarly_5 : decode cX12_notesEarly 5 = .ok (.iconst 0, 1) := by decide +kernel
theorem dX12_notesEarly_6 : decode cX12_notesEarly 6 = .ok (.istore_n 1, 1) := by decide +kernel
theorem dX12_notesEarly_7 : decode cX12_notesEarly 7 = .ok (.iload_n 1, 1) := by decide +kernel
theorem dX12_notesEarly_8 : decode cX12_notesEarly 8 = .ok (.sipush 512, 3) := by decide +kernel
theorem dX12_notesEarly_11 : decode cX12_notesEarly 11 = .ok (.if_icmp .ge 21, 3) := by decide +kernel
theorem dX12_notesEarly_14 : decode cX12_notesEarly 14 = .ok (.aload_n 0, 1) := by decide +kernel
theorem dX12_notesEarly_15 : decode cX12_notesEarly 15 = .ok (.getfield 56, 3) := by decide +kernel
theorem dX12_notesEarly_18 : decode cX12_notesEarly 18 = .ok (.iload_n 1, 1) := by decide +kernel
theorem dX12_notesEarly_19 : decode cX12_notesEarly 19 = .ok (.aload_n 0, 1) := by decide +kernel
theorem dX12_notesEarly_20 : decode cX12_notesEarly 20 = .ok (.getfield 53, 3) := by decide +kernel
theorem dX12_notesEarly_23 : decode cX12_notesEarly 23 = .ok (.iload_n 1, 1) := by decide +kernel
theorem dX12_notesEarly_24 : decode cX12_notesEarly 24 = .ok (.iaload, 1) := by decide +kernel
theorem dX12_notesEarly_25 : decode cX12_notesEarly 25 = .ok (.iastore, 1) := by decide +kernel
theorem dX12_notesEarly_26 : decode cX12_notesEarly 26 = .ok (.iinc 1 1, 3) := by decide +kernel
theorem dX12_notesEarly_29 : decode cX12_notesEarly 29 = .ok (.goto (-22), 3) := by decide +kernel
theorem dX12_notesEarly_32 : decode cX12_notesEarly 32 = .ok (.return_, 1) := by decide +kernel
theorem dX12_isNext_0 : decode cX12_isNext 0 = .ok (.iload_n 0, 1) := by decide +kernel
theorem dX12_isNext_1 : decode cX12_isNext 1 = .ok (.invokestatic 169, 3) := by decide +kernel
theorem dX12_isNext_4 : decode cX12_isNext 4 = .ok (.bipush (-4), 2) := by decide +kernel
theorem dX12_isNext_6 : decode cX12_isNext 6 = .ok (.bipush 15, 2) := by decide +kernel
theorem dX12_isNext_8 : decode cX12_isNext 8 = .ok (.invokestatic 69, 3) := by decide +kernel
theorem dX12_isNext_11 : decode cX12_isNext 11 = .ok (.ifCond .eq 21, 3) := by decide +kernel
theorem dX12_isNext_14 : decode cX12_isNext 14 = .ok (.iload_n 0, 1) := by decide +kernel
theorem dX12_isNext_15 : decode cX12_isNext 15 = .ok (.invokestatic 172, 3) := by decide +kernel
theorem dX12_isNext_18 : decode cX12_isNext 18 = .ok (.bipush (-9), 2) := by decide +kernel
theorem dX12_isNext_20 : decode cX12_isNext 20 = .ok (.bipush 31, 2) := by decide +kernel
theorem dX12_isNext_22 : decode cX12_isNext 22 = .ok (.invokestatic 69, 3) := by decide +kernel
theorem dX12_isNext_25 : decode cX12_isNext 25 = .ok (.ifCond .eq 7, 3) := by decide +kernel
theorem dX12_isNext_28 : decode cX12_isNext 28 = .ok (.iconst 1, 1) := by decide +kernel
theorem dX12_isNext_29 : decode cX12_isNext 29 = .ok (.goto 4, 3) := by decide +kernel
theorem dX12_isNext_32 : decode cX12_isNext 32 = .ok (.iconst 0, 1) := by decide +kernel
theorem dX12_isNext_33 : decode cX12_isNext 33 = .ok (.ireturn, 1) := by decide +kernel
theorem dX12_holds_0 : decode cX12_holds 0 = .ok (.aload_n 0, 1) := by decide +kernel
theorem dX12_holds_1 : decode cX12_holds 1 = .ok (.invokevirtual 165, 3) := by decide +kernel
theorem dX12_holds_4 : decode cX12_holds 4 = .ok (.istore 5, 2) := by decide +kernel
theorem dX12_holds_6 : decode cX12_holds 6 = .ok (.iload_n 2, 1) := by decide +kernel
theorem dX12_holds_7 : decode cX12_holds 7 = .ok (.iconst (-1), 1) := by decide +kernel
theorem dX12_holds_8 : decode cX12_holds 8 = .ok (.if_icmp .eq 8, 3) := by decide +kernel
theorem dX12_holds_11 : decode cX12_holds 11 = .ok (.iload_n 1, 1) := by decide +kernel
theorem dX12_holds_12 : decode cX12_holds 12 = .ok (.iload_n 2, 1) := by decide +kernel
theorem dX12_holds_13 : decode cX12_holds 13 = .ok (.if_icmp .ge 7, 3) := by decide +kernel
theorem dX12_holds_16 : decode cX12_holds 16 = .ok (.iload_n 3, 1) := by decide +kernel
theorem dX12_holds_17 : decode cX12_holds 17 = .ok (.goto 5, 3) := by decide +kernel
theorem dX12_holds_20 : decode cX12_holds 20 = .ok (.iload 4, 2) := by decide +kernel
theorem dX12_holds_22 : decode cX12_holds 22 = .ok (.istore 6, 2) := by decide +kernel
theorem dX12_holds_24 : decode cX12_holds 24 = .ok (.iload_n 2, 1) := by decide +kernel
theorem dX12_holds_25 : decode cX12_holds 25 = .ok (.iconst (-1), 1) := by decide +kernel
theorem dX12_holds_26 : decode cX12_holds 26 = .ok (.if_icmp .eq 8, 3) := by decide +kernel
theorem dX12_holds_29 : decode cX12_holds 29 = .ok (.iload_n 1, 1) := by decide +kernel
theorem dX12_holds_30 : decode cX12_holds 30 = .ok (.iload_n 2, 1) := by decide +kernel
theorem dX12_holds_31 : decode cX12_holds 31 = .ok (.if_icmp .ge 8, 3) := by decide +kernel
theorem dX12_holds_34 : decode cX12_holds 34 = .ok (.iload 4, 2) := by decide +kernel
theorem dX12_holds_36 : decode cX12_holds 36 = .ok (.goto 4, 3) := by decide +kernel
theorem dX12_holds_39 : decode cX12_holds 39 = .ok (.iload_n 3, 1) := by decide +kernel
theorem dX12_holds_40 : decode cX12_holds 40 = .ok (.istore 7, 2) := by decide +kernel
theorem dX12_holds_42 : decode cX12_holds 42 = .ok (.iload 5, 2) := by decide +kernel
theorem dX12_holds_44 : decode cX12_holds 44 = .ok (.aload_n 0, 1) := by decide +kernel
theorem dX12_holds_45 : decode cX12_holds 45 = .ok (.getfield 175, 3) := by decide +kernel
theorem dX12_holds_48 : decode cX12_holds 48 = .ok (.if_icmp .lt 39, 3) := by decide +kernel
theorem dX12_holds_51 : decode cX12_holds 51 = .ok (.iload 5, 2) := by decide +kernel
theorem dX12_holds_53 : decode cX12_holds 53 = .ok (.aload_n 0, 1) := by decide +kernel
theorem dX12_holds_54 : decode cX12_holds 54 = .ok (.getfield 175, 3) := by decide +kernel
theorem dX12_holds_57 : decode cX12_holds 57 = .ok (.if_icmp .ne 31, 3) := by decide +kernel
theorem dX12_holds_60 : decode cX12_holds 60 = .ok (.iload 6, 2) := by decide +kernel
theorem dX12_holds_62 : decode cX12_holds 62 = .ok (.aload_n 0, 1) := by decide +kernel
theorem dX12_holds_63 : decode cX12_holds 63 = .ok (.getfield 178, 3) := by decide +kernel
theorem dX12_holds_66 : decode cX12_holds 66 = .ok (.if_icmp .gt 21, 3) := by decide +kernel
theorem dX12_holds_69 : decode cX12_holds 69 = .ok (.iload 6, 2) := by decide +kernel
theorem dX12_holds_71 : decode cX12_holds 71 = .ok (.aload_n 0, 1) := by decide +kernel
theorem dX12_holds_72 : decode cX12_holds 72 = .ok (.getfield 178, 3) := by decide +kernel
theorem dX12_holds_75 : decode cX12_holds 75 = .ok (.if_icmp .ne 13, 3) := by decide +kernel
theorem dX12_holds_78 : decode cX12_holds 78 = .ok (.iload 7, 2) := by decide +kernel
theorem dX12_holds_80 : decode cX12_holds 80 = .ok (.aload_n 0, 1) := by decide +kernel
theorem dX12_holds_81 : decode cX12_holds 81 = .ok (.getfield 181, 3) := by decide +kernel
theorem dX12_holds_84 : decode cX12_holds 84 = .ok (.if_icmp .lt 4, 3) := by decide +kernel
theorem dX12_holds_87 : decode cX12_holds 87 = .ok (.return_, 1) := by decide +kernel
theorem dX12_holds_88 : decode cX12_holds 88 = .ok (.aload_n 0, 1) := by decide +kernel
theorem dX12_holds_89 : decode cX12_holds 89 = .ok (.iload 5, 2) := by decide +kernel
theorem dX12_holds_91 : decode cX12_holds 91 = .ok (.putfield 175, 3) := by decide +kernel
theorem dX12_holds_94 : decode cX12_holds 94 = .ok (.aload_n 0, 1) := by decide +kernel
theorem dX12_holds_95 : decode cX12_holds 95 = .ok (.iload 6, 2) := by decide +kernel
theorem dX12_holds_97 : decode cX12_holds 97 = .ok (.putfield 178, 3) := by decide +kernel
theorem dX12_holds_100 : decode cX12_holds 100 = .ok (.aload_n 0, 1) := by decide +kernel
theorem dX12_holds_101 : decode cX12_holds 101 = .ok (.iload 7, 2) := by decide +kernel
theorem dX12_holds_103 : decode cX12_holds 103 = .ok (.putfield 181, 3) := by decide +kernel
theorem dX12_holds_106 : decode cX12_holds 106 = .ok (.return_, 1) := by decide +kernel
theorem dX12_tries_0 : decode cX12_tries 0 = .ok (.aload_n 0, 1) := by decide +kernel
theorem dX12_tries_1 : decode cX12_tries 1 = .ok (.iconst (-1), 1) := by decide +kernel
theorem dX12_tries_2 : decode cX12_tries 2 = .ok (.putfield 175, 3) := by decide +kernel
theorem dX12_tries_5 : decode cX12_tries 5 = .ok (.aload_n 0, 1) := by decide +kernel
theorem dX12_tries_6 : decode cX12_tries 6 = .ok (.iconst 0, 1) := by decide +kernel
theorem dX12_tries_7 : decode cX12_tries 7 = .ok (.putfield 178, 3) := by decide +kernel
theorem dX12_tries_10 : decode cX12_tries 10 = .ok (.aload_n 0, 1) := by decide +kernel
theorem dX12_tries_11 : decode cX12_tries 11 = .ok (.iconst 0, 1) := by decide +kernel
theorem dX12_tries_12 : decode cX12_tries 12 = .ok (.putfield 181, 3) := by decide +kernel
theorem dX12_tries_15 : decode cX12_tries 15 = .ok (.aload_n 0, 1) := by decide +kernel
theorem dX12_tries_16 : decode cX12_tries 16 = .ok (.invokevirtual 184, 3) := by decide +kernel
theorem dX12_tries_19 : decode cX12_tries 19 = .ok (.iconst 0, 1) := by decide +kernel
theorem dX12_tries_20 : decode cX12_tries 20 = .ok (.istore_n 3, 1) := by decide +kernel
theorem dX12_tries_21 : decode cX12_tries 21 = .ok (.iconst 0, 1) := by decide +kernel
theorem dX12_tries_22 : decode cX12_tries 22 = .ok (.istore 4, 2) := by decide +kernel
theorem dX12_tries_24 : decode cX12_tries 24 = .ok (.iload 4, 2) := by decide +kernel
theorem dX12_tries_26 : decode cX12_tries 26 = .ok (.sipush 1344, 3) := by decide +kernel
theorem dX12_tries_29 : decode cX12_tries 29 = .ok (.if_icmp .ge 119, 3) := by decide +kernel
theorem dX12_tries_32 : decode cX12_tries 32 = .ok (.iload 4, 2) := by decide +kernel
theorem dX12_tries_34 : decode cX12_tries 34 = .ok (.invokestatic 187, 3) := by decide +kernel
theorem dX12_tries_37 : decode cX12_tries 37 = .ok (.ifCond .ne 6, 3) := by decide +kernel
theorem dX12_tries_40 : decode cX12_tries 40 = .ok (.goto 102, 3) := by decide +kernel
theorem dX12_tries_43 : decode cX12_tries 43 = .ok (.aload_n 0, 1) := by decide +kernel
theorem dX12_tries_44 : decode cX12_tries 44 = .ok (.getfield 29, 3) := by decide +kernel
theorem dX12_tries_47 : decode cX12_tries 47 = .ok (.iload_n 1, 1) := by decide +kernel
theorem dX12_tries_48 : decode cX12_tries 48 = .ok (.iload 4, 2) := by decide +kernel
theorem dX12_tries_50 : decode cX12_tries 50 = .ok (.invokestatic 169, 3) := by decide +kernel
theorem dX12_tries_53 : decode cX12_tries 53 = .ok (.iastore, 1) := by decide +kernel
theorem dX12_tries_54 : decode cX12_tries 54 = .ok (.aload_n 0, 1) := by decide +kernel
theorem dX12_tries_55 : decode cX12_tries 55 = .ok (.getfield 32, 3) := by decide +kernel
theorem dX12_tries_58 : decode cX12_tries 58 = .ok (.iload_n 1, 1) := by decide +kernel
theorem dX12_tries_59 : decode cX12_tries 59 = .ok (.iload 4, 2) := by decide +kernel
theorem dX12_tries_61 : decode cX12_tries 61 = .ok (.invokestatic 172, 3) := by decide +kernel
theorem dX12_tries_64 : decode cX12_tries 64 = .ok (.iastore, 1) := by decide +kernel
theorem dX12_tries_65 : decode cX12_tries 65 = .ok (.aload_n 0, 1) := by decide +kernel
theorem dX12_tries_66 : decode cX12_tries 66 = .ok (.iload_n 1, 1) := by decide +kernel
theorem dX12_tries_67 : decode cX12_tries 67 = .ok (.invokevirtual 190, 3) := by decide +kernel
theorem dX12_tries_70 : decode cX12_tries 70 = .ok (.istore 5, 2) := by decide +kernel
theorem dX12_tries_72 : decode cX12_tries 72 = .ok (.iload 5, 2) := by decide +kernel
theorem dX12_tries_74 : decode cX12_tries 74 = .ok (.ifCond .eq 68, 3) := by decide +kernel
theorem dX12_tries_77 : decode cX12_tries 77 = .ok (.iload_n 2, 1) := by decide +kernel
theorem dX12_tries_78 : decode cX12_tries 78 = .ok (.iconst (-1), 1) := by decide +kernel
theorem dX12_tries_79 : decode cX12_tries 79 = .ok (.if_icmp .ne 12, 3) := by decide +kernel
theorem dX12_tries_82 : decode cX12_tries 82 = .ok (.iload 5, 2) := by decide +kernel
theorem dX12_tries_84 : decode cX12_tries 84 = .ok (.iconst 2, 1) := by decide +kernel
theorem dX12_tries_85 : decode cX12_tries 85 = .ok (.if_icmp .ge 6, 3) := by decide +kernel
theorem dX12_tries_88 : decode cX12_tries 88 = .ok (.goto 54, 3) := by decide +kernel
theorem dX12_tries_91 : decode cX12_tries 91 = .ok (.aload_n 0, 1) := by decide +kernel
theorem dX12_tries_92 : decode cX12_tries 92 = .ok (.getfield 26, 3) := by decide +kernel
theorem dX12_tries_95 : decode cX12_tries 95 = .ok (.iload_n 1, 1) := by decide +kernel
theorem dX12_tries_96 : decode cX12_tries 96 = .ok (.iconst 1, 1) := by decide +kernel
theorem dX12_tries_97 : decode cX12_tries 97 = .ok (.bastore, 1) := by decide +kernel
theorem dX12_tries_98 : decode cX12_tries 98 = .ok (.iload_n 2, 1) := by decide +kernel
theorem dX12_tries_99 : decode cX12_tries 99 = .ok (.iconst (-1), 1) := by decide +kernel
theorem dX12_tries_100 : decode cX12_tries 100 = .ok (.if_icmp .eq 16, 3) := by decide +kernel
theorem dX12_tries_103 : decode cX12_tries 103 = .ok (.aload_n 0, 1) := by decide +kernel
theorem dX12_tries_104 : decode cX12_tries 104 = .ok (.iload_n 1, 1) := by decide +kernel
theorem dX12_tries_105 : decode cX12_tries 105 = .ok (.iload_n 2, 1) := by decide +kernel
theorem dX12_tries_106 : decode cX12_tries 106 = .ok (.iload 4, 2) := by decide +kernel
theorem dX12_tries_108 : decode cX12_tries 108 = .ok (.iload 5, 2) := by decide +kernel
theorem dX12_tries_110 : decode cX12_tries 110 = .ok (.invokevirtual 193, 3) := by decide +kernel
theorem dX12_tries_113 : decode cX12_tries 113 = .ok (.goto 22, 3) := by decide +kernel
theorem dX12_tries_116 : decode cX12_tries 116 = .ok (.aload_n 0, 1) := by decide +kernel
theorem dX12_tries_117 : decode cX12_tries 117 = .ok (.invokevirtual 149, 3) := by decide +kernel
theorem dX12_tries_120 : decode cX12_tries 120 = .ok (.ifCond .eq 15, 3) := by decide +kernel
theorem dX12_tries_123 : decode cX12_tries 123 = .ok (.iinc 3 1, 3) := by decide +kernel
theorem dX12_tries_126 : decode cX12_tries 126 = .ok (.aload_n 0, 1) := by decide +kernel
theorem dX12_tries_127 : decode cX12_tries 127 = .ok (.iload_n 1, 1) := by decide +kernel
theorem dX12_tries_128 : decode cX12_tries 128 = .ok (.iload_n 2, 1) := by decide +kernel
theorem dX12_tries_129 : decode cX12_tries 129 = .ok (.iload 4, 2) := by decide +kernel
theorem dX12_tries_131 : decode cX12_tries 131 = .ok (.iconst 0, 1) := by decide +kernel
theorem dX12_tries_132 : decode cX12_tries 132 = .ok (.invokevirtual 197, 3) := by decide +kernel
theorem dX12_tries_135 : decode cX12_tries 135 = .ok (.aload_n 0, 1) := by decide +kernel
theorem dX12_tries_136 : decode cX12_tries 136 = .ok (.getfield 26, 3) := by decide +kernel
theorem dX12_tries_139 : decode cX12_tries 139 = .ok (.iload_n 1, 1) := by decide +kernel
theorem dX12_tries_140 : decode cX12_tries 140 = .ok (.iconst 0, 1) := by decide +kernel
theorem dX12_tries_141 : decode cX12_tries 141 = .ok (.bastore, 1) := by decide +kernel
theorem dX12_tries_142 : decode cX12_tries 142 = .ok (.iinc 4 1, 3) := by decide +kernel
theorem dX12_tries_145 : decode cX12_tries 145 = .ok (.goto (-121), 3) := by decide +kernel
theorem dX12_tries_148 : decode cX12_tries 148 = .ok (.iload_n 3, 1) := by decide +kernel
theorem dX12_tries_149 : decode cX12_tries 149 = .ok (.ireturn, 1) := by decide +kernel
theorem dX12_seconds_0 : decode cX12_seconds 0 = .ok (.iconst 0, 1) := by decide +kernel
theorem dX12_seconds_1 : decode cX12_seconds 1 = .ok (.istore 5, 2) := by decide +kernel
theorem dX12_seconds_3 : decode cX12_seconds 3 = .ok (.iload 5, 2) := by decide +kernel
theorem dX12_seconds_5 : decode cX12_seconds 5 = .ok (.sipush 1344, 3) := by decide +kernel
theorem dX12_seconds_8 : decode cX12_seconds 8 = .ok (.if_icmp .ge 124, 3) := by decide +kernel
theorem dX12_seconds_11 : decode cX12_seconds 11 = .ok (.iload 5, 2) := by decide +kernel
theorem dX12_seconds_13 : decode cX12_seconds 13 = .ok (.invokestatic 187, 3) := by decide +kernel
theorem dX12_seconds_16 : decode cX12_seconds 16 = .ok (.ifCond .ne 6, 3) := by decide +kernel
theorem dX12_seconds_19 : decode cX12_seconds 19 = .ok (.goto 107, 3) := by decide +kernel
theorem dX12_seconds_22 : decode cX12_seconds 22 = .ok (.aload_n 0, 1) := by decide +kernel
theorem dX12_seconds_23 : decode cX12_seconds 23 = .ok (.getfield 29, 3) := by decide +kernel
theorem dX12_seconds_26 : decode cX12_seconds 26 = .ok (.iload_n 2, 1) := by decide +kernel
theorem dX12_seconds_27 : decode cX12_seconds 27 = .ok (.iload 5, 2) := by decide +kernel
theorem dX12_seconds_29 : decode cX12_seconds 29 = .ok (.invokestatic 169, 3) := by decide +kernel
theorem dX12_seconds_32 : decode cX12_seconds 32 = .ok (.iastore, 1) := by decide +kernel
theorem dX12_seconds_33 : decode cX12_seconds 33 = .ok (.aload_n 0, 1) := by decide +kernel
theorem dX12_seconds_34 : decode cX12_seconds 34 = .ok (.getfield 32, 3) := by decide +kernel
theorem dX12_seconds_37 : decode cX12_seconds 37 = .ok (.iload_n 2, 1) := by decide +kernel
theorem dX12_seconds_38 : decode cX12_seconds 38 = .ok (.iload 5, 2) := by decide +kernel
theorem dX12_seconds_40 : decode cX12_seconds 40 = .ok (.invokestatic 172, 3) := by decide +kernel
theorem dX12_seconds_43 : decode cX12_seconds 43 = .ok (.iastore, 1) := by decide +kernel
theorem dX12_seconds_44 : decode cX12_seconds 44 = .ok (.aload_n 0, 1) := by decide +kernel
theorem dX12_seconds_45 : decode cX12_seconds 45 = .ok (.iload_n 2, 1) := by decide +kernel
theorem dX12_seconds_46 : decode cX12_seconds 46 = .ok (.invokevirtual 190, 3) := by decide +kernel
theorem dX12_seconds_49 : decode cX12_seconds 49 = .ok (.istore 6, 2) := by decide +kernel
theorem dX12_seconds_51 : decode cX12_seconds 51 = .ok (.iload 6, 2) := by decide +kernel
theorem dX12_seconds_53 : decode cX12_seconds 53 = .ok (.ifCond .eq 73, 3) := by decide +kernel
theorem dX12_seconds_56 : decode cX12_seconds 56 = .ok (.iload 4, 2) := by decide +kernel
theorem dX12_seconds_58 : decode cX12_seconds 58 = .ok (.iconst 2, 1) := by decide +kernel
theorem dX12_seconds_59 : decode cX12_seconds 59 = .ok (.if_icmp .ge 12, 3) := by decide +kernel
theorem dX12_seconds_62 : decode cX12_seconds 62 = .ok (.iload 6, 2) := by decide +kernel
theorem dX12_seconds_64 : decode cX12_seconds 64 = .ok (.iconst 2, 1) := by decide +kernel
theorem dX12_seconds_65 : decode cX12_seconds 65 = .ok (.if_icmp .ge 6, 3) := by decide +kernel
theorem dX12_seconds_68 : decode cX12_seconds 68 = .ok (.goto 58, 3) := by decide +kernel
theorem dX12_seconds_71 : decode cX12_seconds 71 = .ok (.aload_n 0, 1) := by decide +kernel
theorem dX12_seconds_72 : decode cX12_seconds 72 = .ok (.getfield 26, 3) := by decide +kernel
theorem dX12_seconds_75 : decode cX12_seconds 75 = .ok (.iload_n 2, 1) := by decide +kernel
theorem dX12_seconds_76 : decode cX12_seconds 76 = .ok (.iconst 1, 1) := by decide +kernel
theorem dX12_seconds_77 : decode cX12_seconds 77 = .ok (.bastore, 1) := by decide +kernel
theorem dX12_seconds_78 : decode cX12_seconds 78 = .ok (.aload_n 0, 1) := by decide +kernel
theorem dX12_seconds_79 : decode cX12_seconds 79 = .ok (.iload_n 1, 1) := by decide +kernel
theorem dX12_seconds_80 : decode cX12_seconds 80 = .ok (.iload_n 2, 1) := by decide +kernel
theorem dX12_seconds_81 : decode cX12_seconds 81 = .ok (.iload 4, 2) := by decide +kernel
theorem dX12_seconds_83 : decode cX12_seconds 83 = .ok (.iload 6, 2) := by decide +kernel
theorem dX12_seconds_85 : decode cX12_seconds 85 = .ok (.invokevirtual 200, 3) := by decide +kernel
theorem dX12_seconds_88 : decode cX12_seconds 88 = .ok (.ifCond .eq 14, 3) := by decide +kernel
theorem dX12_seconds_91 : decode cX12_seconds 91 = .ok (.aload_n 0, 1) := by decide +kernel
theorem dX12_seconds_92 : decode cX12_seconds 92 = .ok (.invokevirtual 149, 3) := by decide +kernel
theorem dX12_seconds_95 : decode cX12_seconds 95 = .ok (.ifCond .eq 7, 3) := by decide +kernel
theorem dX12_seconds_98 : decode cX12_seconds 98 = .ok (.iconst 1, 1) := by decide +kernel
theorem dX12_seconds_99 : decode cX12_seconds 99 = .ok (.goto 4, 3) := by decide +kernel
theorem dX12_seconds_102 : decode cX12_seconds 102 = .ok (.iconst 0, 1) := by decide +kernel
theorem dX12_seconds_103 : decode cX12_seconds 103 = .ok (.istore 7, 2) := by decide +kernel
theorem dX12_seconds_105 : decode cX12_seconds 105 = .ok (.iload 7, 2) := by decide +kernel
theorem dX12_seconds_107 : decode cX12_seconds 107 = .ok (.ifCond .eq 12, 3) := by decide +kernel
theorem dX12_seconds_110 : decode cX12_seconds 110 = .ok (.aload_n 0, 1) := by decide +kernel
theorem dX12_seconds_111 : decode cX12_seconds 111 = .ok (.iload_n 1, 1) := by decide +kernel
theorem dX12_seconds_112 : decode cX12_seconds 112 = .ok (.iload_n 2, 1) := by decide +kernel
theorem dX12_seconds_113 : decode cX12_seconds 113 = .ok (.iload_n 3, 1) := by decide +kernel
theorem dX12_seconds_114 : decode cX12_seconds 114 = .ok (.iload 5, 2) := by decide +kernel
theorem dX12_seconds_116 : decode cX12_seconds 116 = .ok (.invokevirtual 197, 3) := by decide +kernel
theorem dX12_seconds_119 : decode cX12_seconds 119 = .ok (.aload_n 0, 1) := by decide +kernel
theorem dX12_seconds_120 : decode cX12_seconds 120 = .ok (.getfield 26, 3) := by decide +kernel
theorem dX12_seconds_123 : decode cX12_seconds 123 = .ok (.iload_n 2, 1) := by decide +kernel
theorem dX12_seconds_124 : decode cX12_seconds 124 = .ok (.iconst 0, 1) := by decide +kernel
theorem dX12_seconds_125 : decode cX12_seconds 125 = .ok (.bastore, 1) := by decide +kernel
theorem dX12_seconds_126 : decode cX12_seconds 126 = .ok (.iinc 5 1, 3) := by decide +kernel
theorem dX12_seconds_129 : decode cX12_seconds 129 = .ok (.goto (-126), 3) := by decide +kernel
theorem dX12_seconds_132 : decode cX12_seconds 132 = .ok (.return_, 1) := by decide +kernel
theorem dX12_mayTouch_0 : decode cX12_mayTouch 0 = .ok (.iload_n 3, 1) := by decide +kernel
theorem dX12_mayTouch_1 : decode cX12_mayTouch 1 = .ok (.iconst 2, 1) := by decide +kernel
theorem dX12_mayTouch_2 : decode cX12_mayTouch 2 = .ok (.if_icmp .ne 11, 3) := by decide +kernel
theorem dX12_mayTouch_5 : decode cX12_mayTouch 5 = .ok (.iload 4, 2) := by decide +kernel
theorem dX12_mayTouch_7 : decode cX12_mayTouch 7 = .ok (.iconst 2, 1) := by decide +kernel
theorem dX12_mayTouch_8 : decode cX12_mayTouch 8 = .ok (.if_icmp .ne 5, 3) := by decide +kernel
theorem dX12_mayTouch_11 : decode cX12_mayTouch 11 = .ok (.iconst 1, 1) := by decide +kernel
theorem dX12_mayTouch_12 : decode cX12_mayTouch 12 = .ok (.ireturn, 1) := by decide +kernel
theorem dX12_mayTouch_13 : decode cX12_mayTouch 13 = .ok (.aload_n 0, 1) := by decide +kernel
theorem dX12_mayTouch_14 : decode cX12_mayTouch 14 = .ok (.iload_n 1, 1) := by decide +kernel
theorem dX12_mayTouch_15 : decode cX12_mayTouch 15 = .ok (.iload_n 2, 1) := by decide +kernel
theorem dX12_mayTouch_16 : decode cX12_mayTouch 16 = .ok (.invokevirtual 139, 3) := by decide +kernel
theorem dX12_mayTouch_19 : decode cX12_mayTouch 19 = .ok (.ifCond .ne 10, 3) := by decide +kernel
theorem dX12_mayTouch_22 : decode cX12_mayTouch 22 = .ok (.aload_n 0, 1) := by decide +kernel
theorem dX12_mayTouch_23 : decode cX12_mayTouch 23 = .ok (.invokevirtual 136, 3) := by decide +kernel
theorem dX12_mayTouch_26 : decode cX12_mayTouch 26 = .ok (.ifCond .ne 5, 3) := by decide +kernel
theorem dX12_mayTouch_29 : decode cX12_mayTouch 29 = .ok (.iconst 0, 1) := by decide +kernel
theorem dX12_mayTouch_30 : decode cX12_mayTouch 30 = .ok (.ireturn, 1) := by decide +kernel
theorem dX12_mayTouch_31 : decode cX12_mayTouch 31 = .ok (.aload_n 0, 1) := by decide +kernel
theorem dX12_mayTouch_32 : decode cX12_mayTouch 32 = .ok (.iload_n 1, 1) := by decide +kernel
theorem dX12_mayTouch_33 : decode cX12_mayTouch 33 = .ok (.iload_n 2, 1) := by decide +kernel
theorem dX12_mayTouch_34 : decode cX12_mayTouch 34 = .ok (.invokevirtual 158, 3) := by decide +kernel
theorem dX12_mayTouch_37 : decode cX12_mayTouch 37 = .ok (.ifCond .le 7, 3) := by decide +kernel
theorem dX12_mayTouch_40 : decode cX12_mayTouch 40 = .ok (.iconst 1, 1) := by decide +kernel
theorem dX12_mayTouch_41 : decode cX12_mayTouch 41 = .ok (.goto 4, 3) := by decide +kernel
theorem dX12_mayTouch_44 : decode cX12_mayTouch 44 = .ok (.iconst 0, 1) := by decide +kernel
theorem dX12_mayTouch_45 : decode cX12_mayTouch 45 = .ok (.ireturn, 1) := by decide +kernel
theorem dX12_mayJoin_0 : decode cX12_mayJoin 0 = .ok (.aload_n 0, 1) := by decide +kernel
theorem dX12_mayJoin_1 : decode cX12_mayJoin 1 = .ok (.iload_n 1, 1) := by decide +kernel
theorem dX12_mayJoin_2 : decode cX12_mayJoin 2 = .ok (.invokevirtual 81, 3) := by decide +kernel
theorem dX12_mayJoin_5 : decode cX12_mayJoin 5 = .ok (.ifCond .eq 16, 3) := by decide +kernel
theorem dX12_mayJoin_8 : decode cX12_mayJoin 8 = .ok (.aload_n 0, 1) := by decide +kernel
theorem dX12_mayJoin_9 : decode cX12_mayJoin 9 = .ok (.getfield 26, 3) := by decide +kernel
theorem dX12_mayJoin_12 : decode cX12_mayJoin 12 = .ok (.iload_n 1, 1) := by decide +kernel
theorem dX12_mayJoin_13 : decode cX12_mayJoin 13 = .ok (.baload, 1) := by decide +kernel
theorem dX12_mayJoin_14 : decode cX12_mayJoin 14 = .ok (.ifCond .ne 7, 3) := by decide +kernel
theorem dX12_mayJoin_17 : decode cX12_mayJoin 17 = .ok (.iconst 1, 1) := by decide +kernel
theorem dX12_mayJoin_18 : decode cX12_mayJoin 18 = .ok (.goto 4, 3) := by decide +kernel
theorem dX12_mayJoin_21 : decode cX12_mayJoin 21 = .ok (.iconst 0, 1) := by decide +kernel
theorem dX12_mayJoin_22 : decode cX12_mayJoin 22 = .ok (.ireturn, 1) := by decide +kernel
theorem dX12_join_0 : decode cX12_join 0 = .ok (.aload_n 0, 1) := by decide +kernel
theorem dX12_join_1 : decode cX12_join 1 = .ok (.iload_n 1, 1) := by decide +kernel
theorem dX12_join_2 : decode cX12_join 2 = .ok (.invokevirtual 204, 3) := by decide +kernel
theorem dX12_join_5 : decode cX12_join 5 = .ok (.ifCond .eq 28, 3) := by decide +kernel
theorem dX12_join_8 : decode cX12_join 8 = .ok (.iload_n 2, 1) := by decide +kernel
theorem dX12_join_9 : decode cX12_join 9 = .ok (.iconst (-1), 1) := by decide +kernel
theorem dX12_join_10 : decode cX12_join 10 = .ok (.if_icmp .eq 16, 3) := by decide +kernel
theorem dX12_join_13 : decode cX12_join 13 = .ok (.aload_n 0, 1) := by decide +kernel
theorem dX12_join_14 : decode cX12_join 14 = .ok (.iload_n 2, 1) := by decide +kernel
theorem dX12_join_15 : decode cX12_join 15 = .ok (.invokevirtual 204, 3) := by decide +kernel
theorem dX12_join_18 : decode cX12_join 18 = .ok (.ifCond .eq 15, 3) := by decide +kernel
theorem dX12_join_21 : decode cX12_join 21 = .ok (.iload_n 1, 1) := by decide +kernel
theorem dX12_join_22 : decode cX12_join 22 = .ok (.iload_n 2, 1) := by decide +kernel
theorem dX12_join_23 : decode cX12_join 23 = .ok (.if_icmp .eq 10, 3) := by decide +kernel
theorem dX12_join_26 : decode cX12_join 26 = .ok (.aload_n 0, 1) := by decide +kernel
theorem dX12_join_27 : decode cX12_join 27 = .ok (.invokevirtual 207, 3) := by decide +kernel
theorem dX12_join_30 : decode cX12_join 30 = .ok (.ifCond .ne 5, 3) := by decide +kernel
theorem dX12_join_33 : decode cX12_join 33 = .ok (.iconst (-1), 1) := by decide +kernel
theorem dX12_join_34 : decode cX12_join 34 = .ok (.ireturn, 1) := by decide +kernel
theorem dX12_join_35 : decode cX12_join 35 = .ok (.aload_n 0, 1) := by decide +kernel
theorem dX12_join_36 : decode cX12_join 36 = .ok (.iload_n 1, 1) := by decide +kernel
theorem dX12_join_37 : decode cX12_join 37 = .ok (.iload_n 2, 1) := by decide +kernel
theorem dX12_join_38 : decode cX12_join 38 = .ok (.invokevirtual 210, 3) := by decide +kernel
theorem dX12_join_41 : decode cX12_join 41 = .ok (.pop, 1) := by decide +kernel
theorem dX12_join_42 : decode cX12_join 42 = .ok (.aload_n 0, 1) := by decide +kernel
theorem dX12_join_43 : decode cX12_join 43 = .ok (.getfield 175, 3) := by decide +kernel
theorem dX12_join_46 : decode cX12_join 46 = .ok (.iconst (-1), 1) := by decide +kernel
theorem dX12_join_47 : decode cX12_join 47 = .ok (.if_icmp .ne 6, 3) := by decide +kernel
theorem dX12_join_50 : decode cX12_join 50 = .ok (.bipush (-2), 2) := by decide +kernel
theorem dX12_join_52 : decode cX12_join 52 = .ok (.ireturn, 1) := by decide +kernel
theorem dX12_join_53 : decode cX12_join 53 = .ok (.iload_n 2, 1) := by decide +kernel
theorem dX12_join_54 : decode cX12_join 54 = .ok (.iconst (-1), 1) := by decide +kernel
theorem dX12_join_55 : decode cX12_join 55 = .ok (.if_icmp .eq 12, 3) := by decide +kernel
theorem dX12_join_58 : decode cX12_join 58 = .ok (.iload_n 2, 1) := by decide +kernel
theorem dX12_join_59 : decode cX12_join 59 = .ok (.iload_n 1, 1) := by decide +kernel
theorem dX12_join_60 : decode cX12_join 60 = .ok (.if_icmp .ge 7, 3) := by decide +kernel
theorem dX12_join_63 : decode cX12_join 63 = .ok (.iload_n 2, 1) := by decide +kernel
theorem dX12_join_64 : decode cX12_join 64 = .ok (.goto 4, 3) := by decide +kernel
theorem dX12_join_67 : decode cX12_join 67 = .ok (.iload_n 1, 1) := by decide +kernel
theorem dX12_join_68 : decode cX12_join 68 = .ok (.istore_n 3, 1) := by decide +kernel
theorem dX12_join_69 : decode cX12_join 69 = .ok (.aload_n 0, 1) := by decide +kernel
theorem dX12_join_70 : decode cX12_join 70 = .ok (.iload_n 3, 1) := by decide +kernel
theorem dX12_join_71 : decode cX12_join 71 = .ok (.aload_n 0, 1) := by decide +kernel
theorem dX12_join_72 : decode cX12_join 72 = .ok (.getfield 178, 3) := by decide +kernel
theorem dX12_join_75 : decode cX12_join 75 = .ok (.invokestatic 169, 3) := by decide +kernel
theorem dX12_join_78 : decode cX12_join 78 = .ok (.aload_n 0, 1) := by decide +kernel
theorem dX12_join_79 : decode cX12_join 79 = .ok (.getfield 178, 3) := by decide +kernel
theorem dX12_join_82 : decode cX12_join 82 = .ok (.invokestatic 172, 3) := by decide +kernel
theorem dX12_join_85 : decode cX12_join 85 = .ok (.invokevirtual 145, 3) := by decide +kernel
theorem dX12_join_88 : decode cX12_join 88 = .ok (.iload_n 2, 1) := by decide +kernel
theorem dX12_join_89 : decode cX12_join 89 = .ok (.iconst (-1), 1) := by decide +kernel
theorem dX12_join_90 : decode cX12_join 90 = .ok (.if_icmp .eq 31, 3) := by decide +kernel
theorem dX12_join_93 : decode cX12_join 93 = .ok (.aload_n 0, 1) := by decide +kernel
theorem dX12_join_94 : decode cX12_join 94 = .ok (.iload_n 3, 1) := by decide +kernel
theorem dX12_join_95 : decode cX12_join 95 = .ok (.iload_n 1, 1) := by decide +kernel
theorem dX12_join_96 : decode cX12_join 96 = .ok (.if_icmp .ne 7, 3) := by decide +kernel
theorem dX12_join_99 : decode cX12_join 99 = .ok (.iload_n 2, 1) := by decide +kernel
theorem dX12_join_100 : decode cX12_join 100 = .ok (.goto 4, 3) := by decide +kernel
theorem dX12_join_103 : decode cX12_join 103 = .ok (.iload_n 1, 1) := by decide +kernel
theorem dX12_join_104 : decode cX12_join 104 = .ok (.aload_n 0, 1) := by decide +kernel
theorem dX12_join_105 : decode cX12_join 105 = .ok (.getfield 181, 3) := by decide +kernel
theorem dX12_join_108 : decode cX12_join 108 = .ok (.invokestatic 169, 3) := by decide +kernel
theorem dX12_join_111 : decode cX12_join 111 = .ok (.aload_n 0, 1) := by decide +kernel
theorem dX12_join_112 : decode cX12_join 112 = .ok (.getfield 181, 3) := by decide +kernel
theorem dX12_join_115 : decode cX12_join 115 = .ok (.invokestatic 172, 3) := by decide +kernel
theorem dX12_join_118 : decode cX12_join 118 = .ok (.invokevirtual 145, 3) := by decide +kernel
theorem dX12_join_121 : decode cX12_join 121 = .ok (.aload_n 0, 1) := by decide +kernel
theorem dX12_join_122 : decode cX12_join 122 = .ok (.getfield 175, 3) := by decide +kernel
theorem dX12_join_125 : decode cX12_join 125 = .ok (.ireturn, 1) := by decide +kernel
theorem dX12_joins_0 : decode cX12_joins 0 = .ok (.aload_n 0, 1) := by decide +kernel
theorem dX12_joins_1 : decode cX12_joins 1 = .ok (.iload_n 1, 1) := by decide +kernel
theorem dX12_joins_2 : decode cX12_joins 2 = .ok (.invokevirtual 204, 3) := by decide +kernel
theorem dX12_joins_5 : decode cX12_joins 5 = .ok (.ifCond .eq 19, 3) := by decide +kernel
theorem dX12_joins_8 : decode cX12_joins 8 = .ok (.aload_n 0, 1) := by decide +kernel
theorem dX12_joins_9 : decode cX12_joins 9 = .ok (.invokevirtual 207, 3) := by decide +kernel
theorem dX12_joins_12 : decode cX12_joins 12 = .ok (.ifCond .eq 12, 3) := by decide +kernel
theorem dX12_joins_15 : decode cX12_joins 15 = .ok (.aload_n 0, 1) := by decide +kernel
theorem dX12_joins_16 : decode cX12_joins 16 = .ok (.iload_n 1, 1) := by decide +kernel
theorem dX12_joins_17 : decode cX12_joins 17 = .ok (.iconst (-1), 1) := by decide +kernel
theorem dX12_joins_18 : decode cX12_joins 18 = .ok (.invokevirtual 210, 3) := by decide +kernel
theorem dX12_joins_21 : decode cX12_joins 21 = .ok (.goto 4, 3) := by decide +kernel
theorem dX12_joins_24 : decode cX12_joins 24 = .ok (.iconst (-1), 1) := by decide +kernel
theorem dX12_joins_25 : decode cX12_joins 25 = .ok (.ireturn, 1) := by decide +kernel
theorem dX12_roll_0 : decode cX12_roll 0 = .ok (.iload_n 1, 1) := by decide +kernel
theorem dX12_roll_1 : decode cX12_roll 1 = .ok (.iconst 1, 1) := by decide +kernel
theorem dX12_roll_2 : decode cX12_roll 2 = .ok (.sipush 1000, 3) := by decide +kernel
theorem dX12_roll_5 : decode cX12_roll 5 = .ok (.invokestatic 69, 3) := by decide +kernel
theorem dX12_roll_8 : decode cX12_roll 8 = .ok (.ifCond .eq 13, 3) := by decide +kernel
theorem dX12_roll_11 : decode cX12_roll 11 = .ok (.iload_n 2, 1) := by decide +kernel
theorem dX12_roll_12 : decode cX12_roll 12 = .ok (.iconst 0, 1) := by decide +kernel
theorem dX12_roll_13 : decode cX12_roll 13 = .ok (.bipush 100, 2) := by decide +kernel
theorem dX12_roll_15 : decode cX12_roll 15 = .ok (.invokestatic 69, 3) := by decide +kernel
theorem dX12_roll_18 : decode cX12_roll 18 = .ok (.ifCond .ne 5, 3) := by decide +kernel
theorem dX12_roll_21 : decode cX12_roll 21 = .ok (.iconst (-1), 1) := by decide +kernel
theorem dX12_roll_22 : decode cX12_roll 22 = .ok (.ireturn, 1) := by decide +kernel
theorem dX12_roll_23 : decode cX12_roll 23 = .ok (.aload_n 0, 1) := by decide +kernel
theorem dX12_roll_24 : decode cX12_roll 24 = .ok (.getfield 59, 3) := by decide +kernel
theorem dX12_roll_27 : decode cX12_roll 27 = .ok (.iconst 0, 1) := by decide +kernel
theorem dX12_roll_28 : decode cX12_roll 28 = .ok (.iconst 0, 1) := by decide +kernel
theorem dX12_roll_29 : decode cX12_roll 29 = .ok (.iastore, 1) := by decide +kernel
theorem dX12_roll_30 : decode cX12_roll 30 = .ok (.aload_n 0, 1) := by decide +kernel
theorem dX12_roll_31 : decode cX12_roll 31 = .ok (.iconst 1, 1) := by decide +kernel
theorem dX12_roll_32 : decode cX12_roll 32 = .ok (.putfield 213, 3) := by decide +kernel
theorem dX12_roll_35 : decode cX12_roll 35 = .ok (.iload_n 1, 1) := by decide +kernel
theorem dX12_roll_36 : decode cX12_roll 36 = .ok (.istore_n 3, 1) := by decide +kernel
theorem dX12_roll_37 : decode cX12_roll 37 = .ok (.iload_n 3, 1) := by decide +kernel
theorem dX12_roll_38 : decode cX12_roll 38 = .ok (.ifCond .le 51, 3) := by decide +kernel
theorem dX12_roll_41 : decode cX12_roll 41 = .ok (.aload_n 0, 1) := by decide +kernel
theorem dX12_roll_42 : decode cX12_roll 42 = .ok (.getfield 213, 3) := by decide +kernel
theorem dX12_roll_45 : decode cX12_roll 45 = .ok (.bipush 40, 2) := by decide +kernel
theorem dX12_roll_47 : decode cX12_roll 47 = .ok (.if_icmp .ge 42, 3) := by decide +kernel
theorem dX12_roll_50 : decode cX12_roll 50 = .ok (.aload_n 0, 1) := by decide +kernel
theorem dX12_roll_51 : decode cX12_roll 51 = .ok (.getfield 59, 3) := by decide +kernel
theorem dX12_roll_54 : decode cX12_roll 54 = .ok (.aload_n 0, 1) := by decide +kernel
theorem dX12_roll_55 : decode cX12_roll 55 = .ok (.getfield 213, 3) := by decide +kernel
theorem dX12_roll_58 : decode cX12_roll 58 = .ok (.aload_n 0, 1) := by decide +kernel
theorem dX12_roll_59 : decode cX12_roll 59 = .ok (.getfield 59, 3) := by decide +kernel
theorem dX12_roll_62 : decode cX12_roll 62 = .ok (.aload_n 0, 1) := by decide +kernel
theorem dX12_roll_63 : decode cX12_roll 63 = .ok (.getfield 213, 3) := by decide +kernel
theorem dX12_roll_66 : decode cX12_roll 66 = .ok (.iconst 1, 1) := by decide +kernel
theorem dX12_roll_67 : decode cX12_roll 67 = .ok (.isub, 1) := by decide +kernel
theorem dX12_roll_68 : decode cX12_roll 68 = .ok (.iaload, 1) := by decide +kernel
theorem dX12_roll_69 : decode cX12_roll 69 = .ok (.iload_n 3, 1) := by decide +kernel
theorem dX12_roll_70 : decode cX12_roll 70 = .ok (.iadd, 1) := by decide +kernel
theorem dX12_roll_71 : decode cX12_roll 71 = .ok (.iastore, 1) := by decide +kernel
theorem dX12_roll_72 : decode cX12_roll 72 = .ok (.aload_n 0, 1) := by decide +kernel
theorem dX12_roll_73 : decode cX12_roll 73 = .ok (.dup, 1) := by decide +kernel
theorem dX12_roll_74 : decode cX12_roll 74 = .ok (.getfield 213, 3) := by decide +kernel
theorem dX12_roll_77 : decode cX12_roll 77 = .ok (.iconst 1, 1) := by decide +kernel
theorem dX12_roll_78 : decode cX12_roll 78 = .ok (.iadd, 1) := by decide +kernel
theorem dX12_roll_79 : decode cX12_roll 79 = .ok (.putfield 213, 3) := by decide +kernel
theorem dX12_roll_82 : decode cX12_roll 82 = .ok (.iload_n 3, 1) := by decide +kernel
theorem dX12_roll_83 : decode cX12_roll 83 = .ok (.iload_n 2, 1) := by decide +kernel
theorem dX12_roll_84 : decode cX12_roll 84 = .ok (.isub, 1) := by decide +kernel
theorem dX12_roll_85 : decode cX12_roll 85 = .ok (.istore_n 3, 1) := by decide +kernel
theorem dX12_roll_86 : decode cX12_roll 86 = .ok (.goto (-49), 3) := by decide +kernel
theorem dX12_roll_89 : decode cX12_roll 89 = .ok (.aload_n 0, 1) := by decide +kernel
theorem dX12_roll_90 : decode cX12_roll 90 = .ok (.getfield 213, 3) := by decide +kernel
theorem dX12_roll_93 : decode cX12_roll 93 = .ok (.ireturn, 1) := by decide +kernel
theorem dX12_hole_0 : decode cX12_hole 0 = .ok (.aload_n 0, 1) := by decide +kernel
theorem dX12_hole_1 : decode cX12_hole 1 = .ok (.iload_n 1, 1) := by decide +kernel
theorem dX12_hole_2 : decode cX12_hole 2 = .ok (.invokevirtual 81, 3) := by decide +kernel
theorem dX12_hole_5 : decode cX12_hole 5 = .ok (.ifCond .eq 56, 3) := by decide +kernel
theorem dX12_hole_8 : decode cX12_hole 8 = .ok (.iload_n 2, 1) := by decide +kernel
theorem dX12_hole_9 : decode cX12_hole 9 = .ok (.iconst 0, 1) := by decide +kernel
theorem dX12_hole_10 : decode cX12_hole 10 = .ok (.sipush 2000, 3) := by decide +kernel
theorem dX12_hole_13 : decode cX12_hole 13 = .ok (.invokestatic 69, 3) := by decide +kernel
theorem dX12_hole_16 : decode cX12_hole 16 = .ok (.ifCond .eq 45, 3) := by decide +kernel
theorem dX12_hole_19 : decode cX12_hole 19 = .ok (.aload_n 0, 1) := by decide +kernel
theorem dX12_hole_20 : decode cX12_hole 20 = .ok (.getfield 35, 3) := by decide +kernel
theorem dX12_hole_23 : decode cX12_hole 23 = .ok (.iload_n 1, 1) := by decide +kernel
theorem dX12_hole_24 : decode cX12_hole 24 = .ok (.iaload, 1) := by decide +kernel
theorem dX12_hole_25 : decode cX12_hole 25 = .ok (.bipush 6, 2) := by decide +kernel
theorem dX12_hole_27 : decode cX12_hole 27 = .ok (.if_icmp .eq 34, 3) := by decide +kernel
theorem dX12_hole_30 : decode cX12_hole 30 = .ok (.aload_n 0, 1) := by decide +kernel
theorem dX12_hole_31 : decode cX12_hole 31 = .ok (.getfield 35, 3) := by decide +kernel
theorem dX12_hole_34 : decode cX12_hole 34 = .ok (.iload_n 1, 1) := by decide +kernel
theorem dX12_hole_35 : decode cX12_hole 35 = .ok (.iaload, 1) := by decide +kernel
theorem dX12_hole_36 : decode cX12_hole 36 = .ok (.ifCond .le 27, 3) := by decide +kernel
theorem dX12_hole_39 : decode cX12_hole 39 = .ok (.iload_n 2, 1) := by decide +kernel
theorem dX12_hole_40 : decode cX12_hole 40 = .ok (.aload_n 0, 1) := by decide +kernel
theorem dX12_hole_41 : decode cX12_hole 41 = .ok (.getfield 38, 3) := by decide +kernel
theorem dX12_hole_44 : decode cX12_hole 44 = .ok (.bipush 6, 2) := by decide +kernel
theorem dX12_hole_46 : decode cX12_hole 46 = .ok (.iload_n 1, 1) := by decide +kernel
theorem dX12_hole_47 : decode cX12_hole 47 = .ok (.imul, 1) := by decide +kernel
theorem dX12_hole_48 : decode cX12_hole 48 = .ok (.aload_n 0, 1) := by decide +kernel
theorem dX12_hole_49 : decode cX12_hole 49 = .ok (.getfield 35, 3) := by decide +kernel
theorem dX12_hole_52 : decode cX12_hole 52 = .ok (.iload_n 1, 1) := by decide +kernel
theorem dX12_hole_53 : decode cX12_hole 53 = .ok (.iaload, 1) := by decide +kernel
theorem dX12_hole_54 : decode cX12_hole 54 = .ok (.iadd, 1) := by decide +kernel
theorem dX12_hole_55 : decode cX12_hole 55 = .ok (.iconst 1, 1) := by decide +kernel
theorem dX12_hole_56 : decode cX12_hole 56 = .ok (.isub, 1) := by decide +kernel
theorem dX12_hole_57 : decode cX12_hole 57 = .ok (.iaload, 1) := by decide +kernel
theorem dX12_hole_58 : decode cX12_hole 58 = .ok (.if_icmp .gt 5, 3) := by decide +kernel
theorem dX12_hole_61 : decode cX12_hole 61 = .ok (.iconst (-1), 1) := by decide +kernel
theorem dX12_hole_62 : decode cX12_hole 62 = .ok (.ireturn, 1) := by decide +kernel
theorem dX12_hole_63 : decode cX12_hole 63 = .ok (.aload_n 0, 1) := by decide +kernel
theorem dX12_hole_64 : decode cX12_hole 64 = .ok (.getfield 38, 3) := by decide +kernel
theorem dX12_hole_67 : decode cX12_hole 67 = .ok (.bipush 6, 2) := by decide +kernel
theorem dX12_hole_69 : decode cX12_hole 69 = .ok (.iload_n 1, 1) := by decide +kernel
theorem dX12_hole_70 : decode cX12_hole 70 = .ok (.imul, 1) := by decide +kernel
theorem dX12_hole_71 : decode cX12_hole 71 = .ok (.aload_n 0, 1) := by decide +kernel
theorem dX12_hole_72 : decode cX12_hole 72 = .ok (.getfield 35, 3) := by decide +kernel
theorem dX12_hole_75 : decode cX12_hole 75 = .ok (.iload_n 1, 1) := by decide +kernel
theorem dX12_hole_76 : decode cX12_hole 76 = .ok (.iaload, 1) := by decide +kernel
theorem dX12_hole_77 : decode cX12_hole 77 = .ok (.iadd, 1) := by decide +kernel
theorem dX12_hole_78 : decode cX12_hole 78 = .ok (.iload_n 2, 1) := by decide +kernel
theorem dX12_hole_79 : decode cX12_hole 79 = .ok (.iastore, 1) := by decide +kernel
theorem dX12_hole_80 : decode cX12_hole 80 = .ok (.aload_n 0, 1) := by decide +kernel
theorem dX12_hole_81 : decode cX12_hole 81 = .ok (.getfield 35, 3) := by decide +kernel
theorem dX12_hole_84 : decode cX12_hole 84 = .ok (.iload_n 1, 1) := by decide +kernel
theorem dX12_hole_85 : decode cX12_hole 85 = .ok (.dup2, 1) := by decide +kernel
theorem dX12_hole_86 : decode cX12_hole 86 = .ok (.iaload, 1) := by decide +kernel
theorem dX12_hole_87 : decode cX12_hole 87 = .ok (.iconst 1, 1) := by decide +kernel
theorem dX12_hole_88 : decode cX12_hole 88 = .ok (.iadd, 1) := by decide +kernel
theorem dX12_hole_89 : decode cX12_hole 89 = .ok (.iastore, 1) := by decide +kernel
theorem dX12_hole_90 : decode cX12_hole 90 = .ok (.aload_n 0, 1) := by decide +kernel
theorem dX12_hole_91 : decode cX12_hole 91 = .ok (.getfield 35, 3) := by decide +kernel
theorem dX12_hole_94 : decode cX12_hole 94 = .ok (.iload_n 1, 1) := by decide +kernel
theorem dX12_hole_95 : decode cX12_hole 95 = .ok (.iaload, 1) := by decide +kernel
theorem dX12_hole_96 : decode cX12_hole 96 = .ok (.ireturn, 1) := by decide +kernel
theorem dX12_stoodAt_0 : decode cX12_stoodAt 0 = .ok (.iconst 0, 1) := by decide +kernel
theorem dX12_stoodAt_1 : decode cX12_stoodAt 1 = .ok (.istore_n 3, 1) := by decide +kernel
theorem dX12_stoodAt_2 : decode cX12_stoodAt 2 = .ok (.iconst 0, 1) := by decide +kernel
theorem dX12_stoodAt_3 : decode cX12_stoodAt 3 = .ok (.istore 4, 2) := by decide +kernel
theorem dX12_stoodAt_5 : decode cX12_stoodAt 5 = .ok (.iload 4, 2) := by decide +kernel
theorem dX12_stoodAt_7 : decode cX12_stoodAt 7 = .ok (.aload_n 0, 1) := by decide +kernel
theorem dX12_stoodAt_8 : decode cX12_stoodAt 8 = .ok (.getfield 213, 3) := by decide +kernel
theorem dX12_stoodAt_11 : decode cX12_stoodAt 11 = .ok (.if_icmp .ge 91, 3) := by decide +kernel
theorem dX12_stoodAt_14 : decode cX12_stoodAt 14 = .ok (.aload_n 0, 1) := by decide +kernel
theorem dX12_stoodAt_15 : decode cX12_stoodAt 15 = .ok (.getfield 59, 3) := by decide +kernel
theorem dX12_stoodAt_18 : decode cX12_stoodAt 18 = .ok (.iload 4, 2) := by decide +kernel
theorem dX12_stoodAt_20 : decode cX12_stoodAt 20 = .ok (.iaload, 1) := by decide +kernel
theorem dX12_stoodAt_21 : decode cX12_stoodAt 21 = .ok (.iload_n 2, 1) := by decide +kernel
theorem dX12_stoodAt_22 : decode cX12_stoodAt 22 = .ok (.if_icmp .lt 74, 3) := by decide +kernel
theorem dX12_stoodAt_25 : decode cX12_stoodAt 25 = .ok (.aload_n 0, 1) := by decide +kernel
theorem dX12_stoodAt_26 : decode cX12_stoodAt 26 = .ok (.getfield 59, 3) := by decide +kernel
theorem dX12_stoodAt_29 : decode cX12_stoodAt 29 = .ok (.iload 4, 2) := by decide +kernel
theorem dX12_stoodAt_31 : decode cX12_stoodAt 31 = .ok (.iaload, 1) := by decide +kernel
theorem dX12_stoodAt_32 : decode cX12_stoodAt 32 = .ok (.iload_n 2, 1) := by decide +kernel
theorem dX12_stoodAt_33 : decode cX12_stoodAt 33 = .ok (.aload_n 0, 1) := by decide +kernel
theorem dX12_stoodAt_34 : decode cX12_stoodAt 34 = .ok (.getfield 38, 3) := by decide +kernel
theorem dX12_stoodAt_37 : decode cX12_stoodAt 37 = .ok (.bipush 6, 2) := by decide +kernel
theorem dX12_stoodAt_39 : decode cX12_stoodAt 39 = .ok (.iload_n 1, 1) := by decide +kernel
theorem dX12_stoodAt_40 : decode cX12_stoodAt 40 = .ok (.imul, 1) := by decide +kernel
theorem dX12_stoodAt_41 : decode cX12_stoodAt 41 = .ok (.aload_n 0, 1) := by decide +kernel
theorem dX12_stoodAt_42 : decode cX12_stoodAt 42 = .ok (.getfield 35, 3) := by decide +kernel
theorem dX12_stoodAt_45 : decode cX12_stoodAt 45 = .ok (.iload_n 1, 1) := by decide +kernel
theorem dX12_stoodAt_46 : decode cX12_stoodAt 46 = .ok (.iaload, 1) := by decide +kernel
theorem dX12_stoodAt_47 : decode cX12_stoodAt 47 = .ok (.iadd, 1) := by decide +kernel
theorem dX12_stoodAt_48 : decode cX12_stoodAt 48 = .ok (.iconst 1, 1) := by decide +kernel
theorem dX12_stoodAt_49 : decode cX12_stoodAt 49 = .ok (.isub, 1) := by decide +kernel
theorem dX12_stoodAt_50 : decode cX12_stoodAt 50 = .ok (.iaload, 1) := by decide +kernel
theorem dX12_stoodAt_51 : decode cX12_stoodAt 51 = .ok (.iadd, 1) := by decide +kernel
theorem dX12_stoodAt_52 : decode cX12_stoodAt 52 = .ok (.if_icmp .le 6, 3) := by decide +kernel
theorem dX12_stoodAt_55 : decode cX12_stoodAt 55 = .ok (.goto 41, 3) := by decide +kernel
theorem dX12_stoodAt_58 : decode cX12_stoodAt 58 = .ok (.iload_n 3, 1) := by decide +kernel
theorem dX12_stoodAt_59 : decode cX12_stoodAt 59 = .ok (.aload_n 0, 1) := by decide +kernel
theorem dX12_stoodAt_60 : decode cX12_stoodAt 60 = .ok (.getfield 35, 3) := by decide +kernel
theorem dX12_stoodAt_63 : decode cX12_stoodAt 63 = .ok (.iload_n 1, 1) := by decide +kernel
theorem dX12_stoodAt_64 : decode cX12_stoodAt 64 = .ok (.iaload, 1) := by decide +kernel
theorem dX12_stoodAt_65 : decode cX12_stoodAt 65 = .ok (.if_icmp .eq 26, 3) := by decide +kernel
theorem dX12_stoodAt_68 : decode cX12_stoodAt 68 = .ok (.aload_n 0, 1) := by decide +kernel
theorem dX12_stoodAt_69 : decode cX12_stoodAt 69 = .ok (.getfield 59, 3) := by decide +kernel
theorem dX12_stoodAt_72 : decode cX12_stoodAt 72 = .ok (.iload 4, 2) := by decide +kernel
theorem dX12_stoodAt_74 : decode cX12_stoodAt 74 = .ok (.iaload, 1) := by decide +kernel
theorem dX12_stoodAt_75 : decode cX12_stoodAt 75 = .ok (.iload_n 2, 1) := by decide +kernel
theorem dX12_stoodAt_76 : decode cX12_stoodAt 76 = .ok (.aload_n 0, 1) := by decide +kernel
theorem dX12_stoodAt_77 : decode cX12_stoodAt 77 = .ok (.getfield 38, 3) := by decide +kernel
theorem dX12_stoodAt_80 : decode cX12_stoodAt 80 = .ok (.bipush 6, 2) := by decide +kernel
theorem dX12_stoodAt_82 : decode cX12_stoodAt 82 = .ok (.iload_n 1, 1) := by decide +kernel
theorem dX12_stoodAt_83 : decode cX12_stoodAt 83 = .ok (.imul, 1) := by decide +kernel
theorem dX12_stoodAt_84 : decode cX12_stoodAt 84 = .ok (.iload_n 3, 1) := by decide +kernel
theorem dX12_stoodAt_85 : decode cX12_stoodAt 85 = .ok (.iadd, 1) := by decide +kernel
theorem dX12_stoodAt_86 : decode cX12_stoodAt 86 = .ok (.iaload, 1) := by decide +kernel
theorem dX12_stoodAt_87 : decode cX12_stoodAt 87 = .ok (.iadd, 1) := by decide +kernel
theorem dX12_stoodAt_88 : decode cX12_stoodAt 88 = .ok (.if_icmp .eq 5, 3) := by decide +kernel
theorem dX12_stoodAt_91 : decode cX12_stoodAt 91 = .ok (.iconst 0, 1) := by decide +kernel
theorem dX12_stoodAt_92 : decode cX12_stoodAt 92 = .ok (.ireturn, 1) := by decide +kernel
theorem dX12_stoodAt_93 : decode cX12_stoodAt 93 = .ok (.iinc 3 1, 3) := by decide +kernel
theorem dX12_stoodAt_96 : decode cX12_stoodAt 96 = .ok (.iinc 4 1, 3) := by decide +kernel
theorem dX12_stoodAt_99 : decode cX12_stoodAt 99 = .ok (.goto (-94), 3) := by decide +kernel
theorem dX12_stoodAt_102 : decode cX12_stoodAt 102 = .ok (.iload_n 2, 1) := by decide +kernel
theorem dX12_stoodAt_103 : decode cX12_stoodAt 103 = .ok (.ifCond .lt 17, 3) := by decide +kernel
theorem dX12_stoodAt_106 : decode cX12_stoodAt 106 = .ok (.iload_n 3, 1) := by decide +kernel
theorem dX12_stoodAt_107 : decode cX12_stoodAt 107 = .ok (.aload_n 0, 1) := by decide +kernel
theorem dX12_stoodAt_108 : decode cX12_stoodAt 108 = .ok (.getfield 35, 3) := by decide +kernel
theorem dX12_stoodAt_111 : decode cX12_stoodAt 111 = .ok (.iload_n 1, 1) := by decide +kernel
theorem dX12_stoodAt_112 : decode cX12_stoodAt 112 = .ok (.iaload, 1) := by decide +kernel
theorem dX12_stoodAt_113 : decode cX12_stoodAt 113 = .ok (.if_icmp .ne 7, 3) := by decide +kernel
theorem dX12_stoodAt_116 : decode cX12_stoodAt 116 = .ok (.iconst 1, 1) := by decide +kernel
theorem dX12_stoodAt_117 : decode cX12_stoodAt 117 = .ok (.goto 4, 3) := by decide +kernel
theorem dX12_stoodAt_120 : decode cX12_stoodAt 120 = .ok (.iconst 0, 1) := by decide +kernel
theorem dX12_stoodAt_121 : decode cX12_stoodAt 121 = .ok (.ireturn, 1) := by decide +kernel
theorem dX12_stoods_0 : decode cX12_stoods 0 = .ok (.aload_n 0, 1) := by decide +kernel
theorem dX12_stoods_1 : decode cX12_stoods 1 = .ok (.iconst 0, 1) := by decide +kernel
theorem dX12_stoods_2 : decode cX12_stoods 2 = .ok (.putfield 216, 3) := by decide +kernel
theorem dX12_stoods_5 : decode cX12_stoods 5 = .ok (.iconst (-1), 1) := by decide +kernel
theorem dX12_stoods_6 : decode cX12_stoods 6 = .ok (.istore_n 3, 1) := by decide +kernel
theorem dX12_stoods_7 : decode cX12_stoods 7 = .ok (.iconst 0, 1) := by decide +kernel
theorem dX12_stoods_8 : decode cX12_stoods 8 = .ok (.istore 4, 2) := by decide +kernel
theorem dX12_stoods_10 : decode cX12_stoods 10 = .ok (.iload 4, 2) := by decide +kernel
theorem dX12_stoods_12 : decode cX12_stoods 12 = .ok (.aload_n 0, 1) := by decide +kernel
theorem dX12_stoods_13 : decode cX12_stoods 13 = .ok (.getfield 213, 3) := by decide +kernel
theorem dX12_stoods_16 : decode cX12_stoods 16 = .ok (.if_icmp .ge 62, 3) := by decide +kernel
theorem dX12_stoods_19 : decode cX12_stoods 19 = .ok (.aload_n 0, 1) := by decide +kernel
theorem dX12_stoods_20 : decode cX12_stoods 20 = .ok (.getfield 59, 3) := by decide +kernel
theorem dX12_stoods_23 : decode cX12_stoods 23 = .ok (.iload 4, 2) := by decide +kernel
theorem dX12_stoods_25 : decode cX12_stoods 25 = .ok (.iaload, 1) := by decide +kernel
theorem dX12_stoods_26 : decode cX12_stoods 26 = .ok (.aload_n 0, 1) := by decide +kernel
theorem dX12_stoods_27 : decode cX12_stoods 27 = .ok (.getfield 38, 3) := by decide +kernel
theorem dX12_stoods_30 : decode cX12_stoods 30 = .ok (.bipush 6, 2) := by decide +kernel
theorem dX12_stoods_32 : decode cX12_stoods 32 = .ok (.iload_n 1, 1) := by decide +kernel
theorem dX12_stoods_33 : decode cX12_stoods 33 = .ok (.imul, 1) := by decide +kernel
theorem dX12_stoods_34 : decode cX12_stoods 34 = .ok (.iaload, 1) := by decide +kernel
theorem dX12_stoods_35 : decode cX12_stoods 35 = .ok (.isub, 1) := by decide +kernel
theorem dX12_stoods_36 : decode cX12_stoods 36 = .ok (.istore 5, 2) := by decide +kernel
theorem dX12_stoods_38 : decode cX12_stoods 38 = .ok (.aload_n 0, 1) := by decide +kernel
theorem dX12_stoods_39 : decode cX12_stoods 39 = .ok (.iload_n 1, 1) := by decide +kernel
theorem dX12_stoods_40 : decode cX12_stoods 40 = .ok (.iload 5, 2) := by decide +kernel
theorem dX12_stoods_42 : decode cX12_stoods 42 = .ok (.invokevirtual 219, 3) := by decide +kernel
theorem dX12_stoods_45 : decode cX12_stoods 45 = .ok (.ifCond .ne 6, 3) := by decide +kernel
theorem dX12_stoods_48 : decode cX12_stoods 48 = .ok (.goto 24, 3) := by decide +kernel
theorem dX12_stoods_51 : decode cX12_stoods 51 = .ok (.aload_n 0, 1) := by decide +kernel
theorem dX12_stoods_52 : decode cX12_stoods 52 = .ok (.getfield 216, 3) := by decide +kernel
theorem dX12_stoods_55 : decode cX12_stoods 55 = .ok (.iload_n 2, 1) := by decide +kernel
theorem dX12_stoods_56 : decode cX12_stoods 56 = .ok (.if_icmp .ne 6, 3) := by decide +kernel
theorem dX12_stoods_59 : decode cX12_stoods 59 = .ok (.iload 5, 2) := by decide +kernel
theorem dX12_stoods_61 : decode cX12_stoods 61 = .ok (.istore_n 3, 1) := by decide +kernel
theorem dX12_stoods_62 : decode cX12_stoods 62 = .ok (.aload_n 0, 1) := by decide +kernel
theorem dX12_stoods_63 : decode cX12_stoods 63 = .ok (.dup, 1) := by decide +kernel
theorem dX12_stoods_64 : decode cX12_stoods 64 = .ok (.getfield 216, 3) := by decide +kernel
theorem dX12_stoods_67 : decode cX12_stoods 67 = .ok (.iconst 1, 1) := by decide +kernel
theorem dX12_stoods_68 : decode cX12_stoods 68 = .ok (.iadd, 1) := by decide +kernel
theorem dX12_stoods_69 : decode cX12_stoods 69 = .ok (.putfield 216, 3) := by decide +kernel
theorem dX12_stoods_72 : decode cX12_stoods 72 = .ok (.iinc 4 1, 3) := by decide +kernel
theorem dX12_stoods_75 : decode cX12_stoods 75 = .ok (.goto (-65), 3) := by decide +kernel
theorem dX12_stoods_78 : decode cX12_stoods 78 = .ok (.iload_n 3, 1) := by decide +kernel
theorem dX12_stoods_79 : decode cX12_stoods 79 = .ok (.ireturn, 1) := by decide +kernel
theorem dX12_mayStand_0 : decode cX12_mayStand 0 = .ok (.aload_n 0, 1) := by decide +kernel
theorem dX12_mayStand_1 : decode cX12_mayStand 1 = .ok (.iload_n 1, 1) := by decide +kernel
theorem dX12_mayStand_2 : decode cX12_mayStand 2 = .ok (.invokevirtual 81, 3) := by decide +kernel
theorem dX12_mayStand_5 : decode cX12_mayStand 5 = .ok (.ifCond .eq 23, 3) := by decide +kernel
theorem dX12_mayStand_8 : decode cX12_mayStand 8 = .ok (.aload_n 0, 1) := by decide +kernel
theorem dX12_mayStand_9 : decode cX12_mayStand 9 = .ok (.getfield 213, 3) := by decide +kernel
theorem dX12_mayStand_12 : decode cX12_mayStand 12 = .ok (.ifCond .le 16, 3) := by decide +kernel
theorem dX12_mayStand_15 : decode cX12_mayStand 15 = .ok (.aload_n 0, 1) := by decide +kernel
theorem dX12_mayStand_16 : decode cX12_mayStand 16 = .ok (.getfield 35, 3) := by decide +kernel
theorem dX12_mayStand_19 : decode cX12_mayStand 19 = .ok (.iload_n 1, 1) := by decide +kernel
theorem dX12_mayStand_20 : decode cX12_mayStand 20 = .ok (.iaload, 1) := by decide +kernel
theorem dX12_mayStand_21 : decode cX12_mayStand 21 = .ok (.ifCond .le 7, 3) := by decide +kernel
theorem dX12_mayStand_24 : decode cX12_mayStand 24 = .ok (.iconst 1, 1) := by decide +kernel
theorem dX12_mayStand_25 : decode cX12_mayStand 25 = .ok (.goto 4, 3) := by decide +kernel
theorem dX12_mayStand_28 : decode cX12_mayStand 28 = .ok (.iconst 0, 1) := by decide +kernel
theorem dX12_mayStand_29 : decode cX12_mayStand 29 = .ok (.ireturn, 1) := by decide +kernel
theorem dX12_stood_0 : decode cX12_stood 0 = .ok (.aload_n 0, 1) := by decide +kernel
theorem dX12_stood_1 : decode cX12_stood 1 = .ok (.iload_n 1, 1) := by decide +kernel
theorem dX12_stood_2 : decode cX12_stood 2 = .ok (.invokevirtual 222, 3) := by decide +kernel
theorem dX12_stood_5 : decode cX12_stood 5 = .ok (.ifCond .ne 5, 3) := by decide +kernel
theorem dX12_stood_8 : decode cX12_stood 8 = .ok (.iconst (-1), 1) := by decide +kernel
theorem dX12_stood_9 : decode cX12_stood 9 = .ok (.ireturn, 1) := by decide +kernel
theorem dX12_stood_10 : decode cX12_stood 10 = .ok (.aload_n 0, 1) := by decide +kernel
theorem dX12_stood_11 : decode cX12_stood 11 = .ok (.iload_n 1, 1) := by decide +kernel
theorem dX12_stood_12 : decode cX12_stood 12 = .ok (.iconst (-1), 1) := by decide +kernel
theorem dX12_stood_13 : decode cX12_stood 13 = .ok (.invokevirtual 225, 3) := by decide +kernel
theorem dX12_stood_16 : decode cX12_stood 16 = .ok (.pop, 1) := by decide +kernel
theorem dX12_stood_17 : decode cX12_stood 17 = .ok (.aload_n 0, 1) := by decide +kernel
theorem dX12_stood_18 : decode cX12_stood 18 = .ok (.getfield 216, 3) := by decide +kernel
theorem dX12_stood_21 : decode cX12_stood 21 = .ok (.ireturn, 1) := by decide +kernel
theorem dX12_standing_0 : decode cX12_standing 0 = .ok (.aload_n 0, 1) := by decide +kernel
theorem dX12_standing_1 : decode cX12_standing 1 = .ok (.iload_n 1, 1) := by decide +kernel
theorem dX12_standing_2 : decode cX12_standing 2 = .ok (.invokevirtual 222, 3) := by decide +kernel
theorem dX12_standing_5 : decode cX12_standing 5 = .ok (.ifCond .eq 16, 3) := by decide +kernel
theorem dX12_standing_8 : decode cX12_standing 8 = .ok (.iload_n 2, 1) := by decide +kernel
theorem dX12_standing_9 : decode cX12_standing 9 = .ok (.ifCond .lt 12, 3) := by decide +kernel
theorem dX12_standing_12 : decode cX12_standing 12 = .ok (.aload_n 0, 1) := by decide +kernel
theorem dX12_standing_13 : decode cX12_standing 13 = .ok (.iload_n 1, 1) := by decide +kernel
theorem dX12_standing_14 : decode cX12_standing 14 = .ok (.iload_n 2, 1) := by decide +kernel
theorem dX12_standing_15 : decode cX12_standing 15 = .ok (.invokevirtual 225, 3) := by decide +kernel
theorem dX12_standing_18 : decode cX12_standing 18 = .ok (.goto 4, 3) := by decide +kernel
theorem dX12_standing_21 : decode cX12_standing 21 = .ok (.iconst (-1), 1) := by decide +kernel
theorem dX12_standing_22 : decode cX12_standing 22 = .ok (.ireturn, 1) := by decide +kernel
theorem dX12_known_0 : decode cX12_known 0 = .ok (.aload_n 0, 1) := by decide +kernel
theorem dX12_known_1 : decode cX12_known 1 = .ok (.getfield 65, 3) := by decide +kernel
theorem dX12_known_4 : decode cX12_known 4 = .ok (.istore_n 1, 1) := by decide +kernel
theorem dX12_known_5 : decode cX12_known 5 = .ok (.aload_n 0, 1) := by decide +kernel
theorem dX12_known_6 : decode cX12_known 6 = .ok (.iconst 0, 1) := by decide +kernel
theorem dX12_known_7 : decode cX12_known 7 = .ok (.putfield 65, 3) := by decide +kernel
theorem dX12_known_10 : decode cX12_known 10 = .ok (.iload_n 1, 1) := by decide +kernel
theorem dX12_known_11 : decode cX12_known 11 = .ok (.iconst 1, 1) := by decide +kernel
theorem dX12_known_12 : decode cX12_known 12 = .ok (.if_icmp .ge 5, 3) := by decide +kernel
theorem dX12_known_15 : decode cX12_known 15 = .ok (.iconst (-1), 1) := by decide +kernel
theorem dX12_known_16 : decode cX12_known 16 = .ok (.ireturn, 1) := by decide +kernel
theorem dX12_known_17 : decode cX12_known 17 = .ok (.iconst 0, 1) := by decide +kernel
theorem dX12_known_18 : decode cX12_known 18 = .ok (.istore_n 2, 1) := by decide +kernel
theorem dX12_known_19 : decode cX12_known 19 = .ok (.iload_n 2, 1) := by decide +kernel
theorem dX12_known_20 : decode cX12_known 20 = .ok (.iload_n 1, 1) := by decide +kernel
theorem dX12_known_21 : decode cX12_known 21 = .ok (.if_icmp .ge 23, 3) := by decide +kernel
theorem dX12_known_24 : decode cX12_known 24 = .ok (.aload_n 0, 1) := by decide +kernel
theorem dX12_known_25 : decode cX12_known 25 = .ok (.getfield 7, 3) := by decide +kernel
theorem dX12_known_28 : decode cX12_known 28 = .ok (.iload_n 2, 1) := by decide +kernel
theorem dX12_known_29 : decode cX12_known 29 = .ok (.iaload, 1) := by decide +kernel
theorem dX12_known_30 : decode cX12_known 30 = .ok (.invokestatic 73, 3) := by decide +kernel
theorem dX12_known_33 : decode cX12_known 33 = .ok (.ifCond .ne 5, 3) := by decide +kernel
theorem dX12_known_36 : decode cX12_known 36 = .ok (.iconst (-1), 1) := by decide +kernel
theorem dX12_known_37 : decode cX12_known 37 = .ok (.ireturn, 1) := by decide +kernel
theorem dX12_known_38 : decode cX12_known 38 = .ok (.iinc 2 1, 3) := by decide +kernel
theorem dX12_known_41 : decode cX12_known 41 = .ok (.goto (-22), 3) := by decide +kernel
theorem dX12_known_44 : decode cX12_known 44 = .ok (.iconst 0, 1) := by decide +kernel
theorem dX12_known_45 : decode cX12_known 45 = .ok (.istore_n 2, 1) := by decide +kernel
theorem dX12_known_46 : decode cX12_known 46 = .ok (.iload_n 2, 1) := by decide +kernel
theorem dX12_known_47 : decode cX12_known 47 = .ok (.iload_n 1, 1) := by decide +kernel
theorem dX12_known_48 : decode cX12_known 48 = .ok (.if_icmp .ge 21, 3) := by decide +kernel
theorem dX12_known_51 : decode cX12_known 51 = .ok (.aload_n 0, 1) := by decide +kernel
theorem dX12_known_52 : decode cX12_known 52 = .ok (.getfield 62, 3) := by decide +kernel
theorem dX12_known_55 : decode cX12_known 55 = .ok (.iload_n 2, 1) := by decide +kernel
theorem dX12_known_56 : decode cX12_known 56 = .ok (.aload_n 0, 1) := by decide +kernel
theorem dX12_known_57 : decode cX12_known 57 = .ok (.getfield 7, 3) := by decide +kernel
theorem dX12_known_60 : decode cX12_known 60 = .ok (.iload_n 2, 1) := by decide +kernel
theorem dX12_known_61 : decode cX12_known 61 = .ok (.iaload, 1) := by decide +kernel
theorem dX12_known_62 : decode cX12_known 62 = .ok (.iastore, 1) := by decide +kernel
theorem dX12_known_63 : decode cX12_known 63 = .ok (.iinc 2 1, 3) := by decide +kernel
theorem dX12_known_66 : decode cX12_known 66 = .ok (.goto (-20), 3) := by decide +kernel
theorem dX12_known_69 : decode cX12_known 69 = .ok (.aload_n 0, 1) := by decide +kernel
theorem dX12_known_70 : decode cX12_known 70 = .ok (.iload_n 1, 1) := by decide +kernel
theorem dX12_known_71 : decode cX12_known 71 = .ok (.putfield 228, 3) := by decide +kernel
theorem dX12_known_74 : decode cX12_known 74 = .ok (.iload_n 1, 1) := by decide +kernel
theorem dX12_known_75 : decode cX12_known 75 = .ok (.ireturn, 1) := by decide +kernel
theorem dX12_floor_0 : decode cX12_floor 0 = .ok (.iload_n 0, 1) := by decide +kernel
theorem dX12_floor_1 : decode cX12_floor 1 = .ok (.ifCond .lt 9, 3) := by decide +kernel
theorem dX12_floor_4 : decode cX12_floor 4 = .ok (.iload_n 0, 1) := by decide +kernel
theorem dX12_floor_5 : decode cX12_floor 5 = .ok (.iload_n 1, 1) := by decide +kernel
theorem dX12_floor_6 : decode cX12_floor 6 = .ok (.idiv, 1) := by decide +kernel
theorem dX12_floor_7 : decode cX12_floor 7 = .ok (.goto 11, 3) := by decide +kernel
theorem dX12_floor_10 : decode cX12_floor 10 = .ok (.iload_n 1, 1) := by decide +kernel
theorem dX12_floor_11 : decode cX12_floor 11 = .ok (.iconst 1, 1) := by decide +kernel
theorem dX12_floor_12 : decode cX12_floor 12 = .ok (.isub, 1) := by decide +kernel
theorem dX12_floor_13 : decode cX12_floor 13 = .ok (.iload_n 0, 1) := by decide +kernel
theorem dX12_floor_14 : decode cX12_floor 14 = .ok (.isub, 1) := by decide +kernel
theorem dX12_floor_15 : decode cX12_floor 15 = .ok (.iload_n 1, 1) := by decide +kernel
theorem dX12_floor_16 : decode cX12_floor 16 = .ok (.idiv, 1) := by decide +kernel
theorem dX12_floor_17 : decode cX12_floor 17 = .ok (.ineg, 1) := by decide +kernel
theorem dX12_floor_18 : decode cX12_floor 18 = .ok (.ireturn, 1) := by decide +kernel
theorem dX12_standsAt_0 : decode cX12_standsAt 0 = .ok (.iconst 0, 1) := by decide +kernel
theorem dX12_standsAt_1 : decode cX12_standsAt 1 = .ok (.istore 4, 2) := by decide +kernel
theorem dX12_standsAt_3 : decode cX12_standsAt 3 = .ok (.iload 4, 2) := by decide +kernel
theorem dX12_standsAt_5 : decode cX12_standsAt 5 = .ok (.iconst 5, 1) := by decide +kernel
theorem dX12_standsAt_6 : decode cX12_standsAt 6 = .ok (.if_icmp .ge 118, 3) := by decide +kernel
theorem dX12_standsAt_9 : decode cX12_standsAt 9 = .ok (.iconst 0, 1) := by decide +kernel
theorem dX12_standsAt_10 : decode cX12_standsAt 10 = .ok (.istore 5, 2) := by decide +kernel
theorem dX12_standsAt_12 : decode cX12_standsAt 12 = .ok (.iload 5, 2) := by decide +kernel
theorem dX12_standsAt_14 : decode cX12_standsAt 14 = .ok (.bipush 10, 2) := by decide +kernel
theorem dX12_standsAt_16 : decode cX12_standsAt 16 = .ok (.if_icmp .ge 102, 3) := by decide +kernel
theorem dX12_standsAt_19 : decode cX12_standsAt 19 = .ok (.aload_n 0, 1) := by decide +kernel
theorem dX12_standsAt_20 : decode cX12_standsAt 20 = .ok (.iload_n 1, 1) := by decide +kernel
theorem dX12_standsAt_21 : decode cX12_standsAt 21 = .ok (.iload 4, 2) := by decide +kernel
theorem dX12_standsAt_23 : decode cX12_standsAt 23 = .ok (.iload 5, 2) := by decide +kernel
theorem dX12_standsAt_25 : decode cX12_standsAt 25 = .ok (.invokevirtual 86, 3) := by decide +kernel
theorem dX12_standsAt_28 : decode cX12_standsAt 28 = .ok (.istore 6, 2) := by decide +kernel
theorem dX12_standsAt_30 : decode cX12_standsAt 30 = .ok (.iload 6, 2) := by decide +kernel
theorem dX12_standsAt_32 : decode cX12_standsAt 32 = .ok (.invokestatic 73, 3) := by decide +kernel
theorem dX12_standsAt_35 : decode cX12_standsAt 35 = .ok (.ifCond .ne 13, 3) := by decide +kernel
theorem dX12_standsAt_38 : decode cX12_standsAt 38 = .ok (.iload 6, 2) := by decide +kernel
theorem dX12_standsAt_40 : decode cX12_standsAt 40 = .ok (.bipush 46, 2) := by decide +kernel
theorem dX12_standsAt_42 : decode cX12_standsAt 42 = .ok (.if_icmp .eq 6, 3) := by decide +kernel
theorem dX12_standsAt_45 : decode cX12_standsAt 45 = .ok (.goto 67, 3) := by decide +kernel
theorem dX12_standsAt_48 : decode cX12_standsAt 48 = .ok (.iload_n 3, 1) := by decide +kernel
theorem dX12_standsAt_49 : decode cX12_standsAt 49 = .ok (.iload 4, 2) := by decide +kernel
theorem dX12_standsAt_51 : decode cX12_standsAt 51 = .ok (.iload_n 2, 1) := by decide +kernel
theorem dX12_standsAt_52 : decode cX12_standsAt 52 = .ok (.imul, 1) := by decide +kernel
theorem dX12_standsAt_53 : decode cX12_standsAt 53 = .ok (.iadd, 1) := by decide +kernel
theorem dX12_standsAt_54 : decode cX12_standsAt 54 = .ok (.iload 5, 2) := by decide +kernel
theorem dX12_standsAt_56 : decode cX12_standsAt 56 = .ok (.iadd, 1) := by decide +kernel
theorem dX12_standsAt_57 : decode cX12_standsAt 57 = .ok (.istore 7, 2) := by decide +kernel
theorem dX12_standsAt_59 : decode cX12_standsAt 59 = .ok (.iload 7, 2) := by decide +kernel
theorem dX12_standsAt_61 : decode cX12_standsAt 61 = .ok (.iconst 0, 1) := by decide +kernel
theorem dX12_standsAt_62 : decode cX12_standsAt 62 = .ok (.aload_n 0, 1) := by decide +kernel
theorem dX12_standsAt_63 : decode cX12_standsAt 63 = .ok (.getfield 228, 3) := by decide +kernel
theorem dX12_standsAt_66 : decode cX12_standsAt 66 = .ok (.iconst 1, 1) := by decide +kernel
theorem dX12_standsAt_67 : decode cX12_standsAt 67 = .ok (.isub, 1) := by decide +kernel
theorem dX12_standsAt_68 : decode cX12_standsAt 68 = .ok (.invokestatic 69, 3) := by decide +kernel
theorem dX12_standsAt_71 : decode cX12_standsAt 71 = .ok (.ifCond .eq 39, 3) := by decide +kernel
theorem dX12_standsAt_74 : decode cX12_standsAt 74 = .ok (.iload 7, 2) := by decide +kernel
theorem dX12_standsAt_76 : decode cX12_standsAt 76 = .ok (.iload_n 2, 1) := by decide +kernel
theorem dX12_standsAt_77 : decode cX12_standsAt 77 = .ok (.invokestatic 231, 3) := by decide +kernel
theorem dX12_standsAt_80 : decode cX12_standsAt 80 = .ok (.iload_n 3, 1) := by decide +kernel
theorem dX12_standsAt_81 : decode cX12_standsAt 81 = .ok (.iload_n 2, 1) := by decide +kernel
theorem dX12_standsAt_82 : decode cX12_standsAt 82 = .ok (.invokestatic 231, 3) := by decide +kernel
theorem dX12_standsAt_85 : decode cX12_standsAt 85 = .ok (.iload 4, 2) := by decide +kernel
theorem dX12_standsAt_87 : decode cX12_standsAt 87 = .ok (.iadd, 1) := by decide +kernel
theorem dX12_standsAt_88 : decode cX12_standsAt 88 = .ok (.if_icmp .ne 22, 3) := by decide +kernel
theorem dX12_standsAt_91 : decode cX12_standsAt 91 = .ok (.iload 6, 2) := by decide +kernel
theorem dX12_standsAt_93 : decode cX12_standsAt 93 = .ok (.bipush 46, 2) := by decide +kernel
theorem dX12_standsAt_95 : decode cX12_standsAt 95 = .ok (.if_icmp .eq 17, 3) := by decide +kernel
theorem dX12_standsAt_98 : decode cX12_standsAt 98 = .ok (.iload 6, 2) := by decide +kernel
theorem dX12_standsAt_100 : decode cX12_standsAt 100 = .ok (.aload_n 0, 1) := by decide +kernel
theorem dX12_standsAt_101 : decode cX12_standsAt 101 = .ok (.getfield 62, 3) := by decide +kernel
theorem dX12_standsAt_104 : decode cX12_standsAt 104 = .ok (.iload 7, 2) := by decide +kernel
theorem dX12_standsAt_106 : decode cX12_standsAt 106 = .ok (.iaload, 1) := by decide +kernel
theorem dX12_standsAt_107 : decode cX12_standsAt 107 = .ok (.if_icmp .eq 5, 3) := by decide +kernel
theorem dX12_standsAt_110 : decode cX12_standsAt 110 = .ok (.iconst 0, 1) := by decide +kernel
theorem dX12_standsAt_111 : decode cX12_standsAt 111 = .ok (.ireturn, 1) := by decide +kernel
theorem dX12_standsAt_112 : decode cX12_standsAt 112 = .ok (.iinc 5 1, 3) := by decide +kernel
theorem dX12_standsAt_115 : decode cX12_standsAt 115 = .ok (.goto (-103), 3) := by decide +kernel
theorem dX12_standsAt_118 : decode cX12_standsAt 118 = .ok (.iinc 4 1, 3) := by decide +kernel
theorem dX12_standsAt_121 : decode cX12_standsAt 121 = .ok (.goto (-118), 3) := by decide +kernel
theorem dX12_standsAt_124 : decode cX12_standsAt 124 = .ok (.iconst 1, 1) := by decide +kernel
theorem dX12_standsAt_125 : decode cX12_standsAt 125 = .ok (.ireturn, 1) := by decide +kernel
theorem dX12_standsBy_0 : decode cX12_standsBy 0 = .ok (.aload_n 0, 1) := by decide +kernel
theorem dX12_standsBy_1 : decode cX12_standsBy 1 = .ok (.iconst 0, 1) := by decide +kernel
theorem dX12_standsBy_2 : decode cX12_standsBy 2 = .ok (.putfield 216, 3) := by decide +kernel
theorem dX12_standsBy_5 : decode cX12_standsBy 5 = .ok (.sipush (-1000), 3) := by decide +kernel
theorem dX12_standsBy_8 : decode cX12_standsBy 8 = .ok (.istore 4, 2) := by decide +kernel
theorem dX12_standsBy_10 : decode cX12_standsBy 10 = .ok (.bipush (-5), 2) := by decide +kernel
theorem dX12_standsBy_12 : decode cX12_standsBy 12 = .ok (.iload_n 2, 1) := by decide +kernel
theorem dX12_standsBy_13 : decode cX12_standsBy 13 = .ok (.imul, 1) := by decide +kernel
theorem dX12_standsBy_14 : decode cX12_standsBy 14 = .ok (.bipush 10, 2) := by decide +kernel
theorem dX12_standsBy_16 : decode cX12_standsBy 16 = .ok (.isub, 1) := by decide +kernel
theorem dX12_standsBy_17 : decode cX12_standsBy 17 = .ok (.istore 5, 2) := by decide +kernel
theorem dX12_standsBy_19 : decode cX12_standsBy 19 = .ok (.iload 5, 2) := by decide +kernel
theorem dX12_standsBy_21 : decode cX12_standsBy 21 = .ok (.aload_n 0, 1) := by decide +kernel
theorem dX12_standsBy_22 : decode cX12_standsBy 22 = .ok (.getfield 228, 3) := by decide +kernel
theorem dX12_standsBy_25 : decode cX12_standsBy 25 = .ok (.if_icmp .ge 53, 3) := by decide +kernel
theorem dX12_standsBy_28 : decode cX12_standsBy 28 = .ok (.aload_n 0, 1) := by decide +kernel
theorem dX12_standsBy_29 : decode cX12_standsBy 29 = .ok (.iload_n 1, 1) := by decide +kernel
theorem dX12_standsBy_30 : decode cX12_standsBy 30 = .ok (.invokevirtual 234, 3) := by decide +kernel
theorem dX12_standsBy_33 : decode cX12_standsBy 33 = .ok (.ifCond .eq 45, 3) := by decide +kernel
theorem dX12_standsBy_36 : decode cX12_standsBy 36 = .ok (.aload_n 0, 1) := by decide +kernel
theorem dX12_standsBy_37 : decode cX12_standsBy 37 = .ok (.iload_n 1, 1) := by decide +kernel
theorem dX12_standsBy_38 : decode cX12_standsBy 38 = .ok (.iload_n 2, 1) := by decide +kernel
theorem dX12_standsBy_39 : decode cX12_standsBy 39 = .ok (.iload 5, 2) := by decide +kernel
theorem dX12_standsBy_41 : decode cX12_standsBy 41 = .ok (.invokevirtual 237, 3) := by decide +kernel
theorem dX12_standsBy_44 : decode cX12_standsBy 44 = .ok (.ifCond .ne 6, 3) := by decide +kernel
theorem dX12_standsBy_47 : decode cX12_standsBy 47 = .ok (.goto 25, 3) := by decide +kernel
theorem dX12_standsBy_50 : decode cX12_standsBy 50 = .ok (.aload_n 0, 1) := by decide +kernel
theorem dX12_standsBy_51 : decode cX12_standsBy 51 = .ok (.getfield 216, 3) := by decide +kernel
theorem dX12_standsBy_54 : decode cX12_standsBy 54 = .ok (.iload_n 3, 1) := by decide +kernel
theorem dX12_standsBy_55 : decode cX12_standsBy 55 = .ok (.if_icmp .ne 7, 3) := by decide +kernel
theorem dX12_standsBy_58 : decode cX12_standsBy 58 = .ok (.iload 5, 2) := by decide +kernel
theorem dX12_standsBy_60 : decode cX12_standsBy 60 = .ok (.istore 4, 2) := by decide +kernel
theorem dX12_standsBy_62 : decode cX12_standsBy 62 = .ok (.aload_n 0, 1) := by decide +kernel
theorem dX12_standsBy_63 : decode cX12_standsBy 63 = .ok (.dup, 1) := by decide +kernel
theorem dX12_standsBy_64 : decode cX12_standsBy 64 = .ok (.getfield 216, 3) := by decide +kernel
theorem dX12_standsBy_67 : decode cX12_standsBy 67 = .ok (.iconst 1, 1) := by decide +kernel
theorem dX12_standsBy_68 : decode cX12_standsBy 68 = .ok (.iadd, 1) := by decide +kernel
theorem dX12_standsBy_69 : decode cX12_standsBy 69 = .ok (.putfield 216, 3) := by decide +kernel
theorem dX12_standsBy_72 : decode cX12_standsBy 72 = .ok (.iinc 5 1, 3) := by decide +kernel
theorem dX12_standsBy_75 : decode cX12_standsBy 75 = .ok (.goto (-56), 3) := by decide +kernel
theorem dX12_standsBy_78 : decode cX12_standsBy 78 = .ok (.iload 4, 2) := by decide +kernel
theorem dX12_standsBy_80 : decode cX12_standsBy 80 = .ok (.ireturn, 1) := by decide +kernel
theorem dX12_hasInk_0 : decode cX12_hasInk 0 = .ok (.iconst 0, 1) := by decide +kernel
theorem dX12_hasInk_1 : decode cX12_hasInk 1 = .ok (.istore_n 2, 1) := by decide +kernel
theorem dX12_hasInk_2 : decode cX12_hasInk 2 = .ok (.iload_n 2, 1) := by decide +kernel
theorem dX12_hasInk_3 : decode cX12_hasInk 3 = .ok (.bipush 50, 2) := by decide +kernel
theorem dX12_hasInk_5 : decode cX12_hasInk 5 = .ok (.if_icmp .ge 44, 3) := by decide +kernel
theorem dX12_hasInk_8 : decode cX12_hasInk 8 = .ok (.aload_n 0, 1) := by decide +kernel
theorem dX12_hasInk_9 : decode cX12_hasInk 9 = .ok (.getfield 17, 3) := by decide +kernel
theorem dX12_hasInk_12 : decode cX12_hasInk 12 = .ok (.bipush 50, 2) := by decide +kernel
theorem dX12_hasInk_14 : decode cX12_hasInk 14 = .ok (.iload_n 1, 1) := by decide +kernel
theorem dX12_hasInk_15 : decode cX12_hasInk 15 = .ok (.imul, 1) := by decide +kernel
theorem dX12_hasInk_16 : decode cX12_hasInk 16 = .ok (.iload_n 2, 1) := by decide +kernel
theorem dX12_hasInk_17 : decode cX12_hasInk 17 = .ok (.iadd, 1) := by decide +kernel
theorem dX12_hasInk_18 : decode cX12_hasInk 18 = .ok (.iaload, 1) := by decide +kernel
theorem dX12_hasInk_19 : decode cX12_hasInk 19 = .ok (.invokestatic 73, 3) := by decide +kernel
theorem dX12_hasInk_22 : decode cX12_hasInk 22 = .ok (.ifCond .ne 19, 3) := by decide +kernel
theorem dX12_hasInk_25 : decode cX12_hasInk 25 = .ok (.aload_n 0, 1) := by decide +kernel
theorem dX12_hasInk_26 : decode cX12_hasInk 26 = .ok (.getfield 17, 3) := by decide +kernel
theorem dX12_hasInk_29 : decode cX12_hasInk 29 = .ok (.bipush 50, 2) := by decide +kernel
theorem dX12_hasInk_31 : decode cX12_hasInk 31 = .ok (.iload_n 1, 1) := by decide +kernel
theorem dX12_hasInk_32 : decode cX12_hasInk 32 = .ok (.imul, 1) := by decide +kernel
theorem dX12_hasInk_33 : decode cX12_hasInk 33 = .ok (.iload_n 2, 1) := by decide +kernel
theorem dX12_hasInk_34 : decode cX12_hasInk 34 = .ok (.iadd, 1) := by decide +kernel
theorem dX12_hasInk_35 : decode cX12_hasInk 35 = .ok (.iaload, 1) := by decide +kernel
theorem dX12_hasInk_36 : decode cX12_hasInk 36 = .ok (.bipush 46, 2) := by decide +kernel
theorem dX12_hasInk_38 : decode cX12_hasInk 38 = .ok (.if_icmp .ne 5, 3) := by decide +kernel
theorem dX12_hasInk_41 : decode cX12_hasInk 41 = .ok (.iconst 1, 1) := by decide +kernel
theorem dX12_hasInk_42 : decode cX12_hasInk 42 = .ok (.ireturn, 1) := by decide +kernel
theorem dX12_hasInk_43 : decode cX12_hasInk 43 = .ok (.iinc 2 1, 3) := by decide +kernel
theorem dX12_hasInk_46 : decode cX12_hasInk 46 = .ok (.goto (-44), 3) := by decide +kernel
theorem dX12_hasInk_49 : decode cX12_hasInk 49 = .ok (.iconst 0, 1) := by decide +kernel
theorem dX12_hasInk_50 : decode cX12_hasInk 50 = .ok (.ireturn, 1) := by decide +kernel
theorem dX12_stands_0 : decode cX12_stands 0 = .ok (.aload_n 0, 1) := by decide +kernel
theorem dX12_stands_1 : decode cX12_stands 1 = .ok (.iload_n 1, 1) := by decide +kernel
theorem dX12_stands_2 : decode cX12_stands 2 = .ok (.invokevirtual 81, 3) := by decide +kernel
theorem dX12_stands_5 : decode cX12_stands 5 = .ok (.ifCond .eq 20, 3) := by decide +kernel
theorem dX12_stands_8 : decode cX12_stands 8 = .ok (.aload_n 0, 1) := by decide +kernel
theorem dX12_stands_9 : decode cX12_stands 9 = .ok (.getfield 228, 3) := by decide +kernel
theorem dX12_stands_12 : decode cX12_stands 12 = .ok (.ifCond .eq 13, 3) := by decide +kernel
theorem dX12_stands_15 : decode cX12_stands 15 = .ok (.iload_n 2, 1) := by decide +kernel
theorem dX12_stands_16 : decode cX12_stands 16 = .ok (.iconst 2, 1) := by decide +kernel
theorem dX12_stands_17 : decode cX12_stands 17 = .ok (.bipush 60, 2) := by decide +kernel
theorem dX12_stands_19 : decode cX12_stands 19 = .ok (.invokestatic 69, 3) := by decide +kernel
theorem dX12_stands_22 : decode cX12_stands 22 = .ok (.ifCond .ne 5, 3) := by decide +kernel
theorem dX12_stands_25 : decode cX12_stands 25 = .ok (.iconst (-1), 1) := by decide +kernel
theorem dX12_stands_26 : decode cX12_stands 26 = .ok (.ireturn, 1) := by decide +kernel
theorem dX12_stands_27 : decode cX12_stands 27 = .ok (.aload_n 0, 1) := by decide +kernel
theorem dX12_stands_28 : decode cX12_stands 28 = .ok (.iload_n 1, 1) := by decide +kernel
theorem dX12_stands_29 : decode cX12_stands 29 = .ok (.iload_n 2, 1) := by decide +kernel
theorem dX12_stands_30 : decode cX12_stands 30 = .ok (.iconst (-1), 1) := by decide +kernel
theorem dX12_stands_31 : decode cX12_stands 31 = .ok (.invokevirtual 240, 3) := by decide +kernel
theorem dX12_stands_34 : decode cX12_stands 34 = .ok (.pop, 1) := by decide +kernel
theorem dX12_stands_35 : decode cX12_stands 35 = .ok (.aload_n 0, 1) := by decide +kernel
theorem dX12_stands_36 : decode cX12_stands 36 = .ok (.getfield 216, 3) := by decide +kernel
theorem dX12_stands_39 : decode cX12_stands 39 = .ok (.ireturn, 1) := by decide +kernel
theorem dX12_letter_0 : decode cX12_letter 0 = .ok (.aload_n 0, 1) := by decide +kernel
theorem dX12_letter_1 : decode cX12_letter 1 = .ok (.iload_n 1, 1) := by decide +kernel
theorem dX12_letter_2 : decode cX12_letter 2 = .ok (.invokevirtual 81, 3) := by decide +kernel
theorem dX12_letter_5 : decode cX12_letter 5 = .ok (.ifCond .eq 24, 3) := by decide +kernel
theorem dX12_letter_8 : decode cX12_letter 8 = .ok (.aload_n 0, 1) := by decide +kernel
theorem dX12_letter_9 : decode cX12_letter 9 = .ok (.getfield 228, 3) := by decide +kernel
theorem dX12_letter_12 : decode cX12_letter 12 = .ok (.ifCond .eq 17, 3) := by decide +kernel
theorem dX12_letter_15 : decode cX12_letter 15 = .ok (.iload_n 2, 1) := by decide +kernel
theorem dX12_letter_16 : decode cX12_letter 16 = .ok (.iconst 2, 1) := by decide +kernel
theorem dX12_letter_17 : decode cX12_letter 17 = .ok (.bipush 60, 2) := by decide +kernel
theorem dX12_letter_19 : decode cX12_letter 19 = .ok (.invokestatic 69, 3) := by decide +kernel
theorem dX12_letter_22 : decode cX12_letter 22 = .ok (.ifCond .eq 7, 3) := by decide +kernel
theorem dX12_letter_25 : decode cX12_letter 25 = .ok (.iload_n 3, 1) := by decide +kernel
theorem dX12_letter_26 : decode cX12_letter 26 = .ok (.ifCond .ge 9, 3) := by decide +kernel
theorem dX12_letter_29 : decode cX12_letter 29 = .ok (.sipush (-1000), 3) := by decide +kernel
theorem dX12_letter_32 : decode cX12_letter 32 = .ok (.goto 10, 3) := by decide +kernel
theorem dX12_letter_35 : decode cX12_letter 35 = .ok (.aload_n 0, 1) := by decide +kernel
theorem dX12_letter_36 : decode cX12_letter 36 = .ok (.iload_n 1, 1) := by decide +kernel
theorem dX12_letter_37 : decode cX12_letter 37 = .ok (.iload_n 2, 1) := by decide +kernel
theorem dX12_letter_38 : decode cX12_letter 38 = .ok (.iload_n 3, 1) := by decide +kernel
theorem dX12_letter_39 : decode cX12_letter 39 = .ok (.invokevirtual 240, 3) := by decide +kernel
theorem dX12_letter_42 : decode cX12_letter 42 = .ok (.ireturn, 1) := by decide +kernel
theorem dX12_width_0 : decode cX12_width 0 = .ok (.aload_n 0, 1) := by decide +kernel
theorem dX12_width_1 : decode cX12_width 1 = .ok (.iload_n 1, 1) := by decide +kernel
theorem dX12_width_2 : decode cX12_width 2 = .ok (.invokevirtual 81, 3) := by decide +kernel
theorem dX12_width_5 : decode cX12_width 5 = .ok (.ifCond .eq 30, 3) := by decide +kernel
theorem dX12_width_8 : decode cX12_width 8 = .ok (.aload_n 0, 1) := by decide +kernel
theorem dX12_width_9 : decode cX12_width 9 = .ok (.getfield 228, 3) := by decide +kernel
theorem dX12_width_12 : decode cX12_width 12 = .ok (.ifCond .eq 23, 3) := by decide +kernel
theorem dX12_width_15 : decode cX12_width 15 = .ok (.iload_n 2, 1) := by decide +kernel
theorem dX12_width_16 : decode cX12_width 16 = .ok (.iconst 2, 1) := by decide +kernel
theorem dX12_width_17 : decode cX12_width 17 = .ok (.bipush 60, 2) := by decide +kernel
theorem dX12_width_19 : decode cX12_width 19 = .ok (.invokestatic 69, 3) := by decide +kernel
theorem dX12_width_22 : decode cX12_width 22 = .ok (.ifCond .eq 13, 3) := by decide +kernel
theorem dX12_width_25 : decode cX12_width 25 = .ok (.iload_n 3, 1) := by decide +kernel
theorem dX12_width_26 : decode cX12_width 26 = .ok (.iload_n 2, 1) := by decide +kernel
theorem dX12_width_27 : decode cX12_width 27 = .ok (.bipush 60, 2) := by decide +kernel
theorem dX12_width_29 : decode cX12_width 29 = .ok (.invokestatic 69, 3) := by decide +kernel
theorem dX12_width_32 : decode cX12_width 32 = .ok (.ifCond .ne 5, 3) := by decide +kernel
theorem dX12_width_35 : decode cX12_width 35 = .ok (.iconst (-1), 1) := by decide +kernel
theorem dX12_width_36 : decode cX12_width 36 = .ok (.ireturn, 1) := by decide +kernel
theorem dX12_width_37 : decode cX12_width 37 = .ok (.iconst 0, 1) := by decide +kernel
theorem dX12_width_38 : decode cX12_width 38 = .ok (.istore 4, 2) := by decide +kernel
theorem dX12_width_40 : decode cX12_width 40 = .ok (.iconst (-1), 1) := by decide +kernel
theorem dX12_width_41 : decode cX12_width 41 = .ok (.istore 5, 2) := by decide +kernel
theorem dX12_width_43 : decode cX12_width 43 = .ok (.iload_n 2, 1) := by decide +kernel
theorem dX12_width_44 : decode cX12_width 44 = .ok (.istore 6, 2) := by decide +kernel
theorem dX12_width_46 : decode cX12_width 46 = .ok (.iload 6, 2) := by decide +kernel
theorem dX12_width_48 : decode cX12_width 48 = .ok (.iload_n 3, 1) := by decide +kernel
theorem dX12_width_49 : decode cX12_width 49 = .ok (.if_icmp .gt 40, 3) := by decide +kernel
theorem dX12_width_52 : decode cX12_width 52 = .ok (.aload_n 0, 1) := by decide +kernel
theorem dX12_width_53 : decode cX12_width 53 = .ok (.iload_n 1, 1) := by decide +kernel
theorem dX12_width_54 : decode cX12_width 54 = .ok (.iload 6, 2) := by decide +kernel
theorem dX12_width_56 : decode cX12_width 56 = .ok (.iconst (-1), 1) := by decide +kernel
theorem dX12_width_57 : decode cX12_width 57 = .ok (.invokevirtual 240, 3) := by decide +kernel
theorem dX12_width_60 : decode cX12_width 60 = .ok (.pop, 1) := by decide +kernel
theorem dX12_width_61 : decode cX12_width 61 = .ok (.aload_n 0, 1) := by decide +kernel
theorem dX12_width_62 : decode cX12_width 62 = .ok (.getfield 216, 3) := by decide +kernel
theorem dX12_width_65 : decode cX12_width 65 = .ok (.iload 4, 2) := by decide +kernel
theorem dX12_width_67 : decode cX12_width 67 = .ok (.if_icmp .gt 6, 3) := by decide +kernel
theorem dX12_width_70 : decode cX12_width 70 = .ok (.goto 13, 3) := by decide +kernel
theorem dX12_width_73 : decode cX12_width 73 = .ok (.aload_n 0, 1) := by decide +kernel
theorem dX12_width_74 : decode cX12_width 74 = .ok (.getfield 216, 3) := by decide +kernel
theorem dX12_width_77 : decode cX12_width 77 = .ok (.istore 4, 2) := by decide +kernel
theorem dX12_width_79 : decode cX12_width 79 = .ok (.iload 6, 2) := by decide +kernel
theorem dX12_width_81 : decode cX12_width 81 = .ok (.istore 5, 2) := by decide +kernel
theorem dX12_width_83 : decode cX12_width 83 = .ok (.iinc 6 1, 3) := by decide +kernel
theorem dX12_width_86 : decode cX12_width 86 = .ok (.goto (-40), 3) := by decide +kernel
theorem dX12_width_89 : decode cX12_width 89 = .ok (.iload 5, 2) := by decide +kernel
theorem dX12_width_91 : decode cX12_width 91 = .ok (.ireturn, 1) := by decide +kernel
