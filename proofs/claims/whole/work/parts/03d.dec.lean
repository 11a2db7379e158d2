theorem dX10_init_0 : decode cX10_init 0 = .ok (.aload_n 0, 1) := by decide +kernel
theorem dX10_init_1 : decode cX10_init 1 = .ok (.invokespecial 1, 3) := by decide +kernel
theorem dX10_init_4 : decode cX10_init 4 = .ok (.aload_n 0, 1) := by decide +kernel
theorem dX10_init_5 : decode cX10_init 5 = .ok (.bipush 20, 2) := by decide +kernel
theorem dX10_init_7 : decode cX10_init 7 = .ok (.newarray .int, 2) := by decide +kernel
theorem dX10_init_9 : decode cX10_init 9 = .ok (.putfield 7, 3) := by decide +kernel
theorem dX10_init_12 : decode cX10_init 12 = .ok (.aload_n 0, 1) := by decide +kernel
theorem dX10_init_13 : decode cX10_init 13 = .ok (.sipush 3000, 3) := by decide +kernel
theorem dX10_init_16 : decode cX10_init 16 = .ok (.newarray .int, 2) := by decide +kernel
theorem dX10_init_18 : decode cX10_init 18 = .ok (.putfield 13, 3) := by decide +kernel
theorem dX10_init_21 : decode cX10_init 21 = .ok (.aload_n 0, 1) := by decide +kernel
theorem dX10_init_22 : decode cX10_init 22 = .ok (.bipush 8, 2) := by decide +kernel
theorem dX10_init_24 : decode cX10_init 24 = .ok (.newarray .int, 2) := by decide +kernel
theorem dX10_init_26 : decode cX10_init 26 = .ok (.putfield 16, 3) := by decide +kernel
theorem dX10_init_29 : decode cX10_init 29 = .ok (.aload_n 0, 1) := by decide +kernel
theorem dX10_init_30 : decode cX10_init 30 = .ok (.sipush 4800, 3) := by decide +kernel
theorem dX10_init_33 : decode cX10_init 33 = .ok (.newarray .int, 2) := by decide +kernel
theorem dX10_init_35 : decode cX10_init 35 = .ok (.putfield 19, 3) := by decide +kernel
theorem dX10_init_38 : decode cX10_init 38 = .ok (.aload_n 0, 1) := by decide +kernel
theorem dX10_init_39 : decode cX10_init 39 = .ok (.sipush 11200, 3) := by decide +kernel
theorem dX10_init_42 : decode cX10_init 42 = .ok (.newarray .int, 2) := by decide +kernel
theorem dX10_init_44 : decode cX10_init 44 = .ok (.putfield 22, 3) := by decide +kernel
theorem dX10_init_47 : decode cX10_init 47 = .ok (.aload_n 0, 1) := by decide +kernel
theorem dX10_init_48 : decode cX10_init 48 = .ok (.sipush 8000, 3) := by decide +kernel
theorem dX10_init_51 : decode cX10_init 51 = .ok (.newarray .int, 2) := by decide +kernel
theorem dX10_init_53 : decode cX10_init 53 = .ok (.putfield 25, 3) := by decide +kernel
theorem dX10_init_56 : decode cX10_init 56 = .ok (.aload_n 0, 1) := by decide +kernel
theorem dX10_init_57 : decode cX10_init 57 = .ok (.sipush 4800, 3) := by decide +kernel
theorem dX10_init_60 : decode cX10_init 60 = .ok (.newarray .int, 2) := by decide +kernel
theorem dX10_init_62 : decode cX10_init 62 = .ok (.putfield 28, 3) := by decide +kernel
theorem dX10_init_65 : decode cX10_init 65 = .ok (.aload_n 0, 1) := by decide +kernel
theorem dX10_init_66 : decode cX10_init 66 = .ok (.sipush 300, 3) := by decide +kernel
theorem dX10_init_69 : decode cX10_init 69 = .ok (.newarray .int, 2) := by decide +kernel
theorem dX10_init_71 : decode cX10_init 71 = .ok (.putfield 31, 3) := by decide +kernel
theorem dX10_init_74 : decode cX10_init 74 = .ok (.aload_n 0, 1) := by decide +kernel
theorem dX10_init_75 : decode cX10_init 75 = .ok (.sipush 6000, 3) := by decide +kernel
theorem dX10_init_78 : decode cX10_init 78 = .ok (.newarray .int, 2) := by decide +kernel
theorem dX10_init_80 : decode cX10_init 80 = .ok (.putfield 34, 3) := by decide +kernel
theorem dX10_init_83 : decode cX10_init 83 = .ok (.aload_n 0, 1) := by decide +kernel
theorem dX10_init_84 : decode cX10_init 84 = .ok (.iconst (-1), 1) := by decide +kernel
theorem dX10_init_85 : decode cX10_init 85 = .ok (.putfield 37, 3) := by decide +kernel
theorem dX10_init_88 : decode cX10_init 88 = .ok (.aload_n 0, 1) := by decide +kernel
theorem dX10_init_89 : decode cX10_init 89 = .ok (.sipush 2100, 3) := by decide +kernel
theorem dX10_init_92 : decode cX10_init 92 = .ok (.newarray .int, 2) := by decide +kernel
theorem dX10_init_94 : decode cX10_init 94 = .ok (.putfield 41, 3) := by decide +kernel
theorem dX10_init_97 : decode cX10_init 97 = .ok (.aload_n 0, 1) := by decide +kernel
theorem dX10_init_98 : decode cX10_init 98 = .ok (.sipush 24000, 3) := by decide +kernel
theorem dX10_init_101 : decode cX10_init 101 = .ok (.newarray .int, 2) := by decide +kernel
theorem dX10_init_103 : decode cX10_init 103 = .ok (.putfield 44, 3) := by decide +kernel
theorem dX10_init_106 : decode cX10_init 106 = .ok (.aload_n 0, 1) := by decide +kernel
theorem dX10_init_107 : decode cX10_init 107 = .ok (.sipush 2001, 3) := by decide +kernel
theorem dX10_init_110 : decode cX10_init 110 = .ok (.newarray .int, 2) := by decide +kernel
theorem dX10_init_112 : decode cX10_init 112 = .ok (.putfield 47, 3) := by decide +kernel
theorem dX10_init_115 : decode cX10_init 115 = .ok (.aload_n 0, 1) := by decide +kernel
theorem dX10_init_116 : decode cX10_init 116 = .ok (.sipush 8100, 3) := by decide +kernel
theorem dX10_init_119 : decode cX10_init 119 = .ok (.newarray .int, 2) := by decide +kernel
theorem dX10_init_121 : decode cX10_init 121 = .ok (.putfield 50, 3) := by decide +kernel
theorem dX10_init_124 : decode cX10_init 124 = .ok (.aload_n 0, 1) := by decide +kernel
theorem dX10_init_125 : decode cX10_init 125 = .ok (.sipush 2001, 3) := by decide +kernel
theorem dX10_init_128 : decode cX10_init 128 = .ok (.newarray .int, 2) := by decide +kernel
theorem dX10_init_130 : decode cX10_init 130 = .ok (.putfield 53, 3) := by decide +kernel
theorem dX10_init_133 : decode cX10_init 133 = .ok (.aload_n 0, 1) := by decide +kernel
theorem dX10_init_134 : decode cX10_init 134 = .ok (.sipush 3001, 3) := by decide +kernel
theorem dX10_init_137 : decode cX10_init 137 = .ok (.newarray .int, 2) := by decide +kernel
theorem dX10_init_139 : decode cX10_init 139 = .ok (.putfield 56, 3) := by decide +kernel
theorem dX10_init_142 : decode cX10_init 142 = .ok (.aload_n 0, 1) := by decide +kernel
theorem dX10_init_143 : decode cX10_init 143 = .ok (.sipush 1600, 3) := by decide +kernel
theorem dX10_init_146 : decode cX10_init 146 = .ok (.newarray .int, 2) := by decide +kernel
theorem dX10_init_148 : decode cX10_init 148 = .ok (.putfield 59, 3) := by decide +kernel
theorem dX10_init_151 : decode cX10_init 151 = .ok (.return_, 1) := by decide +kernel
theorem dX10_thrown_0 : decode cX10_thrown 0 = .ok (.aload_n 0, 1) := by decide +kernel
theorem dX10_thrown_1 : decode cX10_thrown 1 = .ok (.getfield 62, 3) := by decide +kernel
theorem dX10_thrown_4 : decode cX10_thrown 4 = .ok (.ireturn, 1) := by decide +kernel
theorem dX10_wait_0 : decode cX10_wait 0 = .ok (.iconst 0, 1) := by decide +kernel
theorem dX10_wait_1 : decode cX10_wait 1 = .ok (.istore_n 3, 1) := by decide +kernel
theorem dX10_wait_2 : decode cX10_wait 2 = .ok (.iload_n 3, 1) := by decide +kernel
theorem dX10_wait_3 : decode cX10_wait 3 = .ok (.iconst 4, 1) := by decide +kernel
theorem dX10_wait_4 : decode cX10_wait 4 = .ok (.if_icmp .ge 30, 3) := by decide +kernel
theorem dX10_wait_7 : decode cX10_wait 7 = .ok (.aload_n 0, 1) := by decide +kernel
theorem dX10_wait_8 : decode cX10_wait 8 = .ok (.getfield 7, 3) := by decide +kernel
theorem dX10_wait_11 : decode cX10_wait 11 = .ok (.iload_n 1, 1) := by decide +kernel
theorem dX10_wait_12 : decode cX10_wait 12 = .ok (.iload_n 3, 1) := by decide +kernel
theorem dX10_wait_13 : decode cX10_wait 13 = .ok (.iadd, 1) := by decide +kernel
theorem dX10_wait_14 : decode cX10_wait 14 = .ok (.iload_n 2, 1) := by decide +kernel
theorem dX10_wait_15 : decode cX10_wait 15 = .ok (.bipush 24, 2) := by decide +kernel
theorem dX10_wait_17 : decode cX10_wait 17 = .ok (.bipush 8, 2) := by decide +kernel
theorem dX10_wait_19 : decode cX10_wait 19 = .ok (.iload_n 3, 1) := by decide +kernel
theorem dX10_wait_20 : decode cX10_wait 20 = .ok (.imul, 1) := by decide +kernel
theorem dX10_wait_21 : decode cX10_wait 21 = .ok (.isub, 1) := by decide +kernel
theorem dX10_wait_22 : decode cX10_wait 22 = .ok (.ishr, 1) := by decide +kernel
theorem dX10_wait_23 : decode cX10_wait 23 = .ok (.sipush 255, 3) := by decide +kernel
theorem dX10_wait_26 : decode cX10_wait 26 = .ok (.iand, 1) := by decide +kernel
theorem dX10_wait_27 : decode cX10_wait 27 = .ok (.iastore, 1) := by decide +kernel
theorem dX10_wait_28 : decode cX10_wait 28 = .ok (.iinc 3 1, 3) := by decide +kernel
theorem dX10_wait_31 : decode cX10_wait 31 = .ok (.goto (-29), 3) := by decide +kernel
theorem dX10_wait_34 : decode cX10_wait 34 = .ok (.return_, 1) := by decide +kernel
theorem dX10_feed_0 : decode cX10_feed 0 = .ok (.aload_n 0, 1) := by decide +kernel
theorem dX10_feed_1 : decode cX10_feed 1 = .ok (.iconst 0, 1) := by decide +kernel
theorem dX10_feed_2 : decode cX10_feed 2 = .ok (.putfield 62, 3) := by decide +kernel
theorem dX10_feed_5 : decode cX10_feed 5 = .ok (.aload_n 0, 1) := by decide +kernel
theorem dX10_feed_6 : decode cX10_feed 6 = .ok (.iconst 0, 1) := by decide +kernel
theorem dX10_feed_7 : decode cX10_feed 7 = .ok (.iload_n 1, 1) := by decide +kernel
theorem dX10_feed_8 : decode cX10_feed 8 = .ok (.invokevirtual 65, 3) := by decide +kernel
theorem dX10_feed_11 : decode cX10_feed 11 = .ok (.aload_n 0, 1) := by decide +kernel
theorem dX10_feed_12 : decode cX10_feed 12 = .ok (.iconst 4, 1) := by decide +kernel
theorem dX10_feed_13 : decode cX10_feed 13 = .ok (.iload_n 2, 1) := by decide +kernel
theorem dX10_feed_14 : decode cX10_feed 14 = .ok (.invokevirtual 65, 3) := by decide +kernel
theorem dX10_feed_17 : decode cX10_feed 17 = .ok (.aload_n 0, 1) := by decide +kernel
theorem dX10_feed_18 : decode cX10_feed 18 = .ok (.bipush 8, 2) := by decide +kernel
theorem dX10_feed_20 : decode cX10_feed 20 = .ok (.iload_n 3, 1) := by decide +kernel
theorem dX10_feed_21 : decode cX10_feed 21 = .ok (.invokevirtual 65, 3) := by decide +kernel
theorem dX10_feed_24 : decode cX10_feed 24 = .ok (.aload_n 0, 1) := by decide +kernel
theorem dX10_feed_25 : decode cX10_feed 25 = .ok (.bipush 12, 2) := by decide +kernel
theorem dX10_feed_27 : decode cX10_feed 27 = .ok (.iload 4, 2) := by decide +kernel
theorem dX10_feed_29 : decode cX10_feed 29 = .ok (.invokevirtual 65, 3) := by decide +kernel
theorem dX10_feed_32 : decode cX10_feed 32 = .ok (.aload_n 0, 1) := by decide +kernel
theorem dX10_feed_33 : decode cX10_feed 33 = .ok (.bipush 16, 2) := by decide +kernel
theorem dX10_feed_35 : decode cX10_feed 35 = .ok (.iload 5, 2) := by decide +kernel
theorem dX10_feed_37 : decode cX10_feed 37 = .ok (.invokevirtual 65, 3) := by decide +kernel
theorem dX10_feed_40 : decode cX10_feed 40 = .ok (.return_, 1) := by decide +kernel
theorem dX10_end_0 : decode cX10_end 0 = .ok (.aload_n 0, 1) := by decide +kernel
theorem dX10_end_1 : decode cX10_end 1 = .ok (.iconst 0, 1) := by decide +kernel
theorem dX10_end_2 : decode cX10_end 2 = .ok (.putfield 62, 3) := by decide +kernel
theorem dX10_end_5 : decode cX10_end 5 = .ok (.iload_n 1, 1) := by decide +kernel
theorem dX10_end_6 : decode cX10_end 6 = .ok (.ifCond .lt 21, 3) := by decide +kernel
theorem dX10_end_9 : decode cX10_end 9 = .ok (.iload_n 1, 1) := by decide +kernel
theorem dX10_end_10 : decode cX10_end 10 = .ok (.bipush 20, 2) := by decide +kernel
theorem dX10_end_12 : decode cX10_end 12 = .ok (.if_icmp .gt 15, 3) := by decide +kernel
theorem dX10_end_15 : decode cX10_end 15 = .ok (.aload_n 0, 1) := by decide +kernel
theorem dX10_end_16 : decode cX10_end 16 = .ok (.getfield 69, 3) := by decide +kernel
theorem dX10_end_19 : decode cX10_end 19 = .ok (.iload_n 1, 1) := by decide +kernel
theorem dX10_end_20 : decode cX10_end 20 = .ok (.iadd, 1) := by decide +kernel
theorem dX10_end_21 : decode cX10_end 21 = .ok (.sipush 3000, 3) := by decide +kernel
theorem dX10_end_24 : decode cX10_end 24 = .ok (.if_icmp .le 5, 3) := by decide +kernel
theorem dX10_end_27 : decode cX10_end 27 = .ok (.iconst (-1), 1) := by decide +kernel
theorem dX10_end_28 : decode cX10_end 28 = .ok (.ireturn, 1) := by decide +kernel
theorem dX10_end_29 : decode cX10_end 29 = .ok (.iconst 0, 1) := by decide +kernel
theorem dX10_end_30 : decode cX10_end 30 = .ok (.istore_n 2, 1) := by decide +kernel
theorem dX10_end_31 : decode cX10_end 31 = .ok (.iload_n 2, 1) := by decide +kernel
theorem dX10_end_32 : decode cX10_end 32 = .ok (.iload_n 1, 1) := by decide +kernel
theorem dX10_end_33 : decode cX10_end 33 = .ok (.if_icmp .ge 26, 3) := by decide +kernel
theorem dX10_end_36 : decode cX10_end 36 = .ok (.aload_n 0, 1) := by decide +kernel
theorem dX10_end_37 : decode cX10_end 37 = .ok (.getfield 13, 3) := by decide +kernel
theorem dX10_end_40 : decode cX10_end 40 = .ok (.aload_n 0, 1) := by decide +kernel
theorem dX10_end_41 : decode cX10_end 41 = .ok (.getfield 69, 3) := by decide +kernel
theorem dX10_end_44 : decode cX10_end 44 = .ok (.iload_n 2, 1) := by decide +kernel
theorem dX10_end_45 : decode cX10_end 45 = .ok (.iadd, 1) := by decide +kernel
theorem dX10_end_46 : decode cX10_end 46 = .ok (.aload_n 0, 1) := by decide +kernel
theorem dX10_end_47 : decode cX10_end 47 = .ok (.getfield 7, 3) := by decide +kernel
theorem dX10_end_50 : decode cX10_end 50 = .ok (.iload_n 2, 1) := by decide +kernel
theorem dX10_end_51 : decode cX10_end 51 = .ok (.iaload, 1) := by decide +kernel
theorem dX10_end_52 : decode cX10_end 52 = .ok (.iastore, 1) := by decide +kernel
theorem dX10_end_53 : decode cX10_end 53 = .ok (.iinc 2 1, 3) := by decide +kernel
theorem dX10_end_56 : decode cX10_end 56 = .ok (.goto (-25), 3) := by decide +kernel
theorem dX10_end_59 : decode cX10_end 59 = .ok (.iconst 0, 1) := by decide +kernel
theorem dX10_end_60 : decode cX10_end 60 = .ok (.istore_n 2, 1) := by decide +kernel
theorem dX10_end_61 : decode cX10_end 61 = .ok (.iload_n 2, 1) := by decide +kernel
theorem dX10_end_62 : decode cX10_end 62 = .ok (.bipush 20, 2) := by decide +kernel
theorem dX10_end_64 : decode cX10_end 64 = .ok (.if_icmp .ge 16, 3) := by decide +kernel
theorem dX10_end_67 : decode cX10_end 67 = .ok (.aload_n 0, 1) := by decide +kernel
theorem dX10_end_68 : decode cX10_end 68 = .ok (.getfield 7, 3) := by decide +kernel
theorem dX10_end_71 : decode cX10_end 71 = .ok (.iload_n 2, 1) := by decide +kernel
theorem dX10_end_72 : decode cX10_end 72 = .ok (.iconst 0, 1) := by decide +kernel
theorem dX10_end_73 : decode cX10_end 73 = .ok (.iastore, 1) := by decide +kernel
theorem dX10_end_74 : decode cX10_end 74 = .ok (.iinc 2 1, 3) := by decide +kernel
theorem dX10_end_77 : decode cX10_end 77 = .ok (.goto (-16), 3) := by decide +kernel
theorem dX10_end_80 : decode cX10_end 80 = .ok (.aload_n 0, 1) := by decide +kernel
theorem dX10_end_81 : decode cX10_end 81 = .ok (.dup, 1) := by decide +kernel
theorem dX10_end_82 : decode cX10_end 82 = .ok (.getfield 69, 3) := by decide +kernel
theorem dX10_end_85 : decode cX10_end 85 = .ok (.iload_n 1, 1) := by decide +kernel
theorem dX10_end_86 : decode cX10_end 86 = .ok (.iadd, 1) := by decide +kernel
theorem dX10_end_87 : decode cX10_end 87 = .ok (.putfield 69, 3) := by decide +kernel
theorem dX10_end_90 : decode cX10_end 90 = .ok (.aload_n 0, 1) := by decide +kernel
theorem dX10_end_91 : decode cX10_end 91 = .ok (.getfield 69, 3) := by decide +kernel
theorem dX10_end_94 : decode cX10_end 94 = .ok (.ireturn, 1) := by decide +kernel
theorem dX10_at_0 : decode cX10_at 0 = .ok (.iload_n 1, 1) := by decide +kernel
theorem dX10_at_1 : decode cX10_at 1 = .ok (.aload_n 0, 1) := by decide +kernel
theorem dX10_at_2 : decode cX10_at 2 = .ok (.getfield 69, 3) := by decide +kernel
theorem dX10_at_5 : decode cX10_at 5 = .ok (.if_icmp .ge 12, 3) := by decide +kernel
theorem dX10_at_8 : decode cX10_at 8 = .ok (.aload_n 0, 1) := by decide +kernel
theorem dX10_at_9 : decode cX10_at 9 = .ok (.getfield 13, 3) := by decide +kernel
theorem dX10_at_12 : decode cX10_at 12 = .ok (.iload_n 1, 1) := by decide +kernel
theorem dX10_at_13 : decode cX10_at 13 = .ok (.iaload, 1) := by decide +kernel
theorem dX10_at_14 : decode cX10_at 14 = .ok (.goto 5, 3) := by decide +kernel
theorem dX10_at_17 : decode cX10_at 17 = .ok (.bipush 10, 2) := by decide +kernel
theorem dX10_at_19 : decode cX10_at 19 = .ok (.ireturn, 1) := by decide +kernel
theorem dX10_isDigit_0 : decode cX10_isDigit 0 = .ok (.iload_n 0, 1) := by decide +kernel
theorem dX10_isDigit_1 : decode cX10_isDigit 1 = .ok (.bipush 48, 2) := by decide +kernel
theorem dX10_isDigit_3 : decode cX10_isDigit 3 = .ok (.if_icmp .lt 13, 3) := by decide +kernel
theorem dX10_isDigit_6 : decode cX10_isDigit 6 = .ok (.iload_n 0, 1) := by decide +kernel
theorem dX10_isDigit_7 : decode cX10_isDigit 7 = .ok (.bipush 57, 2) := by decide +kernel
theorem dX10_isDigit_9 : decode cX10_isDigit 9 = .ok (.if_icmp .gt 7, 3) := by decide +kernel
theorem dX10_isDigit_12 : decode cX10_isDigit 12 = .ok (.iconst 1, 1) := by decide +kernel
theorem dX10_isDigit_13 : decode cX10_isDigit 13 = .ok (.goto 4, 3) := by decide +kernel
theorem dX10_isDigit_16 : decode cX10_isDigit 16 = .ok (.iconst 0, 1) := by decide +kernel
theorem dX10_isDigit_17 : decode cX10_isDigit 17 = .ok (.ireturn, 1) := by decide +kernel
theorem dX10_isLetter_0 : decode cX10_isLetter 0 = .ok (.iload_n 0, 1) := by decide +kernel
theorem dX10_isLetter_1 : decode cX10_isLetter 1 = .ok (.bipush 97, 2) := by decide +kernel
theorem dX10_isLetter_3 : decode cX10_isLetter 3 = .ok (.if_icmp .lt 9, 3) := by decide +kernel
theorem dX10_isLetter_6 : decode cX10_isLetter 6 = .ok (.iload_n 0, 1) := by decide +kernel
theorem dX10_isLetter_7 : decode cX10_isLetter 7 = .ok (.bipush 122, 2) := by decide +kernel
theorem dX10_isLetter_9 : decode cX10_isLetter 9 = .ok (.if_icmp .le 27, 3) := by decide +kernel
theorem dX10_isLetter_12 : decode cX10_isLetter 12 = .ok (.iload_n 0, 1) := by decide +kernel
theorem dX10_isLetter_13 : decode cX10_isLetter 13 = .ok (.bipush 65, 2) := by decide +kernel
theorem dX10_isLetter_15 : decode cX10_isLetter 15 = .ok (.if_icmp .lt 9, 3) := by decide +kernel
theorem dX10_isLetter_18 : decode cX10_isLetter 18 = .ok (.iload_n 0, 1) := by decide +kernel
theorem dX10_isLetter_19 : decode cX10_isLetter 19 = .ok (.bipush 90, 2) := by decide +kernel
theorem dX10_isLetter_21 : decode cX10_isLetter 21 = .ok (.if_icmp .le 15, 3) := by decide +kernel
theorem dX10_isLetter_24 : decode cX10_isLetter 24 = .ok (.iload_n 0, 1) := by decide +kernel
theorem dX10_isLetter_25 : decode cX10_isLetter 25 = .ok (.bipush 95, 2) := by decide +kernel
theorem dX10_isLetter_27 : decode cX10_isLetter 27 = .ok (.if_icmp .eq 9, 3) := by decide +kernel
theorem dX10_isLetter_30 : decode cX10_isLetter 30 = .ok (.iload_n 0, 1) := by decide +kernel
theorem dX10_isLetter_31 : decode cX10_isLetter 31 = .ok (.bipush 46, 2) := by decide +kernel
theorem dX10_isLetter_33 : decode cX10_isLetter 33 = .ok (.if_icmp .ne 7, 3) := by decide +kernel
theorem dX10_isLetter_36 : decode cX10_isLetter 36 = .ok (.iconst 1, 1) := by decide +kernel
theorem dX10_isLetter_37 : decode cX10_isLetter 37 = .ok (.goto 4, 3) := by decide +kernel
theorem dX10_isLetter_40 : decode cX10_isLetter 40 = .ok (.iconst 0, 1) := by decide +kernel
theorem dX10_isLetter_41 : decode cX10_isLetter 41 = .ok (.ireturn, 1) := by decide +kernel
theorem dX10_isInName_0 : decode cX10_isInName 0 = .ok (.iload_n 0, 1) := by decide +kernel
theorem dX10_isInName_1 : decode cX10_isInName 1 = .ok (.invokestatic 72, 3) := by decide +kernel
theorem dX10_isInName_4 : decode cX10_isInName 4 = .ok (.ifCond .ne 16, 3) := by decide +kernel
theorem dX10_isInName_7 : decode cX10_isInName 7 = .ok (.iload_n 0, 1) := by decide +kernel
theorem dX10_isInName_8 : decode cX10_isInName 8 = .ok (.invokestatic 76, 3) := by decide +kernel
theorem dX10_isInName_11 : decode cX10_isInName 11 = .ok (.ifCond .ne 9, 3) := by decide +kernel
theorem dX10_isInName_14 : decode cX10_isInName 14 = .ok (.iload_n 0, 1) := by decide +kernel
theorem dX10_isInName_15 : decode cX10_isInName 15 = .ok (.bipush 36, 2) := by decide +kernel
theorem dX10_isInName_17 : decode cX10_isInName 17 = .ok (.if_icmp .ne 7, 3) := by decide +kernel
theorem dX10_isInName_20 : decode cX10_isInName 20 = .ok (.iconst 1, 1) := by decide +kernel
theorem dX10_isInName_21 : decode cX10_isInName 21 = .ok (.goto 4, 3) := by decide +kernel
theorem dX10_isInName_24 : decode cX10_isInName 24 = .ok (.iconst 0, 1) := by decide +kernel
theorem dX10_isInName_25 : decode cX10_isInName 25 = .ok (.ireturn, 1) := by decide +kernel
theorem dX10_digitOf_0 : decode cX10_digitOf 0 = .ok (.iload_n 0, 1) := by decide +kernel
theorem dX10_digitOf_1 : decode cX10_digitOf 1 = .ok (.invokestatic 76, 3) := by decide +kernel
theorem dX10_digitOf_4 : decode cX10_digitOf 4 = .ok (.ifCond .eq 8, 3) := by decide +kernel
theorem dX10_digitOf_7 : decode cX10_digitOf 7 = .ok (.iload_n 0, 1) := by decide +kernel
theorem dX10_digitOf_8 : decode cX10_digitOf 8 = .ok (.bipush 48, 2) := by decide +kernel
theorem dX10_digitOf_10 : decode cX10_digitOf 10 = .ok (.isub, 1) := by decide +kernel
theorem dX10_digitOf_11 : decode cX10_digitOf 11 = .ok (.ireturn, 1) := by decide +kernel
theorem dX10_digitOf_12 : decode cX10_digitOf 12 = .ok (.iload_n 0, 1) := by decide +kernel
theorem dX10_digitOf_13 : decode cX10_digitOf 13 = .ok (.bipush 97, 2) := by decide +kernel
theorem dX10_digitOf_15 : decode cX10_digitOf 15 = .ok (.if_icmp .lt 16, 3) := by decide +kernel
theorem dX10_digitOf_18 : decode cX10_digitOf 18 = .ok (.iload_n 0, 1) := by decide +kernel
theorem dX10_digitOf_19 : decode cX10_digitOf 19 = .ok (.bipush 102, 2) := by decide +kernel
theorem dX10_digitOf_21 : decode cX10_digitOf 21 = .ok (.if_icmp .gt 10, 3) := by decide +kernel
theorem dX10_digitOf_24 : decode cX10_digitOf 24 = .ok (.iload_n 0, 1) := by decide +kernel
theorem dX10_digitOf_25 : decode cX10_digitOf 25 = .ok (.bipush 87, 2) := by decide +kernel
theorem dX10_digitOf_27 : decode cX10_digitOf 27 = .ok (.isub, 1) := by decide +kernel
theorem dX10_digitOf_28 : decode cX10_digitOf 28 = .ok (.goto 24, 3) := by decide +kernel
theorem dX10_digitOf_31 : decode cX10_digitOf 31 = .ok (.iload_n 0, 1) := by decide +kernel
theorem dX10_digitOf_32 : decode cX10_digitOf 32 = .ok (.bipush 65, 2) := by decide +kernel
theorem dX10_digitOf_34 : decode cX10_digitOf 34 = .ok (.if_icmp .lt 16, 3) := by decide +kernel
theorem dX10_digitOf_37 : decode cX10_digitOf 37 = .ok (.iload_n 0, 1) := by decide +kernel
theorem dX10_digitOf_38 : decode cX10_digitOf 38 = .ok (.bipush 70, 2) := by decide +kernel
theorem dX10_digitOf_40 : decode cX10_digitOf 40 = .ok (.if_icmp .gt 10, 3) := by decide +kernel
theorem dX10_digitOf_43 : decode cX10_digitOf 43 = .ok (.iload_n 0, 1) := by decide +kernel
theorem dX10_digitOf_44 : decode cX10_digitOf 44 = .ok (.bipush 55, 2) := by decide +kernel
theorem dX10_digitOf_46 : decode cX10_digitOf 46 = .ok (.isub, 1) := by decide +kernel
theorem dX10_digitOf_47 : decode cX10_digitOf 47 = .ok (.goto 5, 3) := by decide +kernel
theorem dX10_digitOf_50 : decode cX10_digitOf 50 = .ok (.bipush 99, 2) := by decide +kernel
theorem dX10_digitOf_52 : decode cX10_digitOf 52 = .ok (.ireturn, 1) := by decide +kernel
theorem dX10_bad_0 : decode cX10_bad 0 = .ok (.aload_n 0, 1) := by decide +kernel
theorem dX10_bad_1 : decode cX10_bad 1 = .ok (.bipush 6, 2) := by decide +kernel
theorem dX10_bad_3 : decode cX10_bad 3 = .ok (.putfield 79, 3) := by decide +kernel
theorem dX10_bad_6 : decode cX10_bad 6 = .ok (.aload_n 0, 1) := by decide +kernel
theorem dX10_bad_7 : decode cX10_bad 7 = .ok (.iload_n 1, 1) := by decide +kernel
theorem dX10_bad_8 : decode cX10_bad 8 = .ok (.putfield 82, 3) := by decide +kernel
theorem dX10_bad_11 : decode cX10_bad 11 = .ok (.aload_n 0, 1) := by decide +kernel
theorem dX10_bad_12 : decode cX10_bad 12 = .ok (.iload_n 2, 1) := by decide +kernel
theorem dX10_bad_13 : decode cX10_bad 13 = .ok (.putfield 85, 3) := by decide +kernel
theorem dX10_bad_16 : decode cX10_bad 16 = .ok (.return_, 1) := by decide +kernel
theorem dX10_next_0 : decode cX10_next 0 = .ok (.aload_n 0, 1) := by decide +kernel
theorem dX10_next_1 : decode cX10_next 1 = .ok (.getfield 88, 3) := by decide +kernel
theorem dX10_next_4 : decode cX10_next 4 = .ok (.istore_n 1, 1) := by decide +kernel
theorem dX10_next_5 : decode cX10_next 5 = .ok (.iload_n 1, 1) := by decide +kernel
theorem dX10_next_6 : decode cX10_next 6 = .ok (.aload_n 0, 1) := by decide +kernel
theorem dX10_next_7 : decode cX10_next 7 = .ok (.getfield 69, 3) := by decide +kernel
theorem dX10_next_10 : decode cX10_next 10 = .ok (.if_icmp .ge 31, 3) := by decide +kernel
theorem dX10_next_13 : decode cX10_next 13 = .ok (.aload_n 0, 1) := by decide +kernel
theorem dX10_next_14 : decode cX10_next 14 = .ok (.getfield 13, 3) := by decide +kernel
theorem dX10_next_17 : decode cX10_next 17 = .ok (.iload_n 1, 1) := by decide +kernel
theorem dX10_next_18 : decode cX10_next 18 = .ok (.iaload, 1) := by decide +kernel
theorem dX10_next_19 : decode cX10_next 19 = .ok (.bipush 32, 2) := by decide +kernel
theorem dX10_next_21 : decode cX10_next 21 = .ok (.if_icmp .eq 14, 3) := by decide +kernel
theorem dX10_next_24 : decode cX10_next 24 = .ok (.aload_n 0, 1) := by decide +kernel
theorem dX10_next_25 : decode cX10_next 25 = .ok (.getfield 13, 3) := by decide +kernel
theorem dX10_next_28 : decode cX10_next 28 = .ok (.iload_n 1, 1) := by decide +kernel
theorem dX10_next_29 : decode cX10_next 29 = .ok (.iaload, 1) := by decide +kernel
theorem dX10_next_30 : decode cX10_next 30 = .ok (.bipush 9, 2) := by decide +kernel
theorem dX10_next_32 : decode cX10_next 32 = .ok (.if_icmp .ne 9, 3) := by decide +kernel
theorem dX10_next_35 : decode cX10_next 35 = .ok (.iinc 1 1, 3) := by decide +kernel
theorem dX10_next_38 : decode cX10_next 38 = .ok (.goto (-33), 3) := by decide +kernel
theorem dX10_next_41 : decode cX10_next 41 = .ok (.iload_n 1, 1) := by decide +kernel
theorem dX10_next_42 : decode cX10_next 42 = .ok (.aload_n 0, 1) := by decide +kernel
theorem dX10_next_43 : decode cX10_next 43 = .ok (.getfield 69, 3) := by decide +kernel
theorem dX10_next_46 : decode cX10_next 46 = .ok (.if_icmp .ge 79, 3) := by decide +kernel
theorem dX10_next_49 : decode cX10_next 49 = .ok (.aload_n 0, 1) := by decide +kernel
theorem dX10_next_50 : decode cX10_next 50 = .ok (.getfield 13, 3) := by decide +kernel
theorem dX10_next_53 : decode cX10_next 53 = .ok (.iload_n 1, 1) := by decide +kernel
theorem dX10_next_54 : decode cX10_next 54 = .ok (.iaload, 1) := by decide +kernel
theorem dX10_next_55 : decode cX10_next 55 = .ok (.bipush 35, 2) := by decide +kernel
theorem dX10_next_57 : decode cX10_next 57 = .ok (.if_icmp .ne 68, 3) := by decide +kernel
theorem dX10_next_60 : decode cX10_next 60 = .ok (.iload_n 1, 1) := by decide +kernel
theorem dX10_next_61 : decode cX10_next 61 = .ok (.aload_n 0, 1) := by decide +kernel
theorem dX10_next_62 : decode cX10_next 62 = .ok (.getfield 69, 3) := by decide +kernel
theorem dX10_next_65 : decode cX10_next 65 = .ok (.if_icmp .ge 60, 3) := by decide +kernel
theorem dX10_next_68 : decode cX10_next 68 = .ok (.aload_n 0, 1) := by decide +kernel
theorem dX10_next_69 : decode cX10_next 69 = .ok (.getfield 13, 3) := by decide +kernel
theorem dX10_next_72 : decode cX10_next 72 = .ok (.iload_n 1, 1) := by decide +kernel
theorem dX10_next_73 : decode cX10_next 73 = .ok (.iaload, 1) := by decide +kernel
theorem dX10_next_74 : decode cX10_next 74 = .ok (.bipush 10, 2) := by decide +kernel
theorem dX10_next_76 : decode cX10_next 76 = .ok (.if_icmp .eq 49, 3) := by decide +kernel
theorem dX10_next_79 : decode cX10_next 79 = .ok (.aload_n 0, 1) := by decide +kernel
theorem dX10_next_80 : decode cX10_next 80 = .ok (.getfield 13, 3) := by decide +kernel
theorem dX10_next_83 : decode cX10_next 83 = .ok (.iload_n 1, 1) := by decide +kernel
theorem dX10_next_84 : decode cX10_next 84 = .ok (.iaload, 1) := by decide +kernel
theorem dX10_next_85 : decode cX10_next 85 = .ok (.bipush 32, 2) := by decide +kernel
theorem dX10_next_87 : decode cX10_next 87 = .ok (.if_icmp .lt 14, 3) := by decide +kernel
theorem dX10_next_90 : decode cX10_next 90 = .ok (.aload_n 0, 1) := by decide +kernel
theorem dX10_next_91 : decode cX10_next 91 = .ok (.getfield 13, 3) := by decide +kernel
theorem dX10_next_94 : decode cX10_next 94 = .ok (.iload_n 1, 1) := by decide +kernel
theorem dX10_next_95 : decode cX10_next 95 = .ok (.iaload, 1) := by decide +kernel
theorem dX10_next_96 : decode cX10_next 96 = .ok (.bipush 126, 2) := by decide +kernel
theorem dX10_next_98 : decode cX10_next 98 = .ok (.if_icmp .le 21, 3) := by decide +kernel
theorem dX10_next_101 : decode cX10_next 101 = .ok (.aload_n 0, 1) := by decide +kernel
theorem dX10_next_102 : decode cX10_next 102 = .ok (.getfield 13, 3) := by decide +kernel
theorem dX10_next_105 : decode cX10_next 105 = .ok (.iload_n 1, 1) := by decide +kernel
theorem dX10_next_106 : decode cX10_next 106 = .ok (.iaload, 1) := by decide +kernel
theorem dX10_next_107 : decode cX10_next 107 = .ok (.bipush 9, 2) := by decide +kernel
theorem dX10_next_109 : decode cX10_next 109 = .ok (.if_icmp .eq 10, 3) := by decide +kernel
theorem dX10_next_112 : decode cX10_next 112 = .ok (.aload_n 0, 1) := by decide +kernel
theorem dX10_next_113 : decode cX10_next 113 = .ok (.iconst 1, 1) := by decide +kernel
theorem dX10_next_114 : decode cX10_next 114 = .ok (.iload_n 1, 1) := by decide +kernel
theorem dX10_next_115 : decode cX10_next 115 = .ok (.invokevirtual 91, 3) := by decide +kernel
theorem dX10_next_118 : decode cX10_next 118 = .ok (.return_, 1) := by decide +kernel
theorem dX10_next_119 : decode cX10_next 119 = .ok (.iinc 1 1, 3) := by decide +kernel
theorem dX10_next_122 : decode cX10_next 122 = .ok (.goto (-62), 3) := by decide +kernel
theorem dX10_next_125 : decode cX10_next 125 = .ok (.aload_n 0, 1) := by decide +kernel
theorem dX10_next_126 : decode cX10_next 126 = .ok (.iload_n 1, 1) := by decide +kernel
theorem dX10_next_127 : decode cX10_next 127 = .ok (.putfield 85, 3) := by decide +kernel
theorem dX10_next_130 : decode cX10_next 130 = .ok (.aload_n 0, 1) := by decide +kernel
theorem dX10_next_131 : decode cX10_next 131 = .ok (.iload_n 1, 1) := by decide +kernel
theorem dX10_next_132 : decode cX10_next 132 = .ok (.putfield 88, 3) := by decide +kernel
theorem dX10_next_135 : decode cX10_next 135 = .ok (.iload_n 1, 1) := by decide +kernel
theorem dX10_next_136 : decode cX10_next 136 = .ok (.aload_n 0, 1) := by decide +kernel
theorem dX10_next_137 : decode cX10_next 137 = .ok (.getfield 69, 3) := by decide +kernel
theorem dX10_next_140 : decode cX10_next 140 = .ok (.if_icmp .eq 14, 3) := by decide +kernel
theorem dX10_next_143 : decode cX10_next 143 = .ok (.aload_n 0, 1) := by decide +kernel
theorem dX10_next_144 : decode cX10_next 144 = .ok (.getfield 13, 3) := by decide +kernel
theorem dX10_next_147 : decode cX10_next 147 = .ok (.iload_n 1, 1) := by decide +kernel
theorem dX10_next_148 : decode cX10_next 148 = .ok (.iaload, 1) := by decide +kernel
theorem dX10_next_149 : decode cX10_next 149 = .ok (.bipush 10, 2) := by decide +kernel
theorem dX10_next_151 : decode cX10_next 151 = .ok (.if_icmp .ne 9, 3) := by decide +kernel
theorem dX10_next_154 : decode cX10_next 154 = .ok (.aload_n 0, 1) := by decide +kernel
theorem dX10_next_155 : decode cX10_next 155 = .ok (.iconst 0, 1) := by decide +kernel
theorem dX10_next_156 : decode cX10_next 156 = .ok (.putfield 79, 3) := by decide +kernel
theorem dX10_next_159 : decode cX10_next 159 = .ok (.return_, 1) := by decide +kernel
theorem dX10_next_160 : decode cX10_next 160 = .ok (.aload_n 0, 1) := by decide +kernel
theorem dX10_next_161 : decode cX10_next 161 = .ok (.getfield 13, 3) := by decide +kernel
theorem dX10_next_164 : decode cX10_next 164 = .ok (.iload_n 1, 1) := by decide +kernel
theorem dX10_next_165 : decode cX10_next 165 = .ok (.iaload, 1) := by decide +kernel
theorem dX10_next_166 : decode cX10_next 166 = .ok (.istore_n 2, 1) := by decide +kernel
theorem dX10_next_167 : decode cX10_next 167 = .ok (.iload_n 2, 1) := by decide +kernel
theorem dX10_next_168 : decode cX10_next 168 = .ok (.invokestatic 72, 3) := by decide +kernel
theorem dX10_next_171 : decode cX10_next 171 = .ok (.ifCond .eq 10, 3) := by decide +kernel
theorem dX10_next_174 : decode cX10_next 174 = .ok (.aload_n 0, 1) := by decide +kernel
theorem dX10_next_175 : decode cX10_next 175 = .ok (.invokevirtual 94, 3) := by decide +kernel
theorem dX10_next_178 : decode cX10_next 178 = .ok (.goto 48, 3) := by decide +kernel
theorem dX10_next_181 : decode cX10_next 181 = .ok (.iload_n 2, 1) := by decide +kernel
theorem dX10_next_182 : decode cX10_next 182 = .ok (.invokestatic 76, 3) := by decide +kernel
theorem dX10_next_185 : decode cX10_next 185 = .ok (.ifCond .eq 10, 3) := by decide +kernel
theorem dX10_next_188 : decode cX10_next 188 = .ok (.aload_n 0, 1) := by decide +kernel
theorem dX10_next_189 : decode cX10_next 189 = .ok (.invokevirtual 97, 3) := by decide +kernel
theorem dX10_next_192 : decode cX10_next 192 = .ok (.goto 34, 3) := by decide +kernel
theorem dX10_next_195 : decode cX10_next 195 = .ok (.iload_n 2, 1) := by decide +kernel
theorem dX10_next_196 : decode cX10_next 196 = .ok (.bipush 39, 2) := by decide +kernel
theorem dX10_next_198 : decode cX10_next 198 = .ok (.if_icmp .ne 10, 3) := by decide +kernel
theorem dX10_next_201 : decode cX10_next 201 = .ok (.aload_n 0, 1) := by decide +kernel
theorem dX10_next_202 : decode cX10_next 202 = .ok (.invokevirtual 100, 3) := by decide +kernel
theorem dX10_next_205 : decode cX10_next 205 = .ok (.goto 21, 3) := by decide +kernel
theorem dX10_next_208 : decode cX10_next 208 = .ok (.iload_n 2, 1) := by decide +kernel
theorem dX10_next_209 : decode cX10_next 209 = .ok (.bipush 34, 2) := by decide +kernel
theorem dX10_next_211 : decode cX10_next 211 = .ok (.if_icmp .ne 10, 3) := by decide +kernel
theorem dX10_next_214 : decode cX10_next 214 = .ok (.aload_n 0, 1) := by decide +kernel
theorem dX10_next_215 : decode cX10_next 215 = .ok (.invokevirtual 103, 3) := by decide +kernel
theorem dX10_next_218 : decode cX10_next 218 = .ok (.goto 8, 3) := by decide +kernel
theorem dX10_next_221 : decode cX10_next 221 = .ok (.aload_n 0, 1) := by decide +kernel
theorem dX10_next_222 : decode cX10_next 222 = .ok (.iload_n 2, 1) := by decide +kernel
theorem dX10_next_223 : decode cX10_next 223 = .ok (.invokevirtual 106, 3) := by decide +kernel
theorem dX10_next_226 : decode cX10_next 226 = .ok (.return_, 1) := by decide +kernel
theorem dX10_nameWord_0 : decode cX10_nameWord 0 = .ok (.aload_n 0, 1) := by decide +kernel
theorem dX10_nameWord_1 : decode cX10_nameWord 1 = .ok (.getfield 88, 3) := by decide +kernel
theorem dX10_nameWord_4 : decode cX10_nameWord 4 = .ok (.aload_n 0, 1) := by decide +kernel
theorem dX10_nameWord_5 : decode cX10_nameWord 5 = .ok (.getfield 69, 3) := by decide +kernel
theorem dX10_nameWord_8 : decode cX10_nameWord 8 = .ok (.if_icmp .ge 31, 3) := by decide +kernel
theorem dX10_nameWord_11 : decode cX10_nameWord 11 = .ok (.aload_n 0, 1) := by decide +kernel
theorem dX10_nameWord_12 : decode cX10_nameWord 12 = .ok (.getfield 13, 3) := by decide +kernel
theorem dX10_nameWord_15 : decode cX10_nameWord 15 = .ok (.aload_n 0, 1) := by decide +kernel
theorem dX10_nameWord_16 : decode cX10_nameWord 16 = .ok (.getfield 88, 3) := by decide +kernel
theorem dX10_nameWord_19 : decode cX10_nameWord 19 = .ok (.iaload, 1) := by decide +kernel
theorem dX10_nameWord_20 : decode cX10_nameWord 20 = .ok (.invokestatic 110, 3) := by decide +kernel
theorem dX10_nameWord_23 : decode cX10_nameWord 23 = .ok (.ifCond .eq 16, 3) := by decide +kernel
theorem dX10_nameWord_26 : decode cX10_nameWord 26 = .ok (.aload_n 0, 1) := by decide +kernel
theorem dX10_nameWord_27 : decode cX10_nameWord 27 = .ok (.dup, 1) := by decide +kernel
theorem dX10_nameWord_28 : decode cX10_nameWord 28 = .ok (.getfield 88, 3) := by decide +kernel
theorem dX10_nameWord_31 : decode cX10_nameWord 31 = .ok (.iconst 1, 1) := by decide +kernel
theorem dX10_nameWord_32 : decode cX10_nameWord 32 = .ok (.iadd, 1) := by decide +kernel
theorem dX10_nameWord_33 : decode cX10_nameWord 33 = .ok (.putfield 88, 3) := by decide +kernel
theorem dX10_nameWord_36 : decode cX10_nameWord 36 = .ok (.goto (-36), 3) := by decide +kernel
theorem dX10_nameWord_39 : decode cX10_nameWord 39 = .ok (.aload_n 0, 1) := by decide +kernel
theorem dX10_nameWord_40 : decode cX10_nameWord 40 = .ok (.aload_n 0, 1) := by decide +kernel
theorem dX10_nameWord_41 : decode cX10_nameWord 41 = .ok (.getfield 88, 3) := by decide +kernel
theorem dX10_nameWord_44 : decode cX10_nameWord 44 = .ok (.aload_n 0, 1) := by decide +kernel
theorem dX10_nameWord_45 : decode cX10_nameWord 45 = .ok (.getfield 85, 3) := by decide +kernel
theorem dX10_nameWord_48 : decode cX10_nameWord 48 = .ok (.isub, 1) := by decide +kernel
theorem dX10_nameWord_49 : decode cX10_nameWord 49 = .ok (.iconst 1, 1) := by decide +kernel
theorem dX10_nameWord_50 : decode cX10_nameWord 50 = .ok (.if_icmp .ne 22, 3) := by decide +kernel
theorem dX10_nameWord_53 : decode cX10_nameWord 53 = .ok (.aload_n 0, 1) := by decide +kernel
theorem dX10_nameWord_54 : decode cX10_nameWord 54 = .ok (.getfield 13, 3) := by decide +kernel
theorem dX10_nameWord_57 : decode cX10_nameWord 57 = .ok (.aload_n 0, 1) := by decide +kernel
theorem dX10_nameWord_58 : decode cX10_nameWord 58 = .ok (.getfield 85, 3) := by decide +kernel
theorem dX10_nameWord_61 : decode cX10_nameWord 61 = .ok (.iaload, 1) := by decide +kernel
theorem dX10_nameWord_62 : decode cX10_nameWord 62 = .ok (.bipush 46, 2) := by decide +kernel
theorem dX10_nameWord_64 : decode cX10_nameWord 64 = .ok (.if_icmp .ne 8, 3) := by decide +kernel
theorem dX10_nameWord_67 : decode cX10_nameWord 67 = .ok (.bipush 7, 2) := by decide +kernel
theorem dX10_nameWord_69 : decode cX10_nameWord 69 = .ok (.goto 4, 3) := by decide +kernel
theorem dX10_nameWord_72 : decode cX10_nameWord 72 = .ok (.iconst 1, 1) := by decide +kernel
theorem dX10_nameWord_73 : decode cX10_nameWord 73 = .ok (.putfield 79, 3) := by decide +kernel
theorem dX10_nameWord_76 : decode cX10_nameWord 76 = .ok (.aload_n 0, 1) := by decide +kernel
theorem dX10_nameWord_77 : decode cX10_nameWord 77 = .ok (.getfield 88, 3) := by decide +kernel
theorem dX10_nameWord_80 : decode cX10_nameWord 80 = .ok (.aload_n 0, 1) := by decide +kernel
theorem dX10_nameWord_81 : decode cX10_nameWord 81 = .ok (.getfield 85, 3) := by decide +kernel
theorem dX10_nameWord_84 : decode cX10_nameWord 84 = .ok (.isub, 1) := by decide +kernel
theorem dX10_nameWord_85 : decode cX10_nameWord 85 = .ok (.bipush 16, 2) := by decide +kernel
theorem dX10_nameWord_87 : decode cX10_nameWord 87 = .ok (.if_icmp .le 12, 3) := by decide +kernel
theorem dX10_nameWord_90 : decode cX10_nameWord 90 = .ok (.aload_n 0, 1) := by decide +kernel
theorem dX10_nameWord_91 : decode cX10_nameWord 91 = .ok (.iconst 2, 1) := by decide +kernel
theorem dX10_nameWord_92 : decode cX10_nameWord 92 = .ok (.aload_n 0, 1) := by decide +kernel
theorem dX10_nameWord_93 : decode cX10_nameWord 93 = .ok (.getfield 85, 3) := by decide +kernel
theorem dX10_nameWord_96 : decode cX10_nameWord 96 = .ok (.invokevirtual 91, 3) := by decide +kernel
theorem dX10_nameWord_99 : decode cX10_nameWord 99 = .ok (.return_, 1) := by decide +kernel
theorem dX10_numberWord_0 : decode cX10_numberWord 0 = .ok (.bipush 10, 2) := by decide +kernel
theorem dX10_numberWord_2 : decode cX10_numberWord 2 = .ok (.istore_n 1, 1) := by decide +kernel
theorem dX10_numberWord_3 : decode cX10_numberWord 3 = .ok (.aload_n 0, 1) := by decide +kernel
theorem dX10_numberWord_4 : decode cX10_numberWord 4 = .ok (.getfield 13, 3) := by decide +kernel
theorem dX10_numberWord_7 : decode cX10_numberWord 7 = .ok (.aload_n 0, 1) := by decide +kernel
theorem dX10_numberWord_8 : decode cX10_numberWord 8 = .ok (.getfield 85, 3) := by decide +kernel
theorem dX10_numberWord_11 : decode cX10_numberWord 11 = .ok (.iaload, 1) := by decide +kernel
theorem dX10_numberWord_12 : decode cX10_numberWord 12 = .ok (.bipush 48, 2) := by decide +kernel
theorem dX10_numberWord_14 : decode cX10_numberWord 14 = .ok (.if_icmp .ne 21, 3) := by decide +kernel
theorem dX10_numberWord_17 : decode cX10_numberWord 17 = .ok (.aload_n 0, 1) := by decide +kernel
theorem dX10_numberWord_18 : decode cX10_numberWord 18 = .ok (.aload_n 0, 1) := by decide +kernel
theorem dX10_numberWord_19 : decode cX10_numberWord 19 = .ok (.getfield 85, 3) := by decide +kernel
theorem dX10_numberWord_22 : decode cX10_numberWord 22 = .ok (.iconst 1, 1) := by decide +kernel
theorem dX10_numberWord_23 : decode cX10_numberWord 23 = .ok (.iadd, 1) := by decide +kernel
theorem dX10_numberWord_24 : decode cX10_numberWord 24 = .ok (.invokevirtual 113, 3) := by decide +kernel
theorem dX10_numberWord_27 : decode cX10_numberWord 27 = .ok (.bipush 120, 2) := by decide +kernel
theorem dX10_numberWord_29 : decode cX10_numberWord 29 = .ok (.if_icmp .ne 6, 3) := by decide +kernel
theorem dX10_numberWord_32 : decode cX10_numberWord 32 = .ok (.bipush 16, 2) := by decide +kernel
theorem dX10_numberWord_34 : decode cX10_numberWord 34 = .ok (.istore_n 1, 1) := by decide +kernel
theorem dX10_numberWord_35 : decode cX10_numberWord 35 = .ok (.aload_n 0, 1) := by decide +kernel
theorem dX10_numberWord_36 : decode cX10_numberWord 36 = .ok (.getfield 13, 3) := by decide +kernel
theorem dX10_numberWord_39 : decode cX10_numberWord 39 = .ok (.aload_n 0, 1) := by decide +kernel
theorem dX10_numberWord_40 : decode cX10_numberWord 40 = .ok (.getfield 85, 3) := by decide +kernel
theorem dX10_numberWord_43 : decode cX10_numberWord 43 = .ok (.iaload, 1) := by decide +kernel
theorem dX10_numberWord_44 : decode cX10_numberWord 44 = .ok (.bipush 48, 2) := by decide +kernel
theorem dX10_numberWord_46 : decode cX10_numberWord 46 = .ok (.if_icmp .ne 50, 3) := by decide +kernel
theorem dX10_numberWord_49 : decode cX10_numberWord 49 = .ok (.aload_n 0, 1) := by decide +kernel
theorem dX10_numberWord_50 : decode cX10_numberWord 50 = .ok (.aload_n 0, 1) := by decide +kernel
theorem dX10_numberWord_51 : decode cX10_numberWord 51 = .ok (.getfield 85, 3) := by decide +kernel
theorem dX10_numberWord_54 : decode cX10_numberWord 54 = .ok (.iconst 1, 1) := by decide +kernel
theorem dX10_numberWord_55 : decode cX10_numberWord 55 = .ok (.iadd, 1) := by decide +kernel
theorem dX10_numberWord_56 : decode cX10_numberWord 56 = .ok (.invokevirtual 113, 3) := by decide +kernel
theorem dX10_numberWord_59 : decode cX10_numberWord 59 = .ok (.bipush 98, 2) := by decide +kernel
theorem dX10_numberWord_61 : decode cX10_numberWord 61 = .ok (.if_icmp .ne 35, 3) := by decide +kernel
theorem dX10_numberWord_64 : decode cX10_numberWord 64 = .ok (.aload_n 0, 1) := by decide +kernel
theorem dX10_numberWord_65 : decode cX10_numberWord 65 = .ok (.aload_n 0, 1) := by decide +kernel
theorem dX10_numberWord_66 : decode cX10_numberWord 66 = .ok (.getfield 85, 3) := by decide +kernel
theorem dX10_numberWord_69 : decode cX10_numberWord 69 = .ok (.iconst 2, 1) := by decide +kernel
theorem dX10_numberWord_70 : decode cX10_numberWord 70 = .ok (.iadd, 1) := by decide +kernel
theorem dX10_numberWord_71 : decode cX10_numberWord 71 = .ok (.invokevirtual 113, 3) := by decide +kernel
theorem dX10_numberWord_74 : decode cX10_numberWord 74 = .ok (.bipush 48, 2) := by decide +kernel
theorem dX10_numberWord_76 : decode cX10_numberWord 76 = .ok (.if_icmp .eq 18, 3) := by decide +kernel
theorem dX10_numberWord_79 : decode cX10_numberWord 79 = .ok (.aload_n 0, 1) := by decide +kernel
theorem dX10_numberWord_80 : decode cX10_numberWord 80 = .ok (.aload_n 0, 1) := by decide +kernel
theorem dX10_numberWord_81 : decode cX10_numberWord 81 = .ok (.getfield 85, 3) := by decide +kernel
theorem dX10_numberWord_84 : decode cX10_numberWord 84 = .ok (.iconst 2, 1) := by decide +kernel
theorem dX10_numberWord_85 : decode cX10_numberWord 85 = .ok (.iadd, 1) := by decide +kernel
theorem dX10_numberWord_86 : decode cX10_numberWord 86 = .ok (.invokevirtual 113, 3) := by decide +kernel
theorem dX10_numberWord_89 : decode cX10_numberWord 89 = .ok (.bipush 49, 2) := by decide +kernel
theorem dX10_numberWord_91 : decode cX10_numberWord 91 = .ok (.if_icmp .ne 5, 3) := by decide +kernel
theorem dX10_numberWord_94 : decode cX10_numberWord 94 = .ok (.iconst 2, 1) := by decide +kernel
theorem dX10_numberWord_95 : decode cX10_numberWord 95 = .ok (.istore_n 1, 1) := by decide +kernel
theorem dX10_numberWord_96 : decode cX10_numberWord 96 = .ok (.aload_n 0, 1) := by decide +kernel
theorem dX10_numberWord_97 : decode cX10_numberWord 97 = .ok (.aload_n 0, 1) := by decide +kernel
theorem dX10_numberWord_98 : decode cX10_numberWord 98 = .ok (.getfield 85, 3) := by decide +kernel
theorem dX10_numberWord_101 : decode cX10_numberWord 101 = .ok (.iconst 1, 1) := by decide +kernel
theorem dX10_numberWord_102 : decode cX10_numberWord 102 = .ok (.iadd, 1) := by decide +kernel
theorem dX10_numberWord_103 : decode cX10_numberWord 103 = .ok (.invokevirtual 113, 3) := by decide +kernel
theorem dX10_numberWord_106 : decode cX10_numberWord 106 = .ok (.istore_n 2, 1) := by decide +kernel
theorem dX10_numberWord_107 : decode cX10_numberWord 107 = .ok (.iload_n 1, 1) := by decide +kernel
theorem dX10_numberWord_108 : decode cX10_numberWord 108 = .ok (.bipush 10, 2) := by decide +kernel
theorem dX10_numberWord_110 : decode cX10_numberWord 110 = .ok (.if_icmp .ne 77, 3) := by decide +kernel
theorem dX10_numberWord_113 : decode cX10_numberWord 113 = .ok (.iload_n 2, 1) := by decide +kernel
theorem dX10_numberWord_114 : decode cX10_numberWord 114 = .ok (.bipush 98, 2) := by decide +kernel
theorem dX10_numberWord_116 : decode cX10_numberWord 116 = .ok (.if_icmp .eq 9, 3) := by decide +kernel
theorem dX10_numberWord_119 : decode cX10_numberWord 119 = .ok (.iload_n 2, 1) := by decide +kernel
theorem dX10_numberWord_120 : decode cX10_numberWord 120 = .ok (.bipush 102, 2) := by decide +kernel
theorem dX10_numberWord_122 : decode cX10_numberWord 122 = .ok (.if_icmp .ne 65, 3) := by decide +kernel
theorem dX10_numberWord_125 : decode cX10_numberWord 125 = .ok (.aload_n 0, 1) := by decide +kernel
theorem dX10_numberWord_126 : decode cX10_numberWord 126 = .ok (.aload_n 0, 1) := by decide +kernel
theorem dX10_numberWord_127 : decode cX10_numberWord 127 = .ok (.getfield 85, 3) := by decide +kernel
theorem dX10_numberWord_130 : decode cX10_numberWord 130 = .ok (.iconst 2, 1) := by decide +kernel
theorem dX10_numberWord_131 : decode cX10_numberWord 131 = .ok (.iadd, 1) := by decide +kernel
theorem dX10_numberWord_132 : decode cX10_numberWord 132 = .ok (.invokevirtual 113, 3) := by decide +kernel
theorem dX10_numberWord_135 : decode cX10_numberWord 135 = .ok (.invokestatic 110, 3) := by decide +kernel
theorem dX10_numberWord_138 : decode cX10_numberWord 138 = .ok (.ifCond .ne 49, 3) := by decide +kernel
theorem dX10_numberWord_141 : decode cX10_numberWord 141 = .ok (.aload_n 0, 1) := by decide +kernel
theorem dX10_numberWord_142 : decode cX10_numberWord 142 = .ok (.iconst 3, 1) := by decide +kernel
theorem dX10_numberWord_143 : decode cX10_numberWord 143 = .ok (.putfield 79, 3) := by decide +kernel
theorem dX10_numberWord_146 : decode cX10_numberWord 146 = .ok (.aload_n 0, 1) := by decide +kernel
theorem dX10_numberWord_147 : decode cX10_numberWord 147 = .ok (.iconst 2, 1) := by decide +kernel
theorem dX10_numberWord_148 : decode cX10_numberWord 148 = .ok (.aload_n 0, 1) := by decide +kernel
theorem dX10_numberWord_149 : decode cX10_numberWord 149 = .ok (.getfield 13, 3) := by decide +kernel
theorem dX10_numberWord_152 : decode cX10_numberWord 152 = .ok (.aload_n 0, 1) := by decide +kernel
theorem dX10_numberWord_153 : decode cX10_numberWord 153 = .ok (.getfield 85, 3) := by decide +kernel
theorem dX10_numberWord_156 : decode cX10_numberWord 156 = .ok (.iaload, 1) := by decide +kernel
theorem dX10_numberWord_157 : decode cX10_numberWord 157 = .ok (.bipush 48, 2) := by decide +kernel
theorem dX10_numberWord_159 : decode cX10_numberWord 159 = .ok (.isub, 1) := by decide +kernel
theorem dX10_numberWord_160 : decode cX10_numberWord 160 = .ok (.imul, 1) := by decide +kernel
theorem dX10_numberWord_161 : decode cX10_numberWord 161 = .ok (.iload_n 2, 1) := by decide +kernel
theorem dX10_numberWord_162 : decode cX10_numberWord 162 = .ok (.bipush 102, 2) := by decide +kernel
theorem dX10_numberWord_164 : decode cX10_numberWord 164 = .ok (.if_icmp .ne 7, 3) := by decide +kernel
theorem dX10_numberWord_167 : decode cX10_numberWord 167 = .ok (.iconst 1, 1) := by decide +kernel
theorem dX10_numberWord_168 : decode cX10_numberWord 168 = .ok (.goto 4, 3) := by decide +kernel
theorem dX10_numberWord_171 : decode cX10_numberWord 171 = .ok (.iconst 0, 1) := by decide +kernel
theorem dX10_numberWord_172 : decode cX10_numberWord 172 = .ok (.iadd, 1) := by decide +kernel
theorem dX10_numberWord_173 : decode cX10_numberWord 173 = .ok (.putfield 82, 3) := by decide +kernel
theorem dX10_numberWord_176 : decode cX10_numberWord 176 = .ok (.aload_n 0, 1) := by decide +kernel
theorem dX10_numberWord_177 : decode cX10_numberWord 177 = .ok (.aload_n 0, 1) := by decide +kernel
theorem dX10_numberWord_178 : decode cX10_numberWord 178 = .ok (.getfield 85, 3) := by decide +kernel
theorem dX10_numberWord_181 : decode cX10_numberWord 181 = .ok (.iconst 2, 1) := by decide +kernel
theorem dX10_numberWord_182 : decode cX10_numberWord 182 = .ok (.iadd, 1) := by decide +kernel
theorem dX10_numberWord_183 : decode cX10_numberWord 183 = .ok (.putfield 88, 3) := by decide +kernel
theorem dX10_numberWord_186 : decode cX10_numberWord 186 = .ok (.return_, 1) := by decide +kernel
theorem dX10_numberWord_187 : decode cX10_numberWord 187 = .ok (.aload_n 0, 1) := by decide +kernel
theorem dX10_numberWord_188 : decode cX10_numberWord 188 = .ok (.iload_n 1, 1) := by decide +kernel
theorem dX10_numberWord_189 : decode cX10_numberWord 189 = .ok (.bipush 10, 2) := by decide +kernel
theorem dX10_numberWord_191 : decode cX10_numberWord 191 = .ok (.if_icmp .ne 10, 3) := by decide +kernel
theorem dX10_numberWord_194 : decode cX10_numberWord 194 = .ok (.aload_n 0, 1) := by decide +kernel
theorem dX10_numberWord_195 : decode cX10_numberWord 195 = .ok (.getfield 85, 3) := by decide +kernel
theorem dX10_numberWord_198 : decode cX10_numberWord 198 = .ok (.goto 9, 3) := by decide +kernel
theorem dX10_numberWord_201 : decode cX10_numberWord 201 = .ok (.aload_n 0, 1) := by decide +kernel
theorem dX10_numberWord_202 : decode cX10_numberWord 202 = .ok (.getfield 85, 3) := by decide +kernel
theorem dX10_numberWord_205 : decode cX10_numberWord 205 = .ok (.iconst 2, 1) := by decide +kernel
theorem dX10_numberWord_206 : decode cX10_numberWord 206 = .ok (.iadd, 1) := by decide +kernel
theorem dX10_numberWord_207 : decode cX10_numberWord 207 = .ok (.putfield 88, 3) := by decide +kernel
theorem dX10_numberWord_210 : decode cX10_numberWord 210 = .ok (.lconst 0, 1) := by decide +kernel
theorem dX10_numberWord_211 : decode cX10_numberWord 211 = .ok (.lstore_n 3, 1) := by decide +kernel
theorem dX10_numberWord_212 : decode cX10_numberWord 212 = .ok (.aload_n 0, 1) := by decide +kernel
theorem dX10_numberWord_213 : decode cX10_numberWord 213 = .ok (.aload_n 0, 1) := by decide +kernel
theorem dX10_numberWord_214 : decode cX10_numberWord 214 = .ok (.getfield 88, 3) := by decide +kernel
theorem dX10_numberWord_217 : decode cX10_numberWord 217 = .ok (.invokevirtual 113, 3) := by decide +kernel
theorem dX10_numberWord_220 : decode cX10_numberWord 220 = .ok (.invokestatic 117, 3) := by decide +kernel
theorem dX10_numberWord_223 : decode cX10_numberWord 223 = .ok (.iload_n 1, 1) := by decide +kernel
theorem dX10_numberWord_224 : decode cX10_numberWord 224 = .ok (.if_icmp .ge 46, 3) := by decide +kernel
theorem dX10_numberWord_227 : decode cX10_numberWord 227 = .ok (.lload_n 3, 1) := by decide +kernel
theorem dX10_numberWord_228 : decode cX10_numberWord 228 = .ok (.ldc2_w 120, 3) := by decide +kernel
theorem dX10_numberWord_231 : decode cX10_numberWord 231 = .ok (.lcmp, 1) := by decide +kernel
theorem dX10_numberWord_232 : decode cX10_numberWord 232 = .ok (.ifCond .lt 7, 3) := by decide +kernel
theorem dX10_numberWord_235 : decode cX10_numberWord 235 = .ok (.lload_n 3, 1) := by decide +kernel
theorem dX10_numberWord_236 : decode cX10_numberWord 236 = .ok (.goto 20, 3) := by decide +kernel
theorem dX10_numberWord_239 : decode cX10_numberWord 239 = .ok (.iload_n 1, 1) := by decide +kernel
theorem dX10_numberWord_240 : decode cX10_numberWord 240 = .ok (.i2l, 1) := by decide +kernel
theorem dX10_numberWord_241 : decode cX10_numberWord 241 = .ok (.lload_n 3, 1) := by decide +kernel
theorem dX10_numberWord_242 : decode cX10_numberWord 242 = .ok (.lmul, 1) := by decide +kernel
theorem dX10_numberWord_243 : decode cX10_numberWord 243 = .ok (.aload_n 0, 1) := by decide +kernel
theorem dX10_numberWord_244 : decode cX10_numberWord 244 = .ok (.aload_n 0, 1) := by decide +kernel
theorem dX10_numberWord_245 : decode cX10_numberWord 245 = .ok (.getfield 88, 3) := by decide +kernel
theorem dX10_numberWord_248 : decode cX10_numberWord 248 = .ok (.invokevirtual 113, 3) := by decide +kernel
theorem dX10_numberWord_251 : decode cX10_numberWord 251 = .ok (.invokestatic 117, 3) := by decide +kernel
theorem dX10_numberWord_254 : decode cX10_numberWord 254 = .ok (.i2l, 1) := by decide +kernel
theorem dX10_numberWord_255 : decode cX10_numberWord 255 = .ok (.ladd, 1) := by decide +kernel
theorem dX10_numberWord_256 : decode cX10_numberWord 256 = .ok (.lstore_n 3, 1) := by decide +kernel
theorem dX10_numberWord_257 : decode cX10_numberWord 257 = .ok (.aload_n 0, 1) := by decide +kernel
theorem dX10_numberWord_258 : decode cX10_numberWord 258 = .ok (.dup, 1) := by decide +kernel
theorem dX10_numberWord_259 : decode cX10_numberWord 259 = .ok (.getfield 88, 3) := by decide +kernel
theorem dX10_numberWord_262 : decode cX10_numberWord 262 = .ok (.iconst 1, 1) := by decide +kernel
theorem dX10_numberWord_263 : decode cX10_numberWord 263 = .ok (.iadd, 1) := by decide +kernel
theorem dX10_numberWord_264 : decode cX10_numberWord 264 = .ok (.putfield 88, 3) := by decide +kernel
theorem dX10_numberWord_267 : decode cX10_numberWord 267 = .ok (.goto (-55), 3) := by decide +kernel
theorem dX10_numberWord_270 : decode cX10_numberWord 270 = .ok (.aload_n 0, 1) := by decide +kernel
theorem dX10_numberWord_271 : decode cX10_numberWord 271 = .ok (.iconst 2, 1) := by decide +kernel
theorem dX10_numberWord_272 : decode cX10_numberWord 272 = .ok (.putfield 79, 3) := by decide +kernel
theorem dX10_numberWord_275 : decode cX10_numberWord 275 = .ok (.aload_n 0, 1) := by decide +kernel
theorem dX10_numberWord_276 : decode cX10_numberWord 276 = .ok (.lload_n 3, 1) := by decide +kernel
theorem dX10_numberWord_277 : decode cX10_numberWord 277 = .ok (.l2i, 1) := by decide +kernel
theorem dX10_numberWord_278 : decode cX10_numberWord 278 = .ok (.putfield 82, 3) := by decide +kernel
theorem dX10_numberWord_281 : decode cX10_numberWord 281 = .ok (.lload_n 3, 1) := by decide +kernel
theorem dX10_numberWord_282 : decode cX10_numberWord 282 = .ok (.ldc2_w 120, 3) := by decide +kernel
theorem dX10_numberWord_285 : decode cX10_numberWord 285 = .ok (.lcmp, 1) := by decide +kernel
theorem dX10_numberWord_286 : decode cX10_numberWord 286 = .ok (.ifCond .ge 22, 3) := by decide +kernel
theorem dX10_numberWord_289 : decode cX10_numberWord 289 = .ok (.iload_n 1, 1) := by decide +kernel
theorem dX10_numberWord_290 : decode cX10_numberWord 290 = .ok (.bipush 16, 2) := by decide +kernel
theorem dX10_numberWord_292 : decode cX10_numberWord 292 = .ok (.if_icmp .ne 25, 3) := by decide +kernel
theorem dX10_numberWord_295 : decode cX10_numberWord 295 = .ok (.aload_n 0, 1) := by decide +kernel
theorem dX10_numberWord_296 : decode cX10_numberWord 296 = .ok (.getfield 88, 3) := by decide +kernel
theorem dX10_numberWord_299 : decode cX10_numberWord 299 = .ok (.aload_n 0, 1) := by decide +kernel
theorem dX10_numberWord_300 : decode cX10_numberWord 300 = .ok (.getfield 85, 3) := by decide +kernel
theorem dX10_numberWord_303 : decode cX10_numberWord 303 = .ok (.iconst 2, 1) := by decide +kernel
theorem dX10_numberWord_304 : decode cX10_numberWord 304 = .ok (.iadd, 1) := by decide +kernel
theorem dX10_numberWord_305 : decode cX10_numberWord 305 = .ok (.if_icmp .ne 12, 3) := by decide +kernel
theorem dX10_numberWord_308 : decode cX10_numberWord 308 = .ok (.aload_n 0, 1) := by decide +kernel
theorem dX10_numberWord_309 : decode cX10_numberWord 309 = .ok (.iconst 3, 1) := by decide +kernel
theorem dX10_numberWord_310 : decode cX10_numberWord 310 = .ok (.aload_n 0, 1) := by decide +kernel
theorem dX10_numberWord_311 : decode cX10_numberWord 311 = .ok (.getfield 85, 3) := by decide +kernel
theorem dX10_numberWord_314 : decode cX10_numberWord 314 = .ok (.invokevirtual 91, 3) := by decide +kernel
theorem dX10_numberWord_317 : decode cX10_numberWord 317 = .ok (.return_, 1) := by decide +kernel
theorem dX10_inside_0 : decode cX10_inside 0 = .ok (.aload_n 0, 1) := by decide +kernel
theorem dX10_inside_1 : decode cX10_inside 1 = .ok (.iload_n 1, 1) := by decide +kernel
theorem dX10_inside_2 : decode cX10_inside 2 = .ok (.invokevirtual 113, 3) := by decide +kernel
theorem dX10_inside_5 : decode cX10_inside 5 = .ok (.istore_n 3, 1) := by decide +kernel
theorem dX10_inside_6 : decode cX10_inside 6 = .ok (.aload_n 0, 1) := by decide +kernel
theorem dX10_inside_7 : decode cX10_inside 7 = .ok (.iload_n 1, 1) := by decide +kernel
theorem dX10_inside_8 : decode cX10_inside 8 = .ok (.iconst 1, 1) := by decide +kernel
theorem dX10_inside_9 : decode cX10_inside 9 = .ok (.iadd, 1) := by decide +kernel
theorem dX10_inside_10 : decode cX10_inside 10 = .ok (.putfield 88, 3) := by decide +kernel
theorem dX10_inside_13 : decode cX10_inside 13 = .ok (.iload_n 1, 1) := by decide +kernel
theorem dX10_inside_14 : decode cX10_inside 14 = .ok (.aload_n 0, 1) := by decide +kernel
theorem dX10_inside_15 : decode cX10_inside 15 = .ok (.getfield 69, 3) := by decide +kernel
theorem dX10_inside_18 : decode cX10_inside 18 = .ok (.if_icmp .lt 5, 3) := by decide +kernel
theorem dX10_inside_21 : decode cX10_inside 21 = .ok (.iconst (-1), 1) := by decide +kernel
theorem dX10_inside_22 : decode cX10_inside 22 = .ok (.ireturn, 1) := by decide +kernel
theorem dX10_inside_23 : decode cX10_inside 23 = .ok (.iload_n 3, 1) := by decide +kernel
theorem dX10_inside_24 : decode cX10_inside 24 = .ok (.bipush 92, 2) := by decide +kernel
theorem dX10_inside_26 : decode cX10_inside 26 = .ok (.if_icmp .eq 26, 3) := by decide +kernel
theorem dX10_inside_29 : decode cX10_inside 29 = .ok (.iload_n 3, 1) := by decide +kernel
theorem dX10_inside_30 : decode cX10_inside 30 = .ok (.bipush 32, 2) := by decide +kernel
theorem dX10_inside_32 : decode cX10_inside 32 = .ok (.if_icmp .lt 18, 3) := by decide +kernel
theorem dX10_inside_35 : decode cX10_inside 35 = .ok (.iload_n 3, 1) := by decide +kernel
theorem dX10_inside_36 : decode cX10_inside 36 = .ok (.bipush 127, 2) := by decide +kernel
theorem dX10_inside_38 : decode cX10_inside 38 = .ok (.if_icmp .ge 12, 3) := by decide +kernel
theorem dX10_inside_41 : decode cX10_inside 41 = .ok (.iload_n 3, 1) := by decide +kernel
theorem dX10_inside_42 : decode cX10_inside 42 = .ok (.iload_n 2, 1) := by decide +kernel
theorem dX10_inside_43 : decode cX10_inside 43 = .ok (.if_icmp .eq 7, 3) := by decide +kernel
theorem dX10_inside_46 : decode cX10_inside 46 = .ok (.iload_n 3, 1) := by decide +kernel
theorem dX10_inside_47 : decode cX10_inside 47 = .ok (.goto 4, 3) := by decide +kernel
theorem dX10_inside_50 : decode cX10_inside 50 = .ok (.iconst (-1), 1) := by decide +kernel
theorem dX10_inside_51 : decode cX10_inside 51 = .ok (.ireturn, 1) := by decide +kernel
theorem dX10_inside_52 : decode cX10_inside 52 = .ok (.aload_n 0, 1) := by decide +kernel
theorem dX10_inside_53 : decode cX10_inside 53 = .ok (.iload_n 1, 1) := by decide +kernel
theorem dX10_inside_54 : decode cX10_inside 54 = .ok (.iconst 1, 1) := by decide +kernel
theorem dX10_inside_55 : decode cX10_inside 55 = .ok (.iadd, 1) := by decide +kernel
theorem dX10_inside_56 : decode cX10_inside 56 = .ok (.invokevirtual 113, 3) := by decide +kernel
theorem dX10_inside_59 : decode cX10_inside 59 = .ok (.istore 4, 2) := by decide +kernel
theorem dX10_inside_61 : decode cX10_inside 61 = .ok (.aload_n 0, 1) := by decide +kernel
theorem dX10_inside_62 : decode cX10_inside 62 = .ok (.iload_n 1, 1) := by decide +kernel
theorem dX10_inside_63 : decode cX10_inside 63 = .ok (.iconst 2, 1) := by decide +kernel
theorem dX10_inside_64 : decode cX10_inside 64 = .ok (.iadd, 1) := by decide +kernel
theorem dX10_inside_65 : decode cX10_inside 65 = .ok (.putfield 88, 3) := by decide +kernel
theorem dX10_inside_68 : decode cX10_inside 68 = .ok (.iload_n 1, 1) := by decide +kernel
theorem dX10_inside_69 : decode cX10_inside 69 = .ok (.iconst 1, 1) := by decide +kernel
theorem dX10_inside_70 : decode cX10_inside 70 = .ok (.iadd, 1) := by decide +kernel
theorem dX10_inside_71 : decode cX10_inside 71 = .ok (.aload_n 0, 1) := by decide +kernel
theorem dX10_inside_72 : decode cX10_inside 72 = .ok (.getfield 69, 3) := by decide +kernel
theorem dX10_inside_75 : decode cX10_inside 75 = .ok (.if_icmp .lt 5, 3) := by decide +kernel
theorem dX10_inside_78 : decode cX10_inside 78 = .ok (.iconst (-1), 1) := by decide +kernel
theorem dX10_inside_79 : decode cX10_inside 79 = .ok (.ireturn, 1) := by decide +kernel
theorem dX10_inside_80 : decode cX10_inside 80 = .ok (.iload 4, 2) := by decide +kernel
theorem dX10_inside_82 : decode cX10_inside 82 = .ok (.bipush 110, 2) := by decide +kernel
theorem dX10_inside_84 : decode cX10_inside 84 = .ok (.if_icmp .ne 8, 3) := by decide +kernel
theorem dX10_inside_87 : decode cX10_inside 87 = .ok (.bipush 10, 2) := by decide +kernel
theorem dX10_inside_89 : decode cX10_inside 89 = .ok (.goto 53, 3) := by decide +kernel
theorem dX10_inside_92 : decode cX10_inside 92 = .ok (.iload 4, 2) := by decide +kernel
theorem dX10_inside_94 : decode cX10_inside 94 = .ok (.bipush 116, 2) := by decide +kernel
theorem dX10_inside_96 : decode cX10_inside 96 = .ok (.if_icmp .ne 8, 3) := by decide +kernel
theorem dX10_inside_99 : decode cX10_inside 99 = .ok (.bipush 9, 2) := by decide +kernel
theorem dX10_inside_101 : decode cX10_inside 101 = .ok (.goto 41, 3) := by decide +kernel
theorem dX10_inside_104 : decode cX10_inside 104 = .ok (.iload 4, 2) := by decide +kernel
theorem dX10_inside_106 : decode cX10_inside 106 = .ok (.bipush 48, 2) := by decide +kernel
theorem dX10_inside_108 : decode cX10_inside 108 = .ok (.if_icmp .ne 7, 3) := by decide +kernel
theorem dX10_inside_111 : decode cX10_inside 111 = .ok (.iconst 0, 1) := by decide +kernel
theorem dX10_inside_112 : decode cX10_inside 112 = .ok (.goto 30, 3) := by decide +kernel
theorem dX10_inside_115 : decode cX10_inside 115 = .ok (.iload 4, 2) := by decide +kernel
theorem dX10_inside_117 : decode cX10_inside 117 = .ok (.bipush 92, 2) := by decide +kernel
theorem dX10_inside_119 : decode cX10_inside 119 = .ok (.if_icmp .eq 17, 3) := by decide +kernel
theorem dX10_inside_122 : decode cX10_inside 122 = .ok (.iload 4, 2) := by decide +kernel
theorem dX10_inside_124 : decode cX10_inside 124 = .ok (.bipush 39, 2) := by decide +kernel
theorem dX10_inside_126 : decode cX10_inside 126 = .ok (.if_icmp .eq 10, 3) := by decide +kernel
theorem dX10_inside_129 : decode cX10_inside 129 = .ok (.iload 4, 2) := by decide +kernel
theorem dX10_inside_131 : decode cX10_inside 131 = .ok (.bipush 34, 2) := by decide +kernel
theorem dX10_inside_133 : decode cX10_inside 133 = .ok (.if_icmp .ne 8, 3) := by decide +kernel
theorem dX10_inside_136 : decode cX10_inside 136 = .ok (.iload 4, 2) := by decide +kernel
theorem dX10_inside_138 : decode cX10_inside 138 = .ok (.goto 4, 3) := by decide +kernel
theorem dX10_inside_141 : decode cX10_inside 141 = .ok (.iconst (-1), 1) := by decide +kernel
theorem dX10_inside_142 : decode cX10_inside 142 = .ok (.ireturn, 1) := by decide +kernel
theorem dX10_character_0 : decode cX10_character 0 = .ok (.aload_n 0, 1) := by decide +kernel
theorem dX10_character_1 : decode cX10_character 1 = .ok (.getfield 85, 3) := by decide +kernel
theorem dX10_character_4 : decode cX10_character 4 = .ok (.istore_n 1, 1) := by decide +kernel
theorem dX10_character_5 : decode cX10_character 5 = .ok (.aload_n 0, 1) := by decide +kernel
theorem dX10_character_6 : decode cX10_character 6 = .ok (.aload_n 0, 1) := by decide +kernel
theorem dX10_character_7 : decode cX10_character 7 = .ok (.getfield 85, 3) := by decide +kernel
theorem dX10_character_10 : decode cX10_character 10 = .ok (.iconst 1, 1) := by decide +kernel
theorem dX10_character_11 : decode cX10_character 11 = .ok (.iadd, 1) := by decide +kernel
theorem dX10_character_12 : decode cX10_character 12 = .ok (.bipush 39, 2) := by decide +kernel
theorem dX10_character_14 : decode cX10_character 14 = .ok (.invokevirtual 122, 3) := by decide +kernel
theorem dX10_character_17 : decode cX10_character 17 = .ok (.istore_n 2, 1) := by decide +kernel
theorem dX10_character_18 : decode cX10_character 18 = .ok (.aload_n 0, 1) := by decide +kernel
theorem dX10_character_19 : decode cX10_character 19 = .ok (.iconst 2, 1) := by decide +kernel
theorem dX10_character_20 : decode cX10_character 20 = .ok (.putfield 79, 3) := by decide +kernel
theorem dX10_character_23 : decode cX10_character 23 = .ok (.aload_n 0, 1) := by decide +kernel
theorem dX10_character_24 : decode cX10_character 24 = .ok (.iload_n 2, 1) := by decide +kernel
theorem dX10_character_25 : decode cX10_character 25 = .ok (.putfield 82, 3) := by decide +kernel
theorem dX10_character_28 : decode cX10_character 28 = .ok (.iload_n 2, 1) := by decide +kernel
theorem dX10_character_29 : decode cX10_character 29 = .ok (.iconst (-1), 1) := by decide +kernel
theorem dX10_character_30 : decode cX10_character 30 = .ok (.if_icmp .eq 28, 3) := by decide +kernel
theorem dX10_character_33 : decode cX10_character 33 = .ok (.aload_n 0, 1) := by decide +kernel
theorem dX10_character_34 : decode cX10_character 34 = .ok (.getfield 88, 3) := by decide +kernel
theorem dX10_character_37 : decode cX10_character 37 = .ok (.aload_n 0, 1) := by decide +kernel
theorem dX10_character_38 : decode cX10_character 38 = .ok (.getfield 69, 3) := by decide +kernel
theorem dX10_character_41 : decode cX10_character 41 = .ok (.if_icmp .ge 17, 3) := by decide +kernel
theorem dX10_character_44 : decode cX10_character 44 = .ok (.aload_n 0, 1) := by decide +kernel
theorem dX10_character_45 : decode cX10_character 45 = .ok (.getfield 13, 3) := by decide +kernel
theorem dX10_character_48 : decode cX10_character 48 = .ok (.aload_n 0, 1) := by decide +kernel
theorem dX10_character_49 : decode cX10_character 49 = .ok (.getfield 88, 3) := by decide +kernel
theorem dX10_character_52 : decode cX10_character 52 = .ok (.iaload, 1) := by decide +kernel
theorem dX10_character_53 : decode cX10_character 53 = .ok (.bipush 39, 2) := by decide +kernel
theorem dX10_character_55 : decode cX10_character 55 = .ok (.if_icmp .eq 9, 3) := by decide +kernel
theorem dX10_character_58 : decode cX10_character 58 = .ok (.aload_n 0, 1) := by decide +kernel
theorem dX10_character_59 : decode cX10_character 59 = .ok (.iconst 4, 1) := by decide +kernel
theorem dX10_character_60 : decode cX10_character 60 = .ok (.iload_n 1, 1) := by decide +kernel
theorem dX10_character_61 : decode cX10_character 61 = .ok (.invokevirtual 91, 3) := by decide +kernel
theorem dX10_character_64 : decode cX10_character 64 = .ok (.aload_n 0, 1) := by decide +kernel
theorem dX10_character_65 : decode cX10_character 65 = .ok (.dup, 1) := by decide +kernel
theorem dX10_character_66 : decode cX10_character 66 = .ok (.getfield 88, 3) := by decide +kernel
theorem dX10_character_69 : decode cX10_character 69 = .ok (.iconst 1, 1) := by decide +kernel
theorem dX10_character_70 : decode cX10_character 70 = .ok (.iadd, 1) := by decide +kernel
theorem dX10_character_71 : decode cX10_character 71 = .ok (.putfield 88, 3) := by decide +kernel
theorem dX10_character_74 : decode cX10_character 74 = .ok (.aload_n 0, 1) := by decide +kernel
theorem dX10_character_75 : decode cX10_character 75 = .ok (.getfield 79, 3) := by decide +kernel
theorem dX10_character_78 : decode cX10_character 78 = .ok (.iconst 2, 1) := by decide +kernel
theorem dX10_character_79 : decode cX10_character 79 = .ok (.if_icmp .ne 8, 3) := by decide +kernel
theorem dX10_character_82 : decode cX10_character 82 = .ok (.aload_n 0, 1) := by decide +kernel
theorem dX10_character_83 : decode cX10_character 83 = .ok (.iload_n 1, 1) := by decide +kernel
theorem dX10_character_84 : decode cX10_character 84 = .ok (.putfield 85, 3) := by decide +kernel
theorem dX10_character_87 : decode cX10_character 87 = .ok (.return_, 1) := by decide +kernel
theorem dX10_stringWord_0 : decode cX10_stringWord 0 = .ok (.aload_n 0, 1) := by decide +kernel
theorem dX10_stringWord_1 : decode cX10_stringWord 1 = .ok (.getfield 85, 3) := by decide +kernel
theorem dX10_stringWord_4 : decode cX10_stringWord 4 = .ok (.istore_n 1, 1) := by decide +kernel
theorem dX10_stringWord_5 : decode cX10_stringWord 5 = .ok (.aload_n 0, 1) := by decide +kernel
theorem dX10_stringWord_6 : decode cX10_stringWord 6 = .ok (.getfield 85, 3) := by decide +kernel
theorem dX10_stringWord_9 : decode cX10_stringWord 9 = .ok (.iconst 1, 1) := by decide +kernel
theorem dX10_stringWord_10 : decode cX10_stringWord 10 = .ok (.iadd, 1) := by decide +kernel
theorem dX10_stringWord_11 : decode cX10_stringWord 11 = .ok (.istore_n 2, 1) := by decide +kernel
theorem dX10_stringWord_12 : decode cX10_stringWord 12 = .ok (.aload_n 0, 1) := by decide +kernel
theorem dX10_stringWord_13 : decode cX10_stringWord 13 = .ok (.iconst 4, 1) := by decide +kernel
theorem dX10_stringWord_14 : decode cX10_stringWord 14 = .ok (.putfield 79, 3) := by decide +kernel
theorem dX10_stringWord_17 : decode cX10_stringWord 17 = .ok (.aload_n 0, 1) := by decide +kernel
theorem dX10_stringWord_18 : decode cX10_stringWord 18 = .ok (.iconst 0, 1) := by decide +kernel
theorem dX10_stringWord_19 : decode cX10_stringWord 19 = .ok (.putfield 126, 3) := by decide +kernel
theorem dX10_stringWord_22 : decode cX10_stringWord 22 = .ok (.aload_n 0, 1) := by decide +kernel
theorem dX10_stringWord_23 : decode cX10_stringWord 23 = .ok (.getfield 79, 3) := by decide +kernel
theorem dX10_stringWord_26 : decode cX10_stringWord 26 = .ok (.iconst 4, 1) := by decide +kernel
theorem dX10_stringWord_27 : decode cX10_stringWord 27 = .ok (.if_icmp .ne 60, 3) := by decide +kernel
theorem dX10_stringWord_30 : decode cX10_stringWord 30 = .ok (.aload_n 0, 1) := by decide +kernel
theorem dX10_stringWord_31 : decode cX10_stringWord 31 = .ok (.iload_n 2, 1) := by decide +kernel
theorem dX10_stringWord_32 : decode cX10_stringWord 32 = .ok (.invokevirtual 113, 3) := by decide +kernel
theorem dX10_stringWord_35 : decode cX10_stringWord 35 = .ok (.bipush 34, 2) := by decide +kernel
theorem dX10_stringWord_37 : decode cX10_stringWord 37 = .ok (.if_icmp .eq 50, 3) := by decide +kernel
theorem dX10_stringWord_40 : decode cX10_stringWord 40 = .ok (.aload_n 0, 1) := by decide +kernel
theorem dX10_stringWord_41 : decode cX10_stringWord 41 = .ok (.iload_n 2, 1) := by decide +kernel
theorem dX10_stringWord_42 : decode cX10_stringWord 42 = .ok (.bipush 34, 2) := by decide +kernel
theorem dX10_stringWord_44 : decode cX10_stringWord 44 = .ok (.invokevirtual 122, 3) := by decide +kernel
theorem dX10_stringWord_47 : decode cX10_stringWord 47 = .ok (.istore_n 3, 1) := by decide +kernel
theorem dX10_stringWord_48 : decode cX10_stringWord 48 = .ok (.iload_n 3, 1) := by decide +kernel
theorem dX10_stringWord_49 : decode cX10_stringWord 49 = .ok (.iconst (-1), 1) := by decide +kernel
theorem dX10_stringWord_50 : decode cX10_stringWord 50 = .ok (.if_icmp .ne 9, 3) := by decide +kernel
theorem dX10_stringWord_53 : decode cX10_stringWord 53 = .ok (.aload_n 0, 1) := by decide +kernel
theorem dX10_stringWord_54 : decode cX10_stringWord 54 = .ok (.iconst 4, 1) := by decide +kernel
theorem dX10_stringWord_55 : decode cX10_stringWord 55 = .ok (.iload_n 1, 1) := by decide +kernel
theorem dX10_stringWord_56 : decode cX10_stringWord 56 = .ok (.invokevirtual 91, 3) := by decide +kernel
theorem dX10_stringWord_59 : decode cX10_stringWord 59 = .ok (.aload_n 0, 1) := by decide +kernel
theorem dX10_stringWord_60 : decode cX10_stringWord 60 = .ok (.getfield 56, 3) := by decide +kernel
theorem dX10_stringWord_63 : decode cX10_stringWord 63 = .ok (.aload_n 0, 1) := by decide +kernel
theorem dX10_stringWord_64 : decode cX10_stringWord 64 = .ok (.getfield 126, 3) := by decide +kernel
theorem dX10_stringWord_67 : decode cX10_stringWord 67 = .ok (.iload_n 3, 1) := by decide +kernel
theorem dX10_stringWord_68 : decode cX10_stringWord 68 = .ok (.iastore, 1) := by decide +kernel
theorem dX10_stringWord_69 : decode cX10_stringWord 69 = .ok (.aload_n 0, 1) := by decide +kernel
theorem dX10_stringWord_70 : decode cX10_stringWord 70 = .ok (.dup, 1) := by decide +kernel
theorem dX10_stringWord_71 : decode cX10_stringWord 71 = .ok (.getfield 126, 3) := by decide +kernel
theorem dX10_stringWord_74 : decode cX10_stringWord 74 = .ok (.iconst 1, 1) := by decide +kernel
theorem dX10_stringWord_75 : decode cX10_stringWord 75 = .ok (.iadd, 1) := by decide +kernel
theorem dX10_stringWord_76 : decode cX10_stringWord 76 = .ok (.putfield 126, 3) := by decide +kernel
theorem dX10_stringWord_79 : decode cX10_stringWord 79 = .ok (.aload_n 0, 1) := by decide +kernel
theorem dX10_stringWord_80 : decode cX10_stringWord 80 = .ok (.getfield 88, 3) := by decide +kernel
theorem dX10_stringWord_83 : decode cX10_stringWord 83 = .ok (.istore_n 2, 1) := by decide +kernel
theorem dX10_stringWord_84 : decode cX10_stringWord 84 = .ok (.goto (-62), 3) := by decide +kernel
theorem dX10_stringWord_87 : decode cX10_stringWord 87 = .ok (.aload_n 0, 1) := by decide +kernel
theorem dX10_stringWord_88 : decode cX10_stringWord 88 = .ok (.iload_n 2, 1) := by decide +kernel
theorem dX10_stringWord_89 : decode cX10_stringWord 89 = .ok (.iconst 1, 1) := by decide +kernel
theorem dX10_stringWord_90 : decode cX10_stringWord 90 = .ok (.iadd, 1) := by decide +kernel
theorem dX10_stringWord_91 : decode cX10_stringWord 91 = .ok (.putfield 88, 3) := by decide +kernel
theorem dX10_stringWord_94 : decode cX10_stringWord 94 = .ok (.return_, 1) := by decide +kernel
theorem dX10_signWord_0 : decode cX10_signWord 0 = .ok (.aload_n 0, 1) := by decide +kernel
theorem dX10_signWord_1 : decode cX10_signWord 1 = .ok (.iconst 5, 1) := by decide +kernel
theorem dX10_signWord_2 : decode cX10_signWord 2 = .ok (.putfield 79, 3) := by decide +kernel
theorem dX10_signWord_5 : decode cX10_signWord 5 = .ok (.aload_n 0, 1) := by decide +kernel
theorem dX10_signWord_6 : decode cX10_signWord 6 = .ok (.iload_n 1, 1) := by decide +kernel
theorem dX10_signWord_7 : decode cX10_signWord 7 = .ok (.putfield 82, 3) := by decide +kernel
theorem dX10_signWord_10 : decode cX10_signWord 10 = .ok (.aload_n 0, 1) := by decide +kernel
theorem dX10_signWord_11 : decode cX10_signWord 11 = .ok (.aload_n 0, 1) := by decide +kernel
theorem dX10_signWord_12 : decode cX10_signWord 12 = .ok (.getfield 85, 3) := by decide +kernel
theorem dX10_signWord_15 : decode cX10_signWord 15 = .ok (.iconst 1, 1) := by decide +kernel
theorem dX10_signWord_16 : decode cX10_signWord 16 = .ok (.iadd, 1) := by decide +kernel
theorem dX10_signWord_17 : decode cX10_signWord 17 = .ok (.putfield 88, 3) := by decide +kernel
theorem dX10_signWord_20 : decode cX10_signWord 20 = .ok (.iload_n 1, 1) := by decide +kernel
theorem dX10_signWord_21 : decode cX10_signWord 21 = .ok (.bipush 60, 2) := by decide +kernel
theorem dX10_signWord_23 : decode cX10_signWord 23 = .ok (.if_icmp .eq 9, 3) := by decide +kernel
theorem dX10_signWord_26 : decode cX10_signWord 26 = .ok (.iload_n 1, 1) := by decide +kernel
theorem dX10_signWord_27 : decode cX10_signWord 27 = .ok (.bipush 62, 2) := by decide +kernel
theorem dX10_signWord_29 : decode cX10_signWord 29 = .ok (.if_icmp .ne 69, 3) := by decide +kernel
theorem dX10_signWord_32 : decode cX10_signWord 32 = .ok (.aload_n 0, 1) := by decide +kernel
theorem dX10_signWord_33 : decode cX10_signWord 33 = .ok (.aload_n 0, 1) := by decide +kernel
theorem dX10_signWord_34 : decode cX10_signWord 34 = .ok (.getfield 85, 3) := by decide +kernel
theorem dX10_signWord_37 : decode cX10_signWord 37 = .ok (.iconst 1, 1) := by decide +kernel
theorem dX10_signWord_38 : decode cX10_signWord 38 = .ok (.iadd, 1) := by decide +kernel
theorem dX10_signWord_39 : decode cX10_signWord 39 = .ok (.invokevirtual 113, 3) := by decide +kernel
theorem dX10_signWord_42 : decode cX10_signWord 42 = .ok (.iload_n 1, 1) := by decide +kernel
theorem dX10_signWord_43 : decode cX10_signWord 43 = .ok (.if_icmp .eq 12, 3) := by decide +kernel
theorem dX10_signWord_46 : decode cX10_signWord 46 = .ok (.aload_n 0, 1) := by decide +kernel
theorem dX10_signWord_47 : decode cX10_signWord 47 = .ok (.iconst 1, 1) := by decide +kernel
theorem dX10_signWord_48 : decode cX10_signWord 48 = .ok (.aload_n 0, 1) := by decide +kernel
theorem dX10_signWord_49 : decode cX10_signWord 49 = .ok (.getfield 85, 3) := by decide +kernel
theorem dX10_signWord_52 : decode cX10_signWord 52 = .ok (.invokevirtual 91, 3) := by decide +kernel
theorem dX10_signWord_55 : decode cX10_signWord 55 = .ok (.aload_n 0, 1) := by decide +kernel
theorem dX10_signWord_56 : decode cX10_signWord 56 = .ok (.aload_n 0, 1) := by decide +kernel
theorem dX10_signWord_57 : decode cX10_signWord 57 = .ok (.getfield 79, 3) := by decide +kernel
theorem dX10_signWord_60 : decode cX10_signWord 60 = .ok (.bipush 6, 2) := by decide +kernel
theorem dX10_signWord_62 : decode cX10_signWord 62 = .ok (.if_icmp .ne 7, 3) := by decide +kernel
theorem dX10_signWord_65 : decode cX10_signWord 65 = .ok (.iconst 1, 1) := by decide +kernel
theorem dX10_signWord_66 : decode cX10_signWord 66 = .ok (.goto 18, 3) := by decide +kernel
theorem dX10_signWord_69 : decode cX10_signWord 69 = .ok (.iload_n 1, 1) := by decide +kernel
theorem dX10_signWord_70 : decode cX10_signWord 70 = .ok (.bipush 60, 2) := by decide +kernel
theorem dX10_signWord_72 : decode cX10_signWord 72 = .ok (.if_icmp .ne 9, 3) := by decide +kernel
theorem dX10_signWord_75 : decode cX10_signWord 75 = .ok (.sipush 300, 3) := by decide +kernel
theorem dX10_signWord_78 : decode cX10_signWord 78 = .ok (.goto 6, 3) := by decide +kernel
theorem dX10_signWord_81 : decode cX10_signWord 81 = .ok (.sipush 301, 3) := by decide +kernel
theorem dX10_signWord_84 : decode cX10_signWord 84 = .ok (.putfield 82, 3) := by decide +kernel
theorem dX10_signWord_87 : decode cX10_signWord 87 = .ok (.aload_n 0, 1) := by decide +kernel
theorem dX10_signWord_88 : decode cX10_signWord 88 = .ok (.aload_n 0, 1) := by decide +kernel
theorem dX10_signWord_89 : decode cX10_signWord 89 = .ok (.getfield 85, 3) := by decide +kernel
theorem dX10_signWord_92 : decode cX10_signWord 92 = .ok (.iconst 2, 1) := by decide +kernel
theorem dX10_signWord_93 : decode cX10_signWord 93 = .ok (.iadd, 1) := by decide +kernel
theorem dX10_signWord_94 : decode cX10_signWord 94 = .ok (.putfield 88, 3) := by decide +kernel
theorem dX10_signWord_97 : decode cX10_signWord 97 = .ok (.return_, 1) := by decide +kernel
theorem dX10_signWord_98 : decode cX10_signWord 98 = .ok (.iload_n 1, 1) := by decide +kernel
theorem dX10_signWord_99 : decode cX10_signWord 99 = .ok (.bipush 44, 2) := by decide +kernel
theorem dX10_signWord_101 : decode cX10_signWord 101 = .ok (.if_icmp .eq 75, 3) := by decide +kernel
theorem dX10_signWord_104 : decode cX10_signWord 104 = .ok (.iload_n 1, 1) := by decide +kernel
theorem dX10_signWord_105 : decode cX10_signWord 105 = .ok (.bipush 40, 2) := by decide +kernel
theorem dX10_signWord_107 : decode cX10_signWord 107 = .ok (.if_icmp .eq 69, 3) := by decide +kernel
theorem dX10_signWord_110 : decode cX10_signWord 110 = .ok (.iload_n 1, 1) := by decide +kernel
theorem dX10_signWord_111 : decode cX10_signWord 111 = .ok (.bipush 41, 2) := by decide +kernel
theorem dX10_signWord_113 : decode cX10_signWord 113 = .ok (.if_icmp .eq 63, 3) := by decide +kernel
theorem dX10_signWord_116 : decode cX10_signWord 116 = .ok (.iload_n 1, 1) := by decide +kernel
theorem dX10_signWord_117 : decode cX10_signWord 117 = .ok (.bipush 58, 2) := by decide +kernel
theorem dX10_signWord_119 : decode cX10_signWord 119 = .ok (.if_icmp .eq 57, 3) := by decide +kernel
theorem dX10_signWord_122 : decode cX10_signWord 122 = .ok (.iload_n 1, 1) := by decide +kernel
theorem dX10_signWord_123 : decode cX10_signWord 123 = .ok (.bipush 43, 2) := by decide +kernel
theorem dX10_signWord_125 : decode cX10_signWord 125 = .ok (.if_icmp .eq 51, 3) := by decide +kernel
theorem dX10_signWord_128 : decode cX10_signWord 128 = .ok (.iload_n 1, 1) := by decide +kernel
theorem dX10_signWord_129 : decode cX10_signWord 129 = .ok (.bipush 45, 2) := by decide +kernel
theorem dX10_signWord_131 : decode cX10_signWord 131 = .ok (.if_icmp .eq 45, 3) := by decide +kernel
theorem dX10_signWord_134 : decode cX10_signWord 134 = .ok (.iload_n 1, 1) := by decide +kernel
theorem dX10_signWord_135 : decode cX10_signWord 135 = .ok (.bipush 42, 2) := by decide +kernel
theorem dX10_signWord_137 : decode cX10_signWord 137 = .ok (.if_icmp .eq 39, 3) := by decide +kernel
theorem dX10_signWord_140 : decode cX10_signWord 140 = .ok (.iload_n 1, 1) := by decide +kernel
theorem dX10_signWord_141 : decode cX10_signWord 141 = .ok (.bipush 47, 2) := by decide +kernel
theorem dX10_signWord_143 : decode cX10_signWord 143 = .ok (.if_icmp .eq 33, 3) := by decide +kernel
theorem dX10_signWord_146 : decode cX10_signWord 146 = .ok (.iload_n 1, 1) := by decide +kernel
theorem dX10_signWord_147 : decode cX10_signWord 147 = .ok (.bipush 37, 2) := by decide +kernel
theorem dX10_signWord_149 : decode cX10_signWord 149 = .ok (.if_icmp .eq 27, 3) := by decide +kernel
theorem dX10_signWord_152 : decode cX10_signWord 152 = .ok (.iload_n 1, 1) := by decide +kernel
theorem dX10_signWord_153 : decode cX10_signWord 153 = .ok (.bipush 38, 2) := by decide +kernel
theorem dX10_signWord_155 : decode cX10_signWord 155 = .ok (.if_icmp .eq 21, 3) := by decide +kernel
theorem dX10_signWord_158 : decode cX10_signWord 158 = .ok (.iload_n 1, 1) := by decide +kernel
theorem dX10_signWord_159 : decode cX10_signWord 159 = .ok (.bipush 124, 2) := by decide +kernel
theorem dX10_signWord_161 : decode cX10_signWord 161 = .ok (.if_icmp .eq 15, 3) := by decide +kernel
theorem dX10_signWord_164 : decode cX10_signWord 164 = .ok (.iload_n 1, 1) := by decide +kernel
theorem dX10_signWord_165 : decode cX10_signWord 165 = .ok (.bipush 94, 2) := by decide +kernel
theorem dX10_signWord_167 : decode cX10_signWord 167 = .ok (.if_icmp .eq 9, 3) := by decide +kernel
theorem dX10_signWord_170 : decode cX10_signWord 170 = .ok (.iload_n 1, 1) := by decide +kernel
theorem dX10_signWord_171 : decode cX10_signWord 171 = .ok (.bipush 126, 2) := by decide +kernel
theorem dX10_signWord_173 : decode cX10_signWord 173 = .ok (.if_icmp .ne 7, 3) := by decide +kernel
theorem dX10_signWord_176 : decode cX10_signWord 176 = .ok (.iconst 1, 1) := by decide +kernel
theorem dX10_signWord_177 : decode cX10_signWord 177 = .ok (.goto 4, 3) := by decide +kernel
theorem dX10_signWord_180 : decode cX10_signWord 180 = .ok (.iconst 0, 1) := by decide +kernel
theorem dX10_signWord_181 : decode cX10_signWord 181 = .ok (.istore_n 2, 1) := by decide +kernel
theorem dX10_signWord_182 : decode cX10_signWord 182 = .ok (.iload_n 2, 1) := by decide +kernel
theorem dX10_signWord_183 : decode cX10_signWord 183 = .ok (.ifCond .ne 12, 3) := by decide +kernel
theorem dX10_signWord_186 : decode cX10_signWord 186 = .ok (.aload_n 0, 1) := by decide +kernel
theorem dX10_signWord_187 : decode cX10_signWord 187 = .ok (.iconst 1, 1) := by decide +kernel
theorem dX10_signWord_188 : decode cX10_signWord 188 = .ok (.aload_n 0, 1) := by decide +kernel
theorem dX10_signWord_189 : decode cX10_signWord 189 = .ok (.getfield 85, 3) := by decide +kernel
theorem dX10_signWord_192 : decode cX10_signWord 192 = .ok (.invokevirtual 91, 3) := by decide +kernel
theorem dX10_signWord_195 : decode cX10_signWord 195 = .ok (.return_, 1) := by decide +kernel
theorem dX10_isSign_0 : decode cX10_isSign 0 = .ok (.aload_n 0, 1) := by decide +kernel
theorem dX10_isSign_1 : decode cX10_isSign 1 = .ok (.getfield 79, 3) := by decide +kernel
theorem dX10_isSign_4 : decode cX10_isSign 4 = .ok (.iconst 5, 1) := by decide +kernel
theorem dX10_isSign_5 : decode cX10_isSign 5 = .ok (.if_icmp .ne 15, 3) := by decide +kernel
theorem dX10_isSign_8 : decode cX10_isSign 8 = .ok (.aload_n 0, 1) := by decide +kernel
theorem dX10_isSign_9 : decode cX10_isSign 9 = .ok (.getfield 82, 3) := by decide +kernel
theorem dX10_isSign_12 : decode cX10_isSign 12 = .ok (.iload_n 1, 1) := by decide +kernel
theorem dX10_isSign_13 : decode cX10_isSign 13 = .ok (.if_icmp .ne 7, 3) := by decide +kernel
theorem dX10_isSign_16 : decode cX10_isSign 16 = .ok (.iconst 1, 1) := by decide +kernel
theorem dX10_isSign_17 : decode cX10_isSign 17 = .ok (.goto 4, 3) := by decide +kernel
theorem dX10_isSign_20 : decode cX10_isSign 20 = .ok (.iconst 0, 1) := by decide +kernel
theorem dX10_isSign_21 : decode cX10_isSign 21 = .ok (.ireturn, 1) := by decide +kernel
theorem dX10_byteOf_0 : decode cX10_byteOf 0 = .ok (.aload_n 0, 1) := by decide +kernel
theorem dX10_byteOf_1 : decode cX10_byteOf 1 = .ok (.getfield 85, 3) := by decide +kernel
theorem dX10_byteOf_4 : decode cX10_byteOf 4 = .ok (.iload_n 1, 1) := by decide +kernel
theorem dX10_byteOf_5 : decode cX10_byteOf 5 = .ok (.iadd, 1) := by decide +kernel
theorem dX10_byteOf_6 : decode cX10_byteOf 6 = .ok (.aload_n 0, 1) := by decide +kernel
theorem dX10_byteOf_7 : decode cX10_byteOf 7 = .ok (.getfield 88, 3) := by decide +kernel
theorem dX10_byteOf_10 : decode cX10_byteOf 10 = .ok (.if_icmp .ge 17, 3) := by decide +kernel
theorem dX10_byteOf_13 : decode cX10_byteOf 13 = .ok (.aload_n 0, 1) := by decide +kernel
theorem dX10_byteOf_14 : decode cX10_byteOf 14 = .ok (.getfield 13, 3) := by decide +kernel
theorem dX10_byteOf_17 : decode cX10_byteOf 17 = .ok (.aload_n 0, 1) := by decide +kernel
theorem dX10_byteOf_18 : decode cX10_byteOf 18 = .ok (.getfield 85, 3) := by decide +kernel
theorem dX10_byteOf_21 : decode cX10_byteOf 21 = .ok (.iload_n 1, 1) := by decide +kernel
theorem dX10_byteOf_22 : decode cX10_byteOf 22 = .ok (.iadd, 1) := by decide +kernel
theorem dX10_byteOf_23 : decode cX10_byteOf 23 = .ok (.iaload, 1) := by decide +kernel
theorem dX10_byteOf_24 : decode cX10_byteOf 24 = .ok (.goto 4, 3) := by decide +kernel
theorem dX10_byteOf_27 : decode cX10_byteOf 27 = .ok (.iconst 0, 1) := by decide +kernel
theorem dX10_byteOf_28 : decode cX10_byteOf 28 = .ok (.ireturn, 1) := by decide +kernel
theorem dX10_is_0 : decode cX10_is 0 = .ok (.aload_n 0, 1) := by decide +kernel
theorem dX10_is_1 : decode cX10_is 1 = .ok (.iconst 0, 1) := by decide +kernel
theorem dX10_is_2 : decode cX10_is 2 = .ok (.invokevirtual 129, 3) := by decide +kernel
theorem dX10_is_5 : decode cX10_is 5 = .ok (.iload_n 1, 1) := by decide +kernel
theorem dX10_is_6 : decode cX10_is 6 = .ok (.if_icmp .ne 48, 3) := by decide +kernel
theorem dX10_is_9 : decode cX10_is 9 = .ok (.aload_n 0, 1) := by decide +kernel
theorem dX10_is_10 : decode cX10_is 10 = .ok (.iconst 1, 1) := by decide +kernel
theorem dX10_is_11 : decode cX10_is 11 = .ok (.invokevirtual 129, 3) := by decide +kernel
theorem dX10_is_14 : decode cX10_is 14 = .ok (.iload_n 2, 1) := by decide +kernel
theorem dX10_is_15 : decode cX10_is 15 = .ok (.if_icmp .ne 39, 3) := by decide +kernel
theorem dX10_is_18 : decode cX10_is 18 = .ok (.aload_n 0, 1) := by decide +kernel
theorem dX10_is_19 : decode cX10_is 19 = .ok (.iconst 2, 1) := by decide +kernel
theorem dX10_is_20 : decode cX10_is 20 = .ok (.invokevirtual 129, 3) := by decide +kernel
theorem dX10_is_23 : decode cX10_is 23 = .ok (.iload_n 3, 1) := by decide +kernel
theorem dX10_is_24 : decode cX10_is 24 = .ok (.if_icmp .ne 30, 3) := by decide +kernel
theorem dX10_is_27 : decode cX10_is 27 = .ok (.aload_n 0, 1) := by decide +kernel
theorem dX10_is_28 : decode cX10_is 28 = .ok (.iconst 3, 1) := by decide +kernel
theorem dX10_is_29 : decode cX10_is 29 = .ok (.invokevirtual 129, 3) := by decide +kernel
theorem dX10_is_32 : decode cX10_is 32 = .ok (.iload 4, 2) := by decide +kernel
theorem dX10_is_34 : decode cX10_is 34 = .ok (.if_icmp .ne 20, 3) := by decide +kernel
theorem dX10_is_37 : decode cX10_is 37 = .ok (.iload 4, 2) := by decide +kernel
theorem dX10_is_39 : decode cX10_is 39 = .ok (.ifCond .eq 11, 3) := by decide +kernel
theorem dX10_is_42 : decode cX10_is 42 = .ok (.aload_n 0, 1) := by decide +kernel
theorem dX10_is_43 : decode cX10_is 43 = .ok (.iconst 4, 1) := by decide +kernel
theorem dX10_is_44 : decode cX10_is 44 = .ok (.invokevirtual 129, 3) := by decide +kernel
theorem dX10_is_47 : decode cX10_is 47 = .ok (.ifCond .ne 7, 3) := by decide +kernel
theorem dX10_is_50 : decode cX10_is 50 = .ok (.iconst 1, 1) := by decide +kernel
theorem dX10_is_51 : decode cX10_is 51 = .ok (.goto 4, 3) := by decide +kernel
theorem dX10_is_54 : decode cX10_is 54 = .ok (.iconst 0, 1) := by decide +kernel
theorem dX10_is_55 : decode cX10_is 55 = .ok (.ireturn, 1) := by decide +kernel
theorem dX10_register_0 : decode cX10_register 0 = .ok (.aload_n 0, 1) := by decide +kernel
theorem dX10_register_1 : decode cX10_register 1 = .ok (.getfield 79, 3) := by decide +kernel
theorem dX10_register_4 : decode cX10_register 4 = .ok (.iconst 1, 1) := by decide +kernel
theorem dX10_register_5 : decode cX10_register 5 = .ok (.if_icmp .eq 5, 3) := by decide +kernel
theorem dX10_register_8 : decode cX10_register 8 = .ok (.iconst (-1), 1) := by decide +kernel
theorem dX10_register_9 : decode cX10_register 9 = .ok (.ireturn, 1) := by decide +kernel
theorem dX10_register_10 : decode cX10_register 10 = .ok (.aload_n 0, 1) := by decide +kernel
theorem dX10_register_11 : decode cX10_register 11 = .ok (.bipush 122, 2) := by decide +kernel
theorem dX10_register_13 : decode cX10_register 13 = .ok (.bipush 101, 2) := by decide +kernel
theorem dX10_register_15 : decode cX10_register 15 = .ok (.bipush 114, 2) := by decide +kernel
theorem dX10_register_17 : decode cX10_register 17 = .ok (.bipush 111, 2) := by decide +kernel
theorem dX10_register_19 : decode cX10_register 19 = .ok (.invokevirtual 132, 3) := by decide +kernel
theorem dX10_register_22 : decode cX10_register 22 = .ok (.ifCond .eq 5, 3) := by decide +kernel
theorem dX10_register_25 : decode cX10_register 25 = .ok (.iconst 0, 1) := by decide +kernel
theorem dX10_register_26 : decode cX10_register 26 = .ok (.ireturn, 1) := by decide +kernel
theorem dX10_register_27 : decode cX10_register 27 = .ok (.aload_n 0, 1) := by decide +kernel
theorem dX10_register_28 : decode cX10_register 28 = .ok (.bipush 114, 2) := by decide +kernel
theorem dX10_register_30 : decode cX10_register 30 = .ok (.bipush 97, 2) := by decide +kernel
theorem dX10_register_32 : decode cX10_register 32 = .ok (.iconst 0, 1) := by decide +kernel
theorem dX10_register_33 : decode cX10_register 33 = .ok (.iconst 0, 1) := by decide +kernel
theorem dX10_register_34 : decode cX10_register 34 = .ok (.invokevirtual 132, 3) := by decide +kernel
theorem dX10_register_37 : decode cX10_register 37 = .ok (.ifCond .eq 5, 3) := by decide +kernel
theorem dX10_register_40 : decode cX10_register 40 = .ok (.iconst 1, 1) := by decide +kernel
theorem dX10_register_41 : decode cX10_register 41 = .ok (.ireturn, 1) := by decide +kernel
theorem dX10_register_42 : decode cX10_register 42 = .ok (.aload_n 0, 1) := by decide +kernel
theorem dX10_register_43 : decode cX10_register 43 = .ok (.bipush 115, 2) := by decide +kernel
theorem dX10_register_45 : decode cX10_register 45 = .ok (.bipush 112, 2) := by decide +kernel
theorem dX10_register_47 : decode cX10_register 47 = .ok (.iconst 0, 1) := by decide +kernel
theorem dX10_register_48 : decode cX10_register 48 = .ok (.iconst 0, 1) := by decide +kernel
theorem dX10_register_49 : decode cX10_register 49 = .ok (.invokevirtual 132, 3) := by decide +kernel
theorem dX10_register_52 : decode cX10_register 52 = .ok (.ifCond .eq 5, 3) := by decide +kernel
theorem dX10_register_55 : decode cX10_register 55 = .ok (.iconst 2, 1) := by decide +kernel
theorem dX10_register_56 : decode cX10_register 56 = .ok (.ireturn, 1) := by decide +kernel
theorem dX10_register_57 : decode cX10_register 57 = .ok (.aload_n 0, 1) := by decide +kernel
