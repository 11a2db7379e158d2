theorem dX7_init_0 : decode cX7_init 0 = .ok (.aload_n 0, 1) := by decide +kernel
theorem dX7_init_1 : decode cX7_init 1 = .ok (.invokespecial 3, 3) := by decide +kernel
theorem dX7_init_4 : decode cX7_init 4 = .ok (.aload_n 0, 1) := by decide +kernel
theorem dX7_init_5 : decode cX7_init 5 = .ok (.sipush 6000, 3) := by decide +kernel
theorem dX7_init_8 : decode cX7_init 8 = .ok (.newarray .int, 2) := by decide +kernel
theorem dX7_init_10 : decode cX7_init 10 = .ok (.putfield 11, 3) := by decide +kernel
theorem dX7_init_13 : decode cX7_init 13 = .ok (.aload_n 0, 1) := by decide +kernel
theorem dX7_init_14 : decode cX7_init 14 = .ok (.bipush 60, 2) := by decide +kernel
theorem dX7_init_16 : decode cX7_init 16 = .ok (.newarray .int, 2) := by decide +kernel
theorem dX7_init_18 : decode cX7_init 18 = .ok (.putfield 15, 3) := by decide +kernel
theorem dX7_init_21 : decode cX7_init 21 = .ok (.return_, 1) := by decide +kernel
theorem dX7_write_0 : decode cX7_write 0 = .ok (.aload_n 1, 1) := by decide +kernel
theorem dX7_write_1 : decode cX7_write 1 = .ok (.getfield 18, 3) := by decide +kernel
theorem dX7_write_4 : decode cX7_write 4 = .ok (.iload_n 2, 1) := by decide +kernel
theorem dX7_write_5 : decode cX7_write 5 = .ok (.iconst 0, 1) := by decide +kernel
theorem dX7_write_6 : decode cX7_write 6 = .ok (.iconst (-1), 1) := by decide +kernel
theorem dX7_write_7 : decode cX7_write 7 = .ok (.invokevirtual 24, 3) := by decide +kernel
theorem dX7_write_10 : decode cX7_write 10 = .ok (.istore_n 3, 1) := by decide +kernel
theorem dX7_write_11 : decode cX7_write 11 = .ok (.iload_n 3, 1) := by decide +kernel
theorem dX7_write_12 : decode cX7_write 12 = .ok (.iconst (-1), 1) := by decide +kernel
theorem dX7_write_13 : decode cX7_write 13 = .ok (.if_icmp .ne 5, 3) := by decide +kernel
theorem dX7_write_16 : decode cX7_write 16 = .ok (.iconst (-1), 1) := by decide +kernel
theorem dX7_write_17 : decode cX7_write 17 = .ok (.ireturn, 1) := by decide +kernel
theorem dX7_write_18 : decode cX7_write 18 = .ok (.aload_n 0, 1) := by decide +kernel
theorem dX7_write_19 : decode cX7_write 19 = .ok (.iconst 0, 1) := by decide +kernel
theorem dX7_write_20 : decode cX7_write 20 = .ok (.putfield 30, 3) := by decide +kernel
theorem dX7_write_23 : decode cX7_write 23 = .ok (.aload_n 1, 1) := by decide +kernel
theorem dX7_write_24 : decode cX7_write 24 = .ok (.getfield 18, 3) := by decide +kernel
theorem dX7_write_27 : decode cX7_write 27 = .ok (.iload_n 2, 1) := by decide +kernel
theorem dX7_write_28 : decode cX7_write 28 = .ok (.iconst 1, 1) := by decide +kernel
theorem dX7_write_29 : decode cX7_write 29 = .ok (.iconst 0, 1) := by decide +kernel
theorem dX7_write_30 : decode cX7_write 30 = .ok (.invokevirtual 24, 3) := by decide +kernel
theorem dX7_write_33 : decode cX7_write 33 = .ok (.istore 4, 2) := by decide +kernel
theorem dX7_write_35 : decode cX7_write 35 = .ok (.iload_n 3, 1) := by decide +kernel
theorem dX7_write_36 : decode cX7_write 36 = .ok (.iconst 1, 1) := by decide +kernel
theorem dX7_write_37 : decode cX7_write 37 = .ok (.if_icmp .ne 15, 3) := by decide +kernel
theorem dX7_write_40 : decode cX7_write 40 = .ok (.aload_n 0, 1) := by decide +kernel
theorem dX7_write_41 : decode cX7_write 41 = .ok (.bipush 48, 2) := by decide +kernel
theorem dX7_write_43 : decode cX7_write 43 = .ok (.iload 4, 2) := by decide +kernel
theorem dX7_write_45 : decode cX7_write 45 = .ok (.iadd, 1) := by decide +kernel
theorem dX7_write_46 : decode cX7_write 46 = .ok (.invokevirtual 34, 3) := by decide +kernel
theorem dX7_write_49 : decode cX7_write 49 = .ok (.goto 10, 3) := by decide +kernel
theorem dX7_write_52 : decode cX7_write 52 = .ok (.aload_n 0, 1) := by decide +kernel
theorem dX7_write_53 : decode cX7_write 53 = .ok (.aload_n 1, 1) := by decide +kernel
theorem dX7_write_54 : decode cX7_write 54 = .ok (.iload 4, 2) := by decide +kernel
theorem dX7_write_56 : decode cX7_write 56 = .ok (.invokevirtual 38, 3) := by decide +kernel
theorem dX7_write_59 : decode cX7_write 59 = .ok (.iload_n 3, 1) := by decide +kernel
theorem dX7_write_60 : decode cX7_write 60 = .ok (.iconst 2, 1) := by decide +kernel
theorem dX7_write_61 : decode cX7_write 61 = .ok (.if_icmp .eq 9, 3) := by decide +kernel
theorem dX7_write_64 : decode cX7_write 64 = .ok (.aload_n 0, 1) := by decide +kernel
theorem dX7_write_65 : decode cX7_write 65 = .ok (.bipush 58, 2) := by decide +kernel
theorem dX7_write_67 : decode cX7_write 67 = .ok (.invokevirtual 34, 3) := by decide +kernel
theorem dX7_write_70 : decode cX7_write 70 = .ok (.aload_n 1, 1) := by decide +kernel
theorem dX7_write_71 : decode cX7_write 71 = .ok (.getfield 18, 3) := by decide +kernel
theorem dX7_write_74 : decode cX7_write 74 = .ok (.iload_n 2, 1) := by decide +kernel
theorem dX7_write_75 : decode cX7_write 75 = .ok (.iconst 2, 1) := by decide +kernel
theorem dX7_write_76 : decode cX7_write 76 = .ok (.iconst 0, 1) := by decide +kernel
theorem dX7_write_77 : decode cX7_write 77 = .ok (.invokevirtual 24, 3) := by decide +kernel
theorem dX7_write_80 : decode cX7_write 80 = .ok (.istore 5, 2) := by decide +kernel
theorem dX7_write_82 : decode cX7_write 82 = .ok (.aload_n 1, 1) := by decide +kernel
theorem dX7_write_83 : decode cX7_write 83 = .ok (.getfield 18, 3) := by decide +kernel
theorem dX7_write_86 : decode cX7_write 86 = .ok (.iload_n 2, 1) := by decide +kernel
theorem dX7_write_87 : decode cX7_write 87 = .ok (.iconst 3, 1) := by decide +kernel
theorem dX7_write_88 : decode cX7_write 88 = .ok (.iconst 0, 1) := by decide +kernel
theorem dX7_write_89 : decode cX7_write 89 = .ok (.invokevirtual 24, 3) := by decide +kernel
theorem dX7_write_92 : decode cX7_write 92 = .ok (.istore 6, 2) := by decide +kernel
theorem dX7_write_94 : decode cX7_write 94 = .ok (.iconst 0, 1) := by decide +kernel
theorem dX7_write_95 : decode cX7_write 95 = .ok (.istore 7, 2) := by decide +kernel
theorem dX7_write_97 : decode cX7_write 97 = .ok (.iload 7, 2) := by decide +kernel
theorem dX7_write_99 : decode cX7_write 99 = .ok (.iload 6, 2) := by decide +kernel
theorem dX7_write_101 : decode cX7_write 101 = .ok (.if_icmp .ge 35, 3) := by decide +kernel
theorem dX7_write_104 : decode cX7_write 104 = .ok (.aload_n 0, 1) := by decide +kernel
theorem dX7_write_105 : decode cX7_write 105 = .ok (.iload 7, 2) := by decide +kernel
theorem dX7_write_107 : decode cX7_write 107 = .ok (.ifCond .ne 8, 3) := by decide +kernel
theorem dX7_write_110 : decode cX7_write 110 = .ok (.ldc 42, 2) := by decide +kernel
theorem dX7_write_112 : decode cX7_write 112 = .ok (.goto 5, 3) := by decide +kernel
theorem dX7_write_115 : decode cX7_write 115 = .ok (.ldc 44, 2) := by decide +kernel
theorem dX7_write_117 : decode cX7_write 117 = .ok (.invokevirtual 46, 3) := by decide +kernel
theorem dX7_write_120 : decode cX7_write 120 = .ok (.aload_n 0, 1) := by decide +kernel
theorem dX7_write_121 : decode cX7_write 121 = .ok (.aload_n 1, 1) := by decide +kernel
theorem dX7_write_122 : decode cX7_write 122 = .ok (.iload 5, 2) := by decide +kernel
theorem dX7_write_124 : decode cX7_write 124 = .ok (.iload 7, 2) := by decide +kernel
theorem dX7_write_126 : decode cX7_write 126 = .ok (.iadd, 1) := by decide +kernel
theorem dX7_write_127 : decode cX7_write 127 = .ok (.invokevirtual 50, 3) := by decide +kernel
theorem dX7_write_130 : decode cX7_write 130 = .ok (.iinc 7 1, 3) := by decide +kernel
theorem dX7_write_133 : decode cX7_write 133 = .ok (.goto (-36), 3) := by decide +kernel
theorem dX7_write_136 : decode cX7_write 136 = .ok (.aload_n 0, 1) := by decide +kernel
theorem dX7_write_137 : decode cX7_write 137 = .ok (.getfield 30, 3) := by decide +kernel
theorem dX7_write_140 : decode cX7_write 140 = .ok (.ireturn, 1) := by decide +kernel
theorem dX7_putByte_0 : decode cX7_putByte 0 = .ok (.aload_n 0, 1) := by decide +kernel
theorem dX7_putByte_1 : decode cX7_putByte 1 = .ok (.getfield 30, 3) := by decide +kernel
theorem dX7_putByte_4 : decode cX7_putByte 4 = .ok (.aload_n 0, 1) := by decide +kernel
theorem dX7_putByte_5 : decode cX7_putByte 5 = .ok (.getfield 11, 3) := by decide +kernel
theorem dX7_putByte_8 : decode cX7_putByte 8 = .ok (.arraylength, 1) := by decide +kernel
theorem dX7_putByte_9 : decode cX7_putByte 9 = .ok (.if_icmp .ge 23, 3) := by decide +kernel
theorem dX7_putByte_12 : decode cX7_putByte 12 = .ok (.aload_n 0, 1) := by decide +kernel
theorem dX7_putByte_13 : decode cX7_putByte 13 = .ok (.getfield 11, 3) := by decide +kernel
theorem dX7_putByte_16 : decode cX7_putByte 16 = .ok (.aload_n 0, 1) := by decide +kernel
theorem dX7_putByte_17 : decode cX7_putByte 17 = .ok (.getfield 30, 3) := by decide +kernel
theorem dX7_putByte_20 : decode cX7_putByte 20 = .ok (.iload_n 1, 1) := by decide +kernel
theorem dX7_putByte_21 : decode cX7_putByte 21 = .ok (.iastore, 1) := by decide +kernel
theorem dX7_putByte_22 : decode cX7_putByte 22 = .ok (.aload_n 0, 1) := by decide +kernel
theorem dX7_putByte_23 : decode cX7_putByte 23 = .ok (.dup, 1) := by decide +kernel
theorem dX7_putByte_24 : decode cX7_putByte 24 = .ok (.getfield 30, 3) := by decide +kernel
theorem dX7_putByte_27 : decode cX7_putByte 27 = .ok (.iconst 1, 1) := by decide +kernel
theorem dX7_putByte_28 : decode cX7_putByte 28 = .ok (.iadd, 1) := by decide +kernel
theorem dX7_putByte_29 : decode cX7_putByte 29 = .ok (.putfield 30, 3) := by decide +kernel
theorem dX7_putByte_32 : decode cX7_putByte 32 = .ok (.return_, 1) := by decide +kernel
theorem dX7_byteOfOut_0 : decode cX7_byteOfOut 0 = .ok (.iload_n 1, 1) := by decide +kernel
theorem dX7_byteOfOut_1 : decode cX7_byteOfOut 1 = .ok (.ifCond .lt 29, 3) := by decide +kernel
theorem dX7_byteOfOut_4 : decode cX7_byteOfOut 4 = .ok (.iload_n 1, 1) := by decide +kernel
theorem dX7_byteOfOut_5 : decode cX7_byteOfOut 5 = .ok (.aload_n 0, 1) := by decide +kernel
theorem dX7_byteOfOut_6 : decode cX7_byteOfOut 6 = .ok (.getfield 30, 3) := by decide +kernel
theorem dX7_byteOfOut_9 : decode cX7_byteOfOut 9 = .ok (.if_icmp .ge 21, 3) := by decide +kernel
theorem dX7_byteOfOut_12 : decode cX7_byteOfOut 12 = .ok (.iload_n 1, 1) := by decide +kernel
theorem dX7_byteOfOut_13 : decode cX7_byteOfOut 13 = .ok (.aload_n 0, 1) := by decide +kernel
theorem dX7_byteOfOut_14 : decode cX7_byteOfOut 14 = .ok (.getfield 11, 3) := by decide +kernel
theorem dX7_byteOfOut_17 : decode cX7_byteOfOut 17 = .ok (.arraylength, 1) := by decide +kernel
theorem dX7_byteOfOut_18 : decode cX7_byteOfOut 18 = .ok (.if_icmp .ge 12, 3) := by decide +kernel
theorem dX7_byteOfOut_21 : decode cX7_byteOfOut 21 = .ok (.aload_n 0, 1) := by decide +kernel
theorem dX7_byteOfOut_22 : decode cX7_byteOfOut 22 = .ok (.getfield 11, 3) := by decide +kernel
theorem dX7_byteOfOut_25 : decode cX7_byteOfOut 25 = .ok (.iload_n 1, 1) := by decide +kernel
theorem dX7_byteOfOut_26 : decode cX7_byteOfOut 26 = .ok (.iaload, 1) := by decide +kernel
theorem dX7_byteOfOut_27 : decode cX7_byteOfOut 27 = .ok (.goto 4, 3) := by decide +kernel
theorem dX7_byteOfOut_30 : decode cX7_byteOfOut 30 = .ok (.iconst (-1), 1) := by decide +kernel
theorem dX7_byteOfOut_31 : decode cX7_byteOfOut 31 = .ok (.ireturn, 1) := by decide +kernel
theorem dX7_putText_0 : decode cX7_putText 0 = .ok (.iconst 0, 1) := by decide +kernel
theorem dX7_putText_1 : decode cX7_putText 1 = .ok (.istore_n 2, 1) := by decide +kernel
theorem dX7_putText_2 : decode cX7_putText 2 = .ok (.iload_n 2, 1) := by decide +kernel
theorem dX7_putText_3 : decode cX7_putText 3 = .ok (.aload_n 1, 1) := by decide +kernel
theorem dX7_putText_4 : decode cX7_putText 4 = .ok (.invokevirtual 53, 3) := by decide +kernel
theorem dX7_putText_7 : decode cX7_putText 7 = .ok (.if_icmp .ge 18, 3) := by decide +kernel
theorem dX7_putText_10 : decode cX7_putText 10 = .ok (.aload_n 0, 1) := by decide +kernel
theorem dX7_putText_11 : decode cX7_putText 11 = .ok (.aload_n 1, 1) := by decide +kernel
theorem dX7_putText_12 : decode cX7_putText 12 = .ok (.iload_n 2, 1) := by decide +kernel
theorem dX7_putText_13 : decode cX7_putText 13 = .ok (.invokevirtual 59, 3) := by decide +kernel
theorem dX7_putText_16 : decode cX7_putText 16 = .ok (.invokevirtual 34, 3) := by decide +kernel
theorem dX7_putText_19 : decode cX7_putText 19 = .ok (.iinc 2 1, 3) := by decide +kernel
theorem dX7_putText_22 : decode cX7_putText 22 = .ok (.goto (-20), 3) := by decide +kernel
theorem dX7_putText_25 : decode cX7_putText 25 = .ok (.return_, 1) := by decide +kernel
theorem dX7_putName_0 : decode cX7_putName 0 = .ok (.aload_n 1, 1) := by decide +kernel
theorem dX7_putName_1 : decode cX7_putName 1 = .ok (.getfield 63, 3) := by decide +kernel
theorem dX7_putName_4 : decode cX7_putName 4 = .ok (.iload_n 2, 1) := by decide +kernel
theorem dX7_putName_5 : decode cX7_putName 5 = .ok (.iconst 0, 1) := by decide +kernel
theorem dX7_putName_6 : decode cX7_putName 6 = .ok (.iconst 0, 1) := by decide +kernel
theorem dX7_putName_7 : decode cX7_putName 7 = .ok (.invokevirtual 24, 3) := by decide +kernel
theorem dX7_putName_10 : decode cX7_putName 10 = .ok (.istore_n 3, 1) := by decide +kernel
theorem dX7_putName_11 : decode cX7_putName 11 = .ok (.iload_n 3, 1) := by decide +kernel
theorem dX7_putName_12 : decode cX7_putName 12 = .ok (.aload_n 1, 1) := by decide +kernel
theorem dX7_putName_13 : decode cX7_putName 13 = .ok (.getfield 63, 3) := by decide +kernel
theorem dX7_putName_16 : decode cX7_putName 16 = .ok (.iload_n 2, 1) := by decide +kernel
theorem dX7_putName_17 : decode cX7_putName 17 = .ok (.iconst 1, 1) := by decide +kernel
theorem dX7_putName_18 : decode cX7_putName 18 = .ok (.iconst 0, 1) := by decide +kernel
theorem dX7_putName_19 : decode cX7_putName 19 = .ok (.invokevirtual 24, 3) := by decide +kernel
theorem dX7_putName_22 : decode cX7_putName 22 = .ok (.iadd, 1) := by decide +kernel
theorem dX7_putName_23 : decode cX7_putName 23 = .ok (.istore 4, 2) := by decide +kernel
theorem dX7_putName_25 : decode cX7_putName 25 = .ok (.iload_n 3, 1) := by decide +kernel
theorem dX7_putName_26 : decode cX7_putName 26 = .ok (.istore 5, 2) := by decide +kernel
theorem dX7_putName_28 : decode cX7_putName 28 = .ok (.iload 5, 2) := by decide +kernel
theorem dX7_putName_30 : decode cX7_putName 30 = .ok (.ifCond .lt 37, 3) := by decide +kernel
theorem dX7_putName_33 : decode cX7_putName 33 = .ok (.iload 5, 2) := by decide +kernel
theorem dX7_putName_35 : decode cX7_putName 35 = .ok (.iload 4, 2) := by decide +kernel
theorem dX7_putName_37 : decode cX7_putName 37 = .ok (.if_icmp .ge 30, 3) := by decide +kernel
theorem dX7_putName_40 : decode cX7_putName 40 = .ok (.iload 5, 2) := by decide +kernel
theorem dX7_putName_42 : decode cX7_putName 42 = .ok (.aload_n 1, 1) := by decide +kernel
theorem dX7_putName_43 : decode cX7_putName 43 = .ok (.getfield 66, 3) := by decide +kernel
theorem dX7_putName_46 : decode cX7_putName 46 = .ok (.arraylength, 1) := by decide +kernel
theorem dX7_putName_47 : decode cX7_putName 47 = .ok (.if_icmp .ge 20, 3) := by decide +kernel
theorem dX7_putName_50 : decode cX7_putName 50 = .ok (.aload_n 0, 1) := by decide +kernel
theorem dX7_putName_51 : decode cX7_putName 51 = .ok (.aload_n 1, 1) := by decide +kernel
theorem dX7_putName_52 : decode cX7_putName 52 = .ok (.getfield 66, 3) := by decide +kernel
theorem dX7_putName_55 : decode cX7_putName 55 = .ok (.iload 5, 2) := by decide +kernel
theorem dX7_putName_57 : decode cX7_putName 57 = .ok (.iaload, 1) := by decide +kernel
theorem dX7_putName_58 : decode cX7_putName 58 = .ok (.invokevirtual 34, 3) := by decide +kernel
theorem dX7_putName_61 : decode cX7_putName 61 = .ok (.iinc 5 1, 3) := by decide +kernel
theorem dX7_putName_64 : decode cX7_putName 64 = .ok (.goto (-36), 3) := by decide +kernel
theorem dX7_putName_67 : decode cX7_putName 67 = .ok (.return_, 1) := by decide +kernel
theorem dX7_putNumber_0 : decode cX7_putNumber 0 = .ok (.iload_n 1, 1) := by decide +kernel
theorem dX7_putNumber_1 : decode cX7_putNumber 1 = .ok (.i2l, 1) := by decide +kernel
theorem dX7_putNumber_2 : decode cX7_putNumber 2 = .ok (.ldc2_w 69, 3) := by decide +kernel
theorem dX7_putNumber_5 : decode cX7_putNumber 5 = .ok (.land, 1) := by decide +kernel
theorem dX7_putNumber_6 : decode cX7_putNumber 6 = .ok (.lstore_n 2, 1) := by decide +kernel
theorem dX7_putNumber_7 : decode cX7_putNumber 7 = .ok (.lconst 1, 1) := by decide +kernel
theorem dX7_putNumber_8 : decode cX7_putNumber 8 = .ok (.lstore 4, 2) := by decide +kernel
theorem dX7_putNumber_10 : decode cX7_putNumber 10 = .ok (.iconst 1, 1) := by decide +kernel
theorem dX7_putNumber_11 : decode cX7_putNumber 11 = .ok (.istore 6, 2) := by decide +kernel
theorem dX7_putNumber_13 : decode cX7_putNumber 13 = .ok (.iload 6, 2) := by decide +kernel
theorem dX7_putNumber_15 : decode cX7_putNumber 15 = .ok (.bipush 10, 2) := by decide +kernel
theorem dX7_putNumber_17 : decode cX7_putNumber 17 = .ok (.if_icmp .ge 28, 3) := by decide +kernel
theorem dX7_putNumber_20 : decode cX7_putNumber 20 = .ok (.lload 4, 2) := by decide +kernel
theorem dX7_putNumber_22 : decode cX7_putNumber 22 = .ok (.ldc2_w 71, 3) := by decide +kernel
theorem dX7_putNumber_25 : decode cX7_putNumber 25 = .ok (.lmul, 1) := by decide +kernel
theorem dX7_putNumber_26 : decode cX7_putNumber 26 = .ok (.lload_n 2, 1) := by decide +kernel
theorem dX7_putNumber_27 : decode cX7_putNumber 27 = .ok (.lcmp, 1) := by decide +kernel
theorem dX7_putNumber_28 : decode cX7_putNumber 28 = .ok (.ifCond .gt 17, 3) := by decide +kernel
theorem dX7_putNumber_31 : decode cX7_putNumber 31 = .ok (.lload 4, 2) := by decide +kernel
theorem dX7_putNumber_33 : decode cX7_putNumber 33 = .ok (.ldc2_w 71, 3) := by decide +kernel
theorem dX7_putNumber_36 : decode cX7_putNumber 36 = .ok (.lmul, 1) := by decide +kernel
theorem dX7_putNumber_37 : decode cX7_putNumber 37 = .ok (.lstore 4, 2) := by decide +kernel
theorem dX7_putNumber_39 : decode cX7_putNumber 39 = .ok (.iinc 6 1, 3) := by decide +kernel
theorem dX7_putNumber_42 : decode cX7_putNumber 42 = .ok (.goto (-29), 3) := by decide +kernel
theorem dX7_putNumber_45 : decode cX7_putNumber 45 = .ok (.lload 4, 2) := by decide +kernel
theorem dX7_putNumber_47 : decode cX7_putNumber 47 = .ok (.lconst 0, 1) := by decide +kernel
theorem dX7_putNumber_48 : decode cX7_putNumber 48 = .ok (.lcmp, 1) := by decide +kernel
theorem dX7_putNumber_49 : decode cX7_putNumber 49 = .ok (.ifCond .le 30, 3) := by decide +kernel
theorem dX7_putNumber_52 : decode cX7_putNumber 52 = .ok (.aload_n 0, 1) := by decide +kernel
theorem dX7_putNumber_53 : decode cX7_putNumber 53 = .ok (.bipush 48, 2) := by decide +kernel
theorem dX7_putNumber_55 : decode cX7_putNumber 55 = .ok (.lload_n 2, 1) := by decide +kernel
theorem dX7_putNumber_56 : decode cX7_putNumber 56 = .ok (.lload 4, 2) := by decide +kernel
theorem dX7_putNumber_58 : decode cX7_putNumber 58 = .ok (.ldiv, 1) := by decide +kernel
theorem dX7_putNumber_59 : decode cX7_putNumber 59 = .ok (.ldc2_w 71, 3) := by decide +kernel
theorem dX7_putNumber_62 : decode cX7_putNumber 62 = .ok (.lrem, 1) := by decide +kernel
theorem dX7_putNumber_63 : decode cX7_putNumber 63 = .ok (.l2i, 1) := by decide +kernel
theorem dX7_putNumber_64 : decode cX7_putNumber 64 = .ok (.iadd, 1) := by decide +kernel
theorem dX7_putNumber_65 : decode cX7_putNumber 65 = .ok (.invokevirtual 34, 3) := by decide +kernel
theorem dX7_putNumber_68 : decode cX7_putNumber 68 = .ok (.lload 4, 2) := by decide +kernel
theorem dX7_putNumber_70 : decode cX7_putNumber 70 = .ok (.ldc2_w 71, 3) := by decide +kernel
theorem dX7_putNumber_73 : decode cX7_putNumber 73 = .ok (.ldiv, 1) := by decide +kernel
theorem dX7_putNumber_74 : decode cX7_putNumber 74 = .ok (.lstore 4, 2) := by decide +kernel
theorem dX7_putNumber_76 : decode cX7_putNumber 76 = .ok (.goto (-31), 3) := by decide +kernel
theorem dX7_putNumber_79 : decode cX7_putNumber 79 = .ok (.return_, 1) := by decide +kernel
theorem dX7_putOperand_0 : decode cX7_putOperand 0 = .ok (.aload_n 1, 1) := by decide +kernel
theorem dX7_putOperand_1 : decode cX7_putOperand 1 = .ok (.getfield 73, 3) := by decide +kernel
theorem dX7_putOperand_4 : decode cX7_putOperand 4 = .ok (.iload_n 2, 1) := by decide +kernel
theorem dX7_putOperand_5 : decode cX7_putOperand 5 = .ok (.iconst 0, 1) := by decide +kernel
theorem dX7_putOperand_6 : decode cX7_putOperand 6 = .ok (.iconst (-1), 1) := by decide +kernel
theorem dX7_putOperand_7 : decode cX7_putOperand 7 = .ok (.invokevirtual 24, 3) := by decide +kernel
theorem dX7_putOperand_10 : decode cX7_putOperand 10 = .ok (.istore_n 3, 1) := by decide +kernel
theorem dX7_putOperand_11 : decode cX7_putOperand 11 = .ok (.iload_n 3, 1) := by decide +kernel
theorem dX7_putOperand_12 : decode cX7_putOperand 12 = .ok (.iconst 3, 1) := by decide +kernel
theorem dX7_putOperand_13 : decode cX7_putOperand 13 = .ok (.if_icmp .ne 12, 3) := by decide +kernel
theorem dX7_putOperand_16 : decode cX7_putOperand 16 = .ok (.aload_n 0, 1) := by decide +kernel
theorem dX7_putOperand_17 : decode cX7_putOperand 17 = .ok (.aload_n 1, 1) := by decide +kernel
theorem dX7_putOperand_18 : decode cX7_putOperand 18 = .ok (.iload_n 2, 1) := by decide +kernel
theorem dX7_putOperand_19 : decode cX7_putOperand 19 = .ok (.invokevirtual 76, 3) := by decide +kernel
theorem dX7_putOperand_22 : decode cX7_putOperand 22 = .ok (.goto 23, 3) := by decide +kernel
theorem dX7_putOperand_25 : decode cX7_putOperand 25 = .ok (.iload_n 3, 1) := by decide +kernel
theorem dX7_putOperand_26 : decode cX7_putOperand 26 = .ok (.iconst 1, 1) := by decide +kernel
theorem dX7_putOperand_27 : decode cX7_putOperand 27 = .ok (.if_icmp .ne 12, 3) := by decide +kernel
theorem dX7_putOperand_30 : decode cX7_putOperand 30 = .ok (.aload_n 0, 1) := by decide +kernel
theorem dX7_putOperand_31 : decode cX7_putOperand 31 = .ok (.aload_n 1, 1) := by decide +kernel
theorem dX7_putOperand_32 : decode cX7_putOperand 32 = .ok (.iload_n 2, 1) := by decide +kernel
theorem dX7_putOperand_33 : decode cX7_putOperand 33 = .ok (.invokevirtual 79, 3) := by decide +kernel
theorem dX7_putOperand_36 : decode cX7_putOperand 36 = .ok (.goto 9, 3) := by decide +kernel
theorem dX7_putOperand_39 : decode cX7_putOperand 39 = .ok (.aload_n 0, 1) := by decide +kernel
theorem dX7_putOperand_40 : decode cX7_putOperand 40 = .ok (.aload_n 1, 1) := by decide +kernel
theorem dX7_putOperand_41 : decode cX7_putOperand 41 = .ok (.iload_n 2, 1) := by decide +kernel
theorem dX7_putOperand_42 : decode cX7_putOperand 42 = .ok (.invokevirtual 82, 3) := by decide +kernel
theorem dX7_putOperand_45 : decode cX7_putOperand 45 = .ok (.iload_n 3, 1) := by decide +kernel
theorem dX7_putOperand_46 : decode cX7_putOperand 46 = .ok (.iconst 2, 1) := by decide +kernel
theorem dX7_putOperand_47 : decode cX7_putOperand 47 = .ok (.if_icmp .ne 21, 3) := by decide +kernel
theorem dX7_putOperand_50 : decode cX7_putOperand 50 = .ok (.aload_n 0, 1) := by decide +kernel
theorem dX7_putOperand_51 : decode cX7_putOperand 51 = .ok (.bipush 40, 2) := by decide +kernel
theorem dX7_putOperand_53 : decode cX7_putOperand 53 = .ok (.invokevirtual 34, 3) := by decide +kernel
theorem dX7_putOperand_56 : decode cX7_putOperand 56 = .ok (.aload_n 0, 1) := by decide +kernel
theorem dX7_putOperand_57 : decode cX7_putOperand 57 = .ok (.aload_n 1, 1) := by decide +kernel
theorem dX7_putOperand_58 : decode cX7_putOperand 58 = .ok (.iload_n 2, 1) := by decide +kernel
theorem dX7_putOperand_59 : decode cX7_putOperand 59 = .ok (.invokevirtual 79, 3) := by decide +kernel
theorem dX7_putOperand_62 : decode cX7_putOperand 62 = .ok (.aload_n 0, 1) := by decide +kernel
theorem dX7_putOperand_63 : decode cX7_putOperand 63 = .ok (.bipush 41, 2) := by decide +kernel
theorem dX7_putOperand_65 : decode cX7_putOperand 65 = .ok (.invokevirtual 34, 3) := by decide +kernel
theorem dX7_putOperand_68 : decode cX7_putOperand 68 = .ok (.return_, 1) := by decide +kernel
theorem dX7_putRegister_0 : decode cX7_putRegister 0 = .ok (.aload_n 0, 1) := by decide +kernel
theorem dX7_putRegister_1 : decode cX7_putRegister 1 = .ok (.bipush 120, 2) := by decide +kernel
theorem dX7_putRegister_3 : decode cX7_putRegister 3 = .ok (.invokevirtual 34, 3) := by decide +kernel
theorem dX7_putRegister_6 : decode cX7_putRegister 6 = .ok (.aload_n 0, 1) := by decide +kernel
theorem dX7_putRegister_7 : decode cX7_putRegister 7 = .ok (.aload_n 1, 1) := by decide +kernel
theorem dX7_putRegister_8 : decode cX7_putRegister 8 = .ok (.getfield 73, 3) := by decide +kernel
theorem dX7_putRegister_11 : decode cX7_putRegister 11 = .ok (.iload_n 2, 1) := by decide +kernel
theorem dX7_putRegister_12 : decode cX7_putRegister 12 = .ok (.iconst 1, 1) := by decide +kernel
theorem dX7_putRegister_13 : decode cX7_putRegister 13 = .ok (.iconst 0, 1) := by decide +kernel
theorem dX7_putRegister_14 : decode cX7_putRegister 14 = .ok (.invokevirtual 24, 3) := by decide +kernel
theorem dX7_putRegister_17 : decode cX7_putRegister 17 = .ok (.invokevirtual 85, 3) := by decide +kernel
theorem dX7_putRegister_20 : decode cX7_putRegister 20 = .ok (.return_, 1) := by decide +kernel
theorem dX7_putString_0 : decode cX7_putString 0 = .ok (.aload_n 0, 1) := by decide +kernel
theorem dX7_putString_1 : decode cX7_putString 1 = .ok (.bipush 34, 2) := by decide +kernel
theorem dX7_putString_3 : decode cX7_putString 3 = .ok (.invokevirtual 34, 3) := by decide +kernel
theorem dX7_putString_6 : decode cX7_putString 6 = .ok (.aload_n 1, 1) := by decide +kernel
theorem dX7_putString_7 : decode cX7_putString 7 = .ok (.getfield 73, 3) := by decide +kernel
theorem dX7_putString_10 : decode cX7_putString 10 = .ok (.iload_n 2, 1) := by decide +kernel
theorem dX7_putString_11 : decode cX7_putString 11 = .ok (.bipush 6, 2) := by decide +kernel
theorem dX7_putString_13 : decode cX7_putString 13 = .ok (.iconst 0, 1) := by decide +kernel
theorem dX7_putString_14 : decode cX7_putString 14 = .ok (.invokevirtual 24, 3) := by decide +kernel
theorem dX7_putString_17 : decode cX7_putString 17 = .ok (.istore_n 3, 1) := by decide +kernel
theorem dX7_putString_18 : decode cX7_putString 18 = .ok (.iconst 0, 1) := by decide +kernel
theorem dX7_putString_19 : decode cX7_putString 19 = .ok (.istore 4, 2) := by decide +kernel
theorem dX7_putString_21 : decode cX7_putString 21 = .ok (.iload 4, 2) := by decide +kernel
theorem dX7_putString_23 : decode cX7_putString 23 = .ok (.iload_n 3, 1) := by decide +kernel
theorem dX7_putString_24 : decode cX7_putString 24 = .ok (.if_icmp .ge 20, 3) := by decide +kernel
theorem dX7_putString_27 : decode cX7_putString 27 = .ok (.aload_n 0, 1) := by decide +kernel
theorem dX7_putString_28 : decode cX7_putString 28 = .ok (.aload_n 1, 1) := by decide +kernel
theorem dX7_putString_29 : decode cX7_putString 29 = .ok (.iload_n 2, 1) := by decide +kernel
theorem dX7_putString_30 : decode cX7_putString 30 = .ok (.iload 4, 2) := by decide +kernel
theorem dX7_putString_32 : decode cX7_putString 32 = .ok (.invokevirtual 88, 3) := by decide +kernel
theorem dX7_putString_35 : decode cX7_putString 35 = .ok (.invokevirtual 92, 3) := by decide +kernel
theorem dX7_putString_38 : decode cX7_putString 38 = .ok (.iinc 4 1, 3) := by decide +kernel
theorem dX7_putString_41 : decode cX7_putString 41 = .ok (.goto (-20), 3) := by decide +kernel
theorem dX7_putString_44 : decode cX7_putString 44 = .ok (.aload_n 0, 1) := by decide +kernel
theorem dX7_putString_45 : decode cX7_putString 45 = .ok (.bipush 34, 2) := by decide +kernel
theorem dX7_putString_47 : decode cX7_putString 47 = .ok (.invokevirtual 34, 3) := by decide +kernel
theorem dX7_putString_50 : decode cX7_putString 50 = .ok (.return_, 1) := by decide +kernel
theorem dX7_putStringByte_0 : decode cX7_putStringByte 0 = .ok (.iload_n 1, 1) := by decide +kernel
theorem dX7_putStringByte_1 : decode cX7_putStringByte 1 = .ok (.lookupswitch 96 #[(0, 69), (9, 60), (10, 51), (34, 87), (92, 78)], 51) := by decide +kernel
theorem dX7_putStringByte_52 : decode cX7_putStringByte 52 = .ok (.aload_n 0, 1) := by decide +kernel
theorem dX7_putStringByte_53 : decode cX7_putStringByte 53 = .ok (.ldc 95, 2) := by decide +kernel
theorem dX7_putStringByte_55 : decode cX7_putStringByte 55 = .ok (.invokevirtual 46, 3) := by decide +kernel
theorem dX7_putStringByte_58 : decode cX7_putStringByte 58 = .ok (.goto 44, 3) := by decide +kernel
theorem dX7_putStringByte_61 : decode cX7_putStringByte 61 = .ok (.aload_n 0, 1) := by decide +kernel
theorem dX7_putStringByte_62 : decode cX7_putStringByte 62 = .ok (.ldc 97, 2) := by decide +kernel
theorem dX7_putStringByte_64 : decode cX7_putStringByte 64 = .ok (.invokevirtual 46, 3) := by decide +kernel
theorem dX7_putStringByte_67 : decode cX7_putStringByte 67 = .ok (.goto 35, 3) := by decide +kernel
theorem dX7_putStringByte_70 : decode cX7_putStringByte 70 = .ok (.aload_n 0, 1) := by decide +kernel
theorem dX7_putStringByte_71 : decode cX7_putStringByte 71 = .ok (.ldc 99, 2) := by decide +kernel
theorem dX7_putStringByte_73 : decode cX7_putStringByte 73 = .ok (.invokevirtual 46, 3) := by decide +kernel
theorem dX7_putStringByte_76 : decode cX7_putStringByte 76 = .ok (.goto 26, 3) := by decide +kernel
theorem dX7_putStringByte_79 : decode cX7_putStringByte 79 = .ok (.aload_n 0, 1) := by decide +kernel
theorem dX7_putStringByte_80 : decode cX7_putStringByte 80 = .ok (.ldc 101, 2) := by decide +kernel
theorem dX7_putStringByte_82 : decode cX7_putStringByte 82 = .ok (.invokevirtual 46, 3) := by decide +kernel
theorem dX7_putStringByte_85 : decode cX7_putStringByte 85 = .ok (.goto 17, 3) := by decide +kernel
theorem dX7_putStringByte_88 : decode cX7_putStringByte 88 = .ok (.aload_n 0, 1) := by decide +kernel
theorem dX7_putStringByte_89 : decode cX7_putStringByte 89 = .ok (.ldc 103, 2) := by decide +kernel
theorem dX7_putStringByte_91 : decode cX7_putStringByte 91 = .ok (.invokevirtual 46, 3) := by decide +kernel
theorem dX7_putStringByte_94 : decode cX7_putStringByte 94 = .ok (.goto 8, 3) := by decide +kernel
theorem dX7_putStringByte_97 : decode cX7_putStringByte 97 = .ok (.aload_n 0, 1) := by decide +kernel
theorem dX7_putStringByte_98 : decode cX7_putStringByte 98 = .ok (.iload_n 1, 1) := by decide +kernel
theorem dX7_putStringByte_99 : decode cX7_putStringByte 99 = .ok (.invokevirtual 34, 3) := by decide +kernel
theorem dX7_putStringByte_102 : decode cX7_putStringByte 102 = .ok (.return_, 1) := by decide +kernel
theorem dX7_putExpression_0 : decode cX7_putExpression 0 = .ok (.aload_n 1, 1) := by decide +kernel
theorem dX7_putExpression_1 : decode cX7_putExpression 1 = .ok (.getfield 73, 3) := by decide +kernel
theorem dX7_putExpression_4 : decode cX7_putExpression 4 = .ok (.iload_n 2, 1) := by decide +kernel
theorem dX7_putExpression_5 : decode cX7_putExpression 5 = .ok (.iconst 2, 1) := by decide +kernel
theorem dX7_putExpression_6 : decode cX7_putExpression 6 = .ok (.iconst 0, 1) := by decide +kernel
theorem dX7_putExpression_7 : decode cX7_putExpression 7 = .ok (.invokevirtual 24, 3) := by decide +kernel
theorem dX7_putExpression_10 : decode cX7_putExpression 10 = .ok (.istore_n 3, 1) := by decide +kernel
theorem dX7_putExpression_11 : decode cX7_putExpression 11 = .ok (.aload_n 0, 1) := by decide +kernel
theorem dX7_putExpression_12 : decode cX7_putExpression 12 = .ok (.aload_n 1, 1) := by decide +kernel
theorem dX7_putExpression_13 : decode cX7_putExpression 13 = .ok (.getfield 73, 3) := by decide +kernel
theorem dX7_putExpression_16 : decode cX7_putExpression 16 = .ok (.iload_n 2, 1) := by decide +kernel
theorem dX7_putExpression_17 : decode cX7_putExpression 17 = .ok (.iconst 3, 1) := by decide +kernel
theorem dX7_putExpression_18 : decode cX7_putExpression 18 = .ok (.iconst 0, 1) := by decide +kernel
theorem dX7_putExpression_19 : decode cX7_putExpression 19 = .ok (.invokevirtual 24, 3) := by decide +kernel
theorem dX7_putExpression_22 : decode cX7_putExpression 22 = .ok (.putfield 105, 3) := by decide +kernel
theorem dX7_putExpression_25 : decode cX7_putExpression 25 = .ok (.aload_n 0, 1) := by decide +kernel
theorem dX7_putExpression_26 : decode cX7_putExpression 26 = .ok (.aload_n 1, 1) := by decide +kernel
theorem dX7_putExpression_27 : decode cX7_putExpression 27 = .ok (.getfield 73, 3) := by decide +kernel
theorem dX7_putExpression_30 : decode cX7_putExpression 30 = .ok (.iload_n 2, 1) := by decide +kernel
theorem dX7_putExpression_31 : decode cX7_putExpression 31 = .ok (.iconst 4, 1) := by decide +kernel
theorem dX7_putExpression_32 : decode cX7_putExpression 32 = .ok (.iconst 0, 1) := by decide +kernel
theorem dX7_putExpression_33 : decode cX7_putExpression 33 = .ok (.invokevirtual 24, 3) := by decide +kernel
theorem dX7_putExpression_36 : decode cX7_putExpression 36 = .ok (.bipush 60, 2) := by decide +kernel
theorem dX7_putExpression_38 : decode cX7_putExpression 38 = .ok (.invokestatic 108, 3) := by decide +kernel
theorem dX7_putExpression_41 : decode cX7_putExpression 41 = .ok (.putfield 113, 3) := by decide +kernel
theorem dX7_putExpression_44 : decode cX7_putExpression 44 = .ok (.aload_n 0, 1) := by decide +kernel
theorem dX7_putExpression_45 : decode cX7_putExpression 45 = .ok (.aload_n 1, 1) := by decide +kernel
theorem dX7_putExpression_46 : decode cX7_putExpression 46 = .ok (.invokevirtual 116, 3) := by decide +kernel
theorem dX7_putExpression_49 : decode cX7_putExpression 49 = .ok (.iload_n 3, 1) := by decide +kernel
theorem dX7_putExpression_50 : decode cX7_putExpression 50 = .ok (.ifCond .eq 23, 3) := by decide +kernel
theorem dX7_putExpression_53 : decode cX7_putExpression 53 = .ok (.aload_n 0, 1) := by decide +kernel
theorem dX7_putExpression_54 : decode cX7_putExpression 54 = .ok (.bipush 37, 2) := by decide +kernel
theorem dX7_putExpression_56 : decode cX7_putExpression 56 = .ok (.invokevirtual 34, 3) := by decide +kernel
theorem dX7_putExpression_59 : decode cX7_putExpression 59 = .ok (.aload_n 0, 1) := by decide +kernel
theorem dX7_putExpression_60 : decode cX7_putExpression 60 = .ok (.iload_n 3, 1) := by decide +kernel
theorem dX7_putExpression_61 : decode cX7_putExpression 61 = .ok (.invokestatic 120, 3) := by decide +kernel
theorem dX7_putExpression_64 : decode cX7_putExpression 64 = .ok (.invokevirtual 46, 3) := by decide +kernel
theorem dX7_putExpression_67 : decode cX7_putExpression 67 = .ok (.aload_n 0, 1) := by decide +kernel
theorem dX7_putExpression_68 : decode cX7_putExpression 68 = .ok (.bipush 40, 2) := by decide +kernel
theorem dX7_putExpression_70 : decode cX7_putExpression 70 = .ok (.invokevirtual 34, 3) := by decide +kernel
theorem dX7_putExpression_73 : decode cX7_putExpression 73 = .ok (.aload_n 0, 1) := by decide +kernel
theorem dX7_putExpression_74 : decode cX7_putExpression 74 = .ok (.aload_n 1, 1) := by decide +kernel
theorem dX7_putExpression_75 : decode cX7_putExpression 75 = .ok (.aload_n 0, 1) := by decide +kernel
theorem dX7_putExpression_76 : decode cX7_putExpression 76 = .ok (.getfield 113, 3) := by decide +kernel
theorem dX7_putExpression_79 : decode cX7_putExpression 79 = .ok (.iconst 1, 1) := by decide +kernel
theorem dX7_putExpression_80 : decode cX7_putExpression 80 = .ok (.isub, 1) := by decide +kernel
theorem dX7_putExpression_81 : decode cX7_putExpression 81 = .ok (.iconst 1, 1) := by decide +kernel
theorem dX7_putExpression_82 : decode cX7_putExpression 82 = .ok (.iconst 0, 1) := by decide +kernel
theorem dX7_putExpression_83 : decode cX7_putExpression 83 = .ok (.invokevirtual 128, 3) := by decide +kernel
theorem dX7_putExpression_86 : decode cX7_putExpression 86 = .ok (.iload_n 3, 1) := by decide +kernel
theorem dX7_putExpression_87 : decode cX7_putExpression 87 = .ok (.ifCond .eq 9, 3) := by decide +kernel
theorem dX7_putExpression_90 : decode cX7_putExpression 90 = .ok (.aload_n 0, 1) := by decide +kernel
theorem dX7_putExpression_91 : decode cX7_putExpression 91 = .ok (.bipush 41, 2) := by decide +kernel
theorem dX7_putExpression_93 : decode cX7_putExpression 93 = .ok (.invokevirtual 34, 3) := by decide +kernel
theorem dX7_putExpression_96 : decode cX7_putExpression 96 = .ok (.return_, 1) := by decide +kernel
theorem dX7_findBegins_0 : decode cX7_findBegins 0 = .ok (.iconst 0, 1) := by decide +kernel
theorem dX7_findBegins_1 : decode cX7_findBegins 1 = .ok (.istore_n 2, 1) := by decide +kernel
theorem dX7_findBegins_2 : decode cX7_findBegins 2 = .ok (.iload_n 2, 1) := by decide +kernel
theorem dX7_findBegins_3 : decode cX7_findBegins 3 = .ok (.aload_n 0, 1) := by decide +kernel
theorem dX7_findBegins_4 : decode cX7_findBegins 4 = .ok (.getfield 113, 3) := by decide +kernel
theorem dX7_findBegins_7 : decode cX7_findBegins 7 = .ok (.if_icmp .ge 78, 3) := by decide +kernel
theorem dX7_findBegins_10 : decode cX7_findBegins 10 = .ok (.iload_n 2, 1) := by decide +kernel
theorem dX7_findBegins_11 : decode cX7_findBegins 11 = .ok (.aload_n 0, 1) := by decide +kernel
theorem dX7_findBegins_12 : decode cX7_findBegins 12 = .ok (.getfield 15, 3) := by decide +kernel
theorem dX7_findBegins_15 : decode cX7_findBegins 15 = .ok (.arraylength, 1) := by decide +kernel
theorem dX7_findBegins_16 : decode cX7_findBegins 16 = .ok (.if_icmp .ge 69, 3) := by decide +kernel
theorem dX7_findBegins_19 : decode cX7_findBegins 19 = .ok (.aload_n 0, 1) := by decide +kernel
theorem dX7_findBegins_20 : decode cX7_findBegins 20 = .ok (.aload_n 1, 1) := by decide +kernel
theorem dX7_findBegins_21 : decode cX7_findBegins 21 = .ok (.iload_n 2, 1) := by decide +kernel
theorem dX7_findBegins_22 : decode cX7_findBegins 22 = .ok (.invokevirtual 132, 3) := by decide +kernel
theorem dX7_findBegins_25 : decode cX7_findBegins 25 = .ok (.istore_n 3, 1) := by decide +kernel
theorem dX7_findBegins_26 : decode cX7_findBegins 26 = .ok (.iload_n 3, 1) := by decide +kernel
theorem dX7_findBegins_27 : decode cX7_findBegins 27 = .ok (.invokestatic 136, 3) := by decide +kernel
theorem dX7_findBegins_30 : decode cX7_findBegins 30 = .ok (.ifCond .eq 25, 3) := by decide +kernel
theorem dX7_findBegins_33 : decode cX7_findBegins 33 = .ok (.aload_n 0, 1) := by decide +kernel
theorem dX7_findBegins_34 : decode cX7_findBegins 34 = .ok (.getfield 15, 3) := by decide +kernel
theorem dX7_findBegins_37 : decode cX7_findBegins 37 = .ok (.iload_n 2, 1) := by decide +kernel
theorem dX7_findBegins_38 : decode cX7_findBegins 38 = .ok (.aload_n 0, 1) := by decide +kernel
theorem dX7_findBegins_39 : decode cX7_findBegins 39 = .ok (.aload_n 0, 1) := by decide +kernel
theorem dX7_findBegins_40 : decode cX7_findBegins 40 = .ok (.iload_n 2, 1) := by decide +kernel
theorem dX7_findBegins_41 : decode cX7_findBegins 41 = .ok (.iconst 1, 1) := by decide +kernel
theorem dX7_findBegins_42 : decode cX7_findBegins 42 = .ok (.isub, 1) := by decide +kernel
theorem dX7_findBegins_43 : decode cX7_findBegins 43 = .ok (.invokevirtual 140, 3) := by decide +kernel
theorem dX7_findBegins_46 : decode cX7_findBegins 46 = .ok (.iconst 1, 1) := by decide +kernel
theorem dX7_findBegins_47 : decode cX7_findBegins 47 = .ok (.isub, 1) := by decide +kernel
theorem dX7_findBegins_48 : decode cX7_findBegins 48 = .ok (.invokevirtual 140, 3) := by decide +kernel
theorem dX7_findBegins_51 : decode cX7_findBegins 51 = .ok (.iastore, 1) := by decide +kernel
theorem dX7_findBegins_52 : decode cX7_findBegins 52 = .ok (.goto 27, 3) := by decide +kernel
theorem dX7_findBegins_55 : decode cX7_findBegins 55 = .ok (.aload_n 0, 1) := by decide +kernel
theorem dX7_findBegins_56 : decode cX7_findBegins 56 = .ok (.getfield 15, 3) := by decide +kernel
theorem dX7_findBegins_59 : decode cX7_findBegins 59 = .ok (.iload_n 2, 1) := by decide +kernel
theorem dX7_findBegins_60 : decode cX7_findBegins 60 = .ok (.iload_n 3, 1) := by decide +kernel
theorem dX7_findBegins_61 : decode cX7_findBegins 61 = .ok (.invokestatic 144, 3) := by decide +kernel
theorem dX7_findBegins_64 : decode cX7_findBegins 64 = .ok (.ifCond .eq 13, 3) := by decide +kernel
theorem dX7_findBegins_67 : decode cX7_findBegins 67 = .ok (.aload_n 0, 1) := by decide +kernel
theorem dX7_findBegins_68 : decode cX7_findBegins 68 = .ok (.iload_n 2, 1) := by decide +kernel
theorem dX7_findBegins_69 : decode cX7_findBegins 69 = .ok (.iconst 1, 1) := by decide +kernel
theorem dX7_findBegins_70 : decode cX7_findBegins 70 = .ok (.isub, 1) := by decide +kernel
theorem dX7_findBegins_71 : decode cX7_findBegins 71 = .ok (.invokevirtual 140, 3) := by decide +kernel
theorem dX7_findBegins_74 : decode cX7_findBegins 74 = .ok (.goto 4, 3) := by decide +kernel
theorem dX7_findBegins_77 : decode cX7_findBegins 77 = .ok (.iload_n 2, 1) := by decide +kernel
theorem dX7_findBegins_78 : decode cX7_findBegins 78 = .ok (.iastore, 1) := by decide +kernel
theorem dX7_findBegins_79 : decode cX7_findBegins 79 = .ok (.iinc 2 1, 3) := by decide +kernel
theorem dX7_findBegins_82 : decode cX7_findBegins 82 = .ok (.goto (-80), 3) := by decide +kernel
theorem dX7_findBegins_85 : decode cX7_findBegins 85 = .ok (.return_, 1) := by decide +kernel
theorem dX7_beginOf_0 : decode cX7_beginOf 0 = .ok (.iload_n 1, 1) := by decide +kernel
theorem dX7_beginOf_1 : decode cX7_beginOf 1 = .ok (.ifCond .lt 29, 3) := by decide +kernel
theorem dX7_beginOf_4 : decode cX7_beginOf 4 = .ok (.iload_n 1, 1) := by decide +kernel
theorem dX7_beginOf_5 : decode cX7_beginOf 5 = .ok (.aload_n 0, 1) := by decide +kernel
theorem dX7_beginOf_6 : decode cX7_beginOf 6 = .ok (.getfield 113, 3) := by decide +kernel
theorem dX7_beginOf_9 : decode cX7_beginOf 9 = .ok (.if_icmp .ge 21, 3) := by decide +kernel
theorem dX7_beginOf_12 : decode cX7_beginOf 12 = .ok (.iload_n 1, 1) := by decide +kernel
theorem dX7_beginOf_13 : decode cX7_beginOf 13 = .ok (.aload_n 0, 1) := by decide +kernel
theorem dX7_beginOf_14 : decode cX7_beginOf 14 = .ok (.getfield 15, 3) := by decide +kernel
theorem dX7_beginOf_17 : decode cX7_beginOf 17 = .ok (.arraylength, 1) := by decide +kernel
theorem dX7_beginOf_18 : decode cX7_beginOf 18 = .ok (.if_icmp .ge 12, 3) := by decide +kernel
theorem dX7_beginOf_21 : decode cX7_beginOf 21 = .ok (.aload_n 0, 1) := by decide +kernel
theorem dX7_beginOf_22 : decode cX7_beginOf 22 = .ok (.getfield 15, 3) := by decide +kernel
theorem dX7_beginOf_25 : decode cX7_beginOf 25 = .ok (.iload_n 1, 1) := by decide +kernel
theorem dX7_beginOf_26 : decode cX7_beginOf 26 = .ok (.iaload, 1) := by decide +kernel
theorem dX7_beginOf_27 : decode cX7_beginOf 27 = .ok (.goto 4, 3) := by decide +kernel
theorem dX7_beginOf_30 : decode cX7_beginOf 30 = .ok (.iconst (-1), 1) := by decide +kernel
theorem dX7_beginOf_31 : decode cX7_beginOf 31 = .ok (.ireturn, 1) := by decide +kernel
theorem dX7_sortAt_0 : decode cX7_sortAt 0 = .ok (.aload_n 1, 1) := by decide +kernel
theorem dX7_sortAt_1 : decode cX7_sortAt 1 = .ok (.getfield 147, 3) := by decide +kernel
theorem dX7_sortAt_4 : decode cX7_sortAt 4 = .ok (.aload_n 0, 1) := by decide +kernel
theorem dX7_sortAt_5 : decode cX7_sortAt 5 = .ok (.getfield 105, 3) := by decide +kernel
theorem dX7_sortAt_8 : decode cX7_sortAt 8 = .ok (.iload_n 2, 1) := by decide +kernel
theorem dX7_sortAt_9 : decode cX7_sortAt 9 = .ok (.iadd, 1) := by decide +kernel
theorem dX7_sortAt_10 : decode cX7_sortAt 10 = .ok (.iconst 0, 1) := by decide +kernel
theorem dX7_sortAt_11 : decode cX7_sortAt 11 = .ok (.iconst 0, 1) := by decide +kernel
theorem dX7_sortAt_12 : decode cX7_sortAt 12 = .ok (.invokevirtual 24, 3) := by decide +kernel
theorem dX7_sortAt_15 : decode cX7_sortAt 15 = .ok (.ireturn, 1) := by decide +kernel
theorem dX7_putTree_0 : decode cX7_putTree 0 = .ok (.iload_n 2, 1) := by decide +kernel
theorem dX7_putTree_1 : decode cX7_putTree 1 = .ok (.ifCond .lt 10, 3) := by decide +kernel
theorem dX7_putTree_4 : decode cX7_putTree 4 = .ok (.iload 4, 2) := by decide +kernel
theorem dX7_putTree_6 : decode cX7_putTree 6 = .ok (.bipush 60, 2) := by decide +kernel
theorem dX7_putTree_8 : decode cX7_putTree 8 = .ok (.if_icmp .le 4, 3) := by decide +kernel
theorem dX7_putTree_11 : decode cX7_putTree 11 = .ok (.return_, 1) := by decide +kernel
theorem dX7_putTree_12 : decode cX7_putTree 12 = .ok (.aload_n 0, 1) := by decide +kernel
theorem dX7_putTree_13 : decode cX7_putTree 13 = .ok (.aload_n 1, 1) := by decide +kernel
theorem dX7_putTree_14 : decode cX7_putTree 14 = .ok (.iload_n 2, 1) := by decide +kernel
theorem dX7_putTree_15 : decode cX7_putTree 15 = .ok (.invokevirtual 132, 3) := by decide +kernel
theorem dX7_putTree_18 : decode cX7_putTree 18 = .ok (.istore 5, 2) := by decide +kernel
theorem dX7_putTree_20 : decode cX7_putTree 20 = .ok (.iload 5, 2) := by decide +kernel
theorem dX7_putTree_22 : decode cX7_putTree 22 = .ok (.invokestatic 150, 3) := by decide +kernel
theorem dX7_putTree_25 : decode cX7_putTree 25 = .ok (.istore 6, 2) := by decide +kernel
theorem dX7_putTree_27 : decode cX7_putTree 27 = .ok (.iload 5, 2) := by decide +kernel
theorem dX7_putTree_29 : decode cX7_putTree 29 = .ok (.invokestatic 136, 3) := by decide +kernel
theorem dX7_putTree_32 : decode cX7_putTree 32 = .ok (.ifCond .eq 13, 3) := by decide +kernel
theorem dX7_putTree_35 : decode cX7_putTree 35 = .ok (.iload 6, 2) := by decide +kernel
theorem dX7_putTree_37 : decode cX7_putTree 37 = .ok (.iload_n 3, 1) := by decide +kernel
theorem dX7_putTree_38 : decode cX7_putTree 38 = .ok (.if_icmp .ge 7, 3) := by decide +kernel
theorem dX7_putTree_41 : decode cX7_putTree 41 = .ok (.iconst 1, 1) := by decide +kernel
theorem dX7_putTree_42 : decode cX7_putTree 42 = .ok (.goto 4, 3) := by decide +kernel
theorem dX7_putTree_45 : decode cX7_putTree 45 = .ok (.iconst 0, 1) := by decide +kernel
theorem dX7_putTree_46 : decode cX7_putTree 46 = .ok (.istore 7, 2) := by decide +kernel
theorem dX7_putTree_48 : decode cX7_putTree 48 = .ok (.iload 7, 2) := by decide +kernel
theorem dX7_putTree_50 : decode cX7_putTree 50 = .ok (.ifCond .eq 9, 3) := by decide +kernel
theorem dX7_putTree_53 : decode cX7_putTree 53 = .ok (.aload_n 0, 1) := by decide +kernel
theorem dX7_putTree_54 : decode cX7_putTree 54 = .ok (.bipush 40, 2) := by decide +kernel
theorem dX7_putTree_56 : decode cX7_putTree 56 = .ok (.invokevirtual 34, 3) := by decide +kernel
theorem dX7_putTree_59 : decode cX7_putTree 59 = .ok (.iload 5, 2) := by decide +kernel
theorem dX7_putTree_61 : decode cX7_putTree 61 = .ok (.invokestatic 136, 3) := by decide +kernel
theorem dX7_putTree_64 : decode cX7_putTree 64 = .ok (.ifCond .eq 63, 3) := by decide +kernel
theorem dX7_putTree_67 : decode cX7_putTree 67 = .ok (.aload_n 0, 1) := by decide +kernel
theorem dX7_putTree_68 : decode cX7_putTree 68 = .ok (.aload_n 1, 1) := by decide +kernel
theorem dX7_putTree_69 : decode cX7_putTree 69 = .ok (.aload_n 0, 1) := by decide +kernel
theorem dX7_putTree_70 : decode cX7_putTree 70 = .ok (.iload_n 2, 1) := by decide +kernel
theorem dX7_putTree_71 : decode cX7_putTree 71 = .ok (.iconst 1, 1) := by decide +kernel
theorem dX7_putTree_72 : decode cX7_putTree 72 = .ok (.isub, 1) := by decide +kernel
theorem dX7_putTree_73 : decode cX7_putTree 73 = .ok (.invokevirtual 140, 3) := by decide +kernel
theorem dX7_putTree_76 : decode cX7_putTree 76 = .ok (.iconst 1, 1) := by decide +kernel
theorem dX7_putTree_77 : decode cX7_putTree 77 = .ok (.isub, 1) := by decide +kernel
theorem dX7_putTree_78 : decode cX7_putTree 78 = .ok (.iload 6, 2) := by decide +kernel
theorem dX7_putTree_80 : decode cX7_putTree 80 = .ok (.iload 4, 2) := by decide +kernel
theorem dX7_putTree_82 : decode cX7_putTree 82 = .ok (.iconst 1, 1) := by decide +kernel
theorem dX7_putTree_83 : decode cX7_putTree 83 = .ok (.iadd, 1) := by decide +kernel
theorem dX7_putTree_84 : decode cX7_putTree 84 = .ok (.invokevirtual 128, 3) := by decide +kernel
theorem dX7_putTree_87 : decode cX7_putTree 87 = .ok (.aload_n 0, 1) := by decide +kernel
theorem dX7_putTree_88 : decode cX7_putTree 88 = .ok (.bipush 32, 2) := by decide +kernel
theorem dX7_putTree_90 : decode cX7_putTree 90 = .ok (.invokevirtual 34, 3) := by decide +kernel
theorem dX7_putTree_93 : decode cX7_putTree 93 = .ok (.aload_n 0, 1) := by decide +kernel
theorem dX7_putTree_94 : decode cX7_putTree 94 = .ok (.iload 5, 2) := by decide +kernel
theorem dX7_putTree_96 : decode cX7_putTree 96 = .ok (.invokestatic 153, 3) := by decide +kernel
theorem dX7_putTree_99 : decode cX7_putTree 99 = .ok (.invokevirtual 46, 3) := by decide +kernel
theorem dX7_putTree_102 : decode cX7_putTree 102 = .ok (.aload_n 0, 1) := by decide +kernel
theorem dX7_putTree_103 : decode cX7_putTree 103 = .ok (.bipush 32, 2) := by decide +kernel
theorem dX7_putTree_105 : decode cX7_putTree 105 = .ok (.invokevirtual 34, 3) := by decide +kernel
theorem dX7_putTree_108 : decode cX7_putTree 108 = .ok (.aload_n 0, 1) := by decide +kernel
theorem dX7_putTree_109 : decode cX7_putTree 109 = .ok (.aload_n 1, 1) := by decide +kernel
theorem dX7_putTree_110 : decode cX7_putTree 110 = .ok (.iload_n 2, 1) := by decide +kernel
theorem dX7_putTree_111 : decode cX7_putTree 111 = .ok (.iconst 1, 1) := by decide +kernel
theorem dX7_putTree_112 : decode cX7_putTree 112 = .ok (.isub, 1) := by decide +kernel
theorem dX7_putTree_113 : decode cX7_putTree 113 = .ok (.iload 6, 2) := by decide +kernel
theorem dX7_putTree_115 : decode cX7_putTree 115 = .ok (.iconst 1, 1) := by decide +kernel
theorem dX7_putTree_116 : decode cX7_putTree 116 = .ok (.iadd, 1) := by decide +kernel
theorem dX7_putTree_117 : decode cX7_putTree 117 = .ok (.iload 4, 2) := by decide +kernel
theorem dX7_putTree_119 : decode cX7_putTree 119 = .ok (.iconst 1, 1) := by decide +kernel
theorem dX7_putTree_120 : decode cX7_putTree 120 = .ok (.iadd, 1) := by decide +kernel
theorem dX7_putTree_121 : decode cX7_putTree 121 = .ok (.invokevirtual 128, 3) := by decide +kernel
theorem dX7_putTree_124 : decode cX7_putTree 124 = .ok (.goto 59, 3) := by decide +kernel
theorem dX7_putTree_127 : decode cX7_putTree 127 = .ok (.iload 5, 2) := by decide +kernel
theorem dX7_putTree_129 : decode cX7_putTree 129 = .ok (.invokestatic 144, 3) := by decide +kernel
theorem dX7_putTree_132 : decode cX7_putTree 132 = .ok (.ifCond .eq 29, 3) := by decide +kernel
theorem dX7_putTree_135 : decode cX7_putTree 135 = .ok (.aload_n 0, 1) := by decide +kernel
theorem dX7_putTree_136 : decode cX7_putTree 136 = .ok (.iload 5, 2) := by decide +kernel
theorem dX7_putTree_138 : decode cX7_putTree 138 = .ok (.invokestatic 153, 3) := by decide +kernel
theorem dX7_putTree_141 : decode cX7_putTree 141 = .ok (.invokevirtual 46, 3) := by decide +kernel
theorem dX7_putTree_144 : decode cX7_putTree 144 = .ok (.aload_n 0, 1) := by decide +kernel
theorem dX7_putTree_145 : decode cX7_putTree 145 = .ok (.aload_n 1, 1) := by decide +kernel
theorem dX7_putTree_146 : decode cX7_putTree 146 = .ok (.iload_n 2, 1) := by decide +kernel
theorem dX7_putTree_147 : decode cX7_putTree 147 = .ok (.iconst 1, 1) := by decide +kernel
theorem dX7_putTree_148 : decode cX7_putTree 148 = .ok (.isub, 1) := by decide +kernel
theorem dX7_putTree_149 : decode cX7_putTree 149 = .ok (.bipush 7, 2) := by decide +kernel
theorem dX7_putTree_151 : decode cX7_putTree 151 = .ok (.iload 4, 2) := by decide +kernel
theorem dX7_putTree_153 : decode cX7_putTree 153 = .ok (.iconst 1, 1) := by decide +kernel
theorem dX7_putTree_154 : decode cX7_putTree 154 = .ok (.iadd, 1) := by decide +kernel
theorem dX7_putTree_155 : decode cX7_putTree 155 = .ok (.invokevirtual 128, 3) := by decide +kernel
theorem dX7_putTree_158 : decode cX7_putTree 158 = .ok (.goto 25, 3) := by decide +kernel
theorem dX7_putTree_161 : decode cX7_putTree 161 = .ok (.aload_n 0, 1) := by decide +kernel
theorem dX7_putTree_162 : decode cX7_putTree 162 = .ok (.aload_n 1, 1) := by decide +kernel
theorem dX7_putTree_163 : decode cX7_putTree 163 = .ok (.iload 5, 2) := by decide +kernel
theorem dX7_putTree_165 : decode cX7_putTree 165 = .ok (.aload_n 1, 1) := by decide +kernel
theorem dX7_putTree_166 : decode cX7_putTree 166 = .ok (.getfield 147, 3) := by decide +kernel
theorem dX7_putTree_169 : decode cX7_putTree 169 = .ok (.aload_n 0, 1) := by decide +kernel
theorem dX7_putTree_170 : decode cX7_putTree 170 = .ok (.getfield 105, 3) := by decide +kernel
theorem dX7_putTree_173 : decode cX7_putTree 173 = .ok (.iload_n 2, 1) := by decide +kernel
theorem dX7_putTree_174 : decode cX7_putTree 174 = .ok (.iadd, 1) := by decide +kernel
theorem dX7_putTree_175 : decode cX7_putTree 175 = .ok (.iconst 1, 1) := by decide +kernel
theorem dX7_putTree_176 : decode cX7_putTree 176 = .ok (.iconst 0, 1) := by decide +kernel
theorem dX7_putTree_177 : decode cX7_putTree 177 = .ok (.invokevirtual 24, 3) := by decide +kernel
theorem dX7_putTree_180 : decode cX7_putTree 180 = .ok (.invokevirtual 156, 3) := by decide +kernel
theorem dX7_putTree_183 : decode cX7_putTree 183 = .ok (.iload 7, 2) := by decide +kernel
theorem dX7_putTree_185 : decode cX7_putTree 185 = .ok (.ifCond .eq 9, 3) := by decide +kernel
theorem dX7_putTree_188 : decode cX7_putTree 188 = .ok (.aload_n 0, 1) := by decide +kernel
theorem dX7_putTree_189 : decode cX7_putTree 189 = .ok (.bipush 41, 2) := by decide +kernel
theorem dX7_putTree_191 : decode cX7_putTree 191 = .ok (.invokevirtual 34, 3) := by decide +kernel
theorem dX7_putTree_194 : decode cX7_putTree 194 = .ok (.return_, 1) := by decide +kernel
theorem dX7_putLeaf_0 : decode cX7_putLeaf 0 = .ok (.iload_n 2, 1) := by decide +kernel
theorem dX7_putLeaf_1 : decode cX7_putLeaf 1 = .ok (.tableswitch 75 1 3 #[27, 36, 66], 27) := by decide +kernel
theorem dX7_putLeaf_28 : decode cX7_putLeaf 28 = .ok (.aload_n 0, 1) := by decide +kernel
theorem dX7_putLeaf_29 : decode cX7_putLeaf 29 = .ok (.aload_n 1, 1) := by decide +kernel
theorem dX7_putLeaf_30 : decode cX7_putLeaf 30 = .ok (.iload_n 3, 1) := by decide +kernel
theorem dX7_putLeaf_31 : decode cX7_putLeaf 31 = .ok (.invokevirtual 38, 3) := by decide +kernel
theorem dX7_putLeaf_34 : decode cX7_putLeaf 34 = .ok (.goto 47, 3) := by decide +kernel
theorem dX7_putLeaf_37 : decode cX7_putLeaf 37 = .ok (.aload_n 0, 1) := by decide +kernel
theorem dX7_putLeaf_38 : decode cX7_putLeaf 38 = .ok (.bipush 48, 2) := by decide +kernel
theorem dX7_putLeaf_40 : decode cX7_putLeaf 40 = .ok (.iload_n 3, 1) := by decide +kernel
theorem dX7_putLeaf_41 : decode cX7_putLeaf 41 = .ok (.iconst 1, 1) := by decide +kernel
theorem dX7_putLeaf_42 : decode cX7_putLeaf 42 = .ok (.ishr, 1) := by decide +kernel
theorem dX7_putLeaf_43 : decode cX7_putLeaf 43 = .ok (.iadd, 1) := by decide +kernel
theorem dX7_putLeaf_44 : decode cX7_putLeaf 44 = .ok (.invokevirtual 34, 3) := by decide +kernel
theorem dX7_putLeaf_47 : decode cX7_putLeaf 47 = .ok (.aload_n 0, 1) := by decide +kernel
theorem dX7_putLeaf_48 : decode cX7_putLeaf 48 = .ok (.iload_n 3, 1) := by decide +kernel
theorem dX7_putLeaf_49 : decode cX7_putLeaf 49 = .ok (.iconst 1, 1) := by decide +kernel
theorem dX7_putLeaf_50 : decode cX7_putLeaf 50 = .ok (.iand, 1) := by decide +kernel
theorem dX7_putLeaf_51 : decode cX7_putLeaf 51 = .ok (.ifCond .ne 8, 3) := by decide +kernel
theorem dX7_putLeaf_54 : decode cX7_putLeaf 54 = .ok (.bipush 98, 2) := by decide +kernel
theorem dX7_putLeaf_56 : decode cX7_putLeaf 56 = .ok (.goto 5, 3) := by decide +kernel
theorem dX7_putLeaf_59 : decode cX7_putLeaf 59 = .ok (.bipush 102, 2) := by decide +kernel
theorem dX7_putLeaf_61 : decode cX7_putLeaf 61 = .ok (.invokevirtual 34, 3) := by decide +kernel
theorem dX7_putLeaf_64 : decode cX7_putLeaf 64 = .ok (.goto 17, 3) := by decide +kernel
theorem dX7_putLeaf_67 : decode cX7_putLeaf 67 = .ok (.aload_n 0, 1) := by decide +kernel
theorem dX7_putLeaf_68 : decode cX7_putLeaf 68 = .ok (.bipush 46, 2) := by decide +kernel
theorem dX7_putLeaf_70 : decode cX7_putLeaf 70 = .ok (.invokevirtual 34, 3) := by decide +kernel
theorem dX7_putLeaf_73 : decode cX7_putLeaf 73 = .ok (.goto 8, 3) := by decide +kernel
theorem dX7_putLeaf_76 : decode cX7_putLeaf 76 = .ok (.aload_n 0, 1) := by decide +kernel
theorem dX7_putLeaf_77 : decode cX7_putLeaf 77 = .ok (.iload_n 3, 1) := by decide +kernel
theorem dX7_putLeaf_78 : decode cX7_putLeaf 78 = .ok (.invokevirtual 85, 3) := by decide +kernel
theorem dX7_putLeaf_81 : decode cX7_putLeaf 81 = .ok (.return_, 1) := by decide +kernel
theorem dX8_init_0 : decode cX8_init 0 = .ok (.aload_n 0, 1) := by decide +kernel
theorem dX8_init_1 : decode cX8_init 1 = .ok (.invokespecial 3, 3) := by decide +kernel
theorem dX8_init_4 : decode cX8_init 4 = .ok (.aload_n 0, 1) := by decide +kernel
theorem dX8_init_5 : decode cX8_init 5 = .ok (.sipush 3000, 3) := by decide +kernel
theorem dX8_init_8 : decode cX8_init 8 = .ok (.newarray .int, 2) := by decide +kernel
theorem dX8_init_10 : decode cX8_init 10 = .ok (.putfield 9, 3) := by decide +kernel
theorem dX8_init_13 : decode cX8_init 13 = .ok (.aload_n 0, 1) := by decide +kernel
theorem dX8_init_14 : decode cX8_init 14 = .ok (.new 15, 3) := by decide +kernel
theorem dX8_init_17 : decode cX8_init 17 = .ok (.dup, 1) := by decide +kernel
theorem dX8_init_18 : decode cX8_init 18 = .ok (.sipush 3001, 3) := by decide +kernel
theorem dX8_init_21 : decode cX8_init 21 = .ok (.iconst 3, 1) := by decide +kernel
theorem dX8_init_22 : decode cX8_init 22 = .ok (.invokespecial 17, 3) := by decide +kernel
theorem dX8_init_25 : decode cX8_init 25 = .ok (.putfield 20, 3) := by decide +kernel
theorem dX8_init_28 : decode cX8_init 28 = .ok (.return_, 1) := by decide +kernel
theorem dX8_addByte_0 : decode cX8_addByte 0 = .ok (.aload_n 0, 1) := by decide +kernel
theorem dX8_addByte_1 : decode cX8_addByte 1 = .ok (.getfield 24, 3) := by decide +kernel
theorem dX8_addByte_4 : decode cX8_addByte 4 = .ok (.aload_n 0, 1) := by decide +kernel
theorem dX8_addByte_5 : decode cX8_addByte 5 = .ok (.getfield 9, 3) := by decide +kernel
theorem dX8_addByte_8 : decode cX8_addByte 8 = .ok (.arraylength, 1) := by decide +kernel
theorem dX8_addByte_9 : decode cX8_addByte 9 = .ok (.if_icmp .ge 23, 3) := by decide +kernel
theorem dX8_addByte_12 : decode cX8_addByte 12 = .ok (.aload_n 0, 1) := by decide +kernel
theorem dX8_addByte_13 : decode cX8_addByte 13 = .ok (.getfield 9, 3) := by decide +kernel
theorem dX8_addByte_16 : decode cX8_addByte 16 = .ok (.aload_n 0, 1) := by decide +kernel
theorem dX8_addByte_17 : decode cX8_addByte 17 = .ok (.getfield 24, 3) := by decide +kernel
theorem dX8_addByte_20 : decode cX8_addByte 20 = .ok (.iload_n 1, 1) := by decide +kernel
theorem dX8_addByte_21 : decode cX8_addByte 21 = .ok (.iastore, 1) := by decide +kernel
theorem dX8_addByte_22 : decode cX8_addByte 22 = .ok (.aload_n 0, 1) := by decide +kernel
theorem dX8_addByte_23 : decode cX8_addByte 23 = .ok (.dup, 1) := by decide +kernel
theorem dX8_addByte_24 : decode cX8_addByte 24 = .ok (.getfield 24, 3) := by decide +kernel
theorem dX8_addByte_27 : decode cX8_addByte 27 = .ok (.iconst 1, 1) := by decide +kernel
theorem dX8_addByte_28 : decode cX8_addByte 28 = .ok (.iadd, 1) := by decide +kernel
theorem dX8_addByte_29 : decode cX8_addByte 29 = .ok (.putfield 24, 3) := by decide +kernel
theorem dX8_addByte_32 : decode cX8_addByte 32 = .ok (.return_, 1) := by decide +kernel
theorem dX8_scan_0 : decode cX8_scan 0 = .ok (.aload_n 0, 1) := by decide +kernel
theorem dX8_scan_1 : decode cX8_scan 1 = .ok (.aload_n 0, 1) := by decide +kernel
theorem dX8_scan_2 : decode cX8_scan 2 = .ok (.getfield 24, 3) := by decide +kernel
theorem dX8_scan_5 : decode cX8_scan 5 = .ok (.putfield 28, 3) := by decide +kernel
theorem dX8_scan_8 : decode cX8_scan 8 = .ok (.aload_n 0, 1) := by decide +kernel
theorem dX8_scan_9 : decode cX8_scan 9 = .ok (.iconst 0, 1) := by decide +kernel
theorem dX8_scan_10 : decode cX8_scan 10 = .ok (.putfield 24, 3) := by decide +kernel
theorem dX8_scan_13 : decode cX8_scan 13 = .ok (.aload_n 0, 1) := by decide +kernel
theorem dX8_scan_14 : decode cX8_scan 14 = .ok (.iconst 0, 1) := by decide +kernel
theorem dX8_scan_15 : decode cX8_scan 15 = .ok (.putfield 31, 3) := by decide +kernel
theorem dX8_scan_18 : decode cX8_scan 18 = .ok (.aload_n 0, 1) := by decide +kernel
theorem dX8_scan_19 : decode cX8_scan 19 = .ok (.getfield 20, 3) := by decide +kernel
theorem dX8_scan_22 : decode cX8_scan 22 = .ok (.iconst 0, 1) := by decide +kernel
theorem dX8_scan_23 : decode cX8_scan 23 = .ok (.putfield 34, 3) := by decide +kernel
theorem dX8_scan_26 : decode cX8_scan 26 = .ok (.bipush 25, 2) := by decide +kernel
theorem dX8_scan_28 : decode cX8_scan 28 = .ok (.istore_n 1, 1) := by decide +kernel
theorem dX8_scan_29 : decode cX8_scan 29 = .ok (.iconst 0, 1) := by decide +kernel
theorem dX8_scan_30 : decode cX8_scan 30 = .ok (.istore_n 2, 1) := by decide +kernel
theorem dX8_scan_31 : decode cX8_scan 31 = .ok (.iload_n 2, 1) := by decide +kernel
theorem dX8_scan_32 : decode cX8_scan 32 = .ok (.sipush 3000, 3) := by decide +kernel
theorem dX8_scan_35 : decode cX8_scan 35 = .ok (.if_icmp .ge 57, 3) := by decide +kernel
theorem dX8_scan_38 : decode cX8_scan 38 = .ok (.aload_n 0, 1) := by decide +kernel
theorem dX8_scan_39 : decode cX8_scan 39 = .ok (.getfield 31, 3) := by decide +kernel
theorem dX8_scan_42 : decode cX8_scan 42 = .ok (.aload_n 0, 1) := by decide +kernel
theorem dX8_scan_43 : decode cX8_scan 43 = .ok (.getfield 28, 3) := by decide +kernel
theorem dX8_scan_46 : decode cX8_scan 46 = .ok (.if_icmp .ge 46, 3) := by decide +kernel
theorem dX8_scan_49 : decode cX8_scan 49 = .ok (.iload_n 1, 1) := by decide +kernel
theorem dX8_scan_50 : decode cX8_scan 50 = .ok (.bipush 24, 2) := by decide +kernel
theorem dX8_scan_52 : decode cX8_scan 52 = .ok (.if_icmp .eq 40, 3) := by decide +kernel
theorem dX8_scan_55 : decode cX8_scan 55 = .ok (.aload_n 0, 1) := by decide +kernel
theorem dX8_scan_56 : decode cX8_scan 56 = .ok (.getfield 31, 3) := by decide +kernel
theorem dX8_scan_59 : decode cX8_scan 59 = .ok (.istore_n 3, 1) := by decide +kernel
theorem dX8_scan_60 : decode cX8_scan 60 = .ok (.aload_n 0, 1) := by decide +kernel
theorem dX8_scan_61 : decode cX8_scan 61 = .ok (.iconst 0, 1) := by decide +kernel
theorem dX8_scan_62 : decode cX8_scan 62 = .ok (.putfield 37, 3) := by decide +kernel
theorem dX8_scan_65 : decode cX8_scan 65 = .ok (.aload_n 0, 1) := by decide +kernel
theorem dX8_scan_66 : decode cX8_scan 66 = .ok (.invokevirtual 40, 3) := by decide +kernel
theorem dX8_scan_69 : decode cX8_scan 69 = .ok (.istore_n 1, 1) := by decide +kernel
theorem dX8_scan_70 : decode cX8_scan 70 = .ok (.iload_n 1, 1) := by decide +kernel
theorem dX8_scan_71 : decode cX8_scan 71 = .ok (.bipush 25, 2) := by decide +kernel
theorem dX8_scan_73 : decode cX8_scan 73 = .ok (.if_icmp .eq 13, 3) := by decide +kernel
theorem dX8_scan_76 : decode cX8_scan 76 = .ok (.aload_n 0, 1) := by decide +kernel
theorem dX8_scan_77 : decode cX8_scan 77 = .ok (.iload_n 1, 1) := by decide +kernel
theorem dX8_scan_78 : decode cX8_scan 78 = .ok (.iload_n 3, 1) := by decide +kernel
theorem dX8_scan_79 : decode cX8_scan 79 = .ok (.aload_n 0, 1) := by decide +kernel
theorem dX8_scan_80 : decode cX8_scan 80 = .ok (.getfield 37, 3) := by decide +kernel
theorem dX8_scan_83 : decode cX8_scan 83 = .ok (.invokevirtual 44, 3) := by decide +kernel
theorem dX8_scan_86 : decode cX8_scan 86 = .ok (.iinc 2 1, 3) := by decide +kernel
theorem dX8_scan_89 : decode cX8_scan 89 = .ok (.goto (-58), 3) := by decide +kernel
theorem dX8_scan_92 : decode cX8_scan 92 = .ok (.iload_n 1, 1) := by decide +kernel
theorem dX8_scan_93 : decode cX8_scan 93 = .ok (.bipush 24, 2) := by decide +kernel
theorem dX8_scan_95 : decode cX8_scan 95 = .ok (.if_icmp .eq 13, 3) := by decide +kernel
theorem dX8_scan_98 : decode cX8_scan 98 = .ok (.aload_n 0, 1) := by decide +kernel
theorem dX8_scan_99 : decode cX8_scan 99 = .ok (.iconst 0, 1) := by decide +kernel
theorem dX8_scan_100 : decode cX8_scan 100 = .ok (.aload_n 0, 1) := by decide +kernel
theorem dX8_scan_101 : decode cX8_scan 101 = .ok (.getfield 28, 3) := by decide +kernel
theorem dX8_scan_104 : decode cX8_scan 104 = .ok (.iconst 0, 1) := by decide +kernel
theorem dX8_scan_105 : decode cX8_scan 105 = .ok (.invokevirtual 44, 3) := by decide +kernel
theorem dX8_scan_108 : decode cX8_scan 108 = .ok (.return_, 1) := by decide +kernel
theorem dX8_addWord_0 : decode cX8_addWord 0 = .ok (.aload_n 0, 1) := by decide +kernel
theorem dX8_addWord_1 : decode cX8_addWord 1 = .ok (.getfield 20, 3) := by decide +kernel
theorem dX8_addWord_4 : decode cX8_addWord 4 = .ok (.invokevirtual 48, 3) := by decide +kernel
theorem dX8_addWord_7 : decode cX8_addWord 7 = .ok (.istore 4, 2) := by decide +kernel
theorem dX8_addWord_9 : decode cX8_addWord 9 = .ok (.aload_n 0, 1) := by decide +kernel
theorem dX8_addWord_10 : decode cX8_addWord 10 = .ok (.getfield 20, 3) := by decide +kernel
theorem dX8_addWord_13 : decode cX8_addWord 13 = .ok (.iload 4, 2) := by decide +kernel
theorem dX8_addWord_15 : decode cX8_addWord 15 = .ok (.iconst 0, 1) := by decide +kernel
theorem dX8_addWord_16 : decode cX8_addWord 16 = .ok (.iload_n 1, 1) := by decide +kernel
theorem dX8_addWord_17 : decode cX8_addWord 17 = .ok (.invokevirtual 51, 3) := by decide +kernel
theorem dX8_addWord_20 : decode cX8_addWord 20 = .ok (.aload_n 0, 1) := by decide +kernel
theorem dX8_addWord_21 : decode cX8_addWord 21 = .ok (.getfield 20, 3) := by decide +kernel
theorem dX8_addWord_24 : decode cX8_addWord 24 = .ok (.iload 4, 2) := by decide +kernel
theorem dX8_addWord_26 : decode cX8_addWord 26 = .ok (.iconst 1, 1) := by decide +kernel
theorem dX8_addWord_27 : decode cX8_addWord 27 = .ok (.iload_n 2, 1) := by decide +kernel
theorem dX8_addWord_28 : decode cX8_addWord 28 = .ok (.invokevirtual 51, 3) := by decide +kernel
theorem dX8_addWord_31 : decode cX8_addWord 31 = .ok (.aload_n 0, 1) := by decide +kernel
theorem dX8_addWord_32 : decode cX8_addWord 32 = .ok (.getfield 20, 3) := by decide +kernel
theorem dX8_addWord_35 : decode cX8_addWord 35 = .ok (.iload 4, 2) := by decide +kernel
theorem dX8_addWord_37 : decode cX8_addWord 37 = .ok (.iconst 2, 1) := by decide +kernel
theorem dX8_addWord_38 : decode cX8_addWord 38 = .ok (.iload_n 3, 1) := by decide +kernel
theorem dX8_addWord_39 : decode cX8_addWord 39 = .ok (.invokevirtual 51, 3) := by decide +kernel
theorem dX8_addWord_42 : decode cX8_addWord 42 = .ok (.return_, 1) := by decide +kernel
theorem dX8_scanOne_0 : decode cX8_scanOne 0 = .ok (.aload_n 0, 1) := by decide +kernel
theorem dX8_scanOne_1 : decode cX8_scanOne 1 = .ok (.aload_n 0, 1) := by decide +kernel
theorem dX8_scanOne_2 : decode cX8_scanOne 2 = .ok (.getfield 31, 3) := by decide +kernel
theorem dX8_scanOne_5 : decode cX8_scanOne 5 = .ok (.invokevirtual 54, 3) := by decide +kernel
theorem dX8_scanOne_8 : decode cX8_scanOne 8 = .ok (.istore_n 1, 1) := by decide +kernel
theorem dX8_scanOne_9 : decode cX8_scanOne 9 = .ok (.iload_n 1, 1) := by decide +kernel
theorem dX8_scanOne_10 : decode cX8_scanOne 10 = .ok (.bipush 32, 2) := by decide +kernel
theorem dX8_scanOne_12 : decode cX8_scanOne 12 = .ok (.if_icmp .eq 9, 3) := by decide +kernel
theorem dX8_scanOne_15 : decode cX8_scanOne 15 = .ok (.iload_n 1, 1) := by decide +kernel
theorem dX8_scanOne_16 : decode cX8_scanOne 16 = .ok (.bipush 9, 2) := by decide +kernel
theorem dX8_scanOne_18 : decode cX8_scanOne 18 = .ok (.if_icmp .ne 16, 3) := by decide +kernel
theorem dX8_scanOne_21 : decode cX8_scanOne 21 = .ok (.aload_n 0, 1) := by decide +kernel
theorem dX8_scanOne_22 : decode cX8_scanOne 22 = .ok (.dup, 1) := by decide +kernel
theorem dX8_scanOne_23 : decode cX8_scanOne 23 = .ok (.getfield 31, 3) := by decide +kernel
theorem dX8_scanOne_26 : decode cX8_scanOne 26 = .ok (.iconst 1, 1) := by decide +kernel
theorem dX8_scanOne_27 : decode cX8_scanOne 27 = .ok (.iadd, 1) := by decide +kernel
theorem dX8_scanOne_28 : decode cX8_scanOne 28 = .ok (.putfield 31, 3) := by decide +kernel
theorem dX8_scanOne_31 : decode cX8_scanOne 31 = .ok (.bipush 25, 2) := by decide +kernel
theorem dX8_scanOne_33 : decode cX8_scanOne 33 = .ok (.ireturn, 1) := by decide +kernel
theorem dX8_scanOne_34 : decode cX8_scanOne 34 = .ok (.iload_n 1, 1) := by decide +kernel
theorem dX8_scanOne_35 : decode cX8_scanOne 35 = .ok (.bipush 10, 2) := by decide +kernel
theorem dX8_scanOne_37 : decode cX8_scanOne 37 = .ok (.if_icmp .ne 15, 3) := by decide +kernel
theorem dX8_scanOne_40 : decode cX8_scanOne 40 = .ok (.aload_n 0, 1) := by decide +kernel
theorem dX8_scanOne_41 : decode cX8_scanOne 41 = .ok (.dup, 1) := by decide +kernel
theorem dX8_scanOne_42 : decode cX8_scanOne 42 = .ok (.getfield 31, 3) := by decide +kernel
theorem dX8_scanOne_45 : decode cX8_scanOne 45 = .ok (.iconst 1, 1) := by decide +kernel
theorem dX8_scanOne_46 : decode cX8_scanOne 46 = .ok (.iadd, 1) := by decide +kernel
theorem dX8_scanOne_47 : decode cX8_scanOne 47 = .ok (.putfield 31, 3) := by decide +kernel
theorem dX8_scanOne_50 : decode cX8_scanOne 50 = .ok (.iconst 0, 1) := by decide +kernel
theorem dX8_scanOne_51 : decode cX8_scanOne 51 = .ok (.ireturn, 1) := by decide +kernel
theorem dX8_scanOne_52 : decode cX8_scanOne 52 = .ok (.iload_n 1, 1) := by decide +kernel
theorem dX8_scanOne_53 : decode cX8_scanOne 53 = .ok (.bipush 35, 2) := by decide +kernel
theorem dX8_scanOne_55 : decode cX8_scanOne 55 = .ok (.if_icmp .ne 8, 3) := by decide +kernel
theorem dX8_scanOne_58 : decode cX8_scanOne 58 = .ok (.aload_n 0, 1) := by decide +kernel
theorem dX8_scanOne_59 : decode cX8_scanOne 59 = .ok (.invokevirtual 58, 3) := by decide +kernel
theorem dX8_scanOne_62 : decode cX8_scanOne 62 = .ok (.ireturn, 1) := by decide +kernel
theorem dX8_scanOne_63 : decode cX8_scanOne 63 = .ok (.iload_n 1, 1) := by decide +kernel
theorem dX8_scanOne_64 : decode cX8_scanOne 64 = .ok (.invokestatic 61, 3) := by decide +kernel
theorem dX8_scanOne_67 : decode cX8_scanOne 67 = .ok (.ifCond .eq 8, 3) := by decide +kernel
theorem dX8_scanOne_70 : decode cX8_scanOne 70 = .ok (.aload_n 0, 1) := by decide +kernel
theorem dX8_scanOne_71 : decode cX8_scanOne 71 = .ok (.invokevirtual 65, 3) := by decide +kernel
theorem dX8_scanOne_74 : decode cX8_scanOne 74 = .ok (.ireturn, 1) := by decide +kernel
theorem dX8_scanOne_75 : decode cX8_scanOne 75 = .ok (.iload_n 1, 1) := by decide +kernel
theorem dX8_scanOne_76 : decode cX8_scanOne 76 = .ok (.invokestatic 68, 3) := by decide +kernel
theorem dX8_scanOne_79 : decode cX8_scanOne 79 = .ok (.ifCond .eq 14, 3) := by decide +kernel
theorem dX8_scanOne_82 : decode cX8_scanOne 82 = .ok (.iload_n 1, 1) := by decide +kernel
theorem dX8_scanOne_83 : decode cX8_scanOne 83 = .ok (.bipush 36, 2) := by decide +kernel
theorem dX8_scanOne_85 : decode cX8_scanOne 85 = .ok (.if_icmp .eq 8, 3) := by decide +kernel
theorem dX8_scanOne_88 : decode cX8_scanOne 88 = .ok (.aload_n 0, 1) := by decide +kernel
theorem dX8_scanOne_89 : decode cX8_scanOne 89 = .ok (.invokevirtual 71, 3) := by decide +kernel
theorem dX8_scanOne_92 : decode cX8_scanOne 92 = .ok (.ireturn, 1) := by decide +kernel
theorem dX8_scanOne_93 : decode cX8_scanOne 93 = .ok (.iload_n 1, 1) := by decide +kernel
theorem dX8_scanOne_94 : decode cX8_scanOne 94 = .ok (.bipush 39, 2) := by decide +kernel
theorem dX8_scanOne_96 : decode cX8_scanOne 96 = .ok (.if_icmp .ne 8, 3) := by decide +kernel
theorem dX8_scanOne_99 : decode cX8_scanOne 99 = .ok (.aload_n 0, 1) := by decide +kernel
theorem dX8_scanOne_100 : decode cX8_scanOne 100 = .ok (.invokevirtual 74, 3) := by decide +kernel
theorem dX8_scanOne_103 : decode cX8_scanOne 103 = .ok (.ireturn, 1) := by decide +kernel
theorem dX8_scanOne_104 : decode cX8_scanOne 104 = .ok (.iload_n 1, 1) := by decide +kernel
theorem dX8_scanOne_105 : decode cX8_scanOne 105 = .ok (.bipush 34, 2) := by decide +kernel
theorem dX8_scanOne_107 : decode cX8_scanOne 107 = .ok (.if_icmp .ne 8, 3) := by decide +kernel
theorem dX8_scanOne_110 : decode cX8_scanOne 110 = .ok (.aload_n 0, 1) := by decide +kernel
theorem dX8_scanOne_111 : decode cX8_scanOne 111 = .ok (.invokevirtual 77, 3) := by decide +kernel
theorem dX8_scanOne_114 : decode cX8_scanOne 114 = .ok (.ireturn, 1) := by decide +kernel
theorem dX8_scanOne_115 : decode cX8_scanOne 115 = .ok (.aload_n 0, 1) := by decide +kernel
theorem dX8_scanOne_116 : decode cX8_scanOne 116 = .ok (.iload_n 1, 1) := by decide +kernel
theorem dX8_scanOne_117 : decode cX8_scanOne 117 = .ok (.invokevirtual 80, 3) := by decide +kernel
theorem dX8_scanOne_120 : decode cX8_scanOne 120 = .ok (.ireturn, 1) := by decide +kernel
theorem dX8_bad_0 : decode cX8_bad 0 = .ok (.aload_n 0, 1) := by decide +kernel
theorem dX8_bad_1 : decode cX8_bad 1 = .ok (.iload_n 1, 1) := by decide +kernel
theorem dX8_bad_2 : decode cX8_bad 2 = .ok (.putfield 37, 3) := by decide +kernel
theorem dX8_bad_5 : decode cX8_bad 5 = .ok (.bipush 24, 2) := by decide +kernel
theorem dX8_bad_7 : decode cX8_bad 7 = .ok (.ireturn, 1) := by decide +kernel
theorem dX8_scanComment_0 : decode cX8_scanComment 0 = .ok (.aload_n 0, 1) := by decide +kernel
theorem dX8_scanComment_1 : decode cX8_scanComment 1 = .ok (.getfield 31, 3) := by decide +kernel
theorem dX8_scanComment_4 : decode cX8_scanComment 4 = .ok (.aload_n 0, 1) := by decide +kernel
theorem dX8_scanComment_5 : decode cX8_scanComment 5 = .ok (.getfield 28, 3) := by decide +kernel
theorem dX8_scanComment_8 : decode cX8_scanComment 8 = .ok (.if_icmp .ge 55, 3) := by decide +kernel
theorem dX8_scanComment_11 : decode cX8_scanComment 11 = .ok (.aload_n 0, 1) := by decide +kernel
theorem dX8_scanComment_12 : decode cX8_scanComment 12 = .ok (.aload_n 0, 1) := by decide +kernel
theorem dX8_scanComment_13 : decode cX8_scanComment 13 = .ok (.getfield 31, 3) := by decide +kernel
theorem dX8_scanComment_16 : decode cX8_scanComment 16 = .ok (.invokevirtual 54, 3) := by decide +kernel
theorem dX8_scanComment_19 : decode cX8_scanComment 19 = .ok (.bipush 32, 2) := by decide +kernel
theorem dX8_scanComment_21 : decode cX8_scanComment 21 = .ok (.if_icmp .lt 16, 3) := by decide +kernel
theorem dX8_scanComment_24 : decode cX8_scanComment 24 = .ok (.aload_n 0, 1) := by decide +kernel
theorem dX8_scanComment_25 : decode cX8_scanComment 25 = .ok (.aload_n 0, 1) := by decide +kernel
theorem dX8_scanComment_26 : decode cX8_scanComment 26 = .ok (.getfield 31, 3) := by decide +kernel
theorem dX8_scanComment_29 : decode cX8_scanComment 29 = .ok (.invokevirtual 54, 3) := by decide +kernel
theorem dX8_scanComment_32 : decode cX8_scanComment 32 = .ok (.bipush 126, 2) := by decide +kernel
theorem dX8_scanComment_34 : decode cX8_scanComment 34 = .ok (.if_icmp .le 16, 3) := by decide +kernel
theorem dX8_scanComment_37 : decode cX8_scanComment 37 = .ok (.aload_n 0, 1) := by decide +kernel
theorem dX8_scanComment_38 : decode cX8_scanComment 38 = .ok (.aload_n 0, 1) := by decide +kernel
theorem dX8_scanComment_39 : decode cX8_scanComment 39 = .ok (.getfield 31, 3) := by decide +kernel
theorem dX8_scanComment_42 : decode cX8_scanComment 42 = .ok (.invokevirtual 54, 3) := by decide +kernel
theorem dX8_scanComment_45 : decode cX8_scanComment 45 = .ok (.bipush 9, 2) := by decide +kernel
theorem dX8_scanComment_47 : decode cX8_scanComment 47 = .ok (.if_icmp .ne 16, 3) := by decide +kernel
theorem dX8_scanComment_50 : decode cX8_scanComment 50 = .ok (.aload_n 0, 1) := by decide +kernel
theorem dX8_scanComment_51 : decode cX8_scanComment 51 = .ok (.dup, 1) := by decide +kernel
theorem dX8_scanComment_52 : decode cX8_scanComment 52 = .ok (.getfield 31, 3) := by decide +kernel
theorem dX8_scanComment_55 : decode cX8_scanComment 55 = .ok (.iconst 1, 1) := by decide +kernel
theorem dX8_scanComment_56 : decode cX8_scanComment 56 = .ok (.iadd, 1) := by decide +kernel
theorem dX8_scanComment_57 : decode cX8_scanComment 57 = .ok (.putfield 31, 3) := by decide +kernel
theorem dX8_scanComment_60 : decode cX8_scanComment 60 = .ok (.goto (-60), 3) := by decide +kernel
theorem dX8_scanComment_63 : decode cX8_scanComment 63 = .ok (.bipush 25, 2) := by decide +kernel
theorem dX8_scanComment_65 : decode cX8_scanComment 65 = .ok (.ireturn, 1) := by decide +kernel
theorem dX8_scanName_0 : decode cX8_scanName 0 = .ok (.aload_n 0, 1) := by decide +kernel
theorem dX8_scanName_1 : decode cX8_scanName 1 = .ok (.getfield 31, 3) := by decide +kernel
theorem dX8_scanName_4 : decode cX8_scanName 4 = .ok (.istore_n 1, 1) := by decide +kernel
theorem dX8_scanName_5 : decode cX8_scanName 5 = .ok (.aload_n 0, 1) := by decide +kernel
theorem dX8_scanName_6 : decode cX8_scanName 6 = .ok (.getfield 31, 3) := by decide +kernel
theorem dX8_scanName_9 : decode cX8_scanName 9 = .ok (.aload_n 0, 1) := by decide +kernel
theorem dX8_scanName_10 : decode cX8_scanName 10 = .ok (.getfield 28, 3) := by decide +kernel
theorem dX8_scanName_13 : decode cX8_scanName 13 = .ok (.if_icmp .ge 30, 3) := by decide +kernel
theorem dX8_scanName_16 : decode cX8_scanName 16 = .ok (.aload_n 0, 1) := by decide +kernel
theorem dX8_scanName_17 : decode cX8_scanName 17 = .ok (.aload_n 0, 1) := by decide +kernel
theorem dX8_scanName_18 : decode cX8_scanName 18 = .ok (.getfield 31, 3) := by decide +kernel
theorem dX8_scanName_21 : decode cX8_scanName 21 = .ok (.invokevirtual 54, 3) := by decide +kernel
theorem dX8_scanName_24 : decode cX8_scanName 24 = .ok (.invokestatic 68, 3) := by decide +kernel
theorem dX8_scanName_27 : decode cX8_scanName 27 = .ok (.ifCond .eq 16, 3) := by decide +kernel
theorem dX8_scanName_30 : decode cX8_scanName 30 = .ok (.aload_n 0, 1) := by decide +kernel
theorem dX8_scanName_31 : decode cX8_scanName 31 = .ok (.dup, 1) := by decide +kernel
theorem dX8_scanName_32 : decode cX8_scanName 32 = .ok (.getfield 31, 3) := by decide +kernel
theorem dX8_scanName_35 : decode cX8_scanName 35 = .ok (.iconst 1, 1) := by decide +kernel
theorem dX8_scanName_36 : decode cX8_scanName 36 = .ok (.iadd, 1) := by decide +kernel
theorem dX8_scanName_37 : decode cX8_scanName 37 = .ok (.putfield 31, 3) := by decide +kernel
theorem dX8_scanName_40 : decode cX8_scanName 40 = .ok (.goto (-35), 3) := by decide +kernel
theorem dX8_scanName_43 : decode cX8_scanName 43 = .ok (.aload_n 0, 1) := by decide +kernel
theorem dX8_scanName_44 : decode cX8_scanName 44 = .ok (.aload_n 0, 1) := by decide +kernel
theorem dX8_scanName_45 : decode cX8_scanName 45 = .ok (.getfield 31, 3) := by decide +kernel
theorem dX8_scanName_48 : decode cX8_scanName 48 = .ok (.iload_n 1, 1) := by decide +kernel
theorem dX8_scanName_49 : decode cX8_scanName 49 = .ok (.isub, 1) := by decide +kernel
theorem dX8_scanName_50 : decode cX8_scanName 50 = .ok (.putfield 37, 3) := by decide +kernel
theorem dX8_scanName_53 : decode cX8_scanName 53 = .ok (.aload_n 0, 1) := by decide +kernel
theorem dX8_scanName_54 : decode cX8_scanName 54 = .ok (.getfield 37, 3) := by decide +kernel
theorem dX8_scanName_57 : decode cX8_scanName 57 = .ok (.bipush 16, 2) := by decide +kernel
theorem dX8_scanName_59 : decode cX8_scanName 59 = .ok (.if_icmp .le 9, 3) := by decide +kernel
theorem dX8_scanName_62 : decode cX8_scanName 62 = .ok (.aload_n 0, 1) := by decide +kernel
theorem dX8_scanName_63 : decode cX8_scanName 63 = .ok (.iconst 2, 1) := by decide +kernel
theorem dX8_scanName_64 : decode cX8_scanName 64 = .ok (.invokevirtual 83, 3) := by decide +kernel
theorem dX8_scanName_67 : decode cX8_scanName 67 = .ok (.ireturn, 1) := by decide +kernel
theorem dX8_scanName_68 : decode cX8_scanName 68 = .ok (.aload_n 0, 1) := by decide +kernel
theorem dX8_scanName_69 : decode cX8_scanName 69 = .ok (.getfield 37, 3) := by decide +kernel
theorem dX8_scanName_72 : decode cX8_scanName 72 = .ok (.iconst 1, 1) := by decide +kernel
theorem dX8_scanName_73 : decode cX8_scanName 73 = .ok (.if_icmp .ne 20, 3) := by decide +kernel
theorem dX8_scanName_76 : decode cX8_scanName 76 = .ok (.aload_n 0, 1) := by decide +kernel
theorem dX8_scanName_77 : decode cX8_scanName 77 = .ok (.iload_n 1, 1) := by decide +kernel
theorem dX8_scanName_78 : decode cX8_scanName 78 = .ok (.invokevirtual 54, 3) := by decide +kernel
theorem dX8_scanName_81 : decode cX8_scanName 81 = .ok (.bipush 46, 2) := by decide +kernel
theorem dX8_scanName_83 : decode cX8_scanName 83 = .ok (.if_icmp .ne 10, 3) := by decide +kernel
theorem dX8_scanName_86 : decode cX8_scanName 86 = .ok (.aload_n 0, 1) := by decide +kernel
theorem dX8_scanName_87 : decode cX8_scanName 87 = .ok (.iconst 0, 1) := by decide +kernel
theorem dX8_scanName_88 : decode cX8_scanName 88 = .ok (.putfield 37, 3) := by decide +kernel
theorem dX8_scanName_91 : decode cX8_scanName 91 = .ok (.iconst 3, 1) := by decide +kernel
theorem dX8_scanName_92 : decode cX8_scanName 92 = .ok (.ireturn, 1) := by decide +kernel
theorem dX8_scanName_93 : decode cX8_scanName 93 = .ok (.aload_n 0, 1) := by decide +kernel
theorem dX8_scanName_94 : decode cX8_scanName 94 = .ok (.getfield 9, 3) := by decide +kernel
theorem dX8_scanName_97 : decode cX8_scanName 97 = .ok (.iload_n 1, 1) := by decide +kernel
theorem dX8_scanName_98 : decode cX8_scanName 98 = .ok (.aload_n 0, 1) := by decide +kernel
theorem dX8_scanName_99 : decode cX8_scanName 99 = .ok (.getfield 37, 3) := by decide +kernel
theorem dX8_scanName_102 : decode cX8_scanName 102 = .ok (.invokestatic 86, 3) := by decide +kernel
theorem dX8_scanName_105 : decode cX8_scanName 105 = .ok (.iconst (-1), 1) := by decide +kernel
theorem dX8_scanName_106 : decode cX8_scanName 106 = .ok (.if_icmp .ne 7, 3) := by decide +kernel
theorem dX8_scanName_109 : decode cX8_scanName 109 = .ok (.iconst 1, 1) := by decide +kernel
theorem dX8_scanName_110 : decode cX8_scanName 110 = .ok (.goto 4, 3) := by decide +kernel
theorem dX8_scanName_113 : decode cX8_scanName 113 = .ok (.iconst 2, 1) := by decide +kernel
theorem dX8_scanName_114 : decode cX8_scanName 114 = .ok (.ireturn, 1) := by decide +kernel
theorem dX8_scanNumber_0 : decode cX8_scanNumber 0 = .ok (.aload_n 0, 1) := by decide +kernel
theorem dX8_scanNumber_1 : decode cX8_scanNumber 1 = .ok (.aload_n 0, 1) := by decide +kernel
theorem dX8_scanNumber_2 : decode cX8_scanNumber 2 = .ok (.getfield 31, 3) := by decide +kernel
theorem dX8_scanNumber_5 : decode cX8_scanNumber 5 = .ok (.invokevirtual 54, 3) := by decide +kernel
theorem dX8_scanNumber_8 : decode cX8_scanNumber 8 = .ok (.istore_n 1, 1) := by decide +kernel
theorem dX8_scanNumber_9 : decode cX8_scanNumber 9 = .ok (.aload_n 0, 1) := by decide +kernel
theorem dX8_scanNumber_10 : decode cX8_scanNumber 10 = .ok (.aload_n 0, 1) := by decide +kernel
theorem dX8_scanNumber_11 : decode cX8_scanNumber 11 = .ok (.getfield 31, 3) := by decide +kernel
theorem dX8_scanNumber_14 : decode cX8_scanNumber 14 = .ok (.iconst 1, 1) := by decide +kernel
theorem dX8_scanNumber_15 : decode cX8_scanNumber 15 = .ok (.iadd, 1) := by decide +kernel
theorem dX8_scanNumber_16 : decode cX8_scanNumber 16 = .ok (.invokevirtual 54, 3) := by decide +kernel
theorem dX8_scanNumber_19 : decode cX8_scanNumber 19 = .ok (.istore_n 2, 1) := by decide +kernel
theorem dX8_scanNumber_20 : decode cX8_scanNumber 20 = .ok (.iload_n 1, 1) := by decide +kernel
theorem dX8_scanNumber_21 : decode cX8_scanNumber 21 = .ok (.bipush 48, 2) := by decide +kernel
theorem dX8_scanNumber_23 : decode cX8_scanNumber 23 = .ok (.if_icmp .ne 22, 3) := by decide +kernel
theorem dX8_scanNumber_26 : decode cX8_scanNumber 26 = .ok (.iload_n 2, 1) := by decide +kernel
theorem dX8_scanNumber_27 : decode cX8_scanNumber 27 = .ok (.bipush 120, 2) := by decide +kernel
theorem dX8_scanNumber_29 : decode cX8_scanNumber 29 = .ok (.if_icmp .ne 16, 3) := by decide +kernel
theorem dX8_scanNumber_32 : decode cX8_scanNumber 32 = .ok (.aload_n 0, 1) := by decide +kernel
theorem dX8_scanNumber_33 : decode cX8_scanNumber 33 = .ok (.bipush 16, 2) := by decide +kernel
theorem dX8_scanNumber_35 : decode cX8_scanNumber 35 = .ok (.aload_n 0, 1) := by decide +kernel
theorem dX8_scanNumber_36 : decode cX8_scanNumber 36 = .ok (.getfield 31, 3) := by decide +kernel
theorem dX8_scanNumber_39 : decode cX8_scanNumber 39 = .ok (.iconst 2, 1) := by decide +kernel
theorem dX8_scanNumber_40 : decode cX8_scanNumber 40 = .ok (.iadd, 1) := by decide +kernel
theorem dX8_scanNumber_41 : decode cX8_scanNumber 41 = .ok (.invokevirtual 92, 3) := by decide +kernel
theorem dX8_scanNumber_44 : decode cX8_scanNumber 44 = .ok (.ireturn, 1) := by decide +kernel
theorem dX8_scanNumber_45 : decode cX8_scanNumber 45 = .ok (.iload_n 1, 1) := by decide +kernel
theorem dX8_scanNumber_46 : decode cX8_scanNumber 46 = .ok (.bipush 48, 2) := by decide +kernel
theorem dX8_scanNumber_48 : decode cX8_scanNumber 48 = .ok (.if_icmp .ne 38, 3) := by decide +kernel
theorem dX8_scanNumber_51 : decode cX8_scanNumber 51 = .ok (.iload_n 2, 1) := by decide +kernel
theorem dX8_scanNumber_52 : decode cX8_scanNumber 52 = .ok (.bipush 98, 2) := by decide +kernel
theorem dX8_scanNumber_54 : decode cX8_scanNumber 54 = .ok (.if_icmp .ne 32, 3) := by decide +kernel
theorem dX8_scanNumber_57 : decode cX8_scanNumber 57 = .ok (.aload_n 0, 1) := by decide +kernel
theorem dX8_scanNumber_58 : decode cX8_scanNumber 58 = .ok (.aload_n 0, 1) := by decide +kernel
theorem dX8_scanNumber_59 : decode cX8_scanNumber 59 = .ok (.getfield 31, 3) := by decide +kernel
theorem dX8_scanNumber_62 : decode cX8_scanNumber 62 = .ok (.iconst 2, 1) := by decide +kernel
theorem dX8_scanNumber_63 : decode cX8_scanNumber 63 = .ok (.iadd, 1) := by decide +kernel
theorem dX8_scanNumber_64 : decode cX8_scanNumber 64 = .ok (.invokevirtual 54, 3) := by decide +kernel
theorem dX8_scanNumber_67 : decode cX8_scanNumber 67 = .ok (.invokestatic 96, 3) := by decide +kernel
theorem dX8_scanNumber_70 : decode cX8_scanNumber 70 = .ok (.iconst 2, 1) := by decide +kernel
theorem dX8_scanNumber_71 : decode cX8_scanNumber 71 = .ok (.if_icmp .ge 15, 3) := by decide +kernel
theorem dX8_scanNumber_74 : decode cX8_scanNumber 74 = .ok (.aload_n 0, 1) := by decide +kernel
theorem dX8_scanNumber_75 : decode cX8_scanNumber 75 = .ok (.iconst 2, 1) := by decide +kernel
theorem dX8_scanNumber_76 : decode cX8_scanNumber 76 = .ok (.aload_n 0, 1) := by decide +kernel
theorem dX8_scanNumber_77 : decode cX8_scanNumber 77 = .ok (.getfield 31, 3) := by decide +kernel
theorem dX8_scanNumber_80 : decode cX8_scanNumber 80 = .ok (.iconst 2, 1) := by decide +kernel
theorem dX8_scanNumber_81 : decode cX8_scanNumber 81 = .ok (.iadd, 1) := by decide +kernel
theorem dX8_scanNumber_82 : decode cX8_scanNumber 82 = .ok (.invokevirtual 92, 3) := by decide +kernel
theorem dX8_scanNumber_85 : decode cX8_scanNumber 85 = .ok (.ireturn, 1) := by decide +kernel
theorem dX8_scanNumber_86 : decode cX8_scanNumber 86 = .ok (.iload_n 2, 1) := by decide +kernel
theorem dX8_scanNumber_87 : decode cX8_scanNumber 87 = .ok (.bipush 98, 2) := by decide +kernel
theorem dX8_scanNumber_89 : decode cX8_scanNumber 89 = .ok (.if_icmp .eq 9, 3) := by decide +kernel
theorem dX8_scanNumber_92 : decode cX8_scanNumber 92 = .ok (.iload_n 2, 1) := by decide +kernel
theorem dX8_scanNumber_93 : decode cX8_scanNumber 93 = .ok (.bipush 102, 2) := by decide +kernel
theorem dX8_scanNumber_95 : decode cX8_scanNumber 95 = .ok (.if_icmp .ne 54, 3) := by decide +kernel
theorem dX8_scanNumber_98 : decode cX8_scanNumber 98 = .ok (.aload_n 0, 1) := by decide +kernel
theorem dX8_scanNumber_99 : decode cX8_scanNumber 99 = .ok (.aload_n 0, 1) := by decide +kernel
theorem dX8_scanNumber_100 : decode cX8_scanNumber 100 = .ok (.getfield 31, 3) := by decide +kernel
theorem dX8_scanNumber_103 : decode cX8_scanNumber 103 = .ok (.iconst 2, 1) := by decide +kernel
theorem dX8_scanNumber_104 : decode cX8_scanNumber 104 = .ok (.iadd, 1) := by decide +kernel
theorem dX8_scanNumber_105 : decode cX8_scanNumber 105 = .ok (.invokevirtual 54, 3) := by decide +kernel
theorem dX8_scanNumber_108 : decode cX8_scanNumber 108 = .ok (.invokestatic 68, 3) := by decide +kernel
theorem dX8_scanNumber_111 : decode cX8_scanNumber 111 = .ok (.ifCond .ne 38, 3) := by decide +kernel
theorem dX8_scanNumber_114 : decode cX8_scanNumber 114 = .ok (.aload_n 0, 1) := by decide +kernel
theorem dX8_scanNumber_115 : decode cX8_scanNumber 115 = .ok (.iconst 2, 1) := by decide +kernel
theorem dX8_scanNumber_116 : decode cX8_scanNumber 116 = .ok (.iload_n 1, 1) := by decide +kernel
theorem dX8_scanNumber_117 : decode cX8_scanNumber 117 = .ok (.invokestatic 96, 3) := by decide +kernel
theorem dX8_scanNumber_120 : decode cX8_scanNumber 120 = .ok (.imul, 1) := by decide +kernel
theorem dX8_scanNumber_121 : decode cX8_scanNumber 121 = .ok (.iload_n 2, 1) := by decide +kernel
theorem dX8_scanNumber_122 : decode cX8_scanNumber 122 = .ok (.bipush 102, 2) := by decide +kernel
theorem dX8_scanNumber_124 : decode cX8_scanNumber 124 = .ok (.if_icmp .ne 7, 3) := by decide +kernel
theorem dX8_scanNumber_127 : decode cX8_scanNumber 127 = .ok (.iconst 1, 1) := by decide +kernel
theorem dX8_scanNumber_128 : decode cX8_scanNumber 128 = .ok (.goto 4, 3) := by decide +kernel
theorem dX8_scanNumber_131 : decode cX8_scanNumber 131 = .ok (.iconst 0, 1) := by decide +kernel
theorem dX8_scanNumber_132 : decode cX8_scanNumber 132 = .ok (.iadd, 1) := by decide +kernel
theorem dX8_scanNumber_133 : decode cX8_scanNumber 133 = .ok (.putfield 37, 3) := by decide +kernel
theorem dX8_scanNumber_136 : decode cX8_scanNumber 136 = .ok (.aload_n 0, 1) := by decide +kernel
theorem dX8_scanNumber_137 : decode cX8_scanNumber 137 = .ok (.dup, 1) := by decide +kernel
theorem dX8_scanNumber_138 : decode cX8_scanNumber 138 = .ok (.getfield 31, 3) := by decide +kernel
theorem dX8_scanNumber_141 : decode cX8_scanNumber 141 = .ok (.iconst 2, 1) := by decide +kernel
theorem dX8_scanNumber_142 : decode cX8_scanNumber 142 = .ok (.iadd, 1) := by decide +kernel
theorem dX8_scanNumber_143 : decode cX8_scanNumber 143 = .ok (.putfield 31, 3) := by decide +kernel
theorem dX8_scanNumber_146 : decode cX8_scanNumber 146 = .ok (.bipush 6, 2) := by decide +kernel
theorem dX8_scanNumber_148 : decode cX8_scanNumber 148 = .ok (.ireturn, 1) := by decide +kernel
theorem dX8_scanNumber_149 : decode cX8_scanNumber 149 = .ok (.aload_n 0, 1) := by decide +kernel
theorem dX8_scanNumber_150 : decode cX8_scanNumber 150 = .ok (.bipush 10, 2) := by decide +kernel
theorem dX8_scanNumber_152 : decode cX8_scanNumber 152 = .ok (.aload_n 0, 1) := by decide +kernel
theorem dX8_scanNumber_153 : decode cX8_scanNumber 153 = .ok (.getfield 31, 3) := by decide +kernel
theorem dX8_scanNumber_156 : decode cX8_scanNumber 156 = .ok (.invokevirtual 92, 3) := by decide +kernel
theorem dX8_scanNumber_159 : decode cX8_scanNumber 159 = .ok (.ireturn, 1) := by decide +kernel
theorem dX8_scanDigits_0 : decode cX8_scanDigits 0 = .ok (.aload_n 0, 1) := by decide +kernel
theorem dX8_scanDigits_1 : decode cX8_scanDigits 1 = .ok (.getfield 31, 3) := by decide +kernel
theorem dX8_scanDigits_4 : decode cX8_scanDigits 4 = .ok (.istore_n 3, 1) := by decide +kernel
theorem dX8_scanDigits_5 : decode cX8_scanDigits 5 = .ok (.lconst 0, 1) := by decide +kernel
theorem dX8_scanDigits_6 : decode cX8_scanDigits 6 = .ok (.lstore 4, 2) := by decide +kernel
theorem dX8_scanDigits_8 : decode cX8_scanDigits 8 = .ok (.aload_n 0, 1) := by decide +kernel
theorem dX8_scanDigits_9 : decode cX8_scanDigits 9 = .ok (.iload_n 2, 1) := by decide +kernel
theorem dX8_scanDigits_10 : decode cX8_scanDigits 10 = .ok (.putfield 31, 3) := by decide +kernel
theorem dX8_scanDigits_13 : decode cX8_scanDigits 13 = .ok (.aload_n 0, 1) := by decide +kernel
theorem dX8_scanDigits_14 : decode cX8_scanDigits 14 = .ok (.getfield 31, 3) := by decide +kernel
theorem dX8_scanDigits_17 : decode cX8_scanDigits 17 = .ok (.aload_n 0, 1) := by decide +kernel
theorem dX8_scanDigits_18 : decode cX8_scanDigits 18 = .ok (.getfield 28, 3) := by decide +kernel
theorem dX8_scanDigits_21 : decode cX8_scanDigits 21 = .ok (.if_icmp .ge 57, 3) := by decide +kernel
theorem dX8_scanDigits_24 : decode cX8_scanDigits 24 = .ok (.aload_n 0, 1) := by decide +kernel
theorem dX8_scanDigits_25 : decode cX8_scanDigits 25 = .ok (.aload_n 0, 1) := by decide +kernel
theorem dX8_scanDigits_26 : decode cX8_scanDigits 26 = .ok (.getfield 31, 3) := by decide +kernel
theorem dX8_scanDigits_29 : decode cX8_scanDigits 29 = .ok (.invokevirtual 54, 3) := by decide +kernel
theorem dX8_scanDigits_32 : decode cX8_scanDigits 32 = .ok (.invokestatic 96, 3) := by decide +kernel
theorem dX8_scanDigits_35 : decode cX8_scanDigits 35 = .ok (.iload_n 1, 1) := by decide +kernel
theorem dX8_scanDigits_36 : decode cX8_scanDigits 36 = .ok (.if_icmp .ge 42, 3) := by decide +kernel
theorem dX8_scanDigits_39 : decode cX8_scanDigits 39 = .ok (.lload 4, 2) := by decide +kernel
theorem dX8_scanDigits_41 : decode cX8_scanDigits 41 = .ok (.iload_n 1, 1) := by decide +kernel
theorem dX8_scanDigits_42 : decode cX8_scanDigits 42 = .ok (.i2l, 1) := by decide +kernel
theorem dX8_scanDigits_43 : decode cX8_scanDigits 43 = .ok (.lmul, 1) := by decide +kernel
theorem dX8_scanDigits_44 : decode cX8_scanDigits 44 = .ok (.aload_n 0, 1) := by decide +kernel
theorem dX8_scanDigits_45 : decode cX8_scanDigits 45 = .ok (.aload_n 0, 1) := by decide +kernel
theorem dX8_scanDigits_46 : decode cX8_scanDigits 46 = .ok (.getfield 31, 3) := by decide +kernel
theorem dX8_scanDigits_49 : decode cX8_scanDigits 49 = .ok (.invokevirtual 54, 3) := by decide +kernel
theorem dX8_scanDigits_52 : decode cX8_scanDigits 52 = .ok (.invokestatic 96, 3) := by decide +kernel
theorem dX8_scanDigits_55 : decode cX8_scanDigits 55 = .ok (.i2l, 1) := by decide +kernel
theorem dX8_scanDigits_56 : decode cX8_scanDigits 56 = .ok (.ladd, 1) := by decide +kernel
theorem dX8_scanDigits_57 : decode cX8_scanDigits 57 = .ok (.ldc2_w 99, 3) := by decide +kernel
theorem dX8_scanDigits_60 : decode cX8_scanDigits 60 = .ok (.invokestatic 101, 3) := by decide +kernel
theorem dX8_scanDigits_63 : decode cX8_scanDigits 63 = .ok (.lstore 4, 2) := by decide +kernel
theorem dX8_scanDigits_65 : decode cX8_scanDigits 65 = .ok (.aload_n 0, 1) := by decide +kernel
theorem dX8_scanDigits_66 : decode cX8_scanDigits 66 = .ok (.dup, 1) := by decide +kernel
theorem dX8_scanDigits_67 : decode cX8_scanDigits 67 = .ok (.getfield 31, 3) := by decide +kernel
theorem dX8_scanDigits_70 : decode cX8_scanDigits 70 = .ok (.iconst 1, 1) := by decide +kernel
theorem dX8_scanDigits_71 : decode cX8_scanDigits 71 = .ok (.iadd, 1) := by decide +kernel
theorem dX8_scanDigits_72 : decode cX8_scanDigits 72 = .ok (.putfield 31, 3) := by decide +kernel
theorem dX8_scanDigits_75 : decode cX8_scanDigits 75 = .ok (.goto (-62), 3) := by decide +kernel
theorem dX8_scanDigits_78 : decode cX8_scanDigits 78 = .ok (.aload_n 0, 1) := by decide +kernel
theorem dX8_scanDigits_79 : decode cX8_scanDigits 79 = .ok (.getfield 31, 3) := by decide +kernel
theorem dX8_scanDigits_82 : decode cX8_scanDigits 82 = .ok (.iload_n 2, 1) := by decide +kernel
theorem dX8_scanDigits_83 : decode cX8_scanDigits 83 = .ok (.if_icmp .eq 12, 3) := by decide +kernel
theorem dX8_scanDigits_86 : decode cX8_scanDigits 86 = .ok (.lload 4, 2) := by decide +kernel
theorem dX8_scanDigits_88 : decode cX8_scanDigits 88 = .ok (.ldc2_w 99, 3) := by decide +kernel
theorem dX8_scanDigits_91 : decode cX8_scanDigits 91 = .ok (.lcmp, 1) := by decide +kernel
theorem dX8_scanDigits_92 : decode cX8_scanDigits 92 = .ok (.ifCond .ne 9, 3) := by decide +kernel
theorem dX8_scanDigits_95 : decode cX8_scanDigits 95 = .ok (.aload_n 0, 1) := by decide +kernel
theorem dX8_scanDigits_96 : decode cX8_scanDigits 96 = .ok (.iconst 3, 1) := by decide +kernel
theorem dX8_scanDigits_97 : decode cX8_scanDigits 97 = .ok (.invokevirtual 83, 3) := by decide +kernel
theorem dX8_scanDigits_100 : decode cX8_scanDigits 100 = .ok (.ireturn, 1) := by decide +kernel
theorem dX8_scanDigits_101 : decode cX8_scanDigits 101 = .ok (.aload_n 0, 1) := by decide +kernel
theorem dX8_scanDigits_102 : decode cX8_scanDigits 102 = .ok (.lload 4, 2) := by decide +kernel
theorem dX8_scanDigits_104 : decode cX8_scanDigits 104 = .ok (.l2i, 1) := by decide +kernel
theorem dX8_scanDigits_105 : decode cX8_scanDigits 105 = .ok (.putfield 37, 3) := by decide +kernel
theorem dX8_scanDigits_108 : decode cX8_scanDigits 108 = .ok (.aload_n 0, 1) := by decide +kernel
theorem dX8_scanDigits_109 : decode cX8_scanDigits 109 = .ok (.getfield 31, 3) := by decide +kernel
theorem dX8_scanDigits_112 : decode cX8_scanDigits 112 = .ok (.iload_n 3, 1) := by decide +kernel
theorem dX8_scanDigits_113 : decode cX8_scanDigits 113 = .ok (.isub, 1) := by decide +kernel
theorem dX8_scanDigits_114 : decode cX8_scanDigits 114 = .ok (.iconst 1, 1) := by decide +kernel
theorem dX8_scanDigits_115 : decode cX8_scanDigits 115 = .ok (.if_icmp .ne 7, 3) := by decide +kernel
theorem dX8_scanDigits_118 : decode cX8_scanDigits 118 = .ok (.iconst 4, 1) := by decide +kernel
theorem dX8_scanDigits_119 : decode cX8_scanDigits 119 = .ok (.goto 4, 3) := by decide +kernel
theorem dX8_scanDigits_122 : decode cX8_scanDigits 122 = .ok (.iconst 5, 1) := by decide +kernel
theorem dX8_scanDigits_123 : decode cX8_scanDigits 123 = .ok (.ireturn, 1) := by decide +kernel
theorem dX8_scanCharacter_0 : decode cX8_scanCharacter 0 = .ok (.aload_n 0, 1) := by decide +kernel
theorem dX8_scanCharacter_1 : decode cX8_scanCharacter 1 = .ok (.aload_n 0, 1) := by decide +kernel
theorem dX8_scanCharacter_2 : decode cX8_scanCharacter 2 = .ok (.getfield 31, 3) := by decide +kernel
theorem dX8_scanCharacter_5 : decode cX8_scanCharacter 5 = .ok (.iconst 1, 1) := by decide +kernel
theorem dX8_scanCharacter_6 : decode cX8_scanCharacter 6 = .ok (.iadd, 1) := by decide +kernel
theorem dX8_scanCharacter_7 : decode cX8_scanCharacter 7 = .ok (.bipush 39, 2) := by decide +kernel
theorem dX8_scanCharacter_9 : decode cX8_scanCharacter 9 = .ok (.invokevirtual 107, 3) := by decide +kernel
theorem dX8_scanCharacter_12 : decode cX8_scanCharacter 12 = .ok (.istore_n 1, 1) := by decide +kernel
theorem dX8_scanCharacter_13 : decode cX8_scanCharacter 13 = .ok (.aload_n 0, 1) := by decide +kernel
theorem dX8_scanCharacter_14 : decode cX8_scanCharacter 14 = .ok (.getfield 31, 3) := by decide +kernel
theorem dX8_scanCharacter_17 : decode cX8_scanCharacter 17 = .ok (.iconst 1, 1) := by decide +kernel
theorem dX8_scanCharacter_18 : decode cX8_scanCharacter 18 = .ok (.iadd, 1) := by decide +kernel
theorem dX8_scanCharacter_19 : decode cX8_scanCharacter 19 = .ok (.aload_n 0, 1) := by decide +kernel
theorem dX8_scanCharacter_20 : decode cX8_scanCharacter 20 = .ok (.aload_n 0, 1) := by decide +kernel
theorem dX8_scanCharacter_21 : decode cX8_scanCharacter 21 = .ok (.getfield 31, 3) := by decide +kernel
theorem dX8_scanCharacter_24 : decode cX8_scanCharacter 24 = .ok (.iconst 1, 1) := by decide +kernel
theorem dX8_scanCharacter_25 : decode cX8_scanCharacter 25 = .ok (.iadd, 1) := by decide +kernel
theorem dX8_scanCharacter_26 : decode cX8_scanCharacter 26 = .ok (.invokevirtual 110, 3) := by decide +kernel
theorem dX8_scanCharacter_29 : decode cX8_scanCharacter 29 = .ok (.iadd, 1) := by decide +kernel
theorem dX8_scanCharacter_30 : decode cX8_scanCharacter 30 = .ok (.istore_n 2, 1) := by decide +kernel
theorem dX8_scanCharacter_31 : decode cX8_scanCharacter 31 = .ok (.iload_n 1, 1) := by decide +kernel
theorem dX8_scanCharacter_32 : decode cX8_scanCharacter 32 = .ok (.iconst (-1), 1) := by decide +kernel
theorem dX8_scanCharacter_33 : decode cX8_scanCharacter 33 = .ok (.if_icmp .eq 13, 3) := by decide +kernel
theorem dX8_scanCharacter_36 : decode cX8_scanCharacter 36 = .ok (.aload_n 0, 1) := by decide +kernel
theorem dX8_scanCharacter_37 : decode cX8_scanCharacter 37 = .ok (.iload_n 2, 1) := by decide +kernel
theorem dX8_scanCharacter_38 : decode cX8_scanCharacter 38 = .ok (.invokevirtual 54, 3) := by decide +kernel
theorem dX8_scanCharacter_41 : decode cX8_scanCharacter 41 = .ok (.bipush 39, 2) := by decide +kernel
theorem dX8_scanCharacter_43 : decode cX8_scanCharacter 43 = .ok (.if_icmp .eq 9, 3) := by decide +kernel
theorem dX8_scanCharacter_46 : decode cX8_scanCharacter 46 = .ok (.aload_n 0, 1) := by decide +kernel
theorem dX8_scanCharacter_47 : decode cX8_scanCharacter 47 = .ok (.iconst 4, 1) := by decide +kernel
theorem dX8_scanCharacter_48 : decode cX8_scanCharacter 48 = .ok (.invokevirtual 83, 3) := by decide +kernel
theorem dX8_scanCharacter_51 : decode cX8_scanCharacter 51 = .ok (.ireturn, 1) := by decide +kernel
theorem dX8_scanCharacter_52 : decode cX8_scanCharacter 52 = .ok (.aload_n 0, 1) := by decide +kernel
theorem dX8_scanCharacter_53 : decode cX8_scanCharacter 53 = .ok (.iload_n 1, 1) := by decide +kernel
theorem dX8_scanCharacter_54 : decode cX8_scanCharacter 54 = .ok (.putfield 37, 3) := by decide +kernel
theorem dX8_scanCharacter_57 : decode cX8_scanCharacter 57 = .ok (.aload_n 0, 1) := by decide +kernel
theorem dX8_scanCharacter_58 : decode cX8_scanCharacter 58 = .ok (.iload_n 2, 1) := by decide +kernel
theorem dX8_scanCharacter_59 : decode cX8_scanCharacter 59 = .ok (.iconst 1, 1) := by decide +kernel
theorem dX8_scanCharacter_60 : decode cX8_scanCharacter 60 = .ok (.iadd, 1) := by decide +kernel
theorem dX8_scanCharacter_61 : decode cX8_scanCharacter 61 = .ok (.putfield 31, 3) := by decide +kernel
theorem dX8_scanCharacter_64 : decode cX8_scanCharacter 64 = .ok (.iconst 5, 1) := by decide +kernel
theorem dX8_scanCharacter_65 : decode cX8_scanCharacter 65 = .ok (.ireturn, 1) := by decide +kernel
theorem dX8_scanString_0 : decode cX8_scanString 0 = .ok (.iconst 0, 1) := by decide +kernel
theorem dX8_scanString_1 : decode cX8_scanString 1 = .ok (.istore_n 1, 1) := by decide +kernel
theorem dX8_scanString_2 : decode cX8_scanString 2 = .ok (.aload_n 0, 1) := by decide +kernel
theorem dX8_scanString_3 : decode cX8_scanString 3 = .ok (.getfield 31, 3) := by decide +kernel
theorem dX8_scanString_6 : decode cX8_scanString 6 = .ok (.iconst 1, 1) := by decide +kernel
theorem dX8_scanString_7 : decode cX8_scanString 7 = .ok (.iadd, 1) := by decide +kernel
theorem dX8_scanString_8 : decode cX8_scanString 8 = .ok (.istore_n 2, 1) := by decide +kernel
theorem dX8_scanString_9 : decode cX8_scanString 9 = .ok (.iload_n 2, 1) := by decide +kernel
theorem dX8_scanString_10 : decode cX8_scanString 10 = .ok (.aload_n 0, 1) := by decide +kernel
theorem dX8_scanString_11 : decode cX8_scanString 11 = .ok (.getfield 28, 3) := by decide +kernel
theorem dX8_scanString_14 : decode cX8_scanString 14 = .ok (.if_icmp .ge 28, 3) := by decide +kernel
theorem dX8_scanString_17 : decode cX8_scanString 17 = .ok (.aload_n 0, 1) := by decide +kernel
theorem dX8_scanString_18 : decode cX8_scanString 18 = .ok (.iload_n 2, 1) := by decide +kernel
theorem dX8_scanString_19 : decode cX8_scanString 19 = .ok (.bipush 34, 2) := by decide +kernel
theorem dX8_scanString_21 : decode cX8_scanString 21 = .ok (.invokevirtual 107, 3) := by decide +kernel
theorem dX8_scanString_24 : decode cX8_scanString 24 = .ok (.iconst (-1), 1) := by decide +kernel
theorem dX8_scanString_25 : decode cX8_scanString 25 = .ok (.if_icmp .eq 17, 3) := by decide +kernel
theorem dX8_scanString_28 : decode cX8_scanString 28 = .ok (.iinc 1 1, 3) := by decide +kernel
theorem dX8_scanString_31 : decode cX8_scanString 31 = .ok (.iload_n 2, 1) := by decide +kernel
theorem dX8_scanString_32 : decode cX8_scanString 32 = .ok (.aload_n 0, 1) := by decide +kernel
theorem dX8_scanString_33 : decode cX8_scanString 33 = .ok (.iload_n 2, 1) := by decide +kernel
theorem dX8_scanString_34 : decode cX8_scanString 34 = .ok (.invokevirtual 110, 3) := by decide +kernel
theorem dX8_scanString_37 : decode cX8_scanString 37 = .ok (.iadd, 1) := by decide +kernel
theorem dX8_scanString_38 : decode cX8_scanString 38 = .ok (.istore_n 2, 1) := by decide +kernel
theorem dX8_scanString_39 : decode cX8_scanString 39 = .ok (.goto (-30), 3) := by decide +kernel
theorem dX8_scanString_42 : decode cX8_scanString 42 = .ok (.aload_n 0, 1) := by decide +kernel
theorem dX8_scanString_43 : decode cX8_scanString 43 = .ok (.iload_n 2, 1) := by decide +kernel
theorem dX8_scanString_44 : decode cX8_scanString 44 = .ok (.invokevirtual 54, 3) := by decide +kernel
theorem dX8_scanString_47 : decode cX8_scanString 47 = .ok (.bipush 34, 2) := by decide +kernel
theorem dX8_scanString_49 : decode cX8_scanString 49 = .ok (.if_icmp .eq 9, 3) := by decide +kernel
theorem dX8_scanString_52 : decode cX8_scanString 52 = .ok (.aload_n 0, 1) := by decide +kernel
theorem dX8_scanString_53 : decode cX8_scanString 53 = .ok (.iconst 4, 1) := by decide +kernel
theorem dX8_scanString_54 : decode cX8_scanString 54 = .ok (.invokevirtual 83, 3) := by decide +kernel
theorem dX8_scanString_57 : decode cX8_scanString 57 = .ok (.ireturn, 1) := by decide +kernel
theorem dX8_scanString_58 : decode cX8_scanString 58 = .ok (.aload_n 0, 1) := by decide +kernel
theorem dX8_scanString_59 : decode cX8_scanString 59 = .ok (.iload_n 1, 1) := by decide +kernel
theorem dX8_scanString_60 : decode cX8_scanString 60 = .ok (.putfield 37, 3) := by decide +kernel
theorem dX8_scanString_63 : decode cX8_scanString 63 = .ok (.aload_n 0, 1) := by decide +kernel
theorem dX8_scanString_64 : decode cX8_scanString 64 = .ok (.iload_n 2, 1) := by decide +kernel
theorem dX8_scanString_65 : decode cX8_scanString 65 = .ok (.iconst 1, 1) := by decide +kernel
theorem dX8_scanString_66 : decode cX8_scanString 66 = .ok (.iadd, 1) := by decide +kernel
theorem dX8_scanString_67 : decode cX8_scanString 67 = .ok (.putfield 31, 3) := by decide +kernel
theorem dX8_scanString_70 : decode cX8_scanString 70 = .ok (.bipush 7, 2) := by decide +kernel
theorem dX8_scanString_72 : decode cX8_scanString 72 = .ok (.ireturn, 1) := by decide +kernel
theorem dX8_scanSign_0 : decode cX8_scanSign 0 = .ok (.iload_n 1, 1) := by decide +kernel
theorem dX8_scanSign_1 : decode cX8_scanSign 1 = .ok (.bipush 60, 2) := by decide +kernel
theorem dX8_scanSign_3 : decode cX8_scanSign 3 = .ok (.if_icmp .eq 9, 3) := by decide +kernel
theorem dX8_scanSign_6 : decode cX8_scanSign 6 = .ok (.iload_n 1, 1) := by decide +kernel
theorem dX8_scanSign_7 : decode cX8_scanSign 7 = .ok (.bipush 62, 2) := by decide +kernel
theorem dX8_scanSign_9 : decode cX8_scanSign 9 = .ok (.if_icmp .ne 41, 3) := by decide +kernel
theorem dX8_scanSign_12 : decode cX8_scanSign 12 = .ok (.aload_n 0, 1) := by decide +kernel
theorem dX8_scanSign_13 : decode cX8_scanSign 13 = .ok (.aload_n 0, 1) := by decide +kernel
theorem dX8_scanSign_14 : decode cX8_scanSign 14 = .ok (.getfield 31, 3) := by decide +kernel
theorem dX8_scanSign_17 : decode cX8_scanSign 17 = .ok (.iconst 1, 1) := by decide +kernel
theorem dX8_scanSign_18 : decode cX8_scanSign 18 = .ok (.iadd, 1) := by decide +kernel
theorem dX8_scanSign_19 : decode cX8_scanSign 19 = .ok (.invokevirtual 54, 3) := by decide +kernel
theorem dX8_scanSign_22 : decode cX8_scanSign 22 = .ok (.iload_n 1, 1) := by decide +kernel
theorem dX8_scanSign_23 : decode cX8_scanSign 23 = .ok (.if_icmp .ne 27, 3) := by decide +kernel
theorem dX8_scanSign_26 : decode cX8_scanSign 26 = .ok (.aload_n 0, 1) := by decide +kernel
theorem dX8_scanSign_27 : decode cX8_scanSign 27 = .ok (.dup, 1) := by decide +kernel
theorem dX8_scanSign_28 : decode cX8_scanSign 28 = .ok (.getfield 31, 3) := by decide +kernel
theorem dX8_scanSign_31 : decode cX8_scanSign 31 = .ok (.iconst 2, 1) := by decide +kernel
theorem dX8_scanSign_32 : decode cX8_scanSign 32 = .ok (.iadd, 1) := by decide +kernel
theorem dX8_scanSign_33 : decode cX8_scanSign 33 = .ok (.putfield 31, 3) := by decide +kernel
theorem dX8_scanSign_36 : decode cX8_scanSign 36 = .ok (.iload_n 1, 1) := by decide +kernel
theorem dX8_scanSign_37 : decode cX8_scanSign 37 = .ok (.bipush 60, 2) := by decide +kernel
theorem dX8_scanSign_39 : decode cX8_scanSign 39 = .ok (.if_icmp .ne 8, 3) := by decide +kernel
theorem dX8_scanSign_42 : decode cX8_scanSign 42 = .ok (.bipush 17, 2) := by decide +kernel
theorem dX8_scanSign_44 : decode cX8_scanSign 44 = .ok (.goto 5, 3) := by decide +kernel
theorem dX8_scanSign_47 : decode cX8_scanSign 47 = .ok (.bipush 18, 2) := by decide +kernel
theorem dX8_scanSign_49 : decode cX8_scanSign 49 = .ok (.ireturn, 1) := by decide +kernel
theorem dX8_scanSign_50 : decode cX8_scanSign 50 = .ok (.iload_n 1, 1) := by decide +kernel
theorem dX8_scanSign_51 : decode cX8_scanSign 51 = .ok (.invokestatic 115, 3) := by decide +kernel
theorem dX8_scanSign_54 : decode cX8_scanSign 54 = .ok (.istore_n 2, 1) := by decide +kernel
theorem dX8_scanSign_55 : decode cX8_scanSign 55 = .ok (.iload_n 2, 1) := by decide +kernel
theorem dX8_scanSign_56 : decode cX8_scanSign 56 = .ok (.bipush 24, 2) := by decide +kernel
theorem dX8_scanSign_58 : decode cX8_scanSign 58 = .ok (.if_icmp .ne 9, 3) := by decide +kernel
theorem dX8_scanSign_61 : decode cX8_scanSign 61 = .ok (.aload_n 0, 1) := by decide +kernel
theorem dX8_scanSign_62 : decode cX8_scanSign 62 = .ok (.iconst 1, 1) := by decide +kernel
theorem dX8_scanSign_63 : decode cX8_scanSign 63 = .ok (.invokevirtual 83, 3) := by decide +kernel
theorem dX8_scanSign_66 : decode cX8_scanSign 66 = .ok (.ireturn, 1) := by decide +kernel
theorem dX8_scanSign_67 : decode cX8_scanSign 67 = .ok (.aload_n 0, 1) := by decide +kernel
theorem dX8_scanSign_68 : decode cX8_scanSign 68 = .ok (.dup, 1) := by decide +kernel
theorem dX8_scanSign_69 : decode cX8_scanSign 69 = .ok (.getfield 31, 3) := by decide +kernel
theorem dX8_scanSign_72 : decode cX8_scanSign 72 = .ok (.iconst 1, 1) := by decide +kernel
theorem dX8_scanSign_73 : decode cX8_scanSign 73 = .ok (.iadd, 1) := by decide +kernel
theorem dX8_scanSign_74 : decode cX8_scanSign 74 = .ok (.putfield 31, 3) := by decide +kernel
theorem dX8_scanSign_77 : decode cX8_scanSign 77 = .ok (.iload_n 2, 1) := by decide +kernel
theorem dX8_scanSign_78 : decode cX8_scanSign 78 = .ok (.ireturn, 1) := by decide +kernel
theorem dX8_kindOfSign_0 : decode cX8_kindOfSign 0 = .ok (.iload_n 0, 1) := by decide +kernel
theorem dX8_kindOfSign_1 : decode cX8_kindOfSign 1 = .ok (.lookupswitch 154 #[(37, 142), (38, 145), (40, 118), (41, 121), (42, 136), (43, 130), (44, 115), (45, 133), (47, 139), (58, 124), (94, 148), (124, 151), (126, 127)], 115) := by decide +kernel
theorem dX8_kindOfSign_116 : decode cX8_kindOfSign 116 = .ok (.bipush 8, 2) := by decide +kernel
theorem dX8_kindOfSign_118 : decode cX8_kindOfSign 118 = .ok (.ireturn, 1) := by decide +kernel
theorem dX8_kindOfSign_119 : decode cX8_kindOfSign 119 = .ok (.bipush 9, 2) := by decide +kernel
theorem dX8_kindOfSign_121 : decode cX8_kindOfSign 121 = .ok (.ireturn, 1) := by decide +kernel
theorem dX8_kindOfSign_122 : decode cX8_kindOfSign 122 = .ok (.bipush 10, 2) := by decide +kernel
theorem dX8_kindOfSign_124 : decode cX8_kindOfSign 124 = .ok (.ireturn, 1) := by decide +kernel
theorem dX8_kindOfSign_125 : decode cX8_kindOfSign 125 = .ok (.bipush 22, 2) := by decide +kernel
theorem dX8_kindOfSign_127 : decode cX8_kindOfSign 127 = .ok (.ireturn, 1) := by decide +kernel
theorem dX8_kindOfSign_128 : decode cX8_kindOfSign 128 = .ok (.bipush 23, 2) := by decide +kernel
theorem dX8_kindOfSign_130 : decode cX8_kindOfSign 130 = .ok (.ireturn, 1) := by decide +kernel
theorem dX8_kindOfSign_131 : decode cX8_kindOfSign 131 = .ok (.bipush 12, 2) := by decide +kernel
theorem dX8_kindOfSign_133 : decode cX8_kindOfSign 133 = .ok (.ireturn, 1) := by decide +kernel
theorem dX8_kindOfSign_134 : decode cX8_kindOfSign 134 = .ok (.bipush 13, 2) := by decide +kernel
theorem dX8_kindOfSign_136 : decode cX8_kindOfSign 136 = .ok (.ireturn, 1) := by decide +kernel
theorem dX8_kindOfSign_137 : decode cX8_kindOfSign 137 = .ok (.bipush 14, 2) := by decide +kernel
theorem dX8_kindOfSign_139 : decode cX8_kindOfSign 139 = .ok (.ireturn, 1) := by decide +kernel
theorem dX8_kindOfSign_140 : decode cX8_kindOfSign 140 = .ok (.bipush 15, 2) := by decide +kernel
theorem dX8_kindOfSign_142 : decode cX8_kindOfSign 142 = .ok (.ireturn, 1) := by decide +kernel
theorem dX8_kindOfSign_143 : decode cX8_kindOfSign 143 = .ok (.bipush 16, 2) := by decide +kernel
theorem dX8_kindOfSign_145 : decode cX8_kindOfSign 145 = .ok (.ireturn, 1) := by decide +kernel
theorem dX8_kindOfSign_146 : decode cX8_kindOfSign 146 = .ok (.bipush 19, 2) := by decide +kernel
theorem dX8_kindOfSign_148 : decode cX8_kindOfSign 148 = .ok (.ireturn, 1) := by decide +kernel
theorem dX8_kindOfSign_149 : decode cX8_kindOfSign 149 = .ok (.bipush 20, 2) := by decide +kernel
theorem dX8_kindOfSign_151 : decode cX8_kindOfSign 151 = .ok (.ireturn, 1) := by decide +kernel
theorem dX8_kindOfSign_152 : decode cX8_kindOfSign 152 = .ok (.bipush 21, 2) := by decide +kernel
theorem dX8_kindOfSign_154 : decode cX8_kindOfSign 154 = .ok (.ireturn, 1) := by decide +kernel
theorem dX8_kindOfSign_155 : decode cX8_kindOfSign 155 = .ok (.bipush 24, 2) := by decide +kernel
theorem dX8_kindOfSign_157 : decode cX8_kindOfSign 157 = .ok (.ireturn, 1) := by decide +kernel
theorem dX8_byteAt_0 : decode cX8_byteAt 0 = .ok (.iload_n 1, 1) := by decide +kernel
theorem dX8_byteAt_1 : decode cX8_byteAt 1 = .ok (.ifCond .lt 29, 3) := by decide +kernel
theorem dX8_byteAt_4 : decode cX8_byteAt 4 = .ok (.iload_n 1, 1) := by decide +kernel
theorem dX8_byteAt_5 : decode cX8_byteAt 5 = .ok (.aload_n 0, 1) := by decide +kernel
theorem dX8_byteAt_6 : decode cX8_byteAt 6 = .ok (.getfield 28, 3) := by decide +kernel
theorem dX8_byteAt_9 : decode cX8_byteAt 9 = .ok (.if_icmp .ge 21, 3) := by decide +kernel
theorem dX8_byteAt_12 : decode cX8_byteAt 12 = .ok (.iload_n 1, 1) := by decide +kernel
theorem dX8_byteAt_13 : decode cX8_byteAt 13 = .ok (.aload_n 0, 1) := by decide +kernel
theorem dX8_byteAt_14 : decode cX8_byteAt 14 = .ok (.getfield 9, 3) := by decide +kernel
theorem dX8_byteAt_17 : decode cX8_byteAt 17 = .ok (.arraylength, 1) := by decide +kernel
theorem dX8_byteAt_18 : decode cX8_byteAt 18 = .ok (.if_icmp .ge 12, 3) := by decide +kernel
theorem dX8_byteAt_21 : decode cX8_byteAt 21 = .ok (.aload_n 0, 1) := by decide +kernel
theorem dX8_byteAt_22 : decode cX8_byteAt 22 = .ok (.getfield 9, 3) := by decide +kernel
theorem dX8_byteAt_25 : decode cX8_byteAt 25 = .ok (.iload_n 1, 1) := by decide +kernel
theorem dX8_byteAt_26 : decode cX8_byteAt 26 = .ok (.iaload, 1) := by decide +kernel
theorem dX8_byteAt_27 : decode cX8_byteAt 27 = .ok (.goto 4, 3) := by decide +kernel
theorem dX8_byteAt_30 : decode cX8_byteAt 30 = .ok (.iconst (-1), 1) := by decide +kernel
theorem dX8_byteAt_31 : decode cX8_byteAt 31 = .ok (.ireturn, 1) := by decide +kernel
theorem dX8_codeAt_0 : decode cX8_codeAt 0 = .ok (.aload_n 0, 1) := by decide +kernel
theorem dX8_codeAt_1 : decode cX8_codeAt 1 = .ok (.iload_n 1, 1) := by decide +kernel
theorem dX8_codeAt_2 : decode cX8_codeAt 2 = .ok (.invokevirtual 54, 3) := by decide +kernel
theorem dX8_codeAt_5 : decode cX8_codeAt 5 = .ok (.istore_n 3, 1) := by decide +kernel
theorem dX8_codeAt_6 : decode cX8_codeAt 6 = .ok (.iload_n 3, 1) := by decide +kernel
theorem dX8_codeAt_7 : decode cX8_codeAt 7 = .ok (.bipush 92, 2) := by decide +kernel
theorem dX8_codeAt_9 : decode cX8_codeAt 9 = .ok (.if_icmp .eq 26, 3) := by decide +kernel
theorem dX8_codeAt_12 : decode cX8_codeAt 12 = .ok (.iload_n 3, 1) := by decide +kernel
theorem dX8_codeAt_13 : decode cX8_codeAt 13 = .ok (.bipush 32, 2) := by decide +kernel
theorem dX8_codeAt_15 : decode cX8_codeAt 15 = .ok (.if_icmp .lt 18, 3) := by decide +kernel
theorem dX8_codeAt_18 : decode cX8_codeAt 18 = .ok (.iload_n 3, 1) := by decide +kernel
theorem dX8_codeAt_19 : decode cX8_codeAt 19 = .ok (.bipush 126, 2) := by decide +kernel
theorem dX8_codeAt_21 : decode cX8_codeAt 21 = .ok (.if_icmp .gt 12, 3) := by decide +kernel
theorem dX8_codeAt_24 : decode cX8_codeAt 24 = .ok (.iload_n 3, 1) := by decide +kernel
theorem dX8_codeAt_25 : decode cX8_codeAt 25 = .ok (.iload_n 2, 1) := by decide +kernel
theorem dX8_codeAt_26 : decode cX8_codeAt 26 = .ok (.if_icmp .eq 7, 3) := by decide +kernel
theorem dX8_codeAt_29 : decode cX8_codeAt 29 = .ok (.iload_n 3, 1) := by decide +kernel
theorem dX8_codeAt_30 : decode cX8_codeAt 30 = .ok (.goto 4, 3) := by decide +kernel
theorem dX8_codeAt_33 : decode cX8_codeAt 33 = .ok (.iconst (-1), 1) := by decide +kernel
theorem dX8_codeAt_34 : decode cX8_codeAt 34 = .ok (.ireturn, 1) := by decide +kernel
theorem dX8_codeAt_35 : decode cX8_codeAt 35 = .ok (.aload_n 0, 1) := by decide +kernel
theorem dX8_codeAt_36 : decode cX8_codeAt 36 = .ok (.iload_n 1, 1) := by decide +kernel
theorem dX8_codeAt_37 : decode cX8_codeAt 37 = .ok (.iconst 1, 1) := by decide +kernel
theorem dX8_codeAt_38 : decode cX8_codeAt 38 = .ok (.iadd, 1) := by decide +kernel
theorem dX8_codeAt_39 : decode cX8_codeAt 39 = .ok (.invokevirtual 54, 3) := by decide +kernel
theorem dX8_codeAt_42 : decode cX8_codeAt 42 = .ok (.istore 4, 2) := by decide +kernel
theorem dX8_codeAt_44 : decode cX8_codeAt 44 = .ok (.iload 4, 2) := by decide +kernel
theorem dX8_codeAt_46 : decode cX8_codeAt 46 = .ok (.lookupswitch 69 #[(34, 66), (39, 66), (48, 64), (92, 66), (110, 58), (116, 61)], 58) := by decide +kernel
theorem dX8_codeAt_104 : decode cX8_codeAt 104 = .ok (.bipush 10, 2) := by decide +kernel
theorem dX8_codeAt_106 : decode cX8_codeAt 106 = .ok (.ireturn, 1) := by decide +kernel
theorem dX8_codeAt_107 : decode cX8_codeAt 107 = .ok (.bipush 9, 2) := by decide +kernel
theorem dX8_codeAt_109 : decode cX8_codeAt 109 = .ok (.ireturn, 1) := by decide +kernel
theorem dX8_codeAt_110 : decode cX8_codeAt 110 = .ok (.iconst 0, 1) := by decide +kernel
theorem dX8_codeAt_111 : decode cX8_codeAt 111 = .ok (.ireturn, 1) := by decide +kernel
theorem dX8_codeAt_112 : decode cX8_codeAt 112 = .ok (.iload 4, 2) := by decide +kernel
theorem dX8_codeAt_114 : decode cX8_codeAt 114 = .ok (.ireturn, 1) := by decide +kernel
theorem dX8_codeAt_115 : decode cX8_codeAt 115 = .ok (.iconst (-1), 1) := by decide +kernel
theorem dX8_codeAt_116 : decode cX8_codeAt 116 = .ok (.ireturn, 1) := by decide +kernel
theorem dX8_widthAt_0 : decode cX8_widthAt 0 = .ok (.aload_n 0, 1) := by decide +kernel
theorem dX8_widthAt_1 : decode cX8_widthAt 1 = .ok (.iload_n 1, 1) := by decide +kernel
theorem dX8_widthAt_2 : decode cX8_widthAt 2 = .ok (.invokevirtual 54, 3) := by decide +kernel
theorem dX8_widthAt_5 : decode cX8_widthAt 5 = .ok (.bipush 92, 2) := by decide +kernel
theorem dX8_widthAt_7 : decode cX8_widthAt 7 = .ok (.if_icmp .ne 7, 3) := by decide +kernel
theorem dX8_widthAt_10 : decode cX8_widthAt 10 = .ok (.iconst 2, 1) := by decide +kernel
theorem dX8_widthAt_11 : decode cX8_widthAt 11 = .ok (.goto 4, 3) := by decide +kernel
theorem dX8_widthAt_14 : decode cX8_widthAt 14 = .ok (.iconst 1, 1) := by decide +kernel
theorem dX8_widthAt_15 : decode cX8_widthAt 15 = .ok (.ireturn, 1) := by decide +kernel
theorem dX8_isDigit_0 : decode cX8_isDigit 0 = .ok (.iload_n 0, 1) := by decide +kernel
theorem dX8_isDigit_1 : decode cX8_isDigit 1 = .ok (.bipush 48, 2) := by decide +kernel
theorem dX8_isDigit_3 : decode cX8_isDigit 3 = .ok (.if_icmp .lt 13, 3) := by decide +kernel
theorem dX8_isDigit_6 : decode cX8_isDigit 6 = .ok (.iload_n 0, 1) := by decide +kernel
theorem dX8_isDigit_7 : decode cX8_isDigit 7 = .ok (.bipush 57, 2) := by decide +kernel
theorem dX8_isDigit_9 : decode cX8_isDigit 9 = .ok (.if_icmp .gt 7, 3) := by decide +kernel
theorem dX8_isDigit_12 : decode cX8_isDigit 12 = .ok (.iconst 1, 1) := by decide +kernel
theorem dX8_isDigit_13 : decode cX8_isDigit 13 = .ok (.goto 4, 3) := by decide +kernel
theorem dX8_isDigit_16 : decode cX8_isDigit 16 = .ok (.iconst 0, 1) := by decide +kernel
theorem dX8_isDigit_17 : decode cX8_isDigit 17 = .ok (.ireturn, 1) := by decide +kernel
theorem dX8_isNameByte_0 : decode cX8_isNameByte 0 = .ok (.iload_n 0, 1) := by decide +kernel
theorem dX8_isNameByte_1 : decode cX8_isNameByte 1 = .ok (.bipush 97, 2) := by decide +kernel
theorem dX8_isNameByte_3 : decode cX8_isNameByte 3 = .ok (.if_icmp .lt 9, 3) := by decide +kernel
theorem dX8_isNameByte_6 : decode cX8_isNameByte 6 = .ok (.iload_n 0, 1) := by decide +kernel
theorem dX8_isNameByte_7 : decode cX8_isNameByte 7 = .ok (.bipush 122, 2) := by decide +kernel
theorem dX8_isNameByte_9 : decode cX8_isNameByte 9 = .ok (.if_icmp .le 40, 3) := by decide +kernel
theorem dX8_isNameByte_12 : decode cX8_isNameByte 12 = .ok (.iload_n 0, 1) := by decide +kernel
theorem dX8_isNameByte_13 : decode cX8_isNameByte 13 = .ok (.bipush 65, 2) := by decide +kernel
theorem dX8_isNameByte_15 : decode cX8_isNameByte 15 = .ok (.if_icmp .lt 9, 3) := by decide +kernel
theorem dX8_isNameByte_18 : decode cX8_isNameByte 18 = .ok (.iload_n 0, 1) := by decide +kernel
theorem dX8_isNameByte_19 : decode cX8_isNameByte 19 = .ok (.bipush 90, 2) := by decide +kernel
theorem dX8_isNameByte_21 : decode cX8_isNameByte 21 = .ok (.if_icmp .le 28, 3) := by decide +kernel
theorem dX8_isNameByte_24 : decode cX8_isNameByte 24 = .ok (.iload_n 0, 1) := by decide +kernel
theorem dX8_isNameByte_25 : decode cX8_isNameByte 25 = .ok (.invokestatic 61, 3) := by decide +kernel
theorem dX8_isNameByte_28 : decode cX8_isNameByte 28 = .ok (.ifCond .ne 21, 3) := by decide +kernel
theorem dX8_isNameByte_31 : decode cX8_isNameByte 31 = .ok (.iload_n 0, 1) := by decide +kernel
theorem dX8_isNameByte_32 : decode cX8_isNameByte 32 = .ok (.bipush 95, 2) := by decide +kernel
theorem dX8_isNameByte_34 : decode cX8_isNameByte 34 = .ok (.if_icmp .eq 15, 3) := by decide +kernel
theorem dX8_isNameByte_37 : decode cX8_isNameByte 37 = .ok (.iload_n 0, 1) := by decide +kernel
theorem dX8_isNameByte_38 : decode cX8_isNameByte 38 = .ok (.bipush 46, 2) := by decide +kernel
theorem dX8_isNameByte_40 : decode cX8_isNameByte 40 = .ok (.if_icmp .eq 9, 3) := by decide +kernel
theorem dX8_isNameByte_43 : decode cX8_isNameByte 43 = .ok (.iload_n 0, 1) := by decide +kernel
theorem dX8_isNameByte_44 : decode cX8_isNameByte 44 = .ok (.bipush 36, 2) := by decide +kernel
theorem dX8_isNameByte_46 : decode cX8_isNameByte 46 = .ok (.if_icmp .ne 7, 3) := by decide +kernel
theorem dX8_isNameByte_49 : decode cX8_isNameByte 49 = .ok (.iconst 1, 1) := by decide +kernel
theorem dX8_isNameByte_50 : decode cX8_isNameByte 50 = .ok (.goto 4, 3) := by decide +kernel
theorem dX8_isNameByte_53 : decode cX8_isNameByte 53 = .ok (.iconst 0, 1) := by decide +kernel
theorem dX8_isNameByte_54 : decode cX8_isNameByte 54 = .ok (.ireturn, 1) := by decide +kernel
theorem dX8_digitOf_0 : decode cX8_digitOf 0 = .ok (.iload_n 0, 1) := by decide +kernel
theorem dX8_digitOf_1 : decode cX8_digitOf 1 = .ok (.invokestatic 61, 3) := by decide +kernel
theorem dX8_digitOf_4 : decode cX8_digitOf 4 = .ok (.ifCond .eq 8, 3) := by decide +kernel
theorem dX8_digitOf_7 : decode cX8_digitOf 7 = .ok (.iload_n 0, 1) := by decide +kernel
theorem dX8_digitOf_8 : decode cX8_digitOf 8 = .ok (.bipush 48, 2) := by decide +kernel
theorem dX8_digitOf_10 : decode cX8_digitOf 10 = .ok (.isub, 1) := by decide +kernel
theorem dX8_digitOf_11 : decode cX8_digitOf 11 = .ok (.ireturn, 1) := by decide +kernel
theorem dX8_digitOf_12 : decode cX8_digitOf 12 = .ok (.iload_n 0, 1) := by decide +kernel
theorem dX8_digitOf_13 : decode cX8_digitOf 13 = .ok (.bipush 97, 2) := by decide +kernel
theorem dX8_digitOf_15 : decode cX8_digitOf 15 = .ok (.if_icmp .lt 17, 3) := by decide +kernel
theorem dX8_digitOf_18 : decode cX8_digitOf 18 = .ok (.iload_n 0, 1) := by decide +kernel
theorem dX8_digitOf_19 : decode cX8_digitOf 19 = .ok (.bipush 102, 2) := by decide +kernel
theorem dX8_digitOf_21 : decode cX8_digitOf 21 = .ok (.if_icmp .gt 11, 3) := by decide +kernel
theorem dX8_digitOf_24 : decode cX8_digitOf 24 = .ok (.iload_n 0, 1) := by decide +kernel
theorem dX8_digitOf_25 : decode cX8_digitOf 25 = .ok (.bipush 97, 2) := by decide +kernel
theorem dX8_digitOf_27 : decode cX8_digitOf 27 = .ok (.isub, 1) := by decide +kernel
theorem dX8_digitOf_28 : decode cX8_digitOf 28 = .ok (.bipush 10, 2) := by decide +kernel
theorem dX8_digitOf_30 : decode cX8_digitOf 30 = .ok (.iadd, 1) := by decide +kernel
theorem dX8_digitOf_31 : decode cX8_digitOf 31 = .ok (.ireturn, 1) := by decide +kernel
theorem dX8_digitOf_32 : decode cX8_digitOf 32 = .ok (.iload_n 0, 1) := by decide +kernel
theorem dX8_digitOf_33 : decode cX8_digitOf 33 = .ok (.bipush 65, 2) := by decide +kernel
theorem dX8_digitOf_35 : decode cX8_digitOf 35 = .ok (.if_icmp .lt 19, 3) := by decide +kernel
theorem dX8_digitOf_38 : decode cX8_digitOf 38 = .ok (.iload_n 0, 1) := by decide +kernel
theorem dX8_digitOf_39 : decode cX8_digitOf 39 = .ok (.bipush 70, 2) := by decide +kernel
theorem dX8_digitOf_41 : decode cX8_digitOf 41 = .ok (.if_icmp .gt 13, 3) := by decide +kernel
theorem dX8_digitOf_44 : decode cX8_digitOf 44 = .ok (.iload_n 0, 1) := by decide +kernel
theorem dX8_digitOf_45 : decode cX8_digitOf 45 = .ok (.bipush 65, 2) := by decide +kernel
theorem dX8_digitOf_47 : decode cX8_digitOf 47 = .ok (.isub, 1) := by decide +kernel
theorem dX8_digitOf_48 : decode cX8_digitOf 48 = .ok (.bipush 10, 2) := by decide +kernel
theorem dX8_digitOf_50 : decode cX8_digitOf 50 = .ok (.iadd, 1) := by decide +kernel
theorem dX8_digitOf_51 : decode cX8_digitOf 51 = .ok (.goto 5, 3) := by decide +kernel
theorem dX8_digitOf_54 : decode cX8_digitOf 54 = .ok (.bipush 16, 2) := by decide +kernel
theorem dX8_digitOf_56 : decode cX8_digitOf 56 = .ok (.ireturn, 1) := by decide +kernel
theorem dX8_size_0 : decode cX8_size 0 = .ok (.aload_n 0, 1) := by decide +kernel
theorem dX8_size_1 : decode cX8_size 1 = .ok (.getfield 20, 3) := by decide +kernel
theorem dX8_size_4 : decode cX8_size 4 = .ok (.getfield 34, 3) := by decide +kernel
theorem dX8_size_7 : decode cX8_size 7 = .ok (.ireturn, 1) := by decide +kernel
theorem dX8_kindOf_0 : decode cX8_kindOf 0 = .ok (.aload_n 0, 1) := by decide +kernel
theorem dX8_kindOf_1 : decode cX8_kindOf 1 = .ok (.getfield 20, 3) := by decide +kernel
theorem dX8_kindOf_4 : decode cX8_kindOf 4 = .ok (.iload_n 1, 1) := by decide +kernel
theorem dX8_kindOf_5 : decode cX8_kindOf 5 = .ok (.iconst 0, 1) := by decide +kernel
theorem dX8_kindOf_6 : decode cX8_kindOf 6 = .ok (.iconst 0, 1) := by decide +kernel
theorem dX8_kindOf_7 : decode cX8_kindOf 7 = .ok (.invokevirtual 118, 3) := by decide +kernel
theorem dX8_kindOf_10 : decode cX8_kindOf 10 = .ok (.ireturn, 1) := by decide +kernel
theorem dX8_placeOf_0 : decode cX8_placeOf 0 = .ok (.aload_n 0, 1) := by decide +kernel
theorem dX8_placeOf_1 : decode cX8_placeOf 1 = .ok (.getfield 20, 3) := by decide +kernel
theorem dX8_placeOf_4 : decode cX8_placeOf 4 = .ok (.iload_n 1, 1) := by decide +kernel
theorem dX8_placeOf_5 : decode cX8_placeOf 5 = .ok (.iconst 1, 1) := by decide +kernel
theorem dX8_placeOf_6 : decode cX8_placeOf 6 = .ok (.aload_n 0, 1) := by decide +kernel
theorem dX8_placeOf_7 : decode cX8_placeOf 7 = .ok (.getfield 28, 3) := by decide +kernel
theorem dX8_placeOf_10 : decode cX8_placeOf 10 = .ok (.invokevirtual 118, 3) := by decide +kernel
theorem dX8_placeOf_13 : decode cX8_placeOf 13 = .ok (.ireturn, 1) := by decide +kernel
theorem dX8_valueOf_0 : decode cX8_valueOf 0 = .ok (.aload_n 0, 1) := by decide +kernel
theorem dX8_valueOf_1 : decode cX8_valueOf 1 = .ok (.getfield 20, 3) := by decide +kernel
theorem dX8_valueOf_4 : decode cX8_valueOf 4 = .ok (.iload_n 1, 1) := by decide +kernel
theorem dX8_valueOf_5 : decode cX8_valueOf 5 = .ok (.iconst 2, 1) := by decide +kernel
theorem dX8_valueOf_6 : decode cX8_valueOf 6 = .ok (.iconst 0, 1) := by decide +kernel
theorem dX8_valueOf_7 : decode cX8_valueOf 7 = .ok (.invokevirtual 118, 3) := by decide +kernel
theorem dX8_valueOf_10 : decode cX8_valueOf 10 = .ok (.ireturn, 1) := by decide +kernel
theorem dX8_spells_0 : decode cX8_spells 0 = .ok (.aload_n 0, 1) := by decide +kernel
theorem dX8_spells_1 : decode cX8_spells 1 = .ok (.iload_n 1, 1) := by decide +kernel
theorem dX8_spells_2 : decode cX8_spells 2 = .ok (.invokevirtual 122, 3) := by decide +kernel
theorem dX8_spells_5 : decode cX8_spells 5 = .ok (.iconst 1, 1) := by decide +kernel
theorem dX8_spells_6 : decode cX8_spells 6 = .ok (.if_icmp .ne 15, 3) := by decide +kernel
theorem dX8_spells_9 : decode cX8_spells 9 = .ok (.aload_n 0, 1) := by decide +kernel
theorem dX8_spells_10 : decode cX8_spells 10 = .ok (.iload_n 1, 1) := by decide +kernel
theorem dX8_spells_11 : decode cX8_spells 11 = .ok (.invokevirtual 125, 3) := by decide +kernel
theorem dX8_spells_14 : decode cX8_spells 14 = .ok (.aload_n 2, 1) := by decide +kernel
theorem dX8_spells_15 : decode cX8_spells 15 = .ok (.invokevirtual 128, 3) := by decide +kernel
theorem dX8_spells_18 : decode cX8_spells 18 = .ok (.if_icmp .eq 5, 3) := by decide +kernel
theorem dX8_spells_21 : decode cX8_spells 21 = .ok (.iconst 0, 1) := by decide +kernel
theorem dX8_spells_22 : decode cX8_spells 22 = .ok (.ireturn, 1) := by decide +kernel
theorem dX8_spells_23 : decode cX8_spells 23 = .ok (.iconst 0, 1) := by decide +kernel
theorem dX8_spells_24 : decode cX8_spells 24 = .ok (.istore_n 3, 1) := by decide +kernel
theorem dX8_spells_25 : decode cX8_spells 25 = .ok (.iload_n 3, 1) := by decide +kernel
theorem dX8_spells_26 : decode cX8_spells 26 = .ok (.aload_n 2, 1) := by decide +kernel
theorem dX8_spells_27 : decode cX8_spells 27 = .ok (.invokevirtual 128, 3) := by decide +kernel
theorem dX8_spells_30 : decode cX8_spells 30 = .ok (.if_icmp .ge 30, 3) := by decide +kernel
theorem dX8_spells_33 : decode cX8_spells 33 = .ok (.aload_n 0, 1) := by decide +kernel
theorem dX8_spells_34 : decode cX8_spells 34 = .ok (.aload_n 0, 1) := by decide +kernel
theorem dX8_spells_35 : decode cX8_spells 35 = .ok (.iload_n 1, 1) := by decide +kernel
theorem dX8_spells_36 : decode cX8_spells 36 = .ok (.invokevirtual 132, 3) := by decide +kernel
theorem dX8_spells_39 : decode cX8_spells 39 = .ok (.iload_n 3, 1) := by decide +kernel
theorem dX8_spells_40 : decode cX8_spells 40 = .ok (.iadd, 1) := by decide +kernel
theorem dX8_spells_41 : decode cX8_spells 41 = .ok (.invokevirtual 54, 3) := by decide +kernel
theorem dX8_spells_44 : decode cX8_spells 44 = .ok (.aload_n 2, 1) := by decide +kernel
theorem dX8_spells_45 : decode cX8_spells 45 = .ok (.iload_n 3, 1) := by decide +kernel
theorem dX8_spells_46 : decode cX8_spells 46 = .ok (.invokevirtual 135, 3) := by decide +kernel
theorem dX8_spells_49 : decode cX8_spells 49 = .ok (.if_icmp .eq 5, 3) := by decide +kernel
theorem dX8_spells_52 : decode cX8_spells 52 = .ok (.iconst 0, 1) := by decide +kernel
theorem dX8_spells_53 : decode cX8_spells 53 = .ok (.ireturn, 1) := by decide +kernel
theorem dX8_spells_54 : decode cX8_spells 54 = .ok (.iinc 3 1, 3) := by decide +kernel
theorem dX8_spells_57 : decode cX8_spells 57 = .ok (.goto (-32), 3) := by decide +kernel
theorem dX8_spells_60 : decode cX8_spells 60 = .ok (.iconst 1, 1) := by decide +kernel
theorem dX8_spells_61 : decode cX8_spells 61 = .ok (.ireturn, 1) := by decide +kernel
