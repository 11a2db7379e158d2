theorem dX0_init_0 : decode cX0_init 0 = .ok (.aload_n 0, 1) := by decide +kernel
theorem dX0_init_1 : decode cX0_init 1 = .ok (.invokespecial 3, 3) := by decide +kernel
theorem dX0_init_4 : decode cX0_init 4 = .ok (.aload_n 0, 1) := by decide +kernel
theorem dX0_init_5 : decode cX0_init 5 = .ok (.new 9, 3) := by decide +kernel
theorem dX0_init_8 : decode cX0_init 8 = .ok (.dup, 1) := by decide +kernel
theorem dX0_init_9 : decode cX0_init 9 = .ok (.sipush 400, 3) := by decide +kernel
theorem dX0_init_12 : decode cX0_init 12 = .ok (.bipush 6, 2) := by decide +kernel
theorem dX0_init_14 : decode cX0_init 14 = .ok (.invokespecial 11, 3) := by decide +kernel
theorem dX0_init_17 : decode cX0_init 17 = .ok (.putfield 14, 3) := by decide +kernel
theorem dX0_init_20 : decode cX0_init 20 = .ok (.aload_n 0, 1) := by decide +kernel
theorem dX0_init_21 : decode cX0_init 21 = .ok (.new 9, 3) := by decide +kernel
theorem dX0_init_24 : decode cX0_init 24 = .ok (.dup, 1) := by decide +kernel
theorem dX0_init_25 : decode cX0_init 25 = .ok (.sipush 800, 3) := by decide +kernel
theorem dX0_init_28 : decode cX0_init 28 = .ok (.bipush 8, 2) := by decide +kernel
theorem dX0_init_30 : decode cX0_init 30 = .ok (.invokespecial 11, 3) := by decide +kernel
theorem dX0_init_33 : decode cX0_init 33 = .ok (.putfield 20, 3) := by decide +kernel
theorem dX0_init_36 : decode cX0_init 36 = .ok (.aload_n 0, 1) := by decide +kernel
theorem dX0_init_37 : decode cX0_init 37 = .ok (.new 9, 3) := by decide +kernel
theorem dX0_init_40 : decode cX0_init 40 = .ok (.dup, 1) := by decide +kernel
theorem dX0_init_41 : decode cX0_init 41 = .ok (.sipush 2000, 3) := by decide +kernel
theorem dX0_init_44 : decode cX0_init 44 = .ok (.iconst 2, 1) := by decide +kernel
theorem dX0_init_45 : decode cX0_init 45 = .ok (.invokespecial 11, 3) := by decide +kernel
theorem dX0_init_48 : decode cX0_init 48 = .ok (.putfield 23, 3) := by decide +kernel
theorem dX0_init_51 : decode cX0_init 51 = .ok (.aload_n 0, 1) := by decide +kernel
theorem dX0_init_52 : decode cX0_init 52 = .ok (.new 9, 3) := by decide +kernel
theorem dX0_init_55 : decode cX0_init 55 = .ok (.dup, 1) := by decide +kernel
theorem dX0_init_56 : decode cX0_init 56 = .ok (.sipush 150, 3) := by decide +kernel
theorem dX0_init_59 : decode cX0_init 59 = .ok (.iconst 2, 1) := by decide +kernel
theorem dX0_init_60 : decode cX0_init 60 = .ok (.invokespecial 11, 3) := by decide +kernel
theorem dX0_init_63 : decode cX0_init 63 = .ok (.putfield 26, 3) := by decide +kernel
theorem dX0_init_66 : decode cX0_init 66 = .ok (.aload_n 0, 1) := by decide +kernel
theorem dX0_init_67 : decode cX0_init 67 = .ok (.sipush 3000, 3) := by decide +kernel
theorem dX0_init_70 : decode cX0_init 70 = .ok (.newarray .int, 2) := by decide +kernel
theorem dX0_init_72 : decode cX0_init 72 = .ok (.putfield 29, 3) := by decide +kernel
theorem dX0_init_75 : decode cX0_init 75 = .ok (.return_, 1) := by decide +kernel
theorem dX0_clear_0 : decode cX0_clear 0 = .ok (.aload_n 0, 1) := by decide +kernel
theorem dX0_clear_1 : decode cX0_clear 1 = .ok (.getfield 14, 3) := by decide +kernel
theorem dX0_clear_4 : decode cX0_clear 4 = .ok (.iconst 0, 1) := by decide +kernel
theorem dX0_clear_5 : decode cX0_clear 5 = .ok (.putfield 33, 3) := by decide +kernel
theorem dX0_clear_8 : decode cX0_clear 8 = .ok (.aload_n 0, 1) := by decide +kernel
theorem dX0_clear_9 : decode cX0_clear 9 = .ok (.getfield 20, 3) := by decide +kernel
theorem dX0_clear_12 : decode cX0_clear 12 = .ok (.iconst 0, 1) := by decide +kernel
theorem dX0_clear_13 : decode cX0_clear 13 = .ok (.putfield 33, 3) := by decide +kernel
theorem dX0_clear_16 : decode cX0_clear 16 = .ok (.aload_n 0, 1) := by decide +kernel
theorem dX0_clear_17 : decode cX0_clear 17 = .ok (.getfield 23, 3) := by decide +kernel
theorem dX0_clear_20 : decode cX0_clear 20 = .ok (.iconst 0, 1) := by decide +kernel
theorem dX0_clear_21 : decode cX0_clear 21 = .ok (.putfield 33, 3) := by decide +kernel
theorem dX0_clear_24 : decode cX0_clear 24 = .ok (.aload_n 0, 1) := by decide +kernel
theorem dX0_clear_25 : decode cX0_clear 25 = .ok (.getfield 26, 3) := by decide +kernel
theorem dX0_clear_28 : decode cX0_clear 28 = .ok (.iconst 0, 1) := by decide +kernel
theorem dX0_clear_29 : decode cX0_clear 29 = .ok (.putfield 33, 3) := by decide +kernel
theorem dX0_clear_32 : decode cX0_clear 32 = .ok (.aload_n 0, 1) := by decide +kernel
theorem dX0_clear_33 : decode cX0_clear 33 = .ok (.iconst 0, 1) := by decide +kernel
theorem dX0_clear_34 : decode cX0_clear 34 = .ok (.putfield 37, 3) := by decide +kernel
theorem dX0_clear_37 : decode cX0_clear 37 = .ok (.return_, 1) := by decide +kernel
theorem dX0_addItem_0 : decode cX0_addItem 0 = .ok (.aload_n 0, 1) := by decide +kernel
theorem dX0_addItem_1 : decode cX0_addItem 1 = .ok (.getfield 23, 3) := by decide +kernel
theorem dX0_addItem_4 : decode cX0_addItem 4 = .ok (.invokevirtual 40, 3) := by decide +kernel
theorem dX0_addItem_7 : decode cX0_addItem 7 = .ok (.istore_n 3, 1) := by decide +kernel
theorem dX0_addItem_8 : decode cX0_addItem 8 = .ok (.aload_n 0, 1) := by decide +kernel
theorem dX0_addItem_9 : decode cX0_addItem 9 = .ok (.getfield 23, 3) := by decide +kernel
theorem dX0_addItem_12 : decode cX0_addItem 12 = .ok (.iload_n 3, 1) := by decide +kernel
theorem dX0_addItem_13 : decode cX0_addItem 13 = .ok (.iconst 0, 1) := by decide +kernel
theorem dX0_addItem_14 : decode cX0_addItem 14 = .ok (.iload_n 1, 1) := by decide +kernel
theorem dX0_addItem_15 : decode cX0_addItem 15 = .ok (.invokevirtual 44, 3) := by decide +kernel
theorem dX0_addItem_18 : decode cX0_addItem 18 = .ok (.aload_n 0, 1) := by decide +kernel
theorem dX0_addItem_19 : decode cX0_addItem 19 = .ok (.getfield 23, 3) := by decide +kernel
theorem dX0_addItem_22 : decode cX0_addItem 22 = .ok (.iload_n 3, 1) := by decide +kernel
theorem dX0_addItem_23 : decode cX0_addItem 23 = .ok (.iconst 1, 1) := by decide +kernel
theorem dX0_addItem_24 : decode cX0_addItem 24 = .ok (.iload_n 2, 1) := by decide +kernel
theorem dX0_addItem_25 : decode cX0_addItem 25 = .ok (.invokevirtual 44, 3) := by decide +kernel
theorem dX0_addItem_28 : decode cX0_addItem 28 = .ok (.return_, 1) := by decide +kernel
theorem dX0_addByte_0 : decode cX0_addByte 0 = .ok (.aload_n 0, 1) := by decide +kernel
theorem dX0_addByte_1 : decode cX0_addByte 1 = .ok (.getfield 37, 3) := by decide +kernel
theorem dX0_addByte_4 : decode cX0_addByte 4 = .ok (.aload_n 0, 1) := by decide +kernel
theorem dX0_addByte_5 : decode cX0_addByte 5 = .ok (.getfield 29, 3) := by decide +kernel
theorem dX0_addByte_8 : decode cX0_addByte 8 = .ok (.arraylength, 1) := by decide +kernel
theorem dX0_addByte_9 : decode cX0_addByte 9 = .ok (.if_icmp .ge 23, 3) := by decide +kernel
theorem dX0_addByte_12 : decode cX0_addByte 12 = .ok (.aload_n 0, 1) := by decide +kernel
theorem dX0_addByte_13 : decode cX0_addByte 13 = .ok (.getfield 29, 3) := by decide +kernel
theorem dX0_addByte_16 : decode cX0_addByte 16 = .ok (.aload_n 0, 1) := by decide +kernel
theorem dX0_addByte_17 : decode cX0_addByte 17 = .ok (.getfield 37, 3) := by decide +kernel
theorem dX0_addByte_20 : decode cX0_addByte 20 = .ok (.iload_n 1, 1) := by decide +kernel
theorem dX0_addByte_21 : decode cX0_addByte 21 = .ok (.iastore, 1) := by decide +kernel
theorem dX0_addByte_22 : decode cX0_addByte 22 = .ok (.aload_n 0, 1) := by decide +kernel
theorem dX0_addByte_23 : decode cX0_addByte 23 = .ok (.dup, 1) := by decide +kernel
theorem dX0_addByte_24 : decode cX0_addByte 24 = .ok (.getfield 37, 3) := by decide +kernel
theorem dX0_addByte_27 : decode cX0_addByte 27 = .ok (.iconst 1, 1) := by decide +kernel
theorem dX0_addByte_28 : decode cX0_addByte 28 = .ok (.iadd, 1) := by decide +kernel
theorem dX0_addByte_29 : decode cX0_addByte 29 = .ok (.putfield 37, 3) := by decide +kernel
theorem dX0_addByte_32 : decode cX0_addByte 32 = .ok (.return_, 1) := by decide +kernel
theorem dX0_addName_0 : decode cX0_addName 0 = .ok (.aload_n 0, 1) := by decide +kernel
theorem dX0_addName_1 : decode cX0_addName 1 = .ok (.getfield 26, 3) := by decide +kernel
theorem dX0_addName_4 : decode cX0_addName 4 = .ok (.invokevirtual 40, 3) := by decide +kernel
theorem dX0_addName_7 : decode cX0_addName 7 = .ok (.istore 4, 2) := by decide +kernel
theorem dX0_addName_9 : decode cX0_addName 9 = .ok (.aload_n 0, 1) := by decide +kernel
theorem dX0_addName_10 : decode cX0_addName 10 = .ok (.getfield 26, 3) := by decide +kernel
theorem dX0_addName_13 : decode cX0_addName 13 = .ok (.iload 4, 2) := by decide +kernel
theorem dX0_addName_15 : decode cX0_addName 15 = .ok (.iconst 0, 1) := by decide +kernel
theorem dX0_addName_16 : decode cX0_addName 16 = .ok (.aload_n 0, 1) := by decide +kernel
theorem dX0_addName_17 : decode cX0_addName 17 = .ok (.getfield 37, 3) := by decide +kernel
theorem dX0_addName_20 : decode cX0_addName 20 = .ok (.invokevirtual 44, 3) := by decide +kernel
theorem dX0_addName_23 : decode cX0_addName 23 = .ok (.aload_n 0, 1) := by decide +kernel
theorem dX0_addName_24 : decode cX0_addName 24 = .ok (.getfield 26, 3) := by decide +kernel
theorem dX0_addName_27 : decode cX0_addName 27 = .ok (.iload 4, 2) := by decide +kernel
theorem dX0_addName_29 : decode cX0_addName 29 = .ok (.iconst 1, 1) := by decide +kernel
theorem dX0_addName_30 : decode cX0_addName 30 = .ok (.iload_n 3, 1) := by decide +kernel
theorem dX0_addName_31 : decode cX0_addName 31 = .ok (.invokevirtual 44, 3) := by decide +kernel
theorem dX0_addName_34 : decode cX0_addName 34 = .ok (.iload_n 2, 1) := by decide +kernel
theorem dX0_addName_35 : decode cX0_addName 35 = .ok (.istore 5, 2) := by decide +kernel
theorem dX0_addName_37 : decode cX0_addName 37 = .ok (.iload 5, 2) := by decide +kernel
theorem dX0_addName_39 : decode cX0_addName 39 = .ok (.iload_n 2, 1) := by decide +kernel
theorem dX0_addName_40 : decode cX0_addName 40 = .ok (.iload_n 3, 1) := by decide +kernel
theorem dX0_addName_41 : decode cX0_addName 41 = .ok (.iadd, 1) := by decide +kernel
theorem dX0_addName_42 : decode cX0_addName 42 = .ok (.if_icmp .ge 29, 3) := by decide +kernel
theorem dX0_addName_45 : decode cX0_addName 45 = .ok (.iload 5, 2) := by decide +kernel
theorem dX0_addName_47 : decode cX0_addName 47 = .ok (.ifCond .lt 18, 3) := by decide +kernel
theorem dX0_addName_50 : decode cX0_addName 50 = .ok (.iload 5, 2) := by decide +kernel
theorem dX0_addName_52 : decode cX0_addName 52 = .ok (.aload_n 1, 1) := by decide +kernel
theorem dX0_addName_53 : decode cX0_addName 53 = .ok (.arraylength, 1) := by decide +kernel
theorem dX0_addName_54 : decode cX0_addName 54 = .ok (.if_icmp .ge 11, 3) := by decide +kernel
theorem dX0_addName_57 : decode cX0_addName 57 = .ok (.aload_n 0, 1) := by decide +kernel
theorem dX0_addName_58 : decode cX0_addName 58 = .ok (.aload_n 1, 1) := by decide +kernel
theorem dX0_addName_59 : decode cX0_addName 59 = .ok (.iload 5, 2) := by decide +kernel
theorem dX0_addName_61 : decode cX0_addName 61 = .ok (.iaload, 1) := by decide +kernel
theorem dX0_addName_62 : decode cX0_addName 62 = .ok (.invokevirtual 48, 3) := by decide +kernel
theorem dX0_addName_65 : decode cX0_addName 65 = .ok (.iinc 5 1, 3) := by decide +kernel
theorem dX0_addName_68 : decode cX0_addName 68 = .ok (.goto (-31), 3) := by decide +kernel
theorem dX0_addName_71 : decode cX0_addName 71 = .ok (.iload 4, 2) := by decide +kernel
theorem dX0_addName_73 : decode cX0_addName 73 = .ok (.ireturn, 1) := by decide +kernel
theorem dX0_findName_0 : decode cX0_findName 0 = .ok (.iload_n 2, 1) := by decide +kernel
theorem dX0_findName_1 : decode cX0_findName 1 = .ok (.ifCond .lt 16, 3) := by decide +kernel
theorem dX0_findName_4 : decode cX0_findName 4 = .ok (.iload_n 3, 1) := by decide +kernel
theorem dX0_findName_5 : decode cX0_findName 5 = .ok (.iconst 1, 1) := by decide +kernel
theorem dX0_findName_6 : decode cX0_findName 6 = .ok (.if_icmp .lt 11, 3) := by decide +kernel
theorem dX0_findName_9 : decode cX0_findName 9 = .ok (.iload_n 2, 1) := by decide +kernel
theorem dX0_findName_10 : decode cX0_findName 10 = .ok (.iload_n 3, 1) := by decide +kernel
theorem dX0_findName_11 : decode cX0_findName 11 = .ok (.iadd, 1) := by decide +kernel
theorem dX0_findName_12 : decode cX0_findName 12 = .ok (.aload_n 1, 1) := by decide +kernel
theorem dX0_findName_13 : decode cX0_findName 13 = .ok (.arraylength, 1) := by decide +kernel
theorem dX0_findName_14 : decode cX0_findName 14 = .ok (.if_icmp .le 5, 3) := by decide +kernel
theorem dX0_findName_17 : decode cX0_findName 17 = .ok (.iconst (-1), 1) := by decide +kernel
theorem dX0_findName_18 : decode cX0_findName 18 = .ok (.ireturn, 1) := by decide +kernel
theorem dX0_findName_19 : decode cX0_findName 19 = .ok (.iconst 0, 1) := by decide +kernel
theorem dX0_findName_20 : decode cX0_findName 20 = .ok (.istore 4, 2) := by decide +kernel
theorem dX0_findName_22 : decode cX0_findName 22 = .ok (.iload 4, 2) := by decide +kernel
theorem dX0_findName_24 : decode cX0_findName 24 = .ok (.aload_n 0, 1) := by decide +kernel
theorem dX0_findName_25 : decode cX0_findName 25 = .ok (.getfield 26, 3) := by decide +kernel
theorem dX0_findName_28 : decode cX0_findName 28 = .ok (.getfield 33, 3) := by decide +kernel
theorem dX0_findName_31 : decode cX0_findName 31 = .ok (.if_icmp .ge 123, 3) := by decide +kernel
theorem dX0_findName_34 : decode cX0_findName 34 = .ok (.aload_n 0, 1) := by decide +kernel
theorem dX0_findName_35 : decode cX0_findName 35 = .ok (.getfield 26, 3) := by decide +kernel
theorem dX0_findName_38 : decode cX0_findName 38 = .ok (.iload 4, 2) := by decide +kernel
theorem dX0_findName_40 : decode cX0_findName 40 = .ok (.iconst 0, 1) := by decide +kernel
theorem dX0_findName_41 : decode cX0_findName 41 = .ok (.iconst 0, 1) := by decide +kernel
theorem dX0_findName_42 : decode cX0_findName 42 = .ok (.invokevirtual 52, 3) := by decide +kernel
theorem dX0_findName_45 : decode cX0_findName 45 = .ok (.istore 5, 2) := by decide +kernel
theorem dX0_findName_47 : decode cX0_findName 47 = .ok (.iload 5, 2) := by decide +kernel
theorem dX0_findName_49 : decode cX0_findName 49 = .ok (.aload_n 0, 1) := by decide +kernel
theorem dX0_findName_50 : decode cX0_findName 50 = .ok (.getfield 26, 3) := by decide +kernel
theorem dX0_findName_53 : decode cX0_findName 53 = .ok (.iload 4, 2) := by decide +kernel
theorem dX0_findName_55 : decode cX0_findName 55 = .ok (.iconst 1, 1) := by decide +kernel
theorem dX0_findName_56 : decode cX0_findName 56 = .ok (.iconst 0, 1) := by decide +kernel
theorem dX0_findName_57 : decode cX0_findName 57 = .ok (.invokevirtual 52, 3) := by decide +kernel
theorem dX0_findName_60 : decode cX0_findName 60 = .ok (.iadd, 1) := by decide +kernel
theorem dX0_findName_61 : decode cX0_findName 61 = .ok (.istore 6, 2) := by decide +kernel
theorem dX0_findName_63 : decode cX0_findName 63 = .ok (.iload 6, 2) := by decide +kernel
theorem dX0_findName_65 : decode cX0_findName 65 = .ok (.iload 5, 2) := by decide +kernel
theorem dX0_findName_67 : decode cX0_findName 67 = .ok (.isub, 1) := by decide +kernel
theorem dX0_findName_68 : decode cX0_findName 68 = .ok (.iload_n 3, 1) := by decide +kernel
theorem dX0_findName_69 : decode cX0_findName 69 = .ok (.if_icmp .ne 22, 3) := by decide +kernel
theorem dX0_findName_72 : decode cX0_findName 72 = .ok (.iload 5, 2) := by decide +kernel
theorem dX0_findName_74 : decode cX0_findName 74 = .ok (.ifCond .lt 17, 3) := by decide +kernel
theorem dX0_findName_77 : decode cX0_findName 77 = .ok (.iload 6, 2) := by decide +kernel
theorem dX0_findName_79 : decode cX0_findName 79 = .ok (.aload_n 0, 1) := by decide +kernel
theorem dX0_findName_80 : decode cX0_findName 80 = .ok (.getfield 29, 3) := by decide +kernel
theorem dX0_findName_83 : decode cX0_findName 83 = .ok (.arraylength, 1) := by decide +kernel
theorem dX0_findName_84 : decode cX0_findName 84 = .ok (.if_icmp .gt 7, 3) := by decide +kernel
theorem dX0_findName_87 : decode cX0_findName 87 = .ok (.iconst 1, 1) := by decide +kernel
theorem dX0_findName_88 : decode cX0_findName 88 = .ok (.goto 4, 3) := by decide +kernel
theorem dX0_findName_91 : decode cX0_findName 91 = .ok (.iconst 0, 1) := by decide +kernel
theorem dX0_findName_92 : decode cX0_findName 92 = .ok (.istore 7, 2) := by decide +kernel
theorem dX0_findName_94 : decode cX0_findName 94 = .ok (.iconst 0, 1) := by decide +kernel
theorem dX0_findName_95 : decode cX0_findName 95 = .ok (.istore 8, 2) := by decide +kernel
theorem dX0_findName_97 : decode cX0_findName 97 = .ok (.iload 8, 2) := by decide +kernel
theorem dX0_findName_99 : decode cX0_findName 99 = .ok (.iload_n 3, 1) := by decide +kernel
theorem dX0_findName_100 : decode cX0_findName 100 = .ok (.if_icmp .ge 40, 3) := by decide +kernel
theorem dX0_findName_103 : decode cX0_findName 103 = .ok (.iload 7, 2) := by decide +kernel
theorem dX0_findName_105 : decode cX0_findName 105 = .ok (.ifCond .eq 35, 3) := by decide +kernel
theorem dX0_findName_108 : decode cX0_findName 108 = .ok (.aload_n 0, 1) := by decide +kernel
theorem dX0_findName_109 : decode cX0_findName 109 = .ok (.getfield 29, 3) := by decide +kernel
theorem dX0_findName_112 : decode cX0_findName 112 = .ok (.iload 5, 2) := by decide +kernel
theorem dX0_findName_114 : decode cX0_findName 114 = .ok (.iload 8, 2) := by decide +kernel
theorem dX0_findName_116 : decode cX0_findName 116 = .ok (.iadd, 1) := by decide +kernel
theorem dX0_findName_117 : decode cX0_findName 117 = .ok (.iaload, 1) := by decide +kernel
theorem dX0_findName_118 : decode cX0_findName 118 = .ok (.aload_n 1, 1) := by decide +kernel
theorem dX0_findName_119 : decode cX0_findName 119 = .ok (.iload_n 2, 1) := by decide +kernel
theorem dX0_findName_120 : decode cX0_findName 120 = .ok (.iload 8, 2) := by decide +kernel
theorem dX0_findName_122 : decode cX0_findName 122 = .ok (.iadd, 1) := by decide +kernel
theorem dX0_findName_123 : decode cX0_findName 123 = .ok (.iaload, 1) := by decide +kernel
theorem dX0_findName_124 : decode cX0_findName 124 = .ok (.if_icmp .ne 7, 3) := by decide +kernel
theorem dX0_findName_127 : decode cX0_findName 127 = .ok (.iconst 1, 1) := by decide +kernel
theorem dX0_findName_128 : decode cX0_findName 128 = .ok (.goto 4, 3) := by decide +kernel
theorem dX0_findName_131 : decode cX0_findName 131 = .ok (.iconst 0, 1) := by decide +kernel
theorem dX0_findName_132 : decode cX0_findName 132 = .ok (.istore 7, 2) := by decide +kernel
theorem dX0_findName_134 : decode cX0_findName 134 = .ok (.iinc 8 1, 3) := by decide +kernel
theorem dX0_findName_137 : decode cX0_findName 137 = .ok (.goto (-40), 3) := by decide +kernel
theorem dX0_findName_140 : decode cX0_findName 140 = .ok (.iload 7, 2) := by decide +kernel
theorem dX0_findName_142 : decode cX0_findName 142 = .ok (.ifCond .eq 6, 3) := by decide +kernel
theorem dX0_findName_145 : decode cX0_findName 145 = .ok (.iload 4, 2) := by decide +kernel
theorem dX0_findName_147 : decode cX0_findName 147 = .ok (.ireturn, 1) := by decide +kernel
theorem dX0_findName_148 : decode cX0_findName 148 = .ok (.iinc 4 1, 3) := by decide +kernel
theorem dX0_findName_151 : decode cX0_findName 151 = .ok (.goto (-129), 3) := by decide +kernel
theorem dX0_findName_154 : decode cX0_findName 154 = .ok (.iconst (-1), 1) := by decide +kernel
theorem dX0_findName_155 : decode cX0_findName 155 = .ok (.ireturn, 1) := by decide +kernel
theorem dX0_byteOfName_0 : decode cX0_byteOfName 0 = .ok (.aload_n 0, 1) := by decide +kernel
theorem dX0_byteOfName_1 : decode cX0_byteOfName 1 = .ok (.aload_n 0, 1) := by decide +kernel
theorem dX0_byteOfName_2 : decode cX0_byteOfName 2 = .ok (.getfield 26, 3) := by decide +kernel
theorem dX0_byteOfName_5 : decode cX0_byteOfName 5 = .ok (.iload_n 1, 1) := by decide +kernel
theorem dX0_byteOfName_6 : decode cX0_byteOfName 6 = .ok (.iconst 0, 1) := by decide +kernel
theorem dX0_byteOfName_7 : decode cX0_byteOfName 7 = .ok (.iconst 0, 1) := by decide +kernel
theorem dX0_byteOfName_8 : decode cX0_byteOfName 8 = .ok (.invokevirtual 52, 3) := by decide +kernel
theorem dX0_byteOfName_11 : decode cX0_byteOfName 11 = .ok (.aload_n 0, 1) := by decide +kernel
theorem dX0_byteOfName_12 : decode cX0_byteOfName 12 = .ok (.getfield 26, 3) := by decide +kernel
theorem dX0_byteOfName_15 : decode cX0_byteOfName 15 = .ok (.iload_n 1, 1) := by decide +kernel
theorem dX0_byteOfName_16 : decode cX0_byteOfName 16 = .ok (.iconst 1, 1) := by decide +kernel
theorem dX0_byteOfName_17 : decode cX0_byteOfName 17 = .ok (.iconst 0, 1) := by decide +kernel
theorem dX0_byteOfName_18 : decode cX0_byteOfName 18 = .ok (.invokevirtual 52, 3) := by decide +kernel
theorem dX0_byteOfName_21 : decode cX0_byteOfName 21 = .ok (.iload_n 2, 1) := by decide +kernel
theorem dX0_byteOfName_22 : decode cX0_byteOfName 22 = .ok (.invokevirtual 56, 3) := by decide +kernel
theorem dX0_byteOfName_25 : decode cX0_byteOfName 25 = .ok (.ireturn, 1) := by decide +kernel
theorem dX0_byteOfString_0 : decode cX0_byteOfString 0 = .ok (.aload_n 0, 1) := by decide +kernel
theorem dX0_byteOfString_1 : decode cX0_byteOfString 1 = .ok (.aload_n 0, 1) := by decide +kernel
theorem dX0_byteOfString_2 : decode cX0_byteOfString 2 = .ok (.getfield 20, 3) := by decide +kernel
theorem dX0_byteOfString_5 : decode cX0_byteOfString 5 = .ok (.iload_n 1, 1) := by decide +kernel
theorem dX0_byteOfString_6 : decode cX0_byteOfString 6 = .ok (.bipush 7, 2) := by decide +kernel
theorem dX0_byteOfString_8 : decode cX0_byteOfString 8 = .ok (.iconst 0, 1) := by decide +kernel
theorem dX0_byteOfString_9 : decode cX0_byteOfString 9 = .ok (.invokevirtual 52, 3) := by decide +kernel
theorem dX0_byteOfString_12 : decode cX0_byteOfString 12 = .ok (.aload_n 0, 1) := by decide +kernel
theorem dX0_byteOfString_13 : decode cX0_byteOfString 13 = .ok (.getfield 20, 3) := by decide +kernel
theorem dX0_byteOfString_16 : decode cX0_byteOfString 16 = .ok (.iload_n 1, 1) := by decide +kernel
theorem dX0_byteOfString_17 : decode cX0_byteOfString 17 = .ok (.bipush 6, 2) := by decide +kernel
theorem dX0_byteOfString_19 : decode cX0_byteOfString 19 = .ok (.iconst 0, 1) := by decide +kernel
theorem dX0_byteOfString_20 : decode cX0_byteOfString 20 = .ok (.invokevirtual 52, 3) := by decide +kernel
theorem dX0_byteOfString_23 : decode cX0_byteOfString 23 = .ok (.iload_n 2, 1) := by decide +kernel
theorem dX0_byteOfString_24 : decode cX0_byteOfString 24 = .ok (.invokevirtual 56, 3) := by decide +kernel
theorem dX0_byteOfString_27 : decode cX0_byteOfString 27 = .ok (.ireturn, 1) := by decide +kernel
theorem dX0_byteBehind_0 : decode cX0_byteBehind 0 = .ok (.iload_n 1, 1) := by decide +kernel
theorem dX0_byteBehind_1 : decode cX0_byteBehind 1 = .ok (.ifCond .lt 27, 3) := by decide +kernel
theorem dX0_byteBehind_4 : decode cX0_byteBehind 4 = .ok (.iload_n 3, 1) := by decide +kernel
theorem dX0_byteBehind_5 : decode cX0_byteBehind 5 = .ok (.ifCond .lt 23, 3) := by decide +kernel
theorem dX0_byteBehind_8 : decode cX0_byteBehind 8 = .ok (.iload_n 3, 1) := by decide +kernel
theorem dX0_byteBehind_9 : decode cX0_byteBehind 9 = .ok (.iload_n 2, 1) := by decide +kernel
theorem dX0_byteBehind_10 : decode cX0_byteBehind 10 = .ok (.if_icmp .ge 18, 3) := by decide +kernel
theorem dX0_byteBehind_13 : decode cX0_byteBehind 13 = .ok (.iload_n 1, 1) := by decide +kernel
theorem dX0_byteBehind_14 : decode cX0_byteBehind 14 = .ok (.iload_n 3, 1) := by decide +kernel
theorem dX0_byteBehind_15 : decode cX0_byteBehind 15 = .ok (.iadd, 1) := by decide +kernel
theorem dX0_byteBehind_16 : decode cX0_byteBehind 16 = .ok (.aload_n 0, 1) := by decide +kernel
theorem dX0_byteBehind_17 : decode cX0_byteBehind 17 = .ok (.getfield 29, 3) := by decide +kernel
theorem dX0_byteBehind_20 : decode cX0_byteBehind 20 = .ok (.arraylength, 1) := by decide +kernel
theorem dX0_byteBehind_21 : decode cX0_byteBehind 21 = .ok (.if_icmp .ge 7, 3) := by decide +kernel
theorem dX0_byteBehind_24 : decode cX0_byteBehind 24 = .ok (.iconst 1, 1) := by decide +kernel
theorem dX0_byteBehind_25 : decode cX0_byteBehind 25 = .ok (.goto 4, 3) := by decide +kernel
theorem dX0_byteBehind_28 : decode cX0_byteBehind 28 = .ok (.iconst 0, 1) := by decide +kernel
theorem dX0_byteBehind_29 : decode cX0_byteBehind 29 = .ok (.istore 4, 2) := by decide +kernel
theorem dX0_byteBehind_31 : decode cX0_byteBehind 31 = .ok (.iload 4, 2) := by decide +kernel
theorem dX0_byteBehind_33 : decode cX0_byteBehind 33 = .ok (.ifCond .eq 14, 3) := by decide +kernel
theorem dX0_byteBehind_36 : decode cX0_byteBehind 36 = .ok (.aload_n 0, 1) := by decide +kernel
theorem dX0_byteBehind_37 : decode cX0_byteBehind 37 = .ok (.getfield 29, 3) := by decide +kernel
theorem dX0_byteBehind_40 : decode cX0_byteBehind 40 = .ok (.iload_n 1, 1) := by decide +kernel
theorem dX0_byteBehind_41 : decode cX0_byteBehind 41 = .ok (.iload_n 3, 1) := by decide +kernel
theorem dX0_byteBehind_42 : decode cX0_byteBehind 42 = .ok (.iadd, 1) := by decide +kernel
theorem dX0_byteBehind_43 : decode cX0_byteBehind 43 = .ok (.iaload, 1) := by decide +kernel
theorem dX0_byteBehind_44 : decode cX0_byteBehind 44 = .ok (.goto 4, 3) := by decide +kernel
theorem dX0_byteBehind_47 : decode cX0_byteBehind 47 = .ok (.iconst (-1), 1) := by decide +kernel
theorem dX0_byteBehind_48 : decode cX0_byteBehind 48 = .ok (.ireturn, 1) := by decide +kernel
theorem dX1_isTwoSided_0 : decode cX1_isTwoSided 0 = .ok (.iload_n 0, 1) := by decide +kernel
theorem dX1_isTwoSided_1 : decode cX1_isTwoSided 1 = .ok (.bipush 12, 2) := by decide +kernel
theorem dX1_isTwoSided_3 : decode cX1_isTwoSided 3 = .ok (.if_icmp .lt 13, 3) := by decide +kernel
theorem dX1_isTwoSided_6 : decode cX1_isTwoSided 6 = .ok (.iload_n 0, 1) := by decide +kernel
theorem dX1_isTwoSided_7 : decode cX1_isTwoSided 7 = .ok (.bipush 21, 2) := by decide +kernel
theorem dX1_isTwoSided_9 : decode cX1_isTwoSided 9 = .ok (.if_icmp .gt 7, 3) := by decide +kernel
theorem dX1_isTwoSided_12 : decode cX1_isTwoSided 12 = .ok (.iconst 1, 1) := by decide +kernel
theorem dX1_isTwoSided_13 : decode cX1_isTwoSided 13 = .ok (.goto 4, 3) := by decide +kernel
theorem dX1_isTwoSided_16 : decode cX1_isTwoSided 16 = .ok (.iconst 0, 1) := by decide +kernel
theorem dX1_isTwoSided_17 : decode cX1_isTwoSided 17 = .ok (.ireturn, 1) := by decide +kernel
theorem dX1_isAhead_0 : decode cX1_isAhead 0 = .ok (.iload_n 0, 1) := by decide +kernel
theorem dX1_isAhead_1 : decode cX1_isAhead 1 = .ok (.bipush 10, 2) := by decide +kernel
theorem dX1_isAhead_3 : decode cX1_isAhead 3 = .ok (.if_icmp .eq 9, 3) := by decide +kernel
theorem dX1_isAhead_6 : decode cX1_isAhead 6 = .ok (.iload_n 0, 1) := by decide +kernel
theorem dX1_isAhead_7 : decode cX1_isAhead 7 = .ok (.bipush 11, 2) := by decide +kernel
theorem dX1_isAhead_9 : decode cX1_isAhead 9 = .ok (.if_icmp .ne 7, 3) := by decide +kernel
theorem dX1_isAhead_12 : decode cX1_isAhead 12 = .ok (.iconst 1, 1) := by decide +kernel
theorem dX1_isAhead_13 : decode cX1_isAhead 13 = .ok (.goto 4, 3) := by decide +kernel
theorem dX1_isAhead_16 : decode cX1_isAhead 16 = .ok (.iconst 0, 1) := by decide +kernel
theorem dX1_isAhead_17 : decode cX1_isAhead 17 = .ok (.ireturn, 1) := by decide +kernel
theorem dX1_levelOf_0 : decode cX1_levelOf 0 = .ok (.iload_n 0, 1) := by decide +kernel
theorem dX1_levelOf_1 : decode cX1_levelOf 1 = .ok (.bipush 12, 2) := by decide +kernel
theorem dX1_levelOf_3 : decode cX1_levelOf 3 = .ok (.isub, 1) := by decide +kernel
theorem dX1_levelOf_4 : decode cX1_levelOf 4 = .ok (.istore_n 1, 1) := by decide +kernel
theorem dX1_levelOf_5 : decode cX1_levelOf 5 = .ok (.iload_n 1, 1) := by decide +kernel
theorem dX1_levelOf_6 : decode cX1_levelOf 6 = .ok (.ifCond .lt 19, 3) := by decide +kernel
theorem dX1_levelOf_9 : decode cX1_levelOf 9 = .ok (.iload_n 1, 1) := by decide +kernel
theorem dX1_levelOf_10 : decode cX1_levelOf 10 = .ok (.getstatic 9, 3) := by decide +kernel
theorem dX1_levelOf_13 : decode cX1_levelOf 13 = .ok (.arraylength, 1) := by decide +kernel
theorem dX1_levelOf_14 : decode cX1_levelOf 14 = .ok (.if_icmp .ge 11, 3) := by decide +kernel
theorem dX1_levelOf_17 : decode cX1_levelOf 17 = .ok (.getstatic 9, 3) := by decide +kernel
theorem dX1_levelOf_20 : decode cX1_levelOf 20 = .ok (.iload_n 1, 1) := by decide +kernel
theorem dX1_levelOf_21 : decode cX1_levelOf 21 = .ok (.iaload, 1) := by decide +kernel
theorem dX1_levelOf_22 : decode cX1_levelOf 22 = .ok (.goto 4, 3) := by decide +kernel
theorem dX1_levelOf_25 : decode cX1_levelOf 25 = .ok (.iconst 0, 1) := by decide +kernel
theorem dX1_levelOf_26 : decode cX1_levelOf 26 = .ok (.ireturn, 1) := by decide +kernel
theorem dX1_signOf_0 : decode cX1_signOf 0 = .ok (.iload_n 0, 1) := by decide +kernel
theorem dX1_signOf_1 : decode cX1_signOf 1 = .ok (.tableswitch 89 11 21 #[59, 62, 89, 65, 68, 71, 74, 77, 80, 83, 86], 59) := by decide +kernel
theorem dX1_signOf_60 : decode cX1_signOf 60 = .ok (.ldc 13, 2) := by decide +kernel
theorem dX1_signOf_62 : decode cX1_signOf 62 = .ok (.areturn, 1) := by decide +kernel
theorem dX1_signOf_63 : decode cX1_signOf 63 = .ok (.ldc 15, 2) := by decide +kernel
theorem dX1_signOf_65 : decode cX1_signOf 65 = .ok (.areturn, 1) := by decide +kernel
theorem dX1_signOf_66 : decode cX1_signOf 66 = .ok (.ldc 17, 2) := by decide +kernel
theorem dX1_signOf_68 : decode cX1_signOf 68 = .ok (.areturn, 1) := by decide +kernel
theorem dX1_signOf_69 : decode cX1_signOf 69 = .ok (.ldc 19, 2) := by decide +kernel
theorem dX1_signOf_71 : decode cX1_signOf 71 = .ok (.areturn, 1) := by decide +kernel
theorem dX1_signOf_72 : decode cX1_signOf 72 = .ok (.ldc 21, 2) := by decide +kernel
theorem dX1_signOf_74 : decode cX1_signOf 74 = .ok (.areturn, 1) := by decide +kernel
theorem dX1_signOf_75 : decode cX1_signOf 75 = .ok (.ldc 23, 2) := by decide +kernel
theorem dX1_signOf_77 : decode cX1_signOf 77 = .ok (.areturn, 1) := by decide +kernel
theorem dX1_signOf_78 : decode cX1_signOf 78 = .ok (.ldc 25, 2) := by decide +kernel
theorem dX1_signOf_80 : decode cX1_signOf 80 = .ok (.areturn, 1) := by decide +kernel
theorem dX1_signOf_81 : decode cX1_signOf 81 = .ok (.ldc 27, 2) := by decide +kernel
theorem dX1_signOf_83 : decode cX1_signOf 83 = .ok (.areturn, 1) := by decide +kernel
theorem dX1_signOf_84 : decode cX1_signOf 84 = .ok (.ldc 29, 2) := by decide +kernel
theorem dX1_signOf_86 : decode cX1_signOf 86 = .ok (.areturn, 1) := by decide +kernel
theorem dX1_signOf_87 : decode cX1_signOf 87 = .ok (.ldc 31, 2) := by decide +kernel
theorem dX1_signOf_89 : decode cX1_signOf 89 = .ok (.areturn, 1) := by decide +kernel
theorem dX1_signOf_90 : decode cX1_signOf 90 = .ok (.ldc 33, 2) := by decide +kernel
theorem dX1_signOf_92 : decode cX1_signOf 92 = .ok (.areturn, 1) := by decide +kernel
theorem dX2_nameOf_0 : decode cX2_nameOf 0 = .ok (.iload_n 0, 1) := by decide +kernel
theorem dX2_nameOf_1 : decode cX2_nameOf 1 = .ok (.tableswitch 36 1 3 #[27, 30, 33], 27) := by decide +kernel
theorem dX2_nameOf_28 : decode cX2_nameOf 28 = .ok (.ldc 7, 2) := by decide +kernel
theorem dX2_nameOf_30 : decode cX2_nameOf 30 = .ok (.areturn, 1) := by decide +kernel
theorem dX2_nameOf_31 : decode cX2_nameOf 31 = .ok (.ldc 9, 2) := by decide +kernel
theorem dX2_nameOf_33 : decode cX2_nameOf 33 = .ok (.areturn, 1) := by decide +kernel
theorem dX2_nameOf_34 : decode cX2_nameOf 34 = .ok (.ldc 11, 2) := by decide +kernel
theorem dX2_nameOf_36 : decode cX2_nameOf 36 = .ok (.areturn, 1) := by decide +kernel
theorem dX2_nameOf_37 : decode cX2_nameOf 37 = .ok (.ldc 13, 2) := by decide +kernel
theorem dX2_nameOf_39 : decode cX2_nameOf 39 = .ok (.areturn, 1) := by decide +kernel
theorem dX2_numberOf_0 : decode cX2_numberOf 0 = .ok (.iconst 1, 1) := by decide +kernel
theorem dX2_numberOf_1 : decode cX2_numberOf 1 = .ok (.istore_n 2, 1) := by decide +kernel
theorem dX2_numberOf_2 : decode cX2_numberOf 2 = .ok (.iload_n 2, 1) := by decide +kernel
theorem dX2_numberOf_3 : decode cX2_numberOf 3 = .ok (.iconst 4, 1) := by decide +kernel
theorem dX2_numberOf_4 : decode cX2_numberOf 4 = .ok (.if_icmp .gt 23, 3) := by decide +kernel
theorem dX2_numberOf_7 : decode cX2_numberOf 7 = .ok (.aload_n 0, 1) := by decide +kernel
theorem dX2_numberOf_8 : decode cX2_numberOf 8 = .ok (.iload_n 1, 1) := by decide +kernel
theorem dX2_numberOf_9 : decode cX2_numberOf 9 = .ok (.iload_n 2, 1) := by decide +kernel
theorem dX2_numberOf_10 : decode cX2_numberOf 10 = .ok (.invokestatic 17, 3) := by decide +kernel
theorem dX2_numberOf_13 : decode cX2_numberOf 13 = .ok (.invokevirtual 21, 3) := by decide +kernel
theorem dX2_numberOf_16 : decode cX2_numberOf 16 = .ok (.ifCond .eq 5, 3) := by decide +kernel
theorem dX2_numberOf_19 : decode cX2_numberOf 19 = .ok (.iload_n 2, 1) := by decide +kernel
theorem dX2_numberOf_20 : decode cX2_numberOf 20 = .ok (.ireturn, 1) := by decide +kernel
theorem dX2_numberOf_21 : decode cX2_numberOf 21 = .ok (.iinc 2 1, 3) := by decide +kernel
theorem dX2_numberOf_24 : decode cX2_numberOf 24 = .ok (.goto (-22), 3) := by decide +kernel
theorem dX2_numberOf_27 : decode cX2_numberOf 27 = .ok (.iconst 0, 1) := by decide +kernel
theorem dX2_numberOf_28 : decode cX2_numberOf 28 = .ok (.ireturn, 1) := by decide +kernel
theorem dX4_init_0 : decode cX4_init 0 = .ok (.aload_n 0, 1) := by decide +kernel
theorem dX4_init_1 : decode cX4_init 1 = .ok (.invokespecial 3, 3) := by decide +kernel
theorem dX4_init_4 : decode cX4_init 4 = .ok (.aload_n 0, 1) := by decide +kernel
theorem dX4_init_5 : decode cX4_init 5 = .ok (.bipush 60, 2) := by decide +kernel
theorem dX4_init_7 : decode cX4_init 7 = .ok (.newarray .int, 2) := by decide +kernel
theorem dX4_init_9 : decode cX4_init 9 = .ok (.putfield 9, 3) := by decide +kernel
theorem dX4_init_12 : decode cX4_init 12 = .ok (.return_, 1) := by decide +kernel
theorem dX4_workOut_0 : decode cX4_workOut 0 = .ok (.aload_n 1, 1) := by decide +kernel
theorem dX4_workOut_1 : decode cX4_workOut 1 = .ok (.getfield 15, 3) := by decide +kernel
theorem dX4_workOut_4 : decode cX4_workOut 4 = .ok (.iload_n 2, 1) := by decide +kernel
theorem dX4_workOut_5 : decode cX4_workOut 5 = .ok (.iconst 3, 1) := by decide +kernel
theorem dX4_workOut_6 : decode cX4_workOut 6 = .ok (.iconst 0, 1) := by decide +kernel
theorem dX4_workOut_7 : decode cX4_workOut 7 = .ok (.invokevirtual 21, 3) := by decide +kernel
theorem dX4_workOut_10 : decode cX4_workOut 10 = .ok (.istore_n 3, 1) := by decide +kernel
theorem dX4_workOut_11 : decode cX4_workOut 11 = .ok (.aload_n 1, 1) := by decide +kernel
theorem dX4_workOut_12 : decode cX4_workOut 12 = .ok (.getfield 15, 3) := by decide +kernel
theorem dX4_workOut_15 : decode cX4_workOut 15 = .ok (.iload_n 2, 1) := by decide +kernel
theorem dX4_workOut_16 : decode cX4_workOut 16 = .ok (.iconst 4, 1) := by decide +kernel
theorem dX4_workOut_17 : decode cX4_workOut 17 = .ok (.iconst 0, 1) := by decide +kernel
theorem dX4_workOut_18 : decode cX4_workOut 18 = .ok (.invokevirtual 21, 3) := by decide +kernel
theorem dX4_workOut_21 : decode cX4_workOut 21 = .ok (.istore 4, 2) := by decide +kernel
theorem dX4_workOut_23 : decode cX4_workOut 23 = .ok (.iconst 0, 1) := by decide +kernel
theorem dX4_workOut_24 : decode cX4_workOut 24 = .ok (.istore 5, 2) := by decide +kernel
theorem dX4_workOut_26 : decode cX4_workOut 26 = .ok (.iload_n 3, 1) := by decide +kernel
theorem dX4_workOut_27 : decode cX4_workOut 27 = .ok (.istore 6, 2) := by decide +kernel
theorem dX4_workOut_29 : decode cX4_workOut 29 = .ok (.iload 6, 2) := by decide +kernel
theorem dX4_workOut_31 : decode cX4_workOut 31 = .ok (.iload_n 3, 1) := by decide +kernel
theorem dX4_workOut_32 : decode cX4_workOut 32 = .ok (.iload 4, 2) := by decide +kernel
theorem dX4_workOut_34 : decode cX4_workOut 34 = .ok (.iadd, 1) := by decide +kernel
theorem dX4_workOut_35 : decode cX4_workOut 35 = .ok (.if_icmp .ge 192, 3) := by decide +kernel
theorem dX4_workOut_38 : decode cX4_workOut 38 = .ok (.aload_n 1, 1) := by decide +kernel
theorem dX4_workOut_39 : decode cX4_workOut 39 = .ok (.getfield 27, 3) := by decide +kernel
theorem dX4_workOut_42 : decode cX4_workOut 42 = .ok (.iload 6, 2) := by decide +kernel
theorem dX4_workOut_44 : decode cX4_workOut 44 = .ok (.iconst 0, 1) := by decide +kernel
theorem dX4_workOut_45 : decode cX4_workOut 45 = .ok (.iconst 3, 1) := by decide +kernel
theorem dX4_workOut_46 : decode cX4_workOut 46 = .ok (.invokevirtual 21, 3) := by decide +kernel
theorem dX4_workOut_49 : decode cX4_workOut 49 = .ok (.istore 7, 2) := by decide +kernel
theorem dX4_workOut_51 : decode cX4_workOut 51 = .ok (.iload 7, 2) := by decide +kernel
theorem dX4_workOut_53 : decode cX4_workOut 53 = .ok (.ifCond .ne 37, 3) := by decide +kernel
theorem dX4_workOut_56 : decode cX4_workOut 56 = .ok (.iload 5, 2) := by decide +kernel
theorem dX4_workOut_58 : decode cX4_workOut 58 = .ok (.aload_n 0, 1) := by decide +kernel
theorem dX4_workOut_59 : decode cX4_workOut 59 = .ok (.getfield 9, 3) := by decide +kernel
theorem dX4_workOut_62 : decode cX4_workOut 62 = .ok (.arraylength, 1) := by decide +kernel
theorem dX4_workOut_63 : decode cX4_workOut 63 = .ok (.if_icmp .ge 27, 3) := by decide +kernel
theorem dX4_workOut_66 : decode cX4_workOut 66 = .ok (.aload_n 0, 1) := by decide +kernel
theorem dX4_workOut_67 : decode cX4_workOut 67 = .ok (.getfield 9, 3) := by decide +kernel
theorem dX4_workOut_70 : decode cX4_workOut 70 = .ok (.iload 5, 2) := by decide +kernel
theorem dX4_workOut_72 : decode cX4_workOut 72 = .ok (.aload_n 1, 1) := by decide +kernel
theorem dX4_workOut_73 : decode cX4_workOut 73 = .ok (.getfield 27, 3) := by decide +kernel
theorem dX4_workOut_76 : decode cX4_workOut 76 = .ok (.iload 6, 2) := by decide +kernel
theorem dX4_workOut_78 : decode cX4_workOut 78 = .ok (.iconst 1, 1) := by decide +kernel
theorem dX4_workOut_79 : decode cX4_workOut 79 = .ok (.iconst 0, 1) := by decide +kernel
theorem dX4_workOut_80 : decode cX4_workOut 80 = .ok (.invokevirtual 21, 3) := by decide +kernel
theorem dX4_workOut_83 : decode cX4_workOut 83 = .ok (.iastore, 1) := by decide +kernel
theorem dX4_workOut_84 : decode cX4_workOut 84 = .ok (.iinc 5 1, 3) := by decide +kernel
theorem dX4_workOut_87 : decode cX4_workOut 87 = .ok (.goto 134, 3) := by decide +kernel
theorem dX4_workOut_90 : decode cX4_workOut 90 = .ok (.iload 7, 2) := by decide +kernel
theorem dX4_workOut_92 : decode cX4_workOut 92 = .ok (.invokestatic 32, 3) := by decide +kernel
theorem dX4_workOut_95 : decode cX4_workOut 95 = .ok (.ifCond .eq 52, 3) := by decide +kernel
theorem dX4_workOut_98 : decode cX4_workOut 98 = .ok (.iload 5, 2) := by decide +kernel
theorem dX4_workOut_100 : decode cX4_workOut 100 = .ok (.iconst 1, 1) := by decide +kernel
theorem dX4_workOut_101 : decode cX4_workOut 101 = .ok (.if_icmp .lt 46, 3) := by decide +kernel
theorem dX4_workOut_104 : decode cX4_workOut 104 = .ok (.aload_n 0, 1) := by decide +kernel
theorem dX4_workOut_105 : decode cX4_workOut 105 = .ok (.getfield 9, 3) := by decide +kernel
theorem dX4_workOut_108 : decode cX4_workOut 108 = .ok (.iload 5, 2) := by decide +kernel
theorem dX4_workOut_110 : decode cX4_workOut 110 = .ok (.iconst 1, 1) := by decide +kernel
theorem dX4_workOut_111 : decode cX4_workOut 111 = .ok (.isub, 1) := by decide +kernel
theorem dX4_workOut_112 : decode cX4_workOut 112 = .ok (.iload 7, 2) := by decide +kernel
theorem dX4_workOut_114 : decode cX4_workOut 114 = .ok (.bipush 11, 2) := by decide +kernel
theorem dX4_workOut_116 : decode cX4_workOut 116 = .ok (.if_icmp .ne 17, 3) := by decide +kernel
theorem dX4_workOut_119 : decode cX4_workOut 119 = .ok (.aload_n 0, 1) := by decide +kernel
theorem dX4_workOut_120 : decode cX4_workOut 120 = .ok (.getfield 9, 3) := by decide +kernel
theorem dX4_workOut_123 : decode cX4_workOut 123 = .ok (.iload 5, 2) := by decide +kernel
theorem dX4_workOut_125 : decode cX4_workOut 125 = .ok (.iconst 1, 1) := by decide +kernel
theorem dX4_workOut_126 : decode cX4_workOut 126 = .ok (.isub, 1) := by decide +kernel
theorem dX4_workOut_127 : decode cX4_workOut 127 = .ok (.iaload, 1) := by decide +kernel
theorem dX4_workOut_128 : decode cX4_workOut 128 = .ok (.iconst (-1), 1) := by decide +kernel
theorem dX4_workOut_129 : decode cX4_workOut 129 = .ok (.ixor, 1) := by decide +kernel
theorem dX4_workOut_130 : decode cX4_workOut 130 = .ok (.goto 13, 3) := by decide +kernel
theorem dX4_workOut_133 : decode cX4_workOut 133 = .ok (.aload_n 0, 1) := by decide +kernel
theorem dX4_workOut_134 : decode cX4_workOut 134 = .ok (.getfield 9, 3) := by decide +kernel
theorem dX4_workOut_137 : decode cX4_workOut 137 = .ok (.iload 5, 2) := by decide +kernel
theorem dX4_workOut_139 : decode cX4_workOut 139 = .ok (.iconst 1, 1) := by decide +kernel
theorem dX4_workOut_140 : decode cX4_workOut 140 = .ok (.isub, 1) := by decide +kernel
theorem dX4_workOut_141 : decode cX4_workOut 141 = .ok (.iaload, 1) := by decide +kernel
theorem dX4_workOut_142 : decode cX4_workOut 142 = .ok (.ineg, 1) := by decide +kernel
theorem dX4_workOut_143 : decode cX4_workOut 143 = .ok (.iastore, 1) := by decide +kernel
theorem dX4_workOut_144 : decode cX4_workOut 144 = .ok (.goto 77, 3) := by decide +kernel
theorem dX4_workOut_147 : decode cX4_workOut 147 = .ok (.iload 7, 2) := by decide +kernel
theorem dX4_workOut_149 : decode cX4_workOut 149 = .ok (.invokestatic 36, 3) := by decide +kernel
theorem dX4_workOut_152 : decode cX4_workOut 152 = .ok (.ifCond .eq 65, 3) := by decide +kernel
theorem dX4_workOut_155 : decode cX4_workOut 155 = .ok (.iload 5, 2) := by decide +kernel
theorem dX4_workOut_157 : decode cX4_workOut 157 = .ok (.iconst 2, 1) := by decide +kernel
theorem dX4_workOut_158 : decode cX4_workOut 158 = .ok (.if_icmp .lt 59, 3) := by decide +kernel
theorem dX4_workOut_161 : decode cX4_workOut 161 = .ok (.iload 7, 2) := by decide +kernel
theorem dX4_workOut_163 : decode cX4_workOut 163 = .ok (.aload_n 0, 1) := by decide +kernel
theorem dX4_workOut_164 : decode cX4_workOut 164 = .ok (.getfield 9, 3) := by decide +kernel
theorem dX4_workOut_167 : decode cX4_workOut 167 = .ok (.iload 5, 2) := by decide +kernel
theorem dX4_workOut_169 : decode cX4_workOut 169 = .ok (.iconst 2, 1) := by decide +kernel
theorem dX4_workOut_170 : decode cX4_workOut 170 = .ok (.isub, 1) := by decide +kernel
theorem dX4_workOut_171 : decode cX4_workOut 171 = .ok (.iaload, 1) := by decide +kernel
theorem dX4_workOut_172 : decode cX4_workOut 172 = .ok (.aload_n 0, 1) := by decide +kernel
theorem dX4_workOut_173 : decode cX4_workOut 173 = .ok (.getfield 9, 3) := by decide +kernel
theorem dX4_workOut_176 : decode cX4_workOut 176 = .ok (.iload 5, 2) := by decide +kernel
theorem dX4_workOut_178 : decode cX4_workOut 178 = .ok (.iconst 1, 1) := by decide +kernel
theorem dX4_workOut_179 : decode cX4_workOut 179 = .ok (.isub, 1) := by decide +kernel
theorem dX4_workOut_180 : decode cX4_workOut 180 = .ok (.iaload, 1) := by decide +kernel
theorem dX4_workOut_181 : decode cX4_workOut 181 = .ok (.invokestatic 39, 3) := by decide +kernel
theorem dX4_workOut_184 : decode cX4_workOut 184 = .ok (.lstore 8, 2) := by decide +kernel
theorem dX4_workOut_186 : decode cX4_workOut 186 = .ok (.lload 8, 2) := by decide +kernel
theorem dX4_workOut_188 : decode cX4_workOut 188 = .ok (.ldc2_w 43, 3) := by decide +kernel
theorem dX4_workOut_191 : decode cX4_workOut 191 = .ok (.lcmp, 1) := by decide +kernel
theorem dX4_workOut_192 : decode cX4_workOut 192 = .ok (.ifCond .ne 7, 3) := by decide +kernel
theorem dX4_workOut_195 : decode cX4_workOut 195 = .ok (.ldc2_w 43, 3) := by decide +kernel
theorem dX4_workOut_198 : decode cX4_workOut 198 = .ok (.lreturn, 1) := by decide +kernel
theorem dX4_workOut_199 : decode cX4_workOut 199 = .ok (.iinc 5 (-1), 3) := by decide +kernel
theorem dX4_workOut_202 : decode cX4_workOut 202 = .ok (.aload_n 0, 1) := by decide +kernel
theorem dX4_workOut_203 : decode cX4_workOut 203 = .ok (.getfield 9, 3) := by decide +kernel
theorem dX4_workOut_206 : decode cX4_workOut 206 = .ok (.iload 5, 2) := by decide +kernel
theorem dX4_workOut_208 : decode cX4_workOut 208 = .ok (.iconst 1, 1) := by decide +kernel
theorem dX4_workOut_209 : decode cX4_workOut 209 = .ok (.isub, 1) := by decide +kernel
theorem dX4_workOut_210 : decode cX4_workOut 210 = .ok (.lload 8, 2) := by decide +kernel
theorem dX4_workOut_212 : decode cX4_workOut 212 = .ok (.l2i, 1) := by decide +kernel
theorem dX4_workOut_213 : decode cX4_workOut 213 = .ok (.iastore, 1) := by decide +kernel
theorem dX4_workOut_214 : decode cX4_workOut 214 = .ok (.goto 7, 3) := by decide +kernel
theorem dX4_workOut_217 : decode cX4_workOut 217 = .ok (.ldc2_w 43, 3) := by decide +kernel
theorem dX4_workOut_220 : decode cX4_workOut 220 = .ok (.lreturn, 1) := by decide +kernel
theorem dX4_workOut_221 : decode cX4_workOut 221 = .ok (.iinc 6 1, 3) := by decide +kernel
theorem dX4_workOut_224 : decode cX4_workOut 224 = .ok (.goto (-195), 3) := by decide +kernel
theorem dX4_workOut_227 : decode cX4_workOut 227 = .ok (.iload 5, 2) := by decide +kernel
theorem dX4_workOut_229 : decode cX4_workOut 229 = .ok (.iconst 1, 1) := by decide +kernel
theorem dX4_workOut_230 : decode cX4_workOut 230 = .ok (.if_icmp .ne 13, 3) := by decide +kernel
theorem dX4_workOut_233 : decode cX4_workOut 233 = .ok (.aload_n 0, 1) := by decide +kernel
theorem dX4_workOut_234 : decode cX4_workOut 234 = .ok (.getfield 9, 3) := by decide +kernel
theorem dX4_workOut_237 : decode cX4_workOut 237 = .ok (.iconst 0, 1) := by decide +kernel
theorem dX4_workOut_238 : decode cX4_workOut 238 = .ok (.iaload, 1) := by decide +kernel
theorem dX4_workOut_239 : decode cX4_workOut 239 = .ok (.i2l, 1) := by decide +kernel
theorem dX4_workOut_240 : decode cX4_workOut 240 = .ok (.goto 6, 3) := by decide +kernel
theorem dX4_workOut_243 : decode cX4_workOut 243 = .ok (.ldc2_w 43, 3) := by decide +kernel
theorem dX4_workOut_246 : decode cX4_workOut 246 = .ok (.lreturn, 1) := by decide +kernel
theorem dX4_join_0 : decode cX4_join 0 = .ok (.iload_n 0, 1) := by decide +kernel
theorem dX4_join_1 : decode cX4_join 1 = .ok (.tableswitch 122 12 20 #[51, 56, 61, 66, 81, 96, 104, 112, 117], 51) := by decide +kernel
theorem dX4_join_52 : decode cX4_join 52 = .ok (.iload_n 1, 1) := by decide +kernel
theorem dX4_join_53 : decode cX4_join 53 = .ok (.iload_n 2, 1) := by decide +kernel
theorem dX4_join_54 : decode cX4_join 54 = .ok (.iadd, 1) := by decide +kernel
theorem dX4_join_55 : decode cX4_join 55 = .ok (.i2l, 1) := by decide +kernel
theorem dX4_join_56 : decode cX4_join 56 = .ok (.lreturn, 1) := by decide +kernel
theorem dX4_join_57 : decode cX4_join 57 = .ok (.iload_n 1, 1) := by decide +kernel
theorem dX4_join_58 : decode cX4_join 58 = .ok (.iload_n 2, 1) := by decide +kernel
theorem dX4_join_59 : decode cX4_join 59 = .ok (.isub, 1) := by decide +kernel
theorem dX4_join_60 : decode cX4_join 60 = .ok (.i2l, 1) := by decide +kernel
theorem dX4_join_61 : decode cX4_join 61 = .ok (.lreturn, 1) := by decide +kernel
theorem dX4_join_62 : decode cX4_join 62 = .ok (.iload_n 1, 1) := by decide +kernel
theorem dX4_join_63 : decode cX4_join 63 = .ok (.iload_n 2, 1) := by decide +kernel
theorem dX4_join_64 : decode cX4_join 64 = .ok (.imul, 1) := by decide +kernel
theorem dX4_join_65 : decode cX4_join 65 = .ok (.i2l, 1) := by decide +kernel
theorem dX4_join_66 : decode cX4_join 66 = .ok (.lreturn, 1) := by decide +kernel
theorem dX4_join_67 : decode cX4_join 67 = .ok (.iload_n 2, 1) := by decide +kernel
theorem dX4_join_68 : decode cX4_join 68 = .ok (.ifCond .ne 9, 3) := by decide +kernel
theorem dX4_join_71 : decode cX4_join 71 = .ok (.ldc2_w 43, 3) := by decide +kernel
theorem dX4_join_74 : decode cX4_join 74 = .ok (.goto 7, 3) := by decide +kernel
theorem dX4_join_77 : decode cX4_join 77 = .ok (.iload_n 1, 1) := by decide +kernel
theorem dX4_join_78 : decode cX4_join 78 = .ok (.iload_n 2, 1) := by decide +kernel
theorem dX4_join_79 : decode cX4_join 79 = .ok (.idiv, 1) := by decide +kernel
theorem dX4_join_80 : decode cX4_join 80 = .ok (.i2l, 1) := by decide +kernel
theorem dX4_join_81 : decode cX4_join 81 = .ok (.lreturn, 1) := by decide +kernel
theorem dX4_join_82 : decode cX4_join 82 = .ok (.iload_n 2, 1) := by decide +kernel
theorem dX4_join_83 : decode cX4_join 83 = .ok (.ifCond .ne 9, 3) := by decide +kernel
theorem dX4_join_86 : decode cX4_join 86 = .ok (.ldc2_w 43, 3) := by decide +kernel
theorem dX4_join_89 : decode cX4_join 89 = .ok (.goto 7, 3) := by decide +kernel
theorem dX4_join_92 : decode cX4_join 92 = .ok (.iload_n 1, 1) := by decide +kernel
theorem dX4_join_93 : decode cX4_join 93 = .ok (.iload_n 2, 1) := by decide +kernel
theorem dX4_join_94 : decode cX4_join 94 = .ok (.irem, 1) := by decide +kernel
theorem dX4_join_95 : decode cX4_join 95 = .ok (.i2l, 1) := by decide +kernel
theorem dX4_join_96 : decode cX4_join 96 = .ok (.lreturn, 1) := by decide +kernel
theorem dX4_join_97 : decode cX4_join 97 = .ok (.iload_n 1, 1) := by decide +kernel
theorem dX4_join_98 : decode cX4_join 98 = .ok (.iload_n 2, 1) := by decide +kernel
theorem dX4_join_99 : decode cX4_join 99 = .ok (.bipush 31, 2) := by decide +kernel
theorem dX4_join_101 : decode cX4_join 101 = .ok (.iand, 1) := by decide +kernel
theorem dX4_join_102 : decode cX4_join 102 = .ok (.ishl, 1) := by decide +kernel
theorem dX4_join_103 : decode cX4_join 103 = .ok (.i2l, 1) := by decide +kernel
theorem dX4_join_104 : decode cX4_join 104 = .ok (.lreturn, 1) := by decide +kernel
theorem dX4_join_105 : decode cX4_join 105 = .ok (.iload_n 1, 1) := by decide +kernel
theorem dX4_join_106 : decode cX4_join 106 = .ok (.iload_n 2, 1) := by decide +kernel
theorem dX4_join_107 : decode cX4_join 107 = .ok (.bipush 31, 2) := by decide +kernel
theorem dX4_join_109 : decode cX4_join 109 = .ok (.iand, 1) := by decide +kernel
theorem dX4_join_110 : decode cX4_join 110 = .ok (.iushr, 1) := by decide +kernel
theorem dX4_join_111 : decode cX4_join 111 = .ok (.i2l, 1) := by decide +kernel
theorem dX4_join_112 : decode cX4_join 112 = .ok (.lreturn, 1) := by decide +kernel
theorem dX4_join_113 : decode cX4_join 113 = .ok (.iload_n 1, 1) := by decide +kernel
theorem dX4_join_114 : decode cX4_join 114 = .ok (.iload_n 2, 1) := by decide +kernel
theorem dX4_join_115 : decode cX4_join 115 = .ok (.iand, 1) := by decide +kernel
theorem dX4_join_116 : decode cX4_join 116 = .ok (.i2l, 1) := by decide +kernel
theorem dX4_join_117 : decode cX4_join 117 = .ok (.lreturn, 1) := by decide +kernel
theorem dX4_join_118 : decode cX4_join 118 = .ok (.iload_n 1, 1) := by decide +kernel
theorem dX4_join_119 : decode cX4_join 119 = .ok (.iload_n 2, 1) := by decide +kernel
theorem dX4_join_120 : decode cX4_join 120 = .ok (.ixor, 1) := by decide +kernel
theorem dX4_join_121 : decode cX4_join 121 = .ok (.i2l, 1) := by decide +kernel
theorem dX4_join_122 : decode cX4_join 122 = .ok (.lreturn, 1) := by decide +kernel
theorem dX4_join_123 : decode cX4_join 123 = .ok (.iload_n 1, 1) := by decide +kernel
theorem dX4_join_124 : decode cX4_join 124 = .ok (.iload_n 2, 1) := by decide +kernel
theorem dX4_join_125 : decode cX4_join 125 = .ok (.ior, 1) := by decide +kernel
theorem dX4_join_126 : decode cX4_join 126 = .ok (.i2l, 1) := by decide +kernel
theorem dX4_join_127 : decode cX4_join 127 = .ok (.lreturn, 1) := by decide +kernel
theorem dX5_numberOf_0 : decode cX5_numberOf 0 = .ok (.iload_n 2, 1) := by decide +kernel
theorem dX5_numberOf_1 : decode cX5_numberOf 1 = .ok (.iconst 2, 1) := by decide +kernel
theorem dX5_numberOf_2 : decode cX5_numberOf 2 = .ok (.if_icmp .lt 20, 3) := by decide +kernel
theorem dX5_numberOf_5 : decode cX5_numberOf 5 = .ok (.iload_n 2, 1) := by decide +kernel
theorem dX5_numberOf_6 : decode cX5_numberOf 6 = .ok (.iconst 4, 1) := by decide +kernel
theorem dX5_numberOf_7 : decode cX5_numberOf 7 = .ok (.if_icmp .gt 15, 3) := by decide +kernel
theorem dX5_numberOf_10 : decode cX5_numberOf 10 = .ok (.iload_n 1, 1) := by decide +kernel
theorem dX5_numberOf_11 : decode cX5_numberOf 11 = .ok (.ifCond .lt 11, 3) := by decide +kernel
theorem dX5_numberOf_14 : decode cX5_numberOf 14 = .ok (.iload_n 1, 1) := by decide +kernel
theorem dX5_numberOf_15 : decode cX5_numberOf 15 = .ok (.iload_n 2, 1) := by decide +kernel
theorem dX5_numberOf_16 : decode cX5_numberOf 16 = .ok (.iadd, 1) := by decide +kernel
theorem dX5_numberOf_17 : decode cX5_numberOf 17 = .ok (.aload_n 0, 1) := by decide +kernel
theorem dX5_numberOf_18 : decode cX5_numberOf 18 = .ok (.arraylength, 1) := by decide +kernel
theorem dX5_numberOf_19 : decode cX5_numberOf 19 = .ok (.if_icmp .le 5, 3) := by decide +kernel
theorem dX5_numberOf_22 : decode cX5_numberOf 22 = .ok (.iconst (-1), 1) := by decide +kernel
theorem dX5_numberOf_23 : decode cX5_numberOf 23 = .ok (.ireturn, 1) := by decide +kernel
theorem dX5_numberOf_24 : decode cX5_numberOf 24 = .ok (.iconst 0, 1) := by decide +kernel
theorem dX5_numberOf_25 : decode cX5_numberOf 25 = .ok (.istore_n 3, 1) := by decide +kernel
theorem dX5_numberOf_26 : decode cX5_numberOf 26 = .ok (.iload_n 1, 1) := by decide +kernel
theorem dX5_numberOf_27 : decode cX5_numberOf 27 = .ok (.istore 4, 2) := by decide +kernel
theorem dX5_numberOf_29 : decode cX5_numberOf 29 = .ok (.iload 4, 2) := by decide +kernel
theorem dX5_numberOf_31 : decode cX5_numberOf 31 = .ok (.iload_n 1, 1) := by decide +kernel
theorem dX5_numberOf_32 : decode cX5_numberOf 32 = .ok (.iload_n 2, 1) := by decide +kernel
theorem dX5_numberOf_33 : decode cX5_numberOf 33 = .ok (.iadd, 1) := by decide +kernel
theorem dX5_numberOf_34 : decode cX5_numberOf 34 = .ok (.if_icmp .ge 19, 3) := by decide +kernel
theorem dX5_numberOf_37 : decode cX5_numberOf 37 = .ok (.iload_n 3, 1) := by decide +kernel
theorem dX5_numberOf_38 : decode cX5_numberOf 38 = .ok (.bipush 8, 2) := by decide +kernel
theorem dX5_numberOf_40 : decode cX5_numberOf 40 = .ok (.ishl, 1) := by decide +kernel
theorem dX5_numberOf_41 : decode cX5_numberOf 41 = .ok (.aload_n 0, 1) := by decide +kernel
theorem dX5_numberOf_42 : decode cX5_numberOf 42 = .ok (.iload 4, 2) := by decide +kernel
theorem dX5_numberOf_44 : decode cX5_numberOf 44 = .ok (.iaload, 1) := by decide +kernel
theorem dX5_numberOf_45 : decode cX5_numberOf 45 = .ok (.ior, 1) := by decide +kernel
theorem dX5_numberOf_46 : decode cX5_numberOf 46 = .ok (.istore_n 3, 1) := by decide +kernel
theorem dX5_numberOf_47 : decode cX5_numberOf 47 = .ok (.iinc 4 1, 3) := by decide +kernel
theorem dX5_numberOf_50 : decode cX5_numberOf 50 = .ok (.goto (-21), 3) := by decide +kernel
theorem dX5_numberOf_53 : decode cX5_numberOf 53 = .ok (.iload_n 3, 1) := by decide +kernel
theorem dX5_numberOf_54 : decode cX5_numberOf 54 = .ok (.lookupswitch 71 #[(26224, 68), (26480, 64), (29281, 60), (29552, 62), (29808, 66), (2053468783, 58)], 58) := by decide +kernel
theorem dX5_numberOf_112 : decode cX5_numberOf 112 = .ok (.iconst 0, 1) := by decide +kernel
theorem dX5_numberOf_113 : decode cX5_numberOf 113 = .ok (.ireturn, 1) := by decide +kernel
theorem dX5_numberOf_114 : decode cX5_numberOf 114 = .ok (.iconst 1, 1) := by decide +kernel
theorem dX5_numberOf_115 : decode cX5_numberOf 115 = .ok (.ireturn, 1) := by decide +kernel
theorem dX5_numberOf_116 : decode cX5_numberOf 116 = .ok (.iconst 2, 1) := by decide +kernel
theorem dX5_numberOf_117 : decode cX5_numberOf 117 = .ok (.ireturn, 1) := by decide +kernel
theorem dX5_numberOf_118 : decode cX5_numberOf 118 = .ok (.iconst 3, 1) := by decide +kernel
theorem dX5_numberOf_119 : decode cX5_numberOf 119 = .ok (.ireturn, 1) := by decide +kernel
theorem dX5_numberOf_120 : decode cX5_numberOf 120 = .ok (.iconst 4, 1) := by decide +kernel
theorem dX5_numberOf_121 : decode cX5_numberOf 121 = .ok (.ireturn, 1) := by decide +kernel
theorem dX5_numberOf_122 : decode cX5_numberOf 122 = .ok (.bipush 8, 2) := by decide +kernel
theorem dX5_numberOf_124 : decode cX5_numberOf 124 = .ok (.ireturn, 1) := by decide +kernel
theorem dX5_numberOf_125 : decode cX5_numberOf 125 = .ok (.aload_n 0, 1) := by decide +kernel
theorem dX5_numberOf_126 : decode cX5_numberOf 126 = .ok (.iload_n 1, 1) := by decide +kernel
theorem dX5_numberOf_127 : decode cX5_numberOf 127 = .ok (.iaload, 1) := by decide +kernel
theorem dX5_numberOf_128 : decode cX5_numberOf 128 = .ok (.aload_n 0, 1) := by decide +kernel
theorem dX5_numberOf_129 : decode cX5_numberOf 129 = .ok (.iload_n 1, 1) := by decide +kernel
theorem dX5_numberOf_130 : decode cX5_numberOf 130 = .ok (.iconst 1, 1) := by decide +kernel
theorem dX5_numberOf_131 : decode cX5_numberOf 131 = .ok (.iadd, 1) := by decide +kernel
theorem dX5_numberOf_132 : decode cX5_numberOf 132 = .ok (.iload_n 2, 1) := by decide +kernel
theorem dX5_numberOf_133 : decode cX5_numberOf 133 = .ok (.iconst 1, 1) := by decide +kernel
theorem dX5_numberOf_134 : decode cX5_numberOf 134 = .ok (.isub, 1) := by decide +kernel
theorem dX5_numberOf_135 : decode cX5_numberOf 135 = .ok (.invokestatic 9, 3) := by decide +kernel
theorem dX5_numberOf_138 : decode cX5_numberOf 138 = .ok (.invokestatic 15, 3) := by decide +kernel
theorem dX5_numberOf_141 : decode cX5_numberOf 141 = .ok (.ireturn, 1) := by decide +kernel
theorem dX5_memberAt_0 : decode cX5_memberAt 0 = .ok (.iload_n 2, 1) := by decide +kernel
theorem dX5_memberAt_1 : decode cX5_memberAt 1 = .ok (.iconst 1, 1) := by decide +kernel
theorem dX5_memberAt_2 : decode cX5_memberAt 2 = .ok (.if_icmp .lt 20, 3) := by decide +kernel
theorem dX5_memberAt_5 : decode cX5_memberAt 5 = .ok (.iload_n 2, 1) := by decide +kernel
theorem dX5_memberAt_6 : decode cX5_memberAt 6 = .ok (.iconst 2, 1) := by decide +kernel
theorem dX5_memberAt_7 : decode cX5_memberAt 7 = .ok (.if_icmp .gt 15, 3) := by decide +kernel
theorem dX5_memberAt_10 : decode cX5_memberAt 10 = .ok (.iload_n 1, 1) := by decide +kernel
theorem dX5_memberAt_11 : decode cX5_memberAt 11 = .ok (.ifCond .lt 11, 3) := by decide +kernel
theorem dX5_memberAt_14 : decode cX5_memberAt 14 = .ok (.iload_n 1, 1) := by decide +kernel
theorem dX5_memberAt_15 : decode cX5_memberAt 15 = .ok (.iload_n 2, 1) := by decide +kernel
theorem dX5_memberAt_16 : decode cX5_memberAt 16 = .ok (.iadd, 1) := by decide +kernel
theorem dX5_memberAt_17 : decode cX5_memberAt 17 = .ok (.aload_n 0, 1) := by decide +kernel
theorem dX5_memberAt_18 : decode cX5_memberAt 18 = .ok (.arraylength, 1) := by decide +kernel
theorem dX5_memberAt_19 : decode cX5_memberAt 19 = .ok (.if_icmp .le 5, 3) := by decide +kernel
theorem dX5_memberAt_22 : decode cX5_memberAt 22 = .ok (.iconst (-1), 1) := by decide +kernel
theorem dX5_memberAt_23 : decode cX5_memberAt 23 = .ok (.ireturn, 1) := by decide +kernel
theorem dX5_memberAt_24 : decode cX5_memberAt 24 = .ok (.iconst 0, 1) := by decide +kernel
theorem dX5_memberAt_25 : decode cX5_memberAt 25 = .ok (.istore_n 3, 1) := by decide +kernel
theorem dX5_memberAt_26 : decode cX5_memberAt 26 = .ok (.iload_n 1, 1) := by decide +kernel
theorem dX5_memberAt_27 : decode cX5_memberAt 27 = .ok (.istore 4, 2) := by decide +kernel
theorem dX5_memberAt_29 : decode cX5_memberAt 29 = .ok (.iload 4, 2) := by decide +kernel
theorem dX5_memberAt_31 : decode cX5_memberAt 31 = .ok (.iload_n 1, 1) := by decide +kernel
theorem dX5_memberAt_32 : decode cX5_memberAt 32 = .ok (.iload_n 2, 1) := by decide +kernel
theorem dX5_memberAt_33 : decode cX5_memberAt 33 = .ok (.iadd, 1) := by decide +kernel
theorem dX5_memberAt_34 : decode cX5_memberAt 34 = .ok (.if_icmp .ge 47, 3) := by decide +kernel
theorem dX5_memberAt_37 : decode cX5_memberAt 37 = .ok (.aload_n 0, 1) := by decide +kernel
theorem dX5_memberAt_38 : decode cX5_memberAt 38 = .ok (.iload 4, 2) := by decide +kernel
theorem dX5_memberAt_40 : decode cX5_memberAt 40 = .ok (.iaload, 1) := by decide +kernel
theorem dX5_memberAt_41 : decode cX5_memberAt 41 = .ok (.invokestatic 19, 3) := by decide +kernel
theorem dX5_memberAt_44 : decode cX5_memberAt 44 = .ok (.ifCond .eq 16, 3) := by decide +kernel
theorem dX5_memberAt_47 : decode cX5_memberAt 47 = .ok (.iload_n 2, 1) := by decide +kernel
theorem dX5_memberAt_48 : decode cX5_memberAt 48 = .ok (.iconst 1, 1) := by decide +kernel
theorem dX5_memberAt_49 : decode cX5_memberAt 49 = .ok (.if_icmp .le 13, 3) := by decide +kernel
theorem dX5_memberAt_52 : decode cX5_memberAt 52 = .ok (.aload_n 0, 1) := by decide +kernel
theorem dX5_memberAt_53 : decode cX5_memberAt 53 = .ok (.iload_n 1, 1) := by decide +kernel
theorem dX5_memberAt_54 : decode cX5_memberAt 54 = .ok (.iaload, 1) := by decide +kernel
theorem dX5_memberAt_55 : decode cX5_memberAt 55 = .ok (.bipush 48, 2) := by decide +kernel
theorem dX5_memberAt_57 : decode cX5_memberAt 57 = .ok (.if_icmp .ne 5, 3) := by decide +kernel
theorem dX5_memberAt_60 : decode cX5_memberAt 60 = .ok (.iconst (-1), 1) := by decide +kernel
theorem dX5_memberAt_61 : decode cX5_memberAt 61 = .ok (.ireturn, 1) := by decide +kernel
theorem dX5_memberAt_62 : decode cX5_memberAt 62 = .ok (.iload_n 3, 1) := by decide +kernel
theorem dX5_memberAt_63 : decode cX5_memberAt 63 = .ok (.bipush 10, 2) := by decide +kernel
theorem dX5_memberAt_65 : decode cX5_memberAt 65 = .ok (.imul, 1) := by decide +kernel
theorem dX5_memberAt_66 : decode cX5_memberAt 66 = .ok (.aload_n 0, 1) := by decide +kernel
theorem dX5_memberAt_67 : decode cX5_memberAt 67 = .ok (.iload 4, 2) := by decide +kernel
theorem dX5_memberAt_69 : decode cX5_memberAt 69 = .ok (.iaload, 1) := by decide +kernel
theorem dX5_memberAt_70 : decode cX5_memberAt 70 = .ok (.iadd, 1) := by decide +kernel
theorem dX5_memberAt_71 : decode cX5_memberAt 71 = .ok (.bipush 48, 2) := by decide +kernel
theorem dX5_memberAt_73 : decode cX5_memberAt 73 = .ok (.isub, 1) := by decide +kernel
theorem dX5_memberAt_74 : decode cX5_memberAt 74 = .ok (.istore_n 3, 1) := by decide +kernel
theorem dX5_memberAt_75 : decode cX5_memberAt 75 = .ok (.iinc 4 1, 3) := by decide +kernel
theorem dX5_memberAt_78 : decode cX5_memberAt 78 = .ok (.goto (-49), 3) := by decide +kernel
theorem dX5_memberAt_81 : decode cX5_memberAt 81 = .ok (.iload_n 3, 1) := by decide +kernel
theorem dX5_memberAt_82 : decode cX5_memberAt 82 = .ok (.ireturn, 1) := by decide +kernel
theorem dX5_ofFamily_0 : decode cX5_ofFamily 0 = .ok (.iload_n 1, 1) := by decide +kernel
theorem dX5_ofFamily_1 : decode cX5_ofFamily 1 = .ok (.iconst (-1), 1) := by decide +kernel
theorem dX5_ofFamily_2 : decode cX5_ofFamily 2 = .ok (.if_icmp .ne 5, 3) := by decide +kernel
theorem dX5_ofFamily_5 : decode cX5_ofFamily 5 = .ok (.iconst (-1), 1) := by decide +kernel
theorem dX5_ofFamily_6 : decode cX5_ofFamily 6 = .ok (.ireturn, 1) := by decide +kernel
theorem dX5_ofFamily_7 : decode cX5_ofFamily 7 = .ok (.iload_n 0, 1) := by decide +kernel
theorem dX5_ofFamily_8 : decode cX5_ofFamily 8 = .ok (.lookupswitch 124 #[(97, 109), (115, 82), (116, 56), (120, 44)], 44) := by decide +kernel
theorem dX5_ofFamily_52 : decode cX5_ofFamily 52 = .ok (.iload_n 1, 1) := by decide +kernel
theorem dX5_ofFamily_53 : decode cX5_ofFamily 53 = .ok (.bipush 31, 2) := by decide +kernel
theorem dX5_ofFamily_55 : decode cX5_ofFamily 55 = .ok (.if_icmp .gt 7, 3) := by decide +kernel
theorem dX5_ofFamily_58 : decode cX5_ofFamily 58 = .ok (.iload_n 1, 1) := by decide +kernel
theorem dX5_ofFamily_59 : decode cX5_ofFamily 59 = .ok (.goto 4, 3) := by decide +kernel
theorem dX5_ofFamily_62 : decode cX5_ofFamily 62 = .ok (.iconst (-1), 1) := by decide +kernel
theorem dX5_ofFamily_63 : decode cX5_ofFamily 63 = .ok (.ireturn, 1) := by decide +kernel
theorem dX5_ofFamily_64 : decode cX5_ofFamily 64 = .ok (.iload_n 1, 1) := by decide +kernel
theorem dX5_ofFamily_65 : decode cX5_ofFamily 65 = .ok (.iconst 2, 1) := by decide +kernel
theorem dX5_ofFamily_66 : decode cX5_ofFamily 66 = .ok (.if_icmp .gt 9, 3) := by decide +kernel
theorem dX5_ofFamily_69 : decode cX5_ofFamily 69 = .ok (.iload_n 1, 1) := by decide +kernel
theorem dX5_ofFamily_70 : decode cX5_ofFamily 70 = .ok (.iconst 5, 1) := by decide +kernel
theorem dX5_ofFamily_71 : decode cX5_ofFamily 71 = .ok (.iadd, 1) := by decide +kernel
theorem dX5_ofFamily_72 : decode cX5_ofFamily 72 = .ok (.goto 17, 3) := by decide +kernel
theorem dX5_ofFamily_75 : decode cX5_ofFamily 75 = .ok (.iload_n 1, 1) := by decide +kernel
theorem dX5_ofFamily_76 : decode cX5_ofFamily 76 = .ok (.bipush 6, 2) := by decide +kernel
theorem dX5_ofFamily_78 : decode cX5_ofFamily 78 = .ok (.if_icmp .gt 10, 3) := by decide +kernel
theorem dX5_ofFamily_81 : decode cX5_ofFamily 81 = .ok (.iload_n 1, 1) := by decide +kernel
theorem dX5_ofFamily_82 : decode cX5_ofFamily 82 = .ok (.bipush 25, 2) := by decide +kernel
theorem dX5_ofFamily_84 : decode cX5_ofFamily 84 = .ok (.iadd, 1) := by decide +kernel
theorem dX5_ofFamily_85 : decode cX5_ofFamily 85 = .ok (.goto 4, 3) := by decide +kernel
theorem dX5_ofFamily_88 : decode cX5_ofFamily 88 = .ok (.iconst (-1), 1) := by decide +kernel
theorem dX5_ofFamily_89 : decode cX5_ofFamily 89 = .ok (.ireturn, 1) := by decide +kernel
theorem dX5_ofFamily_90 : decode cX5_ofFamily 90 = .ok (.iload_n 1, 1) := by decide +kernel
theorem dX5_ofFamily_91 : decode cX5_ofFamily 91 = .ok (.iconst 1, 1) := by decide +kernel
theorem dX5_ofFamily_92 : decode cX5_ofFamily 92 = .ok (.if_icmp .gt 10, 3) := by decide +kernel
theorem dX5_ofFamily_95 : decode cX5_ofFamily 95 = .ok (.iload_n 1, 1) := by decide +kernel
theorem dX5_ofFamily_96 : decode cX5_ofFamily 96 = .ok (.bipush 8, 2) := by decide +kernel
theorem dX5_ofFamily_98 : decode cX5_ofFamily 98 = .ok (.iadd, 1) := by decide +kernel
theorem dX5_ofFamily_99 : decode cX5_ofFamily 99 = .ok (.goto 17, 3) := by decide +kernel
theorem dX5_ofFamily_102 : decode cX5_ofFamily 102 = .ok (.iload_n 1, 1) := by decide +kernel
theorem dX5_ofFamily_103 : decode cX5_ofFamily 103 = .ok (.bipush 11, 2) := by decide +kernel
theorem dX5_ofFamily_105 : decode cX5_ofFamily 105 = .ok (.if_icmp .gt 10, 3) := by decide +kernel
theorem dX5_ofFamily_108 : decode cX5_ofFamily 108 = .ok (.iload_n 1, 1) := by decide +kernel
theorem dX5_ofFamily_109 : decode cX5_ofFamily 109 = .ok (.bipush 16, 2) := by decide +kernel
theorem dX5_ofFamily_111 : decode cX5_ofFamily 111 = .ok (.iadd, 1) := by decide +kernel
theorem dX5_ofFamily_112 : decode cX5_ofFamily 112 = .ok (.goto 4, 3) := by decide +kernel
theorem dX5_ofFamily_115 : decode cX5_ofFamily 115 = .ok (.iconst (-1), 1) := by decide +kernel
theorem dX5_ofFamily_116 : decode cX5_ofFamily 116 = .ok (.ireturn, 1) := by decide +kernel
theorem dX5_ofFamily_117 : decode cX5_ofFamily 117 = .ok (.iload_n 1, 1) := by decide +kernel
theorem dX5_ofFamily_118 : decode cX5_ofFamily 118 = .ok (.bipush 7, 2) := by decide +kernel
theorem dX5_ofFamily_120 : decode cX5_ofFamily 120 = .ok (.if_icmp .gt 10, 3) := by decide +kernel
theorem dX5_ofFamily_123 : decode cX5_ofFamily 123 = .ok (.iload_n 1, 1) := by decide +kernel
theorem dX5_ofFamily_124 : decode cX5_ofFamily 124 = .ok (.bipush 10, 2) := by decide +kernel
theorem dX5_ofFamily_126 : decode cX5_ofFamily 126 = .ok (.iadd, 1) := by decide +kernel
theorem dX5_ofFamily_127 : decode cX5_ofFamily 127 = .ok (.goto 4, 3) := by decide +kernel
theorem dX5_ofFamily_130 : decode cX5_ofFamily 130 = .ok (.iconst (-1), 1) := by decide +kernel
theorem dX5_ofFamily_131 : decode cX5_ofFamily 131 = .ok (.ireturn, 1) := by decide +kernel
theorem dX5_ofFamily_132 : decode cX5_ofFamily 132 = .ok (.iconst (-1), 1) := by decide +kernel
theorem dX5_ofFamily_133 : decode cX5_ofFamily 133 = .ok (.ireturn, 1) := by decide +kernel
theorem dX6_init_0 : decode cX6_init 0 = .ok (.aload_n 0, 1) := by decide +kernel
theorem dX6_init_1 : decode cX6_init 1 = .ok (.invokespecial 3, 3) := by decide +kernel
theorem dX6_init_4 : decode cX6_init 4 = .ok (.aload_n 0, 1) := by decide +kernel
theorem dX6_init_5 : decode cX6_init 5 = .ok (.iload_n 1, 1) := by decide +kernel
theorem dX6_init_6 : decode cX6_init 6 = .ok (.putfield 9, 3) := by decide +kernel
theorem dX6_init_9 : decode cX6_init 9 = .ok (.aload_n 0, 1) := by decide +kernel
theorem dX6_init_10 : decode cX6_init 10 = .ok (.iload_n 2, 1) := by decide +kernel
theorem dX6_init_11 : decode cX6_init 11 = .ok (.putfield 15, 3) := by decide +kernel
theorem dX6_init_14 : decode cX6_init 14 = .ok (.aload_n 0, 1) := by decide +kernel
theorem dX6_init_15 : decode cX6_init 15 = .ok (.iload_n 1, 1) := by decide +kernel
theorem dX6_init_16 : decode cX6_init 16 = .ok (.iload_n 2, 1) := by decide +kernel
theorem dX6_init_17 : decode cX6_init 17 = .ok (.imul, 1) := by decide +kernel
theorem dX6_init_18 : decode cX6_init 18 = .ok (.newarray .int, 2) := by decide +kernel
theorem dX6_init_20 : decode cX6_init 20 = .ok (.putfield 18, 3) := by decide +kernel
theorem dX6_init_23 : decode cX6_init 23 = .ok (.return_, 1) := by decide +kernel
theorem dX6_isFull_0 : decode cX6_isFull 0 = .ok (.aload_n 0, 1) := by decide +kernel
theorem dX6_isFull_1 : decode cX6_isFull 1 = .ok (.getfield 22, 3) := by decide +kernel
theorem dX6_isFull_4 : decode cX6_isFull 4 = .ok (.aload_n 0, 1) := by decide +kernel
theorem dX6_isFull_5 : decode cX6_isFull 5 = .ok (.getfield 9, 3) := by decide +kernel
theorem dX6_isFull_8 : decode cX6_isFull 8 = .ok (.if_icmp .lt 7, 3) := by decide +kernel
theorem dX6_isFull_11 : decode cX6_isFull 11 = .ok (.iconst 1, 1) := by decide +kernel
theorem dX6_isFull_12 : decode cX6_isFull 12 = .ok (.goto 4, 3) := by decide +kernel
theorem dX6_isFull_15 : decode cX6_isFull 15 = .ok (.iconst 0, 1) := by decide +kernel
theorem dX6_isFull_16 : decode cX6_isFull 16 = .ok (.ireturn, 1) := by decide +kernel
theorem dX6_addRow_0 : decode cX6_addRow 0 = .ok (.aload_n 0, 1) := by decide +kernel
theorem dX6_addRow_1 : decode cX6_addRow 1 = .ok (.getfield 22, 3) := by decide +kernel
theorem dX6_addRow_4 : decode cX6_addRow 4 = .ok (.aload_n 0, 1) := by decide +kernel
theorem dX6_addRow_5 : decode cX6_addRow 5 = .ok (.getfield 9, 3) := by decide +kernel
theorem dX6_addRow_8 : decode cX6_addRow 8 = .ok (.if_icmp .lt 5, 3) := by decide +kernel
theorem dX6_addRow_11 : decode cX6_addRow 11 = .ok (.iconst (-1), 1) := by decide +kernel
theorem dX6_addRow_12 : decode cX6_addRow 12 = .ok (.ireturn, 1) := by decide +kernel
theorem dX6_addRow_13 : decode cX6_addRow 13 = .ok (.aload_n 0, 1) := by decide +kernel
theorem dX6_addRow_14 : decode cX6_addRow 14 = .ok (.getfield 22, 3) := by decide +kernel
theorem dX6_addRow_17 : decode cX6_addRow 17 = .ok (.aload_n 0, 1) := by decide +kernel
theorem dX6_addRow_18 : decode cX6_addRow 18 = .ok (.getfield 15, 3) := by decide +kernel
theorem dX6_addRow_21 : decode cX6_addRow 21 = .ok (.imul, 1) := by decide +kernel
theorem dX6_addRow_22 : decode cX6_addRow 22 = .ok (.istore_n 1, 1) := by decide +kernel
theorem dX6_addRow_23 : decode cX6_addRow 23 = .ok (.iload_n 1, 1) := by decide +kernel
theorem dX6_addRow_24 : decode cX6_addRow 24 = .ok (.istore_n 2, 1) := by decide +kernel
theorem dX6_addRow_25 : decode cX6_addRow 25 = .ok (.iload_n 2, 1) := by decide +kernel
theorem dX6_addRow_26 : decode cX6_addRow 26 = .ok (.ifCond .lt 35, 3) := by decide +kernel
theorem dX6_addRow_29 : decode cX6_addRow 29 = .ok (.iload_n 2, 1) := by decide +kernel
theorem dX6_addRow_30 : decode cX6_addRow 30 = .ok (.iload_n 1, 1) := by decide +kernel
theorem dX6_addRow_31 : decode cX6_addRow 31 = .ok (.aload_n 0, 1) := by decide +kernel
theorem dX6_addRow_32 : decode cX6_addRow 32 = .ok (.getfield 15, 3) := by decide +kernel
theorem dX6_addRow_35 : decode cX6_addRow 35 = .ok (.iadd, 1) := by decide +kernel
theorem dX6_addRow_36 : decode cX6_addRow 36 = .ok (.if_icmp .ge 25, 3) := by decide +kernel
theorem dX6_addRow_39 : decode cX6_addRow 39 = .ok (.iload_n 2, 1) := by decide +kernel
theorem dX6_addRow_40 : decode cX6_addRow 40 = .ok (.aload_n 0, 1) := by decide +kernel
theorem dX6_addRow_41 : decode cX6_addRow 41 = .ok (.getfield 18, 3) := by decide +kernel
theorem dX6_addRow_44 : decode cX6_addRow 44 = .ok (.arraylength, 1) := by decide +kernel
theorem dX6_addRow_45 : decode cX6_addRow 45 = .ok (.if_icmp .ge 16, 3) := by decide +kernel
theorem dX6_addRow_48 : decode cX6_addRow 48 = .ok (.aload_n 0, 1) := by decide +kernel
theorem dX6_addRow_49 : decode cX6_addRow 49 = .ok (.getfield 18, 3) := by decide +kernel
theorem dX6_addRow_52 : decode cX6_addRow 52 = .ok (.iload_n 2, 1) := by decide +kernel
theorem dX6_addRow_53 : decode cX6_addRow 53 = .ok (.iconst 0, 1) := by decide +kernel
theorem dX6_addRow_54 : decode cX6_addRow 54 = .ok (.iastore, 1) := by decide +kernel
theorem dX6_addRow_55 : decode cX6_addRow 55 = .ok (.iinc 2 1, 3) := by decide +kernel
theorem dX6_addRow_58 : decode cX6_addRow 58 = .ok (.goto (-33), 3) := by decide +kernel
theorem dX6_addRow_61 : decode cX6_addRow 61 = .ok (.aload_n 0, 1) := by decide +kernel
theorem dX6_addRow_62 : decode cX6_addRow 62 = .ok (.dup, 1) := by decide +kernel
theorem dX6_addRow_63 : decode cX6_addRow 63 = .ok (.getfield 22, 3) := by decide +kernel
theorem dX6_addRow_66 : decode cX6_addRow 66 = .ok (.iconst 1, 1) := by decide +kernel
theorem dX6_addRow_67 : decode cX6_addRow 67 = .ok (.iadd, 1) := by decide +kernel
theorem dX6_addRow_68 : decode cX6_addRow 68 = .ok (.putfield 22, 3) := by decide +kernel
theorem dX6_addRow_71 : decode cX6_addRow 71 = .ok (.aload_n 0, 1) := by decide +kernel
theorem dX6_addRow_72 : decode cX6_addRow 72 = .ok (.getfield 22, 3) := by decide +kernel
theorem dX6_addRow_75 : decode cX6_addRow 75 = .ok (.iconst 1, 1) := by decide +kernel
theorem dX6_addRow_76 : decode cX6_addRow 76 = .ok (.isub, 1) := by decide +kernel
theorem dX6_addRow_77 : decode cX6_addRow 77 = .ok (.ireturn, 1) := by decide +kernel
theorem dX6_setCell_0 : decode cX6_setCell 0 = .ok (.iload_n 1, 1) := by decide +kernel
theorem dX6_setCell_1 : decode cX6_setCell 1 = .ok (.aload_n 0, 1) := by decide +kernel
theorem dX6_setCell_2 : decode cX6_setCell 2 = .ok (.getfield 15, 3) := by decide +kernel
theorem dX6_setCell_5 : decode cX6_setCell 5 = .ok (.imul, 1) := by decide +kernel
theorem dX6_setCell_6 : decode cX6_setCell 6 = .ok (.iload_n 2, 1) := by decide +kernel
theorem dX6_setCell_7 : decode cX6_setCell 7 = .ok (.iadd, 1) := by decide +kernel
theorem dX6_setCell_8 : decode cX6_setCell 8 = .ok (.istore 4, 2) := by decide +kernel
theorem dX6_setCell_10 : decode cX6_setCell 10 = .ok (.iload_n 1, 1) := by decide +kernel
theorem dX6_setCell_11 : decode cX6_setCell 11 = .ok (.ifCond .lt 46, 3) := by decide +kernel
theorem dX6_setCell_14 : decode cX6_setCell 14 = .ok (.iload_n 1, 1) := by decide +kernel
theorem dX6_setCell_15 : decode cX6_setCell 15 = .ok (.aload_n 0, 1) := by decide +kernel
theorem dX6_setCell_16 : decode cX6_setCell 16 = .ok (.getfield 22, 3) := by decide +kernel
theorem dX6_setCell_19 : decode cX6_setCell 19 = .ok (.if_icmp .ge 38, 3) := by decide +kernel
theorem dX6_setCell_22 : decode cX6_setCell 22 = .ok (.iload_n 2, 1) := by decide +kernel
theorem dX6_setCell_23 : decode cX6_setCell 23 = .ok (.ifCond .lt 34, 3) := by decide +kernel
theorem dX6_setCell_26 : decode cX6_setCell 26 = .ok (.iload_n 2, 1) := by decide +kernel
theorem dX6_setCell_27 : decode cX6_setCell 27 = .ok (.aload_n 0, 1) := by decide +kernel
theorem dX6_setCell_28 : decode cX6_setCell 28 = .ok (.getfield 15, 3) := by decide +kernel
theorem dX6_setCell_31 : decode cX6_setCell 31 = .ok (.if_icmp .ge 26, 3) := by decide +kernel
theorem dX6_setCell_34 : decode cX6_setCell 34 = .ok (.iload 4, 2) := by decide +kernel
theorem dX6_setCell_36 : decode cX6_setCell 36 = .ok (.ifCond .lt 21, 3) := by decide +kernel
theorem dX6_setCell_39 : decode cX6_setCell 39 = .ok (.iload 4, 2) := by decide +kernel
theorem dX6_setCell_41 : decode cX6_setCell 41 = .ok (.aload_n 0, 1) := by decide +kernel
theorem dX6_setCell_42 : decode cX6_setCell 42 = .ok (.getfield 18, 3) := by decide +kernel
theorem dX6_setCell_45 : decode cX6_setCell 45 = .ok (.arraylength, 1) := by decide +kernel
theorem dX6_setCell_46 : decode cX6_setCell 46 = .ok (.if_icmp .ge 11, 3) := by decide +kernel
theorem dX6_setCell_49 : decode cX6_setCell 49 = .ok (.aload_n 0, 1) := by decide +kernel
theorem dX6_setCell_50 : decode cX6_setCell 50 = .ok (.getfield 18, 3) := by decide +kernel
theorem dX6_setCell_53 : decode cX6_setCell 53 = .ok (.iload 4, 2) := by decide +kernel
theorem dX6_setCell_55 : decode cX6_setCell 55 = .ok (.iload_n 3, 1) := by decide +kernel
theorem dX6_setCell_56 : decode cX6_setCell 56 = .ok (.iastore, 1) := by decide +kernel
theorem dX6_setCell_57 : decode cX6_setCell 57 = .ok (.return_, 1) := by decide +kernel
theorem dX6_cell_0 : decode cX6_cell 0 = .ok (.iload_n 1, 1) := by decide +kernel
theorem dX6_cell_1 : decode cX6_cell 1 = .ok (.aload_n 0, 1) := by decide +kernel
theorem dX6_cell_2 : decode cX6_cell 2 = .ok (.getfield 15, 3) := by decide +kernel
theorem dX6_cell_5 : decode cX6_cell 5 = .ok (.imul, 1) := by decide +kernel
theorem dX6_cell_6 : decode cX6_cell 6 = .ok (.iload_n 2, 1) := by decide +kernel
theorem dX6_cell_7 : decode cX6_cell 7 = .ok (.iadd, 1) := by decide +kernel
theorem dX6_cell_8 : decode cX6_cell 8 = .ok (.istore 4, 2) := by decide +kernel
theorem dX6_cell_10 : decode cX6_cell 10 = .ok (.iload_n 1, 1) := by decide +kernel
theorem dX6_cell_11 : decode cX6_cell 11 = .ok (.ifCond .lt 38, 3) := by decide +kernel
theorem dX6_cell_14 : decode cX6_cell 14 = .ok (.iload_n 1, 1) := by decide +kernel
theorem dX6_cell_15 : decode cX6_cell 15 = .ok (.aload_n 0, 1) := by decide +kernel
theorem dX6_cell_16 : decode cX6_cell 16 = .ok (.getfield 22, 3) := by decide +kernel
theorem dX6_cell_19 : decode cX6_cell 19 = .ok (.if_icmp .ge 30, 3) := by decide +kernel
theorem dX6_cell_22 : decode cX6_cell 22 = .ok (.iload_n 2, 1) := by decide +kernel
theorem dX6_cell_23 : decode cX6_cell 23 = .ok (.ifCond .lt 26, 3) := by decide +kernel
theorem dX6_cell_26 : decode cX6_cell 26 = .ok (.iload_n 2, 1) := by decide +kernel
theorem dX6_cell_27 : decode cX6_cell 27 = .ok (.aload_n 0, 1) := by decide +kernel
theorem dX6_cell_28 : decode cX6_cell 28 = .ok (.getfield 15, 3) := by decide +kernel
theorem dX6_cell_31 : decode cX6_cell 31 = .ok (.if_icmp .ge 18, 3) := by decide +kernel
theorem dX6_cell_34 : decode cX6_cell 34 = .ok (.iload 4, 2) := by decide +kernel
theorem dX6_cell_36 : decode cX6_cell 36 = .ok (.ifCond .lt 13, 3) := by decide +kernel
theorem dX6_cell_39 : decode cX6_cell 39 = .ok (.iload 4, 2) := by decide +kernel
theorem dX6_cell_41 : decode cX6_cell 41 = .ok (.aload_n 0, 1) := by decide +kernel
theorem dX6_cell_42 : decode cX6_cell 42 = .ok (.getfield 18, 3) := by decide +kernel
theorem dX6_cell_45 : decode cX6_cell 45 = .ok (.arraylength, 1) := by decide +kernel
theorem dX6_cell_46 : decode cX6_cell 46 = .ok (.if_icmp .lt 5, 3) := by decide +kernel
theorem dX6_cell_49 : decode cX6_cell 49 = .ok (.iload_n 3, 1) := by decide +kernel
theorem dX6_cell_50 : decode cX6_cell 50 = .ok (.ireturn, 1) := by decide +kernel
theorem dX6_cell_51 : decode cX6_cell 51 = .ok (.aload_n 0, 1) := by decide +kernel
theorem dX6_cell_52 : decode cX6_cell 52 = .ok (.getfield 18, 3) := by decide +kernel
theorem dX6_cell_55 : decode cX6_cell 55 = .ok (.iload 4, 2) := by decide +kernel
theorem dX6_cell_57 : decode cX6_cell 57 = .ok (.iaload, 1) := by decide +kernel
theorem dX6_cell_58 : decode cX6_cell 58 = .ok (.ireturn, 1) := by decide +kernel
theorem dX9_init_0 : decode cX9_init 0 = .ok (.aload_n 0, 1) := by decide +kernel
theorem dX9_init_1 : decode cX9_init 1 = .ok (.invokespecial 1, 3) := by decide +kernel
theorem dX9_init_4 : decode cX9_init 4 = .ok (.aload_n 0, 1) := by decide +kernel
theorem dX9_init_5 : decode cX9_init 5 = .ok (.bipush 20, 2) := by decide +kernel
theorem dX9_init_7 : decode cX9_init 7 = .ok (.newarray .int, 2) := by decide +kernel
theorem dX9_init_9 : decode cX9_init 9 = .ok (.putfield 9, 3) := by decide +kernel
theorem dX9_init_12 : decode cX9_init 12 = .ok (.aload_n 0, 1) := by decide +kernel
theorem dX9_init_13 : decode cX9_init 13 = .ok (.bipush 16, 2) := by decide +kernel
theorem dX9_init_15 : decode cX9_init 15 = .ok (.newarray .int, 2) := by decide +kernel
theorem dX9_init_17 : decode cX9_init 17 = .ok (.putfield 13, 3) := by decide +kernel
theorem dX9_init_20 : decode cX9_init 20 = .ok (.aload_n 0, 1) := by decide +kernel
theorem dX9_init_21 : decode cX9_init 21 = .ok (.new 16, 3) := by decide +kernel
theorem dX9_init_24 : decode cX9_init 24 = .ok (.dup, 1) := by decide +kernel
theorem dX9_init_25 : decode cX9_init 25 = .ok (.invokespecial 18, 3) := by decide +kernel
theorem dX9_init_28 : decode cX9_init 28 = .ok (.putfield 19, 3) := by decide +kernel
theorem dX9_init_31 : decode cX9_init 31 = .ok (.aload_n 0, 1) := by decide +kernel
theorem dX9_init_32 : decode cX9_init 32 = .ok (.new 23, 3) := by decide +kernel
theorem dX9_init_35 : decode cX9_init 35 = .ok (.dup, 1) := by decide +kernel
theorem dX9_init_36 : decode cX9_init 36 = .ok (.invokespecial 25, 3) := by decide +kernel
theorem dX9_init_39 : decode cX9_init 39 = .ok (.putfield 26, 3) := by decide +kernel
theorem dX9_init_42 : decode cX9_init 42 = .ok (.aload_n 0, 1) := by decide +kernel
theorem dX9_init_43 : decode cX9_init 43 = .ok (.new 30, 3) := by decide +kernel
theorem dX9_init_46 : decode cX9_init 46 = .ok (.dup, 1) := by decide +kernel
theorem dX9_init_47 : decode cX9_init 47 = .ok (.invokespecial 32, 3) := by decide +kernel
theorem dX9_init_50 : decode cX9_init 50 = .ok (.putfield 33, 3) := by decide +kernel
theorem dX9_init_53 : decode cX9_init 53 = .ok (.return_, 1) := by decide +kernel
theorem dX9_feed_0 : decode cX9_feed 0 = .ok (.aload_n 0, 1) := by decide +kernel
theorem dX9_feed_1 : decode cX9_feed 1 = .ok (.iconst 0, 1) := by decide +kernel
theorem dX9_feed_2 : decode cX9_feed 2 = .ok (.iload_n 1, 1) := by decide +kernel
theorem dX9_feed_3 : decode cX9_feed 3 = .ok (.invokevirtual 37, 3) := by decide +kernel
theorem dX9_feed_6 : decode cX9_feed 6 = .ok (.aload_n 0, 1) := by decide +kernel
theorem dX9_feed_7 : decode cX9_feed 7 = .ok (.iconst 4, 1) := by decide +kernel
theorem dX9_feed_8 : decode cX9_feed 8 = .ok (.iload_n 2, 1) := by decide +kernel
theorem dX9_feed_9 : decode cX9_feed 9 = .ok (.invokevirtual 37, 3) := by decide +kernel
theorem dX9_feed_12 : decode cX9_feed 12 = .ok (.aload_n 0, 1) := by decide +kernel
theorem dX9_feed_13 : decode cX9_feed 13 = .ok (.bipush 8, 2) := by decide +kernel
theorem dX9_feed_15 : decode cX9_feed 15 = .ok (.iload_n 3, 1) := by decide +kernel
theorem dX9_feed_16 : decode cX9_feed 16 = .ok (.invokevirtual 37, 3) := by decide +kernel
theorem dX9_feed_19 : decode cX9_feed 19 = .ok (.aload_n 0, 1) := by decide +kernel
theorem dX9_feed_20 : decode cX9_feed 20 = .ok (.bipush 12, 2) := by decide +kernel
theorem dX9_feed_22 : decode cX9_feed 22 = .ok (.iload 4, 2) := by decide +kernel
theorem dX9_feed_24 : decode cX9_feed 24 = .ok (.invokevirtual 37, 3) := by decide +kernel
theorem dX9_feed_27 : decode cX9_feed 27 = .ok (.aload_n 0, 1) := by decide +kernel
theorem dX9_feed_28 : decode cX9_feed 28 = .ok (.bipush 16, 2) := by decide +kernel
theorem dX9_feed_30 : decode cX9_feed 30 = .ok (.iload 5, 2) := by decide +kernel
theorem dX9_feed_32 : decode cX9_feed 32 = .ok (.invokevirtual 37, 3) := by decide +kernel
theorem dX9_feed_35 : decode cX9_feed 35 = .ok (.return_, 1) := by decide +kernel
theorem dX9_letWait_0 : decode cX9_letWait 0 = .ok (.iload_n 1, 1) := by decide +kernel
theorem dX9_letWait_1 : decode cX9_letWait 1 = .ok (.istore_n 3, 1) := by decide +kernel
theorem dX9_letWait_2 : decode cX9_letWait 2 = .ok (.iload_n 3, 1) := by decide +kernel
theorem dX9_letWait_3 : decode cX9_letWait 3 = .ok (.iload_n 1, 1) := by decide +kernel
theorem dX9_letWait_4 : decode cX9_letWait 4 = .ok (.iconst 4, 1) := by decide +kernel
theorem dX9_letWait_5 : decode cX9_letWait 5 = .ok (.iadd, 1) := by decide +kernel
theorem dX9_letWait_6 : decode cX9_letWait 6 = .ok (.if_icmp .ge 36, 3) := by decide +kernel
theorem dX9_letWait_9 : decode cX9_letWait 9 = .ok (.iload_n 3, 1) := by decide +kernel
theorem dX9_letWait_10 : decode cX9_letWait 10 = .ok (.bipush 20, 2) := by decide +kernel
theorem dX9_letWait_12 : decode cX9_letWait 12 = .ok (.if_icmp .ge 30, 3) := by decide +kernel
theorem dX9_letWait_15 : decode cX9_letWait 15 = .ok (.aload_n 0, 1) := by decide +kernel
theorem dX9_letWait_16 : decode cX9_letWait 16 = .ok (.getfield 9, 3) := by decide +kernel
theorem dX9_letWait_19 : decode cX9_letWait 19 = .ok (.iload_n 3, 1) := by decide +kernel
theorem dX9_letWait_20 : decode cX9_letWait 20 = .ok (.iload_n 2, 1) := by decide +kernel
theorem dX9_letWait_21 : decode cX9_letWait 21 = .ok (.bipush 24, 2) := by decide +kernel
theorem dX9_letWait_23 : decode cX9_letWait 23 = .ok (.bipush 8, 2) := by decide +kernel
theorem dX9_letWait_25 : decode cX9_letWait 25 = .ok (.iload_n 3, 1) := by decide +kernel
theorem dX9_letWait_26 : decode cX9_letWait 26 = .ok (.iload_n 1, 1) := by decide +kernel
theorem dX9_letWait_27 : decode cX9_letWait 27 = .ok (.isub, 1) := by decide +kernel
theorem dX9_letWait_28 : decode cX9_letWait 28 = .ok (.imul, 1) := by decide +kernel
theorem dX9_letWait_29 : decode cX9_letWait 29 = .ok (.isub, 1) := by decide +kernel
theorem dX9_letWait_30 : decode cX9_letWait 30 = .ok (.iushr, 1) := by decide +kernel
theorem dX9_letWait_31 : decode cX9_letWait 31 = .ok (.sipush 255, 3) := by decide +kernel
theorem dX9_letWait_34 : decode cX9_letWait 34 = .ok (.iand, 1) := by decide +kernel
theorem dX9_letWait_35 : decode cX9_letWait 35 = .ok (.iastore, 1) := by decide +kernel
theorem dX9_letWait_36 : decode cX9_letWait 36 = .ok (.iinc 3 1, 3) := by decide +kernel
theorem dX9_letWait_39 : decode cX9_letWait 39 = .ok (.goto (-37), 3) := by decide +kernel
theorem dX9_letWait_42 : decode cX9_letWait 42 = .ok (.return_, 1) := by decide +kernel
theorem dX9_end_0 : decode cX9_end 0 = .ok (.iload_n 1, 1) := by decide +kernel
theorem dX9_end_1 : decode cX9_end 1 = .ok (.ifCond .lt 27, 3) := by decide +kernel
theorem dX9_end_4 : decode cX9_end 4 = .ok (.iload_n 1, 1) := by decide +kernel
theorem dX9_end_5 : decode cX9_end 5 = .ok (.bipush 20, 2) := by decide +kernel
theorem dX9_end_7 : decode cX9_end 7 = .ok (.if_icmp .gt 21, 3) := by decide +kernel
theorem dX9_end_10 : decode cX9_end 10 = .ok (.aload_n 0, 1) := by decide +kernel
theorem dX9_end_11 : decode cX9_end 11 = .ok (.getfield 19, 3) := by decide +kernel
theorem dX9_end_14 : decode cX9_end 14 = .ok (.getfield 41, 3) := by decide +kernel
theorem dX9_end_17 : decode cX9_end 17 = .ok (.getfield 45, 3) := by decide +kernel
theorem dX9_end_20 : decode cX9_end 20 = .ok (.iload_n 1, 1) := by decide +kernel
theorem dX9_end_21 : decode cX9_end 21 = .ok (.iadd, 1) := by decide +kernel
theorem dX9_end_22 : decode cX9_end 22 = .ok (.sipush 3000, 3) := by decide +kernel
theorem dX9_end_25 : decode cX9_end 25 = .ok (.if_icmp .le 5, 3) := by decide +kernel
theorem dX9_end_28 : decode cX9_end 28 = .ok (.iconst (-1), 1) := by decide +kernel
theorem dX9_end_29 : decode cX9_end 29 = .ok (.ireturn, 1) := by decide +kernel
theorem dX9_end_30 : decode cX9_end 30 = .ok (.iconst 0, 1) := by decide +kernel
theorem dX9_end_31 : decode cX9_end 31 = .ok (.istore_n 2, 1) := by decide +kernel
theorem dX9_end_32 : decode cX9_end 32 = .ok (.iload_n 2, 1) := by decide +kernel
theorem dX9_end_33 : decode cX9_end 33 = .ok (.iload_n 1, 1) := by decide +kernel
theorem dX9_end_34 : decode cX9_end 34 = .ok (.if_icmp .ge 25, 3) := by decide +kernel
theorem dX9_end_37 : decode cX9_end 37 = .ok (.aload_n 0, 1) := by decide +kernel
theorem dX9_end_38 : decode cX9_end 38 = .ok (.getfield 19, 3) := by decide +kernel
theorem dX9_end_41 : decode cX9_end 41 = .ok (.getfield 41, 3) := by decide +kernel
theorem dX9_end_44 : decode cX9_end 44 = .ok (.aload_n 0, 1) := by decide +kernel
theorem dX9_end_45 : decode cX9_end 45 = .ok (.getfield 9, 3) := by decide +kernel
theorem dX9_end_48 : decode cX9_end 48 = .ok (.iload_n 2, 1) := by decide +kernel
theorem dX9_end_49 : decode cX9_end 49 = .ok (.iaload, 1) := by decide +kernel
theorem dX9_end_50 : decode cX9_end 50 = .ok (.invokevirtual 51, 3) := by decide +kernel
theorem dX9_end_53 : decode cX9_end 53 = .ok (.iinc 2 1, 3) := by decide +kernel
theorem dX9_end_56 : decode cX9_end 56 = .ok (.goto (-24), 3) := by decide +kernel
theorem dX9_end_59 : decode cX9_end 59 = .ok (.iconst 0, 1) := by decide +kernel
theorem dX9_end_60 : decode cX9_end 60 = .ok (.istore_n 2, 1) := by decide +kernel
theorem dX9_end_61 : decode cX9_end 61 = .ok (.iload_n 2, 1) := by decide +kernel
theorem dX9_end_62 : decode cX9_end 62 = .ok (.bipush 20, 2) := by decide +kernel
theorem dX9_end_64 : decode cX9_end 64 = .ok (.if_icmp .ge 16, 3) := by decide +kernel
theorem dX9_end_67 : decode cX9_end 67 = .ok (.aload_n 0, 1) := by decide +kernel
theorem dX9_end_68 : decode cX9_end 68 = .ok (.getfield 9, 3) := by decide +kernel
theorem dX9_end_71 : decode cX9_end 71 = .ok (.iload_n 2, 1) := by decide +kernel
theorem dX9_end_72 : decode cX9_end 72 = .ok (.iconst 0, 1) := by decide +kernel
theorem dX9_end_73 : decode cX9_end 73 = .ok (.iastore, 1) := by decide +kernel
theorem dX9_end_74 : decode cX9_end 74 = .ok (.iinc 2 1, 3) := by decide +kernel
theorem dX9_end_77 : decode cX9_end 77 = .ok (.goto (-16), 3) := by decide +kernel
theorem dX9_end_80 : decode cX9_end 80 = .ok (.aload_n 0, 1) := by decide +kernel
theorem dX9_end_81 : decode cX9_end 81 = .ok (.getfield 19, 3) := by decide +kernel
theorem dX9_end_84 : decode cX9_end 84 = .ok (.getfield 41, 3) := by decide +kernel
theorem dX9_end_87 : decode cX9_end 87 = .ok (.getfield 45, 3) := by decide +kernel
theorem dX9_end_90 : decode cX9_end 90 = .ok (.ireturn, 1) := by decide +kernel
theorem dX9_read_0 : decode cX9_read 0 = .ok (.aload_n 0, 1) := by decide +kernel
theorem dX9_read_1 : decode cX9_read 1 = .ok (.getfield 19, 3) := by decide +kernel
theorem dX9_read_4 : decode cX9_read 4 = .ok (.invokevirtual 55, 3) := by decide +kernel
theorem dX9_read_7 : decode cX9_read 7 = .ok (.iconst 0, 1) := by decide +kernel
theorem dX9_read_8 : decode cX9_read 8 = .ok (.istore_n 1, 1) := by decide +kernel
theorem dX9_read_9 : decode cX9_read 9 = .ok (.iload_n 1, 1) := by decide +kernel
theorem dX9_read_10 : decode cX9_read 10 = .ok (.sipush 3000, 3) := by decide +kernel
theorem dX9_read_13 : decode cX9_read 13 = .ok (.if_icmp .gt 35, 3) := by decide +kernel
theorem dX9_read_16 : decode cX9_read 16 = .ok (.aload_n 0, 1) := by decide +kernel
theorem dX9_read_17 : decode cX9_read 17 = .ok (.getfield 19, 3) := by decide +kernel
theorem dX9_read_20 : decode cX9_read 20 = .ok (.invokevirtual 58, 3) := by decide +kernel
theorem dX9_read_23 : decode cX9_read 23 = .ok (.ifCond .eq 25, 3) := by decide +kernel
theorem dX9_read_26 : decode cX9_read 26 = .ok (.aload_n 0, 1) := by decide +kernel
theorem dX9_read_27 : decode cX9_read 27 = .ok (.getfield 19, 3) := by decide +kernel
theorem dX9_read_30 : decode cX9_read 30 = .ok (.iload_n 1, 1) := by decide +kernel
theorem dX9_read_31 : decode cX9_read 31 = .ok (.invokevirtual 62, 3) := by decide +kernel
theorem dX9_read_34 : decode cX9_read 34 = .ok (.aload_n 0, 1) := by decide +kernel
theorem dX9_read_35 : decode cX9_read 35 = .ok (.getfield 19, 3) := by decide +kernel
theorem dX9_read_38 : decode cX9_read 38 = .ok (.iload_n 1, 1) := by decide +kernel
theorem dX9_read_39 : decode cX9_read 39 = .ok (.invokevirtual 65, 3) := by decide +kernel
theorem dX9_read_42 : decode cX9_read 42 = .ok (.iinc 1 1, 3) := by decide +kernel
theorem dX9_read_45 : decode cX9_read 45 = .ok (.goto (-36), 3) := by decide +kernel
theorem dX9_read_48 : decode cX9_read 48 = .ok (.aload_n 0, 1) := by decide +kernel
theorem dX9_read_49 : decode cX9_read 49 = .ok (.getfield 19, 3) := by decide +kernel
theorem dX9_read_52 : decode cX9_read 52 = .ok (.invokevirtual 68, 3) := by decide +kernel
theorem dX9_read_55 : decode cX9_read 55 = .ok (.ireturn, 1) := by decide +kernel
theorem dX9_fault_0 : decode cX9_fault 0 = .ok (.iload_n 1, 1) := by decide +kernel
theorem dX9_fault_1 : decode cX9_fault 1 = .ok (.lookupswitch 43 #[(0, 27), (1, 35)], 27) := by decide +kernel
theorem dX9_fault_28 : decode cX9_fault 28 = .ok (.aload_n 0, 1) := by decide +kernel
theorem dX9_fault_29 : decode cX9_fault 29 = .ok (.getfield 19, 3) := by decide +kernel
theorem dX9_fault_32 : decode cX9_fault 32 = .ok (.getfield 72, 3) := by decide +kernel
theorem dX9_fault_35 : decode cX9_fault 35 = .ok (.ireturn, 1) := by decide +kernel
theorem dX9_fault_36 : decode cX9_fault 36 = .ok (.aload_n 0, 1) := by decide +kernel
theorem dX9_fault_37 : decode cX9_fault 37 = .ok (.getfield 19, 3) := by decide +kernel
theorem dX9_fault_40 : decode cX9_fault 40 = .ok (.getfield 75, 3) := by decide +kernel
theorem dX9_fault_43 : decode cX9_fault 43 = .ok (.ireturn, 1) := by decide +kernel
theorem dX9_fault_44 : decode cX9_fault 44 = .ok (.iconst (-1), 1) := by decide +kernel
theorem dX9_fault_45 : decode cX9_fault 45 = .ok (.ireturn, 1) := by decide +kernel
theorem dX9_count_0 : decode cX9_count 0 = .ok (.iload_n 1, 1) := by decide +kernel
theorem dX9_count_1 : decode cX9_count 1 = .ok (.tableswitch 87 0 3 #[31, 45, 59, 73], 31) := by decide +kernel
theorem dX9_count_32 : decode cX9_count 32 = .ok (.aload_n 0, 1) := by decide +kernel
theorem dX9_count_33 : decode cX9_count 33 = .ok (.getfield 19, 3) := by decide +kernel
theorem dX9_count_36 : decode cX9_count 36 = .ok (.getfield 78, 3) := by decide +kernel
theorem dX9_count_39 : decode cX9_count 39 = .ok (.getfield 82, 3) := by decide +kernel
theorem dX9_count_42 : decode cX9_count 42 = .ok (.getfield 88, 3) := by decide +kernel
theorem dX9_count_45 : decode cX9_count 45 = .ok (.ireturn, 1) := by decide +kernel
theorem dX9_count_46 : decode cX9_count 46 = .ok (.aload_n 0, 1) := by decide +kernel
theorem dX9_count_47 : decode cX9_count 47 = .ok (.getfield 19, 3) := by decide +kernel
theorem dX9_count_50 : decode cX9_count 50 = .ok (.getfield 78, 3) := by decide +kernel
theorem dX9_count_53 : decode cX9_count 53 = .ok (.getfield 93, 3) := by decide +kernel
theorem dX9_count_56 : decode cX9_count 56 = .ok (.getfield 88, 3) := by decide +kernel
theorem dX9_count_59 : decode cX9_count 59 = .ok (.ireturn, 1) := by decide +kernel
theorem dX9_count_60 : decode cX9_count 60 = .ok (.aload_n 0, 1) := by decide +kernel
theorem dX9_count_61 : decode cX9_count 61 = .ok (.getfield 19, 3) := by decide +kernel
theorem dX9_count_64 : decode cX9_count 64 = .ok (.getfield 78, 3) := by decide +kernel
theorem dX9_count_67 : decode cX9_count 67 = .ok (.getfield 96, 3) := by decide +kernel
theorem dX9_count_70 : decode cX9_count 70 = .ok (.getfield 88, 3) := by decide +kernel
theorem dX9_count_73 : decode cX9_count 73 = .ok (.ireturn, 1) := by decide +kernel
theorem dX9_count_74 : decode cX9_count 74 = .ok (.aload_n 0, 1) := by decide +kernel
theorem dX9_count_75 : decode cX9_count 75 = .ok (.getfield 19, 3) := by decide +kernel
theorem dX9_count_78 : decode cX9_count 78 = .ok (.getfield 78, 3) := by decide +kernel
theorem dX9_count_81 : decode cX9_count 81 = .ok (.getfield 99, 3) := by decide +kernel
theorem dX9_count_84 : decode cX9_count 84 = .ok (.getfield 88, 3) := by decide +kernel
theorem dX9_count_87 : decode cX9_count 87 = .ok (.ireturn, 1) := by decide +kernel
theorem dX9_count_88 : decode cX9_count 88 = .ok (.iconst (-1), 1) := by decide +kernel
theorem dX9_count_89 : decode cX9_count 89 = .ok (.ireturn, 1) := by decide +kernel
theorem dX9_statement_0 : decode cX9_statement 0 = .ok (.aload_n 0, 1) := by decide +kernel
theorem dX9_statement_1 : decode cX9_statement 1 = .ok (.getfield 19, 3) := by decide +kernel
theorem dX9_statement_4 : decode cX9_statement 4 = .ok (.getfield 78, 3) := by decide +kernel
theorem dX9_statement_7 : decode cX9_statement 7 = .ok (.getfield 82, 3) := by decide +kernel
theorem dX9_statement_10 : decode cX9_statement 10 = .ok (.iload_n 1, 1) := by decide +kernel
theorem dX9_statement_11 : decode cX9_statement 11 = .ok (.iload_n 2, 1) := by decide +kernel
theorem dX9_statement_12 : decode cX9_statement 12 = .ok (.iconst (-1), 1) := by decide +kernel
theorem dX9_statement_13 : decode cX9_statement 13 = .ok (.invokevirtual 102, 3) := by decide +kernel
theorem dX9_statement_16 : decode cX9_statement 16 = .ok (.ireturn, 1) := by decide +kernel
theorem dX9_operand_0 : decode cX9_operand 0 = .ok (.iload_n 2, 1) := by decide +kernel
theorem dX9_operand_1 : decode cX9_operand 1 = .ok (.bipush 6, 2) := by decide +kernel
theorem dX9_operand_3 : decode cX9_operand 3 = .ok (.if_icmp .le 7, 3) := by decide +kernel
theorem dX9_operand_6 : decode cX9_operand 6 = .ok (.iconst (-1), 1) := by decide +kernel
theorem dX9_operand_7 : decode cX9_operand 7 = .ok (.goto 19, 3) := by decide +kernel
theorem dX9_operand_10 : decode cX9_operand 10 = .ok (.aload_n 0, 1) := by decide +kernel
theorem dX9_operand_11 : decode cX9_operand 11 = .ok (.getfield 19, 3) := by decide +kernel
theorem dX9_operand_14 : decode cX9_operand 14 = .ok (.getfield 78, 3) := by decide +kernel
theorem dX9_operand_17 : decode cX9_operand 17 = .ok (.getfield 93, 3) := by decide +kernel
theorem dX9_operand_20 : decode cX9_operand 20 = .ok (.iload_n 1, 1) := by decide +kernel
theorem dX9_operand_21 : decode cX9_operand 21 = .ok (.iload_n 2, 1) := by decide +kernel
theorem dX9_operand_22 : decode cX9_operand 22 = .ok (.iconst (-1), 1) := by decide +kernel
theorem dX9_operand_23 : decode cX9_operand 23 = .ok (.invokevirtual 102, 3) := by decide +kernel
theorem dX9_operand_26 : decode cX9_operand 26 = .ok (.ireturn, 1) := by decide +kernel
theorem dX9_constant_0 : decode cX9_constant 0 = .ok (.aload_n 0, 1) := by decide +kernel
theorem dX9_constant_1 : decode cX9_constant 1 = .ok (.getfield 26, 3) := by decide +kernel
theorem dX9_constant_4 : decode cX9_constant 4 = .ok (.aload_n 0, 1) := by decide +kernel
theorem dX9_constant_5 : decode cX9_constant 5 = .ok (.getfield 19, 3) := by decide +kernel
theorem dX9_constant_8 : decode cX9_constant 8 = .ok (.getfield 78, 3) := by decide +kernel
theorem dX9_constant_11 : decode cX9_constant 11 = .ok (.iload_n 1, 1) := by decide +kernel
theorem dX9_constant_12 : decode cX9_constant 12 = .ok (.invokevirtual 106, 3) := by decide +kernel
theorem dX9_constant_15 : decode cX9_constant 15 = .ok (.lreturn, 1) := by decide +kernel
theorem dX9_item_0 : decode cX9_item 0 = .ok (.aload_n 0, 1) := by decide +kernel
theorem dX9_item_1 : decode cX9_item 1 = .ok (.getfield 19, 3) := by decide +kernel
theorem dX9_item_4 : decode cX9_item 4 = .ok (.getfield 78, 3) := by decide +kernel
theorem dX9_item_7 : decode cX9_item 7 = .ok (.getfield 96, 3) := by decide +kernel
theorem dX9_item_10 : decode cX9_item 10 = .ok (.iload_n 1, 1) := by decide +kernel
theorem dX9_item_11 : decode cX9_item 11 = .ok (.iload_n 2, 1) := by decide +kernel
theorem dX9_item_12 : decode cX9_item 12 = .ok (.iconst 0, 1) := by decide +kernel
theorem dX9_item_13 : decode cX9_item 13 = .ok (.invokevirtual 102, 3) := by decide +kernel
theorem dX9_item_16 : decode cX9_item 16 = .ok (.ireturn, 1) := by decide +kernel
theorem dX9_name_0 : decode cX9_name 0 = .ok (.aload_n 0, 1) := by decide +kernel
theorem dX9_name_1 : decode cX9_name 1 = .ok (.getfield 19, 3) := by decide +kernel
theorem dX9_name_4 : decode cX9_name 4 = .ok (.getfield 78, 3) := by decide +kernel
theorem dX9_name_7 : decode cX9_name 7 = .ok (.iload_n 1, 1) := by decide +kernel
theorem dX9_name_8 : decode cX9_name 8 = .ok (.iload_n 2, 1) := by decide +kernel
theorem dX9_name_9 : decode cX9_name 9 = .ok (.invokevirtual 110, 3) := by decide +kernel
theorem dX9_name_12 : decode cX9_name 12 = .ok (.ireturn, 1) := by decide +kernel
theorem dX9_string_0 : decode cX9_string 0 = .ok (.aload_n 0, 1) := by decide +kernel
theorem dX9_string_1 : decode cX9_string 1 = .ok (.getfield 19, 3) := by decide +kernel
theorem dX9_string_4 : decode cX9_string 4 = .ok (.getfield 78, 3) := by decide +kernel
theorem dX9_string_7 : decode cX9_string 7 = .ok (.iload_n 1, 1) := by decide +kernel
theorem dX9_string_8 : decode cX9_string 8 = .ok (.iload_n 2, 1) := by decide +kernel
theorem dX9_string_9 : decode cX9_string 9 = .ok (.invokevirtual 114, 3) := by decide +kernel
theorem dX9_string_12 : decode cX9_string 12 = .ok (.ireturn, 1) := by decide +kernel
theorem dX9_find_0 : decode cX9_find 0 = .ok (.iconst 0, 1) := by decide +kernel
theorem dX9_find_1 : decode cX9_find 1 = .ok (.istore 5, 2) := by decide +kernel
theorem dX9_find_3 : decode cX9_find 3 = .ok (.iconst 0, 1) := by decide +kernel
theorem dX9_find_4 : decode cX9_find 4 = .ok (.istore 6, 2) := by decide +kernel
theorem dX9_find_6 : decode cX9_find 6 = .ok (.iload 6, 2) := by decide +kernel
theorem dX9_find_8 : decode cX9_find 8 = .ok (.bipush 16, 2) := by decide +kernel
theorem dX9_find_10 : decode cX9_find 10 = .ok (.if_icmp .ge 68, 3) := by decide +kernel
theorem dX9_find_13 : decode cX9_find 13 = .ok (.iload 6, 2) := by decide +kernel
theorem dX9_find_15 : decode cX9_find 15 = .ok (.bipush 8, 2) := by decide +kernel
theorem dX9_find_17 : decode cX9_find 17 = .ok (.if_icmp .ge 7, 3) := by decide +kernel
theorem dX9_find_20 : decode cX9_find 20 = .ok (.lload_n 1, 1) := by decide +kernel
theorem dX9_find_21 : decode cX9_find 21 = .ok (.goto 4, 3) := by decide +kernel
theorem dX9_find_24 : decode cX9_find 24 = .ok (.lload_n 3, 1) := by decide +kernel
theorem dX9_find_25 : decode cX9_find 25 = .ok (.lstore 7, 2) := by decide +kernel
theorem dX9_find_27 : decode cX9_find 27 = .ok (.lload 7, 2) := by decide +kernel
theorem dX9_find_29 : decode cX9_find 29 = .ok (.bipush 56, 2) := by decide +kernel
theorem dX9_find_31 : decode cX9_find 31 = .ok (.bipush 8, 2) := by decide +kernel
theorem dX9_find_33 : decode cX9_find 33 = .ok (.iload 6, 2) := by decide +kernel
theorem dX9_find_35 : decode cX9_find 35 = .ok (.bipush 7, 2) := by decide +kernel
theorem dX9_find_37 : decode cX9_find 37 = .ok (.iand, 1) := by decide +kernel
theorem dX9_find_38 : decode cX9_find 38 = .ok (.imul, 1) := by decide +kernel
theorem dX9_find_39 : decode cX9_find 39 = .ok (.isub, 1) := by decide +kernel
theorem dX9_find_40 : decode cX9_find 40 = .ok (.lushr, 1) := by decide +kernel
theorem dX9_find_41 : decode cX9_find 41 = .ok (.l2i, 1) := by decide +kernel
theorem dX9_find_42 : decode cX9_find 42 = .ok (.sipush 255, 3) := by decide +kernel
theorem dX9_find_45 : decode cX9_find 45 = .ok (.iand, 1) := by decide +kernel
theorem dX9_find_46 : decode cX9_find 46 = .ok (.istore 9, 2) := by decide +kernel
theorem dX9_find_48 : decode cX9_find 48 = .ok (.iload 9, 2) := by decide +kernel
theorem dX9_find_50 : decode cX9_find 50 = .ok (.ifCond .eq 22, 3) := by decide +kernel
theorem dX9_find_53 : decode cX9_find 53 = .ok (.iload 5, 2) := by decide +kernel
theorem dX9_find_55 : decode cX9_find 55 = .ok (.bipush 16, 2) := by decide +kernel
theorem dX9_find_57 : decode cX9_find 57 = .ok (.if_icmp .ge 15, 3) := by decide +kernel
theorem dX9_find_60 : decode cX9_find 60 = .ok (.aload_n 0, 1) := by decide +kernel
theorem dX9_find_61 : decode cX9_find 61 = .ok (.getfield 13, 3) := by decide +kernel
theorem dX9_find_64 : decode cX9_find 64 = .ok (.iload 5, 2) := by decide +kernel
theorem dX9_find_66 : decode cX9_find 66 = .ok (.iload 9, 2) := by decide +kernel
theorem dX9_find_68 : decode cX9_find 68 = .ok (.iastore, 1) := by decide +kernel
theorem dX9_find_69 : decode cX9_find 69 = .ok (.iinc 5 1, 3) := by decide +kernel
theorem dX9_find_72 : decode cX9_find 72 = .ok (.iinc 6 1, 3) := by decide +kernel
theorem dX9_find_75 : decode cX9_find 75 = .ok (.goto (-69), 3) := by decide +kernel
theorem dX9_find_78 : decode cX9_find 78 = .ok (.aload_n 0, 1) := by decide +kernel
theorem dX9_find_79 : decode cX9_find 79 = .ok (.getfield 19, 3) := by decide +kernel
theorem dX9_find_82 : decode cX9_find 82 = .ok (.getfield 78, 3) := by decide +kernel
theorem dX9_find_85 : decode cX9_find 85 = .ok (.aload_n 0, 1) := by decide +kernel
theorem dX9_find_86 : decode cX9_find 86 = .ok (.getfield 13, 3) := by decide +kernel
theorem dX9_find_89 : decode cX9_find 89 = .ok (.iconst 0, 1) := by decide +kernel
theorem dX9_find_90 : decode cX9_find 90 = .ok (.iload 5, 2) := by decide +kernel
theorem dX9_find_92 : decode cX9_find 92 = .ok (.invokevirtual 117, 3) := by decide +kernel
theorem dX9_find_95 : decode cX9_find 95 = .ok (.ireturn, 1) := by decide +kernel
theorem dX9_tell_0 : decode cX9_tell 0 = .ok (.aload_n 0, 1) := by decide +kernel
theorem dX9_tell_1 : decode cX9_tell 1 = .ok (.getfield 33, 3) := by decide +kernel
theorem dX9_tell_4 : decode cX9_tell 4 = .ok (.aload_n 0, 1) := by decide +kernel
theorem dX9_tell_5 : decode cX9_tell 5 = .ok (.getfield 19, 3) := by decide +kernel
theorem dX9_tell_8 : decode cX9_tell 8 = .ok (.getfield 78, 3) := by decide +kernel
theorem dX9_tell_11 : decode cX9_tell 11 = .ok (.iload_n 1, 1) := by decide +kernel
theorem dX9_tell_12 : decode cX9_tell 12 = .ok (.invokevirtual 121, 3) := by decide +kernel
theorem dX9_tell_15 : decode cX9_tell 15 = .ok (.ireturn, 1) := by decide +kernel
theorem dX9_letter_0 : decode cX9_letter 0 = .ok (.aload_n 0, 1) := by decide +kernel
theorem dX9_letter_1 : decode cX9_letter 1 = .ok (.getfield 33, 3) := by decide +kernel
theorem dX9_letter_4 : decode cX9_letter 4 = .ok (.iload_n 1, 1) := by decide +kernel
theorem dX9_letter_5 : decode cX9_letter 5 = .ok (.invokevirtual 125, 3) := by decide +kernel
theorem dX9_letter_8 : decode cX9_letter 8 = .ok (.ireturn, 1) := by decide +kernel
