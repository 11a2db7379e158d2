theorem dX3_init_0 : decode cX3_init 0 = .ok (.aload_n 0, 1) := by decide +kernel
theorem dX3_init_1 : decode cX3_init 1 = .ok (.invokespecial 3, 3) := by decide +kernel
theorem dX3_init_4 : decode cX3_init 4 = .ok (.aload_n 0, 1) := by decide +kernel
theorem dX3_init_5 : decode cX3_init 5 = .ok (.new 9, 3) := by decide +kernel
theorem dX3_init_8 : decode cX3_init 8 = .ok (.dup, 1) := by decide +kernel
theorem dX3_init_9 : decode cX3_init 9 = .ok (.invokespecial 11, 3) := by decide +kernel
theorem dX3_init_12 : decode cX3_init 12 = .ok (.putfield 12, 3) := by decide +kernel
theorem dX3_init_15 : decode cX3_init 15 = .ok (.aload_n 0, 1) := by decide +kernel
theorem dX3_init_16 : decode cX3_init 16 = .ok (.new 18, 3) := by decide +kernel
theorem dX3_init_19 : decode cX3_init 19 = .ok (.dup, 1) := by decide +kernel
theorem dX3_init_20 : decode cX3_init 20 = .ok (.invokespecial 20, 3) := by decide +kernel
theorem dX3_init_23 : decode cX3_init 23 = .ok (.putfield 21, 3) := by decide +kernel
theorem dX3_init_26 : decode cX3_init 26 = .ok (.aload_n 0, 1) := by decide +kernel
theorem dX3_init_27 : decode cX3_init 27 = .ok (.new 18, 3) := by decide +kernel
theorem dX3_init_30 : decode cX3_init 30 = .ok (.dup, 1) := by decide +kernel
theorem dX3_init_31 : decode cX3_init 31 = .ok (.invokespecial 20, 3) := by decide +kernel
theorem dX3_init_34 : decode cX3_init 34 = .ok (.putfield 25, 3) := by decide +kernel
theorem dX3_init_37 : decode cX3_init 37 = .ok (.aload_n 0, 1) := by decide +kernel
theorem dX3_init_38 : decode cX3_init 38 = .ok (.iconst (-1), 1) := by decide +kernel
theorem dX3_init_39 : decode cX3_init 39 = .ok (.putfield 28, 3) := by decide +kernel
theorem dX3_init_42 : decode cX3_init 42 = .ok (.return_, 1) := by decide +kernel
theorem dX3_begin_0 : decode cX3_begin 0 = .ok (.aload_n 0, 1) := by decide +kernel
theorem dX3_begin_1 : decode cX3_begin 1 = .ok (.iconst 0, 1) := by decide +kernel
theorem dX3_begin_2 : decode cX3_begin 2 = .ok (.putfield 32, 3) := by decide +kernel
theorem dX3_begin_5 : decode cX3_begin 5 = .ok (.aload_n 0, 1) := by decide +kernel
theorem dX3_begin_6 : decode cX3_begin 6 = .ok (.iconst (-1), 1) := by decide +kernel
theorem dX3_begin_7 : decode cX3_begin 7 = .ok (.putfield 28, 3) := by decide +kernel
theorem dX3_begin_10 : decode cX3_begin 10 = .ok (.aload_n 0, 1) := by decide +kernel
theorem dX3_begin_11 : decode cX3_begin 11 = .ok (.getfield 25, 3) := by decide +kernel
theorem dX3_begin_14 : decode cX3_begin 14 = .ok (.invokevirtual 35, 3) := by decide +kernel
theorem dX3_begin_17 : decode cX3_begin 17 = .ok (.aload_n 0, 1) := by decide +kernel
theorem dX3_begin_18 : decode cX3_begin 18 = .ok (.getfield 12, 3) := by decide +kernel
theorem dX3_begin_21 : decode cX3_begin 21 = .ok (.invokevirtual 38, 3) := by decide +kernel
theorem dX3_begin_24 : decode cX3_begin 24 = .ok (.aload_n 0, 1) := by decide +kernel
theorem dX3_begin_25 : decode cX3_begin 25 = .ok (.iconst (-1), 1) := by decide +kernel
theorem dX3_begin_26 : decode cX3_begin 26 = .ok (.putfield 41, 3) := by decide +kernel
theorem dX3_begin_29 : decode cX3_begin 29 = .ok (.aload_n 0, 1) := by decide +kernel
theorem dX3_begin_30 : decode cX3_begin 30 = .ok (.invokevirtual 44, 3) := by decide +kernel
theorem dX3_begin_33 : decode cX3_begin 33 = .ok (.return_, 1) := by decide +kernel
theorem dX3_hasLine_0 : decode cX3_hasLine 0 = .ok (.aload_n 0, 1) := by decide +kernel
theorem dX3_hasLine_1 : decode cX3_hasLine 1 = .ok (.getfield 41, 3) := by decide +kernel
theorem dX3_hasLine_4 : decode cX3_hasLine 4 = .ok (.aload_n 0, 1) := by decide +kernel
theorem dX3_hasLine_5 : decode cX3_hasLine 5 = .ok (.getfield 12, 3) := by decide +kernel
theorem dX3_hasLine_8 : decode cX3_hasLine 8 = .ok (.invokevirtual 47, 3) := by decide +kernel
theorem dX3_hasLine_11 : decode cX3_hasLine 11 = .ok (.if_icmp .ge 7, 3) := by decide +kernel
theorem dX3_hasLine_14 : decode cX3_hasLine 14 = .ok (.iconst 1, 1) := by decide +kernel
theorem dX3_hasLine_15 : decode cX3_hasLine 15 = .ok (.goto 4, 3) := by decide +kernel
theorem dX3_hasLine_18 : decode cX3_hasLine 18 = .ok (.iconst 0, 1) := by decide +kernel
theorem dX3_hasLine_19 : decode cX3_hasLine 19 = .ok (.ireturn, 1) := by decide +kernel
theorem dX3_finish_0 : decode cX3_finish 0 = .ok (.aload_n 0, 1) := by decide +kernel
theorem dX3_finish_1 : decode cX3_finish 1 = .ok (.getfield 21, 3) := by decide +kernel
theorem dX3_finish_4 : decode cX3_finish 4 = .ok (.astore_n 1, 1) := by decide +kernel
theorem dX3_finish_5 : decode cX3_finish 5 = .ok (.aload_n 0, 1) := by decide +kernel
theorem dX3_finish_6 : decode cX3_finish 6 = .ok (.aload_n 0, 1) := by decide +kernel
theorem dX3_finish_7 : decode cX3_finish 7 = .ok (.getfield 25, 3) := by decide +kernel
theorem dX3_finish_10 : decode cX3_finish 10 = .ok (.putfield 21, 3) := by decide +kernel
theorem dX3_finish_13 : decode cX3_finish 13 = .ok (.aload_n 0, 1) := by decide +kernel
theorem dX3_finish_14 : decode cX3_finish 14 = .ok (.aload_n 1, 1) := by decide +kernel
theorem dX3_finish_15 : decode cX3_finish 15 = .ok (.putfield 25, 3) := by decide +kernel
theorem dX3_finish_18 : decode cX3_finish 18 = .ok (.aload_n 0, 1) := by decide +kernel
theorem dX3_finish_19 : decode cX3_finish 19 = .ok (.getfield 21, 3) := by decide +kernel
theorem dX3_finish_22 : decode cX3_finish 22 = .ok (.getfield 51, 3) := by decide +kernel
theorem dX3_finish_25 : decode cX3_finish 25 = .ok (.getfield 55, 3) := by decide +kernel
theorem dX3_finish_28 : decode cX3_finish 28 = .ok (.ireturn, 1) := by decide +kernel
theorem dX3_step_0 : decode cX3_step 0 = .ok (.aload_n 0, 1) := by decide +kernel
theorem dX3_step_1 : decode cX3_step 1 = .ok (.dup, 1) := by decide +kernel
theorem dX3_step_2 : decode cX3_step 2 = .ok (.getfield 41, 3) := by decide +kernel
theorem dX3_step_5 : decode cX3_step 5 = .ok (.iconst 1, 1) := by decide +kernel
theorem dX3_step_6 : decode cX3_step 6 = .ok (.iadd, 1) := by decide +kernel
theorem dX3_step_7 : decode cX3_step 7 = .ok (.putfield 41, 3) := by decide +kernel
theorem dX3_step_10 : decode cX3_step 10 = .ok (.aload_n 0, 1) := by decide +kernel
theorem dX3_step_11 : decode cX3_step 11 = .ok (.aload_n 0, 1) := by decide +kernel
theorem dX3_step_12 : decode cX3_step 12 = .ok (.getfield 12, 3) := by decide +kernel
theorem dX3_step_15 : decode cX3_step 15 = .ok (.aload_n 0, 1) := by decide +kernel
theorem dX3_step_16 : decode cX3_step 16 = .ok (.getfield 41, 3) := by decide +kernel
theorem dX3_step_19 : decode cX3_step 19 = .ok (.invokevirtual 59, 3) := by decide +kernel
theorem dX3_step_22 : decode cX3_step 22 = .ok (.putfield 63, 3) := by decide +kernel
theorem dX3_step_25 : decode cX3_step 25 = .ok (.aload_n 0, 1) := by decide +kernel
theorem dX3_step_26 : decode cX3_step 26 = .ok (.aload_n 0, 1) := by decide +kernel
theorem dX3_step_27 : decode cX3_step 27 = .ok (.getfield 12, 3) := by decide +kernel
theorem dX3_step_30 : decode cX3_step 30 = .ok (.aload_n 0, 1) := by decide +kernel
theorem dX3_step_31 : decode cX3_step 31 = .ok (.getfield 41, 3) := by decide +kernel
theorem dX3_step_34 : decode cX3_step 34 = .ok (.invokevirtual 66, 3) := by decide +kernel
theorem dX3_step_37 : decode cX3_step 37 = .ok (.putfield 69, 3) := by decide +kernel
theorem dX3_step_40 : decode cX3_step 40 = .ok (.aload_n 0, 1) := by decide +kernel
theorem dX3_step_41 : decode cX3_step 41 = .ok (.getfield 63, 3) := by decide +kernel
theorem dX3_step_44 : decode cX3_step 44 = .ok (.bipush 24, 2) := by decide +kernel
theorem dX3_step_46 : decode cX3_step 46 = .ok (.if_icmp .ne 18, 3) := by decide +kernel
theorem dX3_step_49 : decode cX3_step 49 = .ok (.aload_n 0, 1) := by decide +kernel
theorem dX3_step_50 : decode cX3_step 50 = .ok (.aload_n 0, 1) := by decide +kernel
theorem dX3_step_51 : decode cX3_step 51 = .ok (.getfield 12, 3) := by decide +kernel
theorem dX3_step_54 : decode cX3_step 54 = .ok (.aload_n 0, 1) := by decide +kernel
theorem dX3_step_55 : decode cX3_step 55 = .ok (.getfield 41, 3) := by decide +kernel
theorem dX3_step_58 : decode cX3_step 58 = .ok (.invokevirtual 72, 3) := by decide +kernel
theorem dX3_step_61 : decode cX3_step 61 = .ok (.invokevirtual 75, 3) := by decide +kernel
theorem dX3_step_64 : decode cX3_step 64 = .ok (.return_, 1) := by decide +kernel
theorem dX3_refuse_0 : decode cX3_refuse 0 = .ok (.aload_n 0, 1) := by decide +kernel
theorem dX3_refuse_1 : decode cX3_refuse 1 = .ok (.iload_n 1, 1) := by decide +kernel
theorem dX3_refuse_2 : decode cX3_refuse 2 = .ok (.putfield 32, 3) := by decide +kernel
theorem dX3_refuse_5 : decode cX3_refuse 5 = .ok (.aload_n 0, 1) := by decide +kernel
theorem dX3_refuse_6 : decode cX3_refuse 6 = .ok (.aload_n 0, 1) := by decide +kernel
theorem dX3_refuse_7 : decode cX3_refuse 7 = .ok (.getfield 69, 3) := by decide +kernel
theorem dX3_refuse_10 : decode cX3_refuse 10 = .ok (.putfield 28, 3) := by decide +kernel
theorem dX3_refuse_13 : decode cX3_refuse 13 = .ok (.new 79, 3) := by decide +kernel
theorem dX3_refuse_16 : decode cX3_refuse 16 = .ok (.dup, 1) := by decide +kernel
theorem dX3_refuse_17 : decode cX3_refuse 17 = .ok (.ldc 81, 2) := by decide +kernel
theorem dX3_refuse_19 : decode cX3_refuse 19 = .ok (.invokespecial 83, 3) := by decide +kernel
theorem dX3_refuse_22 : decode cX3_refuse 22 = .ok (.athrow, 1) := by decide +kernel
theorem dX3_demand_0 : decode cX3_demand 0 = .ok (.aload_n 0, 1) := by decide +kernel
theorem dX3_demand_1 : decode cX3_demand 1 = .ok (.getfield 63, 3) := by decide +kernel
theorem dX3_demand_4 : decode cX3_demand 4 = .ok (.iload_n 1, 1) := by decide +kernel
theorem dX3_demand_5 : decode cX3_demand 5 = .ok (.if_icmp .eq 8, 3) := by decide +kernel
theorem dX3_demand_8 : decode cX3_demand 8 = .ok (.aload_n 0, 1) := by decide +kernel
theorem dX3_demand_9 : decode cX3_demand 9 = .ok (.iconst 5, 1) := by decide +kernel
theorem dX3_demand_10 : decode cX3_demand 10 = .ok (.invokevirtual 75, 3) := by decide +kernel
theorem dX3_demand_13 : decode cX3_demand 13 = .ok (.return_, 1) := by decide +kernel
theorem dX3_readLabels_0 : decode cX3_readLabels 0 = .ok (.iconst 0, 1) := by decide +kernel
theorem dX3_readLabels_1 : decode cX3_readLabels 1 = .ok (.istore_n 2, 1) := by decide +kernel
theorem dX3_readLabels_2 : decode cX3_readLabels 2 = .ok (.iload_n 2, 1) := by decide +kernel
theorem dX3_readLabels_3 : decode cX3_readLabels 3 = .ok (.sipush 400, 3) := by decide +kernel
theorem dX3_readLabels_6 : decode cX3_readLabels 6 = .ok (.if_icmp .gt 70, 3) := by decide +kernel
theorem dX3_readLabels_9 : decode cX3_readLabels 9 = .ok (.aload_n 0, 1) := by decide +kernel
theorem dX3_readLabels_10 : decode cX3_readLabels 10 = .ok (.invokevirtual 86, 3) := by decide +kernel
theorem dX3_readLabels_13 : decode cX3_readLabels 13 = .ok (.ifCond .eq 63, 3) := by decide +kernel
theorem dX3_readLabels_16 : decode cX3_readLabels 16 = .ok (.aload_n 0, 1) := by decide +kernel
theorem dX3_readLabels_17 : decode cX3_readLabels 17 = .ok (.getfield 63, 3) := by decide +kernel
theorem dX3_readLabels_20 : decode cX3_readLabels 20 = .ok (.iconst 4, 1) := by decide +kernel
theorem dX3_readLabels_21 : decode cX3_readLabels 21 = .ok (.if_icmp .ne 24, 3) := by decide +kernel
theorem dX3_readLabels_24 : decode cX3_readLabels 24 = .ok (.aload_n 0, 1) := by decide +kernel
theorem dX3_readLabels_25 : decode cX3_readLabels 25 = .ok (.iconst 1, 1) := by decide +kernel
theorem dX3_readLabels_26 : decode cX3_readLabels 26 = .ok (.aload_n 0, 1) := by decide +kernel
theorem dX3_readLabels_27 : decode cX3_readLabels 27 = .ok (.getfield 12, 3) := by decide +kernel
theorem dX3_readLabels_30 : decode cX3_readLabels 30 = .ok (.aload_n 0, 1) := by decide +kernel
theorem dX3_readLabels_31 : decode cX3_readLabels 31 = .ok (.getfield 41, 3) := by decide +kernel
theorem dX3_readLabels_34 : decode cX3_readLabels 34 = .ok (.invokevirtual 72, 3) := by decide +kernel
theorem dX3_readLabels_37 : decode cX3_readLabels 37 = .ok (.iload_n 1, 1) := by decide +kernel
theorem dX3_readLabels_38 : decode cX3_readLabels 38 = .ok (.invokevirtual 90, 3) := by decide +kernel
theorem dX3_readLabels_41 : decode cX3_readLabels 41 = .ok (.pop, 1) := by decide +kernel
theorem dX3_readLabels_42 : decode cX3_readLabels 42 = .ok (.goto 14, 3) := by decide +kernel
theorem dX3_readLabels_45 : decode cX3_readLabels 45 = .ok (.aload_n 0, 1) := by decide +kernel
theorem dX3_readLabels_46 : decode cX3_readLabels 46 = .ok (.iconst 0, 1) := by decide +kernel
theorem dX3_readLabels_47 : decode cX3_readLabels 47 = .ok (.aload_n 0, 1) := by decide +kernel
theorem dX3_readLabels_48 : decode cX3_readLabels 48 = .ok (.invokevirtual 94, 3) := by decide +kernel
theorem dX3_readLabels_51 : decode cX3_readLabels 51 = .ok (.iload_n 1, 1) := by decide +kernel
theorem dX3_readLabels_52 : decode cX3_readLabels 52 = .ok (.invokevirtual 90, 3) := by decide +kernel
theorem dX3_readLabels_55 : decode cX3_readLabels 55 = .ok (.pop, 1) := by decide +kernel
theorem dX3_readLabels_56 : decode cX3_readLabels 56 = .ok (.aload_n 0, 1) := by decide +kernel
theorem dX3_readLabels_57 : decode cX3_readLabels 57 = .ok (.invokevirtual 44, 3) := by decide +kernel
theorem dX3_readLabels_60 : decode cX3_readLabels 60 = .ok (.aload_n 0, 1) := by decide +kernel
theorem dX3_readLabels_61 : decode cX3_readLabels 61 = .ok (.bipush 22, 2) := by decide +kernel
theorem dX3_readLabels_63 : decode cX3_readLabels 63 = .ok (.invokevirtual 97, 3) := by decide +kernel
theorem dX3_readLabels_66 : decode cX3_readLabels 66 = .ok (.aload_n 0, 1) := by decide +kernel
theorem dX3_readLabels_67 : decode cX3_readLabels 67 = .ok (.invokevirtual 44, 3) := by decide +kernel
theorem dX3_readLabels_70 : decode cX3_readLabels 70 = .ok (.iinc 2 1, 3) := by decide +kernel
theorem dX3_readLabels_73 : decode cX3_readLabels 73 = .ok (.goto (-71), 3) := by decide +kernel
theorem dX3_readLabels_76 : decode cX3_readLabels 76 = .ok (.return_, 1) := by decide +kernel
theorem dX3_isAtLabel_0 : decode cX3_isAtLabel 0 = .ok (.aload_n 0, 1) := by decide +kernel
theorem dX3_isAtLabel_1 : decode cX3_isAtLabel 1 = .ok (.getfield 63, 3) := by decide +kernel
theorem dX3_isAtLabel_4 : decode cX3_isAtLabel 4 = .ok (.iconst 4, 1) := by decide +kernel
theorem dX3_isAtLabel_5 : decode cX3_isAtLabel 5 = .ok (.if_icmp .eq 29, 3) := by decide +kernel
theorem dX3_isAtLabel_8 : decode cX3_isAtLabel 8 = .ok (.aload_n 0, 1) := by decide +kernel
theorem dX3_isAtLabel_9 : decode cX3_isAtLabel 9 = .ok (.getfield 63, 3) := by decide +kernel
theorem dX3_isAtLabel_12 : decode cX3_isAtLabel 12 = .ok (.iconst 1, 1) := by decide +kernel
theorem dX3_isAtLabel_13 : decode cX3_isAtLabel 13 = .ok (.if_icmp .ne 25, 3) := by decide +kernel
theorem dX3_isAtLabel_16 : decode cX3_isAtLabel 16 = .ok (.aload_n 0, 1) := by decide +kernel
theorem dX3_isAtLabel_17 : decode cX3_isAtLabel 17 = .ok (.getfield 12, 3) := by decide +kernel
theorem dX3_isAtLabel_20 : decode cX3_isAtLabel 20 = .ok (.aload_n 0, 1) := by decide +kernel
theorem dX3_isAtLabel_21 : decode cX3_isAtLabel 21 = .ok (.getfield 41, 3) := by decide +kernel
theorem dX3_isAtLabel_24 : decode cX3_isAtLabel 24 = .ok (.iconst 1, 1) := by decide +kernel
theorem dX3_isAtLabel_25 : decode cX3_isAtLabel 25 = .ok (.iadd, 1) := by decide +kernel
theorem dX3_isAtLabel_26 : decode cX3_isAtLabel 26 = .ok (.invokevirtual 59, 3) := by decide +kernel
theorem dX3_isAtLabel_29 : decode cX3_isAtLabel 29 = .ok (.bipush 22, 2) := by decide +kernel
theorem dX3_isAtLabel_31 : decode cX3_isAtLabel 31 = .ok (.if_icmp .ne 7, 3) := by decide +kernel
theorem dX3_isAtLabel_34 : decode cX3_isAtLabel 34 = .ok (.iconst 1, 1) := by decide +kernel
theorem dX3_isAtLabel_35 : decode cX3_isAtLabel 35 = .ok (.goto 4, 3) := by decide +kernel
theorem dX3_isAtLabel_38 : decode cX3_isAtLabel 38 = .ok (.iconst 0, 1) := by decide +kernel
theorem dX3_isAtLabel_39 : decode cX3_isAtLabel 39 = .ok (.ireturn, 1) := by decide +kernel
theorem dX3_readWord_0 : decode cX3_readWord 0 = .ok (.aload_n 0, 1) := by decide +kernel
theorem dX3_readWord_1 : decode cX3_readWord 1 = .ok (.getfield 63, 3) := by decide +kernel
theorem dX3_readWord_4 : decode cX3_readWord 4 = .ok (.iconst 1, 1) := by decide +kernel
theorem dX3_readWord_5 : decode cX3_readWord 5 = .ok (.if_icmp .eq 11, 3) := by decide +kernel
theorem dX3_readWord_8 : decode cX3_readWord 8 = .ok (.aload_n 0, 1) := by decide +kernel
theorem dX3_readWord_9 : decode cX3_readWord 9 = .ok (.getfield 63, 3) := by decide +kernel
theorem dX3_readWord_12 : decode cX3_readWord 12 = .ok (.iconst 2, 1) := by decide +kernel
theorem dX3_readWord_13 : decode cX3_readWord 13 = .ok (.if_icmp .ne 98, 3) := by decide +kernel
theorem dX3_readWord_16 : decode cX3_readWord 16 = .ok (.aload_n 0, 1) := by decide +kernel
theorem dX3_readWord_17 : decode cX3_readWord 17 = .ok (.iconst 2, 1) := by decide +kernel
theorem dX3_readWord_18 : decode cX3_readWord 18 = .ok (.aload_n 0, 1) := by decide +kernel
theorem dX3_readWord_19 : decode cX3_readWord 19 = .ok (.invokevirtual 94, 3) := by decide +kernel
theorem dX3_readWord_22 : decode cX3_readWord 22 = .ok (.iload_n 1, 1) := by decide +kernel
theorem dX3_readWord_23 : decode cX3_readWord 23 = .ok (.invokevirtual 90, 3) := by decide +kernel
theorem dX3_readWord_26 : decode cX3_readWord 26 = .ok (.istore_n 2, 1) := by decide +kernel
theorem dX3_readWord_27 : decode cX3_readWord 27 = .ok (.aload_n 0, 1) := by decide +kernel
theorem dX3_readWord_28 : decode cX3_readWord 28 = .ok (.getfield 25, 3) := by decide +kernel
theorem dX3_readWord_31 : decode cX3_readWord 31 = .ok (.getfield 100, 3) := by decide +kernel
theorem dX3_readWord_34 : decode cX3_readWord 34 = .ok (.getfield 55, 3) := by decide +kernel
theorem dX3_readWord_37 : decode cX3_readWord 37 = .ok (.istore_n 3, 1) := by decide +kernel
theorem dX3_readWord_38 : decode cX3_readWord 38 = .ok (.aload_n 0, 1) := by decide +kernel
theorem dX3_readWord_39 : decode cX3_readWord 39 = .ok (.invokevirtual 44, 3) := by decide +kernel
theorem dX3_readWord_42 : decode cX3_readWord 42 = .ok (.aload_n 0, 1) := by decide +kernel
theorem dX3_readWord_43 : decode cX3_readWord 43 = .ok (.getfield 63, 3) := by decide +kernel
theorem dX3_readWord_46 : decode cX3_readWord 46 = .ok (.ifCond .eq 7, 3) := by decide +kernel
theorem dX3_readWord_49 : decode cX3_readWord 49 = .ok (.aload_n 0, 1) := by decide +kernel
theorem dX3_readWord_50 : decode cX3_readWord 50 = .ok (.invokevirtual 103, 3) := by decide +kernel
theorem dX3_readWord_53 : decode cX3_readWord 53 = .ok (.iconst 0, 1) := by decide +kernel
theorem dX3_readWord_54 : decode cX3_readWord 54 = .ok (.istore 4, 2) := by decide +kernel
theorem dX3_readWord_56 : decode cX3_readWord 56 = .ok (.iload 4, 2) := by decide +kernel
theorem dX3_readWord_58 : decode cX3_readWord 58 = .ok (.sipush 800, 3) := by decide +kernel
theorem dX3_readWord_61 : decode cX3_readWord 61 = .ok (.if_icmp .gt 26, 3) := by decide +kernel
theorem dX3_readWord_64 : decode cX3_readWord 64 = .ok (.aload_n 0, 1) := by decide +kernel
theorem dX3_readWord_65 : decode cX3_readWord 65 = .ok (.getfield 63, 3) := by decide +kernel
theorem dX3_readWord_68 : decode cX3_readWord 68 = .ok (.bipush 8, 2) := by decide +kernel
theorem dX3_readWord_70 : decode cX3_readWord 70 = .ok (.if_icmp .ne 17, 3) := by decide +kernel
theorem dX3_readWord_73 : decode cX3_readWord 73 = .ok (.aload_n 0, 1) := by decide +kernel
theorem dX3_readWord_74 : decode cX3_readWord 74 = .ok (.invokevirtual 44, 3) := by decide +kernel
theorem dX3_readWord_77 : decode cX3_readWord 77 = .ok (.aload_n 0, 1) := by decide +kernel
theorem dX3_readWord_78 : decode cX3_readWord 78 = .ok (.invokevirtual 103, 3) := by decide +kernel
theorem dX3_readWord_81 : decode cX3_readWord 81 = .ok (.iinc 4 1, 3) := by decide +kernel
theorem dX3_readWord_84 : decode cX3_readWord 84 = .ok (.goto (-28), 3) := by decide +kernel
theorem dX3_readWord_87 : decode cX3_readWord 87 = .ok (.aload_n 0, 1) := by decide +kernel
theorem dX3_readWord_88 : decode cX3_readWord 88 = .ok (.getfield 25, 3) := by decide +kernel
theorem dX3_readWord_91 : decode cX3_readWord 91 = .ok (.getfield 51, 3) := by decide +kernel
theorem dX3_readWord_94 : decode cX3_readWord 94 = .ok (.iload_n 2, 1) := by decide +kernel
theorem dX3_readWord_95 : decode cX3_readWord 95 = .ok (.iconst 3, 1) := by decide +kernel
theorem dX3_readWord_96 : decode cX3_readWord 96 = .ok (.aload_n 0, 1) := by decide +kernel
theorem dX3_readWord_97 : decode cX3_readWord 97 = .ok (.getfield 25, 3) := by decide +kernel
theorem dX3_readWord_100 : decode cX3_readWord 100 = .ok (.getfield 100, 3) := by decide +kernel
theorem dX3_readWord_103 : decode cX3_readWord 103 = .ok (.getfield 55, 3) := by decide +kernel
theorem dX3_readWord_106 : decode cX3_readWord 106 = .ok (.iload_n 3, 1) := by decide +kernel
theorem dX3_readWord_107 : decode cX3_readWord 107 = .ok (.isub, 1) := by decide +kernel
theorem dX3_readWord_108 : decode cX3_readWord 108 = .ok (.invokevirtual 106, 3) := by decide +kernel
theorem dX3_readWord_111 : decode cX3_readWord 111 = .ok (.aload_n 0, 1) := by decide +kernel
theorem dX3_readWord_112 : decode cX3_readWord 112 = .ok (.iconst 0, 1) := by decide +kernel
theorem dX3_readWord_113 : decode cX3_readWord 113 = .ok (.invokevirtual 97, 3) := by decide +kernel
theorem dX3_readWord_116 : decode cX3_readWord 116 = .ok (.aload_n 0, 1) := by decide +kernel
theorem dX3_readWord_117 : decode cX3_readWord 117 = .ok (.invokevirtual 44, 3) := by decide +kernel
theorem dX3_readWord_120 : decode cX3_readWord 120 = .ok (.return_, 1) := by decide +kernel
theorem dX3_addStatement_0 : decode cX3_addStatement 0 = .ok (.aload_n 0, 1) := by decide +kernel
theorem dX3_addStatement_1 : decode cX3_addStatement 1 = .ok (.getfield 25, 3) := by decide +kernel
theorem dX3_addStatement_4 : decode cX3_addStatement 4 = .ok (.getfield 51, 3) := by decide +kernel
theorem dX3_addStatement_7 : decode cX3_addStatement 7 = .ok (.invokevirtual 110, 3) := by decide +kernel
theorem dX3_addStatement_10 : decode cX3_addStatement 10 = .ok (.ifCond .eq 9, 3) := by decide +kernel
theorem dX3_addStatement_13 : decode cX3_addStatement 13 = .ok (.aload_n 0, 1) := by decide +kernel
theorem dX3_addStatement_14 : decode cX3_addStatement 14 = .ok (.bipush 8, 2) := by decide +kernel
theorem dX3_addStatement_16 : decode cX3_addStatement 16 = .ok (.invokevirtual 75, 3) := by decide +kernel
theorem dX3_addStatement_19 : decode cX3_addStatement 19 = .ok (.aload_n 0, 1) := by decide +kernel
theorem dX3_addStatement_20 : decode cX3_addStatement 20 = .ok (.getfield 25, 3) := by decide +kernel
theorem dX3_addStatement_23 : decode cX3_addStatement 23 = .ok (.getfield 51, 3) := by decide +kernel
theorem dX3_addStatement_26 : decode cX3_addStatement 26 = .ok (.invokevirtual 113, 3) := by decide +kernel
theorem dX3_addStatement_29 : decode cX3_addStatement 29 = .ok (.istore 4, 2) := by decide +kernel
theorem dX3_addStatement_31 : decode cX3_addStatement 31 = .ok (.aload_n 0, 1) := by decide +kernel
theorem dX3_addStatement_32 : decode cX3_addStatement 32 = .ok (.getfield 25, 3) := by decide +kernel
theorem dX3_addStatement_35 : decode cX3_addStatement 35 = .ok (.getfield 51, 3) := by decide +kernel
theorem dX3_addStatement_38 : decode cX3_addStatement 38 = .ok (.iload 4, 2) := by decide +kernel
theorem dX3_addStatement_40 : decode cX3_addStatement 40 = .ok (.iconst 0, 1) := by decide +kernel
theorem dX3_addStatement_41 : decode cX3_addStatement 41 = .ok (.iload_n 1, 1) := by decide +kernel
theorem dX3_addStatement_42 : decode cX3_addStatement 42 = .ok (.invokevirtual 106, 3) := by decide +kernel
theorem dX3_addStatement_45 : decode cX3_addStatement 45 = .ok (.aload_n 0, 1) := by decide +kernel
theorem dX3_addStatement_46 : decode cX3_addStatement 46 = .ok (.getfield 25, 3) := by decide +kernel
theorem dX3_addStatement_49 : decode cX3_addStatement 49 = .ok (.getfield 51, 3) := by decide +kernel
theorem dX3_addStatement_52 : decode cX3_addStatement 52 = .ok (.iload 4, 2) := by decide +kernel
theorem dX3_addStatement_54 : decode cX3_addStatement 54 = .ok (.iconst 1, 1) := by decide +kernel
theorem dX3_addStatement_55 : decode cX3_addStatement 55 = .ok (.iload_n 2, 1) := by decide +kernel
theorem dX3_addStatement_56 : decode cX3_addStatement 56 = .ok (.invokevirtual 106, 3) := by decide +kernel
theorem dX3_addStatement_59 : decode cX3_addStatement 59 = .ok (.aload_n 0, 1) := by decide +kernel
theorem dX3_addStatement_60 : decode cX3_addStatement 60 = .ok (.getfield 25, 3) := by decide +kernel
theorem dX3_addStatement_63 : decode cX3_addStatement 63 = .ok (.getfield 51, 3) := by decide +kernel
theorem dX3_addStatement_66 : decode cX3_addStatement 66 = .ok (.iload 4, 2) := by decide +kernel
theorem dX3_addStatement_68 : decode cX3_addStatement 68 = .ok (.iconst 2, 1) := by decide +kernel
theorem dX3_addStatement_69 : decode cX3_addStatement 69 = .ok (.aload_n 0, 1) := by decide +kernel
theorem dX3_addStatement_70 : decode cX3_addStatement 70 = .ok (.getfield 25, 3) := by decide +kernel
theorem dX3_addStatement_73 : decode cX3_addStatement 73 = .ok (.getfield 100, 3) := by decide +kernel
theorem dX3_addStatement_76 : decode cX3_addStatement 76 = .ok (.getfield 55, 3) := by decide +kernel
theorem dX3_addStatement_79 : decode cX3_addStatement 79 = .ok (.invokevirtual 106, 3) := by decide +kernel
theorem dX3_addStatement_82 : decode cX3_addStatement 82 = .ok (.aload_n 0, 1) := by decide +kernel
theorem dX3_addStatement_83 : decode cX3_addStatement 83 = .ok (.getfield 25, 3) := by decide +kernel
theorem dX3_addStatement_86 : decode cX3_addStatement 86 = .ok (.getfield 51, 3) := by decide +kernel
theorem dX3_addStatement_89 : decode cX3_addStatement 89 = .ok (.iload 4, 2) := by decide +kernel
theorem dX3_addStatement_91 : decode cX3_addStatement 91 = .ok (.iconst 4, 1) := by decide +kernel
theorem dX3_addStatement_92 : decode cX3_addStatement 92 = .ok (.aload_n 0, 1) := by decide +kernel
theorem dX3_addStatement_93 : decode cX3_addStatement 93 = .ok (.getfield 69, 3) := by decide +kernel
theorem dX3_addStatement_96 : decode cX3_addStatement 96 = .ok (.invokevirtual 106, 3) := by decide +kernel
theorem dX3_addStatement_99 : decode cX3_addStatement 99 = .ok (.aload_n 0, 1) := by decide +kernel
theorem dX3_addStatement_100 : decode cX3_addStatement 100 = .ok (.getfield 25, 3) := by decide +kernel
theorem dX3_addStatement_103 : decode cX3_addStatement 103 = .ok (.getfield 51, 3) := by decide +kernel
theorem dX3_addStatement_106 : decode cX3_addStatement 106 = .ok (.iload 4, 2) := by decide +kernel
theorem dX3_addStatement_108 : decode cX3_addStatement 108 = .ok (.iconst 5, 1) := by decide +kernel
theorem dX3_addStatement_109 : decode cX3_addStatement 109 = .ok (.iload_n 3, 1) := by decide +kernel
theorem dX3_addStatement_110 : decode cX3_addStatement 110 = .ok (.invokevirtual 106, 3) := by decide +kernel
theorem dX3_addStatement_113 : decode cX3_addStatement 113 = .ok (.iload 4, 2) := by decide +kernel
theorem dX3_addStatement_115 : decode cX3_addStatement 115 = .ok (.ireturn, 1) := by decide +kernel
theorem dX3_nameNumber_0 : decode cX3_nameNumber 0 = .ok (.aload_n 0, 1) := by decide +kernel
theorem dX3_nameNumber_1 : decode cX3_nameNumber 1 = .ok (.getfield 12, 3) := by decide +kernel
theorem dX3_nameNumber_4 : decode cX3_nameNumber 4 = .ok (.aload_n 0, 1) := by decide +kernel
theorem dX3_nameNumber_5 : decode cX3_nameNumber 5 = .ok (.getfield 41, 3) := by decide +kernel
theorem dX3_nameNumber_8 : decode cX3_nameNumber 8 = .ok (.invokevirtual 72, 3) := by decide +kernel
theorem dX3_nameNumber_11 : decode cX3_nameNumber 11 = .ok (.istore_n 1, 1) := by decide +kernel
theorem dX3_nameNumber_12 : decode cX3_nameNumber 12 = .ok (.aload_n 0, 1) := by decide +kernel
theorem dX3_nameNumber_13 : decode cX3_nameNumber 13 = .ok (.getfield 25, 3) := by decide +kernel
theorem dX3_nameNumber_16 : decode cX3_nameNumber 16 = .ok (.aload_n 0, 1) := by decide +kernel
theorem dX3_nameNumber_17 : decode cX3_nameNumber 17 = .ok (.getfield 12, 3) := by decide +kernel
theorem dX3_nameNumber_20 : decode cX3_nameNumber 20 = .ok (.getfield 116, 3) := by decide +kernel
theorem dX3_nameNumber_23 : decode cX3_nameNumber 23 = .ok (.aload_n 0, 1) := by decide +kernel
theorem dX3_nameNumber_24 : decode cX3_nameNumber 24 = .ok (.getfield 69, 3) := by decide +kernel
theorem dX3_nameNumber_27 : decode cX3_nameNumber 27 = .ok (.iload_n 1, 1) := by decide +kernel
theorem dX3_nameNumber_28 : decode cX3_nameNumber 28 = .ok (.invokevirtual 120, 3) := by decide +kernel
theorem dX3_nameNumber_31 : decode cX3_nameNumber 31 = .ok (.istore_n 2, 1) := by decide +kernel
theorem dX3_nameNumber_32 : decode cX3_nameNumber 32 = .ok (.iload_n 2, 1) := by decide +kernel
theorem dX3_nameNumber_33 : decode cX3_nameNumber 33 = .ok (.iconst (-1), 1) := by decide +kernel
theorem dX3_nameNumber_34 : decode cX3_nameNumber 34 = .ok (.if_icmp .eq 5, 3) := by decide +kernel
theorem dX3_nameNumber_37 : decode cX3_nameNumber 37 = .ok (.iload_n 2, 1) := by decide +kernel
theorem dX3_nameNumber_38 : decode cX3_nameNumber 38 = .ok (.ireturn, 1) := by decide +kernel
theorem dX3_nameNumber_39 : decode cX3_nameNumber 39 = .ok (.aload_n 0, 1) := by decide +kernel
theorem dX3_nameNumber_40 : decode cX3_nameNumber 40 = .ok (.getfield 25, 3) := by decide +kernel
theorem dX3_nameNumber_43 : decode cX3_nameNumber 43 = .ok (.getfield 124, 3) := by decide +kernel
theorem dX3_nameNumber_46 : decode cX3_nameNumber 46 = .ok (.invokevirtual 110, 3) := by decide +kernel
theorem dX3_nameNumber_49 : decode cX3_nameNumber 49 = .ok (.ifCond .eq 9, 3) := by decide +kernel
theorem dX3_nameNumber_52 : decode cX3_nameNumber 52 = .ok (.aload_n 0, 1) := by decide +kernel
theorem dX3_nameNumber_53 : decode cX3_nameNumber 53 = .ok (.bipush 8, 2) := by decide +kernel
theorem dX3_nameNumber_55 : decode cX3_nameNumber 55 = .ok (.invokevirtual 75, 3) := by decide +kernel
theorem dX3_nameNumber_58 : decode cX3_nameNumber 58 = .ok (.aload_n 0, 1) := by decide +kernel
theorem dX3_nameNumber_59 : decode cX3_nameNumber 59 = .ok (.getfield 25, 3) := by decide +kernel
theorem dX3_nameNumber_62 : decode cX3_nameNumber 62 = .ok (.aload_n 0, 1) := by decide +kernel
theorem dX3_nameNumber_63 : decode cX3_nameNumber 63 = .ok (.getfield 12, 3) := by decide +kernel
theorem dX3_nameNumber_66 : decode cX3_nameNumber 66 = .ok (.getfield 116, 3) := by decide +kernel
theorem dX3_nameNumber_69 : decode cX3_nameNumber 69 = .ok (.aload_n 0, 1) := by decide +kernel
theorem dX3_nameNumber_70 : decode cX3_nameNumber 70 = .ok (.getfield 69, 3) := by decide +kernel
theorem dX3_nameNumber_73 : decode cX3_nameNumber 73 = .ok (.iload_n 1, 1) := by decide +kernel
theorem dX3_nameNumber_74 : decode cX3_nameNumber 74 = .ok (.invokevirtual 127, 3) := by decide +kernel
theorem dX3_nameNumber_77 : decode cX3_nameNumber 77 = .ok (.ireturn, 1) := by decide +kernel
theorem dX3_readOperand_0 : decode cX3_readOperand 0 = .ok (.aload_n 0, 1) := by decide +kernel
theorem dX3_readOperand_1 : decode cX3_readOperand 1 = .ok (.getfield 63, 3) := by decide +kernel
theorem dX3_readOperand_4 : decode cX3_readOperand 4 = .ok (.bipush 16, 2) := by decide +kernel
theorem dX3_readOperand_6 : decode cX3_readOperand 6 = .ok (.if_icmp .ne 7, 3) := by decide +kernel
theorem dX3_readOperand_9 : decode cX3_readOperand 9 = .ok (.iconst 1, 1) := by decide +kernel
theorem dX3_readOperand_10 : decode cX3_readOperand 10 = .ok (.goto 4, 3) := by decide +kernel
theorem dX3_readOperand_13 : decode cX3_readOperand 13 = .ok (.iconst 0, 1) := by decide +kernel
theorem dX3_readOperand_14 : decode cX3_readOperand 14 = .ok (.istore_n 1, 1) := by decide +kernel
theorem dX3_readOperand_15 : decode cX3_readOperand 15 = .ok (.aload_n 0, 1) := by decide +kernel
theorem dX3_readOperand_16 : decode cX3_readOperand 16 = .ok (.getfield 63, 3) := by decide +kernel
theorem dX3_readOperand_19 : decode cX3_readOperand 19 = .ok (.iconst 2, 1) := by decide +kernel
theorem dX3_readOperand_20 : decode cX3_readOperand 20 = .ok (.if_icmp .ne 15, 3) := by decide +kernel
theorem dX3_readOperand_23 : decode cX3_readOperand 23 = .ok (.aload_n 0, 1) := by decide +kernel
theorem dX3_readOperand_24 : decode cX3_readOperand 24 = .ok (.iconst 1, 1) := by decide +kernel
theorem dX3_readOperand_25 : decode cX3_readOperand 25 = .ok (.invokevirtual 132, 3) := by decide +kernel
theorem dX3_readOperand_28 : decode cX3_readOperand 28 = .ok (.aload_n 0, 1) := by decide +kernel
theorem dX3_readOperand_29 : decode cX3_readOperand 29 = .ok (.invokevirtual 135, 3) := by decide +kernel
theorem dX3_readOperand_32 : decode cX3_readOperand 32 = .ok (.goto 159, 3) := by decide +kernel
theorem dX3_readOperand_35 : decode cX3_readOperand 35 = .ok (.aload_n 0, 1) := by decide +kernel
theorem dX3_readOperand_36 : decode cX3_readOperand 36 = .ok (.getfield 63, 3) := by decide +kernel
theorem dX3_readOperand_39 : decode cX3_readOperand 39 = .ok (.bipush 7, 2) := by decide +kernel
theorem dX3_readOperand_41 : decode cX3_readOperand 41 = .ok (.if_icmp .ne 15, 3) := by decide +kernel
theorem dX3_readOperand_44 : decode cX3_readOperand 44 = .ok (.aload_n 0, 1) := by decide +kernel
theorem dX3_readOperand_45 : decode cX3_readOperand 45 = .ok (.iconst 3, 1) := by decide +kernel
theorem dX3_readOperand_46 : decode cX3_readOperand 46 = .ok (.invokevirtual 132, 3) := by decide +kernel
theorem dX3_readOperand_49 : decode cX3_readOperand 49 = .ok (.aload_n 0, 1) := by decide +kernel
theorem dX3_readOperand_50 : decode cX3_readOperand 50 = .ok (.invokevirtual 138, 3) := by decide +kernel
theorem dX3_readOperand_53 : decode cX3_readOperand 53 = .ok (.goto 138, 3) := by decide +kernel
theorem dX3_readOperand_56 : decode cX3_readOperand 56 = .ok (.aload_n 0, 1) := by decide +kernel
theorem dX3_readOperand_57 : decode cX3_readOperand 57 = .ok (.getfield 63, 3) := by decide +kernel
theorem dX3_readOperand_60 : decode cX3_readOperand 60 = .ok (.bipush 9, 2) := by decide +kernel
theorem dX3_readOperand_62 : decode cX3_readOperand 62 = .ok (.if_icmp .ne 45, 3) := by decide +kernel
theorem dX3_readOperand_65 : decode cX3_readOperand 65 = .ok (.aload_n 0, 1) := by decide +kernel
theorem dX3_readOperand_66 : decode cX3_readOperand 66 = .ok (.getfield 12, 3) := by decide +kernel
theorem dX3_readOperand_69 : decode cX3_readOperand 69 = .ok (.aload_n 0, 1) := by decide +kernel
theorem dX3_readOperand_70 : decode cX3_readOperand 70 = .ok (.getfield 41, 3) := by decide +kernel
theorem dX3_readOperand_73 : decode cX3_readOperand 73 = .ok (.iconst 1, 1) := by decide +kernel
theorem dX3_readOperand_74 : decode cX3_readOperand 74 = .ok (.iadd, 1) := by decide +kernel
theorem dX3_readOperand_75 : decode cX3_readOperand 75 = .ok (.invokevirtual 59, 3) := by decide +kernel
theorem dX3_readOperand_78 : decode cX3_readOperand 78 = .ok (.iconst 2, 1) := by decide +kernel
theorem dX3_readOperand_79 : decode cX3_readOperand 79 = .ok (.if_icmp .ne 28, 3) := by decide +kernel
theorem dX3_readOperand_82 : decode cX3_readOperand 82 = .ok (.aload_n 0, 1) := by decide +kernel
theorem dX3_readOperand_83 : decode cX3_readOperand 83 = .ok (.iconst 2, 1) := by decide +kernel
theorem dX3_readOperand_84 : decode cX3_readOperand 84 = .ok (.invokevirtual 132, 3) := by decide +kernel
theorem dX3_readOperand_87 : decode cX3_readOperand 87 = .ok (.aload_n 0, 1) := by decide +kernel
theorem dX3_readOperand_88 : decode cX3_readOperand 88 = .ok (.invokevirtual 141, 3) := by decide +kernel
theorem dX3_readOperand_91 : decode cX3_readOperand 91 = .ok (.aload_n 0, 1) := by decide +kernel
theorem dX3_readOperand_92 : decode cX3_readOperand 92 = .ok (.getfield 25, 3) := by decide +kernel
theorem dX3_readOperand_95 : decode cX3_readOperand 95 = .ok (.iconst 0, 1) := by decide +kernel
theorem dX3_readOperand_96 : decode cX3_readOperand 96 = .ok (.iconst 0, 1) := by decide +kernel
theorem dX3_readOperand_97 : decode cX3_readOperand 97 = .ok (.invokevirtual 144, 3) := by decide +kernel
theorem dX3_readOperand_100 : decode cX3_readOperand 100 = .ok (.aload_n 0, 1) := by decide +kernel
theorem dX3_readOperand_101 : decode cX3_readOperand 101 = .ok (.invokevirtual 148, 3) := by decide +kernel
theorem dX3_readOperand_104 : decode cX3_readOperand 104 = .ok (.goto 87, 3) := by decide +kernel
theorem dX3_readOperand_107 : decode cX3_readOperand 107 = .ok (.iload_n 1, 1) := by decide +kernel
theorem dX3_readOperand_108 : decode cX3_readOperand 108 = .ok (.ifCond .ne 13, 3) := by decide +kernel
theorem dX3_readOperand_111 : decode cX3_readOperand 111 = .ok (.aload_n 0, 1) := by decide +kernel
theorem dX3_readOperand_112 : decode cX3_readOperand 112 = .ok (.getfield 63, 3) := by decide +kernel
theorem dX3_readOperand_115 : decode cX3_readOperand 115 = .ok (.invokestatic 151, 3) := by decide +kernel
theorem dX3_readOperand_118 : decode cX3_readOperand 118 = .ok (.ifCond .eq 68, 3) := by decide +kernel
theorem dX3_readOperand_121 : decode cX3_readOperand 121 = .ok (.aload_n 0, 1) := by decide +kernel
theorem dX3_readOperand_122 : decode cX3_readOperand 122 = .ok (.iconst 0, 1) := by decide +kernel
theorem dX3_readOperand_123 : decode cX3_readOperand 123 = .ok (.invokevirtual 132, 3) := by decide +kernel
theorem dX3_readOperand_126 : decode cX3_readOperand 126 = .ok (.iload_n 1, 1) := by decide +kernel
theorem dX3_readOperand_127 : decode cX3_readOperand 127 = .ok (.ifCond .eq 7, 3) := by decide +kernel
theorem dX3_readOperand_130 : decode cX3_readOperand 130 = .ok (.aload_n 0, 1) := by decide +kernel
theorem dX3_readOperand_131 : decode cX3_readOperand 131 = .ok (.invokevirtual 155, 3) := by decide +kernel
theorem dX3_readOperand_134 : decode cX3_readOperand 134 = .ok (.aload_n 0, 1) := by decide +kernel
theorem dX3_readOperand_135 : decode cX3_readOperand 135 = .ok (.iconst 1, 1) := by decide +kernel
theorem dX3_readOperand_136 : decode cX3_readOperand 136 = .ok (.iconst 1, 1) := by decide +kernel
theorem dX3_readOperand_137 : decode cX3_readOperand 137 = .ok (.invokevirtual 158, 3) := by decide +kernel
theorem dX3_readOperand_140 : decode cX3_readOperand 140 = .ok (.iload_n 1, 1) := by decide +kernel
theorem dX3_readOperand_141 : decode cX3_readOperand 141 = .ok (.ifCond .eq 13, 3) := by decide +kernel
theorem dX3_readOperand_144 : decode cX3_readOperand 144 = .ok (.aload_n 0, 1) := by decide +kernel
theorem dX3_readOperand_145 : decode cX3_readOperand 145 = .ok (.bipush 10, 2) := by decide +kernel
theorem dX3_readOperand_147 : decode cX3_readOperand 147 = .ok (.invokevirtual 97, 3) := by decide +kernel
theorem dX3_readOperand_150 : decode cX3_readOperand 150 = .ok (.aload_n 0, 1) := by decide +kernel
theorem dX3_readOperand_151 : decode cX3_readOperand 151 = .ok (.invokevirtual 44, 3) := by decide +kernel
theorem dX3_readOperand_154 : decode cX3_readOperand 154 = .ok (.aload_n 0, 1) := by decide +kernel
theorem dX3_readOperand_155 : decode cX3_readOperand 155 = .ok (.getfield 63, 3) := by decide +kernel
theorem dX3_readOperand_158 : decode cX3_readOperand 158 = .ok (.bipush 9, 2) := by decide +kernel
theorem dX3_readOperand_160 : decode cX3_readOperand 160 = .ok (.if_icmp .ne 31, 3) := by decide +kernel
theorem dX3_readOperand_163 : decode cX3_readOperand 163 = .ok (.aload_n 0, 1) := by decide +kernel
theorem dX3_readOperand_164 : decode cX3_readOperand 164 = .ok (.getfield 25, 3) := by decide +kernel
theorem dX3_readOperand_167 : decode cX3_readOperand 167 = .ok (.getfield 100, 3) := by decide +kernel
theorem dX3_readOperand_170 : decode cX3_readOperand 170 = .ok (.aload_n 0, 1) := by decide +kernel
theorem dX3_readOperand_171 : decode cX3_readOperand 171 = .ok (.getfield 161, 3) := by decide +kernel
theorem dX3_readOperand_174 : decode cX3_readOperand 174 = .ok (.iconst 0, 1) := by decide +kernel
theorem dX3_readOperand_175 : decode cX3_readOperand 175 = .ok (.iconst 2, 1) := by decide +kernel
theorem dX3_readOperand_176 : decode cX3_readOperand 176 = .ok (.invokevirtual 106, 3) := by decide +kernel
theorem dX3_readOperand_179 : decode cX3_readOperand 179 = .ok (.aload_n 0, 1) := by decide +kernel
theorem dX3_readOperand_180 : decode cX3_readOperand 180 = .ok (.invokevirtual 148, 3) := by decide +kernel
theorem dX3_readOperand_183 : decode cX3_readOperand 183 = .ok (.goto 8, 3) := by decide +kernel
theorem dX3_readOperand_186 : decode cX3_readOperand 186 = .ok (.aload_n 0, 1) := by decide +kernel
theorem dX3_readOperand_187 : decode cX3_readOperand 187 = .ok (.iconst 5, 1) := by decide +kernel
theorem dX3_readOperand_188 : decode cX3_readOperand 188 = .ok (.invokevirtual 75, 3) := by decide +kernel
theorem dX3_readOperand_191 : decode cX3_readOperand 191 = .ok (.aload_n 0, 1) := by decide +kernel
theorem dX3_readOperand_192 : decode cX3_readOperand 192 = .ok (.getfield 25, 3) := by decide +kernel
theorem dX3_readOperand_195 : decode cX3_readOperand 195 = .ok (.getfield 100, 3) := by decide +kernel
theorem dX3_readOperand_198 : decode cX3_readOperand 198 = .ok (.aload_n 0, 1) := by decide +kernel
theorem dX3_readOperand_199 : decode cX3_readOperand 199 = .ok (.getfield 161, 3) := by decide +kernel
theorem dX3_readOperand_202 : decode cX3_readOperand 202 = .ok (.iconst 4, 1) := by decide +kernel
theorem dX3_readOperand_203 : decode cX3_readOperand 203 = .ok (.aload_n 0, 1) := by decide +kernel
theorem dX3_readOperand_204 : decode cX3_readOperand 204 = .ok (.getfield 25, 3) := by decide +kernel
theorem dX3_readOperand_207 : decode cX3_readOperand 207 = .ok (.getfield 164, 3) := by decide +kernel
theorem dX3_readOperand_210 : decode cX3_readOperand 210 = .ok (.getfield 55, 3) := by decide +kernel
theorem dX3_readOperand_213 : decode cX3_readOperand 213 = .ok (.aload_n 0, 1) := by decide +kernel
theorem dX3_readOperand_214 : decode cX3_readOperand 214 = .ok (.getfield 167, 3) := by decide +kernel
theorem dX3_readOperand_217 : decode cX3_readOperand 217 = .ok (.isub, 1) := by decide +kernel
theorem dX3_readOperand_218 : decode cX3_readOperand 218 = .ok (.invokevirtual 106, 3) := by decide +kernel
theorem dX3_readOperand_221 : decode cX3_readOperand 221 = .ok (.return_, 1) := by decide +kernel
theorem dX3_addOperand_0 : decode cX3_addOperand 0 = .ok (.aload_n 0, 1) := by decide +kernel
theorem dX3_addOperand_1 : decode cX3_addOperand 1 = .ok (.getfield 25, 3) := by decide +kernel
theorem dX3_addOperand_4 : decode cX3_addOperand 4 = .ok (.getfield 100, 3) := by decide +kernel
theorem dX3_addOperand_7 : decode cX3_addOperand 7 = .ok (.invokevirtual 110, 3) := by decide +kernel
theorem dX3_addOperand_10 : decode cX3_addOperand 10 = .ok (.ifCond .eq 9, 3) := by decide +kernel
theorem dX3_addOperand_13 : decode cX3_addOperand 13 = .ok (.aload_n 0, 1) := by decide +kernel
theorem dX3_addOperand_14 : decode cX3_addOperand 14 = .ok (.bipush 8, 2) := by decide +kernel
theorem dX3_addOperand_16 : decode cX3_addOperand 16 = .ok (.invokevirtual 75, 3) := by decide +kernel
theorem dX3_addOperand_19 : decode cX3_addOperand 19 = .ok (.aload_n 0, 1) := by decide +kernel
theorem dX3_addOperand_20 : decode cX3_addOperand 20 = .ok (.aload_n 0, 1) := by decide +kernel
theorem dX3_addOperand_21 : decode cX3_addOperand 21 = .ok (.getfield 25, 3) := by decide +kernel
theorem dX3_addOperand_24 : decode cX3_addOperand 24 = .ok (.getfield 164, 3) := by decide +kernel
theorem dX3_addOperand_27 : decode cX3_addOperand 27 = .ok (.getfield 55, 3) := by decide +kernel
theorem dX3_addOperand_30 : decode cX3_addOperand 30 = .ok (.putfield 167, 3) := by decide +kernel
theorem dX3_addOperand_33 : decode cX3_addOperand 33 = .ok (.aload_n 0, 1) := by decide +kernel
theorem dX3_addOperand_34 : decode cX3_addOperand 34 = .ok (.iconst 0, 1) := by decide +kernel
theorem dX3_addOperand_35 : decode cX3_addOperand 35 = .ok (.putfield 170, 3) := by decide +kernel
theorem dX3_addOperand_38 : decode cX3_addOperand 38 = .ok (.aload_n 0, 1) := by decide +kernel
theorem dX3_addOperand_39 : decode cX3_addOperand 39 = .ok (.aload_n 0, 1) := by decide +kernel
theorem dX3_addOperand_40 : decode cX3_addOperand 40 = .ok (.getfield 25, 3) := by decide +kernel
theorem dX3_addOperand_43 : decode cX3_addOperand 43 = .ok (.getfield 100, 3) := by decide +kernel
theorem dX3_addOperand_46 : decode cX3_addOperand 46 = .ok (.invokevirtual 113, 3) := by decide +kernel
theorem dX3_addOperand_49 : decode cX3_addOperand 49 = .ok (.putfield 161, 3) := by decide +kernel
theorem dX3_addOperand_52 : decode cX3_addOperand 52 = .ok (.aload_n 0, 1) := by decide +kernel
theorem dX3_addOperand_53 : decode cX3_addOperand 53 = .ok (.getfield 25, 3) := by decide +kernel
theorem dX3_addOperand_56 : decode cX3_addOperand 56 = .ok (.getfield 100, 3) := by decide +kernel
theorem dX3_addOperand_59 : decode cX3_addOperand 59 = .ok (.aload_n 0, 1) := by decide +kernel
theorem dX3_addOperand_60 : decode cX3_addOperand 60 = .ok (.getfield 161, 3) := by decide +kernel
theorem dX3_addOperand_63 : decode cX3_addOperand 63 = .ok (.iconst 0, 1) := by decide +kernel
theorem dX3_addOperand_64 : decode cX3_addOperand 64 = .ok (.iload_n 1, 1) := by decide +kernel
theorem dX3_addOperand_65 : decode cX3_addOperand 65 = .ok (.invokevirtual 106, 3) := by decide +kernel
theorem dX3_addOperand_68 : decode cX3_addOperand 68 = .ok (.aload_n 0, 1) := by decide +kernel
theorem dX3_addOperand_69 : decode cX3_addOperand 69 = .ok (.getfield 25, 3) := by decide +kernel
theorem dX3_addOperand_72 : decode cX3_addOperand 72 = .ok (.getfield 100, 3) := by decide +kernel
theorem dX3_addOperand_75 : decode cX3_addOperand 75 = .ok (.aload_n 0, 1) := by decide +kernel
theorem dX3_addOperand_76 : decode cX3_addOperand 76 = .ok (.getfield 161, 3) := by decide +kernel
theorem dX3_addOperand_79 : decode cX3_addOperand 79 = .ok (.iconst 1, 1) := by decide +kernel
theorem dX3_addOperand_80 : decode cX3_addOperand 80 = .ok (.iconst (-1), 1) := by decide +kernel
theorem dX3_addOperand_81 : decode cX3_addOperand 81 = .ok (.invokevirtual 106, 3) := by decide +kernel
theorem dX3_addOperand_84 : decode cX3_addOperand 84 = .ok (.aload_n 0, 1) := by decide +kernel
theorem dX3_addOperand_85 : decode cX3_addOperand 85 = .ok (.getfield 25, 3) := by decide +kernel
theorem dX3_addOperand_88 : decode cX3_addOperand 88 = .ok (.getfield 100, 3) := by decide +kernel
theorem dX3_addOperand_91 : decode cX3_addOperand 91 = .ok (.aload_n 0, 1) := by decide +kernel
theorem dX3_addOperand_92 : decode cX3_addOperand 92 = .ok (.getfield 161, 3) := by decide +kernel
theorem dX3_addOperand_95 : decode cX3_addOperand 95 = .ok (.iconst 3, 1) := by decide +kernel
theorem dX3_addOperand_96 : decode cX3_addOperand 96 = .ok (.aload_n 0, 1) := by decide +kernel
theorem dX3_addOperand_97 : decode cX3_addOperand 97 = .ok (.getfield 167, 3) := by decide +kernel
theorem dX3_addOperand_100 : decode cX3_addOperand 100 = .ok (.invokevirtual 106, 3) := by decide +kernel
theorem dX3_addOperand_103 : decode cX3_addOperand 103 = .ok (.aload_n 0, 1) := by decide +kernel
theorem dX3_addOperand_104 : decode cX3_addOperand 104 = .ok (.getfield 25, 3) := by decide +kernel
theorem dX3_addOperand_107 : decode cX3_addOperand 107 = .ok (.getfield 100, 3) := by decide +kernel
theorem dX3_addOperand_110 : decode cX3_addOperand 110 = .ok (.aload_n 0, 1) := by decide +kernel
theorem dX3_addOperand_111 : decode cX3_addOperand 111 = .ok (.getfield 161, 3) := by decide +kernel
theorem dX3_addOperand_114 : decode cX3_addOperand 114 = .ok (.iconst 5, 1) := by decide +kernel
theorem dX3_addOperand_115 : decode cX3_addOperand 115 = .ok (.aload_n 0, 1) := by decide +kernel
theorem dX3_addOperand_116 : decode cX3_addOperand 116 = .ok (.getfield 69, 3) := by decide +kernel
theorem dX3_addOperand_119 : decode cX3_addOperand 119 = .ok (.invokevirtual 106, 3) := by decide +kernel
theorem dX3_addOperand_122 : decode cX3_addOperand 122 = .ok (.return_, 1) := by decide +kernel
theorem dX3_readRegister_0 : decode cX3_readRegister 0 = .ok (.aload_n 0, 1) := by decide +kernel
theorem dX3_readRegister_1 : decode cX3_readRegister 1 = .ok (.getfield 12, 3) := by decide +kernel
theorem dX3_readRegister_4 : decode cX3_readRegister 4 = .ok (.getfield 116, 3) := by decide +kernel
theorem dX3_readRegister_7 : decode cX3_readRegister 7 = .ok (.aload_n 0, 1) := by decide +kernel
theorem dX3_readRegister_8 : decode cX3_readRegister 8 = .ok (.getfield 69, 3) := by decide +kernel
theorem dX3_readRegister_11 : decode cX3_readRegister 11 = .ok (.aload_n 0, 1) := by decide +kernel
theorem dX3_readRegister_12 : decode cX3_readRegister 12 = .ok (.getfield 12, 3) := by decide +kernel
theorem dX3_readRegister_15 : decode cX3_readRegister 15 = .ok (.aload_n 0, 1) := by decide +kernel
theorem dX3_readRegister_16 : decode cX3_readRegister 16 = .ok (.getfield 41, 3) := by decide +kernel
theorem dX3_readRegister_19 : decode cX3_readRegister 19 = .ok (.invokevirtual 72, 3) := by decide +kernel
theorem dX3_readRegister_22 : decode cX3_readRegister 22 = .ok (.invokestatic 173, 3) := by decide +kernel
theorem dX3_readRegister_25 : decode cX3_readRegister 25 = .ok (.istore_n 1, 1) := by decide +kernel
theorem dX3_readRegister_26 : decode cX3_readRegister 26 = .ok (.aload_n 0, 1) := by decide +kernel
theorem dX3_readRegister_27 : decode cX3_readRegister 27 = .ok (.getfield 25, 3) := by decide +kernel
theorem dX3_readRegister_30 : decode cX3_readRegister 30 = .ok (.getfield 100, 3) := by decide +kernel
theorem dX3_readRegister_33 : decode cX3_readRegister 33 = .ok (.aload_n 0, 1) := by decide +kernel
theorem dX3_readRegister_34 : decode cX3_readRegister 34 = .ok (.getfield 161, 3) := by decide +kernel
theorem dX3_readRegister_37 : decode cX3_readRegister 37 = .ok (.iconst 1, 1) := by decide +kernel
theorem dX3_readRegister_38 : decode cX3_readRegister 38 = .ok (.iload_n 1, 1) := by decide +kernel
theorem dX3_readRegister_39 : decode cX3_readRegister 39 = .ok (.invokevirtual 106, 3) := by decide +kernel
theorem dX3_readRegister_42 : decode cX3_readRegister 42 = .ok (.aload_n 0, 1) := by decide +kernel
theorem dX3_readRegister_43 : decode cX3_readRegister 43 = .ok (.invokevirtual 44, 3) := by decide +kernel
theorem dX3_readRegister_46 : decode cX3_readRegister 46 = .ok (.return_, 1) := by decide +kernel
theorem dX3_readBase_0 : decode cX3_readBase 0 = .ok (.aload_n 0, 1) := by decide +kernel
theorem dX3_readBase_1 : decode cX3_readBase 1 = .ok (.invokevirtual 44, 3) := by decide +kernel
theorem dX3_readBase_4 : decode cX3_readBase 4 = .ok (.aload_n 0, 1) := by decide +kernel
theorem dX3_readBase_5 : decode cX3_readBase 5 = .ok (.iconst 2, 1) := by decide +kernel
theorem dX3_readBase_6 : decode cX3_readBase 6 = .ok (.invokevirtual 97, 3) := by decide +kernel
theorem dX3_readBase_9 : decode cX3_readBase 9 = .ok (.aload_n 0, 1) := by decide +kernel
theorem dX3_readBase_10 : decode cX3_readBase 10 = .ok (.invokevirtual 135, 3) := by decide +kernel
theorem dX3_readBase_13 : decode cX3_readBase 13 = .ok (.aload_n 0, 1) := by decide +kernel
theorem dX3_readBase_14 : decode cX3_readBase 14 = .ok (.bipush 10, 2) := by decide +kernel
theorem dX3_readBase_16 : decode cX3_readBase 16 = .ok (.invokevirtual 97, 3) := by decide +kernel
theorem dX3_readBase_19 : decode cX3_readBase 19 = .ok (.aload_n 0, 1) := by decide +kernel
theorem dX3_readBase_20 : decode cX3_readBase 20 = .ok (.invokevirtual 44, 3) := by decide +kernel
theorem dX3_readBase_23 : decode cX3_readBase 23 = .ok (.return_, 1) := by decide +kernel
theorem dX3_readString_0 : decode cX3_readString 0 = .ok (.aload_n 0, 1) := by decide +kernel
theorem dX3_readString_1 : decode cX3_readString 1 = .ok (.getfield 12, 3) := by decide +kernel
theorem dX3_readString_4 : decode cX3_readString 4 = .ok (.aload_n 0, 1) := by decide +kernel
theorem dX3_readString_5 : decode cX3_readString 5 = .ok (.getfield 41, 3) := by decide +kernel
theorem dX3_readString_8 : decode cX3_readString 8 = .ok (.invokevirtual 72, 3) := by decide +kernel
theorem dX3_readString_11 : decode cX3_readString 11 = .ok (.istore_n 1, 1) := by decide +kernel
theorem dX3_readString_12 : decode cX3_readString 12 = .ok (.aload_n 0, 1) := by decide +kernel
theorem dX3_readString_13 : decode cX3_readString 13 = .ok (.getfield 25, 3) := by decide +kernel
theorem dX3_readString_16 : decode cX3_readString 16 = .ok (.getfield 100, 3) := by decide +kernel
theorem dX3_readString_19 : decode cX3_readString 19 = .ok (.aload_n 0, 1) := by decide +kernel
theorem dX3_readString_20 : decode cX3_readString 20 = .ok (.getfield 161, 3) := by decide +kernel
theorem dX3_readString_23 : decode cX3_readString 23 = .ok (.bipush 7, 2) := by decide +kernel
theorem dX3_readString_25 : decode cX3_readString 25 = .ok (.aload_n 0, 1) := by decide +kernel
theorem dX3_readString_26 : decode cX3_readString 26 = .ok (.getfield 25, 3) := by decide +kernel
theorem dX3_readString_29 : decode cX3_readString 29 = .ok (.getfield 178, 3) := by decide +kernel
theorem dX3_readString_32 : decode cX3_readString 32 = .ok (.invokevirtual 106, 3) := by decide +kernel
theorem dX3_readString_35 : decode cX3_readString 35 = .ok (.aload_n 0, 1) := by decide +kernel
theorem dX3_readString_36 : decode cX3_readString 36 = .ok (.getfield 25, 3) := by decide +kernel
theorem dX3_readString_39 : decode cX3_readString 39 = .ok (.getfield 100, 3) := by decide +kernel
theorem dX3_readString_42 : decode cX3_readString 42 = .ok (.aload_n 0, 1) := by decide +kernel
theorem dX3_readString_43 : decode cX3_readString 43 = .ok (.getfield 161, 3) := by decide +kernel
theorem dX3_readString_46 : decode cX3_readString 46 = .ok (.bipush 6, 2) := by decide +kernel
theorem dX3_readString_48 : decode cX3_readString 48 = .ok (.iload_n 1, 1) := by decide +kernel
theorem dX3_readString_49 : decode cX3_readString 49 = .ok (.invokevirtual 106, 3) := by decide +kernel
theorem dX3_readString_52 : decode cX3_readString 52 = .ok (.aload_n 0, 1) := by decide +kernel
theorem dX3_readString_53 : decode cX3_readString 53 = .ok (.getfield 69, 3) := by decide +kernel
theorem dX3_readString_56 : decode cX3_readString 56 = .ok (.iconst 1, 1) := by decide +kernel
theorem dX3_readString_57 : decode cX3_readString 57 = .ok (.iadd, 1) := by decide +kernel
theorem dX3_readString_58 : decode cX3_readString 58 = .ok (.istore_n 2, 1) := by decide +kernel
theorem dX3_readString_59 : decode cX3_readString 59 = .ok (.iconst 0, 1) := by decide +kernel
theorem dX3_readString_60 : decode cX3_readString 60 = .ok (.istore_n 3, 1) := by decide +kernel
theorem dX3_readString_61 : decode cX3_readString 61 = .ok (.iload_n 3, 1) := by decide +kernel
theorem dX3_readString_62 : decode cX3_readString 62 = .ok (.iload_n 1, 1) := by decide +kernel
theorem dX3_readString_63 : decode cX3_readString 63 = .ok (.if_icmp .ge 37, 3) := by decide +kernel
theorem dX3_readString_66 : decode cX3_readString 66 = .ok (.aload_n 0, 1) := by decide +kernel
theorem dX3_readString_67 : decode cX3_readString 67 = .ok (.getfield 25, 3) := by decide +kernel
theorem dX3_readString_70 : decode cX3_readString 70 = .ok (.aload_n 0, 1) := by decide +kernel
theorem dX3_readString_71 : decode cX3_readString 71 = .ok (.getfield 12, 3) := by decide +kernel
theorem dX3_readString_74 : decode cX3_readString 74 = .ok (.iload_n 2, 1) := by decide +kernel
theorem dX3_readString_75 : decode cX3_readString 75 = .ok (.bipush 34, 2) := by decide +kernel
theorem dX3_readString_77 : decode cX3_readString 77 = .ok (.invokevirtual 181, 3) := by decide +kernel
theorem dX3_readString_80 : decode cX3_readString 80 = .ok (.invokevirtual 185, 3) := by decide +kernel
theorem dX3_readString_83 : decode cX3_readString 83 = .ok (.iload_n 2, 1) := by decide +kernel
theorem dX3_readString_84 : decode cX3_readString 84 = .ok (.aload_n 0, 1) := by decide +kernel
theorem dX3_readString_85 : decode cX3_readString 85 = .ok (.getfield 12, 3) := by decide +kernel
theorem dX3_readString_88 : decode cX3_readString 88 = .ok (.iload_n 2, 1) := by decide +kernel
theorem dX3_readString_89 : decode cX3_readString 89 = .ok (.invokevirtual 188, 3) := by decide +kernel
theorem dX3_readString_92 : decode cX3_readString 92 = .ok (.iadd, 1) := by decide +kernel
theorem dX3_readString_93 : decode cX3_readString 93 = .ok (.istore_n 2, 1) := by decide +kernel
theorem dX3_readString_94 : decode cX3_readString 94 = .ok (.iinc 3 1, 3) := by decide +kernel
theorem dX3_readString_97 : decode cX3_readString 97 = .ok (.goto (-36), 3) := by decide +kernel
theorem dX3_readString_100 : decode cX3_readString 100 = .ok (.aload_n 0, 1) := by decide +kernel
theorem dX3_readString_101 : decode cX3_readString 101 = .ok (.invokevirtual 44, 3) := by decide +kernel
theorem dX3_readString_104 : decode cX3_readString 104 = .ok (.return_, 1) := by decide +kernel
theorem dX3_readMark_0 : decode cX3_readMark 0 = .ok (.aload_n 0, 1) := by decide +kernel
theorem dX3_readMark_1 : decode cX3_readMark 1 = .ok (.invokevirtual 44, 3) := by decide +kernel
theorem dX3_readMark_4 : decode cX3_readMark 4 = .ok (.aload_n 0, 1) := by decide +kernel
theorem dX3_readMark_5 : decode cX3_readMark 5 = .ok (.getfield 63, 3) := by decide +kernel
theorem dX3_readMark_8 : decode cX3_readMark 8 = .ok (.iconst 1, 1) := by decide +kernel
theorem dX3_readMark_9 : decode cX3_readMark 9 = .ok (.if_icmp .eq 24, 3) := by decide +kernel
theorem dX3_readMark_12 : decode cX3_readMark 12 = .ok (.aload_n 0, 1) := by decide +kernel
theorem dX3_readMark_13 : decode cX3_readMark 13 = .ok (.getfield 63, 3) := by decide +kernel
theorem dX3_readMark_16 : decode cX3_readMark 16 = .ok (.iconst 2, 1) := by decide +kernel
theorem dX3_readMark_17 : decode cX3_readMark 17 = .ok (.if_icmp .eq 16, 3) := by decide +kernel
theorem dX3_readMark_20 : decode cX3_readMark 20 = .ok (.aload_n 0, 1) := by decide +kernel
theorem dX3_readMark_21 : decode cX3_readMark 21 = .ok (.getfield 63, 3) := by decide +kernel
theorem dX3_readMark_24 : decode cX3_readMark 24 = .ok (.iconst 3, 1) := by decide +kernel
theorem dX3_readMark_25 : decode cX3_readMark 25 = .ok (.if_icmp .eq 8, 3) := by decide +kernel
theorem dX3_readMark_28 : decode cX3_readMark 28 = .ok (.aload_n 0, 1) := by decide +kernel
theorem dX3_readMark_29 : decode cX3_readMark 29 = .ok (.iconst 5, 1) := by decide +kernel
theorem dX3_readMark_30 : decode cX3_readMark 30 = .ok (.invokevirtual 75, 3) := by decide +kernel
theorem dX3_readMark_33 : decode cX3_readMark 33 = .ok (.aload_n 0, 1) := by decide +kernel
theorem dX3_readMark_34 : decode cX3_readMark 34 = .ok (.getfield 12, 3) := by decide +kernel
theorem dX3_readMark_37 : decode cX3_readMark 37 = .ok (.aload_n 0, 1) := by decide +kernel
theorem dX3_readMark_38 : decode cX3_readMark 38 = .ok (.getfield 41, 3) := by decide +kernel
theorem dX3_readMark_41 : decode cX3_readMark 41 = .ok (.invokestatic 191, 3) := by decide +kernel
theorem dX3_readMark_44 : decode cX3_readMark 44 = .ok (.istore_n 1, 1) := by decide +kernel
theorem dX3_readMark_45 : decode cX3_readMark 45 = .ok (.iload_n 1, 1) := by decide +kernel
theorem dX3_readMark_46 : decode cX3_readMark 46 = .ok (.ifCond .ne 9, 3) := by decide +kernel
theorem dX3_readMark_49 : decode cX3_readMark 49 = .ok (.aload_n 0, 1) := by decide +kernel
theorem dX3_readMark_50 : decode cX3_readMark 50 = .ok (.bipush 6, 2) := by decide +kernel
theorem dX3_readMark_52 : decode cX3_readMark 52 = .ok (.invokevirtual 75, 3) := by decide +kernel
theorem dX3_readMark_55 : decode cX3_readMark 55 = .ok (.aload_n 0, 1) := by decide +kernel
theorem dX3_readMark_56 : decode cX3_readMark 56 = .ok (.getfield 25, 3) := by decide +kernel
theorem dX3_readMark_59 : decode cX3_readMark 59 = .ok (.getfield 100, 3) := by decide +kernel
theorem dX3_readMark_62 : decode cX3_readMark 62 = .ok (.aload_n 0, 1) := by decide +kernel
theorem dX3_readMark_63 : decode cX3_readMark 63 = .ok (.getfield 161, 3) := by decide +kernel
theorem dX3_readMark_66 : decode cX3_readMark 66 = .ok (.iconst 2, 1) := by decide +kernel
theorem dX3_readMark_67 : decode cX3_readMark 67 = .ok (.iload_n 1, 1) := by decide +kernel
theorem dX3_readMark_68 : decode cX3_readMark 68 = .ok (.invokevirtual 106, 3) := by decide +kernel
theorem dX3_readMark_71 : decode cX3_readMark 71 = .ok (.aload_n 0, 1) := by decide +kernel
theorem dX3_readMark_72 : decode cX3_readMark 72 = .ok (.invokevirtual 44, 3) := by decide +kernel
theorem dX3_readMark_75 : decode cX3_readMark 75 = .ok (.aload_n 0, 1) := by decide +kernel
theorem dX3_readMark_76 : decode cX3_readMark 76 = .ok (.bipush 9, 2) := by decide +kernel
theorem dX3_readMark_78 : decode cX3_readMark 78 = .ok (.invokevirtual 97, 3) := by decide +kernel
theorem dX3_readMark_81 : decode cX3_readMark 81 = .ok (.aload_n 0, 1) := by decide +kernel
theorem dX3_readMark_82 : decode cX3_readMark 82 = .ok (.invokevirtual 44, 3) := by decide +kernel
theorem dX3_readMark_85 : decode cX3_readMark 85 = .ok (.return_, 1) := by decide +kernel
theorem dX3_canBeginExpression_0 : decode cX3_canBeginExpression 0 = .ok (.iload_n 0, 1) := by decide +kernel
theorem dX3_canBeginExpression_1 : decode cX3_canBeginExpression 1 = .ok (.tableswitch 109 1 23 #[107, 109, 107, 107, 107, 107, 109, 109, 107, 109, 109, 109, 107, 109, 109, 109, 109, 109, 109, 109, 109, 109, 107], 107) := by decide +kernel
theorem dX3_canBeginExpression_108 : decode cX3_canBeginExpression 108 = .ok (.iconst 1, 1) := by decide +kernel
theorem dX3_canBeginExpression_109 : decode cX3_canBeginExpression 109 = .ok (.ireturn, 1) := by decide +kernel
theorem dX3_canBeginExpression_110 : decode cX3_canBeginExpression 110 = .ok (.iconst 0, 1) := by decide +kernel
theorem dX3_canBeginExpression_111 : decode cX3_canBeginExpression 111 = .ok (.ireturn, 1) := by decide +kernel
theorem dX3_readSides_0 : decode cX3_readSides 0 = .ok (.aload_n 0, 1) := by decide +kernel
theorem dX3_readSides_1 : decode cX3_readSides 1 = .ok (.iload_n 2, 1) := by decide +kernel
theorem dX3_readSides_2 : decode cX3_readSides 2 = .ok (.invokevirtual 196, 3) := by decide +kernel
theorem dX3_readSides_5 : decode cX3_readSides 5 = .ok (.iconst 0, 1) := by decide +kernel
theorem dX3_readSides_6 : decode cX3_readSides 6 = .ok (.istore_n 3, 1) := by decide +kernel
theorem dX3_readSides_7 : decode cX3_readSides 7 = .ok (.iload_n 3, 1) := by decide +kernel
theorem dX3_readSides_8 : decode cX3_readSides 8 = .ok (.bipush 60, 2) := by decide +kernel
theorem dX3_readSides_10 : decode cX3_readSides 10 = .ok (.if_icmp .ge 56, 3) := by decide +kernel
theorem dX3_readSides_13 : decode cX3_readSides 13 = .ok (.aload_n 0, 1) := by decide +kernel
theorem dX3_readSides_14 : decode cX3_readSides 14 = .ok (.getfield 63, 3) := by decide +kernel
theorem dX3_readSides_17 : decode cX3_readSides 17 = .ok (.invokestatic 199, 3) := by decide +kernel
theorem dX3_readSides_20 : decode cX3_readSides 20 = .ok (.iload_n 1, 1) := by decide +kernel
theorem dX3_readSides_21 : decode cX3_readSides 21 = .ok (.if_icmp .lt 45, 3) := by decide +kernel
theorem dX3_readSides_24 : decode cX3_readSides 24 = .ok (.aload_n 0, 1) := by decide +kernel
theorem dX3_readSides_25 : decode cX3_readSides 25 = .ok (.getfield 63, 3) := by decide +kernel
theorem dX3_readSides_28 : decode cX3_readSides 28 = .ok (.istore 4, 2) := by decide +kernel
theorem dX3_readSides_30 : decode cX3_readSides 30 = .ok (.aload_n 0, 1) := by decide +kernel
theorem dX3_readSides_31 : decode cX3_readSides 31 = .ok (.invokevirtual 141, 3) := by decide +kernel
theorem dX3_readSides_34 : decode cX3_readSides 34 = .ok (.aload_n 0, 1) := by decide +kernel
theorem dX3_readSides_35 : decode cX3_readSides 35 = .ok (.invokevirtual 44, 3) := by decide +kernel
theorem dX3_readSides_38 : decode cX3_readSides 38 = .ok (.aload_n 0, 1) := by decide +kernel
theorem dX3_readSides_39 : decode cX3_readSides 39 = .ok (.iload 4, 2) := by decide +kernel
theorem dX3_readSides_41 : decode cX3_readSides 41 = .ok (.invokestatic 199, 3) := by decide +kernel
theorem dX3_readSides_44 : decode cX3_readSides 44 = .ok (.iconst 1, 1) := by decide +kernel
theorem dX3_readSides_45 : decode cX3_readSides 45 = .ok (.iadd, 1) := by decide +kernel
theorem dX3_readSides_46 : decode cX3_readSides 46 = .ok (.iload_n 2, 1) := by decide +kernel
theorem dX3_readSides_47 : decode cX3_readSides 47 = .ok (.invokevirtual 158, 3) := by decide +kernel
theorem dX3_readSides_50 : decode cX3_readSides 50 = .ok (.aload_n 0, 1) := by decide +kernel
theorem dX3_readSides_51 : decode cX3_readSides 51 = .ok (.getfield 25, 3) := by decide +kernel
theorem dX3_readSides_54 : decode cX3_readSides 54 = .ok (.iload 4, 2) := by decide +kernel
theorem dX3_readSides_56 : decode cX3_readSides 56 = .ok (.iconst 0, 1) := by decide +kernel
theorem dX3_readSides_57 : decode cX3_readSides 57 = .ok (.invokevirtual 144, 3) := by decide +kernel
theorem dX3_readSides_60 : decode cX3_readSides 60 = .ok (.iinc 3 1, 3) := by decide +kernel
theorem dX3_readSides_63 : decode cX3_readSides 63 = .ok (.goto (-56), 3) := by decide +kernel
theorem dX3_readSides_66 : decode cX3_readSides 66 = .ok (.return_, 1) := by decide +kernel
theorem dX3_readOne_0 : decode cX3_readOne 0 = .ok (.aload_n 0, 1) := by decide +kernel
theorem dX3_readOne_1 : decode cX3_readOne 1 = .ok (.iload_n 1, 1) := by decide +kernel
theorem dX3_readOne_2 : decode cX3_readOne 2 = .ok (.invokevirtual 202, 3) := by decide +kernel
theorem dX3_readOne_5 : decode cX3_readOne 5 = .ok (.aload_n 0, 1) := by decide +kernel
theorem dX3_readOne_6 : decode cX3_readOne 6 = .ok (.getfield 63, 3) := by decide +kernel
theorem dX3_readOne_9 : decode cX3_readOne 9 = .ok (.bipush 9, 2) := by decide +kernel
theorem dX3_readOne_11 : decode cX3_readOne 11 = .ok (.if_icmp .ne 26, 3) := by decide +kernel
theorem dX3_readOne_14 : decode cX3_readOne 14 = .ok (.aload_n 0, 1) := by decide +kernel
theorem dX3_readOne_15 : decode cX3_readOne 15 = .ok (.invokevirtual 44, 3) := by decide +kernel
theorem dX3_readOne_18 : decode cX3_readOne 18 = .ok (.aload_n 0, 1) := by decide +kernel
theorem dX3_readOne_19 : decode cX3_readOne 19 = .ok (.iconst 1, 1) := by decide +kernel
theorem dX3_readOne_20 : decode cX3_readOne 20 = .ok (.iload_n 1, 1) := by decide +kernel
theorem dX3_readOne_21 : decode cX3_readOne 21 = .ok (.iconst 1, 1) := by decide +kernel
theorem dX3_readOne_22 : decode cX3_readOne 22 = .ok (.iadd, 1) := by decide +kernel
theorem dX3_readOne_23 : decode cX3_readOne 23 = .ok (.invokevirtual 158, 3) := by decide +kernel
theorem dX3_readOne_26 : decode cX3_readOne 26 = .ok (.aload_n 0, 1) := by decide +kernel
theorem dX3_readOne_27 : decode cX3_readOne 27 = .ok (.bipush 10, 2) := by decide +kernel
theorem dX3_readOne_29 : decode cX3_readOne 29 = .ok (.invokevirtual 97, 3) := by decide +kernel
theorem dX3_readOne_32 : decode cX3_readOne 32 = .ok (.aload_n 0, 1) := by decide +kernel
theorem dX3_readOne_33 : decode cX3_readOne 33 = .ok (.invokevirtual 44, 3) := by decide +kernel
theorem dX3_readOne_36 : decode cX3_readOne 36 = .ok (.return_, 1) := by decide +kernel
theorem dX3_readOne_37 : decode cX3_readOne 37 = .ok (.aload_n 0, 1) := by decide +kernel
theorem dX3_readOne_38 : decode cX3_readOne 38 = .ok (.invokevirtual 141, 3) := by decide +kernel
theorem dX3_readOne_41 : decode cX3_readOne 41 = .ok (.aload_n 0, 1) := by decide +kernel
theorem dX3_readOne_42 : decode cX3_readOne 42 = .ok (.getfield 63, 3) := by decide +kernel
theorem dX3_readOne_45 : decode cX3_readOne 45 = .ok (.invokestatic 205, 3) := by decide +kernel
theorem dX3_readOne_48 : decode cX3_readOne 48 = .ok (.istore_n 2, 1) := by decide +kernel
theorem dX3_readOne_49 : decode cX3_readOne 49 = .ok (.aload_n 0, 1) := by decide +kernel
theorem dX3_readOne_50 : decode cX3_readOne 50 = .ok (.getfield 63, 3) := by decide +kernel
theorem dX3_readOne_53 : decode cX3_readOne 53 = .ok (.iconst 1, 1) := by decide +kernel
theorem dX3_readOne_54 : decode cX3_readOne 54 = .ok (.if_icmp .ne 10, 3) := by decide +kernel
theorem dX3_readOne_57 : decode cX3_readOne 57 = .ok (.aload_n 0, 1) := by decide +kernel
theorem dX3_readOne_58 : decode cX3_readOne 58 = .ok (.invokevirtual 94, 3) := by decide +kernel
theorem dX3_readOne_61 : decode cX3_readOne 61 = .ok (.goto 14, 3) := by decide +kernel
theorem dX3_readOne_64 : decode cX3_readOne 64 = .ok (.aload_n 0, 1) := by decide +kernel
theorem dX3_readOne_65 : decode cX3_readOne 65 = .ok (.getfield 12, 3) := by decide +kernel
theorem dX3_readOne_68 : decode cX3_readOne 68 = .ok (.aload_n 0, 1) := by decide +kernel
theorem dX3_readOne_69 : decode cX3_readOne 69 = .ok (.getfield 41, 3) := by decide +kernel
theorem dX3_readOne_72 : decode cX3_readOne 72 = .ok (.invokevirtual 72, 3) := by decide +kernel
theorem dX3_readOne_75 : decode cX3_readOne 75 = .ok (.istore_n 3, 1) := by decide +kernel
theorem dX3_readOne_76 : decode cX3_readOne 76 = .ok (.aload_n 0, 1) := by decide +kernel
theorem dX3_readOne_77 : decode cX3_readOne 77 = .ok (.invokevirtual 44, 3) := by decide +kernel
theorem dX3_readOne_80 : decode cX3_readOne 80 = .ok (.iload_n 2, 1) := by decide +kernel
theorem dX3_readOne_81 : decode cX3_readOne 81 = .ok (.invokestatic 208, 3) := by decide +kernel
theorem dX3_readOne_84 : decode cX3_readOne 84 = .ok (.ifCond .eq 10, 3) := by decide +kernel
theorem dX3_readOne_87 : decode cX3_readOne 87 = .ok (.aload_n 0, 1) := by decide +kernel
theorem dX3_readOne_88 : decode cX3_readOne 88 = .ok (.iload_n 1, 1) := by decide +kernel
theorem dX3_readOne_89 : decode cX3_readOne 89 = .ok (.iconst 1, 1) := by decide +kernel
theorem dX3_readOne_90 : decode cX3_readOne 90 = .ok (.iadd, 1) := by decide +kernel
theorem dX3_readOne_91 : decode cX3_readOne 91 = .ok (.invokevirtual 196, 3) := by decide +kernel
theorem dX3_readOne_94 : decode cX3_readOne 94 = .ok (.aload_n 0, 1) := by decide +kernel
theorem dX3_readOne_95 : decode cX3_readOne 95 = .ok (.getfield 25, 3) := by decide +kernel
theorem dX3_readOne_98 : decode cX3_readOne 98 = .ok (.iload_n 2, 1) := by decide +kernel
theorem dX3_readOne_99 : decode cX3_readOne 99 = .ok (.iload_n 3, 1) := by decide +kernel
theorem dX3_readOne_100 : decode cX3_readOne 100 = .ok (.invokevirtual 144, 3) := by decide +kernel
theorem dX3_readOne_103 : decode cX3_readOne 103 = .ok (.return_, 1) := by decide +kernel
theorem dX3_sortAhead_0 : decode cX3_sortAhead 0 = .ok (.iload_n 0, 1) := by decide +kernel
theorem dX3_sortAhead_1 : decode cX3_sortAhead 1 = .ok (.lookupswitch 63 #[(1, 57), (3, 61), (6, 59), (13, 51), (23, 54)], 51) := by decide +kernel
theorem dX3_sortAhead_52 : decode cX3_sortAhead 52 = .ok (.bipush 10, 2) := by decide +kernel
theorem dX3_sortAhead_54 : decode cX3_sortAhead 54 = .ok (.ireturn, 1) := by decide +kernel
theorem dX3_sortAhead_55 : decode cX3_sortAhead 55 = .ok (.bipush 11, 2) := by decide +kernel
theorem dX3_sortAhead_57 : decode cX3_sortAhead 57 = .ok (.ireturn, 1) := by decide +kernel
theorem dX3_sortAhead_58 : decode cX3_sortAhead 58 = .ok (.iconst 1, 1) := by decide +kernel
theorem dX3_sortAhead_59 : decode cX3_sortAhead 59 = .ok (.ireturn, 1) := by decide +kernel
theorem dX3_sortAhead_60 : decode cX3_sortAhead 60 = .ok (.iconst 2, 1) := by decide +kernel
theorem dX3_sortAhead_61 : decode cX3_sortAhead 61 = .ok (.ireturn, 1) := by decide +kernel
theorem dX3_sortAhead_62 : decode cX3_sortAhead 62 = .ok (.iconst 3, 1) := by decide +kernel
theorem dX3_sortAhead_63 : decode cX3_sortAhead 63 = .ok (.ireturn, 1) := by decide +kernel
theorem dX3_sortAhead_64 : decode cX3_sortAhead 64 = .ok (.iconst 0, 1) := by decide +kernel
theorem dX3_sortAhead_65 : decode cX3_sortAhead 65 = .ok (.ireturn, 1) := by decide +kernel
theorem dX3_checkOne_0 : decode cX3_checkOne 0 = .ok (.aload_n 0, 1) := by decide +kernel
theorem dX3_checkOne_1 : decode cX3_checkOne 1 = .ok (.getfield 63, 3) := by decide +kernel
theorem dX3_checkOne_4 : decode cX3_checkOne 4 = .ok (.iconst 2, 1) := by decide +kernel
theorem dX3_checkOne_5 : decode cX3_checkOne 5 = .ok (.if_icmp .ne 9, 3) := by decide +kernel
theorem dX3_checkOne_8 : decode cX3_checkOne 8 = .ok (.aload_n 0, 1) := by decide +kernel
theorem dX3_checkOne_9 : decode cX3_checkOne 9 = .ok (.bipush 6, 2) := by decide +kernel
theorem dX3_checkOne_11 : decode cX3_checkOne 11 = .ok (.invokevirtual 75, 3) := by decide +kernel
theorem dX3_checkOne_14 : decode cX3_checkOne 14 = .ok (.aload_n 0, 1) := by decide +kernel
theorem dX3_checkOne_15 : decode cX3_checkOne 15 = .ok (.getfield 63, 3) := by decide +kernel
theorem dX3_checkOne_18 : decode cX3_checkOne 18 = .ok (.invokestatic 151, 3) := by decide +kernel
theorem dX3_checkOne_21 : decode cX3_checkOne 21 = .ok (.ifCond .ne 8, 3) := by decide +kernel
theorem dX3_checkOne_24 : decode cX3_checkOne 24 = .ok (.aload_n 0, 1) := by decide +kernel
theorem dX3_checkOne_25 : decode cX3_checkOne 25 = .ok (.iconst 5, 1) := by decide +kernel
theorem dX3_checkOne_26 : decode cX3_checkOne 26 = .ok (.invokevirtual 75, 3) := by decide +kernel
theorem dX3_checkOne_29 : decode cX3_checkOne 29 = .ok (.iload_n 1, 1) := by decide +kernel
theorem dX3_checkOne_30 : decode cX3_checkOne 30 = .ok (.bipush 20, 2) := by decide +kernel
theorem dX3_checkOne_32 : decode cX3_checkOne 32 = .ok (.if_icmp .le 9, 3) := by decide +kernel
theorem dX3_checkOne_35 : decode cX3_checkOne 35 = .ok (.aload_n 0, 1) := by decide +kernel
theorem dX3_checkOne_36 : decode cX3_checkOne 36 = .ok (.bipush 7, 2) := by decide +kernel
theorem dX3_checkOne_38 : decode cX3_checkOne 38 = .ok (.invokevirtual 75, 3) := by decide +kernel
theorem dX3_checkOne_41 : decode cX3_checkOne 41 = .ok (.return_, 1) := by decide +kernel
theorem dX3_countItem_0 : decode cX3_countItem 0 = .ok (.aload_n 0, 1) := by decide +kernel
theorem dX3_countItem_1 : decode cX3_countItem 1 = .ok (.dup, 1) := by decide +kernel
theorem dX3_countItem_2 : decode cX3_countItem 2 = .ok (.getfield 170, 3) := by decide +kernel
theorem dX3_countItem_5 : decode cX3_countItem 5 = .ok (.iconst 1, 1) := by decide +kernel
theorem dX3_countItem_6 : decode cX3_countItem 6 = .ok (.iadd, 1) := by decide +kernel
theorem dX3_countItem_7 : decode cX3_countItem 7 = .ok (.putfield 170, 3) := by decide +kernel
theorem dX3_countItem_10 : decode cX3_countItem 10 = .ok (.aload_n 0, 1) := by decide +kernel
theorem dX3_countItem_11 : decode cX3_countItem 11 = .ok (.getfield 170, 3) := by decide +kernel
theorem dX3_countItem_14 : decode cX3_countItem 14 = .ok (.bipush 60, 2) := by decide +kernel
theorem dX3_countItem_16 : decode cX3_countItem 16 = .ok (.if_icmp .gt 18, 3) := by decide +kernel
theorem dX3_countItem_19 : decode cX3_countItem 19 = .ok (.aload_n 0, 1) := by decide +kernel
theorem dX3_countItem_20 : decode cX3_countItem 20 = .ok (.getfield 167, 3) := by decide +kernel
theorem dX3_countItem_23 : decode cX3_countItem 23 = .ok (.aload_n 0, 1) := by decide +kernel
theorem dX3_countItem_24 : decode cX3_countItem 24 = .ok (.getfield 170, 3) := by decide +kernel
theorem dX3_countItem_27 : decode cX3_countItem 27 = .ok (.iadd, 1) := by decide +kernel
theorem dX3_countItem_28 : decode cX3_countItem 28 = .ok (.sipush 2000, 3) := by decide +kernel
theorem dX3_countItem_31 : decode cX3_countItem 31 = .ok (.if_icmp .le 9, 3) := by decide +kernel
theorem dX3_countItem_34 : decode cX3_countItem 34 = .ok (.aload_n 0, 1) := by decide +kernel
theorem dX3_countItem_35 : decode cX3_countItem 35 = .ok (.bipush 8, 2) := by decide +kernel
theorem dX3_countItem_37 : decode cX3_countItem 37 = .ok (.invokevirtual 75, 3) := by decide +kernel
theorem dX3_countItem_40 : decode cX3_countItem 40 = .ok (.return_, 1) := by decide +kernel
