theorem dX0_init_0 : decode cX0_init 0 = .ok (.aload_n 0, 1) := by decide +kernel
theorem dX0_init_1 : decode cX0_init 1 = .ok (.invokespecial 3, 3) := by decide +kernel
theorem dX0_init_4 : decode cX0_init 4 = .ok (.aload_n 0, 1) := by decide +kernel
theorem dX0_init_5 : decode cX0_init 5 = .ok (.sipush 256, 3) := by decide +kernel
theorem dX0_init_8 : decode cX0_init 8 = .ok (.putfield 9, 3) := by decide +kernel
theorem dX0_init_11 : decode cX0_init 11 = .ok (.aload_n 0, 1) := by decide +kernel
theorem dX0_init_12 : decode cX0_init 12 = .ok (.iconst 0, 1) := by decide +kernel
theorem dX0_init_13 : decode cX0_init 13 = .ok (.putfield 15, 3) := by decide +kernel
theorem dX0_init_16 : decode cX0_init 16 = .ok (.aload_n 0, 1) := by decide +kernel
theorem dX0_init_17 : decode cX0_init 17 = .ok (.bipush 16, 2) := by decide +kernel
theorem dX0_init_19 : decode cX0_init 19 = .ok (.newarray .int, 2) := by decide +kernel
theorem dX0_init_21 : decode cX0_init 21 = .ok (.putfield 18, 3) := by decide +kernel
theorem dX0_init_24 : decode cX0_init 24 = .ok (.aload_n 0, 1) := by decide +kernel
theorem dX0_init_25 : decode cX0_init 25 = .ok (.bipush 48, 2) := by decide +kernel
theorem dX0_init_27 : decode cX0_init 27 = .ok (.newarray .int, 2) := by decide +kernel
theorem dX0_init_29 : decode cX0_init 29 = .ok (.putfield 22, 3) := by decide +kernel
theorem dX0_init_32 : decode cX0_init 32 = .ok (.return_, 1) := by decide +kernel
theorem dX0_has_0 : decode cX0_has 0 = .ok (.iload_n 1, 1) := by decide +kernel
theorem dX0_has_1 : decode cX0_has 1 = .ok (.ifCond .lt 15, 3) := by decide +kernel
theorem dX0_has_4 : decode cX0_has 4 = .ok (.iload_n 1, 1) := by decide +kernel
theorem dX0_has_5 : decode cX0_has 5 = .ok (.aload_n 0, 1) := by decide +kernel
theorem dX0_has_6 : decode cX0_has 6 = .ok (.getfield 15, 3) := by decide +kernel
theorem dX0_has_9 : decode cX0_has 9 = .ok (.if_icmp .ge 7, 3) := by decide +kernel
theorem dX0_has_12 : decode cX0_has 12 = .ok (.iconst 1, 1) := by decide +kernel
theorem dX0_has_13 : decode cX0_has 13 = .ok (.goto 4, 3) := by decide +kernel
theorem dX0_has_16 : decode cX0_has 16 = .ok (.iconst 0, 1) := by decide +kernel
theorem dX0_has_17 : decode cX0_has 17 = .ok (.ireturn, 1) := by decide +kernel
theorem dX0_kindOf_0 : decode cX0_kindOf 0 = .ok (.aload_n 0, 1) := by decide +kernel
theorem dX0_kindOf_1 : decode cX0_kindOf 1 = .ok (.getfield 18, 3) := by decide +kernel
theorem dX0_kindOf_4 : decode cX0_kindOf 4 = .ok (.iload_n 1, 1) := by decide +kernel
theorem dX0_kindOf_5 : decode cX0_kindOf 5 = .ok (.invokestatic 25, 3) := by decide +kernel
theorem dX0_kindOf_8 : decode cX0_kindOf 8 = .ok (.ireturn, 1) := by decide +kernel
theorem dX0_numberOf_0 : decode cX0_numberOf 0 = .ok (.aload_n 0, 1) := by decide +kernel
theorem dX0_numberOf_1 : decode cX0_numberOf 1 = .ok (.getfield 22, 3) := by decide +kernel
theorem dX0_numberOf_4 : decode cX0_numberOf 4 = .ok (.iload_n 1, 1) := by decide +kernel
theorem dX0_numberOf_5 : decode cX0_numberOf 5 = .ok (.iconst 3, 1) := by decide +kernel
theorem dX0_numberOf_6 : decode cX0_numberOf 6 = .ok (.imul, 1) := by decide +kernel
theorem dX0_numberOf_7 : decode cX0_numberOf 7 = .ok (.iload_n 2, 1) := by decide +kernel
theorem dX0_numberOf_8 : decode cX0_numberOf 8 = .ok (.iadd, 1) := by decide +kernel
theorem dX0_numberOf_9 : decode cX0_numberOf 9 = .ok (.iconst 1, 1) := by decide +kernel
theorem dX0_numberOf_10 : decode cX0_numberOf 10 = .ok (.isub, 1) := by decide +kernel
theorem dX0_numberOf_11 : decode cX0_numberOf 11 = .ok (.invokestatic 25, 3) := by decide +kernel
theorem dX0_numberOf_14 : decode cX0_numberOf 14 = .ok (.ireturn, 1) := by decide +kernel
theorem dX0_setNumber_0 : decode cX0_setNumber 0 = .ok (.aload_n 0, 1) := by decide +kernel
theorem dX0_setNumber_1 : decode cX0_setNumber 1 = .ok (.getfield 22, 3) := by decide +kernel
theorem dX0_setNumber_4 : decode cX0_setNumber 4 = .ok (.iload_n 1, 1) := by decide +kernel
theorem dX0_setNumber_5 : decode cX0_setNumber 5 = .ok (.iconst 3, 1) := by decide +kernel
theorem dX0_setNumber_6 : decode cX0_setNumber 6 = .ok (.imul, 1) := by decide +kernel
theorem dX0_setNumber_7 : decode cX0_setNumber 7 = .ok (.iload_n 2, 1) := by decide +kernel
theorem dX0_setNumber_8 : decode cX0_setNumber 8 = .ok (.iadd, 1) := by decide +kernel
theorem dX0_setNumber_9 : decode cX0_setNumber 9 = .ok (.iconst 1, 1) := by decide +kernel
theorem dX0_setNumber_10 : decode cX0_setNumber 10 = .ok (.isub, 1) := by decide +kernel
theorem dX0_setNumber_11 : decode cX0_setNumber 11 = .ok (.iload_n 3, 1) := by decide +kernel
theorem dX0_setNumber_12 : decode cX0_setNumber 12 = .ok (.invokestatic 29, 3) := by decide +kernel
theorem dX0_setNumber_15 : decode cX0_setNumber 15 = .ok (.return_, 1) := by decide +kernel
theorem dX0_sources_0 : decode cX0_sources 0 = .ok (.iconst 0, 1) := by decide +kernel
theorem dX0_sources_1 : decode cX0_sources 1 = .ok (.istore_n 1, 1) := by decide +kernel
theorem dX0_sources_2 : decode cX0_sources 2 = .ok (.iconst 0, 1) := by decide +kernel
theorem dX0_sources_3 : decode cX0_sources 3 = .ok (.istore_n 2, 1) := by decide +kernel
theorem dX0_sources_4 : decode cX0_sources 4 = .ok (.iload_n 2, 1) := by decide +kernel
theorem dX0_sources_5 : decode cX0_sources 5 = .ok (.aload_n 0, 1) := by decide +kernel
theorem dX0_sources_6 : decode cX0_sources 6 = .ok (.getfield 15, 3) := by decide +kernel
theorem dX0_sources_9 : decode cX0_sources 9 = .ok (.if_icmp .ge 20, 3) := by decide +kernel
theorem dX0_sources_12 : decode cX0_sources 12 = .ok (.aload_n 0, 1) := by decide +kernel
theorem dX0_sources_13 : decode cX0_sources 13 = .ok (.iload_n 2, 1) := by decide +kernel
theorem dX0_sources_14 : decode cX0_sources 14 = .ok (.invokevirtual 33, 3) := by decide +kernel
theorem dX0_sources_17 : decode cX0_sources 17 = .ok (.ifCond .ne 6, 3) := by decide +kernel
theorem dX0_sources_20 : decode cX0_sources 20 = .ok (.iinc 1 1, 3) := by decide +kernel
theorem dX0_sources_23 : decode cX0_sources 23 = .ok (.iinc 2 1, 3) := by decide +kernel
theorem dX0_sources_26 : decode cX0_sources 26 = .ok (.goto (-22), 3) := by decide +kernel
theorem dX0_sources_29 : decode cX0_sources 29 = .ok (.iload_n 1, 1) := by decide +kernel
theorem dX0_sources_30 : decode cX0_sources 30 = .ok (.ireturn, 1) := by decide +kernel
theorem dX0_add_0 : decode cX0_add 0 = .ok (.aload_n 0, 1) := by decide +kernel
theorem dX0_add_1 : decode cX0_add 1 = .ok (.getfield 15, 3) := by decide +kernel
theorem dX0_add_4 : decode cX0_add 4 = .ok (.bipush 16, 2) := by decide +kernel
theorem dX0_add_6 : decode cX0_add 6 = .ok (.if_icmp .lt 4, 3) := by decide +kernel
theorem dX0_add_9 : decode cX0_add 9 = .ok (.return_, 1) := by decide +kernel
theorem dX0_add_10 : decode cX0_add 10 = .ok (.aload_n 0, 1) := by decide +kernel
theorem dX0_add_11 : decode cX0_add 11 = .ok (.getfield 18, 3) := by decide +kernel
theorem dX0_add_14 : decode cX0_add 14 = .ok (.aload_n 0, 1) := by decide +kernel
theorem dX0_add_15 : decode cX0_add 15 = .ok (.getfield 15, 3) := by decide +kernel
theorem dX0_add_18 : decode cX0_add 18 = .ok (.iload_n 1, 1) := by decide +kernel
theorem dX0_add_19 : decode cX0_add 19 = .ok (.invokestatic 29, 3) := by decide +kernel
theorem dX0_add_22 : decode cX0_add 22 = .ok (.aload_n 0, 1) := by decide +kernel
theorem dX0_add_23 : decode cX0_add 23 = .ok (.aload_n 0, 1) := by decide +kernel
theorem dX0_add_24 : decode cX0_add 24 = .ok (.getfield 15, 3) := by decide +kernel
theorem dX0_add_27 : decode cX0_add 27 = .ok (.iconst 1, 1) := by decide +kernel
theorem dX0_add_28 : decode cX0_add 28 = .ok (.iload_n 2, 1) := by decide +kernel
theorem dX0_add_29 : decode cX0_add 29 = .ok (.invokevirtual 37, 3) := by decide +kernel
theorem dX0_add_32 : decode cX0_add 32 = .ok (.aload_n 0, 1) := by decide +kernel
theorem dX0_add_33 : decode cX0_add 33 = .ok (.aload_n 0, 1) := by decide +kernel
theorem dX0_add_34 : decode cX0_add 34 = .ok (.getfield 15, 3) := by decide +kernel
theorem dX0_add_37 : decode cX0_add 37 = .ok (.iconst 2, 1) := by decide +kernel
theorem dX0_add_38 : decode cX0_add 38 = .ok (.iload_n 3, 1) := by decide +kernel
theorem dX0_add_39 : decode cX0_add 39 = .ok (.invokevirtual 37, 3) := by decide +kernel
theorem dX0_add_42 : decode cX0_add 42 = .ok (.aload_n 0, 1) := by decide +kernel
theorem dX0_add_43 : decode cX0_add 43 = .ok (.aload_n 0, 1) := by decide +kernel
theorem dX0_add_44 : decode cX0_add 44 = .ok (.getfield 15, 3) := by decide +kernel
theorem dX0_add_47 : decode cX0_add 47 = .ok (.iconst 3, 1) := by decide +kernel
theorem dX0_add_48 : decode cX0_add 48 = .ok (.iload 4, 2) := by decide +kernel
theorem dX0_add_50 : decode cX0_add 50 = .ok (.invokevirtual 37, 3) := by decide +kernel
theorem dX0_add_53 : decode cX0_add 53 = .ok (.aload_n 0, 1) := by decide +kernel
theorem dX0_add_54 : decode cX0_add 54 = .ok (.dup, 1) := by decide +kernel
theorem dX0_add_55 : decode cX0_add 55 = .ok (.getfield 15, 3) := by decide +kernel
theorem dX0_add_58 : decode cX0_add 58 = .ok (.iconst 1, 1) := by decide +kernel
theorem dX0_add_59 : decode cX0_add 59 = .ok (.iadd, 1) := by decide +kernel
theorem dX0_add_60 : decode cX0_add 60 = .ok (.putfield 15, 3) := by decide +kernel
theorem dX0_add_63 : decode cX0_add 63 = .ok (.return_, 1) := by decide +kernel
theorem dX0_addAll_0 : decode cX0_addAll 0 = .ok (.iconst 0, 1) := by decide +kernel
theorem dX0_addAll_1 : decode cX0_addAll 1 = .ok (.istore_n 2, 1) := by decide +kernel
theorem dX0_addAll_2 : decode cX0_addAll 2 = .ok (.iload_n 2, 1) := by decide +kernel
theorem dX0_addAll_3 : decode cX0_addAll 3 = .ok (.aload_n 1, 1) := by decide +kernel
theorem dX0_addAll_4 : decode cX0_addAll 4 = .ok (.getfield 15, 3) := by decide +kernel
theorem dX0_addAll_7 : decode cX0_addAll 7 = .ok (.if_icmp .ge 36, 3) := by decide +kernel
theorem dX0_addAll_10 : decode cX0_addAll 10 = .ok (.aload_n 0, 1) := by decide +kernel
theorem dX0_addAll_11 : decode cX0_addAll 11 = .ok (.aload_n 1, 1) := by decide +kernel
theorem dX0_addAll_12 : decode cX0_addAll 12 = .ok (.iload_n 2, 1) := by decide +kernel
theorem dX0_addAll_13 : decode cX0_addAll 13 = .ok (.invokevirtual 33, 3) := by decide +kernel
theorem dX0_addAll_16 : decode cX0_addAll 16 = .ok (.aload_n 1, 1) := by decide +kernel
theorem dX0_addAll_17 : decode cX0_addAll 17 = .ok (.iload_n 2, 1) := by decide +kernel
theorem dX0_addAll_18 : decode cX0_addAll 18 = .ok (.iconst 1, 1) := by decide +kernel
theorem dX0_addAll_19 : decode cX0_addAll 19 = .ok (.invokevirtual 41, 3) := by decide +kernel
theorem dX0_addAll_22 : decode cX0_addAll 22 = .ok (.aload_n 1, 1) := by decide +kernel
theorem dX0_addAll_23 : decode cX0_addAll 23 = .ok (.iload_n 2, 1) := by decide +kernel
theorem dX0_addAll_24 : decode cX0_addAll 24 = .ok (.iconst 2, 1) := by decide +kernel
theorem dX0_addAll_25 : decode cX0_addAll 25 = .ok (.invokevirtual 41, 3) := by decide +kernel
theorem dX0_addAll_28 : decode cX0_addAll 28 = .ok (.aload_n 1, 1) := by decide +kernel
theorem dX0_addAll_29 : decode cX0_addAll 29 = .ok (.iload_n 2, 1) := by decide +kernel
theorem dX0_addAll_30 : decode cX0_addAll 30 = .ok (.iconst 3, 1) := by decide +kernel
theorem dX0_addAll_31 : decode cX0_addAll 31 = .ok (.invokevirtual 41, 3) := by decide +kernel
theorem dX0_addAll_34 : decode cX0_addAll 34 = .ok (.invokevirtual 45, 3) := by decide +kernel
theorem dX0_addAll_37 : decode cX0_addAll 37 = .ok (.iinc 2 1, 3) := by decide +kernel
theorem dX0_addAll_40 : decode cX0_addAll 40 = .ok (.goto (-38), 3) := by decide +kernel
theorem dX0_addAll_43 : decode cX0_addAll 43 = .ok (.return_, 1) := by decide +kernel
theorem dX0_setSource_0 : decode cX0_setSource 0 = .ok (.aload_n 0, 1) := by decide +kernel
theorem dX0_setSource_1 : decode cX0_setSource 1 = .ok (.iload_n 1, 1) := by decide +kernel
theorem dX0_setSource_2 : decode cX0_setSource 2 = .ok (.iconst 1, 1) := by decide +kernel
theorem dX0_setSource_3 : decode cX0_setSource 3 = .ok (.iload_n 2, 1) := by decide +kernel
theorem dX0_setSource_4 : decode cX0_setSource 4 = .ok (.invokevirtual 37, 3) := by decide +kernel
theorem dX0_setSource_7 : decode cX0_setSource 7 = .ok (.aload_n 0, 1) := by decide +kernel
theorem dX0_setSource_8 : decode cX0_setSource 8 = .ok (.iload_n 1, 1) := by decide +kernel
theorem dX0_setSource_9 : decode cX0_setSource 9 = .ok (.iconst 2, 1) := by decide +kernel
theorem dX0_setSource_10 : decode cX0_setSource 10 = .ok (.iload_n 3, 1) := by decide +kernel
theorem dX0_setSource_11 : decode cX0_setSource 11 = .ok (.invokevirtual 37, 3) := by decide +kernel
theorem dX0_setSource_14 : decode cX0_setSource 14 = .ok (.return_, 1) := by decide +kernel
theorem dX0_dropLast_0 : decode cX0_dropLast 0 = .ok (.aload_n 0, 1) := by decide +kernel
theorem dX0_dropLast_1 : decode cX0_dropLast 1 = .ok (.getfield 15, 3) := by decide +kernel
theorem dX0_dropLast_4 : decode cX0_dropLast 4 = .ok (.ifCond .le 13, 3) := by decide +kernel
theorem dX0_dropLast_7 : decode cX0_dropLast 7 = .ok (.aload_n 0, 1) := by decide +kernel
theorem dX0_dropLast_8 : decode cX0_dropLast 8 = .ok (.dup, 1) := by decide +kernel
theorem dX0_dropLast_9 : decode cX0_dropLast 9 = .ok (.getfield 15, 3) := by decide +kernel
theorem dX0_dropLast_12 : decode cX0_dropLast 12 = .ok (.iconst 1, 1) := by decide +kernel
theorem dX0_dropLast_13 : decode cX0_dropLast 13 = .ok (.isub, 1) := by decide +kernel
theorem dX0_dropLast_14 : decode cX0_dropLast 14 = .ok (.putfield 15, 3) := by decide +kernel
theorem dX0_dropLast_17 : decode cX0_dropLast 17 = .ok (.return_, 1) := by decide +kernel
theorem dX0_copyFrom_0 : decode cX0_copyFrom 0 = .ok (.aload_n 0, 1) := by decide +kernel
theorem dX0_copyFrom_1 : decode cX0_copyFrom 1 = .ok (.aload_n 1, 1) := by decide +kernel
theorem dX0_copyFrom_2 : decode cX0_copyFrom 2 = .ok (.getfield 9, 3) := by decide +kernel
theorem dX0_copyFrom_5 : decode cX0_copyFrom 5 = .ok (.putfield 9, 3) := by decide +kernel
theorem dX0_copyFrom_8 : decode cX0_copyFrom 8 = .ok (.aload_n 0, 1) := by decide +kernel
theorem dX0_copyFrom_9 : decode cX0_copyFrom 9 = .ok (.iconst 0, 1) := by decide +kernel
theorem dX0_copyFrom_10 : decode cX0_copyFrom 10 = .ok (.putfield 15, 3) := by decide +kernel
theorem dX0_copyFrom_13 : decode cX0_copyFrom 13 = .ok (.aload_n 0, 1) := by decide +kernel
theorem dX0_copyFrom_14 : decode cX0_copyFrom 14 = .ok (.aload_n 1, 1) := by decide +kernel
theorem dX0_copyFrom_15 : decode cX0_copyFrom 15 = .ok (.invokevirtual 49, 3) := by decide +kernel
theorem dX0_copyFrom_18 : decode cX0_copyFrom 18 = .ok (.return_, 1) := by decide +kernel
theorem dX1_init_0 : decode cX1_init 0 = .ok (.aload_n 0, 1) := by decide +kernel
theorem dX1_init_1 : decode cX1_init 1 = .ok (.invokespecial 3, 3) := by decide +kernel
theorem dX1_init_4 : decode cX1_init 4 = .ok (.aload_n 0, 1) := by decide +kernel
theorem dX1_init_5 : decode cX1_init 5 = .ok (.bipush 80, 2) := by decide +kernel
theorem dX1_init_7 : decode cX1_init 7 = .ok (.newarray .char, 2) := by decide +kernel
theorem dX1_init_9 : decode cX1_init 9 = .ok (.putfield 9, 3) := by decide +kernel
theorem dX1_init_12 : decode cX1_init 12 = .ok (.aload_n 0, 1) := by decide +kernel
theorem dX1_init_13 : decode cX1_init 13 = .ok (.iconst 0, 1) := by decide +kernel
theorem dX1_init_14 : decode cX1_init 14 = .ok (.putfield 15, 3) := by decide +kernel
theorem dX1_init_17 : decode cX1_init 17 = .ok (.aload_n 0, 1) := by decide +kernel
theorem dX1_init_18 : decode cX1_init 18 = .ok (.iconst 0, 1) := by decide +kernel
theorem dX1_init_19 : decode cX1_init 19 = .ok (.putfield 19, 3) := by decide +kernel
theorem dX1_init_22 : decode cX1_init 22 = .ok (.return_, 1) := by decide +kernel
theorem dX2_init_0 : decode cX2_init 0 = .ok (.aload_n 0, 1) := by decide +kernel
theorem dX2_init_1 : decode cX2_init 1 = .ok (.invokespecial 3, 3) := by decide +kernel
theorem dX2_init_4 : decode cX2_init 4 = .ok (.aload_n 0, 1) := by decide +kernel
theorem dX2_init_5 : decode cX2_init 5 = .ok (.bipush 16, 2) := by decide +kernel
theorem dX2_init_7 : decode cX2_init 7 = .ok (.newarray .int, 2) := by decide +kernel
theorem dX2_init_9 : decode cX2_init 9 = .ok (.putfield 9, 3) := by decide +kernel
theorem dX2_init_12 : decode cX2_init 12 = .ok (.aload_n 0, 1) := by decide +kernel
theorem dX2_init_13 : decode cX2_init 13 = .ok (.bipush 16, 2) := by decide +kernel
theorem dX2_init_15 : decode cX2_init 15 = .ok (.newarray .int, 2) := by decide +kernel
theorem dX2_init_17 : decode cX2_init 17 = .ok (.putfield 15, 3) := by decide +kernel
theorem dX2_init_20 : decode cX2_init 20 = .ok (.aload_n 0, 1) := by decide +kernel
theorem dX2_init_21 : decode cX2_init 21 = .ok (.bipush 16, 2) := by decide +kernel
theorem dX2_init_23 : decode cX2_init 23 = .ok (.newarray .int, 2) := by decide +kernel
theorem dX2_init_25 : decode cX2_init 25 = .ok (.putfield 18, 3) := by decide +kernel
theorem dX2_init_28 : decode cX2_init 28 = .ok (.return_, 1) := by decide +kernel
theorem dX2_workOut_0 : decode cX2_workOut 0 = .ok (.iconst 0, 1) := by decide +kernel
theorem dX2_workOut_1 : decode cX2_workOut 1 = .ok (.istore_n 2, 1) := by decide +kernel
theorem dX2_workOut_2 : decode cX2_workOut 2 = .ok (.iload_n 2, 1) := by decide +kernel
theorem dX2_workOut_3 : decode cX2_workOut 3 = .ok (.aload_n 1, 1) := by decide +kernel
theorem dX2_workOut_4 : decode cX2_workOut 4 = .ok (.getfield 21, 3) := by decide +kernel
theorem dX2_workOut_7 : decode cX2_workOut 7 = .ok (.if_icmp .ge 51, 3) := by decide +kernel
theorem dX2_workOut_10 : decode cX2_workOut 10 = .ok (.aload_n 0, 1) := by decide +kernel
theorem dX2_workOut_11 : decode cX2_workOut 11 = .ok (.getfield 9, 3) := by decide +kernel
theorem dX2_workOut_14 : decode cX2_workOut 14 = .ok (.iload_n 2, 1) := by decide +kernel
theorem dX2_workOut_15 : decode cX2_workOut 15 = .ok (.aload_n 0, 1) := by decide +kernel
theorem dX2_workOut_16 : decode cX2_workOut 16 = .ok (.aload_n 1, 1) := by decide +kernel
theorem dX2_workOut_17 : decode cX2_workOut 17 = .ok (.iload_n 2, 1) := by decide +kernel
theorem dX2_workOut_18 : decode cX2_workOut 18 = .ok (.invokevirtual 27, 3) := by decide +kernel
theorem dX2_workOut_21 : decode cX2_workOut 21 = .ok (.invokestatic 31, 3) := by decide +kernel
theorem dX2_workOut_24 : decode cX2_workOut 24 = .ok (.aload_n 0, 1) := by decide +kernel
theorem dX2_workOut_25 : decode cX2_workOut 25 = .ok (.getfield 15, 3) := by decide +kernel
theorem dX2_workOut_28 : decode cX2_workOut 28 = .ok (.iload_n 2, 1) := by decide +kernel
theorem dX2_workOut_29 : decode cX2_workOut 29 = .ok (.aload_n 0, 1) := by decide +kernel
theorem dX2_workOut_30 : decode cX2_workOut 30 = .ok (.aload_n 1, 1) := by decide +kernel
theorem dX2_workOut_31 : decode cX2_workOut 31 = .ok (.iload_n 2, 1) := by decide +kernel
theorem dX2_workOut_32 : decode cX2_workOut 32 = .ok (.invokevirtual 35, 3) := by decide +kernel
theorem dX2_workOut_35 : decode cX2_workOut 35 = .ok (.invokestatic 31, 3) := by decide +kernel
theorem dX2_workOut_38 : decode cX2_workOut 38 = .ok (.aload_n 0, 1) := by decide +kernel
theorem dX2_workOut_39 : decode cX2_workOut 39 = .ok (.getfield 18, 3) := by decide +kernel
theorem dX2_workOut_42 : decode cX2_workOut 42 = .ok (.iload_n 2, 1) := by decide +kernel
theorem dX2_workOut_43 : decode cX2_workOut 43 = .ok (.aload_n 0, 1) := by decide +kernel
theorem dX2_workOut_44 : decode cX2_workOut 44 = .ok (.aload_n 1, 1) := by decide +kernel
theorem dX2_workOut_45 : decode cX2_workOut 45 = .ok (.iload_n 2, 1) := by decide +kernel
theorem dX2_workOut_46 : decode cX2_workOut 46 = .ok (.invokevirtual 38, 3) := by decide +kernel
theorem dX2_workOut_49 : decode cX2_workOut 49 = .ok (.invokestatic 31, 3) := by decide +kernel
theorem dX2_workOut_52 : decode cX2_workOut 52 = .ok (.iinc 2 1, 3) := by decide +kernel
theorem dX2_workOut_55 : decode cX2_workOut 55 = .ok (.goto (-53), 3) := by decide +kernel
theorem dX2_workOut_58 : decode cX2_workOut 58 = .ok (.return_, 1) := by decide +kernel
theorem dX2_exactShareOf_0 : decode cX2_exactShareOf 0 = .ok (.aload_n 0, 1) := by decide +kernel
theorem dX2_exactShareOf_1 : decode cX2_exactShareOf 1 = .ok (.getfield 9, 3) := by decide +kernel
theorem dX2_exactShareOf_4 : decode cX2_exactShareOf 4 = .ok (.iload_n 1, 1) := by decide +kernel
theorem dX2_exactShareOf_5 : decode cX2_exactShareOf 5 = .ok (.invokestatic 41, 3) := by decide +kernel
theorem dX2_exactShareOf_8 : decode cX2_exactShareOf 8 = .ok (.ireturn, 1) := by decide +kernel
theorem dX2_depthOf_0 : decode cX2_depthOf 0 = .ok (.aload_n 0, 1) := by decide +kernel
theorem dX2_depthOf_1 : decode cX2_depthOf 1 = .ok (.getfield 15, 3) := by decide +kernel
theorem dX2_depthOf_4 : decode cX2_depthOf 4 = .ok (.iload_n 1, 1) := by decide +kernel
theorem dX2_depthOf_5 : decode cX2_depthOf 5 = .ok (.invokestatic 41, 3) := by decide +kernel
theorem dX2_depthOf_8 : decode cX2_depthOf 8 = .ok (.ireturn, 1) := by decide +kernel
theorem dX2_sourcesOf_0 : decode cX2_sourcesOf 0 = .ok (.aload_n 0, 1) := by decide +kernel
theorem dX2_sourcesOf_1 : decode cX2_sourcesOf 1 = .ok (.getfield 18, 3) := by decide +kernel
theorem dX2_sourcesOf_4 : decode cX2_sourcesOf 4 = .ok (.iload_n 1, 1) := by decide +kernel
theorem dX2_sourcesOf_5 : decode cX2_sourcesOf 5 = .ok (.invokestatic 41, 3) := by decide +kernel
theorem dX2_sourcesOf_8 : decode cX2_sourcesOf 8 = .ok (.invokestatic 45, 3) := by decide +kernel
theorem dX2_sourcesOf_11 : decode cX2_sourcesOf 11 = .ok (.ireturn, 1) := by decide +kernel
theorem dX2_greatestDepth_0 : decode cX2_greatestDepth 0 = .ok (.iconst 0, 1) := by decide +kernel
theorem dX2_greatestDepth_1 : decode cX2_greatestDepth 1 = .ok (.istore_n 2, 1) := by decide +kernel
theorem dX2_greatestDepth_2 : decode cX2_greatestDepth 2 = .ok (.iconst 0, 1) := by decide +kernel
theorem dX2_greatestDepth_3 : decode cX2_greatestDepth 3 = .ok (.istore_n 3, 1) := by decide +kernel
theorem dX2_greatestDepth_4 : decode cX2_greatestDepth 4 = .ok (.iload_n 3, 1) := by decide +kernel
theorem dX2_greatestDepth_5 : decode cX2_greatestDepth 5 = .ok (.iload_n 1, 1) := by decide +kernel
theorem dX2_greatestDepth_6 : decode cX2_greatestDepth 6 = .ok (.if_icmp .ge 19, 3) := by decide +kernel
theorem dX2_greatestDepth_9 : decode cX2_greatestDepth 9 = .ok (.iload_n 2, 1) := by decide +kernel
theorem dX2_greatestDepth_10 : decode cX2_greatestDepth 10 = .ok (.aload_n 0, 1) := by decide +kernel
theorem dX2_greatestDepth_11 : decode cX2_greatestDepth 11 = .ok (.iload_n 3, 1) := by decide +kernel
theorem dX2_greatestDepth_12 : decode cX2_greatestDepth 12 = .ok (.invokevirtual 51, 3) := by decide +kernel
theorem dX2_greatestDepth_15 : decode cX2_greatestDepth 15 = .ok (.invokestatic 54, 3) := by decide +kernel
theorem dX2_greatestDepth_18 : decode cX2_greatestDepth 18 = .ok (.istore_n 2, 1) := by decide +kernel
theorem dX2_greatestDepth_19 : decode cX2_greatestDepth 19 = .ok (.iinc 3 1, 3) := by decide +kernel
theorem dX2_greatestDepth_22 : decode cX2_greatestDepth 22 = .ok (.goto (-18), 3) := by decide +kernel
theorem dX2_greatestDepth_25 : decode cX2_greatestDepth 25 = .ok (.iload_n 2, 1) := by decide +kernel
theorem dX2_greatestDepth_26 : decode cX2_greatestDepth 26 = .ok (.ireturn, 1) := by decide +kernel
theorem dX2_exactShareIn_0 : decode cX2_exactShareIn 0 = .ok (.aload_n 1, 1) := by decide +kernel
theorem dX2_exactShareIn_1 : decode cX2_exactShareIn 1 = .ok (.iload_n 2, 1) := by decide +kernel
theorem dX2_exactShareIn_2 : decode cX2_exactShareIn 2 = .ok (.iconst 1, 1) := by decide +kernel
theorem dX2_exactShareIn_3 : decode cX2_exactShareIn 3 = .ok (.invokevirtual 60, 3) := by decide +kernel
theorem dX2_exactShareIn_6 : decode cX2_exactShareIn 6 = .ok (.istore_n 3, 1) := by decide +kernel
theorem dX2_exactShareIn_7 : decode cX2_exactShareIn 7 = .ok (.aload_n 1, 1) := by decide +kernel
theorem dX2_exactShareIn_8 : decode cX2_exactShareIn 8 = .ok (.iload_n 2, 1) := by decide +kernel
theorem dX2_exactShareIn_9 : decode cX2_exactShareIn 9 = .ok (.iconst 2, 1) := by decide +kernel
theorem dX2_exactShareIn_10 : decode cX2_exactShareIn 10 = .ok (.invokevirtual 60, 3) := by decide +kernel
theorem dX2_exactShareIn_13 : decode cX2_exactShareIn 13 = .ok (.istore 4, 2) := by decide +kernel
theorem dX2_exactShareIn_15 : decode cX2_exactShareIn 15 = .ok (.aload_n 0, 1) := by decide +kernel
theorem dX2_exactShareIn_16 : decode cX2_exactShareIn 16 = .ok (.iload_n 3, 1) := by decide +kernel
theorem dX2_exactShareIn_17 : decode cX2_exactShareIn 17 = .ok (.invokevirtual 63, 3) := by decide +kernel
theorem dX2_exactShareIn_20 : decode cX2_exactShareIn 20 = .ok (.istore 5, 2) := by decide +kernel
theorem dX2_exactShareIn_22 : decode cX2_exactShareIn 22 = .ok (.aload_n 1, 1) := by decide +kernel
theorem dX2_exactShareIn_23 : decode cX2_exactShareIn 23 = .ok (.iload_n 2, 1) := by decide +kernel
theorem dX2_exactShareIn_24 : decode cX2_exactShareIn 24 = .ok (.invokevirtual 66, 3) := by decide +kernel
theorem dX2_exactShareIn_27 : decode cX2_exactShareIn 27 = .ok (.tableswitch 138 0 5 #[37, 43, 57, 81, 107, 132], 37) := by decide +kernel
theorem dX2_exactShareIn_64 : decode cX2_exactShareIn 64 = .ok (.iload_n 3, 1) := by decide +kernel
theorem dX2_exactShareIn_65 : decode cX2_exactShareIn 65 = .ok (.sipush 256, 3) := by decide +kernel
theorem dX2_exactShareIn_68 : decode cX2_exactShareIn 68 = .ok (.imul, 1) := by decide +kernel
theorem dX2_exactShareIn_69 : decode cX2_exactShareIn 69 = .ok (.ireturn, 1) := by decide +kernel
theorem dX2_exactShareIn_70 : decode cX2_exactShareIn 70 = .ok (.iload 5, 2) := by decide +kernel
theorem dX2_exactShareIn_72 : decode cX2_exactShareIn 72 = .ok (.i2l, 1) := by decide +kernel
theorem dX2_exactShareIn_73 : decode cX2_exactShareIn 73 = .ok (.aload_n 0, 1) := by decide +kernel
theorem dX2_exactShareIn_74 : decode cX2_exactShareIn 74 = .ok (.iload 4, 2) := by decide +kernel
theorem dX2_exactShareIn_76 : decode cX2_exactShareIn 76 = .ok (.invokevirtual 63, 3) := by decide +kernel
theorem dX2_exactShareIn_79 : decode cX2_exactShareIn 79 = .ok (.i2l, 1) := by decide +kernel
theorem dX2_exactShareIn_80 : decode cX2_exactShareIn 80 = .ok (.invokestatic 69, 3) := by decide +kernel
theorem dX2_exactShareIn_83 : decode cX2_exactShareIn 83 = .ok (.ireturn, 1) := by decide +kernel
theorem dX2_exactShareIn_84 : decode cX2_exactShareIn 84 = .ok (.iload 5, 2) := by decide +kernel
theorem dX2_exactShareIn_86 : decode cX2_exactShareIn 86 = .ok (.aload_n 0, 1) := by decide +kernel
theorem dX2_exactShareIn_87 : decode cX2_exactShareIn 87 = .ok (.iload 4, 2) := by decide +kernel
theorem dX2_exactShareIn_89 : decode cX2_exactShareIn 89 = .ok (.invokevirtual 63, 3) := by decide +kernel
theorem dX2_exactShareIn_92 : decode cX2_exactShareIn 92 = .ok (.iadd, 1) := by decide +kernel
theorem dX2_exactShareIn_93 : decode cX2_exactShareIn 93 = .ok (.iload 5, 2) := by decide +kernel
theorem dX2_exactShareIn_95 : decode cX2_exactShareIn 95 = .ok (.i2l, 1) := by decide +kernel
theorem dX2_exactShareIn_96 : decode cX2_exactShareIn 96 = .ok (.aload_n 0, 1) := by decide +kernel
theorem dX2_exactShareIn_97 : decode cX2_exactShareIn 97 = .ok (.iload 4, 2) := by decide +kernel
theorem dX2_exactShareIn_99 : decode cX2_exactShareIn 99 = .ok (.invokevirtual 63, 3) := by decide +kernel
theorem dX2_exactShareIn_102 : decode cX2_exactShareIn 102 = .ok (.i2l, 1) := by decide +kernel
theorem dX2_exactShareIn_103 : decode cX2_exactShareIn 103 = .ok (.invokestatic 69, 3) := by decide +kernel
theorem dX2_exactShareIn_106 : decode cX2_exactShareIn 106 = .ok (.isub, 1) := by decide +kernel
theorem dX2_exactShareIn_107 : decode cX2_exactShareIn 107 = .ok (.ireturn, 1) := by decide +kernel
theorem dX2_exactShareIn_108 : decode cX2_exactShareIn 108 = .ok (.iload 5, 2) := by decide +kernel
theorem dX2_exactShareIn_110 : decode cX2_exactShareIn 110 = .ok (.aload_n 0, 1) := by decide +kernel
theorem dX2_exactShareIn_111 : decode cX2_exactShareIn 111 = .ok (.iload 4, 2) := by decide +kernel
theorem dX2_exactShareIn_113 : decode cX2_exactShareIn 113 = .ok (.invokevirtual 63, 3) := by decide +kernel
theorem dX2_exactShareIn_116 : decode cX2_exactShareIn 116 = .ok (.iadd, 1) := by decide +kernel
theorem dX2_exactShareIn_117 : decode cX2_exactShareIn 117 = .ok (.iconst 2, 1) := by decide +kernel
theorem dX2_exactShareIn_118 : decode cX2_exactShareIn 118 = .ok (.iload 5, 2) := by decide +kernel
theorem dX2_exactShareIn_120 : decode cX2_exactShareIn 120 = .ok (.i2l, 1) := by decide +kernel
theorem dX2_exactShareIn_121 : decode cX2_exactShareIn 121 = .ok (.aload_n 0, 1) := by decide +kernel
theorem dX2_exactShareIn_122 : decode cX2_exactShareIn 122 = .ok (.iload 4, 2) := by decide +kernel
theorem dX2_exactShareIn_124 : decode cX2_exactShareIn 124 = .ok (.invokevirtual 63, 3) := by decide +kernel
theorem dX2_exactShareIn_127 : decode cX2_exactShareIn 127 = .ok (.i2l, 1) := by decide +kernel
theorem dX2_exactShareIn_128 : decode cX2_exactShareIn 128 = .ok (.invokestatic 69, 3) := by decide +kernel
theorem dX2_exactShareIn_131 : decode cX2_exactShareIn 131 = .ok (.imul, 1) := by decide +kernel
theorem dX2_exactShareIn_132 : decode cX2_exactShareIn 132 = .ok (.isub, 1) := by decide +kernel
theorem dX2_exactShareIn_133 : decode cX2_exactShareIn 133 = .ok (.ireturn, 1) := by decide +kernel
theorem dX2_exactShareIn_134 : decode cX2_exactShareIn 134 = .ok (.iload 5, 2) := by decide +kernel
theorem dX2_exactShareIn_136 : decode cX2_exactShareIn 136 = .ok (.i2l, 1) := by decide +kernel
theorem dX2_exactShareIn_137 : decode cX2_exactShareIn 137 = .ok (.aload_n 0, 1) := by decide +kernel
theorem dX2_exactShareIn_138 : decode cX2_exactShareIn 138 = .ok (.iload 4, 2) := by decide +kernel
theorem dX2_exactShareIn_140 : decode cX2_exactShareIn 140 = .ok (.invokevirtual 63, 3) := by decide +kernel
theorem dX2_exactShareIn_143 : decode cX2_exactShareIn 143 = .ok (.i2l, 1) := by decide +kernel
theorem dX2_exactShareIn_144 : decode cX2_exactShareIn 144 = .ok (.aload_n 0, 1) := by decide +kernel
theorem dX2_exactShareIn_145 : decode cX2_exactShareIn 145 = .ok (.aload_n 1, 1) := by decide +kernel
theorem dX2_exactShareIn_146 : decode cX2_exactShareIn 146 = .ok (.iload_n 2, 1) := by decide +kernel
theorem dX2_exactShareIn_147 : decode cX2_exactShareIn 147 = .ok (.iconst 3, 1) := by decide +kernel
theorem dX2_exactShareIn_148 : decode cX2_exactShareIn 148 = .ok (.invokevirtual 60, 3) := by decide +kernel
theorem dX2_exactShareIn_151 : decode cX2_exactShareIn 151 = .ok (.invokevirtual 63, 3) := by decide +kernel
theorem dX2_exactShareIn_154 : decode cX2_exactShareIn 154 = .ok (.i2l, 1) := by decide +kernel
theorem dX2_exactShareIn_155 : decode cX2_exactShareIn 155 = .ok (.invokestatic 73, 3) := by decide +kernel
theorem dX2_exactShareIn_158 : decode cX2_exactShareIn 158 = .ok (.ireturn, 1) := by decide +kernel
theorem dX2_exactShareIn_159 : decode cX2_exactShareIn 159 = .ok (.ldc 77, 2) := by decide +kernel
theorem dX2_exactShareIn_161 : decode cX2_exactShareIn 161 = .ok (.iload 5, 2) := by decide +kernel
theorem dX2_exactShareIn_163 : decode cX2_exactShareIn 163 = .ok (.isub, 1) := by decide +kernel
theorem dX2_exactShareIn_164 : decode cX2_exactShareIn 164 = .ok (.ireturn, 1) := by decide +kernel
theorem dX2_exactShareIn_165 : decode cX2_exactShareIn 165 = .ok (.iload 5, 2) := by decide +kernel
theorem dX2_exactShareIn_167 : decode cX2_exactShareIn 167 = .ok (.ireturn, 1) := by decide +kernel
theorem dX2_productOf_0 : decode cX2_productOf 0 = .ok (.lload_n 0, 1) := by decide +kernel
theorem dX2_productOf_1 : decode cX2_productOf 1 = .ok (.lload_n 2, 1) := by decide +kernel
theorem dX2_productOf_2 : decode cX2_productOf 2 = .ok (.lmul, 1) := by decide +kernel
theorem dX2_productOf_3 : decode cX2_productOf 3 = .ok (.ldc2_w 78, 3) := by decide +kernel
theorem dX2_productOf_6 : decode cX2_productOf 6 = .ok (.ldiv, 1) := by decide +kernel
theorem dX2_productOf_7 : decode cX2_productOf 7 = .ok (.l2i, 1) := by decide +kernel
theorem dX2_productOf_8 : decode cX2_productOf 8 = .ok (.ireturn, 1) := by decide +kernel
theorem dX2_mixOf_0 : decode cX2_mixOf 0 = .ok (.lload_n 0, 1) := by decide +kernel
theorem dX2_mixOf_1 : decode cX2_mixOf 1 = .ok (.lload 4, 2) := by decide +kernel
theorem dX2_mixOf_3 : decode cX2_mixOf 3 = .ok (.lmul, 1) := by decide +kernel
theorem dX2_mixOf_4 : decode cX2_mixOf 4 = .ok (.lload_n 2, 1) := by decide +kernel
theorem dX2_mixOf_5 : decode cX2_mixOf 5 = .ok (.ldc2_w 78, 3) := by decide +kernel
theorem dX2_mixOf_8 : decode cX2_mixOf 8 = .ok (.lload 4, 2) := by decide +kernel
theorem dX2_mixOf_10 : decode cX2_mixOf 10 = .ok (.lsub, 1) := by decide +kernel
theorem dX2_mixOf_11 : decode cX2_mixOf 11 = .ok (.lmul, 1) := by decide +kernel
theorem dX2_mixOf_12 : decode cX2_mixOf 12 = .ok (.ladd, 1) := by decide +kernel
theorem dX2_mixOf_13 : decode cX2_mixOf 13 = .ok (.ldc2_w 78, 3) := by decide +kernel
theorem dX2_mixOf_16 : decode cX2_mixOf 16 = .ok (.ldiv, 1) := by decide +kernel
theorem dX2_mixOf_17 : decode cX2_mixOf 17 = .ok (.l2i, 1) := by decide +kernel
theorem dX2_mixOf_18 : decode cX2_mixOf 18 = .ok (.ireturn, 1) := by decide +kernel
theorem dX2_depthIn_0 : decode cX2_depthIn 0 = .ok (.iconst 0, 1) := by decide +kernel
theorem dX2_depthIn_1 : decode cX2_depthIn 1 = .ok (.istore_n 3, 1) := by decide +kernel
theorem dX2_depthIn_2 : decode cX2_depthIn 2 = .ok (.aload_n 1, 1) := by decide +kernel
theorem dX2_depthIn_3 : decode cX2_depthIn 3 = .ok (.iload_n 2, 1) := by decide +kernel
theorem dX2_depthIn_4 : decode cX2_depthIn 4 = .ok (.invokevirtual 66, 3) := by decide +kernel
theorem dX2_depthIn_7 : decode cX2_depthIn 7 = .ok (.invokestatic 80, 3) := by decide +kernel
theorem dX2_depthIn_10 : decode cX2_depthIn 10 = .ok (.istore 4, 2) := by decide +kernel
theorem dX2_depthIn_12 : decode cX2_depthIn 12 = .ok (.iconst 1, 1) := by decide +kernel
theorem dX2_depthIn_13 : decode cX2_depthIn 13 = .ok (.istore 5, 2) := by decide +kernel
theorem dX2_depthIn_15 : decode cX2_depthIn 15 = .ok (.iload 5, 2) := by decide +kernel
theorem dX2_depthIn_17 : decode cX2_depthIn 17 = .ok (.iload 4, 2) := by decide +kernel
theorem dX2_depthIn_19 : decode cX2_depthIn 19 = .ok (.if_icmp .gt 27, 3) := by decide +kernel
theorem dX2_depthIn_22 : decode cX2_depthIn 22 = .ok (.iload_n 3, 1) := by decide +kernel
theorem dX2_depthIn_23 : decode cX2_depthIn 23 = .ok (.iconst 1, 1) := by decide +kernel
theorem dX2_depthIn_24 : decode cX2_depthIn 24 = .ok (.aload_n 0, 1) := by decide +kernel
theorem dX2_depthIn_25 : decode cX2_depthIn 25 = .ok (.aload_n 1, 1) := by decide +kernel
theorem dX2_depthIn_26 : decode cX2_depthIn 26 = .ok (.iload_n 2, 1) := by decide +kernel
theorem dX2_depthIn_27 : decode cX2_depthIn 27 = .ok (.iload 5, 2) := by decide +kernel
theorem dX2_depthIn_29 : decode cX2_depthIn 29 = .ok (.invokevirtual 60, 3) := by decide +kernel
theorem dX2_depthIn_32 : decode cX2_depthIn 32 = .ok (.invokevirtual 51, 3) := by decide +kernel
theorem dX2_depthIn_35 : decode cX2_depthIn 35 = .ok (.iadd, 1) := by decide +kernel
theorem dX2_depthIn_36 : decode cX2_depthIn 36 = .ok (.invokestatic 54, 3) := by decide +kernel
theorem dX2_depthIn_39 : decode cX2_depthIn 39 = .ok (.istore_n 3, 1) := by decide +kernel
theorem dX2_depthIn_40 : decode cX2_depthIn 40 = .ok (.iinc 5 1, 3) := by decide +kernel
theorem dX2_depthIn_43 : decode cX2_depthIn 43 = .ok (.goto (-28), 3) := by decide +kernel
theorem dX2_depthIn_46 : decode cX2_depthIn 46 = .ok (.iload_n 3, 1) := by decide +kernel
theorem dX2_depthIn_47 : decode cX2_depthIn 47 = .ok (.ireturn, 1) := by decide +kernel
theorem dX2_originsIn_0 : decode cX2_originsIn 0 = .ok (.aload_n 1, 1) := by decide +kernel
theorem dX2_originsIn_1 : decode cX2_originsIn 1 = .ok (.iload_n 2, 1) := by decide +kernel
theorem dX2_originsIn_2 : decode cX2_originsIn 2 = .ok (.invokevirtual 66, 3) := by decide +kernel
theorem dX2_originsIn_5 : decode cX2_originsIn 5 = .ok (.ifCond .ne 7, 3) := by decide +kernel
theorem dX2_originsIn_8 : decode cX2_originsIn 8 = .ok (.iconst 1, 1) := by decide +kernel
theorem dX2_originsIn_9 : decode cX2_originsIn 9 = .ok (.iload_n 2, 1) := by decide +kernel
theorem dX2_originsIn_10 : decode cX2_originsIn 10 = .ok (.ishl, 1) := by decide +kernel
theorem dX2_originsIn_11 : decode cX2_originsIn 11 = .ok (.ireturn, 1) := by decide +kernel
theorem dX2_originsIn_12 : decode cX2_originsIn 12 = .ok (.iconst 0, 1) := by decide +kernel
theorem dX2_originsIn_13 : decode cX2_originsIn 13 = .ok (.istore_n 3, 1) := by decide +kernel
theorem dX2_originsIn_14 : decode cX2_originsIn 14 = .ok (.aload_n 1, 1) := by decide +kernel
theorem dX2_originsIn_15 : decode cX2_originsIn 15 = .ok (.iload_n 2, 1) := by decide +kernel
theorem dX2_originsIn_16 : decode cX2_originsIn 16 = .ok (.invokevirtual 66, 3) := by decide +kernel
theorem dX2_originsIn_19 : decode cX2_originsIn 19 = .ok (.invokestatic 80, 3) := by decide +kernel
theorem dX2_originsIn_22 : decode cX2_originsIn 22 = .ok (.istore 4, 2) := by decide +kernel
theorem dX2_originsIn_24 : decode cX2_originsIn 24 = .ok (.iconst 1, 1) := by decide +kernel
theorem dX2_originsIn_25 : decode cX2_originsIn 25 = .ok (.istore 5, 2) := by decide +kernel
theorem dX2_originsIn_27 : decode cX2_originsIn 27 = .ok (.iload 5, 2) := by decide +kernel
theorem dX2_originsIn_29 : decode cX2_originsIn 29 = .ok (.iload 4, 2) := by decide +kernel
theorem dX2_originsIn_31 : decode cX2_originsIn 31 = .ok (.if_icmp .gt 26, 3) := by decide +kernel
theorem dX2_originsIn_34 : decode cX2_originsIn 34 = .ok (.iload_n 3, 1) := by decide +kernel
theorem dX2_originsIn_35 : decode cX2_originsIn 35 = .ok (.aload_n 0, 1) := by decide +kernel
theorem dX2_originsIn_36 : decode cX2_originsIn 36 = .ok (.getfield 18, 3) := by decide +kernel
theorem dX2_originsIn_39 : decode cX2_originsIn 39 = .ok (.aload_n 1, 1) := by decide +kernel
theorem dX2_originsIn_40 : decode cX2_originsIn 40 = .ok (.iload_n 2, 1) := by decide +kernel
theorem dX2_originsIn_41 : decode cX2_originsIn 41 = .ok (.iload 5, 2) := by decide +kernel
theorem dX2_originsIn_43 : decode cX2_originsIn 43 = .ok (.invokevirtual 60, 3) := by decide +kernel
theorem dX2_originsIn_46 : decode cX2_originsIn 46 = .ok (.invokestatic 41, 3) := by decide +kernel
theorem dX2_originsIn_49 : decode cX2_originsIn 49 = .ok (.ior, 1) := by decide +kernel
theorem dX2_originsIn_50 : decode cX2_originsIn 50 = .ok (.istore_n 3, 1) := by decide +kernel
theorem dX2_originsIn_51 : decode cX2_originsIn 51 = .ok (.iinc 5 1, 3) := by decide +kernel
theorem dX2_originsIn_54 : decode cX2_originsIn 54 = .ok (.goto (-27), 3) := by decide +kernel
theorem dX2_originsIn_57 : decode cX2_originsIn 57 = .ok (.iload_n 3, 1) := by decide +kernel
theorem dX2_originsIn_58 : decode cX2_originsIn 58 = .ok (.ireturn, 1) := by decide +kernel
theorem dX3_init_0 : decode cX3_init 0 = .ok (.aload_n 0, 1) := by decide +kernel
theorem dX3_init_1 : decode cX3_init 1 = .ok (.invokespecial 3, 3) := by decide +kernel
theorem dX3_init_4 : decode cX3_init 4 = .ok (.aload_n 0, 1) := by decide +kernel
theorem dX3_init_5 : decode cX3_init 5 = .ok (.iconst 4, 1) := by decide +kernel
theorem dX3_init_6 : decode cX3_init 6 = .ok (.anewarray 9, 3) := by decide +kernel
theorem dX3_init_9 : decode cX3_init 9 = .ok (.putfield 11, 3) := by decide +kernel
theorem dX3_init_12 : decode cX3_init 12 = .ok (.aload_n 0, 1) := by decide +kernel
theorem dX3_init_13 : decode cX3_init 13 = .ok (.iconst 0, 1) := by decide +kernel
theorem dX3_init_14 : decode cX3_init 14 = .ok (.putfield 17, 3) := by decide +kernel
theorem dX3_init_17 : decode cX3_init 17 = .ok (.aload_n 0, 1) := by decide +kernel
theorem dX3_init_18 : decode cX3_init 18 = .ok (.iconst 0, 1) := by decide +kernel
theorem dX3_init_19 : decode cX3_init 19 = .ok (.putfield 21, 3) := by decide +kernel
theorem dX3_init_22 : decode cX3_init 22 = .ok (.iconst 0, 1) := by decide +kernel
theorem dX3_init_23 : decode cX3_init 23 = .ok (.istore_n 1, 1) := by decide +kernel
theorem dX3_init_24 : decode cX3_init 24 = .ok (.iload_n 1, 1) := by decide +kernel
theorem dX3_init_25 : decode cX3_init 25 = .ok (.aload_n 0, 1) := by decide +kernel
theorem dX3_init_26 : decode cX3_init 26 = .ok (.getfield 11, 3) := by decide +kernel
theorem dX3_init_29 : decode cX3_init 29 = .ok (.arraylength, 1) := by decide +kernel
theorem dX3_init_30 : decode cX3_init 30 = .ok (.if_icmp .ge 22, 3) := by decide +kernel
theorem dX3_init_33 : decode cX3_init 33 = .ok (.aload_n 0, 1) := by decide +kernel
theorem dX3_init_34 : decode cX3_init 34 = .ok (.getfield 11, 3) := by decide +kernel
theorem dX3_init_37 : decode cX3_init 37 = .ok (.iload_n 1, 1) := by decide +kernel
theorem dX3_init_38 : decode cX3_init 38 = .ok (.new 9, 3) := by decide +kernel
theorem dX3_init_41 : decode cX3_init 41 = .ok (.dup, 1) := by decide +kernel
theorem dX3_init_42 : decode cX3_init 42 = .ok (.invokespecial 24, 3) := by decide +kernel
theorem dX3_init_45 : decode cX3_init 45 = .ok (.aastore, 1) := by decide +kernel
theorem dX3_init_46 : decode cX3_init 46 = .ok (.iinc 1 1, 3) := by decide +kernel
theorem dX3_init_49 : decode cX3_init 49 = .ok (.goto (-25), 3) := by decide +kernel
theorem dX3_init_52 : decode cX3_init 52 = .ok (.return_, 1) := by decide +kernel
theorem dX3_push_0 : decode cX3_push 0 = .ok (.aload_n 0, 1) := by decide +kernel
theorem dX3_push_1 : decode cX3_push 1 = .ok (.aload_n 0, 1) := by decide +kernel
theorem dX3_push_2 : decode cX3_push 2 = .ok (.getfield 21, 3) := by decide +kernel
theorem dX3_push_5 : decode cX3_push 5 = .ok (.invokevirtual 25, 3) := by decide +kernel
theorem dX3_push_8 : decode cX3_push 8 = .ok (.astore_n 2, 1) := by decide +kernel
theorem dX3_push_9 : decode cX3_push 9 = .ok (.aload_n 2, 1) := by decide +kernel
theorem dX3_push_10 : decode cX3_push 10 = .ok (.ifnonnull 4, 3) := by decide +kernel
theorem dX3_push_13 : decode cX3_push 13 = .ok (.return_, 1) := by decide +kernel
theorem dX3_push_14 : decode cX3_push 14 = .ok (.aload_n 2, 1) := by decide +kernel
theorem dX3_push_15 : decode cX3_push 15 = .ok (.aload_n 1, 1) := by decide +kernel
theorem dX3_push_16 : decode cX3_push 16 = .ok (.invokevirtual 29, 3) := by decide +kernel
theorem dX3_push_19 : decode cX3_push 19 = .ok (.aload_n 0, 1) := by decide +kernel
theorem dX3_push_20 : decode cX3_push 20 = .ok (.getfield 21, 3) := by decide +kernel
theorem dX3_push_23 : decode cX3_push 23 = .ok (.iconst 4, 1) := by decide +kernel
theorem dX3_push_24 : decode cX3_push 24 = .ok (.if_icmp .ge 16, 3) := by decide +kernel
theorem dX3_push_27 : decode cX3_push 27 = .ok (.aload_n 0, 1) := by decide +kernel
theorem dX3_push_28 : decode cX3_push 28 = .ok (.dup, 1) := by decide +kernel
theorem dX3_push_29 : decode cX3_push 29 = .ok (.getfield 21, 3) := by decide +kernel
theorem dX3_push_32 : decode cX3_push 32 = .ok (.iconst 1, 1) := by decide +kernel
theorem dX3_push_33 : decode cX3_push 33 = .ok (.iadd, 1) := by decide +kernel
theorem dX3_push_34 : decode cX3_push 34 = .ok (.putfield 21, 3) := by decide +kernel
theorem dX3_push_37 : decode cX3_push 37 = .ok (.goto 15, 3) := by decide +kernel
theorem dX3_push_40 : decode cX3_push 40 = .ok (.aload_n 0, 1) := by decide +kernel
theorem dX3_push_41 : decode cX3_push 41 = .ok (.aload_n 0, 1) := by decide +kernel
theorem dX3_push_42 : decode cX3_push 42 = .ok (.getfield 17, 3) := by decide +kernel
theorem dX3_push_45 : decode cX3_push 45 = .ok (.iconst 1, 1) := by decide +kernel
theorem dX3_push_46 : decode cX3_push 46 = .ok (.iadd, 1) := by decide +kernel
theorem dX3_push_47 : decode cX3_push 47 = .ok (.iconst 4, 1) := by decide +kernel
theorem dX3_push_48 : decode cX3_push 48 = .ok (.irem, 1) := by decide +kernel
theorem dX3_push_49 : decode cX3_push 49 = .ok (.putfield 17, 3) := by decide +kernel
theorem dX3_push_52 : decode cX3_push 52 = .ok (.return_, 1) := by decide +kernel
theorem dX3_stateAt_0 : decode cX3_stateAt 0 = .ok (.aload_n 0, 1) := by decide +kernel
theorem dX3_stateAt_1 : decode cX3_stateAt 1 = .ok (.getfield 17, 3) := by decide +kernel
theorem dX3_stateAt_4 : decode cX3_stateAt 4 = .ok (.iload_n 1, 1) := by decide +kernel
theorem dX3_stateAt_5 : decode cX3_stateAt 5 = .ok (.iadd, 1) := by decide +kernel
theorem dX3_stateAt_6 : decode cX3_stateAt 6 = .ok (.iconst 4, 1) := by decide +kernel
theorem dX3_stateAt_7 : decode cX3_stateAt 7 = .ok (.invokestatic 33, 3) := by decide +kernel
theorem dX3_stateAt_10 : decode cX3_stateAt 10 = .ok (.istore_n 2, 1) := by decide +kernel
theorem dX3_stateAt_11 : decode cX3_stateAt 11 = .ok (.iload_n 2, 1) := by decide +kernel
theorem dX3_stateAt_12 : decode cX3_stateAt 12 = .ok (.ifCond .lt 12, 3) := by decide +kernel
theorem dX3_stateAt_15 : decode cX3_stateAt 15 = .ok (.iload_n 2, 1) := by decide +kernel
theorem dX3_stateAt_16 : decode cX3_stateAt 16 = .ok (.aload_n 0, 1) := by decide +kernel
theorem dX3_stateAt_17 : decode cX3_stateAt 17 = .ok (.getfield 11, 3) := by decide +kernel
theorem dX3_stateAt_20 : decode cX3_stateAt 20 = .ok (.arraylength, 1) := by decide +kernel
theorem dX3_stateAt_21 : decode cX3_stateAt 21 = .ok (.if_icmp .lt 7, 3) := by decide +kernel
theorem dX3_stateAt_24 : decode cX3_stateAt 24 = .ok (.aconst_null, 1) := by decide +kernel
theorem dX3_stateAt_25 : decode cX3_stateAt 25 = .ok (.goto 9, 3) := by decide +kernel
theorem dX3_stateAt_28 : decode cX3_stateAt 28 = .ok (.aload_n 0, 1) := by decide +kernel
theorem dX3_stateAt_29 : decode cX3_stateAt 29 = .ok (.getfield 11, 3) := by decide +kernel
theorem dX3_stateAt_32 : decode cX3_stateAt 32 = .ok (.iload_n 2, 1) := by decide +kernel
theorem dX3_stateAt_33 : decode cX3_stateAt 33 = .ok (.aaload, 1) := by decide +kernel
theorem dX3_stateAt_34 : decode cX3_stateAt 34 = .ok (.areturn, 1) := by decide +kernel
theorem dX4_init_0 : decode cX4_init 0 = .ok (.aload_n 0, 1) := by decide +kernel
theorem dX4_init_1 : decode cX4_init 1 = .ok (.invokespecial 3, 3) := by decide +kernel
theorem dX4_init_4 : decode cX4_init 4 = .ok (.aload_n 0, 1) := by decide +kernel
theorem dX4_init_5 : decode cX4_init 5 = .ok (.bipush 16, 2) := by decide +kernel
theorem dX4_init_7 : decode cX4_init 7 = .ok (.bipush 16, 2) := by decide +kernel
theorem dX4_init_9 : decode cX4_init 9 = .ok (.multianewarray 9 2, 4) := by decide +kernel
theorem dX4_init_13 : decode cX4_init 13 = .ok (.putfield 11, 3) := by decide +kernel
theorem dX4_init_16 : decode cX4_init 16 = .ok (.return_, 1) := by decide +kernel
theorem dX4_fill_0 : decode cX4_fill 0 = .ok (.iconst 0, 1) := by decide +kernel
theorem dX4_fill_1 : decode cX4_fill 1 = .ok (.istore 4, 2) := by decide +kernel
theorem dX4_fill_3 : decode cX4_fill 3 = .ok (.iload 4, 2) := by decide +kernel
theorem dX4_fill_5 : decode cX4_fill 5 = .ok (.iload_n 2, 1) := by decide +kernel
theorem dX4_fill_6 : decode cX4_fill 6 = .ok (.if_icmp .gt 24, 3) := by decide +kernel
theorem dX4_fill_9 : decode cX4_fill 9 = .ok (.iload 4, 2) := by decide +kernel
theorem dX4_fill_11 : decode cX4_fill 11 = .ok (.bipush 16, 2) := by decide +kernel
theorem dX4_fill_13 : decode cX4_fill 13 = .ok (.if_icmp .ge 17, 3) := by decide +kernel
theorem dX4_fill_16 : decode cX4_fill 16 = .ok (.aload_n 0, 1) := by decide +kernel
theorem dX4_fill_17 : decode cX4_fill 17 = .ok (.aload_n 1, 1) := by decide +kernel
theorem dX4_fill_18 : decode cX4_fill 18 = .ok (.iload 4, 2) := by decide +kernel
theorem dX4_fill_20 : decode cX4_fill 20 = .ok (.iload_n 3, 1) := by decide +kernel
theorem dX4_fill_21 : decode cX4_fill 21 = .ok (.invokevirtual 16, 3) := by decide +kernel
theorem dX4_fill_24 : decode cX4_fill 24 = .ok (.iinc 4 1, 3) := by decide +kernel
theorem dX4_fill_27 : decode cX4_fill 27 = .ok (.goto (-24), 3) := by decide +kernel
theorem dX4_fill_30 : decode cX4_fill 30 = .ok (.return_, 1) := by decide +kernel
theorem dX4_fillRow_0 : decode cX4_fillRow 0 = .ok (.iload_n 3, 1) := by decide +kernel
theorem dX4_fillRow_1 : decode cX4_fillRow 1 = .ok (.bipush 64, 2) := by decide +kernel
theorem dX4_fillRow_3 : decode cX4_fillRow 3 = .ok (.iadd, 1) := by decide +kernel
theorem dX4_fillRow_4 : decode cX4_fillRow 4 = .ok (.iconst 1, 1) := by decide +kernel
theorem dX4_fillRow_5 : decode cX4_fillRow 5 = .ok (.isub, 1) := by decide +kernel
theorem dX4_fillRow_6 : decode cX4_fillRow 6 = .ok (.bipush 64, 2) := by decide +kernel
theorem dX4_fillRow_8 : decode cX4_fillRow 8 = .ok (.idiv, 1) := by decide +kernel
theorem dX4_fillRow_9 : decode cX4_fillRow 9 = .ok (.istore 4, 2) := by decide +kernel
theorem dX4_fillRow_11 : decode cX4_fillRow 11 = .ok (.aload_n 1, 1) := by decide +kernel
theorem dX4_fillRow_12 : decode cX4_fillRow 12 = .ok (.iload_n 2, 1) := by decide +kernel
theorem dX4_fillRow_13 : decode cX4_fillRow 13 = .ok (.invokevirtual 20, 3) := by decide +kernel
theorem dX4_fillRow_16 : decode cX4_fillRow 16 = .ok (.ifCond .ne 23, 3) := by decide +kernel
theorem dX4_fillRow_19 : decode cX4_fillRow 19 = .ok (.aload_n 0, 1) := by decide +kernel
theorem dX4_fillRow_20 : decode cX4_fillRow 20 = .ok (.iload_n 2, 1) := by decide +kernel
theorem dX4_fillRow_21 : decode cX4_fillRow 21 = .ok (.aload_n 1, 1) := by decide +kernel
theorem dX4_fillRow_22 : decode cX4_fillRow 22 = .ok (.iload_n 2, 1) := by decide +kernel
theorem dX4_fillRow_23 : decode cX4_fillRow 23 = .ok (.iconst 1, 1) := by decide +kernel
theorem dX4_fillRow_24 : decode cX4_fillRow 24 = .ok (.invokevirtual 26, 3) := by decide +kernel
theorem dX4_fillRow_27 : decode cX4_fillRow 27 = .ok (.aload_n 1, 1) := by decide +kernel
theorem dX4_fillRow_28 : decode cX4_fillRow 28 = .ok (.iload_n 2, 1) := by decide +kernel
theorem dX4_fillRow_29 : decode cX4_fillRow 29 = .ok (.iconst 2, 1) := by decide +kernel
theorem dX4_fillRow_30 : decode cX4_fillRow 30 = .ok (.invokevirtual 26, 3) := by decide +kernel
theorem dX4_fillRow_33 : decode cX4_fillRow 33 = .ok (.iload 4, 2) := by decide +kernel
theorem dX4_fillRow_35 : decode cX4_fillRow 35 = .ok (.invokevirtual 30, 3) := by decide +kernel
theorem dX4_fillRow_38 : decode cX4_fillRow 38 = .ok (.return_, 1) := by decide +kernel
theorem dX4_fillRow_39 : decode cX4_fillRow 39 = .ok (.iconst 0, 1) := by decide +kernel
theorem dX4_fillRow_40 : decode cX4_fillRow 40 = .ok (.istore 5, 2) := by decide +kernel
theorem dX4_fillRow_42 : decode cX4_fillRow 42 = .ok (.iload 5, 2) := by decide +kernel
theorem dX4_fillRow_44 : decode cX4_fillRow 44 = .ok (.iload 4, 2) := by decide +kernel
theorem dX4_fillRow_46 : decode cX4_fillRow 46 = .ok (.if_icmp .ge 24, 3) := by decide +kernel
theorem dX4_fillRow_49 : decode cX4_fillRow 49 = .ok (.aload_n 0, 1) := by decide +kernel
theorem dX4_fillRow_50 : decode cX4_fillRow 50 = .ok (.iload_n 2, 1) := by decide +kernel
theorem dX4_fillRow_51 : decode cX4_fillRow 51 = .ok (.iload 5, 2) := by decide +kernel
theorem dX4_fillRow_53 : decode cX4_fillRow 53 = .ok (.aload_n 0, 1) := by decide +kernel
theorem dX4_fillRow_54 : decode cX4_fillRow 54 = .ok (.aload_n 1, 1) := by decide +kernel
theorem dX4_fillRow_55 : decode cX4_fillRow 55 = .ok (.iload_n 2, 1) := by decide +kernel
theorem dX4_fillRow_56 : decode cX4_fillRow 56 = .ok (.iload 5, 2) := by decide +kernel
theorem dX4_fillRow_58 : decode cX4_fillRow 58 = .ok (.invokevirtual 34, 3) := by decide +kernel
theorem dX4_fillRow_61 : decode cX4_fillRow 61 = .ok (.invokevirtual 38, 3) := by decide +kernel
theorem dX4_fillRow_64 : decode cX4_fillRow 64 = .ok (.iinc 5 1, 3) := by decide +kernel
theorem dX4_fillRow_67 : decode cX4_fillRow 67 = .ok (.goto (-25), 3) := by decide +kernel
theorem dX4_fillRow_70 : decode cX4_fillRow 70 = .ok (.return_, 1) := by decide +kernel
theorem dX4_fillSource_0 : decode cX4_fillSource 0 = .ok (.iload_n 3, 1) := by decide +kernel
theorem dX4_fillSource_1 : decode cX4_fillSource 1 = .ok (.istore 5, 2) := by decide +kernel
theorem dX4_fillSource_3 : decode cX4_fillSource 3 = .ok (.iconst 0, 1) := by decide +kernel
theorem dX4_fillSource_4 : decode cX4_fillSource 4 = .ok (.istore 6, 2) := by decide +kernel
theorem dX4_fillSource_6 : decode cX4_fillSource 6 = .ok (.iload 6, 2) := by decide +kernel
theorem dX4_fillSource_8 : decode cX4_fillSource 8 = .ok (.iload 4, 2) := by decide +kernel
theorem dX4_fillSource_10 : decode cX4_fillSource 10 = .ok (.if_icmp .ge 59, 3) := by decide +kernel
theorem dX4_fillSource_13 : decode cX4_fillSource 13 = .ok (.lconst 0, 1) := by decide +kernel
theorem dX4_fillSource_14 : decode cX4_fillSource 14 = .ok (.lstore 7, 2) := by decide +kernel
theorem dX4_fillSource_16 : decode cX4_fillSource 16 = .ok (.iconst 0, 1) := by decide +kernel
theorem dX4_fillSource_17 : decode cX4_fillSource 17 = .ok (.istore 9, 2) := by decide +kernel
theorem dX4_fillSource_19 : decode cX4_fillSource 19 = .ok (.iload 9, 2) := by decide +kernel
theorem dX4_fillSource_21 : decode cX4_fillSource 21 = .ok (.bipush 64, 2) := by decide +kernel
theorem dX4_fillSource_23 : decode cX4_fillSource 23 = .ok (.if_icmp .ge 31, 3) := by decide +kernel
theorem dX4_fillSource_26 : decode cX4_fillSource 26 = .ok (.iload 5, 2) := by decide +kernel
theorem dX4_fillSource_28 : decode cX4_fillSource 28 = .ok (.iload_n 2, 1) := by decide +kernel
theorem dX4_fillSource_29 : decode cX4_fillSource 29 = .ok (.if_icmp .gt 12, 3) := by decide +kernel
theorem dX4_fillSource_32 : decode cX4_fillSource 32 = .ok (.lload 7, 2) := by decide +kernel
theorem dX4_fillSource_34 : decode cX4_fillSource 34 = .ok (.lconst 1, 1) := by decide +kernel
theorem dX4_fillSource_35 : decode cX4_fillSource 35 = .ok (.iload 9, 2) := by decide +kernel
theorem dX4_fillSource_37 : decode cX4_fillSource 37 = .ok (.lshl, 1) := by decide +kernel
theorem dX4_fillSource_38 : decode cX4_fillSource 38 = .ok (.lor, 1) := by decide +kernel
theorem dX4_fillSource_39 : decode cX4_fillSource 39 = .ok (.lstore 7, 2) := by decide +kernel
theorem dX4_fillSource_41 : decode cX4_fillSource 41 = .ok (.iload 5, 2) := by decide +kernel
theorem dX4_fillSource_43 : decode cX4_fillSource 43 = .ok (.invokestatic 42, 3) := by decide +kernel
theorem dX4_fillSource_46 : decode cX4_fillSource 46 = .ok (.istore 5, 2) := by decide +kernel
theorem dX4_fillSource_48 : decode cX4_fillSource 48 = .ok (.iinc 9 1, 3) := by decide +kernel
theorem dX4_fillSource_51 : decode cX4_fillSource 51 = .ok (.goto (-32), 3) := by decide +kernel
theorem dX4_fillSource_54 : decode cX4_fillSource 54 = .ok (.aload_n 0, 1) := by decide +kernel
theorem dX4_fillSource_55 : decode cX4_fillSource 55 = .ok (.iload_n 1, 1) := by decide +kernel
theorem dX4_fillSource_56 : decode cX4_fillSource 56 = .ok (.iload 6, 2) := by decide +kernel
theorem dX4_fillSource_58 : decode cX4_fillSource 58 = .ok (.lload 7, 2) := by decide +kernel
theorem dX4_fillSource_60 : decode cX4_fillSource 60 = .ok (.invokevirtual 38, 3) := by decide +kernel
theorem dX4_fillSource_63 : decode cX4_fillSource 63 = .ok (.iinc 6 1, 3) := by decide +kernel
theorem dX4_fillSource_66 : decode cX4_fillSource 66 = .ok (.goto (-60), 3) := by decide +kernel
theorem dX4_fillSource_69 : decode cX4_fillSource 69 = .ok (.return_, 1) := by decide +kernel
theorem dX4_nextRegister_0 : decode cX4_nextRegister 0 = .ok (.iload_n 0, 1) := by decide +kernel
theorem dX4_nextRegister_1 : decode cX4_nextRegister 1 = .ok (.iconst 2, 1) := by decide +kernel
theorem dX4_nextRegister_2 : decode cX4_nextRegister 2 = .ok (.imul, 1) := by decide +kernel
theorem dX4_nextRegister_3 : decode cX4_nextRegister 3 = .ok (.istore_n 1, 1) := by decide +kernel
theorem dX4_nextRegister_4 : decode cX4_nextRegister 4 = .ok (.iload_n 1, 1) := by decide +kernel
theorem dX4_nextRegister_5 : decode cX4_nextRegister 5 = .ok (.sipush 256, 3) := by decide +kernel
theorem dX4_nextRegister_8 : decode cX4_nextRegister 8 = .ok (.if_icmp .ge 7, 3) := by decide +kernel
theorem dX4_nextRegister_11 : decode cX4_nextRegister 11 = .ok (.iload_n 1, 1) := by decide +kernel
theorem dX4_nextRegister_12 : decode cX4_nextRegister 12 = .ok (.goto 11, 3) := by decide +kernel
theorem dX4_nextRegister_15 : decode cX4_nextRegister 15 = .ok (.iload_n 1, 1) := by decide +kernel
theorem dX4_nextRegister_16 : decode cX4_nextRegister 16 = .ok (.sipush 256, 3) := by decide +kernel
theorem dX4_nextRegister_19 : decode cX4_nextRegister 19 = .ok (.isub, 1) := by decide +kernel
theorem dX4_nextRegister_20 : decode cX4_nextRegister 20 = .ok (.bipush 29, 2) := by decide +kernel
theorem dX4_nextRegister_22 : decode cX4_nextRegister 22 = .ok (.ixor, 1) := by decide +kernel
theorem dX4_nextRegister_23 : decode cX4_nextRegister 23 = .ok (.ireturn, 1) := by decide +kernel
theorem dX4_madeWord_0 : decode cX4_madeWord 0 = .ok (.aload_n 1, 1) := by decide +kernel
theorem dX4_madeWord_1 : decode cX4_madeWord 1 = .ok (.iload_n 2, 1) := by decide +kernel
theorem dX4_madeWord_2 : decode cX4_madeWord 2 = .ok (.iconst 1, 1) := by decide +kernel
theorem dX4_madeWord_3 : decode cX4_madeWord 3 = .ok (.invokevirtual 26, 3) := by decide +kernel
theorem dX4_madeWord_6 : decode cX4_madeWord 6 = .ok (.istore 4, 2) := by decide +kernel
theorem dX4_madeWord_8 : decode cX4_madeWord 8 = .ok (.aload_n 1, 1) := by decide +kernel
theorem dX4_madeWord_9 : decode cX4_madeWord 9 = .ok (.iload_n 2, 1) := by decide +kernel
theorem dX4_madeWord_10 : decode cX4_madeWord 10 = .ok (.iconst 2, 1) := by decide +kernel
theorem dX4_madeWord_11 : decode cX4_madeWord 11 = .ok (.invokevirtual 26, 3) := by decide +kernel
theorem dX4_madeWord_14 : decode cX4_madeWord 14 = .ok (.istore 5, 2) := by decide +kernel
theorem dX4_madeWord_16 : decode cX4_madeWord 16 = .ok (.aload_n 0, 1) := by decide +kernel
theorem dX4_madeWord_17 : decode cX4_madeWord 17 = .ok (.iload 4, 2) := by decide +kernel
theorem dX4_madeWord_19 : decode cX4_madeWord 19 = .ok (.iload_n 3, 1) := by decide +kernel
theorem dX4_madeWord_20 : decode cX4_madeWord 20 = .ok (.invokevirtual 45, 3) := by decide +kernel
theorem dX4_madeWord_23 : decode cX4_madeWord 23 = .ok (.lstore 6, 2) := by decide +kernel
theorem dX4_madeWord_25 : decode cX4_madeWord 25 = .ok (.aload_n 1, 1) := by decide +kernel
theorem dX4_madeWord_26 : decode cX4_madeWord 26 = .ok (.iload_n 2, 1) := by decide +kernel
theorem dX4_madeWord_27 : decode cX4_madeWord 27 = .ok (.invokevirtual 20, 3) := by decide +kernel
theorem dX4_madeWord_30 : decode cX4_madeWord 30 = .ok (.tableswitch 108 1 5 #[34, 45, 56, 67, 101], 34) := by decide +kernel
theorem dX4_madeWord_64 : decode cX4_madeWord 64 = .ok (.lload 6, 2) := by decide +kernel
theorem dX4_madeWord_66 : decode cX4_madeWord 66 = .ok (.aload_n 0, 1) := by decide +kernel
theorem dX4_madeWord_67 : decode cX4_madeWord 67 = .ok (.iload 5, 2) := by decide +kernel
theorem dX4_madeWord_69 : decode cX4_madeWord 69 = .ok (.iload_n 3, 1) := by decide +kernel
theorem dX4_madeWord_70 : decode cX4_madeWord 70 = .ok (.invokevirtual 45, 3) := by decide +kernel
theorem dX4_madeWord_73 : decode cX4_madeWord 73 = .ok (.land, 1) := by decide +kernel
theorem dX4_madeWord_74 : decode cX4_madeWord 74 = .ok (.lreturn, 1) := by decide +kernel
theorem dX4_madeWord_75 : decode cX4_madeWord 75 = .ok (.lload 6, 2) := by decide +kernel
theorem dX4_madeWord_77 : decode cX4_madeWord 77 = .ok (.aload_n 0, 1) := by decide +kernel
theorem dX4_madeWord_78 : decode cX4_madeWord 78 = .ok (.iload 5, 2) := by decide +kernel
theorem dX4_madeWord_80 : decode cX4_madeWord 80 = .ok (.iload_n 3, 1) := by decide +kernel
theorem dX4_madeWord_81 : decode cX4_madeWord 81 = .ok (.invokevirtual 45, 3) := by decide +kernel
theorem dX4_madeWord_84 : decode cX4_madeWord 84 = .ok (.lor, 1) := by decide +kernel
theorem dX4_madeWord_85 : decode cX4_madeWord 85 = .ok (.lreturn, 1) := by decide +kernel
theorem dX4_madeWord_86 : decode cX4_madeWord 86 = .ok (.lload 6, 2) := by decide +kernel
theorem dX4_madeWord_88 : decode cX4_madeWord 88 = .ok (.aload_n 0, 1) := by decide +kernel
theorem dX4_madeWord_89 : decode cX4_madeWord 89 = .ok (.iload 5, 2) := by decide +kernel
theorem dX4_madeWord_91 : decode cX4_madeWord 91 = .ok (.iload_n 3, 1) := by decide +kernel
theorem dX4_madeWord_92 : decode cX4_madeWord 92 = .ok (.invokevirtual 45, 3) := by decide +kernel
theorem dX4_madeWord_95 : decode cX4_madeWord 95 = .ok (.lxor, 1) := by decide +kernel
theorem dX4_madeWord_96 : decode cX4_madeWord 96 = .ok (.lreturn, 1) := by decide +kernel
theorem dX4_madeWord_97 : decode cX4_madeWord 97 = .ok (.aload_n 0, 1) := by decide +kernel
theorem dX4_madeWord_98 : decode cX4_madeWord 98 = .ok (.aload_n 1, 1) := by decide +kernel
theorem dX4_madeWord_99 : decode cX4_madeWord 99 = .ok (.iload_n 2, 1) := by decide +kernel
theorem dX4_madeWord_100 : decode cX4_madeWord 100 = .ok (.iconst 3, 1) := by decide +kernel
theorem dX4_madeWord_101 : decode cX4_madeWord 101 = .ok (.invokevirtual 26, 3) := by decide +kernel
theorem dX4_madeWord_104 : decode cX4_madeWord 104 = .ok (.iload_n 3, 1) := by decide +kernel
theorem dX4_madeWord_105 : decode cX4_madeWord 105 = .ok (.invokevirtual 45, 3) := by decide +kernel
theorem dX4_madeWord_108 : decode cX4_madeWord 108 = .ok (.lstore 8, 2) := by decide +kernel
theorem dX4_madeWord_110 : decode cX4_madeWord 110 = .ok (.lload 6, 2) := by decide +kernel
theorem dX4_madeWord_112 : decode cX4_madeWord 112 = .ok (.lload 8, 2) := by decide +kernel
theorem dX4_madeWord_114 : decode cX4_madeWord 114 = .ok (.land, 1) := by decide +kernel
theorem dX4_madeWord_115 : decode cX4_madeWord 115 = .ok (.aload_n 0, 1) := by decide +kernel
theorem dX4_madeWord_116 : decode cX4_madeWord 116 = .ok (.iload 5, 2) := by decide +kernel
theorem dX4_madeWord_118 : decode cX4_madeWord 118 = .ok (.iload_n 3, 1) := by decide +kernel
theorem dX4_madeWord_119 : decode cX4_madeWord 119 = .ok (.invokevirtual 45, 3) := by decide +kernel
theorem dX4_madeWord_122 : decode cX4_madeWord 122 = .ok (.lload 8, 2) := by decide +kernel
theorem dX4_madeWord_124 : decode cX4_madeWord 124 = .ok (.ldc2_w 49, 3) := by decide +kernel
theorem dX4_madeWord_127 : decode cX4_madeWord 127 = .ok (.lxor, 1) := by decide +kernel
theorem dX4_madeWord_128 : decode cX4_madeWord 128 = .ok (.land, 1) := by decide +kernel
theorem dX4_madeWord_129 : decode cX4_madeWord 129 = .ok (.lor, 1) := by decide +kernel
theorem dX4_madeWord_130 : decode cX4_madeWord 130 = .ok (.lreturn, 1) := by decide +kernel
theorem dX4_madeWord_131 : decode cX4_madeWord 131 = .ok (.lload 6, 2) := by decide +kernel
theorem dX4_madeWord_133 : decode cX4_madeWord 133 = .ok (.ldc2_w 49, 3) := by decide +kernel
theorem dX4_madeWord_136 : decode cX4_madeWord 136 = .ok (.lxor, 1) := by decide +kernel
theorem dX4_madeWord_137 : decode cX4_madeWord 137 = .ok (.lreturn, 1) := by decide +kernel
theorem dX4_madeWord_138 : decode cX4_madeWord 138 = .ok (.lload 6, 2) := by decide +kernel
theorem dX4_madeWord_140 : decode cX4_madeWord 140 = .ok (.iload 5, 2) := by decide +kernel
theorem dX4_madeWord_142 : decode cX4_madeWord 142 = .ok (.lshl, 1) := by decide +kernel
theorem dX4_madeWord_143 : decode cX4_madeWord 143 = .ok (.aload_n 0, 1) := by decide +kernel
theorem dX4_madeWord_144 : decode cX4_madeWord 144 = .ok (.iload 4, 2) := by decide +kernel
theorem dX4_madeWord_146 : decode cX4_madeWord 146 = .ok (.iload_n 3, 1) := by decide +kernel
theorem dX4_madeWord_147 : decode cX4_madeWord 147 = .ok (.iconst 1, 1) := by decide +kernel
theorem dX4_madeWord_148 : decode cX4_madeWord 148 = .ok (.isub, 1) := by decide +kernel
theorem dX4_madeWord_149 : decode cX4_madeWord 149 = .ok (.invokevirtual 45, 3) := by decide +kernel
theorem dX4_madeWord_152 : decode cX4_madeWord 152 = .ok (.bipush 64, 2) := by decide +kernel
theorem dX4_madeWord_154 : decode cX4_madeWord 154 = .ok (.iload 5, 2) := by decide +kernel
theorem dX4_madeWord_156 : decode cX4_madeWord 156 = .ok (.isub, 1) := by decide +kernel
theorem dX4_madeWord_157 : decode cX4_madeWord 157 = .ok (.lushr, 1) := by decide +kernel
theorem dX4_madeWord_158 : decode cX4_madeWord 158 = .ok (.lor, 1) := by decide +kernel
theorem dX4_madeWord_159 : decode cX4_madeWord 159 = .ok (.lreturn, 1) := by decide +kernel
theorem dX4_bitAt_0 : decode cX4_bitAt 0 = .ok (.aload_n 0, 1) := by decide +kernel
theorem dX4_bitAt_1 : decode cX4_bitAt 1 = .ok (.iload_n 1, 1) := by decide +kernel
theorem dX4_bitAt_2 : decode cX4_bitAt 2 = .ok (.iload_n 2, 1) := by decide +kernel
theorem dX4_bitAt_3 : decode cX4_bitAt 3 = .ok (.bipush 64, 2) := by decide +kernel
theorem dX4_bitAt_5 : decode cX4_bitAt 5 = .ok (.idiv, 1) := by decide +kernel
theorem dX4_bitAt_6 : decode cX4_bitAt 6 = .ok (.invokevirtual 45, 3) := by decide +kernel
theorem dX4_bitAt_9 : decode cX4_bitAt 9 = .ok (.iload_n 2, 1) := by decide +kernel
theorem dX4_bitAt_10 : decode cX4_bitAt 10 = .ok (.bipush 64, 2) := by decide +kernel
theorem dX4_bitAt_12 : decode cX4_bitAt 12 = .ok (.irem, 1) := by decide +kernel
theorem dX4_bitAt_13 : decode cX4_bitAt 13 = .ok (.lushr, 1) := by decide +kernel
theorem dX4_bitAt_14 : decode cX4_bitAt 14 = .ok (.l2i, 1) := by decide +kernel
theorem dX4_bitAt_15 : decode cX4_bitAt 15 = .ok (.iconst 1, 1) := by decide +kernel
theorem dX4_bitAt_16 : decode cX4_bitAt 16 = .ok (.iand, 1) := by decide +kernel
theorem dX4_bitAt_17 : decode cX4_bitAt 17 = .ok (.ireturn, 1) := by decide +kernel
theorem dX4_onesIn_0 : decode cX4_onesIn 0 = .ok (.aload_n 0, 1) := by decide +kernel
theorem dX4_onesIn_1 : decode cX4_onesIn 1 = .ok (.iload_n 1, 1) := by decide +kernel
theorem dX4_onesIn_2 : decode cX4_onesIn 2 = .ok (.iload_n 1, 1) := by decide +kernel
theorem dX4_onesIn_3 : decode cX4_onesIn 3 = .ok (.iload_n 2, 1) := by decide +kernel
theorem dX4_onesIn_4 : decode cX4_onesIn 4 = .ok (.invokevirtual 51, 3) := by decide +kernel
theorem dX4_onesIn_7 : decode cX4_onesIn 7 = .ok (.ireturn, 1) := by decide +kernel
theorem dX4_onesInBoth_0 : decode cX4_onesInBoth 0 = .ok (.iconst 0, 1) := by decide +kernel
theorem dX4_onesInBoth_1 : decode cX4_onesInBoth 1 = .ok (.istore 4, 2) := by decide +kernel
theorem dX4_onesInBoth_3 : decode cX4_onesInBoth 3 = .ok (.iload_n 3, 1) := by decide +kernel
theorem dX4_onesInBoth_4 : decode cX4_onesInBoth 4 = .ok (.bipush 64, 2) := by decide +kernel
theorem dX4_onesInBoth_6 : decode cX4_onesInBoth 6 = .ok (.idiv, 1) := by decide +kernel
theorem dX4_onesInBoth_7 : decode cX4_onesInBoth 7 = .ok (.istore 5, 2) := by decide +kernel
theorem dX4_onesInBoth_9 : decode cX4_onesInBoth 9 = .ok (.iconst 0, 1) := by decide +kernel
theorem dX4_onesInBoth_10 : decode cX4_onesInBoth 10 = .ok (.istore 6, 2) := by decide +kernel
theorem dX4_onesInBoth_12 : decode cX4_onesInBoth 12 = .ok (.iload 6, 2) := by decide +kernel
theorem dX4_onesInBoth_14 : decode cX4_onesInBoth 14 = .ok (.iload 5, 2) := by decide +kernel
theorem dX4_onesInBoth_16 : decode cX4_onesInBoth 16 = .ok (.if_icmp .ge 32, 3) := by decide +kernel
theorem dX4_onesInBoth_19 : decode cX4_onesInBoth 19 = .ok (.iload 4, 2) := by decide +kernel
theorem dX4_onesInBoth_21 : decode cX4_onesInBoth 21 = .ok (.aload_n 0, 1) := by decide +kernel
theorem dX4_onesInBoth_22 : decode cX4_onesInBoth 22 = .ok (.iload_n 1, 1) := by decide +kernel
theorem dX4_onesInBoth_23 : decode cX4_onesInBoth 23 = .ok (.iload 6, 2) := by decide +kernel
theorem dX4_onesInBoth_25 : decode cX4_onesInBoth 25 = .ok (.invokevirtual 45, 3) := by decide +kernel
theorem dX4_onesInBoth_28 : decode cX4_onesInBoth 28 = .ok (.aload_n 0, 1) := by decide +kernel
theorem dX4_onesInBoth_29 : decode cX4_onesInBoth 29 = .ok (.iload_n 2, 1) := by decide +kernel
theorem dX4_onesInBoth_30 : decode cX4_onesInBoth 30 = .ok (.iload 6, 2) := by decide +kernel
theorem dX4_onesInBoth_32 : decode cX4_onesInBoth 32 = .ok (.invokevirtual 45, 3) := by decide +kernel
theorem dX4_onesInBoth_35 : decode cX4_onesInBoth 35 = .ok (.land, 1) := by decide +kernel
theorem dX4_onesInBoth_36 : decode cX4_onesInBoth 36 = .ok (.invokestatic 55, 3) := by decide +kernel
theorem dX4_onesInBoth_39 : decode cX4_onesInBoth 39 = .ok (.iadd, 1) := by decide +kernel
theorem dX4_onesInBoth_40 : decode cX4_onesInBoth 40 = .ok (.istore 4, 2) := by decide +kernel
theorem dX4_onesInBoth_42 : decode cX4_onesInBoth 42 = .ok (.iinc 6 1, 3) := by decide +kernel
theorem dX4_onesInBoth_45 : decode cX4_onesInBoth 45 = .ok (.goto (-33), 3) := by decide +kernel
theorem dX4_onesInBoth_48 : decode cX4_onesInBoth 48 = .ok (.lconst 1, 1) := by decide +kernel
theorem dX4_onesInBoth_49 : decode cX4_onesInBoth 49 = .ok (.iload_n 3, 1) := by decide +kernel
theorem dX4_onesInBoth_50 : decode cX4_onesInBoth 50 = .ok (.bipush 64, 2) := by decide +kernel
theorem dX4_onesInBoth_52 : decode cX4_onesInBoth 52 = .ok (.irem, 1) := by decide +kernel
theorem dX4_onesInBoth_53 : decode cX4_onesInBoth 53 = .ok (.lshl, 1) := by decide +kernel
theorem dX4_onesInBoth_54 : decode cX4_onesInBoth 54 = .ok (.lconst 1, 1) := by decide +kernel
theorem dX4_onesInBoth_55 : decode cX4_onesInBoth 55 = .ok (.lsub, 1) := by decide +kernel
theorem dX4_onesInBoth_56 : decode cX4_onesInBoth 56 = .ok (.lstore 6, 2) := by decide +kernel
theorem dX4_onesInBoth_58 : decode cX4_onesInBoth 58 = .ok (.iload 4, 2) := by decide +kernel
theorem dX4_onesInBoth_60 : decode cX4_onesInBoth 60 = .ok (.aload_n 0, 1) := by decide +kernel
theorem dX4_onesInBoth_61 : decode cX4_onesInBoth 61 = .ok (.iload_n 1, 1) := by decide +kernel
theorem dX4_onesInBoth_62 : decode cX4_onesInBoth 62 = .ok (.iload 5, 2) := by decide +kernel
theorem dX4_onesInBoth_64 : decode cX4_onesInBoth 64 = .ok (.invokevirtual 45, 3) := by decide +kernel
theorem dX4_onesInBoth_67 : decode cX4_onesInBoth 67 = .ok (.aload_n 0, 1) := by decide +kernel
theorem dX4_onesInBoth_68 : decode cX4_onesInBoth 68 = .ok (.iload_n 2, 1) := by decide +kernel
theorem dX4_onesInBoth_69 : decode cX4_onesInBoth 69 = .ok (.iload 5, 2) := by decide +kernel
theorem dX4_onesInBoth_71 : decode cX4_onesInBoth 71 = .ok (.invokevirtual 45, 3) := by decide +kernel
theorem dX4_onesInBoth_74 : decode cX4_onesInBoth 74 = .ok (.land, 1) := by decide +kernel
theorem dX4_onesInBoth_75 : decode cX4_onesInBoth 75 = .ok (.lload 6, 2) := by decide +kernel
theorem dX4_onesInBoth_77 : decode cX4_onesInBoth 77 = .ok (.land, 1) := by decide +kernel
theorem dX4_onesInBoth_78 : decode cX4_onesInBoth 78 = .ok (.invokestatic 55, 3) := by decide +kernel
theorem dX4_onesInBoth_81 : decode cX4_onesInBoth 81 = .ok (.iadd, 1) := by decide +kernel
theorem dX4_onesInBoth_82 : decode cX4_onesInBoth 82 = .ok (.ireturn, 1) := by decide +kernel
theorem dX4_wordAt_0 : decode cX4_wordAt 0 = .ok (.iload_n 1, 1) := by decide +kernel
theorem dX4_wordAt_1 : decode cX4_wordAt 1 = .ok (.ifCond .lt 12, 3) := by decide +kernel
theorem dX4_wordAt_4 : decode cX4_wordAt 4 = .ok (.iload_n 1, 1) := by decide +kernel
theorem dX4_wordAt_5 : decode cX4_wordAt 5 = .ok (.aload_n 0, 1) := by decide +kernel
theorem dX4_wordAt_6 : decode cX4_wordAt 6 = .ok (.getfield 11, 3) := by decide +kernel
theorem dX4_wordAt_9 : decode cX4_wordAt 9 = .ok (.arraylength, 1) := by decide +kernel
theorem dX4_wordAt_10 : decode cX4_wordAt 10 = .ok (.if_icmp .lt 5, 3) := by decide +kernel
theorem dX4_wordAt_13 : decode cX4_wordAt 13 = .ok (.lconst 0, 1) := by decide +kernel
theorem dX4_wordAt_14 : decode cX4_wordAt 14 = .ok (.lreturn, 1) := by decide +kernel
theorem dX4_wordAt_15 : decode cX4_wordAt 15 = .ok (.aload_n 0, 1) := by decide +kernel
theorem dX4_wordAt_16 : decode cX4_wordAt 16 = .ok (.getfield 11, 3) := by decide +kernel
theorem dX4_wordAt_19 : decode cX4_wordAt 19 = .ok (.iload_n 1, 1) := by decide +kernel
theorem dX4_wordAt_20 : decode cX4_wordAt 20 = .ok (.aaload, 1) := by decide +kernel
theorem dX4_wordAt_21 : decode cX4_wordAt 21 = .ok (.astore_n 3, 1) := by decide +kernel
theorem dX4_wordAt_22 : decode cX4_wordAt 22 = .ok (.iload_n 2, 1) := by decide +kernel
theorem dX4_wordAt_23 : decode cX4_wordAt 23 = .ok (.ifCond .lt 9, 3) := by decide +kernel
theorem dX4_wordAt_26 : decode cX4_wordAt 26 = .ok (.iload_n 2, 1) := by decide +kernel
theorem dX4_wordAt_27 : decode cX4_wordAt 27 = .ok (.aload_n 3, 1) := by decide +kernel
theorem dX4_wordAt_28 : decode cX4_wordAt 28 = .ok (.arraylength, 1) := by decide +kernel
theorem dX4_wordAt_29 : decode cX4_wordAt 29 = .ok (.if_icmp .lt 7, 3) := by decide +kernel
theorem dX4_wordAt_32 : decode cX4_wordAt 32 = .ok (.lconst 0, 1) := by decide +kernel
theorem dX4_wordAt_33 : decode cX4_wordAt 33 = .ok (.goto 6, 3) := by decide +kernel
theorem dX4_wordAt_36 : decode cX4_wordAt 36 = .ok (.aload_n 3, 1) := by decide +kernel
theorem dX4_wordAt_37 : decode cX4_wordAt 37 = .ok (.iload_n 2, 1) := by decide +kernel
theorem dX4_wordAt_38 : decode cX4_wordAt 38 = .ok (.laload, 1) := by decide +kernel
theorem dX4_wordAt_39 : decode cX4_wordAt 39 = .ok (.lreturn, 1) := by decide +kernel
theorem dX4_setWord_0 : decode cX4_setWord 0 = .ok (.iload_n 1, 1) := by decide +kernel
theorem dX4_setWord_1 : decode cX4_setWord 1 = .ok (.ifCond .lt 12, 3) := by decide +kernel
theorem dX4_setWord_4 : decode cX4_setWord 4 = .ok (.iload_n 1, 1) := by decide +kernel
theorem dX4_setWord_5 : decode cX4_setWord 5 = .ok (.aload_n 0, 1) := by decide +kernel
theorem dX4_setWord_6 : decode cX4_setWord 6 = .ok (.getfield 11, 3) := by decide +kernel
theorem dX4_setWord_9 : decode cX4_setWord 9 = .ok (.arraylength, 1) := by decide +kernel
theorem dX4_setWord_10 : decode cX4_setWord 10 = .ok (.if_icmp .lt 4, 3) := by decide +kernel
theorem dX4_setWord_13 : decode cX4_setWord 13 = .ok (.return_, 1) := by decide +kernel
theorem dX4_setWord_14 : decode cX4_setWord 14 = .ok (.aload_n 0, 1) := by decide +kernel
theorem dX4_setWord_15 : decode cX4_setWord 15 = .ok (.getfield 11, 3) := by decide +kernel
theorem dX4_setWord_18 : decode cX4_setWord 18 = .ok (.iload_n 1, 1) := by decide +kernel
theorem dX4_setWord_19 : decode cX4_setWord 19 = .ok (.aaload, 1) := by decide +kernel
theorem dX4_setWord_20 : decode cX4_setWord 20 = .ok (.astore 5, 2) := by decide +kernel
theorem dX4_setWord_22 : decode cX4_setWord 22 = .ok (.iload_n 2, 1) := by decide +kernel
theorem dX4_setWord_23 : decode cX4_setWord 23 = .ok (.ifCond .lt 15, 3) := by decide +kernel
theorem dX4_setWord_26 : decode cX4_setWord 26 = .ok (.iload_n 2, 1) := by decide +kernel
theorem dX4_setWord_27 : decode cX4_setWord 27 = .ok (.aload 5, 2) := by decide +kernel
theorem dX4_setWord_29 : decode cX4_setWord 29 = .ok (.arraylength, 1) := by decide +kernel
theorem dX4_setWord_30 : decode cX4_setWord 30 = .ok (.if_icmp .ge 8, 3) := by decide +kernel
theorem dX4_setWord_33 : decode cX4_setWord 33 = .ok (.aload 5, 2) := by decide +kernel
theorem dX4_setWord_35 : decode cX4_setWord 35 = .ok (.iload_n 2, 1) := by decide +kernel
theorem dX4_setWord_36 : decode cX4_setWord 36 = .ok (.lload_n 3, 1) := by decide +kernel
theorem dX4_setWord_37 : decode cX4_setWord 37 = .ok (.lastore, 1) := by decide +kernel
theorem dX4_setWord_38 : decode cX4_setWord 38 = .ok (.return_, 1) := by decide +kernel
