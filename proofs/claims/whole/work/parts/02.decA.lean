theorem dX0_init_0 : decode cX0_init 0 = .ok (.aload_n 0, 1) := by decide +kernel
theorem dX0_init_1 : decode cX0_init 1 = .ok (.invokespecial 3, 3) := by decide +kernel
theorem dX0_init_4 : decode cX0_init 4 = .ok (.aload_n 0, 1) := by decide +kernel
theorem dX0_init_5 : decode cX0_init 5 = .ok (.sipush 256, 3) := by decide +kernel
theorem dX0_init_8 : decode cX0_init 8 = .ok (.putfield 9, 3) := by decide +kernel
theorem dX0_init_11 : decode cX0_init 11 = .ok (.aload_n 0, 1) := by decide +kernel
theorem dX0_init_12 : decode cX0_init 12 = .ok (.iconst 0, 1) := by decide +kernel
theorem dX0_init_13 : decode cX0_init 13 = .ok (.putfield 15, 3) := by decide +kernel
theorem dX0_init_16 : decode cX0_init 16 = .ok (.aload_n 0, 1) := by decide +kernel
theorem dX0_init_17 : decode cX0_init 17 = .ok (.bipush 16, 2) := by decide +kernel
theorem dX0_init_19 : decode cX0_init 19 = .ok (.newarray .int, 2) := by decide +kernel
theorem dX0_init_21 : decode cX0_init 21 = .ok (.putfield 18, 3) := by decide +kernel
theorem dX0_init_24 : decode cX0_init 24 = .ok (.aload_n 0, 1) := by decide +kernel
theorem dX0_init_25 : decode cX0_init 25 = .ok (.bipush 48, 2) := by decide +kernel
theorem dX0_init_27 : decode cX0_init 27 = .ok (.newarray .int, 2) := by decide +kernel
theorem dX0_init_29 : decode cX0_init 29 = .ok (.putfield 22, 3) := by decide +kernel
theorem dX0_init_32 : decode cX0_init 32 = .ok (.return_, 1) := by decide +kernel
theorem dX0_has_0 : decode cX0_has 0 = .ok (.iload_n 1, 1) := by decide +kernel
theorem dX0_has_1 : decode cX0_has 1 = .ok (.ifCond .lt 15, 3) := by decide +kernel
theorem dX0_has_4 : decode cX0_has 4 = .ok (.iload_n 1, 1) := by decide +kernel
theorem dX0_has_5 : decode cX0_has 5 = .ok (.aload_n 0, 1) := by decide +kernel
theorem dX0_has_6 : decode cX0_has 6 = .ok (.getfield 15, 3) := by decide +kernel
theorem dX0_has_9 : decode cX0_has 9 = .ok (.if_icmp .ge 7, 3) := by decide +kernel
theorem dX0_has_12 : decode cX0_has 12 = .ok (.iconst 1, 1) := by decide +kernel
theorem dX0_has_13 : decode cX0_has 13 = .ok (.goto 4, 3) := by decide +kernel
theorem dX0_has_16 : decode cX0_has 16 = .ok (.iconst 0, 1) := by decide +kernel
theorem dX0_has_17 : decode cX0_has 17 = .ok (.ireturn, 1) := by decide +kernel
theorem dX0_kindOf_0 : decode cX0_kindOf 0 = .ok (.aload_n 0, 1) := by decide +kernel
theorem dX0_kindOf_1 : decode cX0_kindOf 1 = .ok (.getfield 18, 3) := by decide +kernel
theorem dX0_kindOf_4 : decode cX0_kindOf 4 = .ok (.iload_n 1, 1) := by decide +kernel
theorem dX0_kindOf_5 : decode cX0_kindOf 5 = .ok (.invokestatic 25, 3) := by decide +kernel
theorem dX0_kindOf_8 : decode cX0_kindOf 8 = .ok (.ireturn, 1) := by decide +kernel
theorem dX0_numberOf_0 : decode cX0_numberOf 0 = .ok (.aload_n 0, 1) := by decide +kernel
theorem dX0_numberOf_1 : decode cX0_numberOf 1 = .ok (.getfield 22, 3) := by decide +kernel
theorem dX0_numberOf_4 : decode cX0_numberOf 4 = .ok (.iload_n 1, 1) := by decide +kernel
theorem dX0_numberOf_5 : decode cX0_numberOf 5 = .ok (.iconst 3, 1) := by decide +kernel
theorem dX0_numberOf_6 : decode cX0_numberOf 6 = .ok (.imul, 1) := by decide +kernel
theorem dX0_numberOf_7 : decode cX0_numberOf 7 = .ok (.iload_n 2, 1) := by decide +kernel
theorem dX0_numberOf_8 : decode cX0_numberOf 8 = .ok (.iadd, 1) := by decide +kernel
theorem dX0_numberOf_9 : decode cX0_numberOf 9 = .ok (.iconst 1, 1) := by decide +kernel
theorem dX0_numberOf_10 : decode cX0_numberOf 10 = .ok (.isub, 1) := by decide +kernel
theorem dX0_numberOf_11 : decode cX0_numberOf 11 = .ok (.invokestatic 25, 3) := by decide +kernel
theorem dX0_numberOf_14 : decode cX0_numberOf 14 = .ok (.ireturn, 1) := by decide +kernel
theorem dX0_setNumber_0 : decode cX0_setNumber 0 = .ok (.aload_n 0, 1) := by decide +kernel
theorem dX0_setNumber_1 : decode cX0_setNumber 1 = .ok (.getfield 22, 3) := by decide +kernel
theorem dX0_setNumber_4 : decode cX0_setNumber 4 = .ok (.iload_n 1, 1) := by decide +kernel
theorem dX0_setNumber_5 : decode cX0_setNumber 5 = .ok (.iconst 3, 1) := by decide +kernel
theorem dX0_setNumber_6 : decode cX0_setNumber 6 = .ok (.imul, 1) := by decide +kernel
theorem dX0_setNumber_7 : decode cX0_setNumber 7 = .ok (.iload_n 2, 1) := by decide +kernel
theorem dX0_setNumber_8 : decode cX0_setNumber 8 = .ok (.iadd, 1) := by decide +kernel
theorem dX0_setNumber_9 : decode cX0_setNumber 9 = .ok (.iconst 1, 1) := by decide +kernel
theorem dX0_setNumber_10 : decode cX0_setNumber 10 = .ok (.isub, 1) := by decide +kernel
theorem dX0_setNumber_11 : decode cX0_setNumber 11 = .ok (.iload_n 3, 1) := by decide +kernel
theorem dX0_setNumber_12 : decode cX0_setNumber 12 = .ok (.invokestatic 29, 3) := by decide +kernel
theorem dX0_setNumber_15 : decode cX0_setNumber 15 = .ok (.return_, 1) := by decide +kernel
theorem dX0_sources_0 : decode cX0_sources 0 = .ok (.iconst 0, 1) := by decide +kernel
theorem dX0_sources_1 : decode cX0_sources 1 = .ok (.istore_n 1, 1) := by decide +kernel
theorem dX0_sources_2 : decode cX0_sources 2 = .ok (.iconst 0, 1) := by decide +kernel
theorem dX0_sources_3 : decode cX0_sources 3 = .ok (.istore_n 2, 1) := by decide +kernel
theorem dX0_sources_4 : decode cX0_sources 4 = .ok (.iload_n 2, 1) := by decide +kernel
theorem dX0_sources_5 : decode cX0_sources 5 = .ok (.aload_n 0, 1) := by decide +kernel
theorem dX0_sources_6 : decode cX0_sources 6 = .ok (.getfield 15, 3) := by decide +kernel
theorem dX0_sources_9 : decode cX0_sources 9 = .ok (.if_icmp .ge 20, 3) := by decide +kernel
theorem dX0_sources_12 : decode cX0_sources 12 = .ok (.aload_n 0, 1) := by decide +kernel
theorem dX0_sources_13 : decode cX0_sources 13 = .ok (.iload_n 2, 1) := by decide +kernel
theorem dX0_sources_14 : decode cX0_sources 14 = .ok (.invokevirtual 33, 3) := by decide +kernel
theorem dX0_sources_17 : decode cX0_sources 17 = .ok (.ifCond .ne 6, 3) := by decide +kernel
theorem dX0_sources_20 : decode cX0_sources 20 = .ok (.iinc 1 1, 3) := by decide +kernel
theorem dX0_sources_23 : decode cX0_sources 23 = .ok (.iinc 2 1, 3) := by decide +kernel
theorem dX0_sources_26 : decode cX0_sources 26 = .ok (.goto (-22), 3) := by decide +kernel
theorem dX0_sources_29 : decode cX0_sources 29 = .ok (.iload_n 1, 1) := by decide +kernel
theorem dX0_sources_30 : decode cX0_sources 30 = .ok (.ireturn, 1) := by decide +kernel
theorem dX0_add_0 : decode cX0_add 0 = .ok (.aload_n 0, 1) := by decide +kernel
theorem dX0_add_1 : decode cX0_add 1 = .ok (.getfield 15, 3) := by decide +kernel
theorem dX0_add_4 : decode cX0_add 4 = .ok (.bipush 16, 2) := by decide +kernel
theorem dX0_add_6 : decode cX0_add 6 = .ok (.if_icmp .lt 4, 3) := by decide +kernel
theorem dX0_add_9 : decode cX0_add 9 = .ok (.return_, 1) := by decide +kernel
theorem dX0_add_10 : decode cX0_add 10 = .ok (.aload_n 0, 1) := by decide +kernel
theorem dX0_add_11 : decode cX0_add 11 = .ok (.getfield 18, 3) := by decide +kernel
theorem dX0_add_14 : decode cX0_add 14 = .ok (.aload_n 0, 1) := by decide +kernel
theorem dX0_add_15 : decode cX0_add 15 = .ok (.getfield 15, 3) := by decide +kernel
theorem dX0_add_18 : decode cX0_add 18 = .ok (.iload_n 1, 1) := by decide +kernel
theorem dX0_add_19 : decode cX0_add 19 = .ok (.invokestatic 29, 3) := by decide +kernel
theorem dX0_add_22 : decode cX0_add 22 = .ok (.aload_n 0, 1) := by decide +kernel
theorem dX0_add_23 : decode cX0_add 23 = .ok (.aload_n 0, 1) := by decide +kernel
theorem dX0_add_24 : decode cX0_add 24 = .ok (.getfield 15, 3) := by decide +kernel
theorem dX0_add_27 : decode cX0_add 27 = .ok (.iconst 1, 1) := by decide +kernel
theorem dX0_add_28 : decode cX0_add 28 = .ok (.iload_n 2, 1) := by decide +kernel
theorem dX0_add_29 : decode cX0_add 29 = .ok (.invokevirtual 37, 3) := by decide +kernel
theorem dX0_add_32 : decode cX0_add 32 = .ok (.aload_n 0, 1) := by decide +kernel
theorem dX0_add_33 : decode cX0_add 33 = .ok (.aload_n 0, 1) := by decide +kernel
theorem dX0_add_34 : decode cX0_add 34 = .ok (.getfield 15, 3) := by decide +kernel
theorem dX0_add_37 : decode cX0_add 37 = .ok (.iconst 2, 1) := by decide +kernel
theorem dX0_add_38 : decode cX0_add 38 = .ok (.iload_n 3, 1) := by decide +kernel
theorem dX0_add_39 : decode cX0_add 39 = .ok (.invokevirtual 37, 3) := by decide +kernel
theorem dX0_add_42 : decode cX0_add 42 = .ok (.aload_n 0, 1) := by decide +kernel
theorem dX0_add_43 : decode cX0_add 43 = .ok (.aload_n 0, 1) := by decide +kernel
theorem dX0_add_44 : decode cX0_add 44 = .ok (.getfield 15, 3) := by decide +kernel
theorem dX0_add_47 : decode cX0_add 47 = .ok (.iconst 3, 1) := by decide +kernel
theorem dX0_add_48 : decode cX0_add 48 = .ok (.iload 4, 2) := by decide +kernel
theorem dX0_add_50 : decode cX0_add 50 = .ok (.invokevirtual 37, 3) := by decide +kernel
theorem dX0_add_53 : decode cX0_add 53 = .ok (.aload_n 0, 1) := by decide +kernel
theorem dX0_add_54 : decode cX0_add 54 = .ok (.dup, 1) := by decide +kernel
theorem dX0_add_55 : decode cX0_add 55 = .ok (.getfield 15, 3) := by decide +kernel
theorem dX0_add_58 : decode cX0_add 58 = .ok (.iconst 1, 1) := by decide +kernel
theorem dX0_add_59 : decode cX0_add 59 = .ok (.iadd, 1) := by decide +kernel
theorem dX0_add_60 : decode cX0_add 60 = .ok (.putfield 15, 3) := by decide +kernel
theorem dX0_add_63 : decode cX0_add 63 = .ok (.return_, 1) := by decide +kernel
theorem dX0_addAll_0 : decode cX0_addAll 0 = .ok (.iconst 0, 1) := by decide +kernel
theorem dX0_addAll_1 : decode cX0_addAll 1 = .ok (.istore_n 2, 1) := by decide +kernel
theorem dX0_addAll_2 : decode cX0_addAll 2 = .ok (.iload_n 2, 1) := by decide +kernel
theorem dX0_addAll_3 : decode cX0_addAll 3 = .ok (.aload_n 1, 1) := by decide +kernel
theorem dX0_addAll_4 : decode cX0_addAll 4 = .ok (.getfield 15, 3) := by decide +kernel
theorem dX0_addAll_7 : decode cX0_addAll 7 = .ok (.if_icmp .ge 36, 3) := by decide +kernel
theorem dX0_addAll_10 : decode cX0_addAll 10 = .ok (.aload_n 0, 1) := by decide +kernel
theorem dX0_addAll_11 : decode cX0_addAll 11 = .ok (.aload_n 1, 1) := by decide +kernel
theorem dX0_addAll_12 : decode cX0_addAll 12 = .ok (.iload_n 2, 1) := by decide +kernel
theorem dX0_addAll_13 : decode cX0_addAll 13 = .ok (.invokevirtual 33, 3) := by decide +kernel
theorem dX0_addAll_16 : decode cX0_addAll 16 = .ok (.aload_n 1, 1) := by decide +kernel
theorem dX0_addAll_17 : decode cX0_addAll 17 = .ok (.iload_n 2, 1) := by decide +kernel
theorem dX0_addAll_18 : decode cX0_addAll 18 = .ok (.iconst 1, 1) := by decide +kernel
theorem dX0_addAll_19 : decode cX0_addAll 19 = .ok (.invokevirtual 41, 3) := by decide +kernel
theorem dX0_addAll_22 : decode cX0_addAll 22 = .ok (.aload_n 1, 1) := by decide +kernel
theorem dX0_addAll_23 : decode cX0_addAll 23 = .ok (.iload_n 2, 1) := by decide +kernel
theorem dX0_addAll_24 : decode cX0_addAll 24 = .ok (.iconst 2, 1) := by decide +kernel
theorem dX0_addAll_25 : decode cX0_addAll 25 = .ok (.invokevirtual 41, 3) := by decide +kernel
theorem dX0_addAll_28 : decode cX0_addAll 28 = .ok (.aload_n 1, 1) := by decide +kernel
theorem dX0_addAll_29 : decode cX0_addAll 29 = .ok (.iload_n 2, 1) := by decide +kernel
theorem dX0_addAll_30 : decode cX0_addAll 30 = .ok (.iconst 3, 1) := by decide +kernel
theorem dX0_addAll_31 : decode cX0_addAll 31 = .ok (.invokevirtual 41, 3) := by decide +kernel
theorem dX0_addAll_34 : decode cX0_addAll 34 = .ok (.invokevirtual 45, 3) := by decide +kernel
theorem dX0_addAll_37 : decode cX0_addAll 37 = .ok (.iinc 2 1, 3) := by decide +kernel
theorem dX0_addAll_40 : decode cX0_addAll 40 = .ok (.goto (-38), 3) := by decide +kernel
theorem dX0_addAll_43 : decode cX0_addAll 43 = .ok (.return_, 1) := by decide +kernel
theorem dX0_setSource_0 : decode cX0_setSource 0 = .ok (.aload_n 0, 1) := by decide +kernel
theorem dX0_setSource_1 : decode cX0_setSource 1 = .ok (.iload_n 1, 1) := by decide +kernel
theorem dX0_setSource_2 : decode cX0_setSource 2 = .ok (.iconst 1, 1) := by decide +kernel
theorem dX0_setSource_3 : decode cX0_setSource 3 = .ok (.iload_n 2, 1) := by decide +kernel
theorem dX0_setSource_4 : decode cX0_setSource 4 = .ok (.invokevirtual 37, 3) := by decide +kernel
theorem dX0_setSource_7 : decode cX0_setSource 7 = .ok (.aload_n 0, 1) := by decide +kernel
theorem dX0_setSource_8 : decode cX0_setSource 8 = .ok (.iload_n 1, 1) := by decide +kernel
theorem dX0_setSource_9 : decode cX0_setSource 9 = .ok (.iconst 2, 1) := by decide +kernel
theorem dX0_setSource_10 : decode cX0_setSource 10 = .ok (.iload_n 3, 1) := by decide +kernel
theorem dX0_setSource_11 : decode cX0_setSource 11 = .ok (.invokevirtual 37, 3) := by decide +kernel
theorem dX0_setSource_14 : decode cX0_setSource 14 = .ok (.return_, 1) := by decide +kernel
theorem dX0_dropLast_0 : decode cX0_dropLast 0 = .ok (.aload_n 0, 1) := by decide +kernel
theorem dX0_dropLast_1 : decode cX0_dropLast 1 = .ok (.getfield 15, 3) := by decide +kernel
theorem dX0_dropLast_4 : decode cX0_dropLast 4 = .ok (.ifCond .le 13, 3) := by decide +kernel
theorem dX0_dropLast_7 : decode cX0_dropLast 7 = .ok (.aload_n 0, 1) := by decide +kernel
theorem dX0_dropLast_8 : decode cX0_dropLast 8 = .ok (.dup, 1) := by decide +kernel
theorem dX0_dropLast_9 : decode cX0_dropLast 9 = .ok (.getfield 15, 3) := by decide +kernel
theorem dX0_dropLast_12 : decode cX0_dropLast 12 = .ok (.iconst 1, 1) := by decide +kernel
theorem dX0_dropLast_13 : decode cX0_dropLast 13 = .ok (.isub, 1) := by decide +kernel
theorem dX0_dropLast_14 : decode cX0_dropLast 14 = .ok (.putfield 15, 3) := by decide +kernel
theorem dX0_dropLast_17 : decode cX0_dropLast 17 = .ok (.return_, 1) := by decide +kernel
theorem dX0_copyFrom_0 : decode cX0_copyFrom 0 = .ok (.aload_n 0, 1) := by decide +kernel
theorem dX0_copyFrom_1 : decode cX0_copyFrom 1 = .ok (.aload_n 1, 1) := by decide +kernel
theorem dX0_copyFrom_2 : decode cX0_copyFrom 2 = .ok (.getfield 9, 3) := by decide +kernel
theorem dX0_copyFrom_5 : decode cX0_copyFrom 5 = .ok (.putfield 9, 3) := by decide +kernel
theorem dX0_copyFrom_8 : decode cX0_copyFrom 8 = .ok (.aload_n 0, 1) := by decide +kernel
theorem dX0_copyFrom_9 : decode cX0_copyFrom 9 = .ok (.iconst 0, 1) := by decide +kernel
theorem dX0_copyFrom_10 : decode cX0_copyFrom 10 = .ok (.putfield 15, 3) := by decide +kernel
theorem dX0_copyFrom_13 : decode cX0_copyFrom 13 = .ok (.aload_n 0, 1) := by decide +kernel
theorem dX0_copyFrom_14 : decode cX0_copyFrom 14 = .ok (.aload_n 1, 1) := by decide +kernel
theorem dX0_copyFrom_15 : decode cX0_copyFrom 15 = .ok (.invokevirtual 49, 3) := by decide +kernel
theorem dX0_copyFrom_18 : decode cX0_copyFrom 18 = .ok (.return_, 1) := by decide +kernel
theorem dX1_init_0 : decode cX1_init 0 = .ok (.aload_n 0, 1) := by decide +kernel
theorem dX1_init_1 : decode cX1_init 1 = .ok (.invokespecial 3, 3) := by decide +kernel
theorem dX1_init_4 : decode cX1_init 4 = .ok (.aload_n 0, 1) := by decide +kernel
theorem dX1_init_5 : decode cX1_init 5 = .ok (.bipush 80, 2) := by decide +kernel
theorem dX1_init_7 : decode cX1_init 7 = .ok (.newarray .char, 2) := by decide +kernel
theorem dX1_init_9 : decode cX1_init 9 = .ok (.putfield 9, 3) := by decide +kernel
theorem dX1_init_12 : decode cX1_init 12 = .ok (.aload_n 0, 1) := by decide +kernel
theorem dX1_init_13 : decode cX1_init 13 = .ok (.iconst 0, 1) := by decide +kernel
theorem dX1_init_14 : decode cX1_init 14 = .ok (.putfield 15, 3) := by decide +kernel
theorem dX1_init_17 : decode cX1_init 17 = .ok (.aload_n 0, 1) := by decide +kernel
theorem dX1_init_18 : decode cX1_init 18 = .ok (.iconst 0, 1) := by decide +kernel
theorem dX1_init_19 : decode cX1_init 19 = .ok (.putfield 19, 3) := by decide +kernel
theorem dX1_init_22 : decode cX1_init 22 = .ok (.return_, 1) := by decide +kernel
theorem dX1_append_0 : decode cX1_append 0 = .ok (.aload_n 0, 1) := by decide +kernel
theorem dX1_append_1 : decode cX1_append 1 = .ok (.getfield 15, 3) := by decide +kernel
theorem dX1_append_4 : decode cX1_append 4 = .ok (.ifCond .lt 35, 3) := by decide +kernel
theorem dX1_append_7 : decode cX1_append 7 = .ok (.aload_n 0, 1) := by decide +kernel
theorem dX1_append_8 : decode cX1_append 8 = .ok (.getfield 15, 3) := by decide +kernel
theorem dX1_append_11 : decode cX1_append 11 = .ok (.aload_n 0, 1) := by decide +kernel
theorem dX1_append_12 : decode cX1_append 12 = .ok (.getfield 9, 3) := by decide +kernel
theorem dX1_append_15 : decode cX1_append 15 = .ok (.arraylength, 1) := by decide +kernel
theorem dX1_append_16 : decode cX1_append 16 = .ok (.if_icmp .ge 23, 3) := by decide +kernel
theorem dX1_append_19 : decode cX1_append 19 = .ok (.aload_n 0, 1) := by decide +kernel
theorem dX1_append_20 : decode cX1_append 20 = .ok (.getfield 9, 3) := by decide +kernel
theorem dX1_append_23 : decode cX1_append 23 = .ok (.aload_n 0, 1) := by decide +kernel
theorem dX1_append_24 : decode cX1_append 24 = .ok (.getfield 15, 3) := by decide +kernel
theorem dX1_append_27 : decode cX1_append 27 = .ok (.iload_n 1, 1) := by decide +kernel
theorem dX1_append_28 : decode cX1_append 28 = .ok (.castore, 1) := by decide +kernel
theorem dX1_append_29 : decode cX1_append 29 = .ok (.aload_n 0, 1) := by decide +kernel
theorem dX1_append_30 : decode cX1_append 30 = .ok (.dup, 1) := by decide +kernel
theorem dX1_append_31 : decode cX1_append 31 = .ok (.getfield 15, 3) := by decide +kernel
theorem dX1_append_34 : decode cX1_append 34 = .ok (.iconst 1, 1) := by decide +kernel
theorem dX1_append_35 : decode cX1_append 35 = .ok (.iadd, 1) := by decide +kernel
theorem dX1_append_36 : decode cX1_append 36 = .ok (.putfield 15, 3) := by decide +kernel
theorem dX1_append_39 : decode cX1_append 39 = .ok (.return_, 1) := by decide +kernel
theorem dX1_readInto_0 : decode cX1_readInto 0 = .ok (.aload_n 1, 1) := by decide +kernel
theorem dX1_readInto_1 : decode cX1_readInto 1 = .ok (.iconst 0, 1) := by decide +kernel
theorem dX1_readInto_2 : decode cX1_readInto 2 = .ok (.putfield 22, 3) := by decide +kernel
theorem dX1_readInto_5 : decode cX1_readInto 5 = .ok (.aload_n 0, 1) := by decide +kernel
theorem dX1_readInto_6 : decode cX1_readInto 6 = .ok (.iconst 0, 1) := by decide +kernel
theorem dX1_readInto_7 : decode cX1_readInto 7 = .ok (.putfield 19, 3) := by decide +kernel
theorem dX1_readInto_10 : decode cX1_readInto 10 = .ok (.iconst 0, 1) := by decide +kernel
theorem dX1_readInto_11 : decode cX1_readInto 11 = .ok (.istore_n 2, 1) := by decide +kernel
theorem dX1_readInto_12 : decode cX1_readInto 12 = .ok (.iload_n 2, 1) := by decide +kernel
theorem dX1_readInto_13 : decode cX1_readInto 13 = .ok (.bipush 80, 2) := by decide +kernel
theorem dX1_readInto_15 : decode cX1_readInto 15 = .ok (.if_icmp .gt 49, 3) := by decide +kernel
theorem dX1_readInto_18 : decode cX1_readInto 18 = .ok (.aload_n 0, 1) := by decide +kernel
theorem dX1_readInto_19 : decode cX1_readInto 19 = .ok (.aload_n 1, 1) := by decide +kernel
theorem dX1_readInto_20 : decode cX1_readInto 20 = .ok (.invokevirtual 25, 3) := by decide +kernel
theorem dX1_readInto_23 : decode cX1_readInto 23 = .ok (.ifCond .ne 8, 3) := by decide +kernel
theorem dX1_readInto_26 : decode cX1_readInto 26 = .ok (.aload_n 0, 1) := by decide +kernel
theorem dX1_readInto_27 : decode cX1_readInto 27 = .ok (.getfield 19, 3) := by decide +kernel
theorem dX1_readInto_30 : decode cX1_readInto 30 = .ok (.ireturn, 1) := by decide +kernel
theorem dX1_readInto_31 : decode cX1_readInto 31 = .ok (.aload_n 0, 1) := by decide +kernel
theorem dX1_readInto_32 : decode cX1_readInto 32 = .ok (.getfield 19, 3) := by decide +kernel
theorem dX1_readInto_35 : decode cX1_readInto 35 = .ok (.aload_n 0, 1) := by decide +kernel
theorem dX1_readInto_36 : decode cX1_readInto 36 = .ok (.getfield 15, 3) := by decide +kernel
theorem dX1_readInto_39 : decode cX1_readInto 39 = .ok (.if_icmp .ne 5, 3) := by decide +kernel
theorem dX1_readInto_42 : decode cX1_readInto 42 = .ok (.iconst (-1), 1) := by decide +kernel
theorem dX1_readInto_43 : decode cX1_readInto 43 = .ok (.ireturn, 1) := by decide +kernel
theorem dX1_readInto_44 : decode cX1_readInto 44 = .ok (.aload_n 0, 1) := by decide +kernel
theorem dX1_readInto_45 : decode cX1_readInto 45 = .ok (.bipush 59, 2) := by decide +kernel
theorem dX1_readInto_47 : decode cX1_readInto 47 = .ok (.invokevirtual 29, 3) := by decide +kernel
theorem dX1_readInto_50 : decode cX1_readInto 50 = .ok (.ifCond .ne 8, 3) := by decide +kernel
theorem dX1_readInto_53 : decode cX1_readInto 53 = .ok (.aload_n 0, 1) := by decide +kernel
theorem dX1_readInto_54 : decode cX1_readInto 54 = .ok (.getfield 19, 3) := by decide +kernel
theorem dX1_readInto_57 : decode cX1_readInto 57 = .ok (.ireturn, 1) := by decide +kernel
theorem dX1_readInto_58 : decode cX1_readInto 58 = .ok (.iinc 2 1, 3) := by decide +kernel
theorem dX1_readInto_61 : decode cX1_readInto 61 = .ok (.goto (-49), 3) := by decide +kernel
theorem dX1_readInto_64 : decode cX1_readInto 64 = .ok (.aload_n 0, 1) := by decide +kernel
theorem dX1_readInto_65 : decode cX1_readInto 65 = .ok (.getfield 19, 3) := by decide +kernel
theorem dX1_readInto_68 : decode cX1_readInto 68 = .ok (.ireturn, 1) := by decide +kernel
theorem dX1_readLine_0 : decode cX1_readLine 0 = .ok (.aload_n 0, 1) := by decide +kernel
theorem dX1_readLine_1 : decode cX1_readLine 1 = .ok (.invokevirtual 33, 3) := by decide +kernel
theorem dX1_readLine_4 : decode cX1_readLine 4 = .ok (.istore_n 2, 1) := by decide +kernel
theorem dX1_readLine_5 : decode cX1_readLine 5 = .ok (.iload_n 2, 1) := by decide +kernel
theorem dX1_readLine_6 : decode cX1_readLine 6 = .ok (.iconst (-1), 1) := by decide +kernel
theorem dX1_readLine_7 : decode cX1_readLine 7 = .ok (.if_icmp .eq 14, 3) := by decide +kernel
theorem dX1_readLine_10 : decode cX1_readLine 10 = .ok (.aload_n 0, 1) := by decide +kernel
theorem dX1_readLine_11 : decode cX1_readLine 11 = .ok (.iload_n 2, 1) := by decide +kernel
theorem dX1_readLine_12 : decode cX1_readLine 12 = .ok (.invokestatic 37, 3) := by decide +kernel
theorem dX1_readLine_15 : decode cX1_readLine 15 = .ok (.invokevirtual 41, 3) := by decide +kernel
theorem dX1_readLine_18 : decode cX1_readLine 18 = .ok (.ifCond .ne 5, 3) := by decide +kernel
theorem dX1_readLine_21 : decode cX1_readLine 21 = .ok (.iconst 0, 1) := by decide +kernel
theorem dX1_readLine_22 : decode cX1_readLine 22 = .ok (.ireturn, 1) := by decide +kernel
theorem dX1_readLine_23 : decode cX1_readLine 23 = .ok (.aload_n 1, 1) := by decide +kernel
theorem dX1_readLine_24 : decode cX1_readLine 24 = .ok (.iload_n 2, 1) := by decide +kernel
theorem dX1_readLine_25 : decode cX1_readLine 25 = .ok (.iconst 0, 1) := by decide +kernel
theorem dX1_readLine_26 : decode cX1_readLine 26 = .ok (.iconst 0, 1) := by decide +kernel
theorem dX1_readLine_27 : decode cX1_readLine 27 = .ok (.iconst 0, 1) := by decide +kernel
theorem dX1_readLine_28 : decode cX1_readLine 28 = .ok (.invokevirtual 45, 3) := by decide +kernel
theorem dX1_readLine_31 : decode cX1_readLine 31 = .ok (.iload_n 2, 1) := by decide +kernel
theorem dX1_readLine_32 : decode cX1_readLine 32 = .ok (.invokestatic 49, 3) := by decide +kernel
theorem dX1_readLine_35 : decode cX1_readLine 35 = .ok (.istore_n 3, 1) := by decide +kernel
theorem dX1_readLine_36 : decode cX1_readLine 36 = .ok (.iconst 1, 1) := by decide +kernel
theorem dX1_readLine_37 : decode cX1_readLine 37 = .ok (.istore 4, 2) := by decide +kernel
theorem dX1_readLine_39 : decode cX1_readLine 39 = .ok (.iload 4, 2) := by decide +kernel
theorem dX1_readLine_41 : decode cX1_readLine 41 = .ok (.iload_n 3, 1) := by decide +kernel
theorem dX1_readLine_42 : decode cX1_readLine 42 = .ok (.if_icmp .gt 62, 3) := by decide +kernel
theorem dX1_readLine_45 : decode cX1_readLine 45 = .ok (.aload_n 0, 1) := by decide +kernel
theorem dX1_readLine_46 : decode cX1_readLine 46 = .ok (.bipush 32, 2) := by decide +kernel
theorem dX1_readLine_48 : decode cX1_readLine 48 = .ok (.invokevirtual 29, 3) := by decide +kernel
theorem dX1_readLine_51 : decode cX1_readLine 51 = .ok (.ifCond .eq 22, 3) := by decide +kernel
theorem dX1_readLine_54 : decode cX1_readLine 54 = .ok (.aload_n 0, 1) := by decide +kernel
theorem dX1_readLine_55 : decode cX1_readLine 55 = .ok (.iload_n 2, 1) := by decide +kernel
theorem dX1_readLine_56 : decode cX1_readLine 56 = .ok (.iload 4, 2) := by decide +kernel
theorem dX1_readLine_58 : decode cX1_readLine 58 = .ok (.invokestatic 53, 3) := by decide +kernel
theorem dX1_readLine_61 : decode cX1_readLine 61 = .ok (.iload_n 2, 1) := by decide +kernel
theorem dX1_readLine_62 : decode cX1_readLine 62 = .ok (.iload 4, 2) := by decide +kernel
theorem dX1_readLine_64 : decode cX1_readLine 64 = .ok (.invokestatic 57, 3) := by decide +kernel
theorem dX1_readLine_67 : decode cX1_readLine 67 = .ok (.invokevirtual 60, 3) := by decide +kernel
theorem dX1_readLine_70 : decode cX1_readLine 70 = .ok (.goto 4, 3) := by decide +kernel
theorem dX1_readLine_73 : decode cX1_readLine 73 = .ok (.iconst (-1), 1) := by decide +kernel
theorem dX1_readLine_74 : decode cX1_readLine 74 = .ok (.istore 5, 2) := by decide +kernel
theorem dX1_readLine_76 : decode cX1_readLine 76 = .ok (.iload 5, 2) := by decide +kernel
theorem dX1_readLine_78 : decode cX1_readLine 78 = .ok (.iconst (-1), 1) := by decide +kernel
theorem dX1_readLine_79 : decode cX1_readLine 79 = .ok (.if_icmp .ne 5, 3) := by decide +kernel
theorem dX1_readLine_82 : decode cX1_readLine 82 = .ok (.iconst 0, 1) := by decide +kernel
theorem dX1_readLine_83 : decode cX1_readLine 83 = .ok (.ireturn, 1) := by decide +kernel
theorem dX1_readLine_84 : decode cX1_readLine 84 = .ok (.aload_n 1, 1) := by decide +kernel
theorem dX1_readLine_85 : decode cX1_readLine 85 = .ok (.aload_n 1, 1) := by decide +kernel
theorem dX1_readLine_86 : decode cX1_readLine 86 = .ok (.getfield 22, 3) := by decide +kernel
theorem dX1_readLine_89 : decode cX1_readLine 89 = .ok (.iconst 1, 1) := by decide +kernel
theorem dX1_readLine_90 : decode cX1_readLine 90 = .ok (.isub, 1) := by decide +kernel
theorem dX1_readLine_91 : decode cX1_readLine 91 = .ok (.iload 4, 2) := by decide +kernel
theorem dX1_readLine_93 : decode cX1_readLine 93 = .ok (.iload 5, 2) := by decide +kernel
theorem dX1_readLine_95 : decode cX1_readLine 95 = .ok (.invokevirtual 63, 3) := by decide +kernel
theorem dX1_readLine_98 : decode cX1_readLine 98 = .ok (.iinc 4 1, 3) := by decide +kernel
theorem dX1_readLine_101 : decode cX1_readLine 101 = .ok (.goto (-62), 3) := by decide +kernel
theorem dX1_readLine_104 : decode cX1_readLine 104 = .ok (.iconst 1, 1) := by decide +kernel
theorem dX1_readLine_105 : decode cX1_readLine 105 = .ok (.ireturn, 1) := by decide +kernel
theorem dX1_kindHere_0 : decode cX1_kindHere 0 = .ok (.iconst 0, 1) := by decide +kernel
theorem dX1_kindHere_1 : decode cX1_kindHere 1 = .ok (.istore_n 1, 1) := by decide +kernel
theorem dX1_kindHere_2 : decode cX1_kindHere 2 = .ok (.iload_n 1, 1) := by decide +kernel
theorem dX1_kindHere_3 : decode cX1_kindHere 3 = .ok (.bipush 7, 2) := by decide +kernel
theorem dX1_kindHere_5 : decode cX1_kindHere 5 = .ok (.if_icmp .ge 35, 3) := by decide +kernel
theorem dX1_kindHere_8 : decode cX1_kindHere 8 = .ok (.iload_n 1, 1) := by decide +kernel
theorem dX1_kindHere_9 : decode cX1_kindHere 9 = .ok (.invokestatic 37, 3) := by decide +kernel
theorem dX1_kindHere_12 : decode cX1_kindHere 12 = .ok (.astore_n 2, 1) := by decide +kernel
theorem dX1_kindHere_13 : decode cX1_kindHere 13 = .ok (.aload_n 2, 1) := by decide +kernel
theorem dX1_kindHere_14 : decode cX1_kindHere 14 = .ok (.invokevirtual 67, 3) := by decide +kernel
theorem dX1_kindHere_17 : decode cX1_kindHere 17 = .ok (.ifCond .ne 17, 3) := by decide +kernel
theorem dX1_kindHere_20 : decode cX1_kindHere 20 = .ok (.aload_n 0, 1) := by decide +kernel
theorem dX1_kindHere_21 : decode cX1_kindHere 21 = .ok (.aload_n 2, 1) := by decide +kernel
theorem dX1_kindHere_22 : decode cX1_kindHere 22 = .ok (.iconst 0, 1) := by decide +kernel
theorem dX1_kindHere_23 : decode cX1_kindHere 23 = .ok (.invokevirtual 73, 3) := by decide +kernel
theorem dX1_kindHere_26 : decode cX1_kindHere 26 = .ok (.invokevirtual 77, 3) := by decide +kernel
theorem dX1_kindHere_29 : decode cX1_kindHere 29 = .ok (.ifCond .eq 5, 3) := by decide +kernel
theorem dX1_kindHere_32 : decode cX1_kindHere 32 = .ok (.iload_n 1, 1) := by decide +kernel
theorem dX1_kindHere_33 : decode cX1_kindHere 33 = .ok (.ireturn, 1) := by decide +kernel
theorem dX1_kindHere_34 : decode cX1_kindHere 34 = .ok (.iinc 1 1, 3) := by decide +kernel
theorem dX1_kindHere_37 : decode cX1_kindHere 37 = .ok (.goto (-35), 3) := by decide +kernel
theorem dX1_kindHere_40 : decode cX1_kindHere 40 = .ok (.iconst (-1), 1) := by decide +kernel
theorem dX1_kindHere_41 : decode cX1_kindHere 41 = .ok (.ireturn, 1) := by decide +kernel
theorem dX1_wordOfKind_0 : decode cX1_wordOfKind 0 = .ok (.iload_n 0, 1) := by decide +kernel
theorem dX1_wordOfKind_1 : decode cX1_wordOfKind 1 = .ok (.tableswitch 57 0 5 #[39, 42, 45, 48, 51, 54], 39) := by decide +kernel
theorem dX1_wordOfKind_40 : decode cX1_wordOfKind 40 = .ok (.ldc 80, 2) := by decide +kernel
theorem dX1_wordOfKind_42 : decode cX1_wordOfKind 42 = .ok (.areturn, 1) := by decide +kernel
theorem dX1_wordOfKind_43 : decode cX1_wordOfKind 43 = .ok (.ldc 82, 2) := by decide +kernel
theorem dX1_wordOfKind_45 : decode cX1_wordOfKind 45 = .ok (.areturn, 1) := by decide +kernel
theorem dX1_wordOfKind_46 : decode cX1_wordOfKind 46 = .ok (.ldc 84, 2) := by decide +kernel
theorem dX1_wordOfKind_48 : decode cX1_wordOfKind 48 = .ok (.areturn, 1) := by decide +kernel
theorem dX1_wordOfKind_49 : decode cX1_wordOfKind 49 = .ok (.ldc 86, 2) := by decide +kernel
theorem dX1_wordOfKind_51 : decode cX1_wordOfKind 51 = .ok (.areturn, 1) := by decide +kernel
theorem dX1_wordOfKind_52 : decode cX1_wordOfKind 52 = .ok (.ldc 88, 2) := by decide +kernel
theorem dX1_wordOfKind_54 : decode cX1_wordOfKind 54 = .ok (.areturn, 1) := by decide +kernel
theorem dX1_wordOfKind_55 : decode cX1_wordOfKind 55 = .ok (.ldc 90, 2) := by decide +kernel
theorem dX1_wordOfKind_57 : decode cX1_wordOfKind 57 = .ok (.areturn, 1) := by decide +kernel
theorem dX1_wordOfKind_58 : decode cX1_wordOfKind 58 = .ok (.ldc 92, 2) := by decide +kernel
theorem dX1_wordOfKind_60 : decode cX1_wordOfKind 60 = .ok (.areturn, 1) := by decide +kernel
theorem dX1_leastNumber_0 : decode cX1_leastNumber 0 = .ok (.iload_n 1, 1) := by decide +kernel
theorem dX1_leastNumber_1 : decode cX1_leastNumber 1 = .ok (.iconst 2, 1) := by decide +kernel
theorem dX1_leastNumber_2 : decode cX1_leastNumber 2 = .ok (.if_icmp .ne 17, 3) := by decide +kernel
theorem dX1_leastNumber_5 : decode cX1_leastNumber 5 = .ok (.iload_n 0, 1) := by decide +kernel
theorem dX1_leastNumber_6 : decode cX1_leastNumber 6 = .ok (.ifCond .eq 9, 3) := by decide +kernel
theorem dX1_leastNumber_9 : decode cX1_leastNumber 9 = .ok (.iload_n 0, 1) := by decide +kernel
theorem dX1_leastNumber_10 : decode cX1_leastNumber 10 = .ok (.bipush 6, 2) := by decide +kernel
theorem dX1_leastNumber_12 : decode cX1_leastNumber 12 = .ok (.if_icmp .ne 7, 3) := by decide +kernel
theorem dX1_leastNumber_15 : decode cX1_leastNumber 15 = .ok (.iconst 1, 1) := by decide +kernel
theorem dX1_leastNumber_16 : decode cX1_leastNumber 16 = .ok (.goto 4, 3) := by decide +kernel
theorem dX1_leastNumber_19 : decode cX1_leastNumber 19 = .ok (.iconst 0, 1) := by decide +kernel
theorem dX1_leastNumber_20 : decode cX1_leastNumber 20 = .ok (.istore_n 2, 1) := by decide +kernel
theorem dX1_leastNumber_21 : decode cX1_leastNumber 21 = .ok (.iload_n 2, 1) := by decide +kernel
theorem dX1_leastNumber_22 : decode cX1_leastNumber 22 = .ok (.ifCond .eq 7, 3) := by decide +kernel
theorem dX1_leastNumber_25 : decode cX1_leastNumber 25 = .ok (.iconst 1, 1) := by decide +kernel
theorem dX1_leastNumber_26 : decode cX1_leastNumber 26 = .ok (.goto 4, 3) := by decide +kernel
theorem dX1_leastNumber_29 : decode cX1_leastNumber 29 = .ok (.iconst 0, 1) := by decide +kernel
theorem dX1_leastNumber_30 : decode cX1_leastNumber 30 = .ok (.ireturn, 1) := by decide +kernel
theorem dX1_mostNumber_0 : decode cX1_mostNumber 0 = .ok (.iload_n 1, 1) := by decide +kernel
theorem dX1_mostNumber_1 : decode cX1_mostNumber 1 = .ok (.iload_n 0, 1) := by decide +kernel
theorem dX1_mostNumber_2 : decode cX1_mostNumber 2 = .ok (.invokestatic 94, 3) := by decide +kernel
theorem dX1_mostNumber_5 : decode cX1_mostNumber 5 = .ok (.if_icmp .gt 6, 3) := by decide +kernel
theorem dX1_mostNumber_8 : decode cX1_mostNumber 8 = .ok (.bipush 15, 2) := by decide +kernel
theorem dX1_mostNumber_10 : decode cX1_mostNumber 10 = .ok (.ireturn, 1) := by decide +kernel
theorem dX1_mostNumber_11 : decode cX1_mostNumber 11 = .ok (.iload_n 0, 1) := by decide +kernel
theorem dX1_mostNumber_12 : decode cX1_mostNumber 12 = .ok (.bipush 6, 2) := by decide +kernel
theorem dX1_mostNumber_14 : decode cX1_mostNumber 14 = .ok (.if_icmp .ne 6, 3) := by decide +kernel
theorem dX1_mostNumber_17 : decode cX1_mostNumber 17 = .ok (.bipush 60, 2) := by decide +kernel
theorem dX1_mostNumber_19 : decode cX1_mostNumber 19 = .ok (.ireturn, 1) := by decide +kernel
theorem dX1_mostNumber_20 : decode cX1_mostNumber 20 = .ok (.iload_n 1, 1) := by decide +kernel
theorem dX1_mostNumber_21 : decode cX1_mostNumber 21 = .ok (.iconst 1, 1) := by decide +kernel
theorem dX1_mostNumber_22 : decode cX1_mostNumber 22 = .ok (.if_icmp .ne 9, 3) := by decide +kernel
theorem dX1_mostNumber_25 : decode cX1_mostNumber 25 = .ok (.sipush 256, 3) := by decide +kernel
theorem dX1_mostNumber_28 : decode cX1_mostNumber 28 = .ok (.goto 6, 3) := by decide +kernel
theorem dX1_mostNumber_31 : decode cX1_mostNumber 31 = .ok (.sipush 255, 3) := by decide +kernel
theorem dX1_mostNumber_34 : decode cX1_mostNumber 34 = .ok (.ireturn, 1) := by decide +kernel
theorem dX1_readNumber_0 : decode cX1_readNumber 0 = .ok (.aload_n 0, 1) := by decide +kernel
theorem dX1_readNumber_1 : decode cX1_readNumber 1 = .ok (.invokevirtual 97, 3) := by decide +kernel
theorem dX1_readNumber_4 : decode cX1_readNumber 4 = .ok (.istore_n 3, 1) := by decide +kernel
theorem dX1_readNumber_5 : decode cX1_readNumber 5 = .ok (.iload_n 3, 1) := by decide +kernel
theorem dX1_readNumber_6 : decode cX1_readNumber 6 = .ok (.iload_n 1, 1) := by decide +kernel
theorem dX1_readNumber_7 : decode cX1_readNumber 7 = .ok (.if_icmp .ge 5, 3) := by decide +kernel
theorem dX1_readNumber_10 : decode cX1_readNumber 10 = .ok (.iconst (-1), 1) := by decide +kernel
theorem dX1_readNumber_11 : decode cX1_readNumber 11 = .ok (.ireturn, 1) := by decide +kernel
theorem dX1_readNumber_12 : decode cX1_readNumber 12 = .ok (.aload_n 0, 1) := by decide +kernel
theorem dX1_readNumber_13 : decode cX1_readNumber 13 = .ok (.dup, 1) := by decide +kernel
theorem dX1_readNumber_14 : decode cX1_readNumber 14 = .ok (.getfield 19, 3) := by decide +kernel
theorem dX1_readNumber_17 : decode cX1_readNumber 17 = .ok (.iconst 1, 1) := by decide +kernel
theorem dX1_readNumber_18 : decode cX1_readNumber 18 = .ok (.iadd, 1) := by decide +kernel
theorem dX1_readNumber_19 : decode cX1_readNumber 19 = .ok (.putfield 19, 3) := by decide +kernel
theorem dX1_readNumber_22 : decode cX1_readNumber 22 = .ok (.iload_n 3, 1) := by decide +kernel
theorem dX1_readNumber_23 : decode cX1_readNumber 23 = .ok (.ifCond .le 60, 3) := by decide +kernel
theorem dX1_readNumber_26 : decode cX1_readNumber 26 = .ok (.aload_n 0, 1) := by decide +kernel
theorem dX1_readNumber_27 : decode cX1_readNumber 27 = .ok (.getfield 19, 3) := by decide +kernel
theorem dX1_readNumber_30 : decode cX1_readNumber 30 = .ok (.aload_n 0, 1) := by decide +kernel
theorem dX1_readNumber_31 : decode cX1_readNumber 31 = .ok (.getfield 15, 3) := by decide +kernel
theorem dX1_readNumber_34 : decode cX1_readNumber 34 = .ok (.if_icmp .ge 49, 3) := by decide +kernel
theorem dX1_readNumber_37 : decode cX1_readNumber 37 = .ok (.aload_n 0, 1) := by decide +kernel
theorem dX1_readNumber_38 : decode cX1_readNumber 38 = .ok (.invokevirtual 97, 3) := by decide +kernel
theorem dX1_readNumber_41 : decode cX1_readNumber 41 = .ok (.istore 4, 2) := by decide +kernel
theorem dX1_readNumber_43 : decode cX1_readNumber 43 = .ok (.iload 4, 2) := by decide +kernel
theorem dX1_readNumber_45 : decode cX1_readNumber 45 = .ok (.iconst (-1), 1) := by decide +kernel
theorem dX1_readNumber_46 : decode cX1_readNumber 46 = .ok (.if_icmp .eq 14, 3) := by decide +kernel
theorem dX1_readNumber_49 : decode cX1_readNumber 49 = .ok (.iload_n 3, 1) := by decide +kernel
theorem dX1_readNumber_50 : decode cX1_readNumber 50 = .ok (.bipush 10, 2) := by decide +kernel
theorem dX1_readNumber_52 : decode cX1_readNumber 52 = .ok (.imul, 1) := by decide +kernel
theorem dX1_readNumber_53 : decode cX1_readNumber 53 = .ok (.iload 4, 2) := by decide +kernel
theorem dX1_readNumber_55 : decode cX1_readNumber 55 = .ok (.iadd, 1) := by decide +kernel
theorem dX1_readNumber_56 : decode cX1_readNumber 56 = .ok (.iload_n 2, 1) := by decide +kernel
theorem dX1_readNumber_57 : decode cX1_readNumber 57 = .ok (.if_icmp .le 5, 3) := by decide +kernel
theorem dX1_readNumber_60 : decode cX1_readNumber 60 = .ok (.iload_n 3, 1) := by decide +kernel
theorem dX1_readNumber_61 : decode cX1_readNumber 61 = .ok (.ireturn, 1) := by decide +kernel
theorem dX1_readNumber_62 : decode cX1_readNumber 62 = .ok (.iload_n 3, 1) := by decide +kernel
theorem dX1_readNumber_63 : decode cX1_readNumber 63 = .ok (.bipush 10, 2) := by decide +kernel
theorem dX1_readNumber_65 : decode cX1_readNumber 65 = .ok (.imul, 1) := by decide +kernel
theorem dX1_readNumber_66 : decode cX1_readNumber 66 = .ok (.iload 4, 2) := by decide +kernel
theorem dX1_readNumber_68 : decode cX1_readNumber 68 = .ok (.iadd, 1) := by decide +kernel
theorem dX1_readNumber_69 : decode cX1_readNumber 69 = .ok (.istore_n 3, 1) := by decide +kernel
theorem dX1_readNumber_70 : decode cX1_readNumber 70 = .ok (.aload_n 0, 1) := by decide +kernel
theorem dX1_readNumber_71 : decode cX1_readNumber 71 = .ok (.dup, 1) := by decide +kernel
theorem dX1_readNumber_72 : decode cX1_readNumber 72 = .ok (.getfield 19, 3) := by decide +kernel
theorem dX1_readNumber_75 : decode cX1_readNumber 75 = .ok (.iconst 1, 1) := by decide +kernel
theorem dX1_readNumber_76 : decode cX1_readNumber 76 = .ok (.iadd, 1) := by decide +kernel
theorem dX1_readNumber_77 : decode cX1_readNumber 77 = .ok (.putfield 19, 3) := by decide +kernel
theorem dX1_readNumber_80 : decode cX1_readNumber 80 = .ok (.goto (-58), 3) := by decide +kernel
theorem dX1_readNumber_83 : decode cX1_readNumber 83 = .ok (.iload_n 3, 1) := by decide +kernel
theorem dX1_readNumber_84 : decode cX1_readNumber 84 = .ok (.ireturn, 1) := by decide +kernel
theorem dX1_digitHere_0 : decode cX1_digitHere 0 = .ok (.aload_n 0, 1) := by decide +kernel
theorem dX1_digitHere_1 : decode cX1_digitHere 1 = .ok (.getfield 19, 3) := by decide +kernel
theorem dX1_digitHere_4 : decode cX1_digitHere 4 = .ok (.ifCond .lt 26, 3) := by decide +kernel
theorem dX1_digitHere_7 : decode cX1_digitHere 7 = .ok (.aload_n 0, 1) := by decide +kernel
theorem dX1_digitHere_8 : decode cX1_digitHere 8 = .ok (.getfield 19, 3) := by decide +kernel
theorem dX1_digitHere_11 : decode cX1_digitHere 11 = .ok (.aload_n 0, 1) := by decide +kernel
theorem dX1_digitHere_12 : decode cX1_digitHere 12 = .ok (.getfield 15, 3) := by decide +kernel
theorem dX1_digitHere_15 : decode cX1_digitHere 15 = .ok (.if_icmp .ge 15, 3) := by decide +kernel
theorem dX1_digitHere_18 : decode cX1_digitHere 18 = .ok (.aload_n 0, 1) := by decide +kernel
theorem dX1_digitHere_19 : decode cX1_digitHere 19 = .ok (.getfield 19, 3) := by decide +kernel
theorem dX1_digitHere_22 : decode cX1_digitHere 22 = .ok (.aload_n 0, 1) := by decide +kernel
theorem dX1_digitHere_23 : decode cX1_digitHere 23 = .ok (.getfield 9, 3) := by decide +kernel
theorem dX1_digitHere_26 : decode cX1_digitHere 26 = .ok (.arraylength, 1) := by decide +kernel
theorem dX1_digitHere_27 : decode cX1_digitHere 27 = .ok (.if_icmp .lt 5, 3) := by decide +kernel
theorem dX1_digitHere_30 : decode cX1_digitHere 30 = .ok (.iconst (-1), 1) := by decide +kernel
theorem dX1_digitHere_31 : decode cX1_digitHere 31 = .ok (.ireturn, 1) := by decide +kernel
theorem dX1_digitHere_32 : decode cX1_digitHere 32 = .ok (.aload_n 0, 1) := by decide +kernel
theorem dX1_digitHere_33 : decode cX1_digitHere 33 = .ok (.getfield 9, 3) := by decide +kernel
theorem dX1_digitHere_36 : decode cX1_digitHere 36 = .ok (.aload_n 0, 1) := by decide +kernel
theorem dX1_digitHere_37 : decode cX1_digitHere 37 = .ok (.getfield 19, 3) := by decide +kernel
theorem dX1_digitHere_40 : decode cX1_digitHere 40 = .ok (.caload, 1) := by decide +kernel
theorem dX1_digitHere_41 : decode cX1_digitHere 41 = .ok (.istore_n 1, 1) := by decide +kernel
theorem dX1_digitHere_42 : decode cX1_digitHere 42 = .ok (.iload_n 1, 1) := by decide +kernel
theorem dX1_digitHere_43 : decode cX1_digitHere 43 = .ok (.bipush 48, 2) := by decide +kernel
theorem dX1_digitHere_45 : decode cX1_digitHere 45 = .ok (.if_icmp .lt 16, 3) := by decide +kernel
theorem dX1_digitHere_48 : decode cX1_digitHere 48 = .ok (.iload_n 1, 1) := by decide +kernel
theorem dX1_digitHere_49 : decode cX1_digitHere 49 = .ok (.bipush 57, 2) := by decide +kernel
theorem dX1_digitHere_51 : decode cX1_digitHere 51 = .ok (.if_icmp .gt 10, 3) := by decide +kernel
theorem dX1_digitHere_54 : decode cX1_digitHere 54 = .ok (.iload_n 1, 1) := by decide +kernel
theorem dX1_digitHere_55 : decode cX1_digitHere 55 = .ok (.bipush 48, 2) := by decide +kernel
theorem dX1_digitHere_57 : decode cX1_digitHere 57 = .ok (.isub, 1) := by decide +kernel
theorem dX1_digitHere_58 : decode cX1_digitHere 58 = .ok (.goto 4, 3) := by decide +kernel
theorem dX1_digitHere_61 : decode cX1_digitHere 61 = .ok (.iconst (-1), 1) := by decide +kernel
theorem dX1_digitHere_62 : decode cX1_digitHere 62 = .ok (.ireturn, 1) := by decide +kernel
theorem dX1_takeWord_0 : decode cX1_takeWord 0 = .ok (.iconst 0, 1) := by decide +kernel
theorem dX1_takeWord_1 : decode cX1_takeWord 1 = .ok (.istore_n 2, 1) := by decide +kernel
theorem dX1_takeWord_2 : decode cX1_takeWord 2 = .ok (.iload_n 2, 1) := by decide +kernel
theorem dX1_takeWord_3 : decode cX1_takeWord 3 = .ok (.aload_n 1, 1) := by decide +kernel
theorem dX1_takeWord_4 : decode cX1_takeWord 4 = .ok (.invokevirtual 100, 3) := by decide +kernel
theorem dX1_takeWord_7 : decode cX1_takeWord 7 = .ok (.if_icmp .ge 23, 3) := by decide +kernel
theorem dX1_takeWord_10 : decode cX1_takeWord 10 = .ok (.aload_n 0, 1) := by decide +kernel
theorem dX1_takeWord_11 : decode cX1_takeWord 11 = .ok (.aload_n 1, 1) := by decide +kernel
theorem dX1_takeWord_12 : decode cX1_takeWord 12 = .ok (.iload_n 2, 1) := by decide +kernel
theorem dX1_takeWord_13 : decode cX1_takeWord 13 = .ok (.invokevirtual 73, 3) := by decide +kernel
theorem dX1_takeWord_16 : decode cX1_takeWord 16 = .ok (.invokevirtual 29, 3) := by decide +kernel
theorem dX1_takeWord_19 : decode cX1_takeWord 19 = .ok (.ifCond .ne 5, 3) := by decide +kernel
theorem dX1_takeWord_22 : decode cX1_takeWord 22 = .ok (.iconst 0, 1) := by decide +kernel
theorem dX1_takeWord_23 : decode cX1_takeWord 23 = .ok (.ireturn, 1) := by decide +kernel
theorem dX1_takeWord_24 : decode cX1_takeWord 24 = .ok (.iinc 2 1, 3) := by decide +kernel
theorem dX1_takeWord_27 : decode cX1_takeWord 27 = .ok (.goto (-25), 3) := by decide +kernel
theorem dX1_takeWord_30 : decode cX1_takeWord 30 = .ok (.iconst 1, 1) := by decide +kernel
theorem dX1_takeWord_31 : decode cX1_takeWord 31 = .ok (.ireturn, 1) := by decide +kernel
theorem dX1_take_0 : decode cX1_take 0 = .ok (.aload_n 0, 1) := by decide +kernel
theorem dX1_take_1 : decode cX1_take 1 = .ok (.iload_n 1, 1) := by decide +kernel
theorem dX1_take_2 : decode cX1_take 2 = .ok (.invokevirtual 77, 3) := by decide +kernel
theorem dX1_take_5 : decode cX1_take 5 = .ok (.ifCond .ne 5, 3) := by decide +kernel
theorem dX1_take_8 : decode cX1_take 8 = .ok (.iconst 0, 1) := by decide +kernel
theorem dX1_take_9 : decode cX1_take 9 = .ok (.ireturn, 1) := by decide +kernel
theorem dX1_take_10 : decode cX1_take 10 = .ok (.aload_n 0, 1) := by decide +kernel
theorem dX1_take_11 : decode cX1_take 11 = .ok (.dup, 1) := by decide +kernel
theorem dX1_take_12 : decode cX1_take 12 = .ok (.getfield 19, 3) := by decide +kernel
theorem dX1_take_15 : decode cX1_take 15 = .ok (.iconst 1, 1) := by decide +kernel
theorem dX1_take_16 : decode cX1_take 16 = .ok (.iadd, 1) := by decide +kernel
theorem dX1_take_17 : decode cX1_take 17 = .ok (.putfield 19, 3) := by decide +kernel
theorem dX1_take_20 : decode cX1_take 20 = .ok (.iconst 1, 1) := by decide +kernel
theorem dX1_take_21 : decode cX1_take 21 = .ok (.ireturn, 1) := by decide +kernel
theorem dX1_isHere_0 : decode cX1_isHere 0 = .ok (.aload_n 0, 1) := by decide +kernel
theorem dX1_isHere_1 : decode cX1_isHere 1 = .ok (.getfield 19, 3) := by decide +kernel
theorem dX1_isHere_4 : decode cX1_isHere 4 = .ok (.ifCond .lt 43, 3) := by decide +kernel
theorem dX1_isHere_7 : decode cX1_isHere 7 = .ok (.aload_n 0, 1) := by decide +kernel
theorem dX1_isHere_8 : decode cX1_isHere 8 = .ok (.getfield 19, 3) := by decide +kernel
theorem dX1_isHere_11 : decode cX1_isHere 11 = .ok (.aload_n 0, 1) := by decide +kernel
theorem dX1_isHere_12 : decode cX1_isHere 12 = .ok (.getfield 15, 3) := by decide +kernel
theorem dX1_isHere_15 : decode cX1_isHere 15 = .ok (.if_icmp .ge 32, 3) := by decide +kernel
theorem dX1_isHere_18 : decode cX1_isHere 18 = .ok (.aload_n 0, 1) := by decide +kernel
theorem dX1_isHere_19 : decode cX1_isHere 19 = .ok (.getfield 19, 3) := by decide +kernel
theorem dX1_isHere_22 : decode cX1_isHere 22 = .ok (.aload_n 0, 1) := by decide +kernel
theorem dX1_isHere_23 : decode cX1_isHere 23 = .ok (.getfield 9, 3) := by decide +kernel
theorem dX1_isHere_26 : decode cX1_isHere 26 = .ok (.arraylength, 1) := by decide +kernel
theorem dX1_isHere_27 : decode cX1_isHere 27 = .ok (.if_icmp .ge 20, 3) := by decide +kernel
theorem dX1_isHere_30 : decode cX1_isHere 30 = .ok (.aload_n 0, 1) := by decide +kernel
theorem dX1_isHere_31 : decode cX1_isHere 31 = .ok (.getfield 9, 3) := by decide +kernel
theorem dX1_isHere_34 : decode cX1_isHere 34 = .ok (.aload_n 0, 1) := by decide +kernel
theorem dX1_isHere_35 : decode cX1_isHere 35 = .ok (.getfield 19, 3) := by decide +kernel
theorem dX1_isHere_38 : decode cX1_isHere 38 = .ok (.caload, 1) := by decide +kernel
theorem dX1_isHere_39 : decode cX1_isHere 39 = .ok (.iload_n 1, 1) := by decide +kernel
theorem dX1_isHere_40 : decode cX1_isHere 40 = .ok (.if_icmp .ne 7, 3) := by decide +kernel
theorem dX1_isHere_43 : decode cX1_isHere 43 = .ok (.iconst 1, 1) := by decide +kernel
theorem dX1_isHere_44 : decode cX1_isHere 44 = .ok (.goto 4, 3) := by decide +kernel
theorem dX1_isHere_47 : decode cX1_isHere 47 = .ok (.iconst 0, 1) := by decide +kernel
theorem dX1_isHere_48 : decode cX1_isHere 48 = .ok (.ireturn, 1) := by decide +kernel
theorem dX2_init_0 : decode cX2_init 0 = .ok (.aload_n 0, 1) := by decide +kernel
theorem dX2_init_1 : decode cX2_init 1 = .ok (.invokespecial 3, 3) := by decide +kernel
theorem dX2_init_4 : decode cX2_init 4 = .ok (.aload_n 0, 1) := by decide +kernel
theorem dX2_init_5 : decode cX2_init 5 = .ok (.bipush 16, 2) := by decide +kernel
theorem dX2_init_7 : decode cX2_init 7 = .ok (.newarray .int, 2) := by decide +kernel
theorem dX2_init_9 : decode cX2_init 9 = .ok (.putfield 9, 3) := by decide +kernel
theorem dX2_init_12 : decode cX2_init 12 = .ok (.aload_n 0, 1) := by decide +kernel
theorem dX2_init_13 : decode cX2_init 13 = .ok (.bipush 16, 2) := by decide +kernel
theorem dX2_init_15 : decode cX2_init 15 = .ok (.newarray .int, 2) := by decide +kernel
theorem dX2_init_17 : decode cX2_init 17 = .ok (.putfield 15, 3) := by decide +kernel
theorem dX2_init_20 : decode cX2_init 20 = .ok (.aload_n 0, 1) := by decide +kernel
theorem dX2_init_21 : decode cX2_init 21 = .ok (.bipush 16, 2) := by decide +kernel
theorem dX2_init_23 : decode cX2_init 23 = .ok (.newarray .int, 2) := by decide +kernel
theorem dX2_init_25 : decode cX2_init 25 = .ok (.putfield 18, 3) := by decide +kernel
theorem dX2_init_28 : decode cX2_init 28 = .ok (.return_, 1) := by decide +kernel
theorem dX2_workOut_0 : decode cX2_workOut 0 = .ok (.iconst 0, 1) := by decide +kernel
theorem dX2_workOut_1 : decode cX2_workOut 1 = .ok (.istore_n 2, 1) := by decide +kernel
theorem dX2_workOut_2 : decode cX2_workOut 2 = .ok (.iload_n 2, 1) := by decide +kernel
theorem dX2_workOut_3 : decode cX2_workOut 3 = .ok (.aload_n 1, 1) := by decide +kernel
theorem dX2_workOut_4 : decode cX2_workOut 4 = .ok (.getfield 21, 3) := by decide +kernel
theorem dX2_workOut_7 : decode cX2_workOut 7 = .ok (.if_icmp .ge 51, 3) := by decide +kernel
theorem dX2_workOut_10 : decode cX2_workOut 10 = .ok (.aload_n 0, 1) := by decide +kernel
theorem dX2_workOut_11 : decode cX2_workOut 11 = .ok (.getfield 9, 3) := by decide +kernel
theorem dX2_workOut_14 : decode cX2_workOut 14 = .ok (.iload_n 2, 1) := by decide +kernel
theorem dX2_workOut_15 : decode cX2_workOut 15 = .ok (.aload_n 0, 1) := by decide +kernel
theorem dX2_workOut_16 : decode cX2_workOut 16 = .ok (.aload_n 1, 1) := by decide +kernel
theorem dX2_workOut_17 : decode cX2_workOut 17 = .ok (.iload_n 2, 1) := by decide +kernel
theorem dX2_workOut_18 : decode cX2_workOut 18 = .ok (.invokevirtual 27, 3) := by decide +kernel
theorem dX2_workOut_21 : decode cX2_workOut 21 = .ok (.invokestatic 31, 3) := by decide +kernel
theorem dX2_workOut_24 : decode cX2_workOut 24 = .ok (.aload_n 0, 1) := by decide +kernel
theorem dX2_workOut_25 : decode cX2_workOut 25 = .ok (.getfield 15, 3) := by decide +kernel
theorem dX2_workOut_28 : decode cX2_workOut 28 = .ok (.iload_n 2, 1) := by decide +kernel
theorem dX2_workOut_29 : decode cX2_workOut 29 = .ok (.aload_n 0, 1) := by decide +kernel
theorem dX2_workOut_30 : decode cX2_workOut 30 = .ok (.aload_n 1, 1) := by decide +kernel
theorem dX2_workOut_31 : decode cX2_workOut 31 = .ok (.iload_n 2, 1) := by decide +kernel
theorem dX2_workOut_32 : decode cX2_workOut 32 = .ok (.invokevirtual 35, 3) := by decide +kernel
theorem dX2_workOut_35 : decode cX2_workOut 35 = .ok (.invokestatic 31, 3) := by decide +kernel
theorem dX2_workOut_38 : decode cX2_workOut 38 = .ok (.aload_n 0, 1) := by decide +kernel
theorem dX2_workOut_39 : decode cX2_workOut 39 = .ok (.getfield 18, 3) := by decide +kernel
theorem dX2_workOut_42 : decode cX2_workOut 42 = .ok (.iload_n 2, 1) := by decide +kernel
theorem dX2_workOut_43 : decode cX2_workOut 43 = .ok (.aload_n 0, 1) := by decide +kernel
theorem dX2_workOut_44 : decode cX2_workOut 44 = .ok (.aload_n 1, 1) := by decide +kernel
theorem dX2_workOut_45 : decode cX2_workOut 45 = .ok (.iload_n 2, 1) := by decide +kernel
theorem dX2_workOut_46 : decode cX2_workOut 46 = .ok (.invokevirtual 38, 3) := by decide +kernel
theorem dX2_workOut_49 : decode cX2_workOut 49 = .ok (.invokestatic 31, 3) := by decide +kernel
theorem dX2_workOut_52 : decode cX2_workOut 52 = .ok (.iinc 2 1, 3) := by decide +kernel
theorem dX2_workOut_55 : decode cX2_workOut 55 = .ok (.goto (-53), 3) := by decide +kernel
theorem dX2_workOut_58 : decode cX2_workOut 58 = .ok (.return_, 1) := by decide +kernel
theorem dX2_exactShareOf_0 : decode cX2_exactShareOf 0 = .ok (.aload_n 0, 1) := by decide +kernel
theorem dX2_exactShareOf_1 : decode cX2_exactShareOf 1 = .ok (.getfield 9, 3) := by decide +kernel
theorem dX2_exactShareOf_4 : decode cX2_exactShareOf 4 = .ok (.iload_n 1, 1) := by decide +kernel
theorem dX2_exactShareOf_5 : decode cX2_exactShareOf 5 = .ok (.invokestatic 41, 3) := by decide +kernel
theorem dX2_exactShareOf_8 : decode cX2_exactShareOf 8 = .ok (.ireturn, 1) := by decide +kernel
theorem dX2_depthOf_0 : decode cX2_depthOf 0 = .ok (.aload_n 0, 1) := by decide +kernel
theorem dX2_depthOf_1 : decode cX2_depthOf 1 = .ok (.getfield 15, 3) := by decide +kernel
theorem dX2_depthOf_4 : decode cX2_depthOf 4 = .ok (.iload_n 1, 1) := by decide +kernel
theorem dX2_depthOf_5 : decode cX2_depthOf 5 = .ok (.invokestatic 41, 3) := by decide +kernel
theorem dX2_depthOf_8 : decode cX2_depthOf 8 = .ok (.ireturn, 1) := by decide +kernel
theorem dX2_sourcesOf_0 : decode cX2_sourcesOf 0 = .ok (.aload_n 0, 1) := by decide +kernel
theorem dX2_sourcesOf_1 : decode cX2_sourcesOf 1 = .ok (.getfield 18, 3) := by decide +kernel
theorem dX2_sourcesOf_4 : decode cX2_sourcesOf 4 = .ok (.iload_n 1, 1) := by decide +kernel
theorem dX2_sourcesOf_5 : decode cX2_sourcesOf 5 = .ok (.invokestatic 41, 3) := by decide +kernel
theorem dX2_sourcesOf_8 : decode cX2_sourcesOf 8 = .ok (.invokestatic 45, 3) := by decide +kernel
theorem dX2_sourcesOf_11 : decode cX2_sourcesOf 11 = .ok (.ireturn, 1) := by decide +kernel
theorem dX2_greatestDepth_0 : decode cX2_greatestDepth 0 = .ok (.iconst 0, 1) := by decide +kernel
theorem dX2_greatestDepth_1 : decode cX2_greatestDepth 1 = .ok (.istore_n 2, 1) := by decide +kernel
theorem dX2_greatestDepth_2 : decode cX2_greatestDepth 2 = .ok (.iconst 0, 1) := by decide +kernel
theorem dX2_greatestDepth_3 : decode cX2_greatestDepth 3 = .ok (.istore_n 3, 1) := by decide +kernel
theorem dX2_greatestDepth_4 : decode cX2_greatestDepth 4 = .ok (.iload_n 3, 1) := by decide +kernel
theorem dX2_greatestDepth_5 : decode cX2_greatestDepth 5 = .ok (.iload_n 1, 1) := by decide +kernel
theorem dX2_greatestDepth_6 : decode cX2_greatestDepth 6 = .ok (.if_icmp .ge 19, 3) := by decide +kernel
theorem dX2_greatestDepth_9 : decode cX2_greatestDepth 9 = .ok (.iload_n 2, 1) := by decide +kernel
theorem dX2_greatestDepth_10 : decode cX2_greatestDepth 10 = .ok (.aload_n 0, 1) := by decide +kernel
theorem dX2_greatestDepth_11 : decode cX2_greatestDepth 11 = .ok (.iload_n 3, 1) := by decide +kernel
theorem dX2_greatestDepth_12 : decode cX2_greatestDepth 12 = .ok (.invokevirtual 51, 3) := by decide +kernel
theorem dX2_greatestDepth_15 : decode cX2_greatestDepth 15 = .ok (.invokestatic 54, 3) := by decide +kernel
theorem dX2_greatestDepth_18 : decode cX2_greatestDepth 18 = .ok (.istore_n 2, 1) := by decide +kernel
theorem dX2_greatestDepth_19 : decode cX2_greatestDepth 19 = .ok (.iinc 3 1, 3) := by decide +kernel
theorem dX2_greatestDepth_22 : decode cX2_greatestDepth 22 = .ok (.goto (-18), 3) := by decide +kernel
theorem dX2_greatestDepth_25 : decode cX2_greatestDepth 25 = .ok (.iload_n 2, 1) := by decide +kernel
theorem dX2_greatestDepth_26 : decode cX2_greatestDepth 26 = .ok (.ireturn, 1) := by decide +kernel
theorem dX2_exactShareIn_0 : decode cX2_exactShareIn 0 = .ok (.aload_n 1, 1) := by decide +kernel
theorem dX2_exactShareIn_1 : decode cX2_exactShareIn 1 = .ok (.iload_n 2, 1) := by decide +kernel
theorem dX2_exactShareIn_2 : decode cX2_exactShareIn 2 = .ok (.iconst 1, 1) := by decide +kernel
theorem dX2_exactShareIn_3 : decode cX2_exactShareIn 3 = .ok (.invokevirtual 60, 3) := by decide +kernel
theorem dX2_exactShareIn_6 : decode cX2_exactShareIn 6 = .ok (.istore_n 3, 1) := by decide +kernel
theorem dX2_exactShareIn_7 : decode cX2_exactShareIn 7 = .ok (.aload_n 1, 1) := by decide +kernel
theorem dX2_exactShareIn_8 : decode cX2_exactShareIn 8 = .ok (.iload_n 2, 1) := by decide +kernel
theorem dX2_exactShareIn_9 : decode cX2_exactShareIn 9 = .ok (.iconst 2, 1) := by decide +kernel
theorem dX2_exactShareIn_10 : decode cX2_exactShareIn 10 = .ok (.invokevirtual 60, 3) := by decide +kernel
theorem dX2_exactShareIn_13 : decode cX2_exactShareIn 13 = .ok (.istore 4, 2) := by decide +kernel
theorem dX2_exactShareIn_15 : decode cX2_exactShareIn 15 = .ok (.aload_n 0, 1) := by decide +kernel
theorem dX2_exactShareIn_16 : decode cX2_exactShareIn 16 = .ok (.iload_n 3, 1) := by decide +kernel
theorem dX2_exactShareIn_17 : decode cX2_exactShareIn 17 = .ok (.invokevirtual 63, 3) := by decide +kernel
theorem dX2_exactShareIn_20 : decode cX2_exactShareIn 20 = .ok (.istore 5, 2) := by decide +kernel
theorem dX2_exactShareIn_22 : decode cX2_exactShareIn 22 = .ok (.aload_n 1, 1) := by decide +kernel
theorem dX2_exactShareIn_23 : decode cX2_exactShareIn 23 = .ok (.iload_n 2, 1) := by decide +kernel
theorem dX2_exactShareIn_24 : decode cX2_exactShareIn 24 = .ok (.invokevirtual 66, 3) := by decide +kernel
theorem dX2_exactShareIn_27 : decode cX2_exactShareIn 27 = .ok (.tableswitch 138 0 5 #[37, 43, 57, 81, 107, 132], 37) := by decide +kernel
theorem dX2_exactShareIn_64 : decode cX2_exactShareIn 64 = .ok (.iload_n 3, 1) := by decide +kernel
theorem dX2_exactShareIn_65 : decode cX2_exactShareIn 65 = .ok (.sipush 256, 3) := by decide +kernel
theorem dX2_exactShareIn_68 : decode cX2_exactShareIn 68 = .ok (.imul, 1) := by decide +kernel
theorem dX2_exactShareIn_69 : decode cX2_exactShareIn 69 = .ok (.ireturn, 1) := by decide +kernel
theorem dX2_exactShareIn_70 : decode cX2_exactShareIn 70 = .ok (.iload 5, 2) := by decide +kernel
theorem dX2_exactShareIn_72 : decode cX2_exactShareIn 72 = .ok (.i2l, 1) := by decide +kernel
theorem dX2_exactShareIn_73 : decode cX2_exactShareIn 73 = .ok (.aload_n 0, 1) := by decide +kernel
theorem dX2_exactShareIn_74 : decode cX2_exactShareIn 74 = .ok (.iload 4, 2) := by decide +kernel
theorem dX2_exactShareIn_76 : decode cX2_exactShareIn 76 = .ok (.invokevirtual 63, 3) := by decide +kernel
theorem dX2_exactShareIn_79 : decode cX2_exactShareIn 79 = .ok (.i2l, 1) := by decide +kernel
theorem dX2_exactShareIn_80 : decode cX2_exactShareIn 80 = .ok (.invokestatic 69, 3) := by decide +kernel
theorem dX2_exactShareIn_83 : decode cX2_exactShareIn 83 = .ok (.ireturn, 1) := by decide +kernel
theorem dX2_exactShareIn_84 : decode cX2_exactShareIn 84 = .ok (.iload 5, 2) := by decide +kernel
theorem dX2_exactShareIn_86 : decode cX2_exactShareIn 86 = .ok (.aload_n 0, 1) := by decide +kernel
theorem dX2_exactShareIn_87 : decode cX2_exactShareIn 87 = .ok (.iload 4, 2) := by decide +kernel
theorem dX2_exactShareIn_89 : decode cX2_exactShareIn 89 = .ok (.invokevirtual 63, 3) := by decide +kernel
theorem dX2_exactShareIn_92 : decode cX2_exactShareIn 92 = .ok (.iadd, 1) := by decide +kernel
theorem dX2_exactShareIn_93 : decode cX2_exactShareIn 93 = .ok (.iload 5, 2) := by decide +kernel
theorem dX2_exactShareIn_95 : decode cX2_exactShareIn 95 = .ok (.i2l, 1) := by decide +kernel
theorem dX2_exactShareIn_96 : decode cX2_exactShareIn 96 = .ok (.aload_n 0, 1) := by decide +kernel
theorem dX2_exactShareIn_97 : decode cX2_exactShareIn 97 = .ok (.iload 4, 2) := by decide +kernel
theorem dX2_exactShareIn_99 : decode cX2_exactShareIn 99 = .ok (.invokevirtual 63, 3) := by decide +kernel
theorem dX2_exactShareIn_102 : decode cX2_exactShareIn 102 = .ok (.i2l, 1) := by decide +kernel
theorem dX2_exactShareIn_103 : decode cX2_exactShareIn 103 = .ok (.invokestatic 69, 3) := by decide +kernel
theorem dX2_exactShareIn_106 : decode cX2_exactShareIn 106 = .ok (.isub, 1) := by decide +kernel
theorem dX2_exactShareIn_107 : decode cX2_exactShareIn 107 = .ok (.ireturn, 1) := by decide +kernel
theorem dX2_exactShareIn_108 : decode cX2_exactShareIn 108 = .ok (.iload 5, 2) := by decide +kernel
theorem dX2_exactShareIn_110 : decode cX2_exactShareIn 110 = .ok (.aload_n 0, 1) := by decide +kernel
theorem dX2_exactShareIn_111 : decode cX2_exactShareIn 111 = .ok (.iload 4, 2) := by decide +kernel
theorem dX2_exactShareIn_113 : decode cX2_exactShareIn 113 = .ok (.invokevirtual 63, 3) := by decide +kernel
theorem dX2_exactShareIn_116 : decode cX2_exactShareIn 116 = .ok (.iadd, 1) := by decide +kernel
theorem dX2_exactShareIn_117 : decode cX2_exactShareIn 117 = .ok (.iconst 2, 1) := by decide +kernel
theorem dX2_exactShareIn_118 : decode cX2_exactShareIn 118 = .ok (.iload 5, 2) := by decide +kernel
theorem dX2_exactShareIn_120 : decode cX2_exactShareIn 120 = .ok (.i2l, 1) := by decide +kernel
theorem dX2_exactShareIn_121 : decode cX2_exactShareIn 121 = .ok (.aload_n 0, 1) := by decide +kernel
theorem dX2_exactShareIn_122 : decode cX2_exactShareIn 122 = .ok (.iload 4, 2) := by decide +kernel
theorem dX2_exactShareIn_124 : decode cX2_exactShareIn 124 = .ok (.invokevirtual 63, 3) := by decide +kernel
theorem dX2_exactShareIn_127 : decode cX2_exactShareIn 127 = .ok (.i2l, 1) := by decide +kernel
theorem dX2_exactShareIn_128 : decode cX2_exactShareIn 128 = .ok (.invokestatic 69, 3) := by decide +kernel
theorem dX2_exactShareIn_131 : decode cX2_exactShareIn 131 = .ok (.imul, 1) := by decide +kernel
theorem dX2_exactShareIn_132 : decode cX2_exactShareIn 132 = .ok (.isub, 1) := by decide +kernel
theorem dX2_exactShareIn_133 : decode cX2_exactShareIn 133 = .ok (.ireturn, 1) := by decide +kernel
theorem dX2_exactShareIn_134 : decode cX2_exactShareIn 134 = .ok (.iload 5, 2) := by decide +kernel
theorem dX2_exactShareIn_136 : decode cX2_exactShareIn 136 = .ok (.i2l, 1) := by decide +kernel
theorem dX2_exactShareIn_137 : decode cX2_exactShareIn 137 = .ok (.aload_n 0, 1) := by decide +kernel
theorem dX2_exactShareIn_138 : decode cX2_exactShareIn 138 = .ok (.iload 4, 2) := by decide +kernel
theorem dX2_exactShareIn_140 : decode cX2_exactShareIn 140 = .ok (.invokevirtual 63, 3) := by decide +kernel
theorem dX2_exactShareIn_143 : decode cX2_exactShareIn 143 = .ok (.i2l, 1) := by decide +kernel
theorem dX2_exactShareIn_144 : decode cX2_exactShareIn 144 = .ok (.aload_n 0, 1) := by decide +kernel
theorem dX2_exactShareIn_145 : decode cX2_exactShareIn 145 = .ok (.aload_n 1, 1) := by decide +kernel
theorem dX2_exactShareIn_146 : decode cX2_exactShareIn 146 = .ok (.iload_n 2, 1) := by decide +kernel
theorem dX2_exactShareIn_147 : decode cX2_exactShareIn 147 = .ok (.iconst 3, 1) := by decide +kernel
theorem dX2_exactShareIn_148 : decode cX2_exactShareIn 148 = .ok (.invokevirtual 60, 3) := by decide +kernel
theorem dX2_exactShareIn_151 : decode cX2_exactShareIn 151 = .ok (.invokevirtual 63, 3) := by decide +kernel
theorem dX2_exactShareIn_154 : decode cX2_exactShareIn 154 = .ok (.i2l, 1) := by decide +kernel
theorem dX2_exactShareIn_155 : decode cX2_exactShareIn 155 = .ok (.invokestatic 73, 3) := by decide +kernel
theorem dX2_exactShareIn_158 : decode cX2_exactShareIn 158 = .ok (.ireturn, 1) := by decide +kernel
theorem dX2_exactShareIn_159 : decode cX2_exactShareIn 159 = .ok (.ldc 77, 2) := by decide +kernel
theorem dX2_exactShareIn_161 : decode cX2_exactShareIn 161 = .ok (.iload 5, 2) := by decide +kernel
theorem dX2_exactShareIn_163 : decode cX2_exactShareIn 163 = .ok (.isub, 1) := by decide +kernel
theorem dX2_exactShareIn_164 : decode cX2_exactShareIn 164 = .ok (.ireturn, 1) := by decide +kernel
theorem dX2_exactShareIn_165 : decode cX2_exactShareIn 165 = .ok (.iload 5, 2) := by decide +kernel
theorem dX2_exactShareIn_167 : decode cX2_exactShareIn 167 = .ok (.ireturn, 1) := by decide +kernel
theorem dX2_productOf_0 : decode cX2_productOf 0 = .ok (.lload_n 0, 1) := by decide +kernel
theorem dX2_productOf_1 : decode cX2_productOf 1 = .ok (.lload_n 2, 1) := by decide +kernel
theorem dX2_productOf_2 : decode cX2_productOf 2 = .ok (.lmul, 1) := by decide +kernel
theorem dX2_productOf_3 : decode cX2_productOf 3 = .ok (.ldc2_w 78, 3) := by decide +kernel
theorem dX2_productOf_6 : decode cX2_productOf 6 = .ok (.ldiv, 1) := by decide +kernel
theorem dX2_productOf_7 : decode cX2_productOf 7 = .ok (.l2i, 1) := by decide +kernel
theorem dX2_productOf_8 : decode cX2_productOf 8 = .ok (.ireturn, 1) := by decide +kernel
theorem dX2_mixOf_0 : decode cX2_mixOf 0 = .ok (.lload_n 0, 1) := by decide +kernel
theorem dX2_mixOf_1 : decode cX2_mixOf 1 = .ok (.lload 4, 2) := by decide +kernel
theorem dX2_mixOf_3 : decode cX2_mixOf 3 = .ok (.lmul, 1) := by decide +kernel
theorem dX2_mixOf_4 : decode cX2_mixOf 4 = .ok (.lload_n 2, 1) := by decide +kernel
theorem dX2_mixOf_5 : decode cX2_mixOf 5 = .ok (.ldc2_w 78, 3) := by decide +kernel
theorem dX2_mixOf_8 : decode cX2_mixOf 8 = .ok (.lload 4, 2) := by decide +kernel
theorem dX2_mixOf_10 : decode cX2_mixOf 10 = .ok (.lsub, 1) := by decide +kernel
theorem dX2_mixOf_11 : decode cX2_mixOf 11 = .ok (.lmul, 1) := by decide +kernel
theorem dX2_mixOf_12 : decode cX2_mixOf 12 = .ok (.ladd, 1) := by decide +kernel
theorem dX2_mixOf_13 : decode cX2_mixOf 13 = .ok (.ldc2_w 78, 3) := by decide +kernel
theorem dX2_mixOf_16 : decode cX2_mixOf 16 = .ok (.ldiv, 1) := by decide +kernel
theorem dX2_mixOf_17 : decode cX2_mixOf 17 = .ok (.l2i, 1) := by decide +kernel
theorem dX2_mixOf_18 : decode cX2_mixOf 18 = .ok (.ireturn, 1) := by decide +kernel
theorem dX2_depthIn_0 : decode cX2_depthIn 0 = .ok (.iconst 0, 1) := by decide +kernel
theorem dX2_depthIn_1 : decode cX2_depthIn 1 = .ok (.istore_n 3, 1) := by decide +kernel
theorem dX2_depthIn_2 : decode cX2_depthIn 2 = .ok (.aload_n 1, 1) := by decide +kernel
theorem dX2_depthIn_3 : decode cX2_depthIn 3 = .ok (.iload_n 2, 1) := by decide +kernel
theorem dX2_depthIn_4 : decode cX2_depthIn 4 = .ok (.invokevirtual 66, 3) := by decide +kernel
theorem dX2_depthIn_7 : decode cX2_depthIn 7 = .ok (.invokestatic 80, 3) := by decide +kernel
theorem dX2_depthIn_10 : decode cX2_depthIn 10 = .ok (.istore 4, 2) := by decide +kernel
theorem dX2_depthIn_12 : decode cX2_depthIn 12 = .ok (.iconst 1, 1) := by decide +kernel
theorem dX2_depthIn_13 : decode cX2_depthIn 13 = .ok (.istore 5, 2) := by decide +kernel
theorem dX2_depthIn_15 : decode cX2_depthIn 15 = .ok (.iload 5, 2) := by decide +kernel
theorem dX2_depthIn_17 : decode cX2_depthIn 17 = .ok (.iload 4, 2) := by decide +kernel
theorem dX2_depthIn_19 : decode cX2_depthIn 19 = .ok (.if_icmp .gt 27, 3) := by decide +kernel
theorem dX2_depthIn_22 : decode cX2_depthIn 22 = .ok (.iload_n 3, 1) := by decide +kernel
theorem dX2_depthIn_23 : decode cX2_depthIn 23 = .ok (.iconst 1, 1) := by decide +kernel
theorem dX2_depthIn_24 : decode cX2_depthIn 24 = .ok (.aload_n 0, 1) := by decide +kernel
theorem dX2_depthIn_25 : decode cX2_depthIn 25 = .ok (.aload_n 1, 1) := by decide +kernel
theorem dX2_depthIn_26 : decode cX2_depthIn 26 = .ok (.iload_n 2, 1) := by decide +kernel
theorem dX2_depthIn_27 : decode cX2_depthIn 27 = .ok (.iload 5, 2) := by decide +kernel
theorem dX2_depthIn_29 : decode cX2_depthIn 29 = .ok (.invokevirtual 60, 3) := by decide +kernel
theorem dX2_depthIn_32 : decode cX2_depthIn 32 = .ok (.invokevirtual 51, 3) := by decide +kernel
theorem dX2_depthIn_35 : decode cX2_depthIn 35 = .ok (.iadd, 1) := by decide +kernel
theorem dX2_depthIn_36 : decode cX2_depthIn 36 = .ok (.invokestatic 54, 3) := by decide +kernel
theorem dX2_depthIn_39 : decode cX2_depthIn 39 = .ok (.istore_n 3, 1) := by decide +kernel
theorem dX2_depthIn_40 : decode cX2_depthIn 40 = .ok (.iinc 5 1, 3) := by decide +kernel
theorem dX2_depthIn_43 : decode cX2_depthIn 43 = .ok (.goto (-28), 3) := by decide +kernel
theorem dX2_depthIn_46 : decode cX2_depthIn 46 = .ok (.iload_n 3, 1) := by decide +kernel
theorem dX2_depthIn_47 : decode cX2_depthIn 47 = .ok (.ireturn, 1) := by decide +kernel
theorem dX2_originsIn_0 : decode cX2_originsIn 0 = .ok (.aload_n 1, 1) := by decide +kernel
theorem dX2_originsIn_1 : decode cX2_originsIn 1 = .ok (.iload_n 2, 1) := by decide +kernel
theorem dX2_originsIn_2 : decode cX2_originsIn 2 = .ok (.invokevirtual 66, 3) := by decide +kernel
theorem dX2_originsIn_5 : decode cX2_originsIn 5 = .ok (.ifCond .ne 7, 3) := by decide +kernel
theorem dX2_originsIn_8 : decode cX2_originsIn 8 = .ok (.iconst 1, 1) := by decide +kernel
theorem dX2_originsIn_9 : decode cX2_originsIn 9 = .ok (.iload_n 2, 1) := by decide +kernel
theorem dX2_originsIn_10 : decode cX2_originsIn 10 = .ok (.ishl, 1) := by decide +kernel
theorem dX2_originsIn_11 : decode cX2_originsIn 11 = .ok (.ireturn, 1) := by decide +kernel
theorem dX2_originsIn_12 : decode cX2_originsIn 12 = .ok (.iconst 0, 1) := by decide +kernel
theorem dX2_originsIn_13 : decode cX2_originsIn 13 = .ok (.istore_n 3, 1) := by decide +kernel
theorem dX2_originsIn_14 : decode cX2_originsIn 14 = .ok (.aload_n 1, 1) := by decide +kernel
theorem dX2_originsIn_15 : decode cX2_originsIn 15 = .ok (.iload_n 2, 1) := by decide +kernel
theorem dX2_originsIn_16 : decode cX2_originsIn 16 = .ok (.invokevirtual 66, 3) := by decide +kernel
theorem dX2_originsIn_19 : decode cX2_originsIn 19 = .ok (.invokestatic 80, 3) := by decide +kernel
theorem dX2_originsIn_22 : decode cX2_originsIn 22 = .ok (.istore 4, 2) := by decide +kernel
theorem dX2_originsIn_24 : decode cX2_originsIn 24 = .ok (.iconst 1, 1) := by decide +kernel
theorem dX2_originsIn_25 : decode cX2_originsIn 25 = .ok (.istore 5, 2) := by decide +kernel
theorem dX2_originsIn_27 : decode cX2_originsIn 27 = .ok (.iload 5, 2) := by decide +kernel
theorem dX2_originsIn_29 : decode cX2_originsIn 29 = .ok (.iload 4, 2) := by decide +kernel
theorem dX2_originsIn_31 : decode cX2_originsIn 31 = .ok (.if_icmp .gt 26, 3) := by decide +kernel
theorem dX2_originsIn_34 : decode cX2_originsIn 34 = .ok (.iload_n 3, 1) := by decide +kernel
theorem dX2_originsIn_35 : decode cX2_originsIn 35 = .ok (.aload_n 0, 1) := by decide +kernel
theorem dX2_originsIn_36 : decode cX2_originsIn 36 = .ok (.getfield 18, 3) := by decide +kernel
theorem dX2_originsIn_39 : decode cX2_originsIn 39 = .ok (.aload_n 1, 1) := by decide +kernel
theorem dX2_originsIn_40 : decode cX2_originsIn 40 = .ok (.iload_n 2, 1) := by decide +kernel
theorem dX2_originsIn_41 : decode cX2_originsIn 41 = .ok (.iload 5, 2) := by decide +kernel
theorem dX2_originsIn_43 : decode cX2_originsIn 43 = .ok (.invokevirtual 60, 3) := by decide +kernel
theorem dX2_originsIn_46 : decode cX2_originsIn 46 = .ok (.invokestatic 41, 3) := by decide +kernel
theorem dX2_originsIn_49 : decode cX2_originsIn 49 = .ok (.ior, 1) := by decide +kernel
theorem dX2_originsIn_50 : decode cX2_originsIn 50 = .ok (.istore_n 3, 1) := by decide +kernel
theorem dX2_originsIn_51 : decode cX2_originsIn 51 = .ok (.iinc 5 1, 3) := by decide +kernel
theorem dX2_originsIn_54 : decode cX2_originsIn 54 = .ok (.goto (-27), 3) := by decide +kernel
theorem dX2_originsIn_57 : decode cX2_originsIn 57 = .ok (.iload_n 3, 1) := by decide +kernel
theorem dX2_originsIn_58 : decode cX2_originsIn 58 = .ok (.ireturn, 1) := by decide +kernel
theorem dX3_init_0 : decode cX3_init 0 = .ok (.aload_n 0, 1) := by decide +kernel
theorem dX3_init_1 : decode cX3_init 1 = .ok (.invokespecial 3, 3) := by decide +kernel
theorem dX3_init_4 : decode cX3_init 4 = .ok (.aload_n 0, 1) := by decide +kernel
theorem dX3_init_5 : decode cX3_init 5 = .ok (.iconst 4, 1) := by decide +kernel
theorem dX3_init_6 : decode cX3_init 6 = .ok (.anewarray 9, 3) := by decide +kernel
theorem dX3_init_9 : decode cX3_init 9 = .ok (.putfield 11, 3) := by decide +kernel
theorem dX3_init_12 : decode cX3_init 12 = .ok (.aload_n 0, 1) := by decide +kernel
theorem dX3_init_13 : decode cX3_init 13 = .ok (.iconst 0, 1) := by decide +kernel
theorem dX3_init_14 : decode cX3_init 14 = .ok (.putfield 17, 3) := by decide +kernel
theorem dX3_init_17 : decode cX3_init 17 = .ok (.aload_n 0, 1) := by decide +kernel
theorem dX3_init_18 : decode cX3_init 18 = .ok (.iconst 0, 1) := by decide +kernel
theorem dX3_init_19 : decode cX3_init 19 = .ok (.putfield 21, 3) := by decide +kernel
theorem dX3_init_22 : decode cX3_init 22 = .ok (.iconst 0, 1) := by decide +kernel
theorem dX3_init_23 : decode cX3_init 23 = .ok (.istore_n 1, 1) := by decide +kernel
theorem dX3_init_24 : decode cX3_init 24 = .ok (.iload_n 1, 1) := by decide +kernel
theorem dX3_init_25 : decode cX3_init 25 = .ok (.aload_n 0, 1) := by decide +kernel
theorem dX3_init_26 : decode cX3_init 26 = .ok (.getfield 11, 3) := by decide +kernel
theorem dX3_init_29 : decode cX3_init 29 = .ok (.arraylength, 1) := by decide +kernel
theorem dX3_init_30 : decode cX3_init 30 = .ok (.if_icmp .ge 22, 3) := by decide +kernel
theorem dX3_init_33 : decode cX3_init 33 = .ok (.aload_n 0, 1) := by decide +kernel
theorem dX3_init_34 : decode cX3_init 34 = .ok (.getfield 11, 3) := by decide +kernel
theorem dX3_init_37 : decode cX3_init 37 = .ok (.iload_n 1, 1) := by decide +kernel
theorem dX3_init_38 : decode cX3_init 38 = .ok (.new 9, 3) := by decide +kernel
theorem dX3_init_41 : decode cX3_init 41 = .ok (.dup, 1) := by decide +kernel
theorem dX3_init_42 : decode cX3_init 42 = .ok (.invokespecial 24, 3) := by decide +kernel
theorem dX3_init_45 : decode cX3_init 45 = .ok (.aastore, 1) := by decide +kernel
theorem dX3_init_46 : decode cX3_init 46 = .ok (.iinc 1 1, 3) := by decide +kernel
theorem dX3_init_49 : decode cX3_init 49 = .ok (.goto (-25), 3) := by decide +kernel
theorem dX3_init_52 : decode cX3_init 52 = .ok (.return_, 1) := by decide +kernel
theorem dX3_push_0 : decode cX3_push 0 = .ok (.aload_n 0, 1) := by decide +kernel
theorem dX3_push_1 : decode cX3_push 1 = .ok (.aload_n 0, 1) := by decide +kernel
theorem dX3_push_2 : decode cX3_push 2 = .ok (.getfield 21, 3) := by decide +kernel
theorem dX3_push_5 : decode cX3_push 5 = .ok (.invokevirtual 25, 3) := by decide +kernel
theorem dX3_push_8 : decode cX3_push 8 = .ok (.astore_n 2, 1) := by decide +kernel
theorem dX3_push_9 : decode cX3_push 9 = .ok (.aload_n 2, 1) := by decide +kernel
theorem dX3_push_10 : decode cX3_push 10 = .ok (.ifnonnull 4, 3) := by decide +kernel
theorem dX3_push_13 : decode cX3_push 13 = .ok (.return_, 1) := by decide +kernel
theorem dX3_push_14 : decode cX3_push 14 = .ok (.aload_n 2, 1) := by decide +kernel
theorem dX3_push_15 : decode cX3_push 15 = .ok (.aload_n 1, 1) := by decide +kernel
theorem dX3_push_16 : decode cX3_push 16 = .ok (.invokevirtual 29, 3) := by decide +kernel
theorem dX3_push_19 : decode cX3_push 19 = .ok (.aload_n 0, 1) := by decide +kernel
theorem dX3_push_20 : decode cX3_push 20 = .ok (.getfield 21, 3) := by decide +kernel
theorem dX3_push_23 : decode cX3_push 23 = .ok (.iconst 4, 1) := by decide +kernel
theorem dX3_push_24 : decode cX3_push 24 = .ok (.if_icmp .ge 16, 3) := by decide +kernel
theorem dX3_push_27 : decode cX3_push 27 = .ok (.aload_n 0, 1) := by decide +kernel
theorem dX3_push_28 : decode cX3_push 28 = .ok (.dup, 1) := by decide +kernel
theorem dX3_push_29 : decode cX3_push 29 = .ok (.getfield 21, 3) := by decide +kernel
theorem dX3_push_32 : decode cX3_push 32 = .ok (.iconst 1, 1) := by decide +kernel
theorem dX3_push_33 : decode cX3_push 33 = .ok (.iadd, 1) := by decide +kernel
theorem dX3_push_34 : decode cX3_push 34 = .ok (.putfield 21, 3) := by decide +kernel
theorem dX3_push_37 : decode cX3_push 37 = .ok (.goto 15, 3) := by decide +kernel
theorem dX3_push_40 : decode cX3_push 40 = .ok (.aload_n 0, 1) := by decide +kernel
theorem dX3_push_41 : decode cX3_push 41 = .ok (.aload_n 0, 1) := by decide +kernel
theorem dX3_push_42 : decode cX3_push 42 = .ok (.getfield 17, 3) := by decide +kernel
theorem dX3_push_45 : decode cX3_push 45 = .ok (.iconst 1, 1) := by decide +kernel
theorem dX3_push_46 : decode cX3_push 46 = .ok (.iadd, 1) := by decide +kernel
theorem dX3_push_47 : decode cX3_push 47 = .ok (.iconst 4, 1) := by decide +kernel
theorem dX3_push_48 : decode cX3_push 48 = .ok (.irem, 1) := by decide +kernel
theorem dX3_push_49 : decode cX3_push 49 = .ok (.putfield 17, 3) := by decide +kernel
theorem dX3_push_52 : decode cX3_push 52 = .ok (.return_, 1) := by decide +kernel
theorem dX3_popInto_0 : decode cX3_popInto 0 = .ok (.aload_n 0, 1) := by decide +kernel
theorem dX3_popInto_1 : decode cX3_popInto 1 = .ok (.aload_n 0, 1) := by decide +kernel
theorem dX3_popInto_2 : decode cX3_popInto 2 = .ok (.getfield 21, 3) := by decide +kernel
theorem dX3_popInto_5 : decode cX3_popInto 5 = .ok (.iconst 1, 1) := by decide +kernel
theorem dX3_popInto_6 : decode cX3_popInto 6 = .ok (.isub, 1) := by decide +kernel
theorem dX3_popInto_7 : decode cX3_popInto 7 = .ok (.invokevirtual 25, 3) := by decide +kernel
theorem dX3_popInto_10 : decode cX3_popInto 10 = .ok (.astore_n 2, 1) := by decide +kernel
theorem dX3_popInto_11 : decode cX3_popInto 11 = .ok (.aload_n 0, 1) := by decide +kernel
theorem dX3_popInto_12 : decode cX3_popInto 12 = .ok (.getfield 21, 3) := by decide +kernel
theorem dX3_popInto_15 : decode cX3_popInto 15 = .ok (.ifCond .eq 7, 3) := by decide +kernel
theorem dX3_popInto_18 : decode cX3_popInto 18 = .ok (.aload_n 2, 1) := by decide +kernel
theorem dX3_popInto_19 : decode cX3_popInto 19 = .ok (.ifnonnull 4, 3) := by decide +kernel
theorem dX3_popInto_22 : decode cX3_popInto 22 = .ok (.return_, 1) := by decide +kernel
theorem dX3_popInto_23 : decode cX3_popInto 23 = .ok (.aload_n 1, 1) := by decide +kernel
theorem dX3_popInto_24 : decode cX3_popInto 24 = .ok (.aload_n 2, 1) := by decide +kernel
theorem dX3_popInto_25 : decode cX3_popInto 25 = .ok (.invokevirtual 29, 3) := by decide +kernel
theorem dX3_popInto_28 : decode cX3_popInto 28 = .ok (.aload_n 0, 1) := by decide +kernel
theorem dX3_popInto_29 : decode cX3_popInto 29 = .ok (.dup, 1) := by decide +kernel
theorem dX3_popInto_30 : decode cX3_popInto 30 = .ok (.getfield 21, 3) := by decide +kernel
theorem dX3_popInto_33 : decode cX3_popInto 33 = .ok (.iconst 1, 1) := by decide +kernel
theorem dX3_popInto_34 : decode cX3_popInto 34 = .ok (.isub, 1) := by decide +kernel
theorem dX3_popInto_35 : decode cX3_popInto 35 = .ok (.putfield 21, 3) := by decide +kernel
theorem dX3_popInto_38 : decode cX3_popInto 38 = .ok (.return_, 1) := by decide +kernel
theorem dX3_stateAt_0 : decode cX3_stateAt 0 = .ok (.aload_n 0, 1) := by decide +kernel
theorem dX3_stateAt_1 : decode cX3_stateAt 1 = .ok (.getfield 17, 3) := by decide +kernel
theorem dX3_stateAt_4 : decode cX3_stateAt 4 = .ok (.iload_n 1, 1) := by decide +kernel
theorem dX3_stateAt_5 : decode cX3_stateAt 5 = .ok (.iadd, 1) := by decide +kernel
theorem dX3_stateAt_6 : decode cX3_stateAt 6 = .ok (.iconst 4, 1) := by decide +kernel
theorem dX3_stateAt_7 : decode cX3_stateAt 7 = .ok (.invokestatic 33, 3) := by decide +kernel
theorem dX3_stateAt_10 : decode cX3_stateAt 10 = .ok (.istore_n 2, 1) := by decide +kernel
theorem dX3_stateAt_11 : decode cX3_stateAt 11 = .ok (.iload_n 2, 1) := by decide +kernel
theorem dX3_stateAt_12 : decode cX3_stateAt 12 = .ok (.ifCond .lt 12, 3) := by decide +kernel
theorem dX3_stateAt_15 : decode cX3_stateAt 15 = .ok (.iload_n 2, 1) := by decide +kernel
theorem dX3_stateAt_16 : decode cX3_stateAt 16 = .ok (.aload_n 0, 1) := by decide +kernel
theorem dX3_stateAt_17 : decode cX3_stateAt 17 = .ok (.getfield 11, 3) := by decide +kernel
theorem dX3_stateAt_20 : decode cX3_stateAt 20 = .ok (.arraylength, 1) := by decide +kernel
theorem dX3_stateAt_21 : decode cX3_stateAt 21 = .ok (.if_icmp .lt 7, 3) := by decide +kernel
theorem dX3_stateAt_24 : decode cX3_stateAt 24 = .ok (.aconst_null, 1) := by decide +kernel
theorem dX3_stateAt_25 : decode cX3_stateAt 25 = .ok (.goto 9, 3) := by decide +kernel
theorem dX3_stateAt_28 : decode cX3_stateAt 28 = .ok (.aload_n 0, 1) := by decide +kernel
theorem dX3_stateAt_29 : decode cX3_stateAt 29 = .ok (.getfield 11, 3) := by decide +kernel
theorem dX3_stateAt_32 : decode cX3_stateAt 32 = .ok (.iload_n 2, 1) := by decide +kernel
theorem dX3_stateAt_33 : decode cX3_stateAt 33 = .ok (.aaload, 1) := by decide +kernel
theorem dX3_stateAt_34 : decode cX3_stateAt 34 = .ok (.areturn, 1) := by decide +kernel
theorem dX4_init_0 : decode cX4_init 0 = .ok (.aload_n 0, 1) := by decide +kernel
theorem dX4_init_1 : decode cX4_init 1 = .ok (.invokespecial 3, 3) := by decide +kernel
theorem dX4_init_4 : decode cX4_init 4 = .ok (.aload_n 0, 1) := by decide +kernel
theorem dX4_init_5 : decode cX4_init 5 = .ok (.bipush 16, 2) := by decide +kernel
theorem dX4_init_7 : decode cX4_init 7 = .ok (.bipush 16, 2) := by decide +kernel
theorem dX4_init_9 : decode cX4_init 9 = .ok (.multianewarray 9 2, 4) := by decide +kernel
theorem dX4_init_13 : decode cX4_init 13 = .ok (.putfield 11, 3) := by decide +kernel
theorem dX4_init_16 : decode cX4_init 16 = .ok (.return_, 1) := by decide +kernel
theorem dX4_fill_0 : decode cX4_fill 0 = .ok (.iconst 0, 1) := by decide +kernel
theorem dX4_fill_1 : decode cX4_fill 1 = .ok (.istore 4, 2) := by decide +kernel
theorem dX4_fill_3 : decode cX4_fill 3 = .ok (.iload 4, 2) := by decide +kernel
theorem dX4_fill_5 : decode cX4_fill 5 = .ok (.iload_n 2, 1) := by decide +kernel
theorem dX4_fill_6 : decode cX4_fill 6 = .ok (.if_icmp .gt 24, 3) := by decide +kernel
theorem dX4_fill_9 : decode cX4_fill 9 = .ok (.iload 4, 2) := by decide +kernel
theorem dX4_fill_11 : decode cX4_fill 11 = .ok (.bipush 16, 2) := by decide +kernel
theorem dX4_fill_13 : decode cX4_fill 13 = .ok (.if_icmp .ge 17, 3) := by decide +kernel
theorem dX4_fill_16 : decode cX4_fill 16 = .ok (.aload_n 0, 1) := by decide +kernel
theorem dX4_fill_17 : decode cX4_fill 17 = .ok (.aload_n 1, 1) := by decide +kernel
theorem dX4_fill_18 : decode cX4_fill 18 = .ok (.iload 4, 2) := by decide +kernel
theorem dX4_fill_20 : decode cX4_fill 20 = .ok (.iload_n 3, 1) := by decide +kernel
theorem dX4_fill_21 : decode cX4_fill 21 = .ok (.invokevirtual 16, 3) := by decide +kernel
theorem dX4_fill_24 : decode cX4_fill 24 = .ok (.iinc 4 1, 3) := by decide +kernel
theorem dX4_fill_27 : decode cX4_fill 27 = .ok (.goto (-24), 3) := by decide +kernel
theorem dX4_fill_30 : decode cX4_fill 30 = .ok (.return_, 1) := by decide +kernel
theorem dX4_refill_0 : decode cX4_refill 0 = .ok (.iload_n 2, 1) := by decide +kernel
theorem dX4_refill_1 : decode cX4_refill 1 = .ok (.istore 5, 2) := by decide +kernel
theorem dX4_refill_3 : decode cX4_refill 3 = .ok (.iload 5, 2) := by decide +kernel
theorem dX4_refill_5 : decode cX4_refill 5 = .ok (.iload_n 3, 1) := by decide +kernel
theorem dX4_refill_6 : decode cX4_refill 6 = .ok (.if_icmp .gt 40, 3) := by decide +kernel
theorem dX4_refill_9 : decode cX4_refill 9 = .ok (.iload 5, 2) := by decide +kernel
theorem dX4_refill_11 : decode cX4_refill 11 = .ok (.bipush 16, 2) := by decide +kernel
theorem dX4_refill_13 : decode cX4_refill 13 = .ok (.if_icmp .ge 33, 3) := by decide +kernel
theorem dX4_refill_16 : decode cX4_refill 16 = .ok (.iload 5, 2) := by decide +kernel
theorem dX4_refill_18 : decode cX4_refill 18 = .ok (.iload_n 2, 1) := by decide +kernel
theorem dX4_refill_19 : decode cX4_refill 19 = .ok (.if_icmp .eq 12, 3) := by decide +kernel
theorem dX4_refill_22 : decode cX4_refill 22 = .ok (.aload_n 1, 1) := by decide +kernel
theorem dX4_refill_23 : decode cX4_refill 23 = .ok (.iload 5, 2) := by decide +kernel
theorem dX4_refill_25 : decode cX4_refill 25 = .ok (.invokevirtual 20, 3) := by decide +kernel
theorem dX4_refill_28 : decode cX4_refill 28 = .ok (.ifCond .eq 12, 3) := by decide +kernel
theorem dX4_refill_31 : decode cX4_refill 31 = .ok (.aload_n 0, 1) := by decide +kernel
theorem dX4_refill_32 : decode cX4_refill 32 = .ok (.aload_n 1, 1) := by decide +kernel
theorem dX4_refill_33 : decode cX4_refill 33 = .ok (.iload 5, 2) := by decide +kernel
theorem dX4_refill_35 : decode cX4_refill 35 = .ok (.iload 4, 2) := by decide +kernel
theorem dX4_refill_37 : decode cX4_refill 37 = .ok (.invokevirtual 16, 3) := by decide +kernel
theorem dX4_refill_40 : decode cX4_refill 40 = .ok (.iinc 5 1, 3) := by decide +kernel
theorem dX4_refill_43 : decode cX4_refill 43 = .ok (.goto (-40), 3) := by decide +kernel
theorem dX4_refill_46 : decode cX4_refill 46 = .ok (.return_, 1) := by decide +kernel
theorem dX4_fillRow_0 : decode cX4_fillRow 0 = .ok (.iload_n 3, 1) := by decide +kernel
theorem dX4_fillRow_1 : decode cX4_fillRow 1 = .ok (.bipush 64, 2) := by decide +kernel
theorem dX4_fillRow_3 : decode cX4_fillRow 3 = .ok (.iadd, 1) := by decide +kernel
theorem dX4_fillRow_4 : decode cX4_fillRow 4 = .ok (.iconst 1, 1) := by decide +kernel
theorem dX4_fillRow_5 : decode cX4_fillRow 5 = .ok (.isub, 1) := by decide +kernel
theorem dX4_fillRow_6 : decode cX4_fillRow 6 = .ok (.bipush 64, 2) := by decide +kernel
theorem dX4_fillRow_8 : decode cX4_fillRow 8 = .ok (.idiv, 1) := by decide +kernel
theorem dX4_fillRow_9 : decode cX4_fillRow 9 = .ok (.istore 4, 2) := by decide +kernel
theorem dX4_fillRow_11 : decode cX4_fillRow 11 = .ok (.aload_n 1, 1) := by decide +kernel
theorem dX4_fillRow_12 : decode cX4_fillRow 12 = .ok (.iload_n 2, 1) := by decide +kernel
theorem dX4_fillRow_13 : decode cX4_fillRow 13 = .ok (.invokevirtual 20, 3) := by decide +kernel
theorem dX4_fillRow_16 : decode cX4_fillRow 16 = .ok (.ifCond .ne 23, 3) := by decide +kernel
theorem dX4_fillRow_19 : decode cX4_fillRow 19 = .ok (.aload_n 0, 1) := by decide +kernel
theorem dX4_fillRow_20 : decode cX4_fillRow 20 = .ok (.iload_n 2, 1) := by decide +kernel
theorem dX4_fillRow_21 : decode cX4_fillRow 21 = .ok (.aload_n 1, 1) := by decide +kernel
theorem dX4_fillRow_22 : decode cX4_fillRow 22 = .ok (.iload_n 2, 1) := by decide +kernel
theorem dX4_fillRow_23 : decode cX4_fillRow 23 = .ok (.iconst 1, 1) := by decide +kernel
theorem dX4_fillRow_24 : decode cX4_fillRow 24 = .ok (.invokevirtual 26, 3) := by decide +kernel
theorem dX4_fillRow_27 : decode cX4_fillRow 27 = .ok (.aload_n 1, 1) := by decide +kernel
theorem dX4_fillRow_28 : decode cX4_fillRow 28 = .ok (.iload_n 2, 1) := by decide +kernel
theorem dX4_fillRow_29 : decode cX4_fillRow 29 = .ok (.iconst 2, 1) := by decide +kernel
theorem dX4_fillRow_30 : decode cX4_fillRow 30 = .ok (.invokevirtual 26, 3) := by decide +kernel
theorem dX4_fillRow_33 : decode cX4_fillRow 33 = .ok (.iload 4, 2) := by decide +kernel
theorem dX4_fillRow_35 : decode cX4_fillRow 35 = .ok (.invokevirtual 30, 3) := by decide +kernel
theorem dX4_fillRow_38 : decode cX4_fillRow 38 = .ok (.return_, 1) := by decide +kernel
theorem dX4_fillRow_39 : decode cX4_fillRow 39 = .ok (.iconst 0, 1) := by decide +kernel
theorem dX4_fillRow_40 : decode cX4_fillRow 40 = .ok (.istore 5, 2) := by decide +kernel
theorem dX4_fillRow_42 : decode cX4_fillRow 42 = .ok (.iload 5, 2) := by decide +kernel
theorem dX4_fillRow_44 : decode cX4_fillRow 44 = .ok (.iload 4, 2) := by decide +kernel
theorem dX4_fillRow_46 : decode cX4_fillRow 46 = .ok (.if_icmp .ge 24, 3) := by decide +kernel
theorem dX4_fillRow_49 : decode cX4_fillRow 49 = .ok (.aload_n 0, 1) := by decide +kernel
theorem dX4_fillRow_50 : decode cX4_fillRow 50 = .ok (.iload_n 2, 1) := by decide +kernel
theorem dX4_fillRow_51 : decode cX4_fillRow 51 = .ok (.iload 5, 2) := by decide +kernel
theorem dX4_fillRow_53 : decode cX4_fillRow 53 = .ok (.aload_n 0, 1) := by decide +kernel
theorem dX4_fillRow_54 : decode cX4_fillRow 54 = .ok (.aload_n 1, 1) := by decide +kernel
theorem dX4_fillRow_55 : decode cX4_fillRow 55 = .ok (.iload_n 2, 1) := by decide +kernel
theorem dX4_fillRow_56 : decode cX4_fillRow 56 = .ok (.iload 5, 2) := by decide +kernel
theorem dX4_fillRow_58 : decode cX4_fillRow 58 = .ok (.invokevirtual 34, 3) := by decide +kernel
theorem dX4_fillRow_61 : decode cX4_fillRow 61 = .ok (.invokevirtual 38, 3) := by decide +kernel
theorem dX4_fillRow_64 : decode cX4_fillRow 64 = .ok (.iinc 5 1, 3) := by decide +kernel
theorem dX4_fillRow_67 : decode cX4_fillRow 67 = .ok (.goto (-25), 3) := by decide +kernel
theorem dX4_fillRow_70 : decode cX4_fillRow 70 = .ok (.return_, 1) := by decide +kernel
theorem dX4_fillSource_0 : decode cX4_fillSource 0 = .ok (.iload_n 3, 1) := by decide +kernel
theorem dX4_fillSource_1 : decode cX4_fillSource 1 = .ok (.istore 5, 2) := by decide +kernel
theorem dX4_fillSource_3 : decode cX4_fillSource 3 = .ok (.iconst 0, 1) := by decide +kernel
theorem dX4_fillSource_4 : decode cX4_fillSource 4 = .ok (.istore 6, 2) := by decide +kernel
theorem dX4_fillSource_6 : decode cX4_fillSource 6 = .ok (.iload 6, 2) := by decide +kernel
theorem dX4_fillSource_8 : decode cX4_fillSource 8 = .ok (.iload 4, 2) := by decide +kernel
theorem dX4_fillSource_10 : decode cX4_fillSource 10 = .ok (.if_icmp .ge 59, 3) := by decide +kernel
theorem dX4_fillSource_13 : decode cX4_fillSource 13 = .ok (.lconst 0, 1) := by decide +kernel
theorem dX4_fillSource_14 : decode cX4_fillSource 14 = .ok (.lstore 7, 2) := by decide +kernel
theorem dX4_fillSource_16 : decode cX4_fillSource 16 = .ok (.iconst 0, 1) := by decide +kernel
theorem dX4_fillSource_17 : decode cX4_fillSource 17 = .ok (.istore 9, 2) := by decide +kernel
theorem dX4_fillSource_19 : decode cX4_fillSource 19 = .ok (.iload 9, 2) := by decide +kernel
theorem dX4_fillSource_21 : decode cX4_fillSource 21 = .ok (.bipush 64, 2) := by decide +kernel
theorem dX4_fillSource_23 : decode cX4_fillSource 23 = .ok (.if_icmp .ge 31, 3) := by decide +kernel
theorem dX4_fillSource_26 : decode cX4_fillSource 26 = .ok (.iload 5, 2) := by decide +kernel
theorem dX4_fillSource_28 : decode cX4_fillSource 28 = .ok (.iload_n 2, 1) := by decide +kernel
theorem dX4_fillSource_29 : decode cX4_fillSource 29 = .ok (.if_icmp .gt 12, 3) := by decide +kernel
theorem dX4_fillSource_32 : decode cX4_fillSource 32 = .ok (.lload 7, 2) := by decide +kernel
theorem dX4_fillSource_34 : decode cX4_fillSource 34 = .ok (.lconst 1, 1) := by decide +kernel
theorem dX4_fillSource_35 : decode cX4_fillSource 35 = .ok (.iload 9, 2) := by decide +kernel
theorem dX4_fillSource_37 : decode cX4_fillSource 37 = .ok (.lshl, 1) := by decide +kernel
theorem dX4_fillSource_38 : decode cX4_fillSource 38 = .ok (.lor, 1) := by decide +kernel
theorem dX4_fillSource_39 : decode cX4_fillSource 39 = .ok (.lstore 7, 2) := by decide +kernel
theorem dX4_fillSource_41 : decode cX4_fillSource 41 = .ok (.iload 5, 2) := by decide +kernel
theorem dX4_fillSource_43 : decode cX4_fillSource 43 = .ok (.invokestatic 42, 3) := by decide +kernel
theorem dX4_fillSource_46 : decode cX4_fillSource 46 = .ok (.istore 5, 2) := by decide +kernel
theorem dX4_fillSource_48 : decode cX4_fillSource 48 = .ok (.iinc 9 1, 3) := by decide +kernel
theorem dX4_fillSource_51 : decode cX4_fillSource 51 = .ok (.goto (-32), 3) := by decide +kernel
theorem dX4_fillSource_54 : decode cX4_fillSource 54 = .ok (.aload_n 0, 1) := by decide +kernel
theorem dX4_fillSource_55 : decode cX4_fillSource 55 = .ok (.iload_n 1, 1) := by decide +kernel
theorem dX4_fillSource_56 : decode cX4_fillSource 56 = .ok (.iload 6, 2) := by decide +kernel
theorem dX4_fillSource_58 : decode cX4_fillSource 58 = .ok (.lload 7, 2) := by decide +kernel
theorem dX4_fillSource_60 : decode cX4_fillSource 60 = .ok (.invokevirtual 38, 3) := by decide +kernel
theorem dX4_fillSource_63 : decode cX4_fillSource 63 = .ok (.iinc 6 1, 3) := by decide +kernel
theorem dX4_fillSource_66 : decode cX4_fillSource 66 = .ok (.goto (-60), 3) := by decide +kernel
theorem dX4_fillSource_69 : decode cX4_fillSource 69 = .ok (.return_, 1) := by decide +kernel
theorem dX4_nextRegister_0 : decode cX4_nextRegister 0 = .ok (.iload_n 0, 1) := by decide +kernel
theorem dX4_nextRegister_1 : decode cX4_nextRegister 1 = .ok (.iconst 2, 1) := by decide +kernel
theorem dX4_nextRegister_2 : decode cX4_nextRegister 2 = .ok (.imul, 1) := by decide +kernel
theorem dX4_nextRegister_3 : decode cX4_nextRegister 3 = .ok (.istore_n 1, 1) := by decide +kernel
theorem dX4_nextRegister_4 : decode cX4_nextRegister 4 = .ok (.iload_n 1, 1) := by decide +kernel
theorem dX4_nextRegister_5 : decode cX4_nextRegister 5 = .ok (.sipush 256, 3) := by decide +kernel
theorem dX4_nextRegister_8 : decode cX4_nextRegister 8 = .ok (.if_icmp .ge 7, 3) := by decide +kernel
theorem dX4_nextRegister_11 : decode cX4_nextRegister 11 = .ok (.iload_n 1, 1) := by decide +kernel
theorem dX4_nextRegister_12 : decode cX4_nextRegister 12 = .ok (.goto 11, 3) := by decide +kernel
theorem dX4_nextRegister_15 : decode cX4_nextRegister 15 = .ok (.iload_n 1, 1) := by decide +kernel
theorem dX4_nextRegister_16 : decode cX4_nextRegister 16 = .ok (.sipush 256, 3) := by decide +kernel
theorem dX4_nextRegister_19 : decode cX4_nextRegister 19 = .ok (.isub, 1) := by decide +kernel
theorem dX4_nextRegister_20 : decode cX4_nextRegister 20 = .ok (.bipush 29, 2) := by decide +kernel
theorem dX4_nextRegister_22 : decode cX4_nextRegister 22 = .ok (.ixor, 1) := by decide +kernel
theorem dX4_nextRegister_23 : decode cX4_nextRegister 23 = .ok (.ireturn, 1) := by decide +kernel
theorem dX4_madeWord_0 : decode cX4_madeWord 0 = .ok (.aload_n 1, 1) := by decide +kernel
theorem dX4_madeWord_1 : decode cX4_madeWord 1 = .ok (.iload_n 2, 1) := by decide +kernel
theorem dX4_madeWord_2 : decode cX4_madeWord 2 = .ok (.iconst 1, 1) := by decide +kernel
theorem dX4_madeWord_3 : decode cX4_madeWord 3 = .ok (.invokevirtual 26, 3) := by decide +kernel
theorem dX4_madeWord_6 : decode cX4_madeWord 6 = .ok (.istore 4, 2) := by decide +kernel
theorem dX4_madeWord_8 : decode cX4_madeWord 8 = .ok (.aload_n 1, 1) := by decide +kernel
theorem dX4_madeWord_9 : decode cX4_madeWord 9 = .ok (.iload_n 2, 1) := by decide +kernel
theorem dX4_madeWord_10 : decode cX4_madeWord 10 = .ok (.iconst 2, 1) := by decide +kernel
theorem dX4_madeWord_11 : decode cX4_madeWord 11 = .ok (.invokevirtual 26, 3) := by decide +kernel
theorem dX4_madeWord_14 : decode cX4_madeWord 14 = .ok (.istore 5, 2) := by decide +kernel
theorem dX4_madeWord_16 : decode cX4_madeWord 16 = .ok (.aload_n 0, 1) := by decide +kernel
theorem dX4_madeWord_17 : decode cX4_madeWord 17 = .ok (.iload 4, 2) := by decide +kernel
theorem dX4_madeWord_19 : decode cX4_madeWord 19 = .ok (.iload_n 3, 1) := by decide +kernel
theorem dX4_madeWord_20 : decode cX4_madeWord 20 = .ok (.invokevirtual 45, 3) := by decide +kernel
theorem dX4_madeWord_23 : decode cX4_madeWord 23 = .ok (.lstore 6, 2) := by decide +kernel
theorem dX4_madeWord_25 : decode cX4_madeWord 25 = .ok (.aload_n 1, 1) := by decide +kernel
theorem dX4_madeWord_26 : decode cX4_madeWord 26 = .ok (.iload_n 2, 1) := by decide +kernel
theorem dX4_madeWord_27 : decode cX4_madeWord 27 = .ok (.invokevirtual 20, 3) := by decide +kernel
theorem dX4_madeWord_30 : decode cX4_madeWord 30 = .ok (.tableswitch 108 1 5 #[34, 45, 56, 67, 101], 34) := by decide +kernel
theorem dX4_madeWord_64 : decode cX4_madeWord 64 = .ok (.lload 6, 2) := by decide +kernel
theorem dX4_madeWord_66 : decode cX4_madeWord 66 = .ok (.aload_n 0, 1) := by decide +kernel
theorem dX4_madeWord_67 : decode cX4_madeWord 67 = .ok (.iload 5, 2) := by decide +kernel
theorem dX4_madeWord_69 : decode cX4_madeWord 69 = .ok (.iload_n 3, 1) := by decide +kernel
theorem dX4_madeWord_70 : decode cX4_madeWord 70 = .ok (.invokevirtual 45, 3) := by decide +kernel
theorem dX4_madeWord_73 : decode cX4_madeWord 73 = .ok (.land, 1) := by decide +kernel
theorem dX4_madeWord_74 : decode cX4_madeWord 74 = .ok (.lreturn, 1) := by decide +kernel
theorem dX4_madeWord_75 : decode cX4_madeWord 75 = .ok (.lload 6, 2) := by decide +kernel
theorem dX4_madeWord_77 : decode cX4_madeWord 77 = .ok (.aload_n 0, 1) := by decide +kernel
theorem dX4_madeWord_78 : decode cX4_madeWord 78 = .ok (.iload 5, 2) := by decide +kernel
theorem dX4_madeWord_80 : decode cX4_madeWord 80 = .ok (.iload_n 3, 1) := by decide +kernel
theorem dX4_madeWord_81 : decode cX4_madeWord 81 = .ok (.invokevirtual 45, 3) := by decide +kernel
theorem dX4_madeWord_84 : decode cX4_madeWord 84 = .ok (.lor, 1) := by decide +kernel
theorem dX4_madeWord_85 : decode cX4_madeWord 85 = .ok (.lreturn, 1) := by decide +kernel
theorem dX4_madeWord_86 : decode cX4_madeWord 86 = .ok (.lload 6, 2) := by decide +kernel
theorem dX4_madeWord_88 : decode cX4_madeWord 88 = .ok (.aload_n 0, 1) := by decide +kernel
theorem dX4_madeWord_89 : decode cX4_madeWord 89 = .ok (.iload 5, 2) := by decide +kernel
theorem dX4_madeWord_91 : decode cX4_madeWord 91 = .ok (.iload_n 3, 1) := by decide +kernel
theorem dX4_madeWord_92 : decode cX4_madeWord 92 = .ok (.invokevirtual 45, 3) := by decide +kernel
theorem dX4_madeWord_95 : decode cX4_madeWord 95 = .ok (.lxor, 1) := by decide +kernel
theorem dX4_madeWord_96 : decode cX4_madeWord 96 = .ok (.lreturn, 1) := by decide +kernel
theorem dX4_madeWord_97 : decode cX4_madeWord 97 = .ok (.aload_n 0, 1) := by decide +kernel
theorem dX4_madeWord_98 : decode cX4_madeWord 98 = .ok (.aload_n 1, 1) := by decide +kernel
theorem dX4_madeWord_99 : decode cX4_madeWord 99 = .ok (.iload_n 2, 1) := by decide +kernel
theorem dX4_madeWord_100 : decode cX4_madeWord 100 = .ok (.iconst 3, 1) := by decide +kernel
theorem dX4_madeWord_101 : decode cX4_madeWord 101 = .ok (.invokevirtual 26, 3) := by decide +kernel
theorem dX4_madeWord_104 : decode cX4_madeWord 104 = .ok (.iload_n 3, 1) := by decide +kernel
theorem dX4_madeWord_105 : decode cX4_madeWord 105 = .ok (.invokevirtual 45, 3) := by decide +kernel
theorem dX4_madeWord_108 : decode cX4_madeWord 108 = .ok (.lstore 8, 2) := by decide +kernel
theorem dX4_madeWord_110 : decode cX4_madeWord 110 = .ok (.lload 6, 2) := by decide +kernel
theorem dX4_madeWord_112 : decode cX4_madeWord 112 = .ok (.lload 8, 2) := by decide +kernel
theorem dX4_madeWord_114 : decode cX4_madeWord 114 = .ok (.land, 1) := by decide +kernel
theorem dX4_madeWord_115 : decode cX4_madeWord 115 = .ok (.aload_n 0, 1) := by decide +kernel
theorem dX4_madeWord_116 : decode cX4_madeWord 116 = .ok (.iload 5, 2) := by decide +kernel
theorem dX4_madeWord_118 : decode cX4_madeWord 118 = .ok (.iload_n 3, 1) := by decide +kernel
theorem dX4_madeWord_119 : decode cX4_madeWord 119 = .ok (.invokevirtual 45, 3) := by decide +kernel
theorem dX4_madeWord_122 : decode cX4_madeWord 122 = .ok (.lload 8, 2) := by decide +kernel
theorem dX4_madeWord_124 : decode cX4_madeWord 124 = .ok (.ldc2_w 49, 3) := by decide +kernel
theorem dX4_madeWord_127 : decode cX4_madeWord 127 = .ok (.lxor, 1) := by decide +kernel
theorem dX4_madeWord_128 : decode cX4_madeWord 128 = .ok (.land, 1) := by decide +kernel
theorem dX4_madeWord_129 : decode cX4_madeWord 129 = .ok (.lor, 1) := by decide +kernel
theorem dX4_madeWord_130 : decode cX4_madeWord 130 = .ok (.lreturn, 1) := by decide +kernel
theorem dX4_madeWord_131 : decode cX4_madeWord 131 = .ok (.lload 6, 2) := by decide +kernel
theorem dX4_madeWord_133 : decode cX4_madeWord 133 = .ok (.ldc2_w 49, 3) := by decide +kernel
theorem dX4_madeWord_136 : decode cX4_madeWord 136 = .ok (.lxor, 1) := by decide +kernel
theorem dX4_madeWord_137 : decode cX4_madeWord 137 = .ok (.lreturn, 1) := by decide +kernel
theorem dX4_madeWord_138 : decode cX4_madeWord 138 = .ok (.lload 6, 2) := by decide +kernel
theorem dX4_madeWord_140 : decode cX4_madeWord 140 = .ok (.iload 5, 2) := by decide +kernel
theorem dX4_madeWord_142 : decode cX4_madeWord 142 = .ok (.lshl, 1) := by decide +kernel
theorem dX4_madeWord_143 : decode cX4_madeWord 143 = .ok (.aload_n 0, 1) := by decide +kernel
theorem dX4_madeWord_144 : decode cX4_madeWord 144 = .ok (.iload 4, 2) := by decide +kernel
theorem dX4_madeWord_146 : decode cX4_madeWord 146 = .ok (.iload_n 3, 1) := by decide +kernel
theorem dX4_madeWord_147 : decode cX4_madeWord 147 = .ok (.iconst 1, 1) := by decide +kernel
theorem dX4_madeWord_148 : decode cX4_madeWord 148 = .ok (.isub, 1) := by decide +kernel
theorem dX4_madeWord_149 : decode cX4_madeWord 149 = .ok (.invokevirtual 45, 3) := by decide +kernel
theorem dX4_madeWord_152 : decode cX4_madeWord 152 = .ok (.bipush 64, 2) := by decide +kernel
theorem dX4_madeWord_154 : decode cX4_madeWord 154 = .ok (.iload 5, 2) := by decide +kernel
theorem dX4_madeWord_156 : decode cX4_madeWord 156 = .ok (.isub, 1) := by decide +kernel
theorem dX4_madeWord_157 : decode cX4_madeWord 157 = .ok (.lushr, 1) := by decide +kernel
theorem dX4_madeWord_158 : decode cX4_madeWord 158 = .ok (.lor, 1) := by decide +kernel
theorem dX4_madeWord_159 : decode cX4_madeWord 159 = .ok (.lreturn, 1) := by decide +kernel
theorem dX4_bitAt_0 : decode cX4_bitAt 0 = .ok (.aload_n 0, 1) := by decide +kernel
theorem dX4_bitAt_1 : decode cX4_bitAt 1 = .ok (.iload_n 1, 1) := by decide +kernel
theorem dX4_bitAt_2 : decode cX4_bitAt 2 = .ok (.iload_n 2, 1) := by decide +kernel
theorem dX4_bitAt_3 : decode cX4_bitAt 3 = .ok (.bipush 64, 2) := by decide +kernel
theorem dX4_bitAt_5 : decode cX4_bitAt 5 = .ok (.idiv, 1) := by decide +kernel
theorem dX4_bitAt_6 : decode cX4_bitAt 6 = .ok (.invokevirtual 45, 3) := by decide +kernel
theorem dX4_bitAt_9 : decode cX4_bitAt 9 = .ok (.iload_n 2, 1) := by decide +kernel
theorem dX4_bitAt_10 : decode cX4_bitAt 10 = .ok (.bipush 64, 2) := by decide +kernel
theorem dX4_bitAt_12 : decode cX4_bitAt 12 = .ok (.irem, 1) := by decide +kernel
theorem dX4_bitAt_13 : decode cX4_bitAt 13 = .ok (.lushr, 1) := by decide +kernel
theorem dX4_bitAt_14 : decode cX4_bitAt 14 = .ok (.l2i, 1) := by decide +kernel
theorem dX4_bitAt_15 : decode cX4_bitAt 15 = .ok (.iconst 1, 1) := by decide +kernel
theorem dX4_bitAt_16 : decode cX4_bitAt 16 = .ok (.iand, 1) := by decide +kernel
theorem dX4_bitAt_17 : decode cX4_bitAt 17 = .ok (.ireturn, 1) := by decide +kernel
theorem dX4_onesIn_0 : decode cX4_onesIn 0 = .ok (.aload_n 0, 1) := by decide +kernel
theorem dX4_onesIn_1 : decode cX4_onesIn 1 = .ok (.iload_n 1, 1) := by decide +kernel
theorem dX4_onesIn_2 : decode cX4_onesIn 2 = .ok (.iload_n 1, 1) := by decide +kernel
theorem dX4_onesIn_3 : decode cX4_onesIn 3 = .ok (.iload_n 2, 1) := by decide +kernel
theorem dX4_onesIn_4 : decode cX4_onesIn 4 = .ok (.invokevirtual 51, 3) := by decide +kernel
theorem dX4_onesIn_7 : decode cX4_onesIn 7 = .ok (.ireturn, 1) := by decide +kernel
theorem dX4_onesInBoth_0 : decode cX4_onesInBoth 0 = .ok (.iconst 0, 1) := by decide +kernel
theorem dX4_onesInBoth_1 : decode cX4_onesInBoth 1 = .ok (.istore 4, 2) := by decide +kernel
theorem dX4_onesInBoth_3 : decode cX4_onesInBoth 3 = .ok (.iload_n 3, 1) := by decide +kernel
theorem dX4_onesInBoth_4 : decode cX4_onesInBoth 4 = .ok (.bipush 64, 2) := by decide +kernel
theorem dX4_onesInBoth_6 : decode cX4_onesInBoth 6 = .ok (.idiv, 1) := by decide +kernel
theorem dX4_onesInBoth_7 : decode cX4_onesInBoth 7 = .ok (.istore 5, 2) := by decide +kernel
theorem dX4_onesInBoth_9 : decode cX4_onesInBoth 9 = .ok (.iconst 0, 1) := by decide +kernel
theorem dX4_onesInBoth_10 : decode cX4_onesInBoth 10 = .ok (.istore 6, 2) := by decide +kernel
theorem dX4_onesInBoth_12 : decode cX4_onesInBoth 12 = .ok (.iload 6, 2) := by decide +kernel
theorem dX4_onesInBoth_14 : decode cX4_onesInBoth 14 = .ok (.iload 5, 2) := by decide +kernel
theorem dX4_onesInBoth_16 : decode cX4_onesInBoth 16 = .ok (.if_icmp .ge 32, 3) := by decide +kernel
theorem dX4_onesInBoth_19 : decode cX4_onesInBoth 19 = .ok (.iload 4, 2) := by decide +kernel
theorem dX4_onesInBoth_21 : decode cX4_onesInBoth 21 = .ok (.aload_n 0, 1) := by decide +kernel
theorem dX4_onesInBoth_22 : decode cX4_onesInBoth 22 = .ok (.iload_n 1, 1) := by decide +kernel
theorem dX4_onesInBoth_23 : decode cX4_onesInBoth 23 = .ok (.iload 6, 2) := by decide +kernel
theorem dX4_onesInBoth_25 : decode cX4_onesInBoth 25 = .ok (.invokevirtual 45, 3) := by decide +kernel
theorem dX4_onesInBoth_28 : decode cX4_onesInBoth 28 = .ok (.aload_n 0, 1) := by decide +kernel
theorem dX4_onesInBoth_29 : decode cX4_onesInBoth 29 = .ok (.iload_n 2, 1) := by decide +kernel
theorem dX4_onesInBoth_30 : decode cX4_onesInBoth 30 = .ok (.iload 6, 2) := by decide +kernel
theorem dX4_onesInBoth_32 : decode cX4_onesInBoth 32 = .ok (.invokevirtual 45, 3) := by decide +kernel
theorem dX4_onesInBoth_35 : decode cX4_onesInBoth 35 = .ok (.land, 1) := by decide +kernel
theorem dX4_onesInBoth_36 : decode cX4_onesInBoth 36 = .ok (.invokestatic 55, 3) := by decide +kernel
theorem dX4_onesInBoth_39 : decode cX4_onesInBoth 39 = .ok (.iadd, 1) := by decide +kernel
theorem dX4_onesInBoth_40 : decode cX4_onesInBoth 40 = .ok (.istore 4, 2) := by decide +kernel
theorem dX4_onesInBoth_42 : decode cX4_onesInBoth 42 = .ok (.iinc 6 1, 3) := by decide +kernel
theorem dX4_onesInBoth_45 : decode cX4_onesInBoth 45 = .ok (.goto (-33), 3) := by decide +kernel
theorem dX4_onesInBoth_48 : decode cX4_onesInBoth 48 = .ok (.lconst 1, 1) := by decide +kernel
theorem dX4_onesInBoth_49 : decode cX4_onesInBoth 49 = .ok (.iload_n 3, 1) := by decide +kernel
theorem dX4_onesInBoth_50 : decode cX4_onesInBoth 50 = .ok (.bipush 64, 2) := by decide +kernel
theorem dX4_onesInBoth_52 : decode cX4_onesInBoth 52 = .ok (.irem, 1) := by decide +kernel
theorem dX4_onesInBoth_53 : decode cX4_onesInBoth 53 = .ok (.lshl, 1) := by decide +kernel
theorem dX4_onesInBoth_54 : decode cX4_onesInBoth 54 = .ok (.lconst 1, 1) := by decide +kernel
theorem dX4_onesInBoth_55 : decode cX4_onesInBoth 55 = .ok (.lsub, 1) := by decide +kernel
theorem dX4_onesInBoth_56 : decode cX4_onesInBoth 56 = .ok (.lstore 6, 2) := by decide +kernel
theorem dX4_onesInBoth_58 : decode cX4_onesInBoth 58 = .ok (.iload 4, 2) := by decide +kernel
theorem dX4_onesInBoth_60 : decode cX4_onesInBoth 60 = .ok (.aload_n 0, 1) := by decide +kernel
theorem dX4_onesInBoth_61 : decode cX4_onesInBoth 61 = .ok (.iload_n 1, 1) := by decide +kernel
theorem dX4_onesInBoth_62 : decode cX4_onesInBoth 62 = .ok (.iload 5, 2) := by decide +kernel
theorem dX4_onesInBoth_64 : decode cX4_onesInBoth 64 = .ok (.invokevirtual 45, 3) := by decide +kernel
theorem dX4_onesInBoth_67 : decode cX4_onesInBoth 67 = .ok (.aload_n 0, 1) := by decide +kernel
theorem dX4_onesInBoth_68 : decode cX4_onesInBoth 68 = .ok (.iload_n 2, 1) := by decide +kernel
theorem dX4_onesInBoth_69 : decode cX4_onesInBoth 69 = .ok (.iload 5, 2) := by decide +kernel
theorem dX4_onesInBoth_71 : decode cX4_onesInBoth 71 = .ok (.invokevirtual 45, 3) := by decide +kernel
theorem dX4_onesInBoth_74 : decode cX4_onesInBoth 74 = .ok (.land, 1) := by decide +kernel
theorem dX4_onesInBoth_75 : decode cX4_onesInBoth 75 = .ok (.lload 6, 2) := by decide +kernel
theorem dX4_onesInBoth_77 : decode cX4_onesInBoth 77 = .ok (.land, 1) := by decide +kernel
theorem dX4_onesInBoth_78 : decode cX4_onesInBoth 78 = .ok (.invokestatic 55, 3) := by decide +kernel
theorem dX4_onesInBoth_81 : decode cX4_onesInBoth 81 = .ok (.iadd, 1) := by decide +kernel
theorem dX4_onesInBoth_82 : decode cX4_onesInBoth 82 = .ok (.ireturn, 1) := by decide +kernel
theorem dX4_wordAt_0 : decode cX4_wordAt 0 = .ok (.iload_n 1, 1) := by decide +kernel
theorem dX4_wordAt_1 : decode cX4_wordAt 1 = .ok (.ifCond .lt 12, 3) := by decide +kernel
theorem dX4_wordAt_4 : decode cX4_wordAt 4 = .ok (.iload_n 1, 1) := by decide +kernel
theorem dX4_wordAt_5 : decode cX4_wordAt 5 = .ok (.aload_n 0, 1) := by decide +kernel
theorem dX4_wordAt_6 : decode cX4_wordAt 6 = .ok (.getfield 11, 3) := by decide +kernel
theorem dX4_wordAt_9 : decode cX4_wordAt 9 = .ok (.arraylength, 1) := by decide +kernel
theorem dX4_wordAt_10 : decode cX4_wordAt 10 = .ok (.if_icmp .lt 5, 3) := by decide +kernel
theorem dX4_wordAt_13 : decode cX4_wordAt 13 = .ok (.lconst 0, 1) := by decide +kernel
theorem dX4_wordAt_14 : decode cX4_wordAt 14 = .ok (.lreturn, 1) := by decide +kernel
theorem dX4_wordAt_15 : decode cX4_wordAt 15 = .ok (.aload_n 0, 1) := by decide +kernel
theorem dX4_wordAt_16 : decode cX4_wordAt 16 = .ok (.getfield 11, 3) := by decide +kernel
theorem dX4_wordAt_19 : decode cX4_wordAt 19 = .ok (.iload_n 1, 1) := by decide +kernel
theorem dX4_wordAt_20 : decode cX4_wordAt 20 = .ok (.aaload, 1) := by decide +kernel
theorem dX4_wordAt_21 : decode cX4_wordAt 21 = .ok (.astore_n 3, 1) := by decide +kernel
theorem dX4_wordAt_22 : decode cX4_wordAt 22 = .ok (.iload_n 2, 1) := by decide +kernel
theorem dX4_wordAt_23 : decode cX4_wordAt 23 = .ok (.ifCond .lt 9, 3) := by decide +kernel
theorem dX4_wordAt_26 : decode cX4_wordAt 26 = .ok (.iload_n 2, 1) := by decide +kernel
theorem dX4_wordAt_27 : decode cX4_wordAt 27 = .ok (.aload_n 3, 1) := by decide +kernel
theorem dX4_wordAt_28 : decode cX4_wordAt 28 = .ok (.arraylength, 1) := by decide +kernel
theorem dX4_wordAt_29 : decode cX4_wordAt 29 = .ok (.if_icmp .lt 7, 3) := by decide +kernel
theorem dX4_wordAt_32 : decode cX4_wordAt 32 = .ok (.lconst 0, 1) := by decide +kernel
theorem dX4_wordAt_33 : decode cX4_wordAt 33 = .ok (.goto 6, 3) := by decide +kernel
theorem dX4_wordAt_36 : decode cX4_wordAt 36 = .ok (.aload_n 3, 1) := by decide +kernel
theorem dX4_wordAt_37 : decode cX4_wordAt 37 = .ok (.iload_n 2, 1) := by decide +kernel
theorem dX4_wordAt_38 : decode cX4_wordAt 38 = .ok (.laload, 1) := by decide +kernel
theorem dX4_wordAt_39 : decode cX4_wordAt 39 = .ok (.lreturn, 1) := by decide +kernel
theorem dX4_setWord_0 : decode cX4_setWord 0 = .ok (.iload_n 1, 1) := by decide +kernel
theorem dX4_setWord_1 : decode cX4_setWord 1 = .ok (.ifCond .lt 12, 3) := by decide +kernel
theorem dX4_setWord_4 : decode cX4_setWord 4 = .ok (.iload_n 1, 1) := by decide +kernel
theorem dX4_setWord_5 : decode cX4_setWord 5 = .ok (.aload_n 0, 1) := by decide +kernel
theorem dX4_setWord_6 : decode cX4_setWord 6 = .ok (.getfield 11, 3) := by decide +kernel
theorem dX4_setWord_9 : decode cX4_setWord 9 = .ok (.arraylength, 1) := by decide +kernel
theorem dX4_setWord_10 : decode cX4_setWord 10 = .ok (.if_icmp .lt 4, 3) := by decide +kernel
theorem dX4_setWord_13 : decode cX4_setWord 13 = .ok (.return_, 1) := by decide +kernel
theorem dX4_setWord_14 : decode cX4_setWord 14 = .ok (.aload_n 0, 1) := by decide +kernel
theorem dX4_setWord_15 : decode cX4_setWord 15 = .ok (.getfield 11, 3) := by decide +kernel
theorem dX4_setWord_18 : decode cX4_setWord 18 = .ok (.iload_n 1, 1) := by decide +kernel
theorem dX4_setWord_19 : decode cX4_setWord 19 = .ok (.aaload, 1) := by decide +kernel
theorem dX4_setWord_20 : decode cX4_setWord 20 = .ok (.astore 5, 2) := by decide +kernel
theorem dX4_setWord_22 : decode cX4_setWord 22 = .ok (.iload_n 2, 1) := by decide +kernel
theorem dX4_setWord_23 : decode cX4_setWord 23 = .ok (.ifCond .lt 15, 3) := by decide +kernel
theorem dX4_setWord_26 : decode cX4_setWord 26 = .ok (.iload_n 2, 1) := by decide +kernel
theorem dX4_setWord_27 : decode cX4_setWord 27 = .ok (.aload 5, 2) := by decide +kernel
theorem dX4_setWord_29 : decode cX4_setWord 29 = .ok (.arraylength, 1) := by decide +kernel
theorem dX4_setWord_30 : decode cX4_setWord 30 = .ok (.if_icmp .ge 8, 3) := by decide +kernel
theorem dX4_setWord_33 : decode cX4_setWord 33 = .ok (.aload 5, 2) := by decide +kernel
theorem dX4_setWord_35 : decode cX4_setWord 35 = .ok (.iload_n 2, 1) := by decide +kernel
theorem dX4_setWord_36 : decode cX4_setWord 36 = .ok (.lload_n 3, 1) := by decide +kernel
theorem dX4_setWord_37 : decode cX4_setWord 37 = .ok (.lastore, 1) := by decide +kernel
theorem dX4_setWord_38 : decode cX4_setWord 38 = .ok (.return_, 1) := by decide +kernel
theorem dX5_init_0 : decode cX5_init 0 = .ok (.aload_n 0, 1) := by decide +kernel
theorem dX5_init_1 : decode cX5_init 1 = .ok (.invokespecial 1, 3) := by decide +kernel
theorem dX5_init_4 : decode cX5_init 4 = .ok (.aload_n 0, 1) := by decide +kernel
theorem dX5_init_5 : decode cX5_init 5 = .ok (.new 7, 3) := by decide +kernel
theorem dX5_init_8 : decode cX5_init 8 = .ok (.dup, 1) := by decide +kernel
theorem dX5_init_9 : decode cX5_init 9 = .ok (.invokespecial 9, 3) := by decide +kernel
theorem dX5_init_12 : decode cX5_init 12 = .ok (.putfield 10, 3) := by decide +kernel
theorem dX5_init_15 : decode cX5_init 15 = .ok (.aload_n 0, 1) := by decide +kernel
theorem dX5_init_16 : decode cX5_init 16 = .ok (.new 7, 3) := by decide +kernel
theorem dX5_init_19 : decode cX5_init 19 = .ok (.dup, 1) := by decide +kernel
theorem dX5_init_20 : decode cX5_init 20 = .ok (.invokespecial 9, 3) := by decide +kernel
theorem dX5_init_23 : decode cX5_init 23 = .ok (.putfield 16, 3) := by decide +kernel
theorem dX5_init_26 : decode cX5_init 26 = .ok (.aload_n 0, 1) := by decide +kernel
theorem dX5_init_27 : decode cX5_init 27 = .ok (.iconst 0, 1) := by decide +kernel
theorem dX5_init_28 : decode cX5_init 28 = .ok (.putfield 19, 3) := by decide +kernel
theorem dX5_init_31 : decode cX5_init 31 = .ok (.aload_n 0, 1) := by decide +kernel
theorem dX5_init_32 : decode cX5_init 32 = .ok (.new 7, 3) := by decide +kernel
theorem dX5_init_35 : decode cX5_init 35 = .ok (.dup, 1) := by decide +kernel
theorem dX5_init_36 : decode cX5_init 36 = .ok (.invokespecial 9, 3) := by decide +kernel
theorem dX5_init_39 : decode cX5_init 39 = .ok (.putfield 23, 3) := by decide +kernel
theorem dX5_init_42 : decode cX5_init 42 = .ok (.aload_n 0, 1) := by decide +kernel
theorem dX5_init_43 : decode cX5_init 43 = .ok (.new 26, 3) := by decide +kernel
theorem dX5_init_46 : decode cX5_init 46 = .ok (.dup, 1) := by decide +kernel
theorem dX5_init_47 : decode cX5_init 47 = .ok (.invokespecial 28, 3) := by decide +kernel
theorem dX5_init_50 : decode cX5_init 50 = .ok (.putfield 29, 3) := by decide +kernel
theorem dX5_init_53 : decode cX5_init 53 = .ok (.aload_n 0, 1) := by decide +kernel
theorem dX5_init_54 : decode cX5_init 54 = .ok (.new 33, 3) := by decide +kernel
theorem dX5_init_57 : decode cX5_init 57 = .ok (.dup, 1) := by decide +kernel
theorem dX5_init_58 : decode cX5_init 58 = .ok (.invokespecial 35, 3) := by decide +kernel
theorem dX5_init_61 : decode cX5_init 61 = .ok (.putfield 36, 3) := by decide +kernel
theorem dX5_init_64 : decode cX5_init 64 = .ok (.aload_n 0, 1) := by decide +kernel
theorem dX5_init_65 : decode cX5_init 65 = .ok (.new 40, 3) := by decide +kernel
theorem dX5_init_68 : decode cX5_init 68 = .ok (.dup, 1) := by decide +kernel
theorem dX5_init_69 : decode cX5_init 69 = .ok (.invokespecial 42, 3) := by decide +kernel
theorem dX5_init_72 : decode cX5_init 72 = .ok (.putfield 43, 3) := by decide +kernel
theorem dX5_init_75 : decode cX5_init 75 = .ok (.aload_n 0, 1) := by decide +kernel
theorem dX5_init_76 : decode cX5_init 76 = .ok (.new 47, 3) := by decide +kernel
theorem dX5_init_79 : decode cX5_init 79 = .ok (.dup, 1) := by decide +kernel
theorem dX5_init_80 : decode cX5_init 80 = .ok (.invokespecial 49, 3) := by decide +kernel
theorem dX5_init_83 : decode cX5_init 83 = .ok (.putfield 50, 3) := by decide +kernel
theorem dX5_init_86 : decode cX5_init 86 = .ok (.return_, 1) := by decide +kernel
theorem dX5_source_0 : decode cX5_source 0 = .ok (.iload_n 1, 1) := by decide +kernel
theorem dX5_source_1 : decode cX5_source 1 = .ok (.iload_n 2, 1) := by decide +kernel
theorem dX5_source_2 : decode cX5_source 2 = .ok (.invokestatic 54, 3) := by decide +kernel
theorem dX5_source_5 : decode cX5_source 5 = .ok (.ifCond .ne 6, 3) := by decide +kernel
theorem dX5_source_8 : decode cX5_source 8 = .ok (.ldc 58, 2) := by decide +kernel
theorem dX5_source_10 : decode cX5_source 10 = .ok (.ireturn, 1) := by decide +kernel
theorem dX5_source_11 : decode cX5_source 11 = .ok (.aload_n 0, 1) := by decide +kernel
theorem dX5_source_12 : decode cX5_source 12 = .ok (.iconst 0, 1) := by decide +kernel
theorem dX5_source_13 : decode cX5_source 13 = .ok (.iload_n 1, 1) := by decide +kernel
theorem dX5_source_14 : decode cX5_source 14 = .ok (.iload_n 2, 1) := by decide +kernel
theorem dX5_source_15 : decode cX5_source 15 = .ok (.iconst 0, 1) := by decide +kernel
theorem dX5_source_16 : decode cX5_source 16 = .ok (.invokevirtual 59, 3) := by decide +kernel
theorem dX5_source_19 : decode cX5_source 19 = .ok (.ireturn, 1) := by decide +kernel
theorem dX5_gate_0 : decode cX5_gate 0 = .ok (.aload_n 0, 1) := by decide +kernel
theorem dX5_gate_1 : decode cX5_gate 1 = .ok (.getfield 10, 3) := by decide +kernel
theorem dX5_gate_4 : decode cX5_gate 4 = .ok (.iload_n 2, 1) := by decide +kernel
theorem dX5_gate_5 : decode cX5_gate 5 = .ok (.invokevirtual 63, 3) := by decide +kernel
theorem dX5_gate_8 : decode cX5_gate 8 = .ok (.ifCond .eq 14, 3) := by decide +kernel
theorem dX5_gate_11 : decode cX5_gate 11 = .ok (.aload_n 0, 1) := by decide +kernel
theorem dX5_gate_12 : decode cX5_gate 12 = .ok (.getfield 10, 3) := by decide +kernel
theorem dX5_gate_15 : decode cX5_gate 15 = .ok (.iload_n 3, 1) := by decide +kernel
theorem dX5_gate_16 : decode cX5_gate 16 = .ok (.invokevirtual 63, 3) := by decide +kernel
theorem dX5_gate_19 : decode cX5_gate 19 = .ok (.ifCond .ne 6, 3) := by decide +kernel
theorem dX5_gate_22 : decode cX5_gate 22 = .ok (.ldc 67, 2) := by decide +kernel
theorem dX5_gate_24 : decode cX5_gate 24 = .ok (.ireturn, 1) := by decide +kernel
theorem dX5_gate_25 : decode cX5_gate 25 = .ok (.iload_n 1, 1) := by decide +kernel
theorem dX5_gate_26 : decode cX5_gate 26 = .ok (.iconst 1, 1) := by decide +kernel
theorem dX5_gate_27 : decode cX5_gate 27 = .ok (.iconst 3, 1) := by decide +kernel
theorem dX5_gate_28 : decode cX5_gate 28 = .ok (.invokestatic 68, 3) := by decide +kernel
theorem dX5_gate_31 : decode cX5_gate 31 = .ok (.ifCond .ne 6, 3) := by decide +kernel
theorem dX5_gate_34 : decode cX5_gate 34 = .ok (.ldc 58, 2) := by decide +kernel
theorem dX5_gate_36 : decode cX5_gate 36 = .ok (.ireturn, 1) := by decide +kernel
theorem dX5_gate_37 : decode cX5_gate 37 = .ok (.aload_n 0, 1) := by decide +kernel
theorem dX5_gate_38 : decode cX5_gate 38 = .ok (.iload_n 1, 1) := by decide +kernel
theorem dX5_gate_39 : decode cX5_gate 39 = .ok (.iload_n 2, 1) := by decide +kernel
theorem dX5_gate_40 : decode cX5_gate 40 = .ok (.iload_n 3, 1) := by decide +kernel
theorem dX5_gate_41 : decode cX5_gate 41 = .ok (.iconst 0, 1) := by decide +kernel
theorem dX5_gate_42 : decode cX5_gate 42 = .ok (.invokevirtual 59, 3) := by decide +kernel
theorem dX5_gate_45 : decode cX5_gate 45 = .ok (.ireturn, 1) := by decide +kernel
theorem dX5_choose_0 : decode cX5_choose 0 = .ok (.aload_n 0, 1) := by decide +kernel
theorem dX5_choose_1 : decode cX5_choose 1 = .ok (.getfield 10, 3) := by decide +kernel
theorem dX5_choose_4 : decode cX5_choose 4 = .ok (.iload_n 1, 1) := by decide +kernel
theorem dX5_choose_5 : decode cX5_choose 5 = .ok (.invokevirtual 63, 3) := by decide +kernel
theorem dX5_choose_8 : decode cX5_choose 8 = .ok (.ifCond .eq 25, 3) := by decide +kernel
theorem dX5_choose_11 : decode cX5_choose 11 = .ok (.aload_n 0, 1) := by decide +kernel
theorem dX5_choose_12 : decode cX5_choose 12 = .ok (.getfield 10, 3) := by decide +kernel
theorem dX5_choose_15 : decode cX5_choose 15 = .ok (.iload_n 2, 1) := by decide +kernel
theorem dX5_choose_16 : decode cX5_choose 16 = .ok (.invokevirtual 63, 3) := by decide +kernel
theorem dX5_choose_19 : decode cX5_choose 19 = .ok (.ifCond .eq 14, 3) := by decide +kernel
theorem dX5_choose_22 : decode cX5_choose 22 = .ok (.aload_n 0, 1) := by decide +kernel
theorem dX5_choose_23 : decode cX5_choose 23 = .ok (.getfield 10, 3) := by decide +kernel
theorem dX5_choose_26 : decode cX5_choose 26 = .ok (.iload_n 3, 1) := by decide +kernel
theorem dX5_choose_27 : decode cX5_choose 27 = .ok (.invokevirtual 63, 3) := by decide +kernel
theorem dX5_choose_30 : decode cX5_choose 30 = .ok (.ifCond .ne 6, 3) := by decide +kernel
theorem dX5_choose_33 : decode cX5_choose 33 = .ok (.ldc 67, 2) := by decide +kernel
theorem dX5_choose_35 : decode cX5_choose 35 = .ok (.ireturn, 1) := by decide +kernel
theorem dX5_choose_36 : decode cX5_choose 36 = .ok (.aload_n 0, 1) := by decide +kernel
theorem dX5_choose_37 : decode cX5_choose 37 = .ok (.iconst 4, 1) := by decide +kernel
theorem dX5_choose_38 : decode cX5_choose 38 = .ok (.iload_n 1, 1) := by decide +kernel
theorem dX5_choose_39 : decode cX5_choose 39 = .ok (.iload_n 2, 1) := by decide +kernel
theorem dX5_choose_40 : decode cX5_choose 40 = .ok (.iload_n 3, 1) := by decide +kernel
theorem dX5_choose_41 : decode cX5_choose 41 = .ok (.invokevirtual 59, 3) := by decide +kernel
theorem dX5_choose_44 : decode cX5_choose 44 = .ok (.ireturn, 1) := by decide +kernel
theorem dX5_turn_0 : decode cX5_turn 0 = .ok (.aload_n 0, 1) := by decide +kernel
theorem dX5_turn_1 : decode cX5_turn 1 = .ok (.getfield 10, 3) := by decide +kernel
theorem dX5_turn_4 : decode cX5_turn 4 = .ok (.iload_n 1, 1) := by decide +kernel
theorem dX5_turn_5 : decode cX5_turn 5 = .ok (.invokevirtual 63, 3) := by decide +kernel
theorem dX5_turn_8 : decode cX5_turn 8 = .ok (.ifCond .ne 6, 3) := by decide +kernel
theorem dX5_turn_11 : decode cX5_turn 11 = .ok (.ldc 67, 2) := by decide +kernel
theorem dX5_turn_13 : decode cX5_turn 13 = .ok (.ireturn, 1) := by decide +kernel
theorem dX5_turn_14 : decode cX5_turn 14 = .ok (.aload_n 0, 1) := by decide +kernel
theorem dX5_turn_15 : decode cX5_turn 15 = .ok (.iconst 5, 1) := by decide +kernel
theorem dX5_turn_16 : decode cX5_turn 16 = .ok (.iload_n 1, 1) := by decide +kernel
theorem dX5_turn_17 : decode cX5_turn 17 = .ok (.iconst 0, 1) := by decide +kernel
theorem dX5_turn_18 : decode cX5_turn 18 = .ok (.iconst 0, 1) := by decide +kernel
theorem dX5_turn_19 : decode cX5_turn 19 = .ok (.invokevirtual 59, 3) := by decide +kernel
theorem dX5_turn_22 : decode cX5_turn 22 = .ok (.ireturn, 1) := by decide +kernel
theorem dX5_delay_0 : decode cX5_delay 0 = .ok (.aload_n 0, 1) := by decide +kernel
theorem dX5_delay_1 : decode cX5_delay 1 = .ok (.getfield 10, 3) := by decide +kernel
theorem dX5_delay_4 : decode cX5_delay 4 = .ok (.iload_n 1, 1) := by decide +kernel
theorem dX5_delay_5 : decode cX5_delay 5 = .ok (.invokevirtual 63, 3) := by decide +kernel
theorem dX5_delay_8 : decode cX5_delay 8 = .ok (.ifCond .ne 6, 3) := by decide +kernel
theorem dX5_delay_11 : decode cX5_delay 11 = .ok (.ldc 67, 2) := by decide +kernel
theorem dX5_delay_13 : decode cX5_delay 13 = .ok (.ireturn, 1) := by decide +kernel
theorem dX5_delay_14 : decode cX5_delay 14 = .ok (.iload_n 2, 1) := by decide +kernel
theorem dX5_delay_15 : decode cX5_delay 15 = .ok (.iconst 1, 1) := by decide +kernel
theorem dX5_delay_16 : decode cX5_delay 16 = .ok (.bipush 60, 2) := by decide +kernel
theorem dX5_delay_18 : decode cX5_delay 18 = .ok (.invokestatic 68, 3) := by decide +kernel
theorem dX5_delay_21 : decode cX5_delay 21 = .ok (.ifCond .ne 6, 3) := by decide +kernel
theorem dX5_delay_24 : decode cX5_delay 24 = .ok (.ldc 58, 2) := by decide +kernel
theorem dX5_delay_26 : decode cX5_delay 26 = .ok (.ireturn, 1) := by decide +kernel
theorem dX5_delay_27 : decode cX5_delay 27 = .ok (.aload_n 0, 1) := by decide +kernel
theorem dX5_delay_28 : decode cX5_delay 28 = .ok (.bipush 6, 2) := by decide +kernel
theorem dX5_delay_30 : decode cX5_delay 30 = .ok (.iload_n 1, 1) := by decide +kernel
theorem dX5_delay_31 : decode cX5_delay 31 = .ok (.iload_n 2, 1) := by decide +kernel
theorem dX5_delay_32 : decode cX5_delay 32 = .ok (.iconst 0, 1) := by decide +kernel
theorem dX5_delay_33 : decode cX5_delay 33 = .ok (.invokevirtual 59, 3) := by decide +kernel
theorem dX5_delay_36 : decode cX5_delay 36 = .ok (.ireturn, 1) := by decide +kernel
theorem dX5_reseed_0 : decode cX5_reseed 0 = .ok (.aload_n 0, 1) := by decide +kernel
theorem dX5_reseed_1 : decode cX5_reseed 1 = .ok (.getfield 10, 3) := by decide +kernel
theorem dX5_reseed_4 : decode cX5_reseed 4 = .ok (.iload_n 1, 1) := by decide +kernel
theorem dX5_reseed_5 : decode cX5_reseed 5 = .ok (.invokevirtual 63, 3) := by decide +kernel
theorem dX5_reseed_8 : decode cX5_reseed 8 = .ok (.ifCond .ne 6, 3) := by decide +kernel
theorem dX5_reseed_11 : decode cX5_reseed 11 = .ok (.ldc 67, 2) := by decide +kernel
theorem dX5_reseed_13 : decode cX5_reseed 13 = .ok (.ireturn, 1) := by decide +kernel
theorem dX5_reseed_14 : decode cX5_reseed 14 = .ok (.iload_n 2, 1) := by decide +kernel
theorem dX5_reseed_15 : decode cX5_reseed 15 = .ok (.iload_n 3, 1) := by decide +kernel
theorem dX5_reseed_16 : decode cX5_reseed 16 = .ok (.invokestatic 54, 3) := by decide +kernel
theorem dX5_reseed_19 : decode cX5_reseed 19 = .ok (.ifCond .ne 6, 3) := by decide +kernel
theorem dX5_reseed_22 : decode cX5_reseed 22 = .ok (.ldc 58, 2) := by decide +kernel
theorem dX5_reseed_24 : decode cX5_reseed 24 = .ok (.ireturn, 1) := by decide +kernel
theorem dX5_reseed_25 : decode cX5_reseed 25 = .ok (.aload_n 0, 1) := by decide +kernel
theorem dX5_reseed_26 : decode cX5_reseed 26 = .ok (.getfield 10, 3) := by decide +kernel
theorem dX5_reseed_29 : decode cX5_reseed 29 = .ok (.iload_n 1, 1) := by decide +kernel
theorem dX5_reseed_30 : decode cX5_reseed 30 = .ok (.invokevirtual 72, 3) := by decide +kernel
theorem dX5_reseed_33 : decode cX5_reseed 33 = .ok (.ifCond .eq 6, 3) := by decide +kernel
theorem dX5_reseed_36 : decode cX5_reseed 36 = .ok (.ldc 76, 2) := by decide +kernel
theorem dX5_reseed_38 : decode cX5_reseed 38 = .ok (.ireturn, 1) := by decide +kernel
theorem dX5_reseed_39 : decode cX5_reseed 39 = .ok (.aload_n 0, 1) := by decide +kernel
theorem dX5_reseed_40 : decode cX5_reseed 40 = .ok (.getfield 10, 3) := by decide +kernel
theorem dX5_reseed_43 : decode cX5_reseed 43 = .ok (.iload_n 1, 1) := by decide +kernel
theorem dX5_reseed_44 : decode cX5_reseed 44 = .ok (.iconst 1, 1) := by decide +kernel
theorem dX5_reseed_45 : decode cX5_reseed 45 = .ok (.invokevirtual 77, 3) := by decide +kernel
theorem dX5_reseed_48 : decode cX5_reseed 48 = .ok (.istore 4, 2) := by decide +kernel
theorem dX5_reseed_50 : decode cX5_reseed 50 = .ok (.iload 4, 2) := by decide +kernel
theorem dX5_reseed_52 : decode cX5_reseed 52 = .ok (.iload_n 2, 1) := by decide +kernel
theorem dX5_reseed_53 : decode cX5_reseed 53 = .ok (.if_icmp .ne 19, 3) := by decide +kernel
theorem dX5_reseed_56 : decode cX5_reseed 56 = .ok (.aload_n 0, 1) := by decide +kernel
theorem dX5_reseed_57 : decode cX5_reseed 57 = .ok (.getfield 10, 3) := by decide +kernel
theorem dX5_reseed_60 : decode cX5_reseed 60 = .ok (.iload_n 1, 1) := by decide +kernel
theorem dX5_reseed_61 : decode cX5_reseed 61 = .ok (.iconst 2, 1) := by decide +kernel
theorem dX5_reseed_62 : decode cX5_reseed 62 = .ok (.invokevirtual 77, 3) := by decide +kernel
theorem dX5_reseed_65 : decode cX5_reseed 65 = .ok (.iload_n 3, 1) := by decide +kernel
theorem dX5_reseed_66 : decode cX5_reseed 66 = .ok (.if_icmp .ne 6, 3) := by decide +kernel
theorem dX5_reseed_69 : decode cX5_reseed 69 = .ok (.ldc 81, 2) := by decide +kernel
theorem dX5_reseed_71 : decode cX5_reseed 71 = .ok (.ireturn, 1) := by decide +kernel
theorem dX5_reseed_72 : decode cX5_reseed 72 = .ok (.aload_n 0, 1) := by decide +kernel
theorem dX5_reseed_73 : decode cX5_reseed 73 = .ok (.getfield 29, 3) := by decide +kernel
theorem dX5_reseed_76 : decode cX5_reseed 76 = .ok (.aload_n 0, 1) := by decide +kernel
theorem dX5_reseed_77 : decode cX5_reseed 77 = .ok (.getfield 10, 3) := by decide +kernel
theorem dX5_reseed_80 : decode cX5_reseed 80 = .ok (.invokevirtual 82, 3) := by decide +kernel
theorem dX5_reseed_83 : decode cX5_reseed 83 = .ok (.aload_n 0, 1) := by decide +kernel
theorem dX5_reseed_84 : decode cX5_reseed 84 = .ok (.getfield 10, 3) := by decide +kernel
theorem dX5_reseed_87 : decode cX5_reseed 87 = .ok (.iload_n 1, 1) := by decide +kernel
theorem dX5_reseed_88 : decode cX5_reseed 88 = .ok (.iload_n 2, 1) := by decide +kernel
theorem dX5_reseed_89 : decode cX5_reseed 89 = .ok (.iload_n 3, 1) := by decide +kernel
theorem dX5_reseed_90 : decode cX5_reseed 90 = .ok (.invokevirtual 86, 3) := by decide +kernel
theorem dX5_reseed_93 : decode cX5_reseed 93 = .ok (.iload 4, 2) := by decide +kernel
theorem dX5_reseed_95 : decode cX5_reseed 95 = .ok (.ireturn, 1) := by decide +kernel
theorem dX5_removeLast_0 : decode cX5_removeLast 0 = .ok (.aload_n 0, 1) := by decide +kernel
theorem dX5_removeLast_1 : decode cX5_removeLast 1 = .ok (.getfield 10, 3) := by decide +kernel
theorem dX5_removeLast_4 : decode cX5_removeLast 4 = .ok (.getfield 90, 3) := by decide +kernel
theorem dX5_removeLast_7 : decode cX5_removeLast 7 = .ok (.ifCond .ne 6, 3) := by decide +kernel
theorem dX5_removeLast_10 : decode cX5_removeLast 10 = .ok (.ldc 81, 2) := by decide +kernel
theorem dX5_removeLast_12 : decode cX5_removeLast 12 = .ok (.ireturn, 1) := by decide +kernel
theorem dX5_removeLast_13 : decode cX5_removeLast 13 = .ok (.aload_n 0, 1) := by decide +kernel
theorem dX5_removeLast_14 : decode cX5_removeLast 14 = .ok (.getfield 29, 3) := by decide +kernel
theorem dX5_removeLast_17 : decode cX5_removeLast 17 = .ok (.aload_n 0, 1) := by decide +kernel
theorem dX5_removeLast_18 : decode cX5_removeLast 18 = .ok (.getfield 10, 3) := by decide +kernel
theorem dX5_removeLast_21 : decode cX5_removeLast 21 = .ok (.invokevirtual 82, 3) := by decide +kernel
theorem dX5_removeLast_24 : decode cX5_removeLast 24 = .ok (.aload_n 0, 1) := by decide +kernel
theorem dX5_removeLast_25 : decode cX5_removeLast 25 = .ok (.getfield 10, 3) := by decide +kernel
theorem dX5_removeLast_28 : decode cX5_removeLast 28 = .ok (.invokevirtual 94, 3) := by decide +kernel
theorem dX5_removeLast_31 : decode cX5_removeLast 31 = .ok (.aload_n 0, 1) := by decide +kernel
theorem dX5_removeLast_32 : decode cX5_removeLast 32 = .ok (.getfield 10, 3) := by decide +kernel
theorem dX5_removeLast_35 : decode cX5_removeLast 35 = .ok (.getfield 90, 3) := by decide +kernel
theorem dX5_removeLast_38 : decode cX5_removeLast 38 = .ok (.ireturn, 1) := by decide +kernel
theorem dX5_setLength_0 : decode cX5_setLength 0 = .ok (.iload_n 1, 1) := by decide +kernel
theorem dX5_setLength_1 : decode cX5_setLength 1 = .ok (.iconst 1, 1) := by decide +kernel
theorem dX5_setLength_2 : decode cX5_setLength 2 = .ok (.sipush 1000, 3) := by decide +kernel
theorem dX5_setLength_5 : decode cX5_setLength 5 = .ok (.invokestatic 68, 3) := by decide +kernel
theorem dX5_setLength_8 : decode cX5_setLength 8 = .ok (.ifCond .ne 6, 3) := by decide +kernel
theorem dX5_setLength_11 : decode cX5_setLength 11 = .ok (.ldc 58, 2) := by decide +kernel
theorem dX5_setLength_13 : decode cX5_setLength 13 = .ok (.ireturn, 1) := by decide +kernel
theorem dX5_setLength_14 : decode cX5_setLength 14 = .ok (.aload_n 0, 1) := by decide +kernel
theorem dX5_setLength_15 : decode cX5_setLength 15 = .ok (.getfield 10, 3) := by decide +kernel
theorem dX5_setLength_18 : decode cX5_setLength 18 = .ok (.getfield 97, 3) := by decide +kernel
theorem dX5_setLength_21 : decode cX5_setLength 21 = .ok (.istore_n 2, 1) := by decide +kernel
theorem dX5_setLength_22 : decode cX5_setLength 22 = .ok (.iload_n 2, 1) := by decide +kernel
theorem dX5_setLength_23 : decode cX5_setLength 23 = .ok (.iload_n 1, 1) := by decide +kernel
theorem dX5_setLength_24 : decode cX5_setLength 24 = .ok (.if_icmp .ne 6, 3) := by decide +kernel
theorem dX5_setLength_27 : decode cX5_setLength 27 = .ok (.ldc 81, 2) := by decide +kernel
theorem dX5_setLength_29 : decode cX5_setLength 29 = .ok (.ireturn, 1) := by decide +kernel
theorem dX5_setLength_30 : decode cX5_setLength 30 = .ok (.aload_n 0, 1) := by decide +kernel
theorem dX5_setLength_31 : decode cX5_setLength 31 = .ok (.getfield 29, 3) := by decide +kernel
theorem dX5_setLength_34 : decode cX5_setLength 34 = .ok (.aload_n 0, 1) := by decide +kernel
theorem dX5_setLength_35 : decode cX5_setLength 35 = .ok (.getfield 10, 3) := by decide +kernel
theorem dX5_setLength_38 : decode cX5_setLength 38 = .ok (.invokevirtual 82, 3) := by decide +kernel
theorem dX5_setLength_41 : decode cX5_setLength 41 = .ok (.aload_n 0, 1) := by decide +kernel
theorem dX5_setLength_42 : decode cX5_setLength 42 = .ok (.getfield 10, 3) := by decide +kernel
theorem dX5_setLength_45 : decode cX5_setLength 45 = .ok (.iload_n 1, 1) := by decide +kernel
theorem dX5_setLength_46 : decode cX5_setLength 46 = .ok (.putfield 97, 3) := by decide +kernel
theorem dX5_setLength_49 : decode cX5_setLength 49 = .ok (.iload_n 2, 1) := by decide +kernel
theorem dX5_setLength_50 : decode cX5_setLength 50 = .ok (.ireturn, 1) := by decide +kernel
theorem dX5_readCircuit_0 : decode cX5_readCircuit 0 = .ok (.aload_n 0, 1) := by decide +kernel
theorem dX5_readCircuit_1 : decode cX5_readCircuit 1 = .ok (.getfield 36, 3) := by decide +kernel
theorem dX5_readCircuit_4 : decode cX5_readCircuit 4 = .ok (.aload_n 0, 1) := by decide +kernel
theorem dX5_readCircuit_5 : decode cX5_readCircuit 5 = .ok (.getfield 23, 3) := by decide +kernel
theorem dX5_readCircuit_8 : decode cX5_readCircuit 8 = .ok (.invokevirtual 100, 3) := by decide +kernel
theorem dX5_readCircuit_11 : decode cX5_readCircuit 11 = .ok (.istore_n 1, 1) := by decide +kernel
theorem dX5_readCircuit_12 : decode cX5_readCircuit 12 = .ok (.iload_n 1, 1) := by decide +kernel
theorem dX5_readCircuit_13 : decode cX5_readCircuit 13 = .ok (.iconst (-1), 1) := by decide +kernel
theorem dX5_readCircuit_14 : decode cX5_readCircuit 14 = .ok (.if_icmp .eq 8, 3) := by decide +kernel
theorem dX5_readCircuit_17 : decode cX5_readCircuit 17 = .ok (.ldc 104, 2) := by decide +kernel
theorem dX5_readCircuit_19 : decode cX5_readCircuit 19 = .ok (.iload_n 1, 1) := by decide +kernel
theorem dX5_readCircuit_20 : decode cX5_readCircuit 20 = .ok (.isub, 1) := by decide +kernel
theorem dX5_readCircuit_21 : decode cX5_readCircuit 21 = .ok (.ireturn, 1) := by decide +kernel
theorem dX5_readCircuit_22 : decode cX5_readCircuit 22 = .ok (.aload_n 0, 1) := by decide +kernel
theorem dX5_readCircuit_23 : decode cX5_readCircuit 23 = .ok (.getfield 23, 3) := by decide +kernel
theorem dX5_readCircuit_26 : decode cX5_readCircuit 26 = .ok (.aload_n 0, 1) := by decide +kernel
theorem dX5_readCircuit_27 : decode cX5_readCircuit 27 = .ok (.getfield 10, 3) := by decide +kernel
theorem dX5_readCircuit_30 : decode cX5_readCircuit 30 = .ok (.getfield 90, 3) := by decide +kernel
theorem dX5_readCircuit_33 : decode cX5_readCircuit 33 = .ok (.invokestatic 105, 3) := by decide +kernel
theorem dX5_readCircuit_36 : decode cX5_readCircuit 36 = .ok (.ifCond .ne 6, 3) := by decide +kernel
theorem dX5_readCircuit_39 : decode cX5_readCircuit 39 = .ok (.ldc 67, 2) := by decide +kernel
theorem dX5_readCircuit_41 : decode cX5_readCircuit 41 = .ok (.ireturn, 1) := by decide +kernel
theorem dX5_readCircuit_42 : decode cX5_readCircuit 42 = .ok (.aload_n 0, 1) := by decide +kernel
theorem dX5_readCircuit_43 : decode cX5_readCircuit 43 = .ok (.getfield 10, 3) := by decide +kernel
theorem dX5_readCircuit_46 : decode cX5_readCircuit 46 = .ok (.getfield 90, 3) := by decide +kernel
theorem dX5_readCircuit_49 : decode cX5_readCircuit 49 = .ok (.aload_n 0, 1) := by decide +kernel
theorem dX5_readCircuit_50 : decode cX5_readCircuit 50 = .ok (.getfield 23, 3) := by decide +kernel
theorem dX5_readCircuit_53 : decode cX5_readCircuit 53 = .ok (.getfield 90, 3) := by decide +kernel
theorem dX5_readCircuit_56 : decode cX5_readCircuit 56 = .ok (.iadd, 1) := by decide +kernel
theorem dX5_readCircuit_57 : decode cX5_readCircuit 57 = .ok (.bipush 16, 2) := by decide +kernel
theorem dX5_readCircuit_59 : decode cX5_readCircuit 59 = .ok (.if_icmp .le 6, 3) := by decide +kernel
theorem dX5_readCircuit_62 : decode cX5_readCircuit 62 = .ok (.ldc 109, 2) := by decide +kernel
theorem dX5_readCircuit_64 : decode cX5_readCircuit 64 = .ok (.ireturn, 1) := by decide +kernel
theorem dX5_readCircuit_65 : decode cX5_readCircuit 65 = .ok (.aload_n 0, 1) := by decide +kernel
theorem dX5_readCircuit_66 : decode cX5_readCircuit 66 = .ok (.getfield 29, 3) := by decide +kernel
theorem dX5_readCircuit_69 : decode cX5_readCircuit 69 = .ok (.aload_n 0, 1) := by decide +kernel
theorem dX5_readCircuit_70 : decode cX5_readCircuit 70 = .ok (.getfield 10, 3) := by decide +kernel
theorem dX5_readCircuit_73 : decode cX5_readCircuit 73 = .ok (.invokevirtual 82, 3) := by decide +kernel
theorem dX5_readCircuit_76 : decode cX5_readCircuit 76 = .ok (.aload_n 0, 1) := by decide +kernel
theorem dX5_readCircuit_77 : decode cX5_readCircuit 77 = .ok (.getfield 10, 3) := by decide +kernel
theorem dX5_readCircuit_80 : decode cX5_readCircuit 80 = .ok (.aload_n 0, 1) := by decide +kernel
theorem dX5_readCircuit_81 : decode cX5_readCircuit 81 = .ok (.getfield 23, 3) := by decide +kernel
theorem dX5_readCircuit_84 : decode cX5_readCircuit 84 = .ok (.invokevirtual 110, 3) := by decide +kernel
theorem dX5_readCircuit_87 : decode cX5_readCircuit 87 = .ok (.aload_n 0, 1) := by decide +kernel
theorem dX5_readCircuit_88 : decode cX5_readCircuit 88 = .ok (.getfield 10, 3) := by decide +kernel
theorem dX5_readCircuit_91 : decode cX5_readCircuit 91 = .ok (.getfield 90, 3) := by decide +kernel
theorem dX5_readCircuit_94 : decode cX5_readCircuit 94 = .ok (.ireturn, 1) := by decide +kernel
theorem dX5_type_0 : decode cX5_type 0 = .ok (.aload_n 0, 1) := by decide +kernel
theorem dX5_type_1 : decode cX5_type 1 = .ok (.getfield 36, 3) := by decide +kernel
theorem dX5_type_4 : decode cX5_type 4 = .ok (.getfield 113, 3) := by decide +kernel
theorem dX5_type_7 : decode cX5_type 7 = .ok (.bipush 80, 2) := by decide +kernel
theorem dX5_type_9 : decode cX5_type 9 = .ok (.if_icmp .lt 6, 3) := by decide +kernel
theorem dX5_type_12 : decode cX5_type 12 = .ok (.ldc 109, 2) := by decide +kernel
theorem dX5_type_14 : decode cX5_type 14 = .ok (.ireturn, 1) := by decide +kernel
theorem dX5_type_15 : decode cX5_type 15 = .ok (.aload_n 0, 1) := by decide +kernel
theorem dX5_type_16 : decode cX5_type 16 = .ok (.getfield 36, 3) := by decide +kernel
theorem dX5_type_19 : decode cX5_type 19 = .ok (.iload_n 1, 1) := by decide +kernel
theorem dX5_type_20 : decode cX5_type 20 = .ok (.invokevirtual 114, 3) := by decide +kernel
theorem dX5_type_23 : decode cX5_type 23 = .ok (.aload_n 0, 1) := by decide +kernel
theorem dX5_type_24 : decode cX5_type 24 = .ok (.getfield 36, 3) := by decide +kernel
theorem dX5_type_27 : decode cX5_type 27 = .ok (.getfield 113, 3) := by decide +kernel
theorem dX5_type_30 : decode cX5_type 30 = .ok (.ireturn, 1) := by decide +kernel
theorem dX5_clearText_0 : decode cX5_clearText 0 = .ok (.aload_n 0, 1) := by decide +kernel
theorem dX5_clearText_1 : decode cX5_clearText 1 = .ok (.getfield 36, 3) := by decide +kernel
theorem dX5_clearText_4 : decode cX5_clearText 4 = .ok (.getfield 113, 3) := by decide +kernel
theorem dX5_clearText_7 : decode cX5_clearText 7 = .ok (.istore_n 1, 1) := by decide +kernel
theorem dX5_clearText_8 : decode cX5_clearText 8 = .ok (.aload_n 0, 1) := by decide +kernel
theorem dX5_clearText_9 : decode cX5_clearText 9 = .ok (.getfield 36, 3) := by decide +kernel
theorem dX5_clearText_12 : decode cX5_clearText 12 = .ok (.iconst 0, 1) := by decide +kernel
theorem dX5_clearText_13 : decode cX5_clearText 13 = .ok (.putfield 113, 3) := by decide +kernel
theorem dX5_clearText_16 : decode cX5_clearText 16 = .ok (.iload_n 1, 1) := by decide +kernel
theorem dX5_clearText_17 : decode cX5_clearText 17 = .ok (.ireturn, 1) := by decide +kernel
theorem dX5_undo_0 : decode cX5_undo 0 = .ok (.aload_n 0, 1) := by decide +kernel
theorem dX5_undo_1 : decode cX5_undo 1 = .ok (.getfield 29, 3) := by decide +kernel
theorem dX5_undo_4 : decode cX5_undo 4 = .ok (.getfield 118, 3) := by decide +kernel
theorem dX5_undo_7 : decode cX5_undo 7 = .ok (.ifCond .ne 6, 3) := by decide +kernel
theorem dX5_undo_10 : decode cX5_undo 10 = .ok (.ldc 81, 2) := by decide +kernel
theorem dX5_undo_12 : decode cX5_undo 12 = .ok (.ireturn, 1) := by decide +kernel
theorem dX5_undo_13 : decode cX5_undo 13 = .ok (.aload_n 0, 1) := by decide +kernel
theorem dX5_undo_14 : decode cX5_undo 14 = .ok (.getfield 29, 3) := by decide +kernel
theorem dX5_undo_17 : decode cX5_undo 17 = .ok (.aload_n 0, 1) := by decide +kernel
theorem dX5_undo_18 : decode cX5_undo 18 = .ok (.getfield 10, 3) := by decide +kernel
theorem dX5_undo_21 : decode cX5_undo 21 = .ok (.invokevirtual 119, 3) := by decide +kernel
theorem dX5_undo_24 : decode cX5_undo 24 = .ok (.aload_n 0, 1) := by decide +kernel
theorem dX5_undo_25 : decode cX5_undo 25 = .ok (.getfield 29, 3) := by decide +kernel
theorem dX5_undo_28 : decode cX5_undo 28 = .ok (.getfield 118, 3) := by decide +kernel
theorem dX5_undo_31 : decode cX5_undo 31 = .ok (.ireturn, 1) := by decide +kernel
theorem dX5_keep_0 : decode cX5_keep 0 = .ok (.aload_n 0, 1) := by decide +kernel
theorem dX5_keep_1 : decode cX5_keep 1 = .ok (.getfield 16, 3) := by decide +kernel
theorem dX5_keep_4 : decode cX5_keep 4 = .ok (.aload_n 0, 1) := by decide +kernel
theorem dX5_keep_5 : decode cX5_keep 5 = .ok (.getfield 10, 3) := by decide +kernel
theorem dX5_keep_8 : decode cX5_keep 8 = .ok (.invokevirtual 122, 3) := by decide +kernel
theorem dX5_keep_11 : decode cX5_keep 11 = .ok (.aload_n 0, 1) := by decide +kernel
theorem dX5_keep_12 : decode cX5_keep 12 = .ok (.iconst 1, 1) := by decide +kernel
theorem dX5_keep_13 : decode cX5_keep 13 = .ok (.putfield 19, 3) := by decide +kernel
theorem dX5_keep_16 : decode cX5_keep 16 = .ok (.aload_n 0, 1) := by decide +kernel
theorem dX5_keep_17 : decode cX5_keep 17 = .ok (.getfield 10, 3) := by decide +kernel
theorem dX5_keep_20 : decode cX5_keep 20 = .ok (.getfield 90, 3) := by decide +kernel
theorem dX5_keep_23 : decode cX5_keep 23 = .ok (.ireturn, 1) := by decide +kernel
theorem dX5_restore_0 : decode cX5_restore 0 = .ok (.aload_n 0, 1) := by decide +kernel
theorem dX5_restore_1 : decode cX5_restore 1 = .ok (.getfield 19, 3) := by decide +kernel
theorem dX5_restore_4 : decode cX5_restore 4 = .ok (.ifCond .ne 6, 3) := by decide +kernel
theorem dX5_restore_7 : decode cX5_restore 7 = .ok (.ldc 81, 2) := by decide +kernel
theorem dX5_restore_9 : decode cX5_restore 9 = .ok (.ireturn, 1) := by decide +kernel
theorem dX5_restore_10 : decode cX5_restore 10 = .ok (.aload_n 0, 1) := by decide +kernel
theorem dX5_restore_11 : decode cX5_restore 11 = .ok (.getfield 29, 3) := by decide +kernel
theorem dX5_restore_14 : decode cX5_restore 14 = .ok (.aload_n 0, 1) := by decide +kernel
theorem dX5_restore_15 : decode cX5_restore 15 = .ok (.getfield 10, 3) := by decide +kernel
theorem dX5_restore_18 : decode cX5_restore 18 = .ok (.invokevirtual 82, 3) := by decide +kernel
theorem dX5_restore_21 : decode cX5_restore 21 = .ok (.aload_n 0, 1) := by decide +kernel
theorem dX5_restore_22 : decode cX5_restore 22 = .ok (.getfield 10, 3) := by decide +kernel
theorem dX5_restore_25 : decode cX5_restore 25 = .ok (.aload_n 0, 1) := by decide +kernel
theorem dX5_restore_26 : decode cX5_restore 26 = .ok (.getfield 16, 3) := by decide +kernel
theorem dX5_restore_29 : decode cX5_restore 29 = .ok (.invokevirtual 122, 3) := by decide +kernel
theorem dX5_restore_32 : decode cX5_restore 32 = .ok (.aload_n 0, 1) := by decide +kernel
theorem dX5_restore_33 : decode cX5_restore 33 = .ok (.getfield 10, 3) := by decide +kernel
theorem dX5_restore_36 : decode cX5_restore 36 = .ok (.getfield 90, 3) := by decide +kernel
theorem dX5_restore_39 : decode cX5_restore 39 = .ok (.ireturn, 1) := by decide +kernel
theorem dX5_line_0 : decode cX5_line 0 = .ok (.aload_n 0, 1) := by decide +kernel
theorem dX5_line_1 : decode cX5_line 1 = .ok (.getfield 10, 3) := by decide +kernel
theorem dX5_line_4 : decode cX5_line 4 = .ok (.iload_n 1, 1) := by decide +kernel
theorem dX5_line_5 : decode cX5_line 5 = .ok (.invokevirtual 63, 3) := by decide +kernel
theorem dX5_line_8 : decode cX5_line 8 = .ok (.ifCond .ne 6, 3) := by decide +kernel
theorem dX5_line_11 : decode cX5_line 11 = .ok (.ldc 67, 2) := by decide +kernel
theorem dX5_line_13 : decode cX5_line 13 = .ok (.ireturn, 1) := by decide +kernel
theorem dX5_line_14 : decode cX5_line 14 = .ok (.iload_n 2, 1) := by decide +kernel
theorem dX5_line_15 : decode cX5_line 15 = .ok (.tableswitch 201 0 9 #[53, 62, 62, 62, 92, 105, 128, 148, 161, 181], 53) := by decide +kernel
theorem dX5_line_68 : decode cX5_line 68 = .ok (.aload_n 0, 1) := by decide +kernel
theorem dX5_line_69 : decode cX5_line 69 = .ok (.getfield 10, 3) := by decide +kernel
theorem dX5_line_72 : decode cX5_line 72 = .ok (.iload_n 1, 1) := by decide +kernel
theorem dX5_line_73 : decode cX5_line 73 = .ok (.invokevirtual 72, 3) := by decide +kernel
theorem dX5_line_76 : decode cX5_line 76 = .ok (.ireturn, 1) := by decide +kernel
theorem dX5_line_77 : decode cX5_line 77 = .ok (.iload_n 2, 1) := by decide +kernel
theorem dX5_line_78 : decode cX5_line 78 = .ok (.aload_n 0, 1) := by decide +kernel
theorem dX5_line_79 : decode cX5_line 79 = .ok (.getfield 10, 3) := by decide +kernel
theorem dX5_line_82 : decode cX5_line 82 = .ok (.iload_n 1, 1) := by decide +kernel
theorem dX5_line_83 : decode cX5_line 83 = .ok (.invokevirtual 72, 3) := by decide +kernel
theorem dX5_line_86 : decode cX5_line 86 = .ok (.invokestatic 125, 3) := by decide +kernel
theorem dX5_line_89 : decode cX5_line 89 = .ok (.if_icmp .le 8, 3) := by decide +kernel
theorem dX5_line_92 : decode cX5_line 92 = .ok (.ldc 81, 2) := by decide +kernel
theorem dX5_line_94 : decode cX5_line 94 = .ok (.goto 12, 3) := by decide +kernel
theorem dX5_line_97 : decode cX5_line 97 = .ok (.aload_n 0, 1) := by decide +kernel
theorem dX5_line_98 : decode cX5_line 98 = .ok (.getfield 10, 3) := by decide +kernel
theorem dX5_line_101 : decode cX5_line 101 = .ok (.iload_n 1, 1) := by decide +kernel
theorem dX5_line_102 : decode cX5_line 102 = .ok (.iload_n 2, 1) := by decide +kernel
theorem dX5_line_103 : decode cX5_line 103 = .ok (.invokevirtual 77, 3) := by decide +kernel
theorem dX5_line_106 : decode cX5_line 106 = .ok (.ireturn, 1) := by decide +kernel
theorem dX5_line_107 : decode cX5_line 107 = .ok (.aload_n 0, 1) := by decide +kernel
theorem dX5_line_108 : decode cX5_line 108 = .ok (.iload_n 1, 1) := by decide +kernel
theorem dX5_line_109 : decode cX5_line 109 = .ok (.aload_n 0, 1) := by decide +kernel
theorem dX5_line_110 : decode cX5_line 110 = .ok (.getfield 10, 3) := by decide +kernel
theorem dX5_line_113 : decode cX5_line 113 = .ok (.getfield 97, 3) := by decide +kernel
theorem dX5_line_116 : decode cX5_line 116 = .ok (.invokevirtual 128, 3) := by decide +kernel
theorem dX5_line_119 : decode cX5_line 119 = .ok (.ireturn, 1) := by decide +kernel
theorem dX5_line_120 : decode cX5_line 120 = .ok (.aload_n 0, 1) := by decide +kernel
theorem dX5_line_121 : decode cX5_line 121 = .ok (.iload_n 1, 1) := by decide +kernel
theorem dX5_line_122 : decode cX5_line 122 = .ok (.aload_n 0, 1) := by decide +kernel
theorem dX5_line_123 : decode cX5_line 123 = .ok (.getfield 10, 3) := by decide +kernel
theorem dX5_line_126 : decode cX5_line 126 = .ok (.getfield 97, 3) := by decide +kernel
theorem dX5_line_129 : decode cX5_line 129 = .ok (.invokevirtual 128, 3) := by decide +kernel
theorem dX5_line_132 : decode cX5_line 132 = .ok (.aload_n 0, 1) := by decide +kernel
theorem dX5_line_133 : decode cX5_line 133 = .ok (.getfield 10, 3) := by decide +kernel
theorem dX5_line_136 : decode cX5_line 136 = .ok (.getfield 97, 3) := by decide +kernel
theorem dX5_line_139 : decode cX5_line 139 = .ok (.invokestatic 131, 3) := by decide +kernel
theorem dX5_line_142 : decode cX5_line 142 = .ok (.ireturn, 1) := by decide +kernel
theorem dX5_line_143 : decode cX5_line 143 = .ok (.aload_n 0, 1) := by decide +kernel
theorem dX5_line_144 : decode cX5_line 144 = .ok (.getfield 43, 3) := by decide +kernel
theorem dX5_line_147 : decode cX5_line 147 = .ok (.aload_n 0, 1) := by decide +kernel
theorem dX5_line_148 : decode cX5_line 148 = .ok (.getfield 10, 3) := by decide +kernel
theorem dX5_line_151 : decode cX5_line 151 = .ok (.invokevirtual 134, 3) := by decide +kernel
theorem dX5_line_154 : decode cX5_line 154 = .ok (.aload_n 0, 1) := by decide +kernel
theorem dX5_line_155 : decode cX5_line 155 = .ok (.getfield 43, 3) := by decide +kernel
theorem dX5_line_158 : decode cX5_line 158 = .ok (.iload_n 1, 1) := by decide +kernel
theorem dX5_line_159 : decode cX5_line 159 = .ok (.invokevirtual 137, 3) := by decide +kernel
theorem dX5_line_162 : decode cX5_line 162 = .ok (.ireturn, 1) := by decide +kernel
theorem dX5_line_163 : decode cX5_line 163 = .ok (.aload_n 0, 1) := by decide +kernel
theorem dX5_line_164 : decode cX5_line 164 = .ok (.iload_n 1, 1) := by decide +kernel
theorem dX5_line_165 : decode cX5_line 165 = .ok (.aload_n 0, 1) := by decide +kernel
theorem dX5_line_166 : decode cX5_line 166 = .ok (.getfield 10, 3) := by decide +kernel
theorem dX5_line_169 : decode cX5_line 169 = .ok (.getfield 97, 3) := by decide +kernel
theorem dX5_line_172 : decode cX5_line 172 = .ok (.invokevirtual 140, 3) := by decide +kernel
theorem dX5_line_175 : decode cX5_line 175 = .ok (.ireturn, 1) := by decide +kernel
theorem dX5_line_176 : decode cX5_line 176 = .ok (.aload_n 0, 1) := by decide +kernel
theorem dX5_line_177 : decode cX5_line 177 = .ok (.getfield 43, 3) := by decide +kernel
theorem dX5_line_180 : decode cX5_line 180 = .ok (.aload_n 0, 1) := by decide +kernel
theorem dX5_line_181 : decode cX5_line 181 = .ok (.getfield 10, 3) := by decide +kernel
theorem dX5_line_184 : decode cX5_line 184 = .ok (.invokevirtual 134, 3) := by decide +kernel
theorem dX5_line_187 : decode cX5_line 187 = .ok (.aload_n 0, 1) := by decide +kernel
theorem dX5_line_188 : decode cX5_line 188 = .ok (.getfield 43, 3) := by decide +kernel
theorem dX5_line_191 : decode cX5_line 191 = .ok (.iload_n 1, 1) := by decide +kernel
theorem dX5_line_192 : decode cX5_line 192 = .ok (.invokevirtual 143, 3) := by decide +kernel
theorem dX5_line_195 : decode cX5_line 195 = .ok (.ireturn, 1) := by decide +kernel
theorem dX5_line_196 : decode cX5_line 196 = .ok (.aload_n 0, 1) := by decide +kernel
theorem dX5_line_197 : decode cX5_line 197 = .ok (.getfield 43, 3) := by decide +kernel
theorem dX5_line_200 : decode cX5_line 200 = .ok (.aload_n 0, 1) := by decide +kernel
theorem dX5_line_201 : decode cX5_line 201 = .ok (.getfield 10, 3) := by decide +kernel
theorem dX5_line_204 : decode cX5_line 204 = .ok (.invokevirtual 134, 3) := by decide +kernel
theorem dX5_line_207 : decode cX5_line 207 = .ok (.aload_n 0, 1) := by decide +kernel
theorem dX5_line_208 : decode cX5_line 208 = .ok (.getfield 43, 3) := by decide +kernel
theorem dX5_line_211 : decode cX5_line 211 = .ok (.iload_n 1, 1) := by decide +kernel
theorem dX5_line_212 : decode cX5_line 212 = .ok (.invokevirtual 146, 3) := by decide +kernel
theorem dX5_line_215 : decode cX5_line 215 = .ok (.ireturn, 1) := by decide +kernel
theorem dX5_line_216 : decode cX5_line 216 = .ok (.ldc 58, 2) := by decide +kernel
theorem dX5_line_218 : decode cX5_line 218 = .ok (.ireturn, 1) := by decide +kernel
theorem dX5_bit_0 : decode cX5_bit 0 = .ok (.aload_n 0, 1) := by decide +kernel
theorem dX5_bit_1 : decode cX5_bit 1 = .ok (.getfield 10, 3) := by decide +kernel
theorem dX5_bit_4 : decode cX5_bit 4 = .ok (.iload_n 1, 1) := by decide +kernel
theorem dX5_bit_5 : decode cX5_bit 5 = .ok (.invokevirtual 63, 3) := by decide +kernel
theorem dX5_bit_8 : decode cX5_bit 8 = .ok (.ifCond .ne 6, 3) := by decide +kernel
theorem dX5_bit_11 : decode cX5_bit 11 = .ok (.ldc 67, 2) := by decide +kernel
theorem dX5_bit_13 : decode cX5_bit 13 = .ok (.ireturn, 1) := by decide +kernel
theorem dX5_bit_14 : decode cX5_bit 14 = .ok (.iload_n 2, 1) := by decide +kernel
theorem dX5_bit_15 : decode cX5_bit 15 = .ok (.iconst 0, 1) := by decide +kernel
theorem dX5_bit_16 : decode cX5_bit 16 = .ok (.sipush 999, 3) := by decide +kernel
theorem dX5_bit_19 : decode cX5_bit 19 = .ok (.invokestatic 68, 3) := by decide +kernel
theorem dX5_bit_22 : decode cX5_bit 22 = .ok (.ifCond .ne 6, 3) := by decide +kernel
theorem dX5_bit_25 : decode cX5_bit 25 = .ok (.ldc 58, 2) := by decide +kernel
theorem dX5_bit_27 : decode cX5_bit 27 = .ok (.ireturn, 1) := by decide +kernel
theorem dX5_bit_28 : decode cX5_bit 28 = .ok (.aload_n 0, 1) := by decide +kernel
theorem dX5_bit_29 : decode cX5_bit 29 = .ok (.getfield 50, 3) := by decide +kernel
theorem dX5_bit_32 : decode cX5_bit 32 = .ok (.aload_n 0, 1) := by decide +kernel
theorem dX5_bit_33 : decode cX5_bit 33 = .ok (.getfield 10, 3) := by decide +kernel
theorem dX5_bit_36 : decode cX5_bit 36 = .ok (.iload_n 1, 1) := by decide +kernel
theorem dX5_bit_37 : decode cX5_bit 37 = .ok (.iload_n 2, 1) := by decide +kernel
theorem dX5_bit_38 : decode cX5_bit 38 = .ok (.iconst 1, 1) := by decide +kernel
theorem dX5_bit_39 : decode cX5_bit 39 = .ok (.iadd, 1) := by decide +kernel
theorem dX5_bit_40 : decode cX5_bit 40 = .ok (.invokevirtual 149, 3) := by decide +kernel
theorem dX5_bit_43 : decode cX5_bit 43 = .ok (.aload_n 0, 1) := by decide +kernel
theorem dX5_bit_44 : decode cX5_bit 44 = .ok (.getfield 50, 3) := by decide +kernel
theorem dX5_bit_47 : decode cX5_bit 47 = .ok (.iload_n 1, 1) := by decide +kernel
theorem dX5_bit_48 : decode cX5_bit 48 = .ok (.iload_n 2, 1) := by decide +kernel
theorem dX5_bit_49 : decode cX5_bit 49 = .ok (.invokevirtual 153, 3) := by decide +kernel
theorem dX5_bit_52 : decode cX5_bit 52 = .ok (.ireturn, 1) := by decide +kernel
theorem dX5_overlap_0 : decode cX5_overlap 0 = .ok (.aload_n 0, 1) := by decide +kernel
theorem dX5_overlap_1 : decode cX5_overlap 1 = .ok (.getfield 10, 3) := by decide +kernel
theorem dX5_overlap_4 : decode cX5_overlap 4 = .ok (.iload_n 1, 1) := by decide +kernel
theorem dX5_overlap_5 : decode cX5_overlap 5 = .ok (.invokevirtual 63, 3) := by decide +kernel
theorem dX5_overlap_8 : decode cX5_overlap 8 = .ok (.ifCond .eq 14, 3) := by decide +kernel
theorem dX5_overlap_11 : decode cX5_overlap 11 = .ok (.aload_n 0, 1) := by decide +kernel
theorem dX5_overlap_12 : decode cX5_overlap 12 = .ok (.getfield 10, 3) := by decide +kernel
theorem dX5_overlap_15 : decode cX5_overlap 15 = .ok (.iload_n 2, 1) := by decide +kernel
theorem dX5_overlap_16 : decode cX5_overlap 16 = .ok (.invokevirtual 63, 3) := by decide +kernel
theorem dX5_overlap_19 : decode cX5_overlap 19 = .ok (.ifCond .ne 6, 3) := by decide +kernel
theorem dX5_overlap_22 : decode cX5_overlap 22 = .ok (.ldc 67, 2) := by decide +kernel
theorem dX5_overlap_24 : decode cX5_overlap 24 = .ok (.ireturn, 1) := by decide +kernel
theorem dX5_overlap_25 : decode cX5_overlap 25 = .ok (.aload_n 0, 1) := by decide +kernel
theorem dX5_overlap_26 : decode cX5_overlap 26 = .ok (.getfield 10, 3) := by decide +kernel
theorem dX5_overlap_29 : decode cX5_overlap 29 = .ok (.getfield 97, 3) := by decide +kernel
theorem dX5_overlap_32 : decode cX5_overlap 32 = .ok (.i2l, 1) := by decide +kernel
theorem dX5_overlap_33 : decode cX5_overlap 33 = .ok (.lstore_n 3, 1) := by decide +kernel
theorem dX5_overlap_34 : decode cX5_overlap 34 = .ok (.lload_n 3, 1) := by decide +kernel
theorem dX5_overlap_35 : decode cX5_overlap 35 = .ok (.lconst 1, 1) := by decide +kernel
theorem dX5_overlap_36 : decode cX5_overlap 36 = .ok (.lcmp, 1) := by decide +kernel
theorem dX5_overlap_37 : decode cX5_overlap 37 = .ok (.ifCond .ge 5, 3) := by decide +kernel
theorem dX5_overlap_40 : decode cX5_overlap 40 = .ok (.iconst 0, 1) := by decide +kernel
theorem dX5_overlap_41 : decode cX5_overlap 41 = .ok (.ireturn, 1) := by decide +kernel
theorem dX5_overlap_42 : decode cX5_overlap 42 = .ok (.aload_n 0, 1) := by decide +kernel
theorem dX5_overlap_43 : decode cX5_overlap 43 = .ok (.getfield 50, 3) := by decide +kernel
theorem dX5_overlap_46 : decode cX5_overlap 46 = .ok (.aload_n 0, 1) := by decide +kernel
theorem dX5_overlap_47 : decode cX5_overlap 47 = .ok (.getfield 10, 3) := by decide +kernel
theorem dX5_overlap_50 : decode cX5_overlap 50 = .ok (.iload_n 1, 1) := by decide +kernel
theorem dX5_overlap_51 : decode cX5_overlap 51 = .ok (.iload_n 2, 1) := by decide +kernel
theorem dX5_overlap_52 : decode cX5_overlap 52 = .ok (.invokestatic 156, 3) := by decide +kernel
theorem dX5_overlap_55 : decode cX5_overlap 55 = .ok (.aload_n 0, 1) := by decide +kernel
theorem dX5_overlap_56 : decode cX5_overlap 56 = .ok (.getfield 10, 3) := by decide +kernel
theorem dX5_overlap_59 : decode cX5_overlap 59 = .ok (.getfield 97, 3) := by decide +kernel
theorem dX5_overlap_62 : decode cX5_overlap 62 = .ok (.invokevirtual 149, 3) := by decide +kernel
theorem dX5_overlap_65 : decode cX5_overlap 65 = .ok (.aload_n 0, 1) := by decide +kernel
theorem dX5_overlap_66 : decode cX5_overlap 66 = .ok (.getfield 50, 3) := by decide +kernel
theorem dX5_overlap_69 : decode cX5_overlap 69 = .ok (.iload_n 1, 1) := by decide +kernel
theorem dX5_overlap_70 : decode cX5_overlap 70 = .ok (.iload_n 2, 1) := by decide +kernel
theorem dX5_overlap_71 : decode cX5_overlap 71 = .ok (.aload_n 0, 1) := by decide +kernel
theorem dX5_overlap_72 : decode cX5_overlap 72 = .ok (.getfield 10, 3) := by decide +kernel
theorem dX5_overlap_75 : decode cX5_overlap 75 = .ok (.getfield 97, 3) := by decide +kernel
theorem dX5_overlap_78 : decode cX5_overlap 78 = .ok (.invokevirtual 161, 3) := by decide +kernel
theorem dX5_overlap_81 : decode cX5_overlap 81 = .ok (.i2l, 1) := by decide +kernel
theorem dX5_overlap_82 : decode cX5_overlap 82 = .ok (.lstore 5, 2) := by decide +kernel
theorem dX5_overlap_84 : decode cX5_overlap 84 = .ok (.aload_n 0, 1) := by decide +kernel
theorem dX5_overlap_85 : decode cX5_overlap 85 = .ok (.getfield 50, 3) := by decide +kernel
theorem dX5_overlap_88 : decode cX5_overlap 88 = .ok (.iload_n 1, 1) := by decide +kernel
theorem dX5_overlap_89 : decode cX5_overlap 89 = .ok (.aload_n 0, 1) := by decide +kernel
theorem dX5_overlap_90 : decode cX5_overlap 90 = .ok (.getfield 10, 3) := by decide +kernel
theorem dX5_overlap_93 : decode cX5_overlap 93 = .ok (.getfield 97, 3) := by decide +kernel
theorem dX5_overlap_96 : decode cX5_overlap 96 = .ok (.invokevirtual 165, 3) := by decide +kernel
theorem dX5_overlap_99 : decode cX5_overlap 99 = .ok (.i2l, 1) := by decide +kernel
theorem dX5_overlap_100 : decode cX5_overlap 100 = .ok (.aload_n 0, 1) := by decide +kernel
theorem dX5_overlap_101 : decode cX5_overlap 101 = .ok (.getfield 50, 3) := by decide +kernel
theorem dX5_overlap_104 : decode cX5_overlap 104 = .ok (.iload_n 2, 1) := by decide +kernel
theorem dX5_overlap_105 : decode cX5_overlap 105 = .ok (.aload_n 0, 1) := by decide +kernel
theorem dX5_overlap_106 : decode cX5_overlap 106 = .ok (.getfield 10, 3) := by decide +kernel
theorem dX5_overlap_109 : decode cX5_overlap 109 = .ok (.getfield 97, 3) := by decide +kernel
theorem dX5_overlap_112 : decode cX5_overlap 112 = .ok (.invokevirtual 165, 3) := by decide +kernel
theorem dX5_overlap_115 : decode cX5_overlap 115 = .ok (.i2l, 1) := by decide +kernel
theorem dX5_overlap_116 : decode cX5_overlap 116 = .ok (.lmul, 1) := by decide +kernel
theorem dX5_overlap_117 : decode cX5_overlap 117 = .ok (.lstore 7, 2) := by decide +kernel
theorem dX5_overlap_119 : decode cX5_overlap 119 = .ok (.lload 5, 2) := by decide +kernel
theorem dX5_overlap_121 : decode cX5_overlap 121 = .ok (.lload_n 3, 1) := by decide +kernel
theorem dX5_overlap_122 : decode cX5_overlap 122 = .ok (.lmul, 1) := by decide +kernel
theorem dX5_overlap_123 : decode cX5_overlap 123 = .ok (.lload 7, 2) := by decide +kernel
theorem dX5_overlap_125 : decode cX5_overlap 125 = .ok (.lsub, 1) := by decide +kernel
theorem dX5_overlap_126 : decode cX5_overlap 126 = .ok (.ldc2_w 168, 3) := by decide +kernel
theorem dX5_overlap_129 : decode cX5_overlap 129 = .ok (.lmul, 1) := by decide +kernel
theorem dX5_overlap_130 : decode cX5_overlap 130 = .ok (.lload_n 3, 1) := by decide +kernel
theorem dX5_overlap_131 : decode cX5_overlap 131 = .ok (.lload_n 3, 1) := by decide +kernel
theorem dX5_overlap_132 : decode cX5_overlap 132 = .ok (.lmul, 1) := by decide +kernel
theorem dX5_overlap_133 : decode cX5_overlap 133 = .ok (.ldiv, 1) := by decide +kernel
theorem dX5_overlap_134 : decode cX5_overlap 134 = .ok (.l2i, 1) := by decide +kernel
theorem dX5_overlap_135 : decode cX5_overlap 135 = .ok (.ireturn, 1) := by decide +kernel
theorem dX5_errorAt_0 : decode cX5_errorAt 0 = .ok (.aload_n 0, 1) := by decide +kernel
theorem dX5_errorAt_1 : decode cX5_errorAt 1 = .ok (.getfield 10, 3) := by decide +kernel
theorem dX5_errorAt_4 : decode cX5_errorAt 4 = .ok (.iload_n 1, 1) := by decide +kernel
theorem dX5_errorAt_5 : decode cX5_errorAt 5 = .ok (.invokevirtual 63, 3) := by decide +kernel
theorem dX5_errorAt_8 : decode cX5_errorAt 8 = .ok (.ifCond .ne 6, 3) := by decide +kernel
theorem dX5_errorAt_11 : decode cX5_errorAt 11 = .ok (.ldc 67, 2) := by decide +kernel
theorem dX5_errorAt_13 : decode cX5_errorAt 13 = .ok (.ireturn, 1) := by decide +kernel
theorem dX5_errorAt_14 : decode cX5_errorAt 14 = .ok (.iload_n 2, 1) := by decide +kernel
theorem dX5_errorAt_15 : decode cX5_errorAt 15 = .ok (.iconst 1, 1) := by decide +kernel
theorem dX5_errorAt_16 : decode cX5_errorAt 16 = .ok (.sipush 1000, 3) := by decide +kernel
theorem dX5_errorAt_19 : decode cX5_errorAt 19 = .ok (.invokestatic 68, 3) := by decide +kernel
theorem dX5_errorAt_22 : decode cX5_errorAt 22 = .ok (.ifCond .ne 6, 3) := by decide +kernel
theorem dX5_errorAt_25 : decode cX5_errorAt 25 = .ok (.ldc 58, 2) := by decide +kernel
theorem dX5_errorAt_27 : decode cX5_errorAt 27 = .ok (.ireturn, 1) := by decide +kernel
theorem dX5_errorAt_28 : decode cX5_errorAt 28 = .ok (.aload_n 0, 1) := by decide +kernel
theorem dX5_errorAt_29 : decode cX5_errorAt 29 = .ok (.iload_n 1, 1) := by decide +kernel
theorem dX5_errorAt_30 : decode cX5_errorAt 30 = .ok (.iload_n 2, 1) := by decide +kernel
theorem dX5_errorAt_31 : decode cX5_errorAt 31 = .ok (.invokevirtual 140, 3) := by decide +kernel
theorem dX5_errorAt_34 : decode cX5_errorAt 34 = .ok (.ireturn, 1) := by decide +kernel
theorem dX5_settles_0 : decode cX5_settles 0 = .ok (.aload_n 0, 1) := by decide +kernel
theorem dX5_settles_1 : decode cX5_settles 1 = .ok (.getfield 10, 3) := by decide +kernel
theorem dX5_settles_4 : decode cX5_settles 4 = .ok (.iload_n 1, 1) := by decide +kernel
theorem dX5_settles_5 : decode cX5_settles 5 = .ok (.invokevirtual 63, 3) := by decide +kernel
theorem dX5_settles_8 : decode cX5_settles 8 = .ok (.ifCond .ne 6, 3) := by decide +kernel
theorem dX5_settles_11 : decode cX5_settles 11 = .ok (.ldc 67, 2) := by decide +kernel
theorem dX5_settles_13 : decode cX5_settles 13 = .ok (.ireturn, 1) := by decide +kernel
theorem dX5_settles_14 : decode cX5_settles 14 = .ok (.iload_n 2, 1) := by decide +kernel
theorem dX5_settles_15 : decode cX5_settles 15 = .ok (.iconst 0, 1) := by decide +kernel
theorem dX5_settles_16 : decode cX5_settles 16 = .ok (.ldc 170, 2) := by decide +kernel
theorem dX5_settles_18 : decode cX5_settles 18 = .ok (.invokestatic 68, 3) := by decide +kernel
theorem dX5_settles_21 : decode cX5_settles 21 = .ok (.ifCond .ne 6, 3) := by decide +kernel
theorem dX5_settles_24 : decode cX5_settles 24 = .ok (.ldc 58, 2) := by decide +kernel
theorem dX5_settles_26 : decode cX5_settles 26 = .ok (.ireturn, 1) := by decide +kernel
theorem dX5_settles_27 : decode cX5_settles 27 = .ok (.aload_n 0, 1) := by decide +kernel
theorem dX5_settles_28 : decode cX5_settles 28 = .ok (.iload_n 1, 1) := by decide +kernel
theorem dX5_settles_29 : decode cX5_settles 29 = .ok (.iload_n 2, 1) := by decide +kernel
theorem dX5_settles_30 : decode cX5_settles 30 = .ok (.invokevirtual 171, 3) := by decide +kernel
theorem dX5_settles_33 : decode cX5_settles 33 = .ok (.istore_n 3, 1) := by decide +kernel
theorem dX5_settles_34 : decode cX5_settles 34 = .ok (.iload_n 3, 1) := by decide +kernel
theorem dX5_settles_35 : decode cX5_settles 35 = .ok (.sipush 1000, 3) := by decide +kernel
theorem dX5_settles_38 : decode cX5_settles 38 = .ok (.if_icmp .ne 8, 3) := by decide +kernel
theorem dX5_settles_41 : decode cX5_settles 41 = .ok (.ldc 81, 2) := by decide +kernel
theorem dX5_settles_43 : decode cX5_settles 43 = .ok (.goto 6, 3) := by decide +kernel
theorem dX5_settles_46 : decode cX5_settles 46 = .ok (.iload_n 3, 1) := by decide +kernel
theorem dX5_settles_47 : decode cX5_settles 47 = .ok (.iconst 1, 1) := by decide +kernel
theorem dX5_settles_48 : decode cX5_settles 48 = .ok (.iadd, 1) := by decide +kernel
theorem dX5_settles_49 : decode cX5_settles 49 = .ok (.ireturn, 1) := by decide +kernel
theorem dX5_bestSeed_0 : decode cX5_bestSeed 0 = .ok (.aload_n 0, 1) := by decide +kernel
theorem dX5_bestSeed_1 : decode cX5_bestSeed 1 = .ok (.getfield 10, 3) := by decide +kernel
theorem dX5_bestSeed_4 : decode cX5_bestSeed 4 = .ok (.iload_n 1, 1) := by decide +kernel
theorem dX5_bestSeed_5 : decode cX5_bestSeed 5 = .ok (.invokevirtual 63, 3) := by decide +kernel
theorem dX5_bestSeed_8 : decode cX5_bestSeed 8 = .ok (.ifCond .eq 14, 3) := by decide +kernel
theorem dX5_bestSeed_11 : decode cX5_bestSeed 11 = .ok (.aload_n 0, 1) := by decide +kernel
theorem dX5_bestSeed_12 : decode cX5_bestSeed 12 = .ok (.getfield 10, 3) := by decide +kernel
theorem dX5_bestSeed_15 : decode cX5_bestSeed 15 = .ok (.iload_n 2, 1) := by decide +kernel
theorem dX5_bestSeed_16 : decode cX5_bestSeed 16 = .ok (.invokevirtual 63, 3) := by decide +kernel
theorem dX5_bestSeed_19 : decode cX5_bestSeed 19 = .ok (.ifCond .ne 6, 3) := by decide +kernel
theorem dX5_bestSeed_22 : decode cX5_bestSeed 22 = .ok (.ldc 67, 2) := by decide +kernel
theorem dX5_bestSeed_24 : decode cX5_bestSeed 24 = .ok (.ireturn, 1) := by decide +kernel
theorem dX5_bestSeed_25 : decode cX5_bestSeed 25 = .ok (.iload_n 3, 1) := by decide +kernel
theorem dX5_bestSeed_26 : decode cX5_bestSeed 26 = .ok (.iconst 0, 1) := by decide +kernel
theorem dX5_bestSeed_27 : decode cX5_bestSeed 27 = .ok (.iconst 1, 1) := by decide +kernel
theorem dX5_bestSeed_28 : decode cX5_bestSeed 28 = .ok (.invokestatic 68, 3) := by decide +kernel
theorem dX5_bestSeed_31 : decode cX5_bestSeed 31 = .ok (.ifCond .ne 6, 3) := by decide +kernel
theorem dX5_bestSeed_34 : decode cX5_bestSeed 34 = .ok (.ldc 58, 2) := by decide +kernel
theorem dX5_bestSeed_36 : decode cX5_bestSeed 36 = .ok (.ireturn, 1) := by decide +kernel
theorem dX5_bestSeed_37 : decode cX5_bestSeed 37 = .ok (.aload_n 0, 1) := by decide +kernel
theorem dX5_bestSeed_38 : decode cX5_bestSeed 38 = .ok (.getfield 10, 3) := by decide +kernel
theorem dX5_bestSeed_41 : decode cX5_bestSeed 41 = .ok (.iload_n 1, 1) := by decide +kernel
theorem dX5_bestSeed_42 : decode cX5_bestSeed 42 = .ok (.invokevirtual 72, 3) := by decide +kernel
theorem dX5_bestSeed_45 : decode cX5_bestSeed 45 = .ok (.ifCond .eq 6, 3) := by decide +kernel
theorem dX5_bestSeed_48 : decode cX5_bestSeed 48 = .ok (.ldc 76, 2) := by decide +kernel
theorem dX5_bestSeed_50 : decode cX5_bestSeed 50 = .ok (.ireturn, 1) := by decide +kernel
theorem dX5_bestSeed_51 : decode cX5_bestSeed 51 = .ok (.aload_n 0, 1) := by decide +kernel
theorem dX5_bestSeed_52 : decode cX5_bestSeed 52 = .ok (.getfield 43, 3) := by decide +kernel
theorem dX5_bestSeed_55 : decode cX5_bestSeed 55 = .ok (.aload_n 0, 1) := by decide +kernel
theorem dX5_bestSeed_56 : decode cX5_bestSeed 56 = .ok (.getfield 10, 3) := by decide +kernel
theorem dX5_bestSeed_59 : decode cX5_bestSeed 59 = .ok (.invokevirtual 134, 3) := by decide +kernel
theorem dX5_bestSeed_62 : decode cX5_bestSeed 62 = .ok (.aload_n 0, 1) := by decide +kernel
theorem dX5_bestSeed_63 : decode cX5_bestSeed 63 = .ok (.getfield 50, 3) := by decide +kernel
theorem dX5_bestSeed_66 : decode cX5_bestSeed 66 = .ok (.aload_n 0, 1) := by decide +kernel
theorem dX5_bestSeed_67 : decode cX5_bestSeed 67 = .ok (.getfield 10, 3) := by decide +kernel
theorem dX5_bestSeed_70 : decode cX5_bestSeed 70 = .ok (.iload_n 2, 1) := by decide +kernel
theorem dX5_bestSeed_71 : decode cX5_bestSeed 71 = .ok (.aload_n 0, 1) := by decide +kernel
theorem dX5_bestSeed_72 : decode cX5_bestSeed 72 = .ok (.getfield 10, 3) := by decide +kernel
theorem dX5_bestSeed_75 : decode cX5_bestSeed 75 = .ok (.getfield 97, 3) := by decide +kernel
theorem dX5_bestSeed_78 : decode cX5_bestSeed 78 = .ok (.invokevirtual 149, 3) := by decide +kernel
theorem dX5_bestSeed_81 : decode cX5_bestSeed 81 = .ok (.aload_n 0, 1) := by decide +kernel
theorem dX5_bestSeed_82 : decode cX5_bestSeed 82 = .ok (.getfield 23, 3) := by decide +kernel
theorem dX5_bestSeed_85 : decode cX5_bestSeed 85 = .ok (.aload_n 0, 1) := by decide +kernel
theorem dX5_bestSeed_86 : decode cX5_bestSeed 86 = .ok (.getfield 10, 3) := by decide +kernel
theorem dX5_bestSeed_89 : decode cX5_bestSeed 89 = .ok (.invokevirtual 122, 3) := by decide +kernel
theorem dX5_bestSeed_92 : decode cX5_bestSeed 92 = .ok (.iconst 1, 1) := by decide +kernel
theorem dX5_bestSeed_93 : decode cX5_bestSeed 93 = .ok (.istore 4, 2) := by decide +kernel
theorem dX5_bestSeed_95 : decode cX5_bestSeed 95 = .ok (.aload_n 0, 1) := by decide +kernel
theorem dX5_bestSeed_96 : decode cX5_bestSeed 96 = .ok (.iload_n 1, 1) := by decide +kernel
theorem dX5_bestSeed_97 : decode cX5_bestSeed 97 = .ok (.iload_n 2, 1) := by decide +kernel
theorem dX5_bestSeed_98 : decode cX5_bestSeed 98 = .ok (.iload 4, 2) := by decide +kernel
theorem dX5_bestSeed_100 : decode cX5_bestSeed 100 = .ok (.invokevirtual 174, 3) := by decide +kernel
theorem dX5_bestSeed_103 : decode cX5_bestSeed 103 = .ok (.istore 5, 2) := by decide +kernel
theorem dX5_bestSeed_105 : decode cX5_bestSeed 105 = .ok (.iconst 2, 1) := by decide +kernel
theorem dX5_bestSeed_106 : decode cX5_bestSeed 106 = .ok (.istore 6, 2) := by decide +kernel
theorem dX5_bestSeed_108 : decode cX5_bestSeed 108 = .ok (.iload 6, 2) := by decide +kernel
theorem dX5_bestSeed_110 : decode cX5_bestSeed 110 = .ok (.sipush 255, 3) := by decide +kernel
theorem dX5_bestSeed_113 : decode cX5_bestSeed 113 = .ok (.if_icmp .gt 34, 3) := by decide +kernel
theorem dX5_bestSeed_116 : decode cX5_bestSeed 116 = .ok (.aload_n 0, 1) := by decide +kernel
theorem dX5_bestSeed_117 : decode cX5_bestSeed 117 = .ok (.iload_n 1, 1) := by decide +kernel
theorem dX5_bestSeed_118 : decode cX5_bestSeed 118 = .ok (.iload_n 2, 1) := by decide +kernel
theorem dX5_bestSeed_119 : decode cX5_bestSeed 119 = .ok (.iload 6, 2) := by decide +kernel
theorem dX5_bestSeed_121 : decode cX5_bestSeed 121 = .ok (.invokevirtual 174, 3) := by decide +kernel
theorem dX5_bestSeed_124 : decode cX5_bestSeed 124 = .ok (.istore 7, 2) := by decide +kernel
theorem dX5_bestSeed_126 : decode cX5_bestSeed 126 = .ok (.iload 7, 2) := by decide +kernel
theorem dX5_bestSeed_128 : decode cX5_bestSeed 128 = .ok (.iload 5, 2) := by decide +kernel
theorem dX5_bestSeed_130 : decode cX5_bestSeed 130 = .ok (.if_icmp .ge 11, 3) := by decide +kernel
theorem dX5_bestSeed_133 : decode cX5_bestSeed 133 = .ok (.iload 6, 2) := by decide +kernel
theorem dX5_bestSeed_135 : decode cX5_bestSeed 135 = .ok (.istore 4, 2) := by decide +kernel
theorem dX5_bestSeed_137 : decode cX5_bestSeed 137 = .ok (.iload 7, 2) := by decide +kernel
theorem dX5_bestSeed_139 : decode cX5_bestSeed 139 = .ok (.istore 5, 2) := by decide +kernel
theorem dX5_bestSeed_141 : decode cX5_bestSeed 141 = .ok (.iinc 6 1, 3) := by decide +kernel
theorem dX5_bestSeed_144 : decode cX5_bestSeed 144 = .ok (.goto (-36), 3) := by decide +kernel
theorem dX5_bestSeed_147 : decode cX5_bestSeed 147 = .ok (.iload_n 3, 1) := by decide +kernel
theorem dX5_bestSeed_148 : decode cX5_bestSeed 148 = .ok (.ifCond .ne 8, 3) := by decide +kernel
theorem dX5_bestSeed_151 : decode cX5_bestSeed 151 = .ok (.iload 4, 2) := by decide +kernel
theorem dX5_bestSeed_153 : decode cX5_bestSeed 153 = .ok (.goto 5, 3) := by decide +kernel
theorem dX5_bestSeed_156 : decode cX5_bestSeed 156 = .ok (.iload 5, 2) := by decide +kernel
theorem dX5_bestSeed_158 : decode cX5_bestSeed 158 = .ok (.ireturn, 1) := by decide +kernel
theorem dX5_unlike_0 : decode cX5_unlike 0 = .ok (.aload_n 0, 1) := by decide +kernel
theorem dX5_unlike_1 : decode cX5_unlike 1 = .ok (.getfield 10, 3) := by decide +kernel
theorem dX5_unlike_4 : decode cX5_unlike 4 = .ok (.iload_n 1, 1) := by decide +kernel
theorem dX5_unlike_5 : decode cX5_unlike 5 = .ok (.invokevirtual 63, 3) := by decide +kernel
theorem dX5_unlike_8 : decode cX5_unlike 8 = .ok (.ifCond .ne 6, 3) := by decide +kernel
theorem dX5_unlike_11 : decode cX5_unlike 11 = .ok (.ldc 67, 2) := by decide +kernel
theorem dX5_unlike_13 : decode cX5_unlike 13 = .ok (.ireturn, 1) := by decide +kernel
theorem dX5_unlike_14 : decode cX5_unlike 14 = .ok (.aload_n 0, 1) := by decide +kernel
theorem dX5_unlike_15 : decode cX5_unlike 15 = .ok (.getfield 50, 3) := by decide +kernel
theorem dX5_unlike_18 : decode cX5_unlike 18 = .ok (.aload_n 0, 1) := by decide +kernel
theorem dX5_unlike_19 : decode cX5_unlike 19 = .ok (.getfield 10, 3) := by decide +kernel
theorem dX5_unlike_22 : decode cX5_unlike 22 = .ok (.iload_n 1, 1) := by decide +kernel
theorem dX5_unlike_23 : decode cX5_unlike 23 = .ok (.sipush 510, 3) := by decide +kernel
theorem dX5_unlike_26 : decode cX5_unlike 26 = .ok (.invokevirtual 149, 3) := by decide +kernel
theorem dX5_unlike_29 : decode cX5_unlike 29 = .ok (.iconst 0, 1) := by decide +kernel
theorem dX5_unlike_30 : decode cX5_unlike 30 = .ok (.istore_n 2, 1) := by decide +kernel
theorem dX5_unlike_31 : decode cX5_unlike 31 = .ok (.bipush 60, 2) := by decide +kernel
theorem dX5_unlike_33 : decode cX5_unlike 33 = .ok (.istore_n 3, 1) := by decide +kernel
theorem dX5_unlike_34 : decode cX5_unlike 34 = .ok (.iload_n 3, 1) := by decide +kernel
theorem dX5_unlike_35 : decode cX5_unlike 35 = .ok (.sipush 255, 3) := by decide +kernel
theorem dX5_unlike_38 : decode cX5_unlike 38 = .ok (.if_icmp .ge 37, 3) := by decide +kernel
theorem dX5_unlike_41 : decode cX5_unlike 41 = .ok (.aload_n 0, 1) := by decide +kernel
theorem dX5_unlike_42 : decode cX5_unlike 42 = .ok (.getfield 50, 3) := by decide +kernel
theorem dX5_unlike_45 : decode cX5_unlike 45 = .ok (.iload_n 1, 1) := by decide +kernel
theorem dX5_unlike_46 : decode cX5_unlike 46 = .ok (.iload_n 3, 1) := by decide +kernel
theorem dX5_unlike_47 : decode cX5_unlike 47 = .ok (.invokevirtual 153, 3) := by decide +kernel
theorem dX5_unlike_50 : decode cX5_unlike 50 = .ok (.aload_n 0, 1) := by decide +kernel
theorem dX5_unlike_51 : decode cX5_unlike 51 = .ok (.getfield 50, 3) := by decide +kernel
theorem dX5_unlike_54 : decode cX5_unlike 54 = .ok (.iload_n 1, 1) := by decide +kernel
theorem dX5_unlike_55 : decode cX5_unlike 55 = .ok (.iload_n 3, 1) := by decide +kernel
theorem dX5_unlike_56 : decode cX5_unlike 56 = .ok (.sipush 255, 3) := by decide +kernel
theorem dX5_unlike_59 : decode cX5_unlike 59 = .ok (.iadd, 1) := by decide +kernel
theorem dX5_unlike_60 : decode cX5_unlike 60 = .ok (.invokevirtual 153, 3) := by decide +kernel
theorem dX5_unlike_63 : decode cX5_unlike 63 = .ok (.if_icmp .eq 6, 3) := by decide +kernel
theorem dX5_unlike_66 : decode cX5_unlike 66 = .ok (.iinc 2 1, 3) := by decide +kernel
theorem dX5_unlike_69 : decode cX5_unlike 69 = .ok (.iinc 3 1, 3) := by decide +kernel
theorem dX5_unlike_72 : decode cX5_unlike 72 = .ok (.goto (-38), 3) := by decide +kernel
theorem dX5_unlike_75 : decode cX5_unlike 75 = .ok (.iload_n 2, 1) := by decide +kernel
theorem dX5_unlike_76 : decode cX5_unlike 76 = .ok (.ireturn, 1) := by decide +kernel
theorem dX5_count_0 : decode cX5_count 0 = .ok (.iload_n 1, 1) := by decide +kernel
theorem dX5_count_1 : decode cX5_count 1 = .ok (.tableswitch 123 0 7 #[47, 55, 63, 71, 76, 81, 107, 115], 47) := by decide +kernel
theorem dX5_count_48 : decode cX5_count 48 = .ok (.aload_n 0, 1) := by decide +kernel
theorem dX5_count_49 : decode cX5_count 49 = .ok (.getfield 10, 3) := by decide +kernel
theorem dX5_count_52 : decode cX5_count 52 = .ok (.getfield 90, 3) := by decide +kernel
theorem dX5_count_55 : decode cX5_count 55 = .ok (.ireturn, 1) := by decide +kernel
theorem dX5_count_56 : decode cX5_count 56 = .ok (.aload_n 0, 1) := by decide +kernel
theorem dX5_count_57 : decode cX5_count 57 = .ok (.getfield 10, 3) := by decide +kernel
theorem dX5_count_60 : decode cX5_count 60 = .ok (.getfield 97, 3) := by decide +kernel
theorem dX5_count_63 : decode cX5_count 63 = .ok (.ireturn, 1) := by decide +kernel
theorem dX5_count_64 : decode cX5_count 64 = .ok (.aload_n 0, 1) := by decide +kernel
theorem dX5_count_65 : decode cX5_count 65 = .ok (.getfield 10, 3) := by decide +kernel
theorem dX5_count_68 : decode cX5_count 68 = .ok (.invokevirtual 177, 3) := by decide +kernel
theorem dX5_count_71 : decode cX5_count 71 = .ok (.ireturn, 1) := by decide +kernel
theorem dX5_count_72 : decode cX5_count 72 = .ok (.aload_n 0, 1) := by decide +kernel
theorem dX5_count_73 : decode cX5_count 73 = .ok (.invokevirtual 181, 3) := by decide +kernel
theorem dX5_count_76 : decode cX5_count 76 = .ok (.ireturn, 1) := by decide +kernel
theorem dX5_count_77 : decode cX5_count 77 = .ok (.aload_n 0, 1) := by decide +kernel
theorem dX5_count_78 : decode cX5_count 78 = .ok (.invokevirtual 184, 3) := by decide +kernel
theorem dX5_count_81 : decode cX5_count 81 = .ok (.ireturn, 1) := by decide +kernel
theorem dX5_count_82 : decode cX5_count 82 = .ok (.aload_n 0, 1) := by decide +kernel
theorem dX5_count_83 : decode cX5_count 83 = .ok (.getfield 43, 3) := by decide +kernel
theorem dX5_count_86 : decode cX5_count 86 = .ok (.aload_n 0, 1) := by decide +kernel
theorem dX5_count_87 : decode cX5_count 87 = .ok (.getfield 10, 3) := by decide +kernel
theorem dX5_count_90 : decode cX5_count 90 = .ok (.invokevirtual 134, 3) := by decide +kernel
theorem dX5_count_93 : decode cX5_count 93 = .ok (.aload_n 0, 1) := by decide +kernel
theorem dX5_count_94 : decode cX5_count 94 = .ok (.getfield 43, 3) := by decide +kernel
theorem dX5_count_97 : decode cX5_count 97 = .ok (.aload_n 0, 1) := by decide +kernel
theorem dX5_count_98 : decode cX5_count 98 = .ok (.getfield 10, 3) := by decide +kernel
theorem dX5_count_101 : decode cX5_count 101 = .ok (.getfield 90, 3) := by decide +kernel
theorem dX5_count_104 : decode cX5_count 104 = .ok (.invokevirtual 187, 3) := by decide +kernel
theorem dX5_count_107 : decode cX5_count 107 = .ok (.ireturn, 1) := by decide +kernel
theorem dX5_count_108 : decode cX5_count 108 = .ok (.aload_n 0, 1) := by decide +kernel
theorem dX5_count_109 : decode cX5_count 109 = .ok (.getfield 29, 3) := by decide +kernel
theorem dX5_count_112 : decode cX5_count 112 = .ok (.getfield 118, 3) := by decide +kernel
theorem dX5_count_115 : decode cX5_count 115 = .ok (.ireturn, 1) := by decide +kernel
theorem dX5_count_116 : decode cX5_count 116 = .ok (.aload_n 0, 1) := by decide +kernel
theorem dX5_count_117 : decode cX5_count 117 = .ok (.getfield 36, 3) := by decide +kernel
theorem dX5_count_120 : decode cX5_count 120 = .ok (.getfield 113, 3) := by decide +kernel
theorem dX5_count_123 : decode cX5_count 123 = .ok (.ireturn, 1) := by decide +kernel
theorem dX5_count_124 : decode cX5_count 124 = .ok (.ldc 58, 2) := by decide +kernel
theorem dX5_count_126 : decode cX5_count 126 = .ok (.ireturn, 1) := by decide +kernel
theorem dX5_addLine_0 : decode cX5_addLine 0 = .ok (.aload_n 0, 1) := by decide +kernel
theorem dX5_addLine_1 : decode cX5_addLine 1 = .ok (.getfield 10, 3) := by decide +kernel
theorem dX5_addLine_4 : decode cX5_addLine 4 = .ok (.getfield 90, 3) := by decide +kernel
theorem dX5_addLine_7 : decode cX5_addLine 7 = .ok (.bipush 16, 2) := by decide +kernel
theorem dX5_addLine_9 : decode cX5_addLine 9 = .ok (.if_icmp .lt 6, 3) := by decide +kernel
theorem dX5_addLine_12 : decode cX5_addLine 12 = .ok (.ldc 109, 2) := by decide +kernel
theorem dX5_addLine_14 : decode cX5_addLine 14 = .ok (.ireturn, 1) := by decide +kernel
theorem dX5_addLine_15 : decode cX5_addLine 15 = .ok (.aload_n 0, 1) := by decide +kernel
theorem dX5_addLine_16 : decode cX5_addLine 16 = .ok (.getfield 29, 3) := by decide +kernel
theorem dX5_addLine_19 : decode cX5_addLine 19 = .ok (.aload_n 0, 1) := by decide +kernel
theorem dX5_addLine_20 : decode cX5_addLine 20 = .ok (.getfield 10, 3) := by decide +kernel
theorem dX5_addLine_23 : decode cX5_addLine 23 = .ok (.invokevirtual 82, 3) := by decide +kernel
theorem dX5_addLine_26 : decode cX5_addLine 26 = .ok (.aload_n 0, 1) := by decide +kernel
theorem dX5_addLine_27 : decode cX5_addLine 27 = .ok (.getfield 10, 3) := by decide +kernel
theorem dX5_addLine_30 : decode cX5_addLine 30 = .ok (.iload_n 1, 1) := by decide +kernel
theorem dX5_addLine_31 : decode cX5_addLine 31 = .ok (.iload_n 2, 1) := by decide +kernel
theorem dX5_addLine_32 : decode cX5_addLine 32 = .ok (.iload_n 3, 1) := by decide +kernel
theorem dX5_addLine_33 : decode cX5_addLine 33 = .ok (.iload 4, 2) := by decide +kernel
theorem dX5_addLine_35 : decode cX5_addLine 35 = .ok (.invokevirtual 190, 3) := by decide +kernel
theorem dX5_addLine_38 : decode cX5_addLine 38 = .ok (.aload_n 0, 1) := by decide +kernel
theorem dX5_addLine_39 : decode cX5_addLine 39 = .ok (.getfield 10, 3) := by decide +kernel
theorem dX5_addLine_42 : decode cX5_addLine 42 = .ok (.getfield 90, 3) := by decide +kernel
theorem dX5_addLine_45 : decode cX5_addLine 45 = .ok (.iconst 1, 1) := by decide +kernel
theorem dX5_addLine_46 : decode cX5_addLine 46 = .ok (.isub, 1) := by decide +kernel
theorem dX5_addLine_47 : decode cX5_addLine 47 = .ok (.ireturn, 1) := by decide +kernel
theorem dX5_onesOver_0 : decode cX5_onesOver 0 = .ok (.aload_n 0, 1) := by decide +kernel
theorem dX5_onesOver_1 : decode cX5_onesOver 1 = .ok (.getfield 50, 3) := by decide +kernel
theorem dX5_onesOver_4 : decode cX5_onesOver 4 = .ok (.aload_n 0, 1) := by decide +kernel
theorem dX5_onesOver_5 : decode cX5_onesOver 5 = .ok (.getfield 10, 3) := by decide +kernel
theorem dX5_onesOver_8 : decode cX5_onesOver 8 = .ok (.iload_n 1, 1) := by decide +kernel
theorem dX5_onesOver_9 : decode cX5_onesOver 9 = .ok (.iload_n 2, 1) := by decide +kernel
theorem dX5_onesOver_10 : decode cX5_onesOver 10 = .ok (.invokevirtual 149, 3) := by decide +kernel
theorem dX5_onesOver_13 : decode cX5_onesOver 13 = .ok (.aload_n 0, 1) := by decide +kernel
theorem dX5_onesOver_14 : decode cX5_onesOver 14 = .ok (.getfield 50, 3) := by decide +kernel
theorem dX5_onesOver_17 : decode cX5_onesOver 17 = .ok (.iload_n 1, 1) := by decide +kernel
theorem dX5_onesOver_18 : decode cX5_onesOver 18 = .ok (.iload_n 2, 1) := by decide +kernel
theorem dX5_onesOver_19 : decode cX5_onesOver 19 = .ok (.invokevirtual 165, 3) := by decide +kernel
theorem dX5_onesOver_22 : decode cX5_onesOver 22 = .ok (.ireturn, 1) := by decide +kernel
theorem dX5_errorOver_0 : decode cX5_errorOver 0 = .ok (.aload_n 0, 1) := by decide +kernel
theorem dX5_errorOver_1 : decode cX5_errorOver 1 = .ok (.getfield 43, 3) := by decide +kernel
theorem dX5_errorOver_4 : decode cX5_errorOver 4 = .ok (.aload_n 0, 1) := by decide +kernel
theorem dX5_errorOver_5 : decode cX5_errorOver 5 = .ok (.getfield 10, 3) := by decide +kernel
theorem dX5_errorOver_8 : decode cX5_errorOver 8 = .ok (.invokevirtual 134, 3) := by decide +kernel
theorem dX5_errorOver_11 : decode cX5_errorOver 11 = .ok (.aload_n 0, 1) := by decide +kernel
theorem dX5_errorOver_12 : decode cX5_errorOver 12 = .ok (.getfield 50, 3) := by decide +kernel
theorem dX5_errorOver_15 : decode cX5_errorOver 15 = .ok (.aload_n 0, 1) := by decide +kernel
theorem dX5_errorOver_16 : decode cX5_errorOver 16 = .ok (.getfield 10, 3) := by decide +kernel
theorem dX5_errorOver_19 : decode cX5_errorOver 19 = .ok (.iload_n 1, 1) := by decide +kernel
theorem dX5_errorOver_20 : decode cX5_errorOver 20 = .ok (.iload_n 2, 1) := by decide +kernel
theorem dX5_errorOver_21 : decode cX5_errorOver 21 = .ok (.invokevirtual 149, 3) := by decide +kernel
theorem dX5_errorOver_24 : decode cX5_errorOver 24 = .ok (.aload_n 0, 1) := by decide +kernel
theorem dX5_errorOver_25 : decode cX5_errorOver 25 = .ok (.iload_n 1, 1) := by decide +kernel
theorem dX5_errorOver_26 : decode cX5_errorOver 26 = .ok (.iload_n 2, 1) := by decide +kernel
theorem dX5_errorOver_27 : decode cX5_errorOver 27 = .ok (.invokevirtual 194, 3) := by decide +kernel
theorem dX5_errorOver_30 : decode cX5_errorOver 30 = .ok (.ireturn, 1) := by decide +kernel
theorem dX5_errorOfFilled_0 : decode cX5_errorOfFilled 0 = .ok (.aload_n 0, 1) := by decide +kernel
theorem dX5_errorOfFilled_1 : decode cX5_errorOfFilled 1 = .ok (.iload_n 1, 1) := by decide +kernel
theorem dX5_errorOfFilled_2 : decode cX5_errorOfFilled 2 = .ok (.aload_n 0, 1) := by decide +kernel
theorem dX5_errorOfFilled_3 : decode cX5_errorOfFilled 3 = .ok (.getfield 50, 3) := by decide +kernel
theorem dX5_errorOfFilled_6 : decode cX5_errorOfFilled 6 = .ok (.iload_n 1, 1) := by decide +kernel
theorem dX5_errorOfFilled_7 : decode cX5_errorOfFilled 7 = .ok (.iload_n 2, 1) := by decide +kernel
theorem dX5_errorOfFilled_8 : decode cX5_errorOfFilled 8 = .ok (.invokevirtual 165, 3) := by decide +kernel
theorem dX5_errorOfFilled_11 : decode cX5_errorOfFilled 11 = .ok (.iload_n 2, 1) := by decide +kernel
theorem dX5_errorOfFilled_12 : decode cX5_errorOfFilled 12 = .ok (.invokevirtual 197, 3) := by decide +kernel
theorem dX5_errorOfFilled_15 : decode cX5_errorOfFilled 15 = .ok (.ireturn, 1) := by decide +kernel
theorem dX5_errorOfCount_0 : decode cX5_errorOfCount 0 = .ok (.iload_n 2, 1) := by decide +kernel
theorem dX5_errorOfCount_1 : decode cX5_errorOfCount 1 = .ok (.iload_n 3, 1) := by decide +kernel
theorem dX5_errorOfCount_2 : decode cX5_errorOfCount 2 = .ok (.invokestatic 131, 3) := by decide +kernel
theorem dX5_errorOfCount_5 : decode cX5_errorOfCount 5 = .ok (.aload_n 0, 1) := by decide +kernel
theorem dX5_errorOfCount_6 : decode cX5_errorOfCount 6 = .ok (.getfield 43, 3) := by decide +kernel
theorem dX5_errorOfCount_9 : decode cX5_errorOfCount 9 = .ok (.iload_n 1, 1) := by decide +kernel
theorem dX5_errorOfCount_10 : decode cX5_errorOfCount 10 = .ok (.invokevirtual 137, 3) := by decide +kernel
theorem dX5_errorOfCount_13 : decode cX5_errorOfCount 13 = .ok (.isub, 1) := by decide +kernel
theorem dX5_errorOfCount_14 : decode cX5_errorOfCount 14 = .ok (.invokestatic 200, 3) := by decide +kernel
theorem dX5_errorOfCount_17 : decode cX5_errorOfCount 17 = .ok (.ireturn, 1) := by decide +kernel
theorem dX5_lastLengthBeyond_0 : decode cX5_lastLengthBeyond 0 = .ok (.aload_n 0, 1) := by decide +kernel
theorem dX5_lastLengthBeyond_1 : decode cX5_lastLengthBeyond 1 = .ok (.getfield 43, 3) := by decide +kernel
theorem dX5_lastLengthBeyond_4 : decode cX5_lastLengthBeyond 4 = .ok (.aload_n 0, 1) := by decide +kernel
theorem dX5_lastLengthBeyond_5 : decode cX5_lastLengthBeyond 5 = .ok (.getfield 10, 3) := by decide +kernel
theorem dX5_lastLengthBeyond_8 : decode cX5_lastLengthBeyond 8 = .ok (.invokevirtual 134, 3) := by decide +kernel
theorem dX5_lastLengthBeyond_11 : decode cX5_lastLengthBeyond 11 = .ok (.aload_n 0, 1) := by decide +kernel
theorem dX5_lastLengthBeyond_12 : decode cX5_lastLengthBeyond 12 = .ok (.getfield 50, 3) := by decide +kernel
theorem dX5_lastLengthBeyond_15 : decode cX5_lastLengthBeyond 15 = .ok (.aload_n 0, 1) := by decide +kernel
theorem dX5_lastLengthBeyond_16 : decode cX5_lastLengthBeyond 16 = .ok (.getfield 10, 3) := by decide +kernel
theorem dX5_lastLengthBeyond_19 : decode cX5_lastLengthBeyond 19 = .ok (.iload_n 1, 1) := by decide +kernel
theorem dX5_lastLengthBeyond_20 : decode cX5_lastLengthBeyond 20 = .ok (.sipush 1000, 3) := by decide +kernel
theorem dX5_lastLengthBeyond_23 : decode cX5_lastLengthBeyond 23 = .ok (.invokevirtual 149, 3) := by decide +kernel
theorem dX5_lastLengthBeyond_26 : decode cX5_lastLengthBeyond 26 = .ok (.iconst 0, 1) := by decide +kernel
theorem dX5_lastLengthBeyond_27 : decode cX5_lastLengthBeyond 27 = .ok (.istore_n 3, 1) := by decide +kernel
theorem dX5_lastLengthBeyond_28 : decode cX5_lastLengthBeyond 28 = .ok (.iconst 0, 1) := by decide +kernel
theorem dX5_lastLengthBeyond_29 : decode cX5_lastLengthBeyond 29 = .ok (.istore 4, 2) := by decide +kernel
theorem dX5_lastLengthBeyond_31 : decode cX5_lastLengthBeyond 31 = .ok (.iconst 1, 1) := by decide +kernel
theorem dX5_lastLengthBeyond_32 : decode cX5_lastLengthBeyond 32 = .ok (.istore 5, 2) := by decide +kernel
theorem dX5_lastLengthBeyond_34 : decode cX5_lastLengthBeyond 34 = .ok (.iload 5, 2) := by decide +kernel
theorem dX5_lastLengthBeyond_36 : decode cX5_lastLengthBeyond 36 = .ok (.sipush 1000, 3) := by decide +kernel
theorem dX5_lastLengthBeyond_39 : decode cX5_lastLengthBeyond 39 = .ok (.if_icmp .gt 42, 3) := by decide +kernel
theorem dX5_lastLengthBeyond_42 : decode cX5_lastLengthBeyond 42 = .ok (.iload 4, 2) := by decide +kernel
theorem dX5_lastLengthBeyond_44 : decode cX5_lastLengthBeyond 44 = .ok (.aload_n 0, 1) := by decide +kernel
theorem dX5_lastLengthBeyond_45 : decode cX5_lastLengthBeyond 45 = .ok (.getfield 50, 3) := by decide +kernel
theorem dX5_lastLengthBeyond_48 : decode cX5_lastLengthBeyond 48 = .ok (.iload_n 1, 1) := by decide +kernel
theorem dX5_lastLengthBeyond_49 : decode cX5_lastLengthBeyond 49 = .ok (.iload 5, 2) := by decide +kernel
theorem dX5_lastLengthBeyond_51 : decode cX5_lastLengthBeyond 51 = .ok (.iconst 1, 1) := by decide +kernel
theorem dX5_lastLengthBeyond_52 : decode cX5_lastLengthBeyond 52 = .ok (.isub, 1) := by decide +kernel
theorem dX5_lastLengthBeyond_53 : decode cX5_lastLengthBeyond 53 = .ok (.invokevirtual 153, 3) := by decide +kernel
theorem dX5_lastLengthBeyond_56 : decode cX5_lastLengthBeyond 56 = .ok (.iadd, 1) := by decide +kernel
theorem dX5_lastLengthBeyond_57 : decode cX5_lastLengthBeyond 57 = .ok (.istore 4, 2) := by decide +kernel
theorem dX5_lastLengthBeyond_59 : decode cX5_lastLengthBeyond 59 = .ok (.aload_n 0, 1) := by decide +kernel
theorem dX5_lastLengthBeyond_60 : decode cX5_lastLengthBeyond 60 = .ok (.iload_n 1, 1) := by decide +kernel
theorem dX5_lastLengthBeyond_61 : decode cX5_lastLengthBeyond 61 = .ok (.iload 4, 2) := by decide +kernel
theorem dX5_lastLengthBeyond_63 : decode cX5_lastLengthBeyond 63 = .ok (.iload 5, 2) := by decide +kernel
theorem dX5_lastLengthBeyond_65 : decode cX5_lastLengthBeyond 65 = .ok (.invokevirtual 197, 3) := by decide +kernel
theorem dX5_lastLengthBeyond_68 : decode cX5_lastLengthBeyond 68 = .ok (.iload_n 2, 1) := by decide +kernel
theorem dX5_lastLengthBeyond_69 : decode cX5_lastLengthBeyond 69 = .ok (.if_icmp .le 6, 3) := by decide +kernel
theorem dX5_lastLengthBeyond_72 : decode cX5_lastLengthBeyond 72 = .ok (.iload 5, 2) := by decide +kernel
theorem dX5_lastLengthBeyond_74 : decode cX5_lastLengthBeyond 74 = .ok (.istore_n 3, 1) := by decide +kernel
theorem dX5_lastLengthBeyond_75 : decode cX5_lastLengthBeyond 75 = .ok (.iinc 5 1, 3) := by decide +kernel
theorem dX5_lastLengthBeyond_78 : decode cX5_lastLengthBeyond 78 = .ok (.goto (-44), 3) := by decide +kernel
theorem dX5_lastLengthBeyond_81 : decode cX5_lastLengthBeyond 81 = .ok (.iload_n 3, 1) := by decide +kernel
theorem dX5_lastLengthBeyond_82 : decode cX5_lastLengthBeyond 82 = .ok (.ireturn, 1) := by decide +kernel
theorem dX5_errorWithSeed_0 : decode cX5_errorWithSeed 0 = .ok (.aload_n 0, 1) := by decide +kernel
theorem dX5_errorWithSeed_1 : decode cX5_errorWithSeed 1 = .ok (.getfield 23, 3) := by decide +kernel
theorem dX5_errorWithSeed_4 : decode cX5_errorWithSeed 4 = .ok (.iload_n 1, 1) := by decide +kernel
theorem dX5_errorWithSeed_5 : decode cX5_errorWithSeed 5 = .ok (.aload_n 0, 1) := by decide +kernel
theorem dX5_errorWithSeed_6 : decode cX5_errorWithSeed 6 = .ok (.getfield 23, 3) := by decide +kernel
theorem dX5_errorWithSeed_9 : decode cX5_errorWithSeed 9 = .ok (.iload_n 1, 1) := by decide +kernel
theorem dX5_errorWithSeed_10 : decode cX5_errorWithSeed 10 = .ok (.iconst 1, 1) := by decide +kernel
theorem dX5_errorWithSeed_11 : decode cX5_errorWithSeed 11 = .ok (.invokevirtual 77, 3) := by decide +kernel
theorem dX5_errorWithSeed_14 : decode cX5_errorWithSeed 14 = .ok (.iload_n 3, 1) := by decide +kernel
theorem dX5_errorWithSeed_15 : decode cX5_errorWithSeed 15 = .ok (.invokevirtual 86, 3) := by decide +kernel
theorem dX5_errorWithSeed_18 : decode cX5_errorWithSeed 18 = .ok (.aload_n 0, 1) := by decide +kernel
theorem dX5_errorWithSeed_19 : decode cX5_errorWithSeed 19 = .ok (.getfield 50, 3) := by decide +kernel
theorem dX5_errorWithSeed_22 : decode cX5_errorWithSeed 22 = .ok (.aload_n 0, 1) := by decide +kernel
theorem dX5_errorWithSeed_23 : decode cX5_errorWithSeed 23 = .ok (.getfield 23, 3) := by decide +kernel
theorem dX5_errorWithSeed_26 : decode cX5_errorWithSeed 26 = .ok (.iload_n 1, 1) := by decide +kernel
theorem dX5_errorWithSeed_27 : decode cX5_errorWithSeed 27 = .ok (.iload_n 2, 1) := by decide +kernel
theorem dX5_errorWithSeed_28 : decode cX5_errorWithSeed 28 = .ok (.aload_n 0, 1) := by decide +kernel
theorem dX5_errorWithSeed_29 : decode cX5_errorWithSeed 29 = .ok (.getfield 23, 3) := by decide +kernel
theorem dX5_errorWithSeed_32 : decode cX5_errorWithSeed 32 = .ok (.getfield 97, 3) := by decide +kernel
theorem dX5_errorWithSeed_35 : decode cX5_errorWithSeed 35 = .ok (.invokevirtual 203, 3) := by decide +kernel
theorem dX5_errorWithSeed_38 : decode cX5_errorWithSeed 38 = .ok (.aload_n 0, 1) := by decide +kernel
theorem dX5_errorWithSeed_39 : decode cX5_errorWithSeed 39 = .ok (.iload_n 2, 1) := by decide +kernel
theorem dX5_errorWithSeed_40 : decode cX5_errorWithSeed 40 = .ok (.aload_n 0, 1) := by decide +kernel
theorem dX5_errorWithSeed_41 : decode cX5_errorWithSeed 41 = .ok (.getfield 23, 3) := by decide +kernel
theorem dX5_errorWithSeed_44 : decode cX5_errorWithSeed 44 = .ok (.getfield 97, 3) := by decide +kernel
theorem dX5_errorWithSeed_47 : decode cX5_errorWithSeed 47 = .ok (.invokevirtual 194, 3) := by decide +kernel
theorem dX5_errorWithSeed_50 : decode cX5_errorWithSeed 50 = .ok (.ireturn, 1) := by decide +kernel
theorem dX5_sumOfErrors_0 : decode cX5_sumOfErrors 0 = .ok (.aload_n 0, 1) := by decide +kernel
theorem dX5_sumOfErrors_1 : decode cX5_sumOfErrors 1 = .ok (.invokevirtual 207, 3) := by decide +kernel
theorem dX5_sumOfErrors_4 : decode cX5_sumOfErrors 4 = .ok (.iconst 0, 1) := by decide +kernel
theorem dX5_sumOfErrors_5 : decode cX5_sumOfErrors 5 = .ok (.istore_n 1, 1) := by decide +kernel
theorem dX5_sumOfErrors_6 : decode cX5_sumOfErrors 6 = .ok (.iconst 0, 1) := by decide +kernel
theorem dX5_sumOfErrors_7 : decode cX5_sumOfErrors 7 = .ok (.istore_n 2, 1) := by decide +kernel
theorem dX5_sumOfErrors_8 : decode cX5_sumOfErrors 8 = .ok (.iload_n 2, 1) := by decide +kernel
theorem dX5_sumOfErrors_9 : decode cX5_sumOfErrors 9 = .ok (.aload_n 0, 1) := by decide +kernel
theorem dX5_sumOfErrors_10 : decode cX5_sumOfErrors 10 = .ok (.getfield 10, 3) := by decide +kernel
theorem dX5_sumOfErrors_13 : decode cX5_sumOfErrors 13 = .ok (.getfield 90, 3) := by decide +kernel
theorem dX5_sumOfErrors_16 : decode cX5_sumOfErrors 16 = .ok (.if_icmp .ge 24, 3) := by decide +kernel
theorem dX5_sumOfErrors_19 : decode cX5_sumOfErrors 19 = .ok (.iload_n 1, 1) := by decide +kernel
theorem dX5_sumOfErrors_20 : decode cX5_sumOfErrors 20 = .ok (.aload_n 0, 1) := by decide +kernel
theorem dX5_sumOfErrors_21 : decode cX5_sumOfErrors 21 = .ok (.iload_n 2, 1) := by decide +kernel
theorem dX5_sumOfErrors_22 : decode cX5_sumOfErrors 22 = .ok (.aload_n 0, 1) := by decide +kernel
theorem dX5_sumOfErrors_23 : decode cX5_sumOfErrors 23 = .ok (.getfield 10, 3) := by decide +kernel
theorem dX5_sumOfErrors_26 : decode cX5_sumOfErrors 26 = .ok (.getfield 97, 3) := by decide +kernel
theorem dX5_sumOfErrors_29 : decode cX5_sumOfErrors 29 = .ok (.invokevirtual 194, 3) := by decide +kernel
theorem dX5_sumOfErrors_32 : decode cX5_sumOfErrors 32 = .ok (.iadd, 1) := by decide +kernel
theorem dX5_sumOfErrors_33 : decode cX5_sumOfErrors 33 = .ok (.istore_n 1, 1) := by decide +kernel
theorem dX5_sumOfErrors_34 : decode cX5_sumOfErrors 34 = .ok (.iinc 2 1, 3) := by decide +kernel
theorem dX5_sumOfErrors_37 : decode cX5_sumOfErrors 37 = .ok (.goto (-29), 3) := by decide +kernel
theorem dX5_sumOfErrors_40 : decode cX5_sumOfErrors 40 = .ok (.iload_n 1, 1) := by decide +kernel
theorem dX5_sumOfErrors_41 : decode cX5_sumOfErrors 41 = .ok (.ireturn, 1) := by decide +kernel
theorem dX5_lineWithGreatestError_0 : decode cX5_lineWithGreatestError 0 = .ok (.aload_n 0, 1) := by decide +kernel
theorem dX5_lineWithGreatestError_1 : decode cX5_lineWithGreatestError 1 = .ok (.invokevirtual 207, 3) := by decide +kernel
theorem dX5_lineWithGreatestError_4 : decode cX5_lineWithGreatestError 4 = .ok (.ldc 81, 2) := by decide +kernel
theorem dX5_lineWithGreatestError_6 : decode cX5_lineWithGreatestError 6 = .ok (.istore_n 1, 1) := by decide +kernel
theorem dX5_lineWithGreatestError_7 : decode cX5_lineWithGreatestError 7 = .ok (.iconst (-1), 1) := by decide +kernel
theorem dX5_lineWithGreatestError_8 : decode cX5_lineWithGreatestError 8 = .ok (.istore_n 2, 1) := by decide +kernel
theorem dX5_lineWithGreatestError_9 : decode cX5_lineWithGreatestError 9 = .ok (.iconst 0, 1) := by decide +kernel
theorem dX5_lineWithGreatestError_10 : decode cX5_lineWithGreatestError 10 = .ok (.istore_n 3, 1) := by decide +kernel
theorem dX5_lineWithGreatestError_11 : decode cX5_lineWithGreatestError 11 = .ok (.iload_n 3, 1) := by decide +kernel
theorem dX5_lineWithGreatestError_12 : decode cX5_lineWithGreatestError 12 = .ok (.aload_n 0, 1) := by decide +kernel
theorem dX5_lineWithGreatestError_13 : decode cX5_lineWithGreatestError 13 = .ok (.getfield 10, 3) := by decide +kernel
theorem dX5_lineWithGreatestError_16 : decode cX5_lineWithGreatestError 16 = .ok (.getfield 90, 3) := by decide +kernel
theorem dX5_lineWithGreatestError_19 : decode cX5_lineWithGreatestError 19 = .ok (.if_icmp .ge 34, 3) := by decide +kernel
theorem dX5_lineWithGreatestError_22 : decode cX5_lineWithGreatestError 22 = .ok (.aload_n 0, 1) := by decide +kernel
theorem dX5_lineWithGreatestError_23 : decode cX5_lineWithGreatestError 23 = .ok (.iload_n 3, 1) := by decide +kernel
theorem dX5_lineWithGreatestError_24 : decode cX5_lineWithGreatestError 24 = .ok (.aload_n 0, 1) := by decide +kernel
theorem dX5_lineWithGreatestError_25 : decode cX5_lineWithGreatestError 25 = .ok (.getfield 10, 3) := by decide +kernel
theorem dX5_lineWithGreatestError_28 : decode cX5_lineWithGreatestError 28 = .ok (.getfield 97, 3) := by decide +kernel
theorem dX5_lineWithGreatestError_31 : decode cX5_lineWithGreatestError 31 = .ok (.invokevirtual 194, 3) := by decide +kernel
theorem dX5_lineWithGreatestError_34 : decode cX5_lineWithGreatestError 34 = .ok (.istore 4, 2) := by decide +kernel
theorem dX5_lineWithGreatestError_36 : decode cX5_lineWithGreatestError 36 = .ok (.iload 4, 2) := by decide +kernel
theorem dX5_lineWithGreatestError_38 : decode cX5_lineWithGreatestError 38 = .ok (.iload_n 2, 1) := by decide +kernel
theorem dX5_lineWithGreatestError_39 : decode cX5_lineWithGreatestError 39 = .ok (.if_icmp .le 8, 3) := by decide +kernel
theorem dX5_lineWithGreatestError_42 : decode cX5_lineWithGreatestError 42 = .ok (.iload 4, 2) := by decide +kernel
theorem dX5_lineWithGreatestError_44 : decode cX5_lineWithGreatestError 44 = .ok (.istore_n 2, 1) := by decide +kernel
theorem dX5_lineWithGreatestError_45 : decode cX5_lineWithGreatestError 45 = .ok (.iload_n 3, 1) := by decide +kernel
theorem dX5_lineWithGreatestError_46 : decode cX5_lineWithGreatestError 46 = .ok (.istore_n 1, 1) := by decide +kernel
theorem dX5_lineWithGreatestError_47 : decode cX5_lineWithGreatestError 47 = .ok (.iinc 3 1, 3) := by decide +kernel
theorem dX5_lineWithGreatestError_50 : decode cX5_lineWithGreatestError 50 = .ok (.goto (-39), 3) := by decide +kernel
theorem dX5_lineWithGreatestError_53 : decode cX5_lineWithGreatestError 53 = .ok (.iload_n 1, 1) := by decide +kernel
theorem dX5_lineWithGreatestError_54 : decode cX5_lineWithGreatestError 54 = .ok (.ireturn, 1) := by decide +kernel
theorem dX5_fillAll_0 : decode cX5_fillAll 0 = .ok (.aload_n 0, 1) := by decide +kernel
theorem dX5_fillAll_1 : decode cX5_fillAll 1 = .ok (.getfield 43, 3) := by decide +kernel
theorem dX5_fillAll_4 : decode cX5_fillAll 4 = .ok (.aload_n 0, 1) := by decide +kernel
theorem dX5_fillAll_5 : decode cX5_fillAll 5 = .ok (.getfield 10, 3) := by decide +kernel
theorem dX5_fillAll_8 : decode cX5_fillAll 8 = .ok (.invokevirtual 134, 3) := by decide +kernel
theorem dX5_fillAll_11 : decode cX5_fillAll 11 = .ok (.aload_n 0, 1) := by decide +kernel
theorem dX5_fillAll_12 : decode cX5_fillAll 12 = .ok (.getfield 50, 3) := by decide +kernel
theorem dX5_fillAll_15 : decode cX5_fillAll 15 = .ok (.aload_n 0, 1) := by decide +kernel
theorem dX5_fillAll_16 : decode cX5_fillAll 16 = .ok (.getfield 10, 3) := by decide +kernel
theorem dX5_fillAll_19 : decode cX5_fillAll 19 = .ok (.aload_n 0, 1) := by decide +kernel
theorem dX5_fillAll_20 : decode cX5_fillAll 20 = .ok (.getfield 10, 3) := by decide +kernel
theorem dX5_fillAll_23 : decode cX5_fillAll 23 = .ok (.getfield 90, 3) := by decide +kernel
theorem dX5_fillAll_26 : decode cX5_fillAll 26 = .ok (.iconst 1, 1) := by decide +kernel
theorem dX5_fillAll_27 : decode cX5_fillAll 27 = .ok (.isub, 1) := by decide +kernel
theorem dX5_fillAll_28 : decode cX5_fillAll 28 = .ok (.aload_n 0, 1) := by decide +kernel
theorem dX5_fillAll_29 : decode cX5_fillAll 29 = .ok (.getfield 10, 3) := by decide +kernel
theorem dX5_fillAll_32 : decode cX5_fillAll 32 = .ok (.getfield 97, 3) := by decide +kernel
theorem dX5_fillAll_35 : decode cX5_fillAll 35 = .ok (.invokevirtual 149, 3) := by decide +kernel
theorem dX5_fillAll_38 : decode cX5_fillAll 38 = .ok (.return_, 1) := by decide +kernel
theorem dX5_isMadeOfLinesAhead_0 : decode cX5_isMadeOfLinesAhead 0 = .ok (.iconst 0, 1) := by decide +kernel
theorem dX5_isMadeOfLinesAhead_1 : decode cX5_isMadeOfLinesAhead 1 = .ok (.istore_n 2, 1) := by decide +kernel
theorem dX5_isMadeOfLinesAhead_2 : decode cX5_isMadeOfLinesAhead 2 = .ok (.iload_n 2, 1) := by decide +kernel
theorem dX5_isMadeOfLinesAhead_3 : decode cX5_isMadeOfLinesAhead 3 = .ok (.aload_n 0, 1) := by decide +kernel
theorem dX5_isMadeOfLinesAhead_4 : decode cX5_isMadeOfLinesAhead 4 = .ok (.getfield 90, 3) := by decide +kernel
theorem dX5_isMadeOfLinesAhead_7 : decode cX5_isMadeOfLinesAhead 7 = .ok (.if_icmp .ge 48, 3) := by decide +kernel
theorem dX5_isMadeOfLinesAhead_10 : decode cX5_isMadeOfLinesAhead 10 = .ok (.aload_n 0, 1) := by decide +kernel
theorem dX5_isMadeOfLinesAhead_11 : decode cX5_isMadeOfLinesAhead 11 = .ok (.iload_n 2, 1) := by decide +kernel
theorem dX5_isMadeOfLinesAhead_12 : decode cX5_isMadeOfLinesAhead 12 = .ok (.invokevirtual 72, 3) := by decide +kernel
theorem dX5_isMadeOfLinesAhead_15 : decode cX5_isMadeOfLinesAhead 15 = .ok (.invokestatic 210, 3) := by decide +kernel
theorem dX5_isMadeOfLinesAhead_18 : decode cX5_isMadeOfLinesAhead 18 = .ok (.istore_n 3, 1) := by decide +kernel
theorem dX5_isMadeOfLinesAhead_19 : decode cX5_isMadeOfLinesAhead 19 = .ok (.iconst 1, 1) := by decide +kernel
theorem dX5_isMadeOfLinesAhead_20 : decode cX5_isMadeOfLinesAhead 20 = .ok (.istore 4, 2) := by decide +kernel
theorem dX5_isMadeOfLinesAhead_22 : decode cX5_isMadeOfLinesAhead 22 = .ok (.iload 4, 2) := by decide +kernel
theorem dX5_isMadeOfLinesAhead_24 : decode cX5_isMadeOfLinesAhead 24 = .ok (.iload_n 3, 1) := by decide +kernel
theorem dX5_isMadeOfLinesAhead_25 : decode cX5_isMadeOfLinesAhead 25 = .ok (.if_icmp .gt 24, 3) := by decide +kernel
theorem dX5_isMadeOfLinesAhead_28 : decode cX5_isMadeOfLinesAhead 28 = .ok (.aload_n 0, 1) := by decide +kernel
theorem dX5_isMadeOfLinesAhead_29 : decode cX5_isMadeOfLinesAhead 29 = .ok (.iload_n 2, 1) := by decide +kernel
theorem dX5_isMadeOfLinesAhead_30 : decode cX5_isMadeOfLinesAhead 30 = .ok (.iload 4, 2) := by decide +kernel
theorem dX5_isMadeOfLinesAhead_32 : decode cX5_isMadeOfLinesAhead 32 = .ok (.invokevirtual 77, 3) := by decide +kernel
theorem dX5_isMadeOfLinesAhead_35 : decode cX5_isMadeOfLinesAhead 35 = .ok (.iload_n 1, 1) := by decide +kernel
theorem dX5_isMadeOfLinesAhead_36 : decode cX5_isMadeOfLinesAhead 36 = .ok (.iload_n 2, 1) := by decide +kernel
theorem dX5_isMadeOfLinesAhead_37 : decode cX5_isMadeOfLinesAhead 37 = .ok (.iadd, 1) := by decide +kernel
theorem dX5_isMadeOfLinesAhead_38 : decode cX5_isMadeOfLinesAhead 38 = .ok (.if_icmp .lt 5, 3) := by decide +kernel
theorem dX5_isMadeOfLinesAhead_41 : decode cX5_isMadeOfLinesAhead 41 = .ok (.iconst 0, 1) := by decide +kernel
theorem dX5_isMadeOfLinesAhead_42 : decode cX5_isMadeOfLinesAhead 42 = .ok (.ireturn, 1) := by decide +kernel
theorem dX5_isMadeOfLinesAhead_43 : decode cX5_isMadeOfLinesAhead 43 = .ok (.iinc 4 1, 3) := by decide +kernel
theorem dX5_isMadeOfLinesAhead_46 : decode cX5_isMadeOfLinesAhead 46 = .ok (.goto (-24), 3) := by decide +kernel
theorem dX5_isMadeOfLinesAhead_49 : decode cX5_isMadeOfLinesAhead 49 = .ok (.iinc 2 1, 3) := by decide +kernel
theorem dX5_isMadeOfLinesAhead_52 : decode cX5_isMadeOfLinesAhead 52 = .ok (.goto (-50), 3) := by decide +kernel
theorem dX5_isMadeOfLinesAhead_55 : decode cX5_isMadeOfLinesAhead 55 = .ok (.iconst 1, 1) := by decide +kernel
theorem dX5_isMadeOfLinesAhead_56 : decode cX5_isMadeOfLinesAhead 56 = .ok (.ireturn, 1) := by decide +kernel
theorem dX5_shareOf_0 : decode cX5_shareOf 0 = .ok (.iload_n 1, 1) := by decide +kernel
theorem dX5_shareOf_1 : decode cX5_shareOf 1 = .ok (.iconst 1, 1) := by decide +kernel
theorem dX5_shareOf_2 : decode cX5_shareOf 2 = .ok (.if_icmp .ge 7, 3) := by decide +kernel
theorem dX5_shareOf_5 : decode cX5_shareOf 5 = .ok (.iconst 0, 1) := by decide +kernel
theorem dX5_shareOf_6 : decode cX5_shareOf 6 = .ok (.goto 9, 3) := by decide +kernel
theorem dX5_shareOf_9 : decode cX5_shareOf 9 = .ok (.iload_n 0, 1) := by decide +kernel
theorem dX5_shareOf_10 : decode cX5_shareOf 10 = .ok (.ldc 170, 2) := by decide +kernel
theorem dX5_shareOf_12 : decode cX5_shareOf 12 = .ok (.imul, 1) := by decide +kernel
theorem dX5_shareOf_13 : decode cX5_shareOf 13 = .ok (.iload_n 1, 1) := by decide +kernel
theorem dX5_shareOf_14 : decode cX5_shareOf 14 = .ok (.idiv, 1) := by decide +kernel
theorem dX5_shareOf_15 : decode cX5_shareOf 15 = .ok (.ireturn, 1) := by decide +kernel
theorem dX5_isShareAndSeed_0 : decode cX5_isShareAndSeed 0 = .ok (.iload_n 0, 1) := by decide +kernel
theorem dX5_isShareAndSeed_1 : decode cX5_isShareAndSeed 1 = .ok (.iconst 0, 1) := by decide +kernel
theorem dX5_isShareAndSeed_2 : decode cX5_isShareAndSeed 2 = .ok (.sipush 256, 3) := by decide +kernel
theorem dX5_isShareAndSeed_5 : decode cX5_isShareAndSeed 5 = .ok (.invokestatic 68, 3) := by decide +kernel
theorem dX5_isShareAndSeed_8 : decode cX5_isShareAndSeed 8 = .ok (.ifCond .eq 18, 3) := by decide +kernel
theorem dX5_isShareAndSeed_11 : decode cX5_isShareAndSeed 11 = .ok (.iload_n 1, 1) := by decide +kernel
theorem dX5_isShareAndSeed_12 : decode cX5_isShareAndSeed 12 = .ok (.iconst 1, 1) := by decide +kernel
theorem dX5_isShareAndSeed_13 : decode cX5_isShareAndSeed 13 = .ok (.sipush 255, 3) := by decide +kernel
theorem dX5_isShareAndSeed_16 : decode cX5_isShareAndSeed 16 = .ok (.invokestatic 68, 3) := by decide +kernel
theorem dX5_isShareAndSeed_19 : decode cX5_isShareAndSeed 19 = .ok (.ifCond .eq 7, 3) := by decide +kernel
theorem dX5_isShareAndSeed_22 : decode cX5_isShareAndSeed 22 = .ok (.iconst 1, 1) := by decide +kernel
theorem dX5_isShareAndSeed_23 : decode cX5_isShareAndSeed 23 = .ok (.goto 4, 3) := by decide +kernel
theorem dX5_isShareAndSeed_26 : decode cX5_isShareAndSeed 26 = .ok (.iconst 0, 1) := by decide +kernel
theorem dX5_isShareAndSeed_27 : decode cX5_isShareAndSeed 27 = .ok (.ireturn, 1) := by decide +kernel
theorem dX5_isWithin_0 : decode cX5_isWithin 0 = .ok (.iload_n 0, 1) := by decide +kernel
theorem dX5_isWithin_1 : decode cX5_isWithin 1 = .ok (.iload_n 1, 1) := by decide +kernel
theorem dX5_isWithin_2 : decode cX5_isWithin 2 = .ok (.if_icmp .lt 12, 3) := by decide +kernel
theorem dX5_isWithin_5 : decode cX5_isWithin 5 = .ok (.iload_n 0, 1) := by decide +kernel
theorem dX5_isWithin_6 : decode cX5_isWithin 6 = .ok (.iload_n 2, 1) := by decide +kernel
theorem dX5_isWithin_7 : decode cX5_isWithin 7 = .ok (.if_icmp .gt 7, 3) := by decide +kernel
theorem dX5_isWithin_10 : decode cX5_isWithin 10 = .ok (.iconst 1, 1) := by decide +kernel
theorem dX5_isWithin_11 : decode cX5_isWithin 11 = .ok (.goto 4, 3) := by decide +kernel
theorem dX5_isWithin_14 : decode cX5_isWithin 14 = .ok (.iconst 0, 1) := by decide +kernel
theorem dX5_isWithin_15 : decode cX5_isWithin 15 = .ok (.ireturn, 1) := by decide +kernel
theorem dX5_numbersOfKind_0 : decode cX5_numbersOfKind 0 = .ok (.getstatic 213, 3) := by decide +kernel
theorem dX5_numbersOfKind_3 : decode cX5_numbersOfKind 3 = .ok (.iload_n 0, 1) := by decide +kernel
theorem dX5_numbersOfKind_4 : decode cX5_numbersOfKind 4 = .ok (.invokestatic 217, 3) := by decide +kernel
theorem dX5_numbersOfKind_7 : decode cX5_numbersOfKind 7 = .ok (.ireturn, 1) := by decide +kernel
theorem dX5_linesOfKind_0 : decode cX5_linesOfKind 0 = .ok (.getstatic 221, 3) := by decide +kernel
theorem dX5_linesOfKind_3 : decode cX5_linesOfKind 3 = .ok (.iload_n 0, 1) := by decide +kernel
theorem dX5_linesOfKind_4 : decode cX5_linesOfKind 4 = .ok (.invokestatic 217, 3) := by decide +kernel
theorem dX5_linesOfKind_7 : decode cX5_linesOfKind 7 = .ok (.ireturn, 1) := by decide +kernel
theorem dX5_elementAt_0 : decode cX5_elementAt 0 = .ok (.iload_n 1, 1) := by decide +kernel
theorem dX5_elementAt_1 : decode cX5_elementAt 1 = .ok (.ifCond .lt 9, 3) := by decide +kernel
theorem dX5_elementAt_4 : decode cX5_elementAt 4 = .ok (.iload_n 1, 1) := by decide +kernel
theorem dX5_elementAt_5 : decode cX5_elementAt 5 = .ok (.aload_n 0, 1) := by decide +kernel
theorem dX5_elementAt_6 : decode cX5_elementAt 6 = .ok (.arraylength, 1) := by decide +kernel
theorem dX5_elementAt_7 : decode cX5_elementAt 7 = .ok (.if_icmp .lt 7, 3) := by decide +kernel
theorem dX5_elementAt_10 : decode cX5_elementAt 10 = .ok (.iconst 0, 1) := by decide +kernel
theorem dX5_elementAt_11 : decode cX5_elementAt 11 = .ok (.goto 6, 3) := by decide +kernel
theorem dX5_elementAt_14 : decode cX5_elementAt 14 = .ok (.aload_n 0, 1) := by decide +kernel
theorem dX5_elementAt_15 : decode cX5_elementAt 15 = .ok (.iload_n 1, 1) := by decide +kernel
theorem dX5_elementAt_16 : decode cX5_elementAt 16 = .ok (.iaload, 1) := by decide +kernel
theorem dX5_elementAt_17 : decode cX5_elementAt 17 = .ok (.ireturn, 1) := by decide +kernel
theorem dX5_setElement_0 : decode cX5_setElement 0 = .ok (.iload_n 1, 1) := by decide +kernel
theorem dX5_setElement_1 : decode cX5_setElement 1 = .ok (.ifCond .lt 13, 3) := by decide +kernel
theorem dX5_setElement_4 : decode cX5_setElement 4 = .ok (.iload_n 1, 1) := by decide +kernel
theorem dX5_setElement_5 : decode cX5_setElement 5 = .ok (.aload_n 0, 1) := by decide +kernel
theorem dX5_setElement_6 : decode cX5_setElement 6 = .ok (.arraylength, 1) := by decide +kernel
theorem dX5_setElement_7 : decode cX5_setElement 7 = .ok (.if_icmp .ge 7, 3) := by decide +kernel
theorem dX5_setElement_10 : decode cX5_setElement 10 = .ok (.aload_n 0, 1) := by decide +kernel
theorem dX5_setElement_11 : decode cX5_setElement 11 = .ok (.iload_n 1, 1) := by decide +kernel
theorem dX5_setElement_12 : decode cX5_setElement 12 = .ok (.iload_n 2, 1) := by decide +kernel
theorem dX5_setElement_13 : decode cX5_setElement 13 = .ok (.iastore, 1) := by decide +kernel
theorem dX5_setElement_14 : decode cX5_setElement 14 = .ok (.return_, 1) := by decide +kernel
