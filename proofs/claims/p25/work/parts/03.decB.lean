theorem dX5_init_0 : decode cX5_init 0 = .ok (.aload_n 0, 1) := by decide +kernel
theorem dX5_init_1 : decode cX5_init 1 = .ok (.invokespecial 1, 3) := by decide +kernel
theorem dX5_init_4 : decode cX5_init 4 = .ok (.aload_n 0, 1) := by decide +kernel
theorem dX5_init_5 : decode cX5_init 5 = .ok (.new 7, 3) := by decide +kernel
theorem dX5_init_8 : decode cX5_init 8 = .ok (.dup, 1) := by decide +kernel
theorem dX5_init_9 : decode cX5_init 9 = .ok (.invokespecial 9, 3) := by decide +kernel
theorem dX5_init_12 : decode cX5_init 12 = .ok (.putfield 10, 3) := by decide +kernel
theorem dX5_init_15 : decode cX5_init 15 = .ok (.aload_n 0, 1) := by decide +kernel
theorem dX5_init_16 : decode cX5_init 16 = .ok (.new 7, 3) := by decide +kernel
theorem dX5_init_19 : decode cX5_init 19 = .ok (.dup, 1) := by decide +kernel
theorem dX5_init_20 : decode cX5_init 20 = .ok (.invokespecial 9, 3) := by decide +kernel
theorem dX5_init_23 : decode cX5_init 23 = .ok (.putfield 16, 3) := by decide +kernel
theorem dX5_init_26 : decode cX5_init 26 = .ok (.aload_n 0, 1) := by decide +kernel
theorem dX5_init_27 : decode cX5_init 27 = .ok (.iconst 0, 1) := by decide +kernel
theorem dX5_init_28 : decode cX5_init 28 = .ok (.putfield 19, 3) := by decide +kernel
theorem dX5_init_31 : decode cX5_init 31 = .ok (.aload_n 0, 1) := by decide +kernel
theorem dX5_init_32 : decode cX5_init 32 = .ok (.new 7, 3) := by decide +kernel
theorem dX5_init_35 : decode cX5_init 35 = .ok (.dup, 1) := by decide +kernel
theorem dX5_init_36 : decode cX5_init 36 = .ok (.invokespecial 9, 3) := by decide +kernel
theorem dX5_init_39 : decode cX5_init 39 = .ok (.putfield 23, 3) := by decide +kernel
theorem dX5_init_42 : decode cX5_init 42 = .ok (.aload_n 0, 1) := by decide +kernel
theorem dX5_init_43 : decode cX5_init 43 = .ok (.new 26, 3) := by decide +kernel
theorem dX5_init_46 : decode cX5_init 46 = .ok (.dup, 1) := by decide +kernel
theorem dX5_init_47 : decode cX5_init 47 = .ok (.invokespecial 28, 3) := by decide +kernel
theorem dX5_init_50 : decode cX5_init 50 = .ok (.putfield 29, 3) := by decide +kernel
theorem dX5_init_53 : decode cX5_init 53 = .ok (.aload_n 0, 1) := by decide +kernel
theorem dX5_init_54 : decode cX5_init 54 = .ok (.new 33, 3) := by decide +kernel
theorem dX5_init_57 : decode cX5_init 57 = .ok (.dup, 1) := by decide +kernel
theorem dX5_init_58 : decode cX5_init 58 = .ok (.invokespecial 35, 3) := by decide +kernel
theorem dX5_init_61 : decode cX5_init 61 = .ok (.putfield 36, 3) := by decide +kernel
theorem dX5_init_64 : decode cX5_init 64 = .ok (.aload_n 0, 1) := by decide +kernel
theorem dX5_init_65 : decode cX5_init 65 = .ok (.new 40, 3) := by decide +kernel
theorem dX5_init_68 : decode cX5_init 68 = .ok (.dup, 1) := by decide +kernel
theorem dX5_init_69 : decode cX5_init 69 = .ok (.invokespecial 42, 3) := by decide +kernel
theorem dX5_init_72 : decode cX5_init 72 = .ok (.putfield 43, 3) := by decide +kernel
theorem dX5_init_75 : decode cX5_init 75 = .ok (.aload_n 0, 1) := by decide +kernel
theorem dX5_init_76 : decode cX5_init 76 = .ok (.new 47, 3) := by decide +kernel
theorem dX5_init_79 : decode cX5_init 79 = .ok (.dup, 1) := by decide +kernel
theorem dX5_init_80 : decode cX5_init 80 = .ok (.invokespecial 49, 3) := by decide +kernel
theorem dX5_init_83 : decode cX5_init 83 = .ok (.putfield 50, 3) := by decide +kernel
theorem dX5_init_86 : decode cX5_init 86 = .ok (.return_, 1) := by decide +kernel
theorem dX5_source_0 : decode cX5_source 0 = .ok (.iload_n 1, 1) := by decide +kernel
theorem dX5_source_1 : decode cX5_source 1 = .ok (.iload_n 2, 1) := by decide +kernel
theorem dX5_source_2 : decode cX5_source 2 = .ok (.invokestatic 54, 3) := by decide +kernel
theorem dX5_source_5 : decode cX5_source 5 = .ok (.ifCond .ne 6, 3) := by decide +kernel
theorem dX5_source_8 : decode cX5_source 8 = .ok (.ldc 58, 2) := by decide +kernel
theorem dX5_source_10 : decode cX5_source 10 = .ok (.ireturn, 1) := by decide +kernel
theorem dX5_source_11 : decode cX5_source 11 = .ok (.aload_n 0, 1) := by decide +kernel
theorem dX5_source_12 : decode cX5_source 12 = .ok (.iconst 0, 1) := by decide +kernel
theorem dX5_source_13 : decode cX5_source 13 = .ok (.iload_n 1, 1) := by decide +kernel
theorem dX5_source_14 : decode cX5_source 14 = .ok (.iload_n 2, 1) := by decide +kernel
theorem dX5_source_15 : decode cX5_source 15 = .ok (.iconst 0, 1) := by decide +kernel
theorem dX5_source_16 : decode cX5_source 16 = .ok (.invokevirtual 59, 3) := by decide +kernel
theorem dX5_source_19 : decode cX5_source 19 = .ok (.ireturn, 1) := by decide +kernel
theorem dX5_gate_0 : decode cX5_gate 0 = .ok (.aload_n 0, 1) := by decide +kernel
theorem dX5_gate_1 : decode cX5_gate 1 = .ok (.getfield 10, 3) := by decide +kernel
theorem dX5_gate_4 : decode cX5_gate 4 = .ok (.iload_n 2, 1) := by decide +kernel
theorem dX5_gate_5 : decode cX5_gate 5 = .ok (.invokevirtual 63, 3) := by decide +kernel
theorem dX5_gate_8 : decode cX5_gate 8 = .ok (.ifCond .eq 14, 3) := by decide +kernel
theorem dX5_gate_11 : decode cX5_gate 11 = .ok (.aload_n 0, 1) := by decide +kernel
theorem dX5_gate_12 : decode cX5_gate 12 = .ok (.getfield 10, 3) := by decide +kernel
theorem dX5_gate_15 : decode cX5_gate 15 = .ok (.iload_n 3, 1) := by decide +kernel
theorem dX5_gate_16 : decode cX5_gate 16 = .ok (.invokevirtual 63, 3) := by decide +kernel
theorem dX5_gate_19 : decode cX5_gate 19 = .ok (.ifCond .ne 6, 3) := by decide +kernel
theorem dX5_gate_22 : decode cX5_gate 22 = .ok (.ldc 67, 2) := by decide +kernel
theorem dX5_gate_24 : decode cX5_gate 24 = .ok (.ireturn, 1) := by decide +kernel
theorem dX5_gate_25 : decode cX5_gate 25 = .ok (.iload_n 1, 1) := by decide +kernel
theorem dX5_gate_26 : decode cX5_gate 26 = .ok (.iconst 1, 1) := by decide +kernel
theorem dX5_gate_27 : decode cX5_gate 27 = .ok (.iconst 3, 1) := by decide +kernel
theorem dX5_gate_28 : decode cX5_gate 28 = .ok (.invokestatic 68, 3) := by decide +kernel
theorem dX5_gate_31 : decode cX5_gate 31 = .ok (.ifCond .ne 6, 3) := by decide +kernel
theorem dX5_gate_34 : decode cX5_gate 34 = .ok (.ldc 58, 2) := by decide +kernel
theorem dX5_gate_36 : decode cX5_gate 36 = .ok (.ireturn, 1) := by decide +kernel
theorem dX5_gate_37 : decode cX5_gate 37 = .ok (.aload_n 0, 1) := by decide +kernel
theorem dX5_gate_38 : decode cX5_gate 38 = .ok (.iload_n 1, 1) := by decide +kernel
theorem dX5_gate_39 : decode cX5_gate 39 = .ok (.iload_n 2, 1) := by decide +kernel
theorem dX5_gate_40 : decode cX5_gate 40 = .ok (.iload_n 3, 1) := by decide +kernel
theorem dX5_gate_41 : decode cX5_gate 41 = .ok (.iconst 0, 1) := by decide +kernel
theorem dX5_gate_42 : decode cX5_gate 42 = .ok (.invokevirtual 59, 3) := by decide +kernel
theorem dX5_gate_45 : decode cX5_gate 45 = .ok (.ireturn, 1) := by decide +kernel
theorem dX5_choose_0 : decode cX5_choose 0 = .ok (.aload_n 0, 1) := by decide +kernel
theorem dX5_choose_1 : decode cX5_choose 1 = .ok (.getfield 10, 3) := by decide +kernel
theorem dX5_choose_4 : decode cX5_choose 4 = .ok (.iload_n 1, 1) := by decide +kernel
theorem dX5_choose_5 : decode cX5_choose 5 = .ok (.invokevirtual 63, 3) := by decide +kernel
theorem dX5_choose_8 : decode cX5_choose 8 = .ok (.ifCond .eq 25, 3) := by decide +kernel
theorem dX5_choose_11 : decode cX5_choose 11 = .ok (.aload_n 0, 1) := by decide +kernel
theorem dX5_choose_12 : decode cX5_choose 12 = .ok (.getfield 10, 3) := by decide +kernel
theorem dX5_choose_15 : decode cX5_choose 15 = .ok (.iload_n 2, 1) := by decide +kernel
theorem dX5_choose_16 : decode cX5_choose 16 = .ok (.invokevirtual 63, 3) := by decide +kernel
theorem dX5_choose_19 : decode cX5_choose 19 = .ok (.ifCond .eq 14, 3) := by decide +kernel
theorem dX5_choose_22 : decode cX5_choose 22 = .ok (.aload_n 0, 1) := by decide +kernel
theorem dX5_choose_23 : decode cX5_choose 23 = .ok (.getfield 10, 3) := by decide +kernel
theorem dX5_choose_26 : decode cX5_choose 26 = .ok (.iload_n 3, 1) := by decide +kernel
theorem dX5_choose_27 : decode cX5_choose 27 = .ok (.invokevirtual 63, 3) := by decide +kernel
theorem dX5_choose_30 : decode cX5_choose 30 = .ok (.ifCond .ne 6, 3) := by decide +kernel
theorem dX5_choose_33 : decode cX5_choose 33 = .ok (.ldc 67, 2) := by decide +kernel
theorem dX5_choose_35 : decode cX5_choose 35 = .ok (.ireturn, 1) := by decide +kernel
theorem dX5_choose_36 : decode cX5_choose 36 = .ok (.aload_n 0, 1) := by decide +kernel
theorem dX5_choose_37 : decode cX5_choose 37 = .ok (.iconst 4, 1) := by decide +kernel
theorem dX5_choose_38 : decode cX5_choose 38 = .ok (.iload_n 1, 1) := by decide +kernel
theorem dX5_choose_39 : decode cX5_choose 39 = .ok (.iload_n 2, 1) := by decide +kernel
theorem dX5_choose_40 : decode cX5_choose 40 = .ok (.iload_n 3, 1) := by decide +kernel
theorem dX5_choose_41 : decode cX5_choose 41 = .ok (.invokevirtual 59, 3) := by decide +kernel
theorem dX5_choose_44 : decode cX5_choose 44 = .ok (.ireturn, 1) := by decide +kernel
theorem dX5_turn_0 : decode cX5_turn 0 = .ok (.aload_n 0, 1) := by decide +kernel
theorem dX5_turn_1 : decode cX5_turn 1 = .ok (.getfield 10, 3) := by decide +kernel
theorem dX5_turn_4 : decode cX5_turn 4 = .ok (.iload_n 1, 1) := by decide +kernel
theorem dX5_turn_5 : decode cX5_turn 5 = .ok (.invokevirtual 63, 3) := by decide +kernel
theorem dX5_turn_8 : decode cX5_turn 8 = .ok (.ifCond .ne 6, 3) := by decide +kernel
theorem dX5_turn_11 : decode cX5_turn 11 = .ok (.ldc 67, 2) := by decide +kernel
theorem dX5_turn_13 : decode cX5_turn 13 = .ok (.ireturn, 1) := by decide +kernel
theorem dX5_turn_14 : decode cX5_turn 14 = .ok (.aload_n 0, 1) := by decide +kernel
theorem dX5_turn_15 : decode cX5_turn 15 = .ok (.iconst 5, 1) := by decide +kernel
theorem dX5_turn_16 : decode cX5_turn 16 = .ok (.iload_n 1, 1) := by decide +kernel
theorem dX5_turn_17 : decode cX5_turn 17 = .ok (.iconst 0, 1) := by decide +kernel
theorem dX5_turn_18 : decode cX5_turn 18 = .ok (.iconst 0, 1) := by decide +kernel
theorem dX5_turn_19 : decode cX5_turn 19 = .ok (.invokevirtual 59, 3) := by decide +kernel
theorem dX5_turn_22 : decode cX5_turn 22 = .ok (.ireturn, 1) := by decide +kernel
theorem dX5_delay_0 : decode cX5_delay 0 = .ok (.aload_n 0, 1) := by decide +kernel
theorem dX5_delay_1 : decode cX5_delay 1 = .ok (.getfield 10, 3) := by decide +kernel
theorem dX5_delay_4 : decode cX5_delay 4 = .ok (.iload_n 1, 1) := by decide +kernel
theorem dX5_delay_5 : decode cX5_delay 5 = .ok (.invokevirtual 63, 3) := by decide +kernel
theorem dX5_delay_8 : decode cX5_delay 8 = .ok (.ifCond .ne 6, 3) := by decide +kernel
theorem dX5_delay_11 : decode cX5_delay 11 = .ok (.ldc 67, 2) := by decide +kernel
theorem dX5_delay_13 : decode cX5_delay 13 = .ok (.ireturn, 1) := by decide +kernel
theorem dX5_delay_14 : decode cX5_delay 14 = .ok (.iload_n 2, 1) := by decide +kernel
theorem dX5_delay_15 : decode cX5_delay 15 = .ok (.iconst 1, 1) := by decide +kernel
theorem dX5_delay_16 : decode cX5_delay 16 = .ok (.bipush 60, 2) := by decide +kernel
theorem dX5_delay_18 : decode cX5_delay 18 = .ok (.invokestatic 68, 3) := by decide +kernel
theorem dX5_delay_21 : decode cX5_delay 21 = .ok (.ifCond .ne 6, 3) := by decide +kernel
theorem dX5_delay_24 : decode cX5_delay 24 = .ok (.ldc 58, 2) := by decide +kernel
theorem dX5_delay_26 : decode cX5_delay 26 = .ok (.ireturn, 1) := by decide +kernel
theorem dX5_delay_27 : decode cX5_delay 27 = .ok (.aload_n 0, 1) := by decide +kernel
theorem dX5_delay_28 : decode cX5_delay 28 = .ok (.bipush 6, 2) := by decide +kernel
theorem dX5_delay_30 : decode cX5_delay 30 = .ok (.iload_n 1, 1) := by decide +kernel
theorem dX5_delay_31 : decode cX5_delay 31 = .ok (.iload_n 2, 1) := by decide +kernel
theorem dX5_delay_32 : decode cX5_delay 32 = .ok (.iconst 0, 1) := by decide +kernel
theorem dX5_delay_33 : decode cX5_delay 33 = .ok (.invokevirtual 59, 3) := by decide +kernel
theorem dX5_delay_36 : decode cX5_delay 36 = .ok (.ireturn, 1) := by decide +kernel
theorem dX5_reseed_0 : decode cX5_reseed 0 = .ok (.aload_n 0, 1) := by decide +kernel
theorem dX5_reseed_1 : decode cX5_reseed 1 = .ok (.getfield 10, 3) := by decide +kernel
theorem dX5_reseed_4 : decode cX5_reseed 4 = .ok (.iload_n 1, 1) := by decide +kernel
theorem dX5_reseed_5 : decode cX5_reseed 5 = .ok (.invokevirtual 63, 3) := by decide +kernel
theorem dX5_reseed_8 : decode cX5_reseed 8 = .ok (.ifCond .ne 6, 3) := by decide +kernel
theorem dX5_reseed_11 : decode cX5_reseed 11 = .ok (.ldc 67, 2) := by decide +kernel
theorem dX5_reseed_13 : decode cX5_reseed 13 = .ok (.ireturn, 1) := by decide +kernel
theorem dX5_reseed_14 : decode cX5_reseed 14 = .ok (.iload_n 2, 1) := by decide +kernel
theorem dX5_reseed_15 : decode cX5_reseed 15 = .ok (.iload_n 3, 1) := by decide +kernel
theorem dX5_reseed_16 : decode cX5_reseed 16 = .ok (.invokestatic 54, 3) := by decide +kernel
theorem dX5_reseed_19 : decode cX5_reseed 19 = .ok (.ifCond .ne 6, 3) := by decide +kernel
theorem dX5_reseed_22 : decode cX5_reseed 22 = .ok (.ldc 58, 2) := by decide +kernel
theorem dX5_reseed_24 : decode cX5_reseed 24 = .ok (.ireturn, 1) := by decide +kernel
theorem dX5_reseed_25 : decode cX5_reseed 25 = .ok (.aload_n 0, 1) := by decide +kernel
theorem dX5_reseed_26 : decode cX5_reseed 26 = .ok (.getfield 10, 3) := by decide +kernel
theorem dX5_reseed_29 : decode cX5_reseed 29 = .ok (.iload_n 1, 1) := by decide +kernel
theorem dX5_reseed_30 : decode cX5_reseed 30 = .ok (.invokevirtual 72, 3) := by decide +kernel
theorem dX5_reseed_33 : decode cX5_reseed 33 = .ok (.ifCond .eq 6, 3) := by decide +kernel
theorem dX5_reseed_36 : decode cX5_reseed 36 = .ok (.ldc 76, 2) := by decide +kernel
theorem dX5_reseed_38 : decode cX5_reseed 38 = .ok (.ireturn, 1) := by decide +kernel
theorem dX5_reseed_39 : decode cX5_reseed 39 = .ok (.aload_n 0, 1) := by decide +kernel
theorem dX5_reseed_40 : decode cX5_reseed 40 = .ok (.getfield 10, 3) := by decide +kernel
theorem dX5_reseed_43 : decode cX5_reseed 43 = .ok (.iload_n 1, 1) := by decide +kernel
theorem dX5_reseed_44 : decode cX5_reseed 44 = .ok (.iconst 1, 1) := by decide +kernel
theorem dX5_reseed_45 : decode cX5_reseed 45 = .ok (.invokevirtual 77, 3) := by decide +kernel
theorem dX5_reseed_48 : decode cX5_reseed 48 = .ok (.istore 4, 2) := by decide +kernel
theorem dX5_reseed_50 : decode cX5_reseed 50 = .ok (.iload 4, 2) := by decide +kernel
theorem dX5_reseed_52 : decode cX5_reseed 52 = .ok (.iload_n 2, 1) := by decide +kernel
theorem dX5_reseed_53 : decode cX5_reseed 53 = .ok (.if_icmp .ne 19, 3) := by decide +kernel
theorem dX5_reseed_56 : decode cX5_reseed 56 = .ok (.aload_n 0, 1) := by decide +kernel
theorem dX5_reseed_57 : decode cX5_reseed 57 = .ok (.getfield 10, 3) := by decide +kernel
theorem dX5_reseed_60 : decode cX5_reseed 60 = .ok (.iload_n 1, 1) := by decide +kernel
theorem dX5_reseed_61 : decode cX5_reseed 61 = .ok (.iconst 2, 1) := by decide +kernel
theorem dX5_reseed_62 : decode cX5_reseed 62 = .ok (.invokevirtual 77, 3) := by decide +kernel
theorem dX5_reseed_65 : decode cX5_reseed 65 = .ok (.iload_n 3, 1) := by decide +kernel
theorem dX5_reseed_66 : decode cX5_reseed 66 = .ok (.if_icmp .ne 6, 3) := by decide +kernel
theorem dX5_reseed_69 : decode cX5_reseed 69 = .ok (.ldc 81, 2) := by decide +kernel
theorem dX5_reseed_71 : decode cX5_reseed 71 = .ok (.ireturn, 1) := by decide +kernel
theorem dX5_reseed_72 : decode cX5_reseed 72 = .ok (.aload_n 0, 1) := by decide +kernel
theorem dX5_reseed_73 : decode cX5_reseed 73 = .ok (.getfield 29, 3) := by decide +kernel
theorem dX5_reseed_76 : decode cX5_reseed 76 = .ok (.aload_n 0, 1) := by decide +kernel
theorem dX5_reseed_77 : decode cX5_reseed 77 = .ok (.getfield 10, 3) := by decide +kernel
theorem dX5_reseed_80 : decode cX5_reseed 80 = .ok (.invokevirtual 82, 3) := by decide +kernel
theorem dX5_reseed_83 : decode cX5_reseed 83 = .ok (.aload_n 0, 1) := by decide +kernel
theorem dX5_reseed_84 : decode cX5_reseed 84 = .ok (.getfield 10, 3) := by decide +kernel
theorem dX5_reseed_87 : decode cX5_reseed 87 = .ok (.iload_n 1, 1) := by decide +kernel
theorem dX5_reseed_88 : decode cX5_reseed 88 = .ok (.iload_n 2, 1) := by decide +kernel
theorem dX5_reseed_89 : decode cX5_reseed 89 = .ok (.iload_n 3, 1) := by decide +kernel
theorem dX5_reseed_90 : decode cX5_reseed 90 = .ok (.invokevirtual 86, 3) := by decide +kernel
theorem dX5_reseed_93 : decode cX5_reseed 93 = .ok (.iload 4, 2) := by decide +kernel
theorem dX5_reseed_95 : decode cX5_reseed 95 = .ok (.ireturn, 1) := by decide +kernel
theorem dX5_removeLast_0 : decode cX5_removeLast 0 = .ok (.aload_n 0, 1) := by decide +kernel
theorem dX5_removeLast_1 : decode cX5_removeLast 1 = .ok (.getfield 10, 3) := by decide +kernel
theorem dX5_removeLast_4 : decode cX5_removeLast 4 = .ok (.getfield 90, 3) := by decide +kernel
theorem dX5_removeLast_7 : decode cX5_removeLast 7 = .ok (.ifCond .ne 6, 3) := by decide +kernel
theorem dX5_removeLast_10 : decode cX5_removeLast 10 = .ok (.ldc 81, 2) := by decide +kernel
theorem dX5_removeLast_12 : decode cX5_removeLast 12 = .ok (.ireturn, 1) := by decide +kernel
theorem dX5_removeLast_13 : decode cX5_removeLast 13 = .ok (.aload_n 0, 1) := by decide +kernel
theorem dX5_removeLast_14 : decode cX5_removeLast 14 = .ok (.getfield 29, 3) := by decide +kernel
theorem dX5_removeLast_17 : decode cX5_removeLast 17 = .ok (.aload_n 0, 1) := by decide +kernel
theorem dX5_removeLast_18 : decode cX5_removeLast 18 = .ok (.getfield 10, 3) := by decide +kernel
theorem dX5_removeLast_21 : decode cX5_removeLast 21 = .ok (.invokevirtual 82, 3) := by decide +kernel
theorem dX5_removeLast_24 : decode cX5_removeLast 24 = .ok (.aload_n 0, 1) := by decide +kernel
theorem dX5_removeLast_25 : decode cX5_removeLast 25 = .ok (.getfield 10, 3) := by decide +kernel
theorem dX5_removeLast_28 : decode cX5_removeLast 28 = .ok (.invokevirtual 94, 3) := by decide +kernel
theorem dX5_removeLast_31 : decode cX5_removeLast 31 = .ok (.aload_n 0, 1) := by decide +kernel
theorem dX5_removeLast_32 : decode cX5_removeLast 32 = .ok (.getfield 10, 3) := by decide +kernel
theorem dX5_removeLast_35 : decode cX5_removeLast 35 = .ok (.getfield 90, 3) := by decide +kernel
theorem dX5_removeLast_38 : decode cX5_removeLast 38 = .ok (.ireturn, 1) := by decide +kernel
theorem dX5_setLength_0 : decode cX5_setLength 0 = .ok (.iload_n 1, 1) := by decide +kernel
theorem dX5_setLength_1 : decode cX5_setLength 1 = .ok (.iconst 1, 1) := by decide +kernel
theorem dX5_setLength_2 : decode cX5_setLength 2 = .ok (.sipush 1000, 3) := by decide +kernel
theorem dX5_setLength_5 : decode cX5_setLength 5 = .ok (.invokestatic 68, 3) := by decide +kernel
theorem dX5_setLength_8 : decode cX5_setLength 8 = .ok (.ifCond .ne 6, 3) := by decide +kernel
theorem dX5_setLength_11 : decode cX5_setLength 11 = .ok (.ldc 58, 2) := by decide +kernel
theorem dX5_setLength_13 : decode cX5_setLength 13 = .ok (.ireturn, 1) := by decide +kernel
theorem dX5_setLength_14 : decode cX5_setLength 14 = .ok (.aload_n 0, 1) := by decide +kernel
theorem dX5_setLength_15 : decode cX5_setLength 15 = .ok (.getfield 10, 3) := by decide +kernel
theorem dX5_setLength_18 : decode cX5_setLength 18 = .ok (.getfield 97, 3) := by decide +kernel
theorem dX5_setLength_21 : decode cX5_setLength 21 = .ok (.istore_n 2, 1) := by decide +kernel
theorem dX5_setLength_22 : decode cX5_setLength 22 = .ok (.iload_n 2, 1) := by decide +kernel
theorem dX5_setLength_23 : decode cX5_setLength 23 = .ok (.iload_n 1, 1) := by decide +kernel
theorem dX5_setLength_24 : decode cX5_setLength 24 = .ok (.if_icmp .ne 6, 3) := by decide +kernel
theorem dX5_setLength_27 : decode cX5_setLength 27 = .ok (.ldc 81, 2) := by decide +kernel
theorem dX5_setLength_29 : decode cX5_setLength 29 = .ok (.ireturn, 1) := by decide +kernel
theorem dX5_setLength_30 : decode cX5_setLength 30 = .ok (.aload_n 0, 1) := by decide +kernel
theorem dX5_setLength_31 : decode cX5_setLength 31 = .ok (.getfield 29, 3) := by decide +kernel
theorem dX5_setLength_34 : decode cX5_setLength 34 = .ok (.aload_n 0, 1) := by decide +kernel
theorem dX5_setLength_35 : decode cX5_setLength 35 = .ok (.getfield 10, 3) := by decide +kernel
theorem dX5_setLength_38 : decode cX5_setLength 38 = .ok (.invokevirtual 82, 3) := by decide +kernel
theorem dX5_setLength_41 : decode cX5_setLength 41 = .ok (.aload_n 0, 1) := by decide +kernel
theorem dX5_setLength_42 : decode cX5_setLength 42 = .ok (.getfield 10, 3) := by decide +kernel
theorem dX5_setLength_45 : decode cX5_setLength 45 = .ok (.iload_n 1, 1) := by decide +kernel
theorem dX5_setLength_46 : decode cX5_setLength 46 = .ok (.putfield 97, 3) := by decide +kernel
theorem dX5_setLength_49 : decode cX5_setLength 49 = .ok (.iload_n 2, 1) := by decide +kernel
theorem dX5_setLength_50 : decode cX5_setLength 50 = .ok (.ireturn, 1) := by decide +kernel
theorem dX5_line_0 : decode cX5_line 0 = .ok (.aload_n 0, 1) := by decide +kernel
theorem dX5_line_1 : decode cX5_line 1 = .ok (.getfield 10, 3) := by decide +kernel
theorem dX5_line_4 : decode cX5_line 4 = .ok (.iload_n 1, 1) := by decide +kernel
theorem dX5_line_5 : decode cX5_line 5 = .ok (.invokevirtual 63, 3) := by decide +kernel
theorem dX5_line_8 : decode cX5_line 8 = .ok (.ifCond .ne 6, 3) := by decide +kernel
theorem dX5_line_11 : decode cX5_line 11 = .ok (.ldc 67, 2) := by decide +kernel
theorem dX5_line_13 : decode cX5_line 13 = .ok (.ireturn, 1) := by decide +kernel
theorem dX5_line_14 : decode cX5_line 14 = .ok (.iload_n 2, 1) := by decide +kernel
theorem dX5_line_15 : decode cX5_line 15 = .ok (.tableswitch 201 0 9 #[53, 62, 62, 62, 92, 105, 128, 148, 161, 181], 53) := by decide +kernel
theorem dX5_line_68 : decode cX5_line 68 = .ok (.aload_n 0, 1) := by decide +kernel
theorem dX5_line_69 : decode cX5_line 69 = .ok (.getfield 10, 3) := by decide +kernel
theorem dX5_line_72 : decode cX5_line 72 = .ok (.iload_n 1, 1) := by decide +kernel
theorem dX5_line_73 : decode cX5_line 73 = .ok (.invokevirtual 72, 3) := by decide +kernel
theorem dX5_line_76 : decode cX5_line 76 = .ok (.ireturn, 1) := by decide +kernel
theorem dX5_line_77 : decode cX5_line 77 = .ok (.iload_n 2, 1) := by decide +kernel
theorem dX5_line_78 : decode cX5_line 78 = .ok (.aload_n 0, 1) := by decide +kernel
theorem dX5_line_79 : decode cX5_line 79 = .ok (.getfield 10, 3) := by decide +kernel
theorem dX5_line_82 : decode cX5_line 82 = .ok (.iload_n 1, 1) := by decide +kernel
theorem dX5_line_83 : decode cX5_line 83 = .ok (.invokevirtual 72, 3) := by decide +kernel
theorem dX5_line_86 : decode cX5_line 86 = .ok (.invokestatic 125, 3) := by decide +kernel
theorem dX5_line_89 : decode cX5_line 89 = .ok (.if_icmp .le 8, 3) := by decide +kernel
theorem dX5_line_92 : decode cX5_line 92 = .ok (.ldc 81, 2) := by decide +kernel
theorem dX5_line_94 : decode cX5_line 94 = .ok (.goto 12, 3) := by decide +kernel
theorem dX5_line_97 : decode cX5_line 97 = .ok (.aload_n 0, 1) := by decide +kernel
theorem dX5_line_98 : decode cX5_line 98 = .ok (.getfield 10, 3) := by decide +kernel
theorem dX5_line_101 : decode cX5_line 101 = .ok (.iload_n 1, 1) := by decide +kernel
theorem dX5_line_102 : decode cX5_line 102 = .ok (.iload_n 2, 1) := by decide +kernel
theorem dX5_line_103 : decode cX5_line 103 = .ok (.invokevirtual 77, 3) := by decide +kernel
theorem dX5_line_106 : decode cX5_line 106 = .ok (.ireturn, 1) := by decide +kernel
theorem dX5_line_107 : decode cX5_line 107 = .ok (.aload_n 0, 1) := by decide +kernel
theorem dX5_line_108 : decode cX5_line 108 = .ok (.iload_n 1, 1) := by decide +kernel
theorem dX5_line_109 : decode cX5_line 109 = .ok (.aload_n 0, 1) := by decide +kernel
theorem dX5_line_110 : decode cX5_line 110 = .ok (.getfield 10, 3) := by decide +kernel
theorem dX5_line_113 : decode cX5_line 113 = .ok (.getfield 97, 3) := by decide +kernel
theorem dX5_line_116 : decode cX5_line 116 = .ok (.invokevirtual 128, 3) := by decide +kernel
theorem dX5_line_119 : decode cX5_line 119 = .ok (.ireturn, 1) := by decide +kernel
theorem dX5_line_120 : decode cX5_line 120 = .ok (.aload_n 0, 1) := by decide +kernel
theorem dX5_line_121 : decode cX5_line 121 = .ok (.iload_n 1, 1) := by decide +kernel
theorem dX5_line_122 : decode cX5_line 122 = .ok (.aload_n 0, 1) := by decide +kernel
theorem dX5_line_123 : decode cX5_line 123 = .ok (.getfield 10, 3) := by decide +kernel
theorem dX5_line_126 : decode cX5_line 126 = .ok (.getfield 97, 3) := by decide +kernel
theorem dX5_line_129 : decode cX5_line 129 = .ok (.invokevirtual 128, 3) := by decide +kernel
theorem dX5_line_132 : decode cX5_line 132 = .ok (.aload_n 0, 1) := by decide +kernel
theorem dX5_line_133 : decode cX5_line 133 = .ok (.getfield 10, 3) := by decide +kernel
theorem dX5_line_136 : decode cX5_line 136 = .ok (.getfield 97, 3) := by decide +kernel
theorem dX5_line_139 : decode cX5_line 139 = .ok (.invokestatic 131, 3) := by decide +kernel
theorem dX5_line_142 : decode cX5_line 142 = .ok (.ireturn, 1) := by decide +kernel
theorem dX5_line_143 : decode cX5_line 143 = .ok (.aload_n 0, 1) := by decide +kernel
theorem dX5_line_144 : decode cX5_line 144 = .ok (.getfield 43, 3) := by decide +kernel
theorem dX5_line_147 : decode cX5_line 147 = .ok (.aload_n 0, 1) := by decide +kernel
theorem dX5_line_148 : decode cX5_line 148 = .ok (.getfield 10, 3) := by decide +kernel
theorem dX5_line_151 : decode cX5_line 151 = .ok (.invokevirtual 134, 3) := by decide +kernel
theorem dX5_line_154 : decode cX5_line 154 = .ok (.aload_n 0, 1) := by decide +kernel
theorem dX5_line_155 : decode cX5_line 155 = .ok (.getfield 43, 3) := by decide +kernel
theorem dX5_line_158 : decode cX5_line 158 = .ok (.iload_n 1, 1) := by decide +kernel
theorem dX5_line_159 : decode cX5_line 159 = .ok (.invokevirtual 137, 3) := by decide +kernel
theorem dX5_line_162 : decode cX5_line 162 = .ok (.ireturn, 1) := by decide +kernel
theorem dX5_line_163 : decode cX5_line 163 = .ok (.aload_n 0, 1) := by decide +kernel
theorem dX5_line_164 : decode cX5_line 164 = .ok (.iload_n 1, 1) := by decide +kernel
theorem dX5_line_165 : decode cX5_line 165 = .ok (.aload_n 0, 1) := by decide +kernel
theorem dX5_line_166 : decode cX5_line 166 = .ok (.getfield 10, 3) := by decide +kernel
theorem dX5_line_169 : decode cX5_line 169 = .ok (.getfield 97, 3) := by decide +kernel
theorem dX5_line_172 : decode cX5_line 172 = .ok (.invokevirtual 140, 3) := by decide +kernel
theorem dX5_line_175 : decode cX5_line 175 = .ok (.ireturn, 1) := by decide +kernel
theorem dX5_line_176 : decode cX5_line 176 = .ok (.aload_n 0, 1) := by decide +kernel
theorem dX5_line_177 : decode cX5_line 177 = .ok (.getfield 43, 3) := by decide +kernel
theorem dX5_line_180 : decode cX5_line 180 = .ok (.aload_n 0, 1) := by decide +kernel
theorem dX5_line_181 : decode cX5_line 181 = .ok (.getfield 10, 3) := by decide +kernel
theorem dX5_line_184 : decode cX5_line 184 = .ok (.invokevirtual 134, 3) := by decide +kernel
theorem dX5_line_187 : decode cX5_line 187 = .ok (.aload_n 0, 1) := by decide +kernel
theorem dX5_line_188 : decode cX5_line 188 = .ok (.getfield 43, 3) := by decide +kernel
theorem dX5_line_191 : decode cX5_line 191 = .ok (.iload_n 1, 1) := by decide +kernel
theorem dX5_line_192 : decode cX5_line 192 = .ok (.invokevirtual 143, 3) := by decide +kernel
theorem dX5_line_195 : decode cX5_line 195 = .ok (.ireturn, 1) := by decide +kernel
theorem dX5_line_196 : decode cX5_line 196 = .ok (.aload_n 0, 1) := by decide +kernel
theorem dX5_line_197 : decode cX5_line 197 = .ok (.getfield 43, 3) := by decide +kernel
theorem dX5_line_200 : decode cX5_line 200 = .ok (.aload_n 0, 1) := by decide +kernel
theorem dX5_line_201 : decode cX5_line 201 = .ok (.getfield 10, 3) := by decide +kernel
theorem dX5_line_204 : decode cX5_line 204 = .ok (.invokevirtual 134, 3) := by decide +kernel
theorem dX5_line_207 : decode cX5_line 207 = .ok (.aload_n 0, 1) := by decide +kernel
theorem dX5_line_208 : decode cX5_line 208 = .ok (.getfield 43, 3) := by decide +kernel
theorem dX5_line_211 : decode cX5_line 211 = .ok (.iload_n 1, 1) := by decide +kernel
theorem dX5_line_212 : decode cX5_line 212 = .ok (.invokevirtual 146, 3) := by decide +kernel
theorem dX5_line_215 : decode cX5_line 215 = .ok (.ireturn, 1) := by decide +kernel
theorem dX5_line_216 : decode cX5_line 216 = .ok (.ldc 58, 2) := by decide +kernel
theorem dX5_line_218 : decode cX5_line 218 = .ok (.ireturn, 1) := by decide +kernel
theorem dX5_bit_0 : decode cX5_bit 0 = .ok (.aload_n 0, 1) := by decide +kernel
theorem dX5_bit_1 : decode cX5_bit 1 = .ok (.getfield 10, 3) := by decide +kernel
theorem dX5_bit_4 : decode cX5_bit 4 = .ok (.iload_n 1, 1) := by decide +kernel
theorem dX5_bit_5 : decode cX5_bit 5 = .ok (.invokevirtual 63, 3) := by decide +kernel
theorem dX5_bit_8 : decode cX5_bit 8 = .ok (.ifCond .ne 6, 3) := by decide +kernel
theorem dX5_bit_11 : decode cX5_bit 11 = .ok (.ldc 67, 2) := by decide +kernel
theorem dX5_bit_13 : decode cX5_bit 13 = .ok (.ireturn, 1) := by decide +kernel
theorem dX5_bit_14 : decode cX5_bit 14 = .ok (.iload_n 2, 1) := by decide +kernel
theorem dX5_bit_15 : decode cX5_bit 15 = .ok (.iconst 0, 1) := by decide +kernel
theorem dX5_bit_16 : decode cX5_bit 16 = .ok (.sipush 999, 3) := by decide +kernel
theorem dX5_bit_19 : decode cX5_bit 19 = .ok (.invokestatic 68, 3) := by decide +kernel
theorem dX5_bit_22 : decode cX5_bit 22 = .ok (.ifCond .ne 6, 3) := by decide +kernel
theorem dX5_bit_25 : decode cX5_bit 25 = .ok (.ldc 58, 2) := by decide +kernel
theorem dX5_bit_27 : decode cX5_bit 27 = .ok (.ireturn, 1) := by decide +kernel
theorem dX5_bit_28 : decode cX5_bit 28 = .ok (.aload_n 0, 1) := by decide +kernel
theorem dX5_bit_29 : decode cX5_bit 29 = .ok (.getfield 50, 3) := by decide +kernel
theorem dX5_bit_32 : decode cX5_bit 32 = .ok (.aload_n 0, 1) := by decide +kernel
theorem dX5_bit_33 : decode cX5_bit 33 = .ok (.getfield 10, 3) := by decide +kernel
theorem dX5_bit_36 : decode cX5_bit 36 = .ok (.iload_n 1, 1) := by decide +kernel
theorem dX5_bit_37 : decode cX5_bit 37 = .ok (.iload_n 2, 1) := by decide +kernel
theorem dX5_bit_38 : decode cX5_bit 38 = .ok (.iconst 1, 1) := by decide +kernel
theorem dX5_bit_39 : decode cX5_bit 39 = .ok (.iadd, 1) := by decide +kernel
theorem dX5_bit_40 : decode cX5_bit 40 = .ok (.invokevirtual 149, 3) := by decide +kernel
theorem dX5_bit_43 : decode cX5_bit 43 = .ok (.aload_n 0, 1) := by decide +kernel
theorem dX5_bit_44 : decode cX5_bit 44 = .ok (.getfield 50, 3) := by decide +kernel
theorem dX5_bit_47 : decode cX5_bit 47 = .ok (.iload_n 1, 1) := by decide +kernel
theorem dX5_bit_48 : decode cX5_bit 48 = .ok (.iload_n 2, 1) := by decide +kernel
theorem dX5_bit_49 : decode cX5_bit 49 = .ok (.invokevirtual 153, 3) := by decide +kernel
theorem dX5_bit_52 : decode cX5_bit 52 = .ok (.ireturn, 1) := by decide +kernel
theorem dX5_overlap_0 : decode cX5_overlap 0 = .ok (.aload_n 0, 1) := by decide +kernel
theorem dX5_overlap_1 : decode cX5_overlap 1 = .ok (.getfield 10, 3) := by decide +kernel
theorem dX5_overlap_4 : decode cX5_overlap 4 = .ok (.iload_n 1, 1) := by decide +kernel
theorem dX5_overlap_5 : decode cX5_overlap 5 = .ok (.invokevirtual 63, 3) := by decide +kernel
theorem dX5_overlap_8 : decode cX5_overlap 8 = .ok (.ifCond .eq 14, 3) := by decide +kernel
theorem dX5_overlap_11 : decode cX5_overlap 11 = .ok (.aload_n 0, 1) := by decide +kernel
theorem dX5_overlap_12 : decode cX5_overlap 12 = .ok (.getfield 10, 3) := by decide +kernel
theorem dX5_overlap_15 : decode cX5_overlap 15 = .ok (.iload_n 2, 1) := by decide +kernel
theorem dX5_overlap_16 : decode cX5_overlap 16 = .ok (.invokevirtual 63, 3) := by decide +kernel
theorem dX5_overlap_19 : decode cX5_overlap 19 = .ok (.ifCond .ne 6, 3) := by decide +kernel
theorem dX5_overlap_22 : decode cX5_overlap 22 = .ok (.ldc 67, 2) := by decide +kernel
theorem dX5_overlap_24 : decode cX5_overlap 24 = .ok (.ireturn, 1) := by decide +kernel
theorem dX5_overlap_25 : decode cX5_overlap 25 = .ok (.aload_n 0, 1) := by decide +kernel
theorem dX5_overlap_26 : decode cX5_overlap 26 = .ok (.getfield 10, 3) := by decide +kernel
theorem dX5_overlap_29 : decode cX5_overlap 29 = .ok (.getfield 97, 3) := by decide +kernel
theorem dX5_overlap_32 : decode cX5_overlap 32 = .ok (.i2l, 1) := by decide +kernel
theorem dX5_overlap_33 : decode cX5_overlap 33 = .ok (.lstore_n 3, 1) := by decide +kernel
theorem dX5_overlap_34 : decode cX5_overlap 34 = .ok (.lload_n 3, 1) := by decide +kernel
theorem dX5_overlap_35 : decode cX5_overlap 35 = .ok (.lconst 1, 1) := by decide +kernel
theorem dX5_overlap_36 : decode cX5_overlap 36 = .ok (.lcmp, 1) := by decide +kernel
theorem dX5_overlap_37 : decode cX5_overlap 37 = .ok (.ifCond .ge 5, 3) := by decide +kernel
theorem dX5_overlap_40 : decode cX5_overlap 40 = .ok (.iconst 0, 1) := by decide +kernel
theorem dX5_overlap_41 : decode cX5_overlap 41 = .ok (.ireturn, 1) := by decide +kernel
theorem dX5_overlap_42 : decode cX5_overlap 42 = .ok (.aload_n 0, 1) := by decide +kernel
theorem dX5_overlap_43 : decode cX5_overlap 43 = .ok (.getfield 50, 3) := by decide +kernel
theorem dX5_overlap_46 : decode cX5_overlap 46 = .ok (.aload_n 0, 1) := by decide +kernel
theorem dX5_overlap_47 : decode cX5_overlap 47 = .ok (.getfield 10, 3) := by decide +kernel
theorem dX5_overlap_50 : decode cX5_overlap 50 = .ok (.iload_n 1, 1) := by decide +kernel
theorem dX5_overlap_51 : decode cX5_overlap 51 = .ok (.iload_n 2, 1) := by decide +kernel
theorem dX5_overlap_52 : decode cX5_overlap 52 = .ok (.invokestatic 156, 3) := by decide +kernel
theorem dX5_overlap_55 : decode cX5_overlap 55 = .ok (.aload_n 0, 1) := by decide +kernel
theorem dX5_overlap_56 : decode cX5_overlap 56 = .ok (.getfield 10, 3) := by decide +kernel
theorem dX5_overlap_59 : decode cX5_overlap 59 = .ok (.getfield 97, 3) := by decide +kernel
theorem dX5_overlap_62 : decode cX5_overlap 62 = .ok (.invokevirtual 149, 3) := by decide +kernel
theorem dX5_overlap_65 : decode cX5_overlap 65 = .ok (.aload_n 0, 1) := by decide +kernel
theorem dX5_overlap_66 : decode cX5_overlap 66 = .ok (.getfield 50, 3) := by decide +kernel
theorem dX5_overlap_69 : decode cX5_overlap 69 = .ok (.iload_n 1, 1) := by decide +kernel
theorem dX5_overlap_70 : decode cX5_overlap 70 = .ok (.iload_n 2, 1) := by decide +kernel
theorem dX5_overlap_71 : decode cX5_overlap 71 = .ok (.aload_n 0, 1) := by decide +kernel
theorem dX5_overlap_72 : decode cX5_overlap 72 = .ok (.getfield 10, 3) := by decide +kernel
theorem dX5_overlap_75 : decode cX5_overlap 75 = .ok (.getfield 97, 3) := by decide +kernel
theorem dX5_overlap_78 : decode cX5_overlap 78 = .ok (.invokevirtual 161, 3) := by decide +kernel
theorem dX5_overlap_81 : decode cX5_overlap 81 = .ok (.i2l, 1) := by decide +kernel
theorem dX5_overlap_82 : decode cX5_overlap 82 = .ok (.lstore 5, 2) := by decide +kernel
theorem dX5_overlap_84 : decode cX5_overlap 84 = .ok (.aload_n 0, 1) := by decide +kernel
theorem dX5_overlap_85 : decode cX5_overlap 85 = .ok (.getfield 50, 3) := by decide +kernel
theorem dX5_overlap_88 : decode cX5_overlap 88 = .ok (.iload_n 1, 1) := by decide +kernel
theorem dX5_overlap_89 : decode cX5_overlap 89 = .ok (.aload_n 0, 1) := by decide +kernel
theorem dX5_overlap_90 : decode cX5_overlap 90 = .ok (.getfield 10, 3) := by decide +kernel
theorem dX5_overlap_93 : decode cX5_overlap 93 = .ok (.getfield 97, 3) := by decide +kernel
theorem dX5_overlap_96 : decode cX5_overlap 96 = .ok (.invokevirtual 165, 3) := by decide +kernel
theorem dX5_overlap_99 : decode cX5_overlap 99 = .ok (.i2l, 1) := by decide +kernel
theorem dX5_overlap_100 : decode cX5_overlap 100 = .ok (.aload_n 0, 1) := by decide +kernel
theorem dX5_overlap_101 : decode cX5_overlap 101 = .ok (.getfield 50, 3) := by decide +kernel
theorem dX5_overlap_104 : decode cX5_overlap 104 = .ok (.iload_n 2, 1) := by decide +kernel
theorem dX5_overlap_105 : decode cX5_overlap 105 = .ok (.aload_n 0, 1) := by decide +kernel
theorem dX5_overlap_106 : decode cX5_overlap 106 = .ok (.getfield 10, 3) := by decide +kernel
theorem dX5_overlap_109 : decode cX5_overlap 109 = .ok (.getfield 97, 3) := by decide +kernel
theorem dX5_overlap_112 : decode cX5_overlap 112 = .ok (.invokevirtual 165, 3) := by decide +kernel
theorem dX5_overlap_115 : decode cX5_overlap 115 = .ok (.i2l, 1) := by decide +kernel
theorem dX5_overlap_116 : decode cX5_overlap 116 = .ok (.lmul, 1) := by decide +kernel
theorem dX5_overlap_117 : decode cX5_overlap 117 = .ok (.lstore 7, 2) := by decide +kernel
theorem dX5_overlap_119 : decode cX5_overlap 119 = .ok (.lload 5, 2) := by decide +kernel
theorem dX5_overlap_121 : decode cX5_overlap 121 = .ok (.lload_n 3, 1) := by decide +kernel
theorem dX5_overlap_122 : decode cX5_overlap 122 = .ok (.lmul, 1) := by decide +kernel
theorem dX5_overlap_123 : decode cX5_overlap 123 = .ok (.lload 7, 2) := by decide +kernel
theorem dX5_overlap_125 : decode cX5_overlap 125 = .ok (.lsub, 1) := by decide +kernel
theorem dX5_overlap_126 : decode cX5_overlap 126 = .ok (.ldc2_w 168, 3) := by decide +kernel
theorem dX5_overlap_129 : decode cX5_overlap 129 = .ok (.lmul, 1) := by decide +kernel
theorem dX5_overlap_130 : decode cX5_overlap 130 = .ok (.lload_n 3, 1) := by decide +kernel
theorem dX5_overlap_131 : decode cX5_overlap 131 = .ok (.lload_n 3, 1) := by decide +kernel
theorem dX5_overlap_132 : decode cX5_overlap 132 = .ok (.lmul, 1) := by decide +kernel
theorem dX5_overlap_133 : decode cX5_overlap 133 = .ok (.ldiv, 1) := by decide +kernel
theorem dX5_overlap_134 : decode cX5_overlap 134 = .ok (.l2i, 1) := by decide +kernel
theorem dX5_overlap_135 : decode cX5_overlap 135 = .ok (.ireturn, 1) := by decide +kernel
theorem dX5_errorAt_0 : decode cX5_errorAt 0 = .ok (.aload_n 0, 1) := by decide +kernel
theorem dX5_errorAt_1 : decode cX5_errorAt 1 = .ok (.getfield 10, 3) := by decide +kernel
theorem dX5_errorAt_4 : decode cX5_errorAt 4 = .ok (.iload_n 1, 1) := by decide +kernel
theorem dX5_errorAt_5 : decode cX5_errorAt 5 = .ok (.invokevirtual 63, 3) := by decide +kernel
theorem dX5_errorAt_8 : decode cX5_errorAt 8 = .ok (.ifCond .ne 6, 3) := by decide +kernel
theorem dX5_errorAt_11 : decode cX5_errorAt 11 = .ok (.ldc 67, 2) := by decide +kernel
theorem dX5_errorAt_13 : decode cX5_errorAt 13 = .ok (.ireturn, 1) := by decide +kernel
theorem dX5_errorAt_14 : decode cX5_errorAt 14 = .ok (.iload_n 2, 1) := by decide +kernel
theorem dX5_errorAt_15 : decode cX5_errorAt 15 = .ok (.iconst 1, 1) := by decide +kernel
theorem dX5_errorAt_16 : decode cX5_errorAt 16 = .ok (.sipush 1000, 3) := by decide +kernel
theorem dX5_errorAt_19 : decode cX5_errorAt 19 = .ok (.invokestatic 68, 3) := by decide +kernel
theorem dX5_errorAt_22 : decode cX5_errorAt 22 = .ok (.ifCond .ne 6, 3) := by decide +kernel
theorem dX5_errorAt_25 : decode cX5_errorAt 25 = .ok (.ldc 58, 2) := by decide +kernel
theorem dX5_errorAt_27 : decode cX5_errorAt 27 = .ok (.ireturn, 1) := by decide +kernel
theorem dX5_errorAt_28 : decode cX5_errorAt 28 = .ok (.aload_n 0, 1) := by decide +kernel
theorem dX5_errorAt_29 : decode cX5_errorAt 29 = .ok (.iload_n 1, 1) := by decide +kernel
theorem dX5_errorAt_30 : decode cX5_errorAt 30 = .ok (.iload_n 2, 1) := by decide +kernel
theorem dX5_errorAt_31 : decode cX5_errorAt 31 = .ok (.invokevirtual 140, 3) := by decide +kernel
theorem dX5_errorAt_34 : decode cX5_errorAt 34 = .ok (.ireturn, 1) := by decide +kernel
theorem dX5_settles_0 : decode cX5_settles 0 = .ok (.aload_n 0, 1) := by decide +kernel
theorem dX5_settles_1 : decode cX5_settles 1 = .ok (.getfield 10, 3) := by decide +kernel
theorem dX5_settles_4 : decode cX5_settles 4 = .ok (.iload_n 1, 1) := by decide +kernel
theorem dX5_settles_5 : decode cX5_settles 5 = .ok (.invokevirtual 63, 3) := by decide +kernel
theorem dX5_settles_8 : decode cX5_settles 8 = .ok (.ifCond .ne 6, 3) := by decide +kernel
theorem dX5_settles_11 : decode cX5_settles 11 = .ok (.ldc 67, 2) := by decide +kernel
theorem dX5_settles_13 : decode cX5_settles 13 = .ok (.ireturn, 1) := by decide +kernel
theorem dX5_settles_14 : decode cX5_settles 14 = .ok (.iload_n 2, 1) := by decide +kernel
theorem dX5_settles_15 : decode cX5_settles 15 = .ok (.iconst 0, 1) := by decide +kernel
theorem dX5_settles_16 : decode cX5_settles 16 = .ok (.ldc 170, 2) := by decide +kernel
theorem dX5_settles_18 : decode cX5_settles 18 = .ok (.invokestatic 68, 3) := by decide +kernel
theorem dX5_settles_21 : decode cX5_settles 21 = .ok (.ifCond .ne 6, 3) := by decide +kernel
theorem dX5_settles_24 : decode cX5_settles 24 = .ok (.ldc 58, 2) := by decide +kernel
theorem dX5_settles_26 : decode cX5_settles 26 = .ok (.ireturn, 1) := by decide +kernel
theorem dX5_settles_27 : decode cX5_settles 27 = .ok (.aload_n 0, 1) := by decide +kernel
theorem dX5_settles_28 : decode cX5_settles 28 = .ok (.iload_n 1, 1) := by decide +kernel
theorem dX5_settles_29 : decode cX5_settles 29 = .ok (.iload_n 2, 1) := by decide +kernel
theorem dX5_settles_30 : decode cX5_settles 30 = .ok (.invokevirtual 171, 3) := by decide +kernel
theorem dX5_settles_33 : decode cX5_settles 33 = .ok (.istore_n 3, 1) := by decide +kernel
theorem dX5_settles_34 : decode cX5_settles 34 = .ok (.iload_n 3, 1) := by decide +kernel
theorem dX5_settles_35 : decode cX5_settles 35 = .ok (.sipush 1000, 3) := by decide +kernel
theorem dX5_settles_38 : decode cX5_settles 38 = .ok (.if_icmp .ne 8, 3) := by decide +kernel
theorem dX5_settles_41 : decode cX5_settles 41 = .ok (.ldc 81, 2) := by decide +kernel
theorem dX5_settles_43 : decode cX5_settles 43 = .ok (.goto 6, 3) := by decide +kernel
theorem dX5_settles_46 : decode cX5_settles 46 = .ok (.iload_n 3, 1) := by decide +kernel
theorem dX5_settles_47 : decode cX5_settles 47 = .ok (.iconst 1, 1) := by decide +kernel
theorem dX5_settles_48 : decode cX5_settles 48 = .ok (.iadd, 1) := by decide +kernel
theorem dX5_settles_49 : decode cX5_settles 49 = .ok (.ireturn, 1) := by decide +kernel
theorem dX5_unlike_0 : decode cX5_unlike 0 = .ok (.aload_n 0, 1) := by decide +kernel
theorem dX5_unlike_1 : decode cX5_unlike 1 = .ok (.getfield 10, 3) := by decide +kernel
theorem dX5_unlike_4 : decode cX5_unlike 4 = .ok (.iload_n 1, 1) := by decide +kernel
theorem dX5_unlike_5 : decode cX5_unlike 5 = .ok (.invokevirtual 63, 3) := by decide +kernel
theorem dX5_unlike_8 : decode cX5_unlike 8 = .ok (.ifCond .ne 6, 3) := by decide +kernel
theorem dX5_unlike_11 : decode cX5_unlike 11 = .ok (.ldc 67, 2) := by decide +kernel
theorem dX5_unlike_13 : decode cX5_unlike 13 = .ok (.ireturn, 1) := by decide +kernel
theorem dX5_unlike_14 : decode cX5_unlike 14 = .ok (.aload_n 0, 1) := by decide +kernel
theorem dX5_unlike_15 : decode cX5_unlike 15 = .ok (.getfield 50, 3) := by decide +kernel
theorem dX5_unlike_18 : decode cX5_unlike 18 = .ok (.aload_n 0, 1) := by decide +kernel
theorem dX5_unlike_19 : decode cX5_unlike 19 = .ok (.getfield 10, 3) := by decide +kernel
theorem dX5_unlike_22 : decode cX5_unlike 22 = .ok (.iload_n 1, 1) := by decide +kernel
theorem dX5_unlike_23 : decode cX5_unlike 23 = .ok (.sipush 510, 3) := by decide +kernel
theorem dX5_unlike_26 : decode cX5_unlike 26 = .ok (.invokevirtual 149, 3) := by decide +kernel
theorem dX5_unlike_29 : decode cX5_unlike 29 = .ok (.iconst 0, 1) := by decide +kernel
theorem dX5_unlike_30 : decode cX5_unlike 30 = .ok (.istore_n 2, 1) := by decide +kernel
theorem dX5_unlike_31 : decode cX5_unlike 31 = .ok (.bipush 60, 2) := by decide +kernel
theorem dX5_unlike_33 : decode cX5_unlike 33 = .ok (.istore_n 3, 1) := by decide +kernel
theorem dX5_unlike_34 : decode cX5_unlike 34 = .ok (.iload_n 3, 1) := by decide +kernel
theorem dX5_unlike_35 : decode cX5_unlike 35 = .ok (.sipush 255, 3) := by decide +kernel
theorem dX5_unlike_38 : decode cX5_unlike 38 = .ok (.if_icmp .ge 37, 3) := by decide +kernel
theorem dX5_unlike_41 : decode cX5_unlike 41 = .ok (.aload_n 0, 1) := by decide +kernel
theorem dX5_unlike_42 : decode cX5_unlike 42 = .ok (.getfield 50, 3) := by decide +kernel
theorem dX5_unlike_45 : decode cX5_unlike 45 = .ok (.iload_n 1, 1) := by decide +kernel
theorem dX5_unlike_46 : decode cX5_unlike 46 = .ok (.iload_n 3, 1) := by decide +kernel
theorem dX5_unlike_47 : decode cX5_unlike 47 = .ok (.invokevirtual 153, 3) := by decide +kernel
theorem dX5_unlike_50 : decode cX5_unlike 50 = .ok (.aload_n 0, 1) := by decide +kernel
theorem dX5_unlike_51 : decode cX5_unlike 51 = .ok (.getfield 50, 3) := by decide +kernel
theorem dX5_unlike_54 : decode cX5_unlike 54 = .ok (.iload_n 1, 1) := by decide +kernel
theorem dX5_unlike_55 : decode cX5_unlike 55 = .ok (.iload_n 3, 1) := by decide +kernel
theorem dX5_unlike_56 : decode cX5_unlike 56 = .ok (.sipush 255, 3) := by decide +kernel
theorem dX5_unlike_59 : decode cX5_unlike 59 = .ok (.iadd, 1) := by decide +kernel
theorem dX5_unlike_60 : decode cX5_unlike 60 = .ok (.invokevirtual 153, 3) := by decide +kernel
theorem dX5_unlike_63 : decode cX5_unlike 63 = .ok (.if_icmp .eq 6, 3) := by decide +kernel
theorem dX5_unlike_66 : decode cX5_unlike 66 = .ok (.iinc 2 1, 3) := by decide +kernel
theorem dX5_unlike_69 : decode cX5_unlike 69 = .ok (.iinc 3 1, 3) := by decide +kernel
theorem dX5_unlike_72 : decode cX5_unlike 72 = .ok (.goto (-38), 3) := by decide +kernel
theorem dX5_unlike_75 : decode cX5_unlike 75 = .ok (.iload_n 2, 1) := by decide +kernel
theorem dX5_unlike_76 : decode cX5_unlike 76 = .ok (.ireturn, 1) := by decide +kernel
theorem dX5_count_0 : decode cX5_count 0 = .ok (.iload_n 1, 1) := by decide +kernel
theorem dX5_count_1 : decode cX5_count 1 = .ok (.tableswitch 123 0 7 #[47, 55, 63, 71, 76, 81, 107, 115], 47) := by decide +kernel
theorem dX5_count_48 : decode cX5_count 48 = .ok (.aload_n 0, 1) := by decide +kernel
theorem dX5_count_49 : decode cX5_count 49 = .ok (.getfield 10, 3) := by decide +kernel
theorem dX5_count_52 : decode cX5_count 52 = .ok (.getfield 90, 3) := by decide +kernel
theorem dX5_count_55 : decode cX5_count 55 = .ok (.ireturn, 1) := by decide +kernel
theorem dX5_count_56 : decode cX5_count 56 = .ok (.aload_n 0, 1) := by decide +kernel
theorem dX5_count_57 : decode cX5_count 57 = .ok (.getfield 10, 3) := by decide +kernel
theorem dX5_count_60 : decode cX5_count 60 = .ok (.getfield 97, 3) := by decide +kernel
theorem dX5_count_63 : decode cX5_count 63 = .ok (.ireturn, 1) := by decide +kernel
theorem dX5_count_64 : decode cX5_count 64 = .ok (.aload_n 0, 1) := by decide +kernel
theorem dX5_count_65 : decode cX5_count 65 = .ok (.getfield 10, 3) := by decide +kernel
theorem dX5_count_68 : decode cX5_count 68 = .ok (.invokevirtual 177, 3) := by decide +kernel
theorem dX5_count_71 : decode cX5_count 71 = .ok (.ireturn, 1) := by decide +kernel
theorem dX5_count_72 : decode cX5_count 72 = .ok (.aload_n 0, 1) := by decide +kernel
theorem dX5_count_73 : decode cX5_count 73 = .ok (.invokevirtual 181, 3) := by decide +kernel
theorem dX5_count_76 : decode cX5_count 76 = .ok (.ireturn, 1) := by decide +kernel
theorem dX5_count_77 : decode cX5_count 77 = .ok (.aload_n 0, 1) := by decide +kernel
theorem dX5_count_78 : decode cX5_count 78 = .ok (.invokevirtual 184, 3) := by decide +kernel
theorem dX5_count_81 : decode cX5_count 81 = .ok (.ireturn, 1) := by decide +kernel
theorem dX5_count_82 : decode cX5_count 82 = .ok (.aload_n 0, 1) := by decide +kernel
theorem dX5_count_83 : decode cX5_count 83 = .ok (.getfield 43, 3) := by decide +kernel
theorem dX5_count_86 : decode cX5_count 86 = .ok (.aload_n 0, 1) := by decide +kernel
theorem dX5_count_87 : decode cX5_count 87 = .ok (.getfield 10, 3) := by decide +kernel
theorem dX5_count_90 : decode cX5_count 90 = .ok (.invokevirtual 134, 3) := by decide +kernel
theorem dX5_count_93 : decode cX5_count 93 = .ok (.aload_n 0, 1) := by decide +kernel
theorem dX5_count_94 : decode cX5_count 94 = .ok (.getfield 43, 3) := by decide +kernel
theorem dX5_count_97 : decode cX5_count 97 = .ok (.aload_n 0, 1) := by decide +kernel
theorem dX5_count_98 : decode cX5_count 98 = .ok (.getfield 10, 3) := by decide +kernel
theorem dX5_count_101 : decode cX5_count 101 = .ok (.getfield 90, 3) := by decide +kernel
theorem dX5_count_104 : decode cX5_count 104 = .ok (.invokevirtual 187, 3) := by decide +kernel
theorem dX5_count_107 : decode cX5_count 107 = .ok (.ireturn, 1) := by decide +kernel
theorem dX5_count_108 : decode cX5_count 108 = .ok (.aload_n 0, 1) := by decide +kernel
theorem dX5_count_109 : decode cX5_count 109 = .ok (.getfield 29, 3) := by decide +kernel
theorem dX5_count_112 : decode cX5_count 112 = .ok (.getfield 118, 3) := by decide +kernel
theorem dX5_count_115 : decode cX5_count 115 = .ok (.ireturn, 1) := by decide +kernel
theorem dX5_count_116 : decode cX5_count 116 = .ok (.aload_n 0, 1) := by decide +kernel
theorem dX5_count_117 : decode cX5_count 117 = .ok (.getfield 36, 3) := by decide +kernel
theorem dX5_count_120 : decode cX5_count 120 = .ok (.getfield 113, 3) := by decide +kernel
theorem dX5_count_123 : decode cX5_count 123 = .ok (.ireturn, 1) := by decide +kernel
theorem dX5_count_124 : decode cX5_count 124 = .ok (.ldc 58, 2) := by decide +kernel
theorem dX5_count_126 : decode cX5_count 126 = .ok (.ireturn, 1) := by decide +kernel
theorem dX5_addLine_0 : decode cX5_addLine 0 = .ok (.aload_n 0, 1) := by decide +kernel
theorem dX5_addLine_1 : decode cX5_addLine 1 = .ok (.getfield 10, 3) := by decide +kernel
theorem dX5_addLine_4 : decode cX5_addLine 4 = .ok (.getfield 90, 3) := by decide +kernel
theorem dX5_addLine_7 : decode cX5_addLine 7 = .ok (.bipush 16, 2) := by decide +kernel
theorem dX5_addLine_9 : decode cX5_addLine 9 = .ok (.if_icmp .lt 6, 3) := by decide +kernel
theorem dX5_addLine_12 : decode cX5_addLine 12 = .ok (.ldc 109, 2) := by decide +kernel
theorem dX5_addLine_14 : decode cX5_addLine 14 = .ok (.ireturn, 1) := by decide +kernel
theorem dX5_addLine_15 : decode cX5_addLine 15 = .ok (.aload_n 0, 1) := by decide +kernel
theorem dX5_addLine_16 : decode cX5_addLine 16 = .ok (.getfield 29, 3) := by decide +kernel
theorem dX5_addLine_19 : decode cX5_addLine 19 = .ok (.aload_n 0, 1) := by decide +kernel
theorem dX5_addLine_20 : decode cX5_addLine 20 = .ok (.getfield 10, 3) := by decide +kernel
theorem dX5_addLine_23 : decode cX5_addLine 23 = .ok (.invokevirtual 82, 3) := by decide +kernel
theorem dX5_addLine_26 : decode cX5_addLine 26 = .ok (.aload_n 0, 1) := by decide +kernel
theorem dX5_addLine_27 : decode cX5_addLine 27 = .ok (.getfield 10, 3) := by decide +kernel
theorem dX5_addLine_30 : decode cX5_addLine 30 = .ok (.iload_n 1, 1) := by decide +kernel
theorem dX5_addLine_31 : decode cX5_addLine 31 = .ok (.iload_n 2, 1) := by decide +kernel
theorem dX5_addLine_32 : decode cX5_addLine 32 = .ok (.iload_n 3, 1) := by decide +kernel
theorem dX5_addLine_33 : decode cX5_addLine 33 = .ok (.iload 4, 2) := by decide +kernel
theorem dX5_addLine_35 : decode cX5_addLine 35 = .ok (.invokevirtual 190, 3) := by decide +kernel
theorem dX5_addLine_38 : decode cX5_addLine 38 = .ok (.aload_n 0, 1) := by decide +kernel
theorem dX5_addLine_39 : decode cX5_addLine 39 = .ok (.getfield 10, 3) := by decide +kernel
theorem dX5_addLine_42 : decode cX5_addLine 42 = .ok (.getfield 90, 3) := by decide +kernel
theorem dX5_addLine_45 : decode cX5_addLine 45 = .ok (.iconst 1, 1) := by decide +kernel
theorem dX5_addLine_46 : decode cX5_addLine 46 = .ok (.isub, 1) := by decide +kernel
theorem dX5_addLine_47 : decode cX5_addLine 47 = .ok (.ireturn, 1) := by decide +kernel
theorem dX5_onesOver_0 : decode cX5_onesOver 0 = .ok (.aload_n 0, 1) := by decide +kernel
theorem dX5_onesOver_1 : decode cX5_onesOver 1 = .ok (.getfield 50, 3) := by decide +kernel
theorem dX5_onesOver_4 : decode cX5_onesOver 4 = .ok (.aload_n 0, 1) := by decide +kernel
theorem dX5_onesOver_5 : decode cX5_onesOver 5 = .ok (.getfield 10, 3) := by decide +kernel
theorem dX5_onesOver_8 : decode cX5_onesOver 8 = .ok (.iload_n 1, 1) := by decide +kernel
theorem dX5_onesOver_9 : decode cX5_onesOver 9 = .ok (.iload_n 2, 1) := by decide +kernel
theorem dX5_onesOver_10 : decode cX5_onesOver 10 = .ok (.invokevirtual 149, 3) := by decide +kernel
theorem dX5_onesOver_13 : decode cX5_onesOver 13 = .ok (.aload_n 0, 1) := by decide +kernel
theorem dX5_onesOver_14 : decode cX5_onesOver 14 = .ok (.getfield 50, 3) := by decide +kernel
theorem dX5_onesOver_17 : decode cX5_onesOver 17 = .ok (.iload_n 1, 1) := by decide +kernel
theorem dX5_onesOver_18 : decode cX5_onesOver 18 = .ok (.iload_n 2, 1) := by decide +kernel
theorem dX5_onesOver_19 : decode cX5_onesOver 19 = .ok (.invokevirtual 165, 3) := by decide +kernel
theorem dX5_onesOver_22 : decode cX5_onesOver 22 = .ok (.ireturn, 1) := by decide +kernel
theorem dX5_errorOver_0 : decode cX5_errorOver 0 = .ok (.aload_n 0, 1) := by decide +kernel
theorem dX5_errorOver_1 : decode cX5_errorOver 1 = .ok (.getfield 43, 3) := by decide +kernel
theorem dX5_errorOver_4 : decode cX5_errorOver 4 = .ok (.aload_n 0, 1) := by decide +kernel
theorem dX5_errorOver_5 : decode cX5_errorOver 5 = .ok (.getfield 10, 3) := by decide +kernel
theorem dX5_errorOver_8 : decode cX5_errorOver 8 = .ok (.invokevirtual 134, 3) := by decide +kernel
theorem dX5_errorOver_11 : decode cX5_errorOver 11 = .ok (.aload_n 0, 1) := by decide +kernel
theorem dX5_errorOver_12 : decode cX5_errorOver 12 = .ok (.getfield 50, 3) := by decide +kernel
theorem dX5_errorOver_15 : decode cX5_errorOver 15 = .ok (.aload_n 0, 1) := by decide +kernel
theorem dX5_errorOver_16 : decode cX5_errorOver 16 = .ok (.getfield 10, 3) := by decide +kernel
theorem dX5_errorOver_19 : decode cX5_errorOver 19 = .ok (.iload_n 1, 1) := by decide +kernel
theorem dX5_errorOver_20 : decode cX5_errorOver 20 = .ok (.iload_n 2, 1) := by decide +kernel
theorem dX5_errorOver_21 : decode cX5_errorOver 21 = .ok (.invokevirtual 149, 3) := by decide +kernel
theorem dX5_errorOver_24 : decode cX5_errorOver 24 = .ok (.aload_n 0, 1) := by decide +kernel
theorem dX5_errorOver_25 : decode cX5_errorOver 25 = .ok (.iload_n 1, 1) := by decide +kernel
theorem dX5_errorOver_26 : decode cX5_errorOver 26 = .ok (.iload_n 2, 1) := by decide +kernel
theorem dX5_errorOver_27 : decode cX5_errorOver 27 = .ok (.invokevirtual 194, 3) := by decide +kernel
theorem dX5_errorOver_30 : decode cX5_errorOver 30 = .ok (.ireturn, 1) := by decide +kernel
theorem dX5_errorOfFilled_0 : decode cX5_errorOfFilled 0 = .ok (.aload_n 0, 1) := by decide +kernel
theorem dX5_errorOfFilled_1 : decode cX5_errorOfFilled 1 = .ok (.iload_n 1, 1) := by decide +kernel
theorem dX5_errorOfFilled_2 : decode cX5_errorOfFilled 2 = .ok (.aload_n 0, 1) := by decide +kernel
theorem dX5_errorOfFilled_3 : decode cX5_errorOfFilled 3 = .ok (.getfield 50, 3) := by decide +kernel
theorem dX5_errorOfFilled_6 : decode cX5_errorOfFilled 6 = .ok (.iload_n 1, 1) := by decide +kernel
theorem dX5_errorOfFilled_7 : decode cX5_errorOfFilled 7 = .ok (.iload_n 2, 1) := by decide +kernel
theorem dX5_errorOfFilled_8 : decode cX5_errorOfFilled 8 = .ok (.invokevirtual 165, 3) := by decide +kernel
theorem dX5_errorOfFilled_11 : decode cX5_errorOfFilled 11 = .ok (.iload_n 2, 1) := by decide +kernel
theorem dX5_errorOfFilled_12 : decode cX5_errorOfFilled 12 = .ok (.invokevirtual 197, 3) := by decide +kernel
theorem dX5_errorOfFilled_15 : decode cX5_errorOfFilled 15 = .ok (.ireturn, 1) := by decide +kernel
theorem dX5_errorOfCount_0 : decode cX5_errorOfCount 0 = .ok (.iload_n 2, 1) := by decide +kernel
theorem dX5_errorOfCount_1 : decode cX5_errorOfCount 1 = .ok (.iload_n 3, 1) := by decide +kernel
theorem dX5_errorOfCount_2 : decode cX5_errorOfCount 2 = .ok (.invokestatic 131, 3) := by decide +kernel
theorem dX5_errorOfCount_5 : decode cX5_errorOfCount 5 = .ok (.aload_n 0, 1) := by decide +kernel
theorem dX5_errorOfCount_6 : decode cX5_errorOfCount 6 = .ok (.getfield 43, 3) := by decide +kernel
theorem dX5_errorOfCount_9 : decode cX5_errorOfCount 9 = .ok (.iload_n 1, 1) := by decide +kernel
theorem dX5_errorOfCount_10 : decode cX5_errorOfCount 10 = .ok (.invokevirtual 137, 3) := by decide +kernel
theorem dX5_errorOfCount_13 : decode cX5_errorOfCount 13 = .ok (.isub, 1) := by decide +kernel
theorem dX5_errorOfCount_14 : decode cX5_errorOfCount 14 = .ok (.invokestatic 200, 3) := by decide +kernel
theorem dX5_errorOfCount_17 : decode cX5_errorOfCount 17 = .ok (.ireturn, 1) := by decide +kernel
theorem dX5_lastLengthBeyond_0 : decode cX5_lastLengthBeyond 0 = .ok (.aload_n 0, 1) := by decide +kernel
theorem dX5_lastLengthBeyond_1 : decode cX5_lastLengthBeyond 1 = .ok (.getfield 43, 3) := by decide +kernel
theorem dX5_lastLengthBeyond_4 : decode cX5_lastLengthBeyond 4 = .ok (.aload_n 0, 1) := by decide +kernel
theorem dX5_lastLengthBeyond_5 : decode cX5_lastLengthBeyond 5 = .ok (.getfield 10, 3) := by decide +kernel
theorem dX5_lastLengthBeyond_8 : decode cX5_lastLengthBeyond 8 = .ok (.invokevirtual 134, 3) := by decide +kernel
theorem dX5_lastLengthBeyond_11 : decode cX5_lastLengthBeyond 11 = .ok (.aload_n 0, 1) := by decide +kernel
theorem dX5_lastLengthBeyond_12 : decode cX5_lastLengthBeyond 12 = .ok (.getfield 50, 3) := by decide +kernel
theorem dX5_lastLengthBeyond_15 : decode cX5_lastLengthBeyond 15 = .ok (.aload_n 0, 1) := by decide +kernel
theorem dX5_lastLengthBeyond_16 : decode cX5_lastLengthBeyond 16 = .ok (.getfield 10, 3) := by decide +kernel
theorem dX5_lastLengthBeyond_19 : decode cX5_lastLengthBeyond 19 = .ok (.iload_n 1, 1) := by decide +kernel
theorem dX5_lastLengthBeyond_20 : decode cX5_lastLengthBeyond 20 = .ok (.sipush 1000, 3) := by decide +kernel
theorem dX5_lastLengthBeyond_23 : decode cX5_lastLengthBeyond 23 = .ok (.invokevirtual 149, 3) := by decide +kernel
theorem dX5_lastLengthBeyond_26 : decode cX5_lastLengthBeyond 26 = .ok (.iconst 0, 1) := by decide +kernel
theorem dX5_lastLengthBeyond_27 : decode cX5_lastLengthBeyond 27 = .ok (.istore_n 3, 1) := by decide +kernel
theorem dX5_lastLengthBeyond_28 : decode cX5_lastLengthBeyond 28 = .ok (.iconst 0, 1) := by decide +kernel
theorem dX5_lastLengthBeyond_29 : decode cX5_lastLengthBeyond 29 = .ok (.istore 4, 2) := by decide +kernel
theorem dX5_lastLengthBeyond_31 : decode cX5_lastLengthBeyond 31 = .ok (.iconst 1, 1) := by decide +kernel
theorem dX5_lastLengthBeyond_32 : decode cX5_lastLengthBeyond 32 = .ok (.istore 5, 2) := by decide +kernel
theorem dX5_lastLengthBeyond_34 : decode cX5_lastLengthBeyond 34 = .ok (.iload 5, 2) := by decide +kernel
theorem dX5_lastLengthBeyond_36 : decode cX5_lastLengthBeyond 36 = .ok (.sipush 1000, 3) := by decide +kernel
theorem dX5_lastLengthBeyond_39 : decode cX5_lastLengthBeyond 39 = .ok (.if_icmp .gt 42, 3) := by decide +kernel
theorem dX5_lastLengthBeyond_42 : decode cX5_lastLengthBeyond 42 = .ok (.iload 4, 2) := by decide +kernel
theorem dX5_lastLengthBeyond_44 : decode cX5_lastLengthBeyond 44 = .ok (.aload_n 0, 1) := by decide +kernel
theorem dX5_lastLengthBeyond_45 : decode cX5_lastLengthBeyond 45 = .ok (.getfield 50, 3) := by decide +kernel
theorem dX5_lastLengthBeyond_48 : decode cX5_lastLengthBeyond 48 = .ok (.iload_n 1, 1) := by decide +kernel
theorem dX5_lastLengthBeyond_49 : decode cX5_lastLengthBeyond 49 = .ok (.iload 5, 2) := by decide +kernel
theorem dX5_lastLengthBeyond_51 : decode cX5_lastLengthBeyond 51 = .ok (.iconst 1, 1) := by decide +kernel
theorem dX5_lastLengthBeyond_52 : decode cX5_lastLengthBeyond 52 = .ok (.isub, 1) := by decide +kernel
theorem dX5_lastLengthBeyond_53 : decode cX5_lastLengthBeyond 53 = .ok (.invokevirtual 153, 3) := by decide +kernel
theorem dX5_lastLengthBeyond_56 : decode cX5_lastLengthBeyond 56 = .ok (.iadd, 1) := by decide +kernel
theorem dX5_lastLengthBeyond_57 : decode cX5_lastLengthBeyond 57 = .ok (.istore 4, 2) := by decide +kernel
theorem dX5_lastLengthBeyond_59 : decode cX5_lastLengthBeyond 59 = .ok (.aload_n 0, 1) := by decide +kernel
theorem dX5_lastLengthBeyond_60 : decode cX5_lastLengthBeyond 60 = .ok (.iload_n 1, 1) := by decide +kernel
theorem dX5_lastLengthBeyond_61 : decode cX5_lastLengthBeyond 61 = .ok (.iload 4, 2) := by decide +kernel
theorem dX5_lastLengthBeyond_63 : decode cX5_lastLengthBeyond 63 = .ok (.iload 5, 2) := by decide +kernel
theorem dX5_lastLengthBeyond_65 : decode cX5_lastLengthBeyond 65 = .ok (.invokevirtual 197, 3) := by decide +kernel
theorem dX5_lastLengthBeyond_68 : decode cX5_lastLengthBeyond 68 = .ok (.iload_n 2, 1) := by decide +kernel
theorem dX5_lastLengthBeyond_69 : decode cX5_lastLengthBeyond 69 = .ok (.if_icmp .le 6, 3) := by decide +kernel
theorem dX5_lastLengthBeyond_72 : decode cX5_lastLengthBeyond 72 = .ok (.iload 5, 2) := by decide +kernel
theorem dX5_lastLengthBeyond_74 : decode cX5_lastLengthBeyond 74 = .ok (.istore_n 3, 1) := by decide +kernel
theorem dX5_lastLengthBeyond_75 : decode cX5_lastLengthBeyond 75 = .ok (.iinc 5 1, 3) := by decide +kernel
theorem dX5_lastLengthBeyond_78 : decode cX5_lastLengthBeyond 78 = .ok (.goto (-44), 3) := by decide +kernel
theorem dX5_lastLengthBeyond_81 : decode cX5_lastLengthBeyond 81 = .ok (.iload_n 3, 1) := by decide +kernel
theorem dX5_lastLengthBeyond_82 : decode cX5_lastLengthBeyond 82 = .ok (.ireturn, 1) := by decide +kernel
theorem dX5_sumOfErrors_0 : decode cX5_sumOfErrors 0 = .ok (.aload_n 0, 1) := by decide +kernel
theorem dX5_sumOfErrors_1 : decode cX5_sumOfErrors 1 = .ok (.invokevirtual 207, 3) := by decide +kernel
theorem dX5_sumOfErrors_4 : decode cX5_sumOfErrors 4 = .ok (.iconst 0, 1) := by decide +kernel
theorem dX5_sumOfErrors_5 : decode cX5_sumOfErrors 5 = .ok (.istore_n 1, 1) := by decide +kernel
theorem dX5_sumOfErrors_6 : decode cX5_sumOfErrors 6 = .ok (.iconst 0, 1) := by decide +kernel
theorem dX5_sumOfErrors_7 : decode cX5_sumOfErrors 7 = .ok (.istore_n 2, 1) := by decide +kernel
theorem dX5_sumOfErrors_8 : decode cX5_sumOfErrors 8 = .ok (.iload_n 2, 1) := by decide +kernel
theorem dX5_sumOfErrors_9 : decode cX5_sumOfErrors 9 = .ok (.aload_n 0, 1) := by decide +kernel
theorem dX5_sumOfErrors_10 : decode cX5_sumOfErrors 10 = .ok (.getfield 10, 3) := by decide +kernel
theorem dX5_sumOfErrors_13 : decode cX5_sumOfErrors 13 = .ok (.getfield 90, 3) := by decide +kernel
theorem dX5_sumOfErrors_16 : decode cX5_sumOfErrors 16 = .ok (.if_icmp .ge 24, 3) := by decide +kernel
theorem dX5_sumOfErrors_19 : decode cX5_sumOfErrors 19 = .ok (.iload_n 1, 1) := by decide +kernel
theorem dX5_sumOfErrors_20 : decode cX5_sumOfErrors 20 = .ok (.aload_n 0, 1) := by decide +kernel
theorem dX5_sumOfErrors_21 : decode cX5_sumOfErrors 21 = .ok (.iload_n 2, 1) := by decide +kernel
theorem dX5_sumOfErrors_22 : decode cX5_sumOfErrors 22 = .ok (.aload_n 0, 1) := by decide +kernel
theorem dX5_sumOfErrors_23 : decode cX5_sumOfErrors 23 = .ok (.getfield 10, 3) := by decide +kernel
theorem dX5_sumOfErrors_26 : decode cX5_sumOfErrors 26 = .ok (.getfield 97, 3) := by decide +kernel
theorem dX5_sumOfErrors_29 : decode cX5_sumOfErrors 29 = .ok (.invokevirtual 194, 3) := by decide +kernel
theorem dX5_sumOfErrors_32 : decode cX5_sumOfErrors 32 = .ok (.iadd, 1) := by decide +kernel
theorem dX5_sumOfErrors_33 : decode cX5_sumOfErrors 33 = .ok (.istore_n 1, 1) := by decide +kernel
theorem dX5_sumOfErrors_34 : decode cX5_sumOfErrors 34 = .ok (.iinc 2 1, 3) := by decide +kernel
theorem dX5_sumOfErrors_37 : decode cX5_sumOfErrors 37 = .ok (.goto (-29), 3) := by decide +kernel
theorem dX5_sumOfErrors_40 : decode cX5_sumOfErrors 40 = .ok (.iload_n 1, 1) := by decide +kernel
theorem dX5_sumOfErrors_41 : decode cX5_sumOfErrors 41 = .ok (.ireturn, 1) := by decide +kernel
theorem dX5_lineWithGreatestError_0 : decode cX5_lineWithGreatestError 0 = .ok (.aload_n 0, 1) := by decide +kernel
theorem dX5_lineWithGreatestError_1 : decode cX5_lineWithGreatestError 1 = .ok (.invokevirtual 207, 3) := by decide +kernel
theorem dX5_lineWithGreatestError_4 : decode cX5_lineWithGreatestError 4 = .ok (.ldc 81, 2) := by decide +kernel
theorem dX5_lineWithGreatestError_6 : decode cX5_lineWithGreatestError 6 = .ok (.istore_n 1, 1) := by decide +kernel
theorem dX5_lineWithGreatestError_7 : decode cX5_lineWithGreatestError 7 = .ok (.iconst (-1), 1) := by decide +kernel
theorem dX5_lineWithGreatestError_8 : decode cX5_lineWithGreatestError 8 = .ok (.istore_n 2, 1) := by decide +kernel
theorem dX5_lineWithGreatestError_9 : decode cX5_lineWithGreatestError 9 = .ok (.iconst 0, 1) := by decide +kernel
theorem dX5_lineWithGreatestError_10 : decode cX5_lineWithGreatestError 10 = .ok (.istore_n 3, 1) := by decide +kernel
theorem dX5_lineWithGreatestError_11 : decode cX5_lineWithGreatestError 11 = .ok (.iload_n 3, 1) := by decide +kernel
theorem dX5_lineWithGreatestError_12 : decode cX5_lineWithGreatestError 12 = .ok (.aload_n 0, 1) := by decide +kernel
theorem dX5_lineWithGreatestError_13 : decode cX5_lineWithGreatestError 13 = .ok (.getfield 10, 3) := by decide +kernel
theorem dX5_lineWithGreatestError_16 : decode cX5_lineWithGreatestError 16 = .ok (.getfield 90, 3) := by decide +kernel
theorem dX5_lineWithGreatestError_19 : decode cX5_lineWithGreatestError 19 = .ok (.if_icmp .ge 34, 3) := by decide +kernel
theorem dX5_lineWithGreatestError_22 : decode cX5_lineWithGreatestError 22 = .ok (.aload_n 0, 1) := by decide +kernel
theorem dX5_lineWithGreatestError_23 : decode cX5_lineWithGreatestError 23 = .ok (.iload_n 3, 1) := by decide +kernel
theorem dX5_lineWithGreatestError_24 : decode cX5_lineWithGreatestError 24 = .ok (.aload_n 0, 1) := by decide +kernel
theorem dX5_lineWithGreatestError_25 : decode cX5_lineWithGreatestError 25 = .ok (.getfield 10, 3) := by decide +kernel
theorem dX5_lineWithGreatestError_28 : decode cX5_lineWithGreatestError 28 = .ok (.getfield 97, 3) := by decide +kernel
theorem dX5_lineWithGreatestError_31 : decode cX5_lineWithGreatestError 31 = .ok (.invokevirtual 194, 3) := by decide +kernel
theorem dX5_lineWithGreatestError_34 : decode cX5_lineWithGreatestError 34 = .ok (.istore 4, 2) := by decide +kernel
theorem dX5_lineWithGreatestError_36 : decode cX5_lineWithGreatestError 36 = .ok (.iload 4, 2) := by decide +kernel
theorem dX5_lineWithGreatestError_38 : decode cX5_lineWithGreatestError 38 = .ok (.iload_n 2, 1) := by decide +kernel
theorem dX5_lineWithGreatestError_39 : decode cX5_lineWithGreatestError 39 = .ok (.if_icmp .le 8, 3) := by decide +kernel
theorem dX5_lineWithGreatestError_42 : decode cX5_lineWithGreatestError 42 = .ok (.iload 4, 2) := by decide +kernel
theorem dX5_lineWithGreatestError_44 : decode cX5_lineWithGreatestError 44 = .ok (.istore_n 2, 1) := by decide +kernel
theorem dX5_lineWithGreatestError_45 : decode cX5_lineWithGreatestError 45 = .ok (.iload_n 3, 1) := by decide +kernel
theorem dX5_lineWithGreatestError_46 : decode cX5_lineWithGreatestError 46 = .ok (.istore_n 1, 1) := by decide +kernel
theorem dX5_lineWithGreatestError_47 : decode cX5_lineWithGreatestError 47 = .ok (.iinc 3 1, 3) := by decide +kernel
theorem dX5_lineWithGreatestError_50 : decode cX5_lineWithGreatestError 50 = .ok (.goto (-39), 3) := by decide +kernel
theorem dX5_lineWithGreatestError_53 : decode cX5_lineWithGreatestError 53 = .ok (.iload_n 1, 1) := by decide +kernel
theorem dX5_lineWithGreatestError_54 : decode cX5_lineWithGreatestError 54 = .ok (.ireturn, 1) := by decide +kernel
theorem dX5_fillAll_0 : decode cX5_fillAll 0 = .ok (.aload_n 0, 1) := by decide +kernel
theorem dX5_fillAll_1 : decode cX5_fillAll 1 = .ok (.getfield 43, 3) := by decide +kernel
theorem dX5_fillAll_4 : decode cX5_fillAll 4 = .ok (.aload_n 0, 1) := by decide +kernel
theorem dX5_fillAll_5 : decode cX5_fillAll 5 = .ok (.getfield 10, 3) := by decide +kernel
theorem dX5_fillAll_8 : decode cX5_fillAll 8 = .ok (.invokevirtual 134, 3) := by decide +kernel
theorem dX5_fillAll_11 : decode cX5_fillAll 11 = .ok (.aload_n 0, 1) := by decide +kernel
theorem dX5_fillAll_12 : decode cX5_fillAll 12 = .ok (.getfield 50, 3) := by decide +kernel
theorem dX5_fillAll_15 : decode cX5_fillAll 15 = .ok (.aload_n 0, 1) := by decide +kernel
theorem dX5_fillAll_16 : decode cX5_fillAll 16 = .ok (.getfield 10, 3) := by decide +kernel
theorem dX5_fillAll_19 : decode cX5_fillAll 19 = .ok (.aload_n 0, 1) := by decide +kernel
theorem dX5_fillAll_20 : decode cX5_fillAll 20 = .ok (.getfield 10, 3) := by decide +kernel
theorem dX5_fillAll_23 : decode cX5_fillAll 23 = .ok (.getfield 90, 3) := by decide +kernel
theorem dX5_fillAll_26 : decode cX5_fillAll 26 = .ok (.iconst 1, 1) := by decide +kernel
theorem dX5_fillAll_27 : decode cX5_fillAll 27 = .ok (.isub, 1) := by decide +kernel
theorem dX5_fillAll_28 : decode cX5_fillAll 28 = .ok (.aload_n 0, 1) := by decide +kernel
theorem dX5_fillAll_29 : decode cX5_fillAll 29 = .ok (.getfield 10, 3) := by decide +kernel
theorem dX5_fillAll_32 : decode cX5_fillAll 32 = .ok (.getfield 97, 3) := by decide +kernel
theorem dX5_fillAll_35 : decode cX5_fillAll 35 = .ok (.invokevirtual 149, 3) := by decide +kernel
theorem dX5_fillAll_38 : decode cX5_fillAll 38 = .ok (.return_, 1) := by decide +kernel
theorem dX5_shareOf_0 : decode cX5_shareOf 0 = .ok (.iload_n 1, 1) := by decide +kernel
theorem dX5_shareOf_1 : decode cX5_shareOf 1 = .ok (.iconst 1, 1) := by decide +kernel
theorem dX5_shareOf_2 : decode cX5_shareOf 2 = .ok (.if_icmp .ge 7, 3) := by decide +kernel
theorem dX5_shareOf_5 : decode cX5_shareOf 5 = .ok (.iconst 0, 1) := by decide +kernel
theorem dX5_shareOf_6 : decode cX5_shareOf 6 = .ok (.goto 9, 3) := by decide +kernel
theorem dX5_shareOf_9 : decode cX5_shareOf 9 = .ok (.iload_n 0, 1) := by decide +kernel
theorem dX5_shareOf_10 : decode cX5_shareOf 10 = .ok (.ldc 170, 2) := by decide +kernel
theorem dX5_shareOf_12 : decode cX5_shareOf 12 = .ok (.imul, 1) := by decide +kernel
theorem dX5_shareOf_13 : decode cX5_shareOf 13 = .ok (.iload_n 1, 1) := by decide +kernel
theorem dX5_shareOf_14 : decode cX5_shareOf 14 = .ok (.idiv, 1) := by decide +kernel
theorem dX5_shareOf_15 : decode cX5_shareOf 15 = .ok (.ireturn, 1) := by decide +kernel
theorem dX5_isShareAndSeed_0 : decode cX5_isShareAndSeed 0 = .ok (.iload_n 0, 1) := by decide +kernel
theorem dX5_isShareAndSeed_1 : decode cX5_isShareAndSeed 1 = .ok (.iconst 0, 1) := by decide +kernel
theorem dX5_isShareAndSeed_2 : decode cX5_isShareAndSeed 2 = .ok (.sipush 256, 3) := by decide +kernel
theorem dX5_isShareAndSeed_5 : decode cX5_isShareAndSeed 5 = .ok (.invokestatic 68, 3) := by decide +kernel
theorem dX5_isShareAndSeed_8 : decode cX5_isShareAndSeed 8 = .ok (.ifCond .eq 18, 3) := by decide +kernel
theorem dX5_isShareAndSeed_11 : decode cX5_isShareAndSeed 11 = .ok (.iload_n 1, 1) := by decide +kernel
theorem dX5_isShareAndSeed_12 : decode cX5_isShareAndSeed 12 = .ok (.iconst 1, 1) := by decide +kernel
theorem dX5_isShareAndSeed_13 : decode cX5_isShareAndSeed 13 = .ok (.sipush 255, 3) := by decide +kernel
theorem dX5_isShareAndSeed_16 : decode cX5_isShareAndSeed 16 = .ok (.invokestatic 68, 3) := by decide +kernel
theorem dX5_isShareAndSeed_19 : decode cX5_isShareAndSeed 19 = .ok (.ifCond .eq 7, 3) := by decide +kernel
theorem dX5_isShareAndSeed_22 : decode cX5_isShareAndSeed 22 = .ok (.iconst 1, 1) := by decide +kernel
theorem dX5_isShareAndSeed_23 : decode cX5_isShareAndSeed 23 = .ok (.goto 4, 3) := by decide +kernel
theorem dX5_isShareAndSeed_26 : decode cX5_isShareAndSeed 26 = .ok (.iconst 0, 1) := by decide +kernel
theorem dX5_isShareAndSeed_27 : decode cX5_isShareAndSeed 27 = .ok (.ireturn, 1) := by decide +kernel
theorem dX5_isWithin_0 : decode cX5_isWithin 0 = .ok (.iload_n 0, 1) := by decide +kernel
theorem dX5_isWithin_1 : decode cX5_isWithin 1 = .ok (.iload_n 1, 1) := by decide +kernel
theorem dX5_isWithin_2 : decode cX5_isWithin 2 = .ok (.if_icmp .lt 12, 3) := by decide +kernel
theorem dX5_isWithin_5 : decode cX5_isWithin 5 = .ok (.iload_n 0, 1) := by decide +kernel
theorem dX5_isWithin_6 : decode cX5_isWithin 6 = .ok (.iload_n 2, 1) := by decide +kernel
theorem dX5_isWithin_7 : decode cX5_isWithin 7 = .ok (.if_icmp .gt 7, 3) := by decide +kernel
theorem dX5_isWithin_10 : decode cX5_isWithin 10 = .ok (.iconst 1, 1) := by decide +kernel
theorem dX5_isWithin_11 : decode cX5_isWithin 11 = .ok (.goto 4, 3) := by decide +kernel
theorem dX5_isWithin_14 : decode cX5_isWithin 14 = .ok (.iconst 0, 1) := by decide +kernel
theorem dX5_isWithin_15 : decode cX5_isWithin 15 = .ok (.ireturn, 1) := by decide +kernel
theorem dX5_numbersOfKind_0 : decode cX5_numbersOfKind 0 = .ok (.getstatic 213, 3) := by decide +kernel
theorem dX5_numbersOfKind_3 : decode cX5_numbersOfKind 3 = .ok (.iload_n 0, 1) := by decide +kernel
theorem dX5_numbersOfKind_4 : decode cX5_numbersOfKind 4 = .ok (.invokestatic 217, 3) := by decide +kernel
theorem dX5_numbersOfKind_7 : decode cX5_numbersOfKind 7 = .ok (.ireturn, 1) := by decide +kernel
theorem dX5_linesOfKind_0 : decode cX5_linesOfKind 0 = .ok (.getstatic 221, 3) := by decide +kernel
theorem dX5_linesOfKind_3 : decode cX5_linesOfKind 3 = .ok (.iload_n 0, 1) := by decide +kernel
theorem dX5_linesOfKind_4 : decode cX5_linesOfKind 4 = .ok (.invokestatic 217, 3) := by decide +kernel
theorem dX5_linesOfKind_7 : decode cX5_linesOfKind 7 = .ok (.ireturn, 1) := by decide +kernel
theorem dX5_elementAt_0 : decode cX5_elementAt 0 = .ok (.iload_n 1, 1) := by decide +kernel
theorem dX5_elementAt_1 : decode cX5_elementAt 1 = .ok (.ifCond .lt 9, 3) := by decide +kernel
theorem dX5_elementAt_4 : decode cX5_elementAt 4 = .ok (.iload_n 1, 1) := by decide +kernel
theorem dX5_elementAt_5 : decode cX5_elementAt 5 = .ok (.aload_n 0, 1) := by decide +kernel
theorem dX5_elementAt_6 : decode cX5_elementAt 6 = .ok (.arraylength, 1) := by decide +kernel
theorem dX5_elementAt_7 : decode cX5_elementAt 7 = .ok (.if_icmp .lt 7, 3) := by decide +kernel
theorem dX5_elementAt_10 : decode cX5_elementAt 10 = .ok (.iconst 0, 1) := by decide +kernel
theorem dX5_elementAt_11 : decode cX5_elementAt 11 = .ok (.goto 6, 3) := by decide +kernel
theorem dX5_elementAt_14 : decode cX5_elementAt 14 = .ok (.aload_n 0, 1) := by decide +kernel
theorem dX5_elementAt_15 : decode cX5_elementAt 15 = .ok (.iload_n 1, 1) := by decide +kernel
theorem dX5_elementAt_16 : decode cX5_elementAt 16 = .ok (.iaload, 1) := by decide +kernel
theorem dX5_elementAt_17 : decode cX5_elementAt 17 = .ok (.ireturn, 1) := by decide +kernel
theorem dX5_setElement_0 : decode cX5_setElement 0 = .ok (.iload_n 1, 1) := by decide +kernel
theorem dX5_setElement_1 : decode cX5_setElement 1 = .ok (.ifCond .lt 13, 3) := by decide +kernel
theorem dX5_setElement_4 : decode cX5_setElement 4 = .ok (.iload_n 1, 1) := by decide +kernel
theorem dX5_setElement_5 : decode cX5_setElement 5 = .ok (.aload_n 0, 1) := by decide +kernel
theorem dX5_setElement_6 : decode cX5_setElement 6 = .ok (.arraylength, 1) := by decide +kernel
theorem dX5_setElement_7 : decode cX5_setElement 7 = .ok (.if_icmp .ge 7, 3) := by decide +kernel
theorem dX5_setElement_10 : decode cX5_setElement 10 = .ok (.aload_n 0, 1) := by decide +kernel
theorem dX5_setElement_11 : decode cX5_setElement 11 = .ok (.iload_n 1, 1) := by decide +kernel
theorem dX5_setElement_12 : decode cX5_setElement 12 = .ok (.iload_n 2, 1) := by decide +kernel
theorem dX5_setElement_13 : decode cX5_setElement 13 = .ok (.iastore, 1) := by decide +kernel
theorem dX5_setElement_14 : decode cX5_setElement 14 = .ok (.return_, 1) := by decide +kernel
theorem dJ6_bitCount_0f7a4_0 : decode cJ6_bitCount_0f7a4 0 = .ok (.iload_n 0, 1) := by decide +kernel
theorem dJ6_bitCount_0f7a4_1 : decode cJ6_bitCount_0f7a4 1 = .ok (.iload_n 0, 1) := by decide +kernel
theorem dJ6_bitCount_0f7a4_2 : decode cJ6_bitCount_0f7a4 2 = .ok (.iconst 1, 1) := by decide +kernel
theorem dJ6_bitCount_0f7a4_3 : decode cJ6_bitCount_0f7a4 3 = .ok (.iushr, 1) := by decide +kernel
theorem dJ6_bitCount_0f7a4_4 : decode cJ6_bitCount_0f7a4 4 = .ok (.ldc_w 265, 3) := by decide +kernel
theorem dJ6_bitCount_0f7a4_7 : decode cJ6_bitCount_0f7a4 7 = .ok (.iand, 1) := by decide +kernel
theorem dJ6_bitCount_0f7a4_8 : decode cJ6_bitCount_0f7a4 8 = .ok (.isub, 1) := by decide +kernel
theorem dJ6_bitCount_0f7a4_9 : decode cJ6_bitCount_0f7a4 9 = .ok (.istore_n 0, 1) := by decide +kernel
theorem dJ6_bitCount_0f7a4_10 : decode cJ6_bitCount_0f7a4 10 = .ok (.iload_n 0, 1) := by decide +kernel
theorem dJ6_bitCount_0f7a4_11 : decode cJ6_bitCount_0f7a4 11 = .ok (.ldc_w 266, 3) := by decide +kernel
theorem dJ6_bitCount_0f7a4_14 : decode cJ6_bitCount_0f7a4 14 = .ok (.iand, 1) := by decide +kernel
theorem dJ6_bitCount_0f7a4_15 : decode cJ6_bitCount_0f7a4 15 = .ok (.iload_n 0, 1) := by decide +kernel
theorem dJ6_bitCount_0f7a4_16 : decode cJ6_bitCount_0f7a4 16 = .ok (.iconst 2, 1) := by decide +kernel
theorem dJ6_bitCount_0f7a4_17 : decode cJ6_bitCount_0f7a4 17 = .ok (.iushr, 1) := by decide +kernel
theorem dJ6_bitCount_0f7a4_18 : decode cJ6_bitCount_0f7a4 18 = .ok (.ldc_w 266, 3) := by decide +kernel
theorem dJ6_bitCount_0f7a4_21 : decode cJ6_bitCount_0f7a4 21 = .ok (.iand, 1) := by decide +kernel
theorem dJ6_bitCount_0f7a4_22 : decode cJ6_bitCount_0f7a4 22 = .ok (.iadd, 1) := by decide +kernel
theorem dJ6_bitCount_0f7a4_23 : decode cJ6_bitCount_0f7a4 23 = .ok (.istore_n 0, 1) := by decide +kernel
theorem dJ6_bitCount_0f7a4_24 : decode cJ6_bitCount_0f7a4 24 = .ok (.iload_n 0, 1) := by decide +kernel
theorem dJ6_bitCount_0f7a4_25 : decode cJ6_bitCount_0f7a4 25 = .ok (.iload_n 0, 1) := by decide +kernel
theorem dJ6_bitCount_0f7a4_26 : decode cJ6_bitCount_0f7a4 26 = .ok (.iconst 4, 1) := by decide +kernel
theorem dJ6_bitCount_0f7a4_27 : decode cJ6_bitCount_0f7a4 27 = .ok (.iushr, 1) := by decide +kernel
theorem dJ6_bitCount_0f7a4_28 : decode cJ6_bitCount_0f7a4 28 = .ok (.iadd, 1) := by decide +kernel
theorem dJ6_bitCount_0f7a4_29 : decode cJ6_bitCount_0f7a4 29 = .ok (.ldc_w 267, 3) := by decide +kernel
theorem dJ6_bitCount_0f7a4_32 : decode cJ6_bitCount_0f7a4 32 = .ok (.iand, 1) := by decide +kernel
theorem dJ6_bitCount_0f7a4_33 : decode cJ6_bitCount_0f7a4 33 = .ok (.istore_n 0, 1) := by decide +kernel
theorem dJ6_bitCount_0f7a4_34 : decode cJ6_bitCount_0f7a4 34 = .ok (.iload_n 0, 1) := by decide +kernel
theorem dJ6_bitCount_0f7a4_35 : decode cJ6_bitCount_0f7a4 35 = .ok (.iload_n 0, 1) := by decide +kernel
theorem dJ6_bitCount_0f7a4_36 : decode cJ6_bitCount_0f7a4 36 = .ok (.bipush 8, 2) := by decide +kernel
theorem dJ6_bitCount_0f7a4_38 : decode cJ6_bitCount_0f7a4 38 = .ok (.iushr, 1) := by decide +kernel
theorem dJ6_bitCount_0f7a4_39 : decode cJ6_bitCount_0f7a4 39 = .ok (.iadd, 1) := by decide +kernel
theorem dJ6_bitCount_0f7a4_40 : decode cJ6_bitCount_0f7a4 40 = .ok (.istore_n 0, 1) := by decide +kernel
theorem dJ6_bitCount_0f7a4_41 : decode cJ6_bitCount_0f7a4 41 = .ok (.iload_n 0, 1) := by decide +kernel
theorem dJ6_bitCount_0f7a4_42 : decode cJ6_bitCount_0f7a4 42 = .ok (.iload_n 0, 1) := by decide +kernel
theorem dJ6_bitCount_0f7a4_43 : decode cJ6_bitCount_0f7a4 43 = .ok (.bipush 16, 2) := by decide +kernel
theorem dJ6_bitCount_0f7a4_45 : decode cJ6_bitCount_0f7a4 45 = .ok (.iushr, 1) := by decide +kernel
theorem dJ6_bitCount_0f7a4_46 : decode cJ6_bitCount_0f7a4 46 = .ok (.iadd, 1) := by decide +kernel
theorem dJ6_bitCount_0f7a4_47 : decode cJ6_bitCount_0f7a4 47 = .ok (.istore_n 0, 1) := by decide +kernel
theorem dJ6_bitCount_0f7a4_48 : decode cJ6_bitCount_0f7a4 48 = .ok (.iload_n 0, 1) := by decide +kernel
theorem dJ6_bitCount_0f7a4_49 : decode cJ6_bitCount_0f7a4 49 = .ok (.bipush 63, 2) := by decide +kernel
theorem dJ6_bitCount_0f7a4_51 : decode cJ6_bitCount_0f7a4 51 = .ok (.iand, 1) := by decide +kernel
theorem dJ6_bitCount_0f7a4_52 : decode cJ6_bitCount_0f7a4 52 = .ok (.ireturn, 1) := by decide +kernel
theorem dJ13_bitCount_95d88_0 : decode cJ13_bitCount_95d88 0 = .ok (.lload_n 0, 1) := by decide +kernel
theorem dJ13_bitCount_95d88_1 : decode cJ13_bitCount_95d88 1 = .ok (.lload_n 0, 1) := by decide +kernel
theorem dJ13_bitCount_95d88_2 : decode cJ13_bitCount_95d88 2 = .ok (.iconst 1, 1) := by decide +kernel
theorem dJ13_bitCount_95d88_3 : decode cJ13_bitCount_95d88 3 = .ok (.lushr, 1) := by decide +kernel
theorem dJ13_bitCount_95d88_4 : decode cJ13_bitCount_95d88 4 = .ok (.ldc2_w 314, 3) := by decide +kernel
theorem dJ13_bitCount_95d88_7 : decode cJ13_bitCount_95d88 7 = .ok (.land, 1) := by decide +kernel
theorem dJ13_bitCount_95d88_8 : decode cJ13_bitCount_95d88 8 = .ok (.lsub, 1) := by decide +kernel
theorem dJ13_bitCount_95d88_9 : decode cJ13_bitCount_95d88 9 = .ok (.lstore_n 0, 1) := by decide +kernel
theorem dJ13_bitCount_95d88_10 : decode cJ13_bitCount_95d88 10 = .ok (.lload_n 0, 1) := by decide +kernel
theorem dJ13_bitCount_95d88_11 : decode cJ13_bitCount_95d88 11 = .ok (.ldc2_w 316, 3) := by decide +kernel
theorem dJ13_bitCount_95d88_14 : decode cJ13_bitCount_95d88 14 = .ok (.land, 1) := by decide +kernel
theorem dJ13_bitCount_95d88_15 : decode cJ13_bitCount_95d88 15 = .ok (.lload_n 0, 1) := by decide +kernel
theorem dJ13_bitCount_95d88_16 : decode cJ13_bitCount_95d88 16 = .ok (.iconst 2, 1) := by decide +kernel
theorem dJ13_bitCount_95d88_17 : decode cJ13_bitCount_95d88 17 = .ok (.lushr, 1) := by decide +kernel
theorem dJ13_bitCount_95d88_18 : decode cJ13_bitCount_95d88 18 = .ok (.ldc2_w 316, 3) := by decide +kernel
theorem dJ13_bitCount_95d88_21 : decode cJ13_bitCount_95d88 21 = .ok (.land, 1) := by decide +kernel
theorem dJ13_bitCount_95d88_22 : decode cJ13_bitCount_95d88 22 = .ok (.ladd, 1) := by decide +kernel
theorem dJ13_bitCount_95d88_23 : decode cJ13_bitCount_95d88 23 = .ok (.lstore_n 0, 1) := by decide +kernel
theorem dJ13_bitCount_95d88_24 : decode cJ13_bitCount_95d88 24 = .ok (.lload_n 0, 1) := by decide +kernel
theorem dJ13_bitCount_95d88_25 : decode cJ13_bitCount_95d88 25 = .ok (.lload_n 0, 1) := by decide +kernel
theorem dJ13_bitCount_95d88_26 : decode cJ13_bitCount_95d88 26 = .ok (.iconst 4, 1) := by decide +kernel
theorem dJ13_bitCount_95d88_27 : decode cJ13_bitCount_95d88 27 = .ok (.lushr, 1) := by decide +kernel
theorem dJ13_bitCount_95d88_28 : decode cJ13_bitCount_95d88 28 = .ok (.ladd, 1) := by decide +kernel
theorem dJ13_bitCount_95d88_29 : decode cJ13_bitCount_95d88 29 = .ok (.ldc2_w 318, 3) := by decide +kernel
theorem dJ13_bitCount_95d88_32 : decode cJ13_bitCount_95d88 32 = .ok (.land, 1) := by decide +kernel
theorem dJ13_bitCount_95d88_33 : decode cJ13_bitCount_95d88 33 = .ok (.lstore_n 0, 1) := by decide +kernel
theorem dJ13_bitCount_95d88_34 : decode cJ13_bitCount_95d88 34 = .ok (.lload_n 0, 1) := by decide +kernel
theorem dJ13_bitCount_95d88_35 : decode cJ13_bitCount_95d88 35 = .ok (.lload_n 0, 1) := by decide +kernel
theorem dJ13_bitCount_95d88_36 : decode cJ13_bitCount_95d88 36 = .ok (.bipush 8, 2) := by decide +kernel
theorem dJ13_bitCount_95d88_38 : decode cJ13_bitCount_95d88 38 = .ok (.lushr, 1) := by decide +kernel
theorem dJ13_bitCount_95d88_39 : decode cJ13_bitCount_95d88 39 = .ok (.ladd, 1) := by decide +kernel
theorem dJ13_bitCount_95d88_40 : decode cJ13_bitCount_95d88 40 = .ok (.lstore_n 0, 1) := by decide +kernel
theorem dJ13_bitCount_95d88_41 : decode cJ13_bitCount_95d88 41 = .ok (.lload_n 0, 1) := by decide +kernel
theorem dJ13_bitCount_95d88_42 : decode cJ13_bitCount_95d88 42 = .ok (.lload_n 0, 1) := by decide +kernel
theorem dJ13_bitCount_95d88_43 : decode cJ13_bitCount_95d88 43 = .ok (.bipush 16, 2) := by decide +kernel
theorem dJ13_bitCount_95d88_45 : decode cJ13_bitCount_95d88 45 = .ok (.lushr, 1) := by decide +kernel
theorem dJ13_bitCount_95d88_46 : decode cJ13_bitCount_95d88 46 = .ok (.ladd, 1) := by decide +kernel
theorem dJ13_bitCount_95d88_47 : decode cJ13_bitCount_95d88 47 = .ok (.lstore_n 0, 1) := by decide +kernel
theorem dJ13_bitCount_95d88_48 : decode cJ13_bitCount_95d88 48 = .ok (.lload_n 0, 1) := by decide +kernel
theorem dJ13_bitCount_95d88_49 : decode cJ13_bitCount_95d88 49 = .ok (.lload_n 0, 1) := by decide +kernel
theorem dJ13_bitCount_95d88_50 : decode cJ13_bitCount_95d88 50 = .ok (.bipush 32, 2) := by decide +kernel
theorem dJ13_bitCount_95d88_52 : decode cJ13_bitCount_95d88 52 = .ok (.lushr, 1) := by decide +kernel
theorem dJ13_bitCount_95d88_53 : decode cJ13_bitCount_95d88 53 = .ok (.ladd, 1) := by decide +kernel
theorem dJ13_bitCount_95d88_54 : decode cJ13_bitCount_95d88 54 = .ok (.lstore_n 0, 1) := by decide +kernel
theorem dJ13_bitCount_95d88_55 : decode cJ13_bitCount_95d88 55 = .ok (.lload_n 0, 1) := by decide +kernel
theorem dJ13_bitCount_95d88_56 : decode cJ13_bitCount_95d88 56 = .ok (.l2i, 1) := by decide +kernel
theorem dJ13_bitCount_95d88_57 : decode cJ13_bitCount_95d88 57 = .ok (.bipush 127, 2) := by decide +kernel
theorem dJ13_bitCount_95d88_59 : decode cJ13_bitCount_95d88 59 = .ok (.iand, 1) := by decide +kernel
theorem dJ13_bitCount_95d88_60 : decode cJ13_bitCount_95d88 60 = .ok (.ireturn, 1) := by decide +kernel
theorem dJ9_floorMod_7cf53_0 : decode cJ9_floorMod_7cf53 0 = .ok (.iload_n 0, 1) := by decide +kernel
theorem dJ9_floorMod_7cf53_1 : decode cJ9_floorMod_7cf53 1 = .ok (.iload_n 1, 1) := by decide +kernel
theorem dJ9_floorMod_7cf53_2 : decode cJ9_floorMod_7cf53 2 = .ok (.irem, 1) := by decide +kernel
theorem dJ9_floorMod_7cf53_3 : decode cJ9_floorMod_7cf53 3 = .ok (.istore_n 2, 1) := by decide +kernel
theorem dJ9_floorMod_7cf53_4 : decode cJ9_floorMod_7cf53 4 = .ok (.iload_n 0, 1) := by decide +kernel
theorem dJ9_floorMod_7cf53_5 : decode cJ9_floorMod_7cf53 5 = .ok (.iload_n 1, 1) := by decide +kernel
theorem dJ9_floorMod_7cf53_6 : decode cJ9_floorMod_7cf53 6 = .ok (.ixor, 1) := by decide +kernel
theorem dJ9_floorMod_7cf53_7 : decode cJ9_floorMod_7cf53 7 = .ok (.ifCond .ge 11, 3) := by decide +kernel
theorem dJ9_floorMod_7cf53_10 : decode cJ9_floorMod_7cf53 10 = .ok (.iload_n 2, 1) := by decide +kernel
theorem dJ9_floorMod_7cf53_11 : decode cJ9_floorMod_7cf53 11 = .ok (.ifCond .eq 7, 3) := by decide +kernel
theorem dJ9_floorMod_7cf53_14 : decode cJ9_floorMod_7cf53 14 = .ok (.iload_n 2, 1) := by decide +kernel
theorem dJ9_floorMod_7cf53_15 : decode cJ9_floorMod_7cf53 15 = .ok (.iload_n 1, 1) := by decide +kernel
theorem dJ9_floorMod_7cf53_16 : decode cJ9_floorMod_7cf53 16 = .ok (.iadd, 1) := by decide +kernel
theorem dJ9_floorMod_7cf53_17 : decode cJ9_floorMod_7cf53 17 = .ok (.ireturn, 1) := by decide +kernel
theorem dJ9_floorMod_7cf53_18 : decode cJ9_floorMod_7cf53 18 = .ok (.iload_n 2, 1) := by decide +kernel
theorem dJ9_floorMod_7cf53_19 : decode cJ9_floorMod_7cf53 19 = .ok (.ireturn, 1) := by decide +kernel
theorem dJ9_abs_0f7a4_0 : decode cJ9_abs_0f7a4 0 = .ok (.iload_n 0, 1) := by decide +kernel
theorem dJ9_abs_0f7a4_1 : decode cJ9_abs_0f7a4 1 = .ok (.ifCond .ge 8, 3) := by decide +kernel
theorem dJ9_abs_0f7a4_4 : decode cJ9_abs_0f7a4 4 = .ok (.iload_n 0, 1) := by decide +kernel
theorem dJ9_abs_0f7a4_5 : decode cJ9_abs_0f7a4 5 = .ok (.ineg, 1) := by decide +kernel
theorem dJ9_abs_0f7a4_6 : decode cJ9_abs_0f7a4 6 = .ok (.goto 4, 3) := by decide +kernel
theorem dJ9_abs_0f7a4_9 : decode cJ9_abs_0f7a4 9 = .ok (.iload_n 0, 1) := by decide +kernel
theorem dJ9_abs_0f7a4_10 : decode cJ9_abs_0f7a4 10 = .ok (.ireturn, 1) := by decide +kernel
theorem dJ9_max_7cf53_0 : decode cJ9_max_7cf53 0 = .ok (.iload_n 0, 1) := by decide +kernel
theorem dJ9_max_7cf53_1 : decode cJ9_max_7cf53 1 = .ok (.iload_n 1, 1) := by decide +kernel
theorem dJ9_max_7cf53_2 : decode cJ9_max_7cf53 2 = .ok (.if_icmp .lt 7, 3) := by decide +kernel
theorem dJ9_max_7cf53_5 : decode cJ9_max_7cf53 5 = .ok (.iload_n 0, 1) := by decide +kernel
theorem dJ9_max_7cf53_6 : decode cJ9_max_7cf53 6 = .ok (.goto 4, 3) := by decide +kernel
theorem dJ9_max_7cf53_9 : decode cJ9_max_7cf53 9 = .ok (.iload_n 1, 1) := by decide +kernel
theorem dJ9_max_7cf53_10 : decode cJ9_max_7cf53 10 = .ok (.ireturn, 1) := by decide +kernel
