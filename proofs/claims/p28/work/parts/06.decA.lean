theorem dX0_init_0 : decode cX0_init 0 = .ok (.aload_n 0, 1) := by decide +kernel
theorem dX0_init_1 : decode cX0_init 1 = .ok (.invokespecial 3, 3) := by decide +kernel
theorem dX0_init_4 : decode cX0_init 4 = .ok (.aload_n 0, 1) := by decide +kernel
theorem dX0_init_5 : decode cX0_init 5 = .ok (.new 9, 3) := by decide +kernel
theorem dX0_init_8 : decode cX0_init 8 = .ok (.dup, 1) := by decide +kernel
theorem dX0_init_9 : decode cX0_init 9 = .ok (.bipush 6, 2) := by decide +kernel
theorem dX0_init_11 : decode cX0_init 11 = .ok (.invokespecial 11, 3) := by decide +kernel
theorem dX0_init_14 : decode cX0_init 14 = .ok (.putfield 14, 3) := by decide +kernel
theorem dX0_init_17 : decode cX0_init 17 = .ok (.aload_n 0, 1) := by decide +kernel
theorem dX0_init_18 : decode cX0_init 18 = .ok (.new 9, 3) := by decide +kernel
theorem dX0_init_21 : decode cX0_init 21 = .ok (.dup, 1) := by decide +kernel
theorem dX0_init_22 : decode cX0_init 22 = .ok (.bipush 36, 2) := by decide +kernel
theorem dX0_init_24 : decode cX0_init 24 = .ok (.invokespecial 11, 3) := by decide +kernel
theorem dX0_init_27 : decode cX0_init 27 = .ok (.putfield 20, 3) := by decide +kernel
theorem dX0_init_30 : decode cX0_init 30 = .ok (.aload_n 0, 1) := by decide +kernel
theorem dX0_init_31 : decode cX0_init 31 = .ok (.new 9, 3) := by decide +kernel
theorem dX0_init_34 : decode cX0_init 34 = .ok (.dup, 1) := by decide +kernel
theorem dX0_init_35 : decode cX0_init 35 = .ok (.bipush 64, 2) := by decide +kernel
theorem dX0_init_37 : decode cX0_init 37 = .ok (.invokespecial 11, 3) := by decide +kernel
theorem dX0_init_40 : decode cX0_init 40 = .ok (.putfield 23, 3) := by decide +kernel
theorem dX0_init_43 : decode cX0_init 43 = .ok (.aload_n 0, 1) := by decide +kernel
theorem dX0_init_44 : decode cX0_init 44 = .ok (.new 9, 3) := by decide +kernel
theorem dX0_init_47 : decode cX0_init 47 = .ok (.dup, 1) := by decide +kernel
theorem dX0_init_48 : decode cX0_init 48 = .ok (.bipush 64, 2) := by decide +kernel
theorem dX0_init_50 : decode cX0_init 50 = .ok (.invokespecial 11, 3) := by decide +kernel
theorem dX0_init_53 : decode cX0_init 53 = .ok (.putfield 26, 3) := by decide +kernel
theorem dX0_init_56 : decode cX0_init 56 = .ok (.aload_n 0, 1) := by decide +kernel
theorem dX0_init_57 : decode cX0_init 57 = .ok (.new 9, 3) := by decide +kernel
theorem dX0_init_60 : decode cX0_init 60 = .ok (.dup, 1) := by decide +kernel
theorem dX0_init_61 : decode cX0_init 61 = .ok (.bipush 6, 2) := by decide +kernel
theorem dX0_init_63 : decode cX0_init 63 = .ok (.invokespecial 11, 3) := by decide +kernel
theorem dX0_init_66 : decode cX0_init 66 = .ok (.putfield 29, 3) := by decide +kernel
theorem dX0_init_69 : decode cX0_init 69 = .ok (.return_, 1) := by decide +kernel
theorem dX0_clear_0 : decode cX0_clear 0 = .ok (.aload_n 0, 1) := by decide +kernel
theorem dX0_clear_1 : decode cX0_clear 1 = .ok (.iconst 0, 1) := by decide +kernel
theorem dX0_clear_2 : decode cX0_clear 2 = .ok (.putfield 32, 3) := by decide +kernel
theorem dX0_clear_5 : decode cX0_clear 5 = .ok (.return_, 1) := by decide +kernel
theorem dX0_add_0 : decode cX0_add 0 = .ok (.aload_n 0, 1) := by decide +kernel
theorem dX0_add_1 : decode cX0_add 1 = .ok (.getfield 14, 3) := by decide +kernel
theorem dX0_add_4 : decode cX0_add 4 = .ok (.aload_n 0, 1) := by decide +kernel
theorem dX0_add_5 : decode cX0_add 5 = .ok (.getfield 32, 3) := by decide +kernel
theorem dX0_add_8 : decode cX0_add 8 = .ok (.iload_n 1, 1) := by decide +kernel
theorem dX0_add_9 : decode cX0_add 9 = .ok (.invokevirtual 36, 3) := by decide +kernel
theorem dX0_add_12 : decode cX0_add 12 = .ok (.aload_n 0, 1) := by decide +kernel
theorem dX0_add_13 : decode cX0_add 13 = .ok (.dup, 1) := by decide +kernel
theorem dX0_add_14 : decode cX0_add 14 = .ok (.getfield 32, 3) := by decide +kernel
theorem dX0_add_17 : decode cX0_add 17 = .ok (.iconst 1, 1) := by decide +kernel
theorem dX0_add_18 : decode cX0_add 18 = .ok (.iadd, 1) := by decide +kernel
theorem dX0_add_19 : decode cX0_add 19 = .ok (.putfield 32, 3) := by decide +kernel
theorem dX0_add_22 : decode cX0_add 22 = .ok (.return_, 1) := by decide +kernel
theorem dX0_count_0 : decode cX0_count 0 = .ok (.aload_n 0, 1) := by decide +kernel
theorem dX0_count_1 : decode cX0_count 1 = .ok (.getfield 32, 3) := by decide +kernel
theorem dX0_count_4 : decode cX0_count 4 = .ok (.ireturn, 1) := by decide +kernel
theorem dX0_mentionAt_0 : decode cX0_mentionAt 0 = .ok (.aload_n 0, 1) := by decide +kernel
theorem dX0_mentionAt_1 : decode cX0_mentionAt 1 = .ok (.getfield 14, 3) := by decide +kernel
theorem dX0_mentionAt_4 : decode cX0_mentionAt 4 = .ok (.iload_n 1, 1) := by decide +kernel
theorem dX0_mentionAt_5 : decode cX0_mentionAt 5 = .ok (.invokevirtual 40, 3) := by decide +kernel
theorem dX0_mentionAt_8 : decode cX0_mentionAt 8 = .ok (.ireturn, 1) := by decide +kernel
theorem dX0_putWorth_0 : decode cX0_putWorth 0 = .ok (.aload_n 0, 1) := by decide +kernel
theorem dX0_putWorth_1 : decode cX0_putWorth 1 = .ok (.getfield 20, 3) := by decide +kernel
theorem dX0_putWorth_4 : decode cX0_putWorth 4 = .ok (.iload_n 1, 1) := by decide +kernel
theorem dX0_putWorth_5 : decode cX0_putWorth 5 = .ok (.bipush 6, 2) := by decide +kernel
theorem dX0_putWorth_7 : decode cX0_putWorth 7 = .ok (.imul, 1) := by decide +kernel
theorem dX0_putWorth_8 : decode cX0_putWorth 8 = .ok (.iload_n 2, 1) := by decide +kernel
theorem dX0_putWorth_9 : decode cX0_putWorth 9 = .ok (.iadd, 1) := by decide +kernel
theorem dX0_putWorth_10 : decode cX0_putWorth 10 = .ok (.iload_n 3, 1) := by decide +kernel
theorem dX0_putWorth_11 : decode cX0_putWorth 11 = .ok (.invokevirtual 36, 3) := by decide +kernel
theorem dX0_putWorth_14 : decode cX0_putWorth 14 = .ok (.return_, 1) := by decide +kernel
theorem dX0_pairWorth_0 : decode cX0_pairWorth 0 = .ok (.aload_n 0, 1) := by decide +kernel
theorem dX0_pairWorth_1 : decode cX0_pairWorth 1 = .ok (.getfield 20, 3) := by decide +kernel
theorem dX0_pairWorth_4 : decode cX0_pairWorth 4 = .ok (.iload_n 1, 1) := by decide +kernel
theorem dX0_pairWorth_5 : decode cX0_pairWorth 5 = .ok (.bipush 6, 2) := by decide +kernel
theorem dX0_pairWorth_7 : decode cX0_pairWorth 7 = .ok (.imul, 1) := by decide +kernel
theorem dX0_pairWorth_8 : decode cX0_pairWorth 8 = .ok (.iload_n 2, 1) := by decide +kernel
theorem dX0_pairWorth_9 : decode cX0_pairWorth 9 = .ok (.iadd, 1) := by decide +kernel
theorem dX0_pairWorth_10 : decode cX0_pairWorth 10 = .ok (.invokevirtual 40, 3) := by decide +kernel
theorem dX0_pairWorth_13 : decode cX0_pairWorth 13 = .ok (.ireturn, 1) := by decide +kernel
theorem dX0_bestByParts_0 : decode cX0_bestByParts 0 = .ok (.iconst 1, 1) := by decide +kernel
theorem dX0_bestByParts_1 : decode cX0_bestByParts 1 = .ok (.aload_n 0, 1) := by decide +kernel
theorem dX0_bestByParts_2 : decode cX0_bestByParts 2 = .ok (.getfield 32, 3) := by decide +kernel
theorem dX0_bestByParts_5 : decode cX0_bestByParts 5 = .ok (.ishl, 1) := by decide +kernel
theorem dX0_bestByParts_6 : decode cX0_bestByParts 6 = .ok (.iconst 1, 1) := by decide +kernel
theorem dX0_bestByParts_7 : decode cX0_bestByParts 7 = .ok (.isub, 1) := by decide +kernel
theorem dX0_bestByParts_8 : decode cX0_bestByParts 8 = .ok (.istore_n 1, 1) := by decide +kernel
theorem dX0_bestByParts_9 : decode cX0_bestByParts 9 = .ok (.aload_n 0, 1) := by decide +kernel
theorem dX0_bestByParts_10 : decode cX0_bestByParts 10 = .ok (.getfield 26, 3) := by decide +kernel
theorem dX0_bestByParts_13 : decode cX0_bestByParts 13 = .ok (.iconst 0, 1) := by decide +kernel
theorem dX0_bestByParts_14 : decode cX0_bestByParts 14 = .ok (.iconst 0, 1) := by decide +kernel
theorem dX0_bestByParts_15 : decode cX0_bestByParts 15 = .ok (.invokevirtual 36, 3) := by decide +kernel
theorem dX0_bestByParts_18 : decode cX0_bestByParts 18 = .ok (.iconst 1, 1) := by decide +kernel
theorem dX0_bestByParts_19 : decode cX0_bestByParts 19 = .ok (.istore_n 2, 1) := by decide +kernel
theorem dX0_bestByParts_20 : decode cX0_bestByParts 20 = .ok (.iload_n 2, 1) := by decide +kernel
theorem dX0_bestByParts_21 : decode cX0_bestByParts 21 = .ok (.iload_n 1, 1) := by decide +kernel
theorem dX0_bestByParts_22 : decode cX0_bestByParts 22 = .ok (.if_icmp .gt 35, 3) := by decide +kernel
theorem dX0_bestByParts_25 : decode cX0_bestByParts 25 = .ok (.aload_n 0, 1) := by decide +kernel
theorem dX0_bestByParts_26 : decode cX0_bestByParts 26 = .ok (.getfield 23, 3) := by decide +kernel
theorem dX0_bestByParts_29 : decode cX0_bestByParts 29 = .ok (.iload_n 2, 1) := by decide +kernel
theorem dX0_bestByParts_30 : decode cX0_bestByParts 30 = .ok (.aload_n 0, 1) := by decide +kernel
theorem dX0_bestByParts_31 : decode cX0_bestByParts 31 = .ok (.iload_n 2, 1) := by decide +kernel
theorem dX0_bestByParts_32 : decode cX0_bestByParts 32 = .ok (.invokevirtual 44, 3) := by decide +kernel
theorem dX0_bestByParts_35 : decode cX0_bestByParts 35 = .ok (.invokevirtual 36, 3) := by decide +kernel
theorem dX0_bestByParts_38 : decode cX0_bestByParts 38 = .ok (.aload_n 0, 1) := by decide +kernel
theorem dX0_bestByParts_39 : decode cX0_bestByParts 39 = .ok (.getfield 26, 3) := by decide +kernel
theorem dX0_bestByParts_42 : decode cX0_bestByParts 42 = .ok (.iload_n 2, 1) := by decide +kernel
theorem dX0_bestByParts_43 : decode cX0_bestByParts 43 = .ok (.aload_n 0, 1) := by decide +kernel
theorem dX0_bestByParts_44 : decode cX0_bestByParts 44 = .ok (.iload_n 2, 1) := by decide +kernel
theorem dX0_bestByParts_45 : decode cX0_bestByParts 45 = .ok (.invokevirtual 47, 3) := by decide +kernel
theorem dX0_bestByParts_48 : decode cX0_bestByParts 48 = .ok (.invokevirtual 36, 3) := by decide +kernel
theorem dX0_bestByParts_51 : decode cX0_bestByParts 51 = .ok (.iinc 2 1, 3) := by decide +kernel
theorem dX0_bestByParts_54 : decode cX0_bestByParts 54 = .ok (.goto (-34), 3) := by decide +kernel
theorem dX0_bestByParts_57 : decode cX0_bestByParts 57 = .ok (.aload_n 0, 1) := by decide +kernel
theorem dX0_bestByParts_58 : decode cX0_bestByParts 58 = .ok (.getfield 26, 3) := by decide +kernel
theorem dX0_bestByParts_61 : decode cX0_bestByParts 61 = .ok (.iload_n 1, 1) := by decide +kernel
theorem dX0_bestByParts_62 : decode cX0_bestByParts 62 = .ok (.invokevirtual 40, 3) := by decide +kernel
theorem dX0_bestByParts_65 : decode cX0_bestByParts 65 = .ok (.ireturn, 1) := by decide +kernel
theorem dX0_worthOfGroup_0 : decode cX0_worthOfGroup 0 = .ok (.iconst 0, 1) := by decide +kernel
theorem dX0_worthOfGroup_1 : decode cX0_worthOfGroup 1 = .ok (.istore_n 2, 1) := by decide +kernel
theorem dX0_worthOfGroup_2 : decode cX0_worthOfGroup 2 = .ok (.iconst 0, 1) := by decide +kernel
theorem dX0_worthOfGroup_3 : decode cX0_worthOfGroup 3 = .ok (.istore_n 3, 1) := by decide +kernel
theorem dX0_worthOfGroup_4 : decode cX0_worthOfGroup 4 = .ok (.iload_n 3, 1) := by decide +kernel
theorem dX0_worthOfGroup_5 : decode cX0_worthOfGroup 5 = .ok (.aload_n 0, 1) := by decide +kernel
theorem dX0_worthOfGroup_6 : decode cX0_worthOfGroup 6 = .ok (.getfield 32, 3) := by decide +kernel
theorem dX0_worthOfGroup_9 : decode cX0_worthOfGroup 9 = .ok (.if_icmp .ge 88, 3) := by decide +kernel
theorem dX0_worthOfGroup_12 : decode cX0_worthOfGroup 12 = .ok (.iload_n 3, 1) := by decide +kernel
theorem dX0_worthOfGroup_13 : decode cX0_worthOfGroup 13 = .ok (.iconst 1, 1) := by decide +kernel
theorem dX0_worthOfGroup_14 : decode cX0_worthOfGroup 14 = .ok (.iadd, 1) := by decide +kernel
theorem dX0_worthOfGroup_15 : decode cX0_worthOfGroup 15 = .ok (.istore 4, 2) := by decide +kernel
theorem dX0_worthOfGroup_17 : decode cX0_worthOfGroup 17 = .ok (.iload 4, 2) := by decide +kernel
theorem dX0_worthOfGroup_19 : decode cX0_worthOfGroup 19 = .ok (.aload_n 0, 1) := by decide +kernel
theorem dX0_worthOfGroup_20 : decode cX0_worthOfGroup 20 = .ok (.getfield 32, 3) := by decide +kernel
theorem dX0_worthOfGroup_23 : decode cX0_worthOfGroup 23 = .ok (.if_icmp .ge 68, 3) := by decide +kernel
theorem dX0_worthOfGroup_26 : decode cX0_worthOfGroup 26 = .ok (.iload_n 1, 1) := by decide +kernel
theorem dX0_worthOfGroup_27 : decode cX0_worthOfGroup 27 = .ok (.iload_n 3, 1) := by decide +kernel
theorem dX0_worthOfGroup_28 : decode cX0_worthOfGroup 28 = .ok (.ishr, 1) := by decide +kernel
theorem dX0_worthOfGroup_29 : decode cX0_worthOfGroup 29 = .ok (.iload_n 1, 1) := by decide +kernel
theorem dX0_worthOfGroup_30 : decode cX0_worthOfGroup 30 = .ok (.iload 4, 2) := by decide +kernel
theorem dX0_worthOfGroup_32 : decode cX0_worthOfGroup 32 = .ok (.ishr, 1) := by decide +kernel
theorem dX0_worthOfGroup_33 : decode cX0_worthOfGroup 33 = .ok (.iand, 1) := by decide +kernel
theorem dX0_worthOfGroup_34 : decode cX0_worthOfGroup 34 = .ok (.iconst 1, 1) := by decide +kernel
theorem dX0_worthOfGroup_35 : decode cX0_worthOfGroup 35 = .ok (.iand, 1) := by decide +kernel
theorem dX0_worthOfGroup_36 : decode cX0_worthOfGroup 36 = .ok (.ifCond .eq 7, 3) := by decide +kernel
theorem dX0_worthOfGroup_39 : decode cX0_worthOfGroup 39 = .ok (.iconst 1, 1) := by decide +kernel
theorem dX0_worthOfGroup_40 : decode cX0_worthOfGroup 40 = .ok (.goto 4, 3) := by decide +kernel
theorem dX0_worthOfGroup_43 : decode cX0_worthOfGroup 43 = .ok (.iconst 0, 1) := by decide +kernel
theorem dX0_worthOfGroup_44 : decode cX0_worthOfGroup 44 = .ok (.istore 5, 2) := by decide +kernel
theorem dX0_worthOfGroup_46 : decode cX0_worthOfGroup 46 = .ok (.iload 5, 2) := by decide +kernel
theorem dX0_worthOfGroup_48 : decode cX0_worthOfGroup 48 = .ok (.ifCond .eq 18, 3) := by decide +kernel
theorem dX0_worthOfGroup_51 : decode cX0_worthOfGroup 51 = .ok (.aload_n 0, 1) := by decide +kernel
theorem dX0_worthOfGroup_52 : decode cX0_worthOfGroup 52 = .ok (.iload_n 3, 1) := by decide +kernel
theorem dX0_worthOfGroup_53 : decode cX0_worthOfGroup 53 = .ok (.iload 4, 2) := by decide +kernel
theorem dX0_worthOfGroup_55 : decode cX0_worthOfGroup 55 = .ok (.invokevirtual 50, 3) := by decide +kernel
theorem dX0_worthOfGroup_58 : decode cX0_worthOfGroup 58 = .ok (.ldc 54, 2) := by decide +kernel
theorem dX0_worthOfGroup_60 : decode cX0_worthOfGroup 60 = .ok (.if_icmp .ne 6, 3) := by decide +kernel
theorem dX0_worthOfGroup_63 : decode cX0_worthOfGroup 63 = .ok (.ldc 54, 2) := by decide +kernel
theorem dX0_worthOfGroup_65 : decode cX0_worthOfGroup 65 = .ok (.ireturn, 1) := by decide +kernel
theorem dX0_worthOfGroup_66 : decode cX0_worthOfGroup 66 = .ok (.iload_n 2, 1) := by decide +kernel
theorem dX0_worthOfGroup_67 : decode cX0_worthOfGroup 67 = .ok (.iload 5, 2) := by decide +kernel
theorem dX0_worthOfGroup_69 : decode cX0_worthOfGroup 69 = .ok (.ifCond .eq 13, 3) := by decide +kernel
theorem dX0_worthOfGroup_72 : decode cX0_worthOfGroup 72 = .ok (.aload_n 0, 1) := by decide +kernel
theorem dX0_worthOfGroup_73 : decode cX0_worthOfGroup 73 = .ok (.iload_n 3, 1) := by decide +kernel
theorem dX0_worthOfGroup_74 : decode cX0_worthOfGroup 74 = .ok (.iload 4, 2) := by decide +kernel
theorem dX0_worthOfGroup_76 : decode cX0_worthOfGroup 76 = .ok (.invokevirtual 50, 3) := by decide +kernel
theorem dX0_worthOfGroup_79 : decode cX0_worthOfGroup 79 = .ok (.goto 4, 3) := by decide +kernel
theorem dX0_worthOfGroup_82 : decode cX0_worthOfGroup 82 = .ok (.iconst 0, 1) := by decide +kernel
theorem dX0_worthOfGroup_83 : decode cX0_worthOfGroup 83 = .ok (.iadd, 1) := by decide +kernel
theorem dX0_worthOfGroup_84 : decode cX0_worthOfGroup 84 = .ok (.istore_n 2, 1) := by decide +kernel
theorem dX0_worthOfGroup_85 : decode cX0_worthOfGroup 85 = .ok (.iinc 4 1, 3) := by decide +kernel
theorem dX0_worthOfGroup_88 : decode cX0_worthOfGroup 88 = .ok (.goto (-71), 3) := by decide +kernel
theorem dX0_worthOfGroup_91 : decode cX0_worthOfGroup 91 = .ok (.iinc 3 1, 3) := by decide +kernel
theorem dX0_worthOfGroup_94 : decode cX0_worthOfGroup 94 = .ok (.goto (-90), 3) := by decide +kernel
theorem dX0_worthOfGroup_97 : decode cX0_worthOfGroup 97 = .ok (.iload_n 2, 1) := by decide +kernel
theorem dX0_worthOfGroup_98 : decode cX0_worthOfGroup 98 = .ok (.ireturn, 1) := by decide +kernel
theorem dX0_bestOfSet_0 : decode cX0_bestOfSet 0 = .ok (.iload_n 1, 1) := by decide +kernel
theorem dX0_bestOfSet_1 : decode cX0_bestOfSet 1 = .ok (.iload_n 1, 1) := by decide +kernel
theorem dX0_bestOfSet_2 : decode cX0_bestOfSet 2 = .ok (.ineg, 1) := by decide +kernel
theorem dX0_bestOfSet_3 : decode cX0_bestOfSet 3 = .ok (.iand, 1) := by decide +kernel
theorem dX0_bestOfSet_4 : decode cX0_bestOfSet 4 = .ok (.istore_n 2, 1) := by decide +kernel
theorem dX0_bestOfSet_5 : decode cX0_bestOfSet 5 = .ok (.ldc 54, 2) := by decide +kernel
theorem dX0_bestOfSet_7 : decode cX0_bestOfSet 7 = .ok (.istore_n 3, 1) := by decide +kernel
theorem dX0_bestOfSet_8 : decode cX0_bestOfSet 8 = .ok (.iload_n 2, 1) := by decide +kernel
theorem dX0_bestOfSet_9 : decode cX0_bestOfSet 9 = .ok (.istore 4, 2) := by decide +kernel
theorem dX0_bestOfSet_11 : decode cX0_bestOfSet 11 = .ok (.iload 4, 2) := by decide +kernel
theorem dX0_bestOfSet_13 : decode cX0_bestOfSet 13 = .ok (.iload_n 1, 1) := by decide +kernel
theorem dX0_bestOfSet_14 : decode cX0_bestOfSet 14 = .ok (.if_icmp .gt 77, 3) := by decide +kernel
theorem dX0_bestOfSet_17 : decode cX0_bestOfSet 17 = .ok (.iload 4, 2) := by decide +kernel
theorem dX0_bestOfSet_19 : decode cX0_bestOfSet 19 = .ok (.iload_n 1, 1) := by decide +kernel
theorem dX0_bestOfSet_20 : decode cX0_bestOfSet 20 = .ok (.iand, 1) := by decide +kernel
theorem dX0_bestOfSet_21 : decode cX0_bestOfSet 21 = .ok (.iload 4, 2) := by decide +kernel
theorem dX0_bestOfSet_23 : decode cX0_bestOfSet 23 = .ok (.if_icmp .ne 14, 3) := by decide +kernel
theorem dX0_bestOfSet_26 : decode cX0_bestOfSet 26 = .ok (.iload 4, 2) := by decide +kernel
theorem dX0_bestOfSet_28 : decode cX0_bestOfSet 28 = .ok (.iload_n 2, 1) := by decide +kernel
theorem dX0_bestOfSet_29 : decode cX0_bestOfSet 29 = .ok (.iand, 1) := by decide +kernel
theorem dX0_bestOfSet_30 : decode cX0_bestOfSet 30 = .ok (.ifCond .eq 7, 3) := by decide +kernel
theorem dX0_bestOfSet_33 : decode cX0_bestOfSet 33 = .ok (.iconst 1, 1) := by decide +kernel
theorem dX0_bestOfSet_34 : decode cX0_bestOfSet 34 = .ok (.goto 4, 3) := by decide +kernel
theorem dX0_bestOfSet_37 : decode cX0_bestOfSet 37 = .ok (.iconst 0, 1) := by decide +kernel
theorem dX0_bestOfSet_38 : decode cX0_bestOfSet 38 = .ok (.istore 5, 2) := by decide +kernel
theorem dX0_bestOfSet_40 : decode cX0_bestOfSet 40 = .ok (.iload 5, 2) := by decide +kernel
theorem dX0_bestOfSet_42 : decode cX0_bestOfSet 42 = .ok (.ifCond .eq 43, 3) := by decide +kernel
theorem dX0_bestOfSet_45 : decode cX0_bestOfSet 45 = .ok (.aload_n 0, 1) := by decide +kernel
theorem dX0_bestOfSet_46 : decode cX0_bestOfSet 46 = .ok (.getfield 23, 3) := by decide +kernel
theorem dX0_bestOfSet_49 : decode cX0_bestOfSet 49 = .ok (.iload 4, 2) := by decide +kernel
theorem dX0_bestOfSet_51 : decode cX0_bestOfSet 51 = .ok (.invokevirtual 40, 3) := by decide +kernel
theorem dX0_bestOfSet_54 : decode cX0_bestOfSet 54 = .ok (.ldc 54, 2) := by decide +kernel
theorem dX0_bestOfSet_56 : decode cX0_bestOfSet 56 = .ok (.if_icmp .eq 29, 3) := by decide +kernel
theorem dX0_bestOfSet_59 : decode cX0_bestOfSet 59 = .ok (.iload_n 3, 1) := by decide +kernel
theorem dX0_bestOfSet_60 : decode cX0_bestOfSet 60 = .ok (.aload_n 0, 1) := by decide +kernel
theorem dX0_bestOfSet_61 : decode cX0_bestOfSet 61 = .ok (.getfield 23, 3) := by decide +kernel
theorem dX0_bestOfSet_64 : decode cX0_bestOfSet 64 = .ok (.iload 4, 2) := by decide +kernel
theorem dX0_bestOfSet_66 : decode cX0_bestOfSet 66 = .ok (.invokevirtual 40, 3) := by decide +kernel
theorem dX0_bestOfSet_69 : decode cX0_bestOfSet 69 = .ok (.aload_n 0, 1) := by decide +kernel
theorem dX0_bestOfSet_70 : decode cX0_bestOfSet 70 = .ok (.getfield 26, 3) := by decide +kernel
theorem dX0_bestOfSet_73 : decode cX0_bestOfSet 73 = .ok (.iload_n 1, 1) := by decide +kernel
theorem dX0_bestOfSet_74 : decode cX0_bestOfSet 74 = .ok (.iload 4, 2) := by decide +kernel
theorem dX0_bestOfSet_76 : decode cX0_bestOfSet 76 = .ok (.ixor, 1) := by decide +kernel
theorem dX0_bestOfSet_77 : decode cX0_bestOfSet 77 = .ok (.invokevirtual 40, 3) := by decide +kernel
theorem dX0_bestOfSet_80 : decode cX0_bestOfSet 80 = .ok (.iadd, 1) := by decide +kernel
theorem dX0_bestOfSet_81 : decode cX0_bestOfSet 81 = .ok (.invokestatic 55, 3) := by decide +kernel
theorem dX0_bestOfSet_84 : decode cX0_bestOfSet 84 = .ok (.istore_n 3, 1) := by decide +kernel
theorem dX0_bestOfSet_85 : decode cX0_bestOfSet 85 = .ok (.iinc 4 1, 3) := by decide +kernel
theorem dX0_bestOfSet_88 : decode cX0_bestOfSet 88 = .ok (.goto (-77), 3) := by decide +kernel
theorem dX0_bestOfSet_91 : decode cX0_bestOfSet 91 = .ok (.iload_n 3, 1) := by decide +kernel
theorem dX0_bestOfSet_92 : decode cX0_bestOfSet 92 = .ok (.ireturn, 1) := by decide +kernel
theorem dX0_bestOfAll_0 : decode cX0_bestOfAll 0 = .ok (.aload_n 0, 1) := by decide +kernel
theorem dX0_bestOfAll_1 : decode cX0_bestOfAll 1 = .ok (.getfield 29, 3) := by decide +kernel
theorem dX0_bestOfAll_4 : decode cX0_bestOfAll 4 = .ok (.iconst 0, 1) := by decide +kernel
theorem dX0_bestOfAll_5 : decode cX0_bestOfAll 5 = .ok (.invokevirtual 60, 3) := by decide +kernel
theorem dX0_bestOfAll_8 : decode cX0_bestOfAll 8 = .ok (.aload_n 0, 1) := by decide +kernel
theorem dX0_bestOfAll_9 : decode cX0_bestOfAll 9 = .ok (.invokevirtual 63, 3) := by decide +kernel
theorem dX0_bestOfAll_12 : decode cX0_bestOfAll 12 = .ok (.istore_n 1, 1) := by decide +kernel
theorem dX0_bestOfAll_13 : decode cX0_bestOfAll 13 = .ok (.iconst 1, 1) := by decide +kernel
theorem dX0_bestOfAll_14 : decode cX0_bestOfAll 14 = .ok (.istore_n 2, 1) := by decide +kernel
theorem dX0_bestOfAll_15 : decode cX0_bestOfAll 15 = .ok (.iload_n 2, 1) := by decide +kernel
theorem dX0_bestOfAll_16 : decode cX0_bestOfAll 16 = .ok (.sipush 203, 3) := by decide +kernel
theorem dX0_bestOfAll_19 : decode cX0_bestOfAll 19 = .ok (.if_icmp .ge 25, 3) := by decide +kernel
theorem dX0_bestOfAll_22 : decode cX0_bestOfAll 22 = .ok (.aload_n 0, 1) := by decide +kernel
theorem dX0_bestOfAll_23 : decode cX0_bestOfAll 23 = .ok (.invokevirtual 67, 3) := by decide +kernel
theorem dX0_bestOfAll_26 : decode cX0_bestOfAll 26 = .ok (.ifCond .eq 18, 3) := by decide +kernel
theorem dX0_bestOfAll_29 : decode cX0_bestOfAll 29 = .ok (.iload_n 1, 1) := by decide +kernel
theorem dX0_bestOfAll_30 : decode cX0_bestOfAll 30 = .ok (.aload_n 0, 1) := by decide +kernel
theorem dX0_bestOfAll_31 : decode cX0_bestOfAll 31 = .ok (.invokevirtual 63, 3) := by decide +kernel
theorem dX0_bestOfAll_34 : decode cX0_bestOfAll 34 = .ok (.invokestatic 55, 3) := by decide +kernel
theorem dX0_bestOfAll_37 : decode cX0_bestOfAll 37 = .ok (.istore_n 1, 1) := by decide +kernel
theorem dX0_bestOfAll_38 : decode cX0_bestOfAll 38 = .ok (.iinc 2 1, 3) := by decide +kernel
theorem dX0_bestOfAll_41 : decode cX0_bestOfAll 41 = .ok (.goto (-26), 3) := by decide +kernel
theorem dX0_bestOfAll_44 : decode cX0_bestOfAll 44 = .ok (.iload_n 1, 1) := by decide +kernel
theorem dX0_bestOfAll_45 : decode cX0_bestOfAll 45 = .ok (.ireturn, 1) := by decide +kernel
theorem dX0_worthOfGrouping_0 : decode cX0_worthOfGrouping 0 = .ok (.iconst 0, 1) := by decide +kernel
theorem dX0_worthOfGrouping_1 : decode cX0_worthOfGrouping 1 = .ok (.istore_n 1, 1) := by decide +kernel
theorem dX0_worthOfGrouping_2 : decode cX0_worthOfGrouping 2 = .ok (.iconst 0, 1) := by decide +kernel
theorem dX0_worthOfGrouping_3 : decode cX0_worthOfGrouping 3 = .ok (.istore_n 2, 1) := by decide +kernel
theorem dX0_worthOfGrouping_4 : decode cX0_worthOfGrouping 4 = .ok (.iload_n 2, 1) := by decide +kernel
theorem dX0_worthOfGrouping_5 : decode cX0_worthOfGrouping 5 = .ok (.aload_n 0, 1) := by decide +kernel
theorem dX0_worthOfGrouping_6 : decode cX0_worthOfGrouping 6 = .ok (.getfield 32, 3) := by decide +kernel
theorem dX0_worthOfGrouping_9 : decode cX0_worthOfGrouping 9 = .ok (.if_icmp .ge 90, 3) := by decide +kernel
theorem dX0_worthOfGrouping_12 : decode cX0_worthOfGrouping 12 = .ok (.iload_n 2, 1) := by decide +kernel
theorem dX0_worthOfGrouping_13 : decode cX0_worthOfGrouping 13 = .ok (.iconst 1, 1) := by decide +kernel
theorem dX0_worthOfGrouping_14 : decode cX0_worthOfGrouping 14 = .ok (.iadd, 1) := by decide +kernel
theorem dX0_worthOfGrouping_15 : decode cX0_worthOfGrouping 15 = .ok (.istore_n 3, 1) := by decide +kernel
theorem dX0_worthOfGrouping_16 : decode cX0_worthOfGrouping 16 = .ok (.iload_n 3, 1) := by decide +kernel
theorem dX0_worthOfGrouping_17 : decode cX0_worthOfGrouping 17 = .ok (.aload_n 0, 1) := by decide +kernel
theorem dX0_worthOfGrouping_18 : decode cX0_worthOfGrouping 18 = .ok (.getfield 32, 3) := by decide +kernel
theorem dX0_worthOfGrouping_21 : decode cX0_worthOfGrouping 21 = .ok (.if_icmp .ge 72, 3) := by decide +kernel
theorem dX0_worthOfGrouping_24 : decode cX0_worthOfGrouping 24 = .ok (.aload_n 0, 1) := by decide +kernel
theorem dX0_worthOfGrouping_25 : decode cX0_worthOfGrouping 25 = .ok (.getfield 29, 3) := by decide +kernel
theorem dX0_worthOfGrouping_28 : decode cX0_worthOfGrouping 28 = .ok (.iload_n 2, 1) := by decide +kernel
theorem dX0_worthOfGrouping_29 : decode cX0_worthOfGrouping 29 = .ok (.invokevirtual 40, 3) := by decide +kernel
theorem dX0_worthOfGrouping_32 : decode cX0_worthOfGrouping 32 = .ok (.aload_n 0, 1) := by decide +kernel
theorem dX0_worthOfGrouping_33 : decode cX0_worthOfGrouping 33 = .ok (.getfield 29, 3) := by decide +kernel
theorem dX0_worthOfGrouping_36 : decode cX0_worthOfGrouping 36 = .ok (.iload_n 3, 1) := by decide +kernel
theorem dX0_worthOfGrouping_37 : decode cX0_worthOfGrouping 37 = .ok (.invokevirtual 40, 3) := by decide +kernel
theorem dX0_worthOfGrouping_40 : decode cX0_worthOfGrouping 40 = .ok (.if_icmp .ne 7, 3) := by decide +kernel
theorem dX0_worthOfGrouping_43 : decode cX0_worthOfGrouping 43 = .ok (.iconst 1, 1) := by decide +kernel
theorem dX0_worthOfGrouping_44 : decode cX0_worthOfGrouping 44 = .ok (.goto 4, 3) := by decide +kernel
theorem dX0_worthOfGrouping_47 : decode cX0_worthOfGrouping 47 = .ok (.iconst 0, 1) := by decide +kernel
theorem dX0_worthOfGrouping_48 : decode cX0_worthOfGrouping 48 = .ok (.istore 4, 2) := by decide +kernel
theorem dX0_worthOfGrouping_50 : decode cX0_worthOfGrouping 50 = .ok (.iload 4, 2) := by decide +kernel
theorem dX0_worthOfGrouping_52 : decode cX0_worthOfGrouping 52 = .ok (.ifCond .eq 17, 3) := by decide +kernel
theorem dX0_worthOfGrouping_55 : decode cX0_worthOfGrouping 55 = .ok (.aload_n 0, 1) := by decide +kernel
theorem dX0_worthOfGrouping_56 : decode cX0_worthOfGrouping 56 = .ok (.iload_n 2, 1) := by decide +kernel
theorem dX0_worthOfGrouping_57 : decode cX0_worthOfGrouping 57 = .ok (.iload_n 3, 1) := by decide +kernel
theorem dX0_worthOfGrouping_58 : decode cX0_worthOfGrouping 58 = .ok (.invokevirtual 50, 3) := by decide +kernel
theorem dX0_worthOfGrouping_61 : decode cX0_worthOfGrouping 61 = .ok (.ldc 54, 2) := by decide +kernel
theorem dX0_worthOfGrouping_63 : decode cX0_worthOfGrouping 63 = .ok (.if_icmp .ne 6, 3) := by decide +kernel
theorem dX0_worthOfGrouping_66 : decode cX0_worthOfGrouping 66 = .ok (.ldc 54, 2) := by decide +kernel
theorem dX0_worthOfGrouping_68 : decode cX0_worthOfGrouping 68 = .ok (.ireturn, 1) := by decide +kernel
theorem dX0_worthOfGrouping_69 : decode cX0_worthOfGrouping 69 = .ok (.iload_n 1, 1) := by decide +kernel
theorem dX0_worthOfGrouping_70 : decode cX0_worthOfGrouping 70 = .ok (.iload 4, 2) := by decide +kernel
theorem dX0_worthOfGrouping_72 : decode cX0_worthOfGrouping 72 = .ok (.ifCond .eq 12, 3) := by decide +kernel
theorem dX0_worthOfGrouping_75 : decode cX0_worthOfGrouping 75 = .ok (.aload_n 0, 1) := by decide +kernel
theorem dX0_worthOfGrouping_76 : decode cX0_worthOfGrouping 76 = .ok (.iload_n 2, 1) := by decide +kernel
theorem dX0_worthOfGrouping_77 : decode cX0_worthOfGrouping 77 = .ok (.iload_n 3, 1) := by decide +kernel
theorem dX0_worthOfGrouping_78 : decode cX0_worthOfGrouping 78 = .ok (.invokevirtual 50, 3) := by decide +kernel
theorem dX0_worthOfGrouping_81 : decode cX0_worthOfGrouping 81 = .ok (.goto 4, 3) := by decide +kernel
theorem dX0_worthOfGrouping_84 : decode cX0_worthOfGrouping 84 = .ok (.iconst 0, 1) := by decide +kernel
theorem dX0_worthOfGrouping_85 : decode cX0_worthOfGrouping 85 = .ok (.iadd, 1) := by decide +kernel
theorem dX0_worthOfGrouping_86 : decode cX0_worthOfGrouping 86 = .ok (.istore_n 1, 1) := by decide +kernel
theorem dX0_worthOfGrouping_87 : decode cX0_worthOfGrouping 87 = .ok (.iinc 3 1, 3) := by decide +kernel
theorem dX0_worthOfGrouping_90 : decode cX0_worthOfGrouping 90 = .ok (.goto (-74), 3) := by decide +kernel
theorem dX0_worthOfGrouping_93 : decode cX0_worthOfGrouping 93 = .ok (.iinc 2 1, 3) := by decide +kernel
theorem dX0_worthOfGrouping_96 : decode cX0_worthOfGrouping 96 = .ok (.goto (-92), 3) := by decide +kernel
theorem dX0_worthOfGrouping_99 : decode cX0_worthOfGrouping 99 = .ok (.iload_n 1, 1) := by decide +kernel
theorem dX0_worthOfGrouping_100 : decode cX0_worthOfGrouping 100 = .ok (.ireturn, 1) := by decide +kernel
theorem dX0_goOnToNext_0 : decode cX0_goOnToNext 0 = .ok (.aload_n 0, 1) := by decide +kernel
theorem dX0_goOnToNext_1 : decode cX0_goOnToNext 1 = .ok (.getfield 32, 3) := by decide +kernel
theorem dX0_goOnToNext_4 : decode cX0_goOnToNext 4 = .ok (.iconst 1, 1) := by decide +kernel
theorem dX0_goOnToNext_5 : decode cX0_goOnToNext 5 = .ok (.isub, 1) := by decide +kernel
theorem dX0_goOnToNext_6 : decode cX0_goOnToNext 6 = .ok (.istore_n 1, 1) := by decide +kernel
theorem dX0_goOnToNext_7 : decode cX0_goOnToNext 7 = .ok (.iload_n 1, 1) := by decide +kernel
theorem dX0_goOnToNext_8 : decode cX0_goOnToNext 8 = .ok (.ifCond .le 54, 3) := by decide +kernel
theorem dX0_goOnToNext_11 : decode cX0_goOnToNext 11 = .ok (.aload_n 0, 1) := by decide +kernel
theorem dX0_goOnToNext_12 : decode cX0_goOnToNext 12 = .ok (.getfield 29, 3) := by decide +kernel
theorem dX0_goOnToNext_15 : decode cX0_goOnToNext 15 = .ok (.iload_n 1, 1) := by decide +kernel
theorem dX0_goOnToNext_16 : decode cX0_goOnToNext 16 = .ok (.invokevirtual 40, 3) := by decide +kernel
theorem dX0_goOnToNext_19 : decode cX0_goOnToNext 19 = .ok (.aload_n 0, 1) := by decide +kernel
theorem dX0_goOnToNext_20 : decode cX0_goOnToNext 20 = .ok (.iload_n 1, 1) := by decide +kernel
theorem dX0_goOnToNext_21 : decode cX0_goOnToNext 21 = .ok (.invokevirtual 71, 3) := by decide +kernel
theorem dX0_goOnToNext_24 : decode cX0_goOnToNext 24 = .ok (.if_icmp .gt 23, 3) := by decide +kernel
theorem dX0_goOnToNext_27 : decode cX0_goOnToNext 27 = .ok (.aload_n 0, 1) := by decide +kernel
theorem dX0_goOnToNext_28 : decode cX0_goOnToNext 28 = .ok (.getfield 29, 3) := by decide +kernel
theorem dX0_goOnToNext_31 : decode cX0_goOnToNext 31 = .ok (.iload_n 1, 1) := by decide +kernel
theorem dX0_goOnToNext_32 : decode cX0_goOnToNext 32 = .ok (.aload_n 0, 1) := by decide +kernel
theorem dX0_goOnToNext_33 : decode cX0_goOnToNext 33 = .ok (.getfield 29, 3) := by decide +kernel
theorem dX0_goOnToNext_36 : decode cX0_goOnToNext 36 = .ok (.iload_n 1, 1) := by decide +kernel
theorem dX0_goOnToNext_37 : decode cX0_goOnToNext 37 = .ok (.invokevirtual 40, 3) := by decide +kernel
theorem dX0_goOnToNext_40 : decode cX0_goOnToNext 40 = .ok (.iconst 1, 1) := by decide +kernel
theorem dX0_goOnToNext_41 : decode cX0_goOnToNext 41 = .ok (.iadd, 1) := by decide +kernel
theorem dX0_goOnToNext_42 : decode cX0_goOnToNext 42 = .ok (.invokevirtual 36, 3) := by decide +kernel
theorem dX0_goOnToNext_45 : decode cX0_goOnToNext 45 = .ok (.iconst 1, 1) := by decide +kernel
theorem dX0_goOnToNext_46 : decode cX0_goOnToNext 46 = .ok (.ireturn, 1) := by decide +kernel
theorem dX0_goOnToNext_47 : decode cX0_goOnToNext 47 = .ok (.aload_n 0, 1) := by decide +kernel
theorem dX0_goOnToNext_48 : decode cX0_goOnToNext 48 = .ok (.getfield 29, 3) := by decide +kernel
theorem dX0_goOnToNext_51 : decode cX0_goOnToNext 51 = .ok (.iload_n 1, 1) := by decide +kernel
theorem dX0_goOnToNext_52 : decode cX0_goOnToNext 52 = .ok (.iconst 0, 1) := by decide +kernel
theorem dX0_goOnToNext_53 : decode cX0_goOnToNext 53 = .ok (.invokevirtual 36, 3) := by decide +kernel
theorem dX0_goOnToNext_56 : decode cX0_goOnToNext 56 = .ok (.iinc 1 (-1), 3) := by decide +kernel
theorem dX0_goOnToNext_59 : decode cX0_goOnToNext 59 = .ok (.goto (-52), 3) := by decide +kernel
theorem dX0_goOnToNext_62 : decode cX0_goOnToNext 62 = .ok (.iconst 0, 1) := by decide +kernel
theorem dX0_goOnToNext_63 : decode cX0_goOnToNext 63 = .ok (.ireturn, 1) := by decide +kernel
theorem dX0_greatestGroupBefore_0 : decode cX0_greatestGroupBefore 0 = .ok (.iconst 0, 1) := by decide +kernel
theorem dX0_greatestGroupBefore_1 : decode cX0_greatestGroupBefore 1 = .ok (.istore_n 2, 1) := by decide +kernel
theorem dX0_greatestGroupBefore_2 : decode cX0_greatestGroupBefore 2 = .ok (.iconst 0, 1) := by decide +kernel
theorem dX0_greatestGroupBefore_3 : decode cX0_greatestGroupBefore 3 = .ok (.istore_n 3, 1) := by decide +kernel
theorem dX0_greatestGroupBefore_4 : decode cX0_greatestGroupBefore 4 = .ok (.iload_n 3, 1) := by decide +kernel
theorem dX0_greatestGroupBefore_5 : decode cX0_greatestGroupBefore 5 = .ok (.iload_n 1, 1) := by decide +kernel
theorem dX0_greatestGroupBefore_6 : decode cX0_greatestGroupBefore 6 = .ok (.if_icmp .ge 22, 3) := by decide +kernel
theorem dX0_greatestGroupBefore_9 : decode cX0_greatestGroupBefore 9 = .ok (.iload_n 2, 1) := by decide +kernel
theorem dX0_greatestGroupBefore_10 : decode cX0_greatestGroupBefore 10 = .ok (.aload_n 0, 1) := by decide +kernel
theorem dX0_greatestGroupBefore_11 : decode cX0_greatestGroupBefore 11 = .ok (.getfield 29, 3) := by decide +kernel
theorem dX0_greatestGroupBefore_14 : decode cX0_greatestGroupBefore 14 = .ok (.iload_n 3, 1) := by decide +kernel
theorem dX0_greatestGroupBefore_15 : decode cX0_greatestGroupBefore 15 = .ok (.invokevirtual 40, 3) := by decide +kernel
theorem dX0_greatestGroupBefore_18 : decode cX0_greatestGroupBefore 18 = .ok (.invokestatic 55, 3) := by decide +kernel
theorem dX0_greatestGroupBefore_21 : decode cX0_greatestGroupBefore 21 = .ok (.istore_n 2, 1) := by decide +kernel
theorem dX0_greatestGroupBefore_22 : decode cX0_greatestGroupBefore 22 = .ok (.iinc 3 1, 3) := by decide +kernel
theorem dX0_greatestGroupBefore_25 : decode cX0_greatestGroupBefore 25 = .ok (.goto (-21), 3) := by decide +kernel
theorem dX0_greatestGroupBefore_28 : decode cX0_greatestGroupBefore 28 = .ok (.iload_n 2, 1) := by decide +kernel
theorem dX0_greatestGroupBefore_29 : decode cX0_greatestGroupBefore 29 = .ok (.ireturn, 1) := by decide +kernel
theorem dX1_init_0 : decode cX1_init 0 = .ok (.aload_n 0, 1) := by decide +kernel
theorem dX1_init_1 : decode cX1_init 1 = .ok (.invokespecial 1, 3) := by decide +kernel
theorem dX1_init_4 : decode cX1_init 4 = .ok (.aload_n 0, 1) := by decide +kernel
theorem dX1_init_5 : decode cX1_init 5 = .ok (.new 7, 3) := by decide +kernel
theorem dX1_init_8 : decode cX1_init 8 = .ok (.dup, 1) := by decide +kernel
theorem dX1_init_9 : decode cX1_init 9 = .ok (.iload_n 1, 1) := by decide +kernel
theorem dX1_init_10 : decode cX1_init 10 = .ok (.invokespecial 9, 3) := by decide +kernel
theorem dX1_init_13 : decode cX1_init 13 = .ok (.putfield 12, 3) := by decide +kernel
theorem dX1_init_16 : decode cX1_init 16 = .ok (.return_, 1) := by decide +kernel
theorem dX1_has_0 : decode cX1_has 0 = .ok (.aload_n 0, 1) := by decide +kernel
theorem dX1_has_1 : decode cX1_has 1 = .ok (.getfield 12, 3) := by decide +kernel
theorem dX1_has_4 : decode cX1_has 4 = .ok (.iload_n 1, 1) := by decide +kernel
theorem dX1_has_5 : decode cX1_has 5 = .ok (.invokevirtual 18, 3) := by decide +kernel
theorem dX1_has_8 : decode cX1_has 8 = .ok (.iload_n 2, 1) := by decide +kernel
theorem dX1_has_9 : decode cX1_has 9 = .ok (.ishr, 1) := by decide +kernel
theorem dX1_has_10 : decode cX1_has 10 = .ok (.iconst 1, 1) := by decide +kernel
theorem dX1_has_11 : decode cX1_has 11 = .ok (.iand, 1) := by decide +kernel
theorem dX1_has_12 : decode cX1_has 12 = .ok (.ifCond .eq 7, 3) := by decide +kernel
theorem dX1_has_15 : decode cX1_has 15 = .ok (.iconst 1, 1) := by decide +kernel
theorem dX1_has_16 : decode cX1_has 16 = .ok (.goto 4, 3) := by decide +kernel
theorem dX1_has_19 : decode cX1_has 19 = .ok (.iconst 0, 1) := by decide +kernel
theorem dX1_has_20 : decode cX1_has 20 = .ok (.ireturn, 1) := by decide +kernel
theorem dX1_tell_0 : decode cX1_tell 0 = .ok (.aload_n 0, 1) := by decide +kernel
theorem dX1_tell_1 : decode cX1_tell 1 = .ok (.iload_n 1, 1) := by decide +kernel
theorem dX1_tell_2 : decode cX1_tell 2 = .ok (.iload_n 2, 1) := by decide +kernel
theorem dX1_tell_3 : decode cX1_tell 3 = .ok (.invokevirtual 22, 3) := by decide +kernel
theorem dX1_tell_6 : decode cX1_tell 6 = .ok (.istore 4, 2) := by decide +kernel
theorem dX1_tell_8 : decode cX1_tell 8 = .ok (.aload_n 0, 1) := by decide +kernel
theorem dX1_tell_9 : decode cX1_tell 9 = .ok (.iload_n 1, 1) := by decide +kernel
theorem dX1_tell_10 : decode cX1_tell 10 = .ok (.iload_n 2, 1) := by decide +kernel
theorem dX1_tell_11 : decode cX1_tell 11 = .ok (.iload_n 3, 1) := by decide +kernel
theorem dX1_tell_12 : decode cX1_tell 12 = .ok (.invokevirtual 26, 3) := by decide +kernel
theorem dX1_tell_15 : decode cX1_tell 15 = .ok (.aload_n 0, 1) := by decide +kernel
theorem dX1_tell_16 : decode cX1_tell 16 = .ok (.iload_n 2, 1) := by decide +kernel
theorem dX1_tell_17 : decode cX1_tell 17 = .ok (.iload_n 1, 1) := by decide +kernel
theorem dX1_tell_18 : decode cX1_tell 18 = .ok (.iload_n 3, 1) := by decide +kernel
theorem dX1_tell_19 : decode cX1_tell 19 = .ok (.invokevirtual 26, 3) := by decide +kernel
theorem dX1_tell_22 : decode cX1_tell 22 = .ok (.iload 4, 2) := by decide +kernel
theorem dX1_tell_24 : decode cX1_tell 24 = .ok (.ireturn, 1) := by decide +kernel
theorem dX1_mark_0 : decode cX1_mark 0 = .ok (.iconst 1, 1) := by decide +kernel
theorem dX1_mark_1 : decode cX1_mark 1 = .ok (.iload_n 2, 1) := by decide +kernel
theorem dX1_mark_2 : decode cX1_mark 2 = .ok (.ishl, 1) := by decide +kernel
theorem dX1_mark_3 : decode cX1_mark 3 = .ok (.istore 4, 2) := by decide +kernel
theorem dX1_mark_5 : decode cX1_mark 5 = .ok (.aload_n 0, 1) := by decide +kernel
theorem dX1_mark_6 : decode cX1_mark 6 = .ok (.getfield 12, 3) := by decide +kernel
theorem dX1_mark_9 : decode cX1_mark 9 = .ok (.iload_n 1, 1) := by decide +kernel
theorem dX1_mark_10 : decode cX1_mark 10 = .ok (.iload_n 3, 1) := by decide +kernel
theorem dX1_mark_11 : decode cX1_mark 11 = .ok (.ifCond .eq 17, 3) := by decide +kernel
theorem dX1_mark_14 : decode cX1_mark 14 = .ok (.aload_n 0, 1) := by decide +kernel
theorem dX1_mark_15 : decode cX1_mark 15 = .ok (.getfield 12, 3) := by decide +kernel
theorem dX1_mark_18 : decode cX1_mark 18 = .ok (.iload_n 1, 1) := by decide +kernel
theorem dX1_mark_19 : decode cX1_mark 19 = .ok (.invokevirtual 18, 3) := by decide +kernel
theorem dX1_mark_22 : decode cX1_mark 22 = .ok (.iload 4, 2) := by decide +kernel
theorem dX1_mark_24 : decode cX1_mark 24 = .ok (.ior, 1) := by decide +kernel
theorem dX1_mark_25 : decode cX1_mark 25 = .ok (.goto 16, 3) := by decide +kernel
theorem dX1_mark_28 : decode cX1_mark 28 = .ok (.aload_n 0, 1) := by decide +kernel
theorem dX1_mark_29 : decode cX1_mark 29 = .ok (.getfield 12, 3) := by decide +kernel
theorem dX1_mark_32 : decode cX1_mark 32 = .ok (.iload_n 1, 1) := by decide +kernel
theorem dX1_mark_33 : decode cX1_mark 33 = .ok (.invokevirtual 18, 3) := by decide +kernel
theorem dX1_mark_36 : decode cX1_mark 36 = .ok (.iload 4, 2) := by decide +kernel
theorem dX1_mark_38 : decode cX1_mark 38 = .ok (.iconst (-1), 1) := by decide +kernel
theorem dX1_mark_39 : decode cX1_mark 39 = .ok (.ixor, 1) := by decide +kernel
theorem dX1_mark_40 : decode cX1_mark 40 = .ok (.iand, 1) := by decide +kernel
theorem dX1_mark_41 : decode cX1_mark 41 = .ok (.invokevirtual 30, 3) := by decide +kernel
theorem dX1_mark_44 : decode cX1_mark 44 = .ok (.return_, 1) := by decide +kernel
theorem dX2_init_0 : decode cX2_init 0 = .ok (.aload_n 0, 1) := by decide +kernel
theorem dX2_init_1 : decode cX2_init 1 = .ok (.invokespecial 3, 3) := by decide +kernel
theorem dX2_init_4 : decode cX2_init 4 = .ok (.aload_n 0, 1) := by decide +kernel
theorem dX2_init_5 : decode cX2_init 5 = .ok (.new 9, 3) := by decide +kernel
theorem dX2_init_8 : decode cX2_init 8 = .ok (.dup, 1) := by decide +kernel
theorem dX2_init_9 : decode cX2_init 9 = .ok (.bipush 16, 2) := by decide +kernel
theorem dX2_init_11 : decode cX2_init 11 = .ok (.invokespecial 11, 3) := by decide +kernel
theorem dX2_init_14 : decode cX2_init 14 = .ok (.putfield 14, 3) := by decide +kernel
theorem dX2_init_17 : decode cX2_init 17 = .ok (.aload_n 0, 1) := by decide +kernel
theorem dX2_init_18 : decode cX2_init 18 = .ok (.new 9, 3) := by decide +kernel
theorem dX2_init_21 : decode cX2_init 21 = .ok (.dup, 1) := by decide +kernel
theorem dX2_init_22 : decode cX2_init 22 = .ok (.bipush 40, 2) := by decide +kernel
theorem dX2_init_24 : decode cX2_init 24 = .ok (.invokespecial 11, 3) := by decide +kernel
theorem dX2_init_27 : decode cX2_init 27 = .ok (.putfield 20, 3) := by decide +kernel
theorem dX2_init_30 : decode cX2_init 30 = .ok (.return_, 1) := by decide +kernel
theorem dX2_made_0 : decode cX2_made 0 = .ok (.aload_n 0, 1) := by decide +kernel
theorem dX2_made_1 : decode cX2_made 1 = .ok (.getfield 23, 3) := by decide +kernel
theorem dX2_made_4 : decode cX2_made 4 = .ok (.ireturn, 1) := by decide +kernel
theorem dX2_ownerOf_0 : decode cX2_ownerOf 0 = .ok (.aload_n 0, 1) := by decide +kernel
theorem dX2_ownerOf_1 : decode cX2_ownerOf 1 = .ok (.getfield 14, 3) := by decide +kernel
theorem dX2_ownerOf_4 : decode cX2_ownerOf 4 = .ok (.iload_n 1, 1) := by decide +kernel
theorem dX2_ownerOf_5 : decode cX2_ownerOf 5 = .ok (.invokevirtual 27, 3) := by decide +kernel
theorem dX2_ownerOf_8 : decode cX2_ownerOf 8 = .ok (.ireturn, 1) := by decide +kernel
theorem dX2_leadOf_0 : decode cX2_leadOf 0 = .ok (.aload_n 0, 1) := by decide +kernel
theorem dX2_leadOf_1 : decode cX2_leadOf 1 = .ok (.getfield 20, 3) := by decide +kernel
theorem dX2_leadOf_4 : decode cX2_leadOf 4 = .ok (.iload_n 1, 1) := by decide +kernel
theorem dX2_leadOf_5 : decode cX2_leadOf 5 = .ok (.invokevirtual 27, 3) := by decide +kernel
theorem dX2_leadOf_8 : decode cX2_leadOf 8 = .ok (.ireturn, 1) := by decide +kernel
theorem dX2_moveToNew_0 : decode cX2_moveToNew 0 = .ok (.aload_n 0, 1) := by decide +kernel
theorem dX2_moveToNew_1 : decode cX2_moveToNew 1 = .ok (.getfield 23, 3) := by decide +kernel
theorem dX2_moveToNew_4 : decode cX2_moveToNew 4 = .ok (.istore_n 2, 1) := by decide +kernel
theorem dX2_moveToNew_5 : decode cX2_moveToNew 5 = .ok (.aload_n 0, 1) := by decide +kernel
theorem dX2_moveToNew_6 : decode cX2_moveToNew 6 = .ok (.getfield 20, 3) := by decide +kernel
theorem dX2_moveToNew_9 : decode cX2_moveToNew 9 = .ok (.iload_n 2, 1) := by decide +kernel
theorem dX2_moveToNew_10 : decode cX2_moveToNew 10 = .ok (.iload_n 2, 1) := by decide +kernel
theorem dX2_moveToNew_11 : decode cX2_moveToNew 11 = .ok (.invokevirtual 31, 3) := by decide +kernel
theorem dX2_moveToNew_14 : decode cX2_moveToNew 14 = .ok (.aload_n 0, 1) := by decide +kernel
theorem dX2_moveToNew_15 : decode cX2_moveToNew 15 = .ok (.getfield 14, 3) := by decide +kernel
theorem dX2_moveToNew_18 : decode cX2_moveToNew 18 = .ok (.iload_n 1, 1) := by decide +kernel
theorem dX2_moveToNew_19 : decode cX2_moveToNew 19 = .ok (.iload_n 2, 1) := by decide +kernel
theorem dX2_moveToNew_20 : decode cX2_moveToNew 20 = .ok (.invokevirtual 31, 3) := by decide +kernel
theorem dX2_moveToNew_23 : decode cX2_moveToNew 23 = .ok (.aload_n 0, 1) := by decide +kernel
theorem dX2_moveToNew_24 : decode cX2_moveToNew 24 = .ok (.dup, 1) := by decide +kernel
theorem dX2_moveToNew_25 : decode cX2_moveToNew 25 = .ok (.getfield 23, 3) := by decide +kernel
theorem dX2_moveToNew_28 : decode cX2_moveToNew 28 = .ok (.iconst 1, 1) := by decide +kernel
theorem dX2_moveToNew_29 : decode cX2_moveToNew 29 = .ok (.iadd, 1) := by decide +kernel
theorem dX2_moveToNew_30 : decode cX2_moveToNew 30 = .ok (.putfield 23, 3) := by decide +kernel
theorem dX2_moveToNew_33 : decode cX2_moveToNew 33 = .ok (.iload_n 2, 1) := by decide +kernel
theorem dX2_moveToNew_34 : decode cX2_moveToNew 34 = .ok (.ireturn, 1) := by decide +kernel
theorem dX2_unite_0 : decode cX2_unite 0 = .ok (.iload_n 1, 1) := by decide +kernel
theorem dX2_unite_1 : decode cX2_unite 1 = .ok (.iload_n 2, 1) := by decide +kernel
theorem dX2_unite_2 : decode cX2_unite 2 = .ok (.invokestatic 35, 3) := by decide +kernel
theorem dX2_unite_5 : decode cX2_unite 5 = .ok (.istore_n 3, 1) := by decide +kernel
theorem dX2_unite_6 : decode cX2_unite 6 = .ok (.iload_n 1, 1) := by decide +kernel
theorem dX2_unite_7 : decode cX2_unite 7 = .ok (.iload_n 2, 1) := by decide +kernel
theorem dX2_unite_8 : decode cX2_unite 8 = .ok (.invokestatic 41, 3) := by decide +kernel
theorem dX2_unite_11 : decode cX2_unite 11 = .ok (.istore 4, 2) := by decide +kernel
theorem dX2_unite_13 : decode cX2_unite 13 = .ok (.iconst 0, 1) := by decide +kernel
theorem dX2_unite_14 : decode cX2_unite 14 = .ok (.istore 5, 2) := by decide +kernel
theorem dX2_unite_16 : decode cX2_unite 16 = .ok (.iload 5, 2) := by decide +kernel
theorem dX2_unite_18 : decode cX2_unite 18 = .ok (.aload_n 0, 1) := by decide +kernel
theorem dX2_unite_19 : decode cX2_unite 19 = .ok (.getfield 23, 3) := by decide +kernel
theorem dX2_unite_22 : decode cX2_unite 22 = .ok (.if_icmp .ge 33, 3) := by decide +kernel
theorem dX2_unite_25 : decode cX2_unite 25 = .ok (.aload_n 0, 1) := by decide +kernel
theorem dX2_unite_26 : decode cX2_unite 26 = .ok (.getfield 20, 3) := by decide +kernel
theorem dX2_unite_29 : decode cX2_unite 29 = .ok (.iload 5, 2) := by decide +kernel
theorem dX2_unite_31 : decode cX2_unite 31 = .ok (.invokevirtual 27, 3) := by decide +kernel
theorem dX2_unite_34 : decode cX2_unite 34 = .ok (.iload 4, 2) := by decide +kernel
theorem dX2_unite_36 : decode cX2_unite 36 = .ok (.if_icmp .ne 13, 3) := by decide +kernel
theorem dX2_unite_39 : decode cX2_unite 39 = .ok (.aload_n 0, 1) := by decide +kernel
theorem dX2_unite_40 : decode cX2_unite 40 = .ok (.getfield 20, 3) := by decide +kernel
theorem dX2_unite_43 : decode cX2_unite 43 = .ok (.iload 5, 2) := by decide +kernel
theorem dX2_unite_45 : decode cX2_unite 45 = .ok (.iload_n 3, 1) := by decide +kernel
theorem dX2_unite_46 : decode cX2_unite 46 = .ok (.invokevirtual 31, 3) := by decide +kernel
theorem dX2_unite_49 : decode cX2_unite 49 = .ok (.iinc 5 1, 3) := by decide +kernel
theorem dX2_unite_52 : decode cX2_unite 52 = .ok (.goto (-36), 3) := by decide +kernel
theorem dX2_unite_55 : decode cX2_unite 55 = .ok (.iconst 0, 1) := by decide +kernel
theorem dX2_unite_56 : decode cX2_unite 56 = .ok (.istore 5, 2) := by decide +kernel
theorem dX2_unite_58 : decode cX2_unite 58 = .ok (.iload 5, 2) := by decide +kernel
theorem dX2_unite_60 : decode cX2_unite 60 = .ok (.bipush 16, 2) := by decide +kernel
theorem dX2_unite_62 : decode cX2_unite 62 = .ok (.if_icmp .ge 33, 3) := by decide +kernel
theorem dX2_unite_65 : decode cX2_unite 65 = .ok (.aload_n 0, 1) := by decide +kernel
theorem dX2_unite_66 : decode cX2_unite 66 = .ok (.getfield 14, 3) := by decide +kernel
theorem dX2_unite_69 : decode cX2_unite 69 = .ok (.iload 5, 2) := by decide +kernel
theorem dX2_unite_71 : decode cX2_unite 71 = .ok (.invokevirtual 27, 3) := by decide +kernel
theorem dX2_unite_74 : decode cX2_unite 74 = .ok (.iload 4, 2) := by decide +kernel
theorem dX2_unite_76 : decode cX2_unite 76 = .ok (.if_icmp .ne 13, 3) := by decide +kernel
theorem dX2_unite_79 : decode cX2_unite 79 = .ok (.aload_n 0, 1) := by decide +kernel
theorem dX2_unite_80 : decode cX2_unite 80 = .ok (.getfield 14, 3) := by decide +kernel
theorem dX2_unite_83 : decode cX2_unite 83 = .ok (.iload 5, 2) := by decide +kernel
theorem dX2_unite_85 : decode cX2_unite 85 = .ok (.iload_n 3, 1) := by decide +kernel
theorem dX2_unite_86 : decode cX2_unite 86 = .ok (.invokevirtual 31, 3) := by decide +kernel
theorem dX2_unite_89 : decode cX2_unite 89 = .ok (.iinc 5 1, 3) := by decide +kernel
theorem dX2_unite_92 : decode cX2_unite 92 = .ok (.goto (-34), 3) := by decide +kernel
theorem dX2_unite_95 : decode cX2_unite 95 = .ok (.iload_n 3, 1) := by decide +kernel
theorem dX2_unite_96 : decode cX2_unite 96 = .ok (.ireturn, 1) := by decide +kernel
theorem dX3_init_0 : decode cX3_init 0 = .ok (.aload_n 0, 1) := by decide +kernel
theorem dX3_init_1 : decode cX3_init 1 = .ok (.invokespecial 1, 3) := by decide +kernel
theorem dX3_init_4 : decode cX3_init 4 = .ok (.aload_n 0, 1) := by decide +kernel
theorem dX3_init_5 : decode cX3_init 5 = .ok (.iload_n 1, 1) := by decide +kernel
theorem dX3_init_6 : decode cX3_init 6 = .ok (.iconst 0, 1) := by decide +kernel
theorem dX3_init_7 : decode cX3_init 7 = .ok (.invokestatic 7, 3) := by decide +kernel
theorem dX3_init_10 : decode cX3_init 10 = .ok (.newarray .int, 2) := by decide +kernel
theorem dX3_init_12 : decode cX3_init 12 = .ok (.putfield 13, 3) := by decide +kernel
theorem dX3_init_15 : decode cX3_init 15 = .ok (.return_, 1) := by decide +kernel
theorem dX3_at_0 : decode cX3_at 0 = .ok (.iload_n 1, 1) := by decide +kernel
theorem dX3_at_1 : decode cX3_at 1 = .ok (.ifCond .lt 21, 3) := by decide +kernel
theorem dX3_at_4 : decode cX3_at 4 = .ok (.iload_n 1, 1) := by decide +kernel
theorem dX3_at_5 : decode cX3_at 5 = .ok (.aload_n 0, 1) := by decide +kernel
theorem dX3_at_6 : decode cX3_at 6 = .ok (.getfield 13, 3) := by decide +kernel
theorem dX3_at_9 : decode cX3_at 9 = .ok (.arraylength, 1) := by decide +kernel
theorem dX3_at_10 : decode cX3_at 10 = .ok (.if_icmp .ge 12, 3) := by decide +kernel
theorem dX3_at_13 : decode cX3_at 13 = .ok (.aload_n 0, 1) := by decide +kernel
theorem dX3_at_14 : decode cX3_at 14 = .ok (.getfield 13, 3) := by decide +kernel
theorem dX3_at_17 : decode cX3_at 17 = .ok (.iload_n 1, 1) := by decide +kernel
theorem dX3_at_18 : decode cX3_at 18 = .ok (.iaload, 1) := by decide +kernel
theorem dX3_at_19 : decode cX3_at 19 = .ok (.goto 4, 3) := by decide +kernel
theorem dX3_at_22 : decode cX3_at 22 = .ok (.iconst 0, 1) := by decide +kernel
theorem dX3_at_23 : decode cX3_at 23 = .ok (.ireturn, 1) := by decide +kernel
theorem dX3_put_0 : decode cX3_put 0 = .ok (.iload_n 1, 1) := by decide +kernel
theorem dX3_put_1 : decode cX3_put 1 = .ok (.ifCond .lt 19, 3) := by decide +kernel
theorem dX3_put_4 : decode cX3_put 4 = .ok (.iload_n 1, 1) := by decide +kernel
theorem dX3_put_5 : decode cX3_put 5 = .ok (.aload_n 0, 1) := by decide +kernel
theorem dX3_put_6 : decode cX3_put 6 = .ok (.getfield 13, 3) := by decide +kernel
theorem dX3_put_9 : decode cX3_put 9 = .ok (.arraylength, 1) := by decide +kernel
theorem dX3_put_10 : decode cX3_put 10 = .ok (.if_icmp .ge 10, 3) := by decide +kernel
theorem dX3_put_13 : decode cX3_put 13 = .ok (.aload_n 0, 1) := by decide +kernel
theorem dX3_put_14 : decode cX3_put 14 = .ok (.getfield 13, 3) := by decide +kernel
theorem dX3_put_17 : decode cX3_put 17 = .ok (.iload_n 1, 1) := by decide +kernel
theorem dX3_put_18 : decode cX3_put 18 = .ok (.iload_n 2, 1) := by decide +kernel
theorem dX3_put_19 : decode cX3_put 19 = .ok (.iastore, 1) := by decide +kernel
theorem dX3_put_20 : decode cX3_put 20 = .ok (.return_, 1) := by decide +kernel
theorem dX3_fill_0 : decode cX3_fill 0 = .ok (.iconst 0, 1) := by decide +kernel
theorem dX3_fill_1 : decode cX3_fill 1 = .ok (.istore_n 2, 1) := by decide +kernel
theorem dX3_fill_2 : decode cX3_fill 2 = .ok (.iload_n 2, 1) := by decide +kernel
theorem dX3_fill_3 : decode cX3_fill 3 = .ok (.aload_n 0, 1) := by decide +kernel
theorem dX3_fill_4 : decode cX3_fill 4 = .ok (.getfield 13, 3) := by decide +kernel
theorem dX3_fill_7 : decode cX3_fill 7 = .ok (.arraylength, 1) := by decide +kernel
theorem dX3_fill_8 : decode cX3_fill 8 = .ok (.if_icmp .ge 16, 3) := by decide +kernel
theorem dX3_fill_11 : decode cX3_fill 11 = .ok (.aload_n 0, 1) := by decide +kernel
theorem dX3_fill_12 : decode cX3_fill 12 = .ok (.getfield 13, 3) := by decide +kernel
theorem dX3_fill_15 : decode cX3_fill 15 = .ok (.iload_n 2, 1) := by decide +kernel
theorem dX3_fill_16 : decode cX3_fill 16 = .ok (.iload_n 1, 1) := by decide +kernel
theorem dX3_fill_17 : decode cX3_fill 17 = .ok (.iastore, 1) := by decide +kernel
theorem dX3_fill_18 : decode cX3_fill 18 = .ok (.iinc 2 1, 3) := by decide +kernel
theorem dX3_fill_21 : decode cX3_fill 21 = .ok (.goto (-19), 3) := by decide +kernel
theorem dX3_fill_24 : decode cX3_fill 24 = .ok (.return_, 1) := by decide +kernel
theorem dX3_copyFrom_0 : decode cX3_copyFrom 0 = .ok (.iconst 0, 1) := by decide +kernel
theorem dX3_copyFrom_1 : decode cX3_copyFrom 1 = .ok (.istore_n 2, 1) := by decide +kernel
theorem dX3_copyFrom_2 : decode cX3_copyFrom 2 = .ok (.iload_n 2, 1) := by decide +kernel
theorem dX3_copyFrom_3 : decode cX3_copyFrom 3 = .ok (.aload_n 0, 1) := by decide +kernel
theorem dX3_copyFrom_4 : decode cX3_copyFrom 4 = .ok (.getfield 13, 3) := by decide +kernel
theorem dX3_copyFrom_7 : decode cX3_copyFrom 7 = .ok (.arraylength, 1) := by decide +kernel
theorem dX3_copyFrom_8 : decode cX3_copyFrom 8 = .ok (.if_icmp .ge 20, 3) := by decide +kernel
theorem dX3_copyFrom_11 : decode cX3_copyFrom 11 = .ok (.aload_n 0, 1) := by decide +kernel
theorem dX3_copyFrom_12 : decode cX3_copyFrom 12 = .ok (.getfield 13, 3) := by decide +kernel
theorem dX3_copyFrom_15 : decode cX3_copyFrom 15 = .ok (.iload_n 2, 1) := by decide +kernel
theorem dX3_copyFrom_16 : decode cX3_copyFrom 16 = .ok (.aload_n 1, 1) := by decide +kernel
theorem dX3_copyFrom_17 : decode cX3_copyFrom 17 = .ok (.iload_n 2, 1) := by decide +kernel
theorem dX3_copyFrom_18 : decode cX3_copyFrom 18 = .ok (.invokevirtual 19, 3) := by decide +kernel
theorem dX3_copyFrom_21 : decode cX3_copyFrom 21 = .ok (.iastore, 1) := by decide +kernel
theorem dX3_copyFrom_22 : decode cX3_copyFrom 22 = .ok (.iinc 2 1, 3) := by decide +kernel
theorem dX3_copyFrom_25 : decode cX3_copyFrom 25 = .ok (.goto (-23), 3) := by decide +kernel
theorem dX3_copyFrom_28 : decode cX3_copyFrom 28 = .ok (.return_, 1) := by decide +kernel
theorem dX4_init_0 : decode cX4_init 0 = .ok (.aload_n 0, 1) := by decide +kernel
theorem dX4_init_1 : decode cX4_init 1 = .ok (.invokespecial 3, 3) := by decide +kernel
theorem dX4_init_4 : decode cX4_init 4 = .ok (.aload_n 0, 1) := by decide +kernel
theorem dX4_init_5 : decode cX4_init 5 = .ok (.new 9, 3) := by decide +kernel
theorem dX4_init_8 : decode cX4_init 8 = .ok (.dup, 1) := by decide +kernel
theorem dX4_init_9 : decode cX4_init 9 = .ok (.bipush 16, 2) := by decide +kernel
theorem dX4_init_11 : decode cX4_init 11 = .ok (.invokespecial 11, 3) := by decide +kernel
theorem dX4_init_14 : decode cX4_init 14 = .ok (.putfield 14, 3) := by decide +kernel
theorem dX4_init_17 : decode cX4_init 17 = .ok (.aload_n 0, 1) := by decide +kernel
theorem dX4_init_18 : decode cX4_init 18 = .ok (.new 9, 3) := by decide +kernel
theorem dX4_init_21 : decode cX4_init 21 = .ok (.dup, 1) := by decide +kernel
theorem dX4_init_22 : decode cX4_init 22 = .ok (.bipush 16, 2) := by decide +kernel
theorem dX4_init_24 : decode cX4_init 24 = .ok (.invokespecial 11, 3) := by decide +kernel
theorem dX4_init_27 : decode cX4_init 27 = .ok (.putfield 20, 3) := by decide +kernel
theorem dX4_init_30 : decode cX4_init 30 = .ok (.aload_n 0, 1) := by decide +kernel
theorem dX4_init_31 : decode cX4_init 31 = .ok (.new 9, 3) := by decide +kernel
theorem dX4_init_34 : decode cX4_init 34 = .ok (.dup, 1) := by decide +kernel
theorem dX4_init_35 : decode cX4_init 35 = .ok (.bipush 40, 2) := by decide +kernel
theorem dX4_init_37 : decode cX4_init 37 = .ok (.invokespecial 11, 3) := by decide +kernel
theorem dX4_init_40 : decode cX4_init 40 = .ok (.putfield 23, 3) := by decide +kernel
theorem dX4_init_43 : decode cX4_init 43 = .ok (.aload_n 0, 1) := by decide +kernel
theorem dX4_init_44 : decode cX4_init 44 = .ok (.new 9, 3) := by decide +kernel
theorem dX4_init_47 : decode cX4_init 47 = .ok (.dup, 1) := by decide +kernel
theorem dX4_init_48 : decode cX4_init 48 = .ok (.bipush 40, 2) := by decide +kernel
theorem dX4_init_50 : decode cX4_init 50 = .ok (.invokespecial 11, 3) := by decide +kernel
theorem dX4_init_53 : decode cX4_init 53 = .ok (.putfield 26, 3) := by decide +kernel
theorem dX4_init_56 : decode cX4_init 56 = .ok (.aload_n 0, 1) := by decide +kernel
theorem dX4_init_57 : decode cX4_init 57 = .ok (.new 9, 3) := by decide +kernel
theorem dX4_init_60 : decode cX4_init 60 = .ok (.dup, 1) := by decide +kernel
theorem dX4_init_61 : decode cX4_init 61 = .ok (.bipush 40, 2) := by decide +kernel
theorem dX4_init_63 : decode cX4_init 63 = .ok (.invokespecial 11, 3) := by decide +kernel
theorem dX4_init_66 : decode cX4_init 66 = .ok (.putfield 29, 3) := by decide +kernel
theorem dX4_init_69 : decode cX4_init 69 = .ok (.aload_n 0, 1) := by decide +kernel
theorem dX4_init_70 : decode cX4_init 70 = .ok (.new 9, 3) := by decide +kernel
theorem dX4_init_73 : decode cX4_init 73 = .ok (.dup, 1) := by decide +kernel
theorem dX4_init_74 : decode cX4_init 74 = .ok (.bipush 16, 2) := by decide +kernel
theorem dX4_init_76 : decode cX4_init 76 = .ok (.invokespecial 11, 3) := by decide +kernel
theorem dX4_init_79 : decode cX4_init 79 = .ok (.putfield 32, 3) := by decide +kernel
theorem dX4_init_82 : decode cX4_init 82 = .ok (.aload_n 0, 1) := by decide +kernel
theorem dX4_init_83 : decode cX4_init 83 = .ok (.new 9, 3) := by decide +kernel
theorem dX4_init_86 : decode cX4_init 86 = .ok (.dup, 1) := by decide +kernel
theorem dX4_init_87 : decode cX4_init 87 = .ok (.bipush 16, 2) := by decide +kernel
theorem dX4_init_89 : decode cX4_init 89 = .ok (.invokespecial 11, 3) := by decide +kernel
theorem dX4_init_92 : decode cX4_init 92 = .ok (.putfield 35, 3) := by decide +kernel
theorem dX4_init_95 : decode cX4_init 95 = .ok (.aload_n 0, 1) := by decide +kernel
theorem dX4_init_96 : decode cX4_init 96 = .ok (.new 9, 3) := by decide +kernel
theorem dX4_init_99 : decode cX4_init 99 = .ok (.dup, 1) := by decide +kernel
theorem dX4_init_100 : decode cX4_init 100 = .ok (.bipush 16, 2) := by decide +kernel
theorem dX4_init_102 : decode cX4_init 102 = .ok (.invokespecial 11, 3) := by decide +kernel
theorem dX4_init_105 : decode cX4_init 105 = .ok (.putfield 38, 3) := by decide +kernel
theorem dX4_init_108 : decode cX4_init 108 = .ok (.aload_n 0, 1) := by decide +kernel
theorem dX4_init_109 : decode cX4_init 109 = .ok (.new 9, 3) := by decide +kernel
theorem dX4_init_112 : decode cX4_init 112 = .ok (.dup, 1) := by decide +kernel
theorem dX4_init_113 : decode cX4_init 113 = .ok (.bipush 16, 2) := by decide +kernel
theorem dX4_init_115 : decode cX4_init 115 = .ok (.invokespecial 11, 3) := by decide +kernel
theorem dX4_init_118 : decode cX4_init 118 = .ok (.putfield 41, 3) := by decide +kernel
theorem dX4_init_121 : decode cX4_init 121 = .ok (.aload_n 0, 1) := by decide +kernel
theorem dX4_init_122 : decode cX4_init 122 = .ok (.new 9, 3) := by decide +kernel
theorem dX4_init_125 : decode cX4_init 125 = .ok (.dup, 1) := by decide +kernel
theorem dX4_init_126 : decode cX4_init 126 = .ok (.sipush 256, 3) := by decide +kernel
theorem dX4_init_129 : decode cX4_init 129 = .ok (.invokespecial 11, 3) := by decide +kernel
theorem dX4_init_132 : decode cX4_init 132 = .ok (.putfield 44, 3) := by decide +kernel
theorem dX4_init_135 : decode cX4_init 135 = .ok (.aload_n 0, 1) := by decide +kernel
theorem dX4_init_136 : decode cX4_init 136 = .ok (.getfield 20, 3) := by decide +kernel
theorem dX4_init_139 : decode cX4_init 139 = .ok (.sipush 999, 3) := by decide +kernel
theorem dX4_init_142 : decode cX4_init 142 = .ok (.invokevirtual 47, 3) := by decide +kernel
theorem dX4_init_145 : decode cX4_init 145 = .ok (.aload_n 0, 1) := by decide +kernel
theorem dX4_init_146 : decode cX4_init 146 = .ok (.getfield 35, 3) := by decide +kernel
theorem dX4_init_149 : decode cX4_init 149 = .ok (.sipush 999, 3) := by decide +kernel
theorem dX4_init_152 : decode cX4_init 152 = .ok (.invokevirtual 47, 3) := by decide +kernel
theorem dX4_init_155 : decode cX4_init 155 = .ok (.return_, 1) := by decide +kernel
theorem dX4_isFullyTold_0 : decode cX4_isFullyTold 0 = .ok (.aload_n 0, 1) := by decide +kernel
theorem dX4_isFullyTold_1 : decode cX4_isFullyTold 1 = .ok (.getfield 50, 3) := by decide +kernel
theorem dX4_isFullyTold_4 : decode cX4_isFullyTold 4 = .ok (.bipush 40, 2) := by decide +kernel
theorem dX4_isFullyTold_6 : decode cX4_isFullyTold 6 = .ok (.if_icmp .lt 7, 3) := by decide +kernel
theorem dX4_isFullyTold_9 : decode cX4_isFullyTold 9 = .ok (.iconst 1, 1) := by decide +kernel
theorem dX4_isFullyTold_10 : decode cX4_isFullyTold 10 = .ok (.goto 4, 3) := by decide +kernel
theorem dX4_isFullyTold_13 : decode cX4_isFullyTold 13 = .ok (.iconst 0, 1) := by decide +kernel
theorem dX4_isFullyTold_14 : decode cX4_isFullyTold 14 = .ok (.ireturn, 1) := by decide +kernel
theorem dX4_firstOf_0 : decode cX4_firstOf 0 = .ok (.aload_n 0, 1) := by decide +kernel
theorem dX4_firstOf_1 : decode cX4_firstOf 1 = .ok (.getfield 32, 3) := by decide +kernel
theorem dX4_firstOf_4 : decode cX4_firstOf 4 = .ok (.iload_n 1, 1) := by decide +kernel
theorem dX4_firstOf_5 : decode cX4_firstOf 5 = .ok (.invokevirtual 54, 3) := by decide +kernel
theorem dX4_firstOf_8 : decode cX4_firstOf 8 = .ok (.ireturn, 1) := by decide +kernel
theorem dX4_lastOf_0 : decode cX4_lastOf 0 = .ok (.aload_n 0, 1) := by decide +kernel
theorem dX4_lastOf_1 : decode cX4_lastOf 1 = .ok (.getfield 35, 3) := by decide +kernel
theorem dX4_lastOf_4 : decode cX4_lastOf 4 = .ok (.iload_n 1, 1) := by decide +kernel
theorem dX4_lastOf_5 : decode cX4_lastOf 5 = .ok (.invokevirtual 54, 3) := by decide +kernel
theorem dX4_lastOf_8 : decode cX4_lastOf 8 = .ok (.ireturn, 1) := by decide +kernel
theorem dX4_isCertain_0 : decode cX4_isCertain 0 = .ok (.aload_n 0, 1) := by decide +kernel
theorem dX4_isCertain_1 : decode cX4_isCertain 1 = .ok (.getfield 32, 3) := by decide +kernel
theorem dX4_isCertain_4 : decode cX4_isCertain 4 = .ok (.iload_n 1, 1) := by decide +kernel
theorem dX4_isCertain_5 : decode cX4_isCertain 5 = .ok (.invokevirtual 54, 3) := by decide +kernel
theorem dX4_isCertain_8 : decode cX4_isCertain 8 = .ok (.aload_n 0, 1) := by decide +kernel
theorem dX4_isCertain_9 : decode cX4_isCertain 9 = .ok (.getfield 35, 3) := by decide +kernel
theorem dX4_isCertain_12 : decode cX4_isCertain 12 = .ok (.iload_n 1, 1) := by decide +kernel
theorem dX4_isCertain_13 : decode cX4_isCertain 13 = .ok (.invokevirtual 54, 3) := by decide +kernel
theorem dX4_isCertain_16 : decode cX4_isCertain 16 = .ok (.if_icmp .ne 7, 3) := by decide +kernel
theorem dX4_isCertain_19 : decode cX4_isCertain 19 = .ok (.iconst 1, 1) := by decide +kernel
theorem dX4_isCertain_20 : decode cX4_isCertain 20 = .ok (.goto 4, 3) := by decide +kernel
theorem dX4_isCertain_23 : decode cX4_isCertain 23 = .ok (.iconst 0, 1) := by decide +kernel
theorem dX4_isCertain_24 : decode cX4_isCertain 24 = .ok (.ireturn, 1) := by decide +kernel
theorem dX4_tellAhead_0 : decode cX4_tellAhead 0 = .ok (.aload_n 0, 1) := by decide +kernel
theorem dX4_tellAhead_1 : decode cX4_tellAhead 1 = .ok (.getfield 23, 3) := by decide +kernel
theorem dX4_tellAhead_4 : decode cX4_tellAhead 4 = .ok (.aload_n 0, 1) := by decide +kernel
theorem dX4_tellAhead_5 : decode cX4_tellAhead 5 = .ok (.getfield 50, 3) := by decide +kernel
theorem dX4_tellAhead_8 : decode cX4_tellAhead 8 = .ok (.iload_n 1, 1) := by decide +kernel
theorem dX4_tellAhead_9 : decode cX4_tellAhead 9 = .ok (.invokevirtual 58, 3) := by decide +kernel
theorem dX4_tellAhead_12 : decode cX4_tellAhead 12 = .ok (.aload_n 0, 1) := by decide +kernel
theorem dX4_tellAhead_13 : decode cX4_tellAhead 13 = .ok (.getfield 26, 3) := by decide +kernel
theorem dX4_tellAhead_16 : decode cX4_tellAhead 16 = .ok (.aload_n 0, 1) := by decide +kernel
theorem dX4_tellAhead_17 : decode cX4_tellAhead 17 = .ok (.getfield 50, 3) := by decide +kernel
theorem dX4_tellAhead_20 : decode cX4_tellAhead 20 = .ok (.iload_n 2, 1) := by decide +kernel
theorem dX4_tellAhead_21 : decode cX4_tellAhead 21 = .ok (.invokevirtual 58, 3) := by decide +kernel
theorem dX4_tellAhead_24 : decode cX4_tellAhead 24 = .ok (.aload_n 0, 1) := by decide +kernel
theorem dX4_tellAhead_25 : decode cX4_tellAhead 25 = .ok (.getfield 29, 3) := by decide +kernel
theorem dX4_tellAhead_28 : decode cX4_tellAhead 28 = .ok (.aload_n 0, 1) := by decide +kernel
theorem dX4_tellAhead_29 : decode cX4_tellAhead 29 = .ok (.getfield 50, 3) := by decide +kernel
theorem dX4_tellAhead_32 : decode cX4_tellAhead 32 = .ok (.iload_n 3, 1) := by decide +kernel
theorem dX4_tellAhead_33 : decode cX4_tellAhead 33 = .ok (.invokevirtual 58, 3) := by decide +kernel
theorem dX4_tellAhead_36 : decode cX4_tellAhead 36 = .ok (.aload_n 0, 1) := by decide +kernel
theorem dX4_tellAhead_37 : decode cX4_tellAhead 37 = .ok (.dup, 1) := by decide +kernel
theorem dX4_tellAhead_38 : decode cX4_tellAhead 38 = .ok (.getfield 50, 3) := by decide +kernel
theorem dX4_tellAhead_41 : decode cX4_tellAhead 41 = .ok (.iconst 1, 1) := by decide +kernel
theorem dX4_tellAhead_42 : decode cX4_tellAhead 42 = .ok (.iadd, 1) := by decide +kernel
theorem dX4_tellAhead_43 : decode cX4_tellAhead 43 = .ok (.putfield 50, 3) := by decide +kernel
theorem dX4_tellAhead_46 : decode cX4_tellAhead 46 = .ok (.aload_n 0, 1) := by decide +kernel
theorem dX4_tellAhead_47 : decode cX4_tellAhead 47 = .ok (.invokevirtual 62, 3) := by decide +kernel
theorem dX4_tellAhead_50 : decode cX4_tellAhead 50 = .ok (.istore 4, 2) := by decide +kernel
theorem dX4_tellAhead_52 : decode cX4_tellAhead 52 = .ok (.iload 4, 2) := by decide +kernel
theorem dX4_tellAhead_54 : decode cX4_tellAhead 54 = .ok (.iconst (-1), 1) := by decide +kernel
theorem dX4_tellAhead_55 : decode cX4_tellAhead 55 = .ok (.if_icmp .ne 16, 3) := by decide +kernel
theorem dX4_tellAhead_58 : decode cX4_tellAhead 58 = .ok (.aload_n 0, 1) := by decide +kernel
theorem dX4_tellAhead_59 : decode cX4_tellAhead 59 = .ok (.dup, 1) := by decide +kernel
theorem dX4_tellAhead_60 : decode cX4_tellAhead 60 = .ok (.getfield 50, 3) := by decide +kernel
theorem dX4_tellAhead_63 : decode cX4_tellAhead 63 = .ok (.iconst 1, 1) := by decide +kernel
theorem dX4_tellAhead_64 : decode cX4_tellAhead 64 = .ok (.isub, 1) := by decide +kernel
theorem dX4_tellAhead_65 : decode cX4_tellAhead 65 = .ok (.putfield 50, 3) := by decide +kernel
theorem dX4_tellAhead_68 : decode cX4_tellAhead 68 = .ok (.goto 7, 3) := by decide +kernel
theorem dX4_tellAhead_71 : decode cX4_tellAhead 71 = .ok (.aload_n 0, 1) := by decide +kernel
theorem dX4_tellAhead_72 : decode cX4_tellAhead 72 = .ok (.invokevirtual 66, 3) := by decide +kernel
theorem dX4_tellAhead_75 : decode cX4_tellAhead 75 = .ok (.iload 4, 2) := by decide +kernel
theorem dX4_tellAhead_77 : decode cX4_tellAhead 77 = .ok (.ireturn, 1) := by decide +kernel
theorem dX4_narrow_0 : decode cX4_narrow 0 = .ok (.aload_n 0, 1) := by decide +kernel
theorem dX4_narrow_1 : decode cX4_narrow 1 = .ok (.iload_n 1, 1) := by decide +kernel
theorem dX4_narrow_2 : decode cX4_narrow 2 = .ok (.iload_n 2, 1) := by decide +kernel
theorem dX4_narrow_3 : decode cX4_narrow 3 = .ok (.iload_n 3, 1) := by decide +kernel
theorem dX4_narrow_4 : decode cX4_narrow 4 = .ok (.invokevirtual 69, 3) := by decide +kernel
theorem dX4_narrow_7 : decode cX4_narrow 7 = .ok (.istore 4, 2) := by decide +kernel
theorem dX4_narrow_9 : decode cX4_narrow 9 = .ok (.iload 4, 2) := by decide +kernel
theorem dX4_narrow_11 : decode cX4_narrow 11 = .ok (.iconst (-1), 1) := by decide +kernel
theorem dX4_narrow_12 : decode cX4_narrow 12 = .ok (.if_icmp .eq 47, 3) := by decide +kernel
theorem dX4_narrow_15 : decode cX4_narrow 15 = .ok (.aload_n 0, 1) := by decide +kernel
theorem dX4_narrow_16 : decode cX4_narrow 16 = .ok (.getfield 14, 3) := by decide +kernel
theorem dX4_narrow_19 : decode cX4_narrow 19 = .ok (.iload_n 1, 1) := by decide +kernel
theorem dX4_narrow_20 : decode cX4_narrow 20 = .ok (.aload_n 0, 1) := by decide +kernel
theorem dX4_narrow_21 : decode cX4_narrow 21 = .ok (.getfield 14, 3) := by decide +kernel
theorem dX4_narrow_24 : decode cX4_narrow 24 = .ok (.iload_n 1, 1) := by decide +kernel
theorem dX4_narrow_25 : decode cX4_narrow 25 = .ok (.invokevirtual 54, 3) := by decide +kernel
theorem dX4_narrow_28 : decode cX4_narrow 28 = .ok (.iload_n 2, 1) := by decide +kernel
theorem dX4_narrow_29 : decode cX4_narrow 29 = .ok (.invokestatic 73, 3) := by decide +kernel
theorem dX4_narrow_32 : decode cX4_narrow 32 = .ok (.invokevirtual 58, 3) := by decide +kernel
theorem dX4_narrow_35 : decode cX4_narrow 35 = .ok (.aload_n 0, 1) := by decide +kernel
theorem dX4_narrow_36 : decode cX4_narrow 36 = .ok (.getfield 20, 3) := by decide +kernel
theorem dX4_narrow_39 : decode cX4_narrow 39 = .ok (.iload_n 1, 1) := by decide +kernel
theorem dX4_narrow_40 : decode cX4_narrow 40 = .ok (.aload_n 0, 1) := by decide +kernel
theorem dX4_narrow_41 : decode cX4_narrow 41 = .ok (.getfield 20, 3) := by decide +kernel
theorem dX4_narrow_44 : decode cX4_narrow 44 = .ok (.iload_n 1, 1) := by decide +kernel
theorem dX4_narrow_45 : decode cX4_narrow 45 = .ok (.invokevirtual 54, 3) := by decide +kernel
theorem dX4_narrow_48 : decode cX4_narrow 48 = .ok (.iload_n 3, 1) := by decide +kernel
theorem dX4_narrow_49 : decode cX4_narrow 49 = .ok (.invokestatic 79, 3) := by decide +kernel
theorem dX4_narrow_52 : decode cX4_narrow 52 = .ok (.invokevirtual 58, 3) := by decide +kernel
theorem dX4_narrow_55 : decode cX4_narrow 55 = .ok (.aload_n 0, 1) := by decide +kernel
theorem dX4_narrow_56 : decode cX4_narrow 56 = .ok (.invokevirtual 66, 3) := by decide +kernel
theorem dX4_narrow_59 : decode cX4_narrow 59 = .ok (.iload 4, 2) := by decide +kernel
theorem dX4_narrow_61 : decode cX4_narrow 61 = .ok (.ireturn, 1) := by decide +kernel
theorem dX4_tryNarrow_0 : decode cX4_tryNarrow 0 = .ok (.aload_n 0, 1) := by decide +kernel
theorem dX4_tryNarrow_1 : decode cX4_tryNarrow 1 = .ok (.getfield 14, 3) := by decide +kernel
theorem dX4_tryNarrow_4 : decode cX4_tryNarrow 4 = .ok (.iload_n 1, 1) := by decide +kernel
theorem dX4_tryNarrow_5 : decode cX4_tryNarrow 5 = .ok (.invokevirtual 54, 3) := by decide +kernel
theorem dX4_tryNarrow_8 : decode cX4_tryNarrow 8 = .ok (.istore 4, 2) := by decide +kernel
theorem dX4_tryNarrow_10 : decode cX4_tryNarrow 10 = .ok (.aload_n 0, 1) := by decide +kernel
theorem dX4_tryNarrow_11 : decode cX4_tryNarrow 11 = .ok (.getfield 20, 3) := by decide +kernel
theorem dX4_tryNarrow_14 : decode cX4_tryNarrow 14 = .ok (.iload_n 1, 1) := by decide +kernel
theorem dX4_tryNarrow_15 : decode cX4_tryNarrow 15 = .ok (.invokevirtual 54, 3) := by decide +kernel
theorem dX4_tryNarrow_18 : decode cX4_tryNarrow 18 = .ok (.istore 5, 2) := by decide +kernel
theorem dX4_tryNarrow_20 : decode cX4_tryNarrow 20 = .ok (.aload_n 0, 1) := by decide +kernel
theorem dX4_tryNarrow_21 : decode cX4_tryNarrow 21 = .ok (.getfield 14, 3) := by decide +kernel
theorem dX4_tryNarrow_24 : decode cX4_tryNarrow 24 = .ok (.iload_n 1, 1) := by decide +kernel
theorem dX4_tryNarrow_25 : decode cX4_tryNarrow 25 = .ok (.iload 4, 2) := by decide +kernel
theorem dX4_tryNarrow_27 : decode cX4_tryNarrow 27 = .ok (.iload_n 2, 1) := by decide +kernel
theorem dX4_tryNarrow_28 : decode cX4_tryNarrow 28 = .ok (.invokestatic 73, 3) := by decide +kernel
theorem dX4_tryNarrow_31 : decode cX4_tryNarrow 31 = .ok (.invokevirtual 58, 3) := by decide +kernel
theorem dX4_tryNarrow_34 : decode cX4_tryNarrow 34 = .ok (.aload_n 0, 1) := by decide +kernel
theorem dX4_tryNarrow_35 : decode cX4_tryNarrow 35 = .ok (.getfield 20, 3) := by decide +kernel
theorem dX4_tryNarrow_38 : decode cX4_tryNarrow 38 = .ok (.iload_n 1, 1) := by decide +kernel
theorem dX4_tryNarrow_39 : decode cX4_tryNarrow 39 = .ok (.iload 5, 2) := by decide +kernel
theorem dX4_tryNarrow_41 : decode cX4_tryNarrow 41 = .ok (.iload_n 3, 1) := by decide +kernel
theorem dX4_tryNarrow_42 : decode cX4_tryNarrow 42 = .ok (.invokestatic 79, 3) := by decide +kernel
theorem dX4_tryNarrow_45 : decode cX4_tryNarrow 45 = .ok (.invokevirtual 58, 3) := by decide +kernel
theorem dX4_tryNarrow_48 : decode cX4_tryNarrow 48 = .ok (.aload_n 0, 1) := by decide +kernel
theorem dX4_tryNarrow_49 : decode cX4_tryNarrow 49 = .ok (.invokevirtual 62, 3) := by decide +kernel
theorem dX4_tryNarrow_52 : decode cX4_tryNarrow 52 = .ok (.istore 6, 2) := by decide +kernel
theorem dX4_tryNarrow_54 : decode cX4_tryNarrow 54 = .ok (.aload_n 0, 1) := by decide +kernel
theorem dX4_tryNarrow_55 : decode cX4_tryNarrow 55 = .ok (.getfield 14, 3) := by decide +kernel
theorem dX4_tryNarrow_58 : decode cX4_tryNarrow 58 = .ok (.iload_n 1, 1) := by decide +kernel
theorem dX4_tryNarrow_59 : decode cX4_tryNarrow 59 = .ok (.iload 4, 2) := by decide +kernel
theorem dX4_tryNarrow_61 : decode cX4_tryNarrow 61 = .ok (.invokevirtual 58, 3) := by decide +kernel
theorem dX4_tryNarrow_64 : decode cX4_tryNarrow 64 = .ok (.aload_n 0, 1) := by decide +kernel
theorem dX4_tryNarrow_65 : decode cX4_tryNarrow 65 = .ok (.getfield 20, 3) := by decide +kernel
theorem dX4_tryNarrow_68 : decode cX4_tryNarrow 68 = .ok (.iload_n 1, 1) := by decide +kernel
theorem dX4_tryNarrow_69 : decode cX4_tryNarrow 69 = .ok (.iload 5, 2) := by decide +kernel
theorem dX4_tryNarrow_71 : decode cX4_tryNarrow 71 = .ok (.invokevirtual 58, 3) := by decide +kernel
theorem dX4_tryNarrow_74 : decode cX4_tryNarrow 74 = .ok (.iload 6, 2) := by decide +kernel
theorem dX4_tryNarrow_76 : decode cX4_tryNarrow 76 = .ok (.ireturn, 1) := by decide +kernel
theorem dX4_tryDating_0 : decode cX4_tryDating 0 = .ok (.aload_n 0, 1) := by decide +kernel
theorem dX4_tryDating_1 : decode cX4_tryDating 1 = .ok (.getfield 38, 3) := by decide +kernel
theorem dX4_tryDating_4 : decode cX4_tryDating 4 = .ok (.aload_n 0, 1) := by decide +kernel
theorem dX4_tryDating_5 : decode cX4_tryDating 5 = .ok (.getfield 14, 3) := by decide +kernel
theorem dX4_tryDating_8 : decode cX4_tryDating 8 = .ok (.invokevirtual 82, 3) := by decide +kernel
theorem dX4_tryDating_11 : decode cX4_tryDating 11 = .ok (.aload_n 0, 1) := by decide +kernel
theorem dX4_tryDating_12 : decode cX4_tryDating 12 = .ok (.getfield 41, 3) := by decide +kernel
theorem dX4_tryDating_15 : decode cX4_tryDating 15 = .ok (.aload_n 0, 1) := by decide +kernel
theorem dX4_tryDating_16 : decode cX4_tryDating 16 = .ok (.getfield 20, 3) := by decide +kernel
theorem dX4_tryDating_19 : decode cX4_tryDating 19 = .ok (.invokevirtual 82, 3) := by decide +kernel
theorem dX4_tryDating_22 : decode cX4_tryDating 22 = .ok (.aload_n 0, 1) := by decide +kernel
theorem dX4_tryDating_23 : decode cX4_tryDating 23 = .ok (.invokevirtual 86, 3) := by decide +kernel
theorem dX4_tryDating_26 : decode cX4_tryDating 26 = .ok (.ifCond .eq 17, 3) := by decide +kernel
theorem dX4_tryDating_29 : decode cX4_tryDating 29 = .ok (.aload_n 0, 1) := by decide +kernel
theorem dX4_tryDating_30 : decode cX4_tryDating 30 = .ok (.invokevirtual 90, 3) := by decide +kernel
theorem dX4_tryDating_33 : decode cX4_tryDating 33 = .ok (.ifCond .eq 10, 3) := by decide +kernel
theorem dX4_tryDating_36 : decode cX4_tryDating 36 = .ok (.aload_n 0, 1) := by decide +kernel
theorem dX4_tryDating_37 : decode cX4_tryDating 37 = .ok (.invokevirtual 93, 3) := by decide +kernel
theorem dX4_tryDating_40 : decode cX4_tryDating 40 = .ok (.goto 4, 3) := by decide +kernel
theorem dX4_tryDating_43 : decode cX4_tryDating 43 = .ok (.iconst (-1), 1) := by decide +kernel
theorem dX4_tryDating_44 : decode cX4_tryDating 44 = .ok (.ireturn, 1) := by decide +kernel
theorem dX4_keepTried_0 : decode cX4_keepTried 0 = .ok (.aload_n 0, 1) := by decide +kernel
theorem dX4_keepTried_1 : decode cX4_keepTried 1 = .ok (.getfield 32, 3) := by decide +kernel
theorem dX4_keepTried_4 : decode cX4_keepTried 4 = .ok (.aload_n 0, 1) := by decide +kernel
theorem dX4_keepTried_5 : decode cX4_keepTried 5 = .ok (.getfield 38, 3) := by decide +kernel
theorem dX4_keepTried_8 : decode cX4_keepTried 8 = .ok (.invokevirtual 82, 3) := by decide +kernel
theorem dX4_keepTried_11 : decode cX4_keepTried 11 = .ok (.aload_n 0, 1) := by decide +kernel
theorem dX4_keepTried_12 : decode cX4_keepTried 12 = .ok (.getfield 35, 3) := by decide +kernel
theorem dX4_keepTried_15 : decode cX4_keepTried 15 = .ok (.aload_n 0, 1) := by decide +kernel
theorem dX4_keepTried_16 : decode cX4_keepTried 16 = .ok (.getfield 41, 3) := by decide +kernel
theorem dX4_keepTried_19 : decode cX4_keepTried 19 = .ok (.invokevirtual 82, 3) := by decide +kernel
theorem dX4_keepTried_22 : decode cX4_keepTried 22 = .ok (.return_, 1) := by decide +kernel
theorem dX4_comesToRest_0 : decode cX4_comesToRest 0 = .ok (.iconst 0, 1) := by decide +kernel
theorem dX4_comesToRest_1 : decode cX4_comesToRest 1 = .ok (.istore_n 1, 1) := by decide +kernel
theorem dX4_comesToRest_2 : decode cX4_comesToRest 2 = .ok (.iload_n 1, 1) := by decide +kernel
theorem dX4_comesToRest_3 : decode cX4_comesToRest 3 = .ok (.bipush 16, 2) := by decide +kernel
theorem dX4_comesToRest_5 : decode cX4_comesToRest 5 = .ok (.if_icmp .ge 18, 3) := by decide +kernel
theorem dX4_comesToRest_8 : decode cX4_comesToRest 8 = .ok (.aload_n 0, 1) := by decide +kernel
theorem dX4_comesToRest_9 : decode cX4_comesToRest 9 = .ok (.invokevirtual 96, 3) := by decide +kernel
theorem dX4_comesToRest_12 : decode cX4_comesToRest 12 = .ok (.ifCond .ne 5, 3) := by decide +kernel
theorem dX4_comesToRest_15 : decode cX4_comesToRest 15 = .ok (.iconst 1, 1) := by decide +kernel
theorem dX4_comesToRest_16 : decode cX4_comesToRest 16 = .ok (.ireturn, 1) := by decide +kernel
theorem dX4_comesToRest_17 : decode cX4_comesToRest 17 = .ok (.iinc 1 1, 3) := by decide +kernel
theorem dX4_comesToRest_20 : decode cX4_comesToRest 20 = .ok (.goto (-18), 3) := by decide +kernel
theorem dX4_comesToRest_23 : decode cX4_comesToRest 23 = .ok (.iconst 0, 1) := by decide +kernel
theorem dX4_comesToRest_24 : decode cX4_comesToRest 24 = .ok (.ireturn, 1) := by decide +kernel
theorem dX4_pushAll_0 : decode cX4_pushAll 0 = .ok (.iconst 0, 1) := by decide +kernel
theorem dX4_pushAll_1 : decode cX4_pushAll 1 = .ok (.istore_n 1, 1) := by decide +kernel
theorem dX4_pushAll_2 : decode cX4_pushAll 2 = .ok (.iconst 0, 1) := by decide +kernel
theorem dX4_pushAll_3 : decode cX4_pushAll 3 = .ok (.istore_n 2, 1) := by decide +kernel
theorem dX4_pushAll_4 : decode cX4_pushAll 4 = .ok (.iload_n 2, 1) := by decide +kernel
theorem dX4_pushAll_5 : decode cX4_pushAll 5 = .ok (.aload_n 0, 1) := by decide +kernel
theorem dX4_pushAll_6 : decode cX4_pushAll 6 = .ok (.getfield 50, 3) := by decide +kernel
theorem dX4_pushAll_9 : decode cX4_pushAll 9 = .ok (.if_icmp .ge 119, 3) := by decide +kernel
theorem dX4_pushAll_12 : decode cX4_pushAll 12 = .ok (.aload_n 0, 1) := by decide +kernel
theorem dX4_pushAll_13 : decode cX4_pushAll 13 = .ok (.getfield 23, 3) := by decide +kernel
theorem dX4_pushAll_16 : decode cX4_pushAll 16 = .ok (.iload_n 2, 1) := by decide +kernel
theorem dX4_pushAll_17 : decode cX4_pushAll 17 = .ok (.invokevirtual 54, 3) := by decide +kernel
theorem dX4_pushAll_20 : decode cX4_pushAll 20 = .ok (.istore_n 3, 1) := by decide +kernel
theorem dX4_pushAll_21 : decode cX4_pushAll 21 = .ok (.aload_n 0, 1) := by decide +kernel
theorem dX4_pushAll_22 : decode cX4_pushAll 22 = .ok (.getfield 26, 3) := by decide +kernel
theorem dX4_pushAll_25 : decode cX4_pushAll 25 = .ok (.iload_n 2, 1) := by decide +kernel
theorem dX4_pushAll_26 : decode cX4_pushAll 26 = .ok (.invokevirtual 54, 3) := by decide +kernel
theorem dX4_pushAll_29 : decode cX4_pushAll 29 = .ok (.istore 4, 2) := by decide +kernel
theorem dX4_pushAll_31 : decode cX4_pushAll 31 = .ok (.aload_n 0, 1) := by decide +kernel
theorem dX4_pushAll_32 : decode cX4_pushAll 32 = .ok (.getfield 38, 3) := by decide +kernel
theorem dX4_pushAll_35 : decode cX4_pushAll 35 = .ok (.iload_n 3, 1) := by decide +kernel
theorem dX4_pushAll_36 : decode cX4_pushAll 36 = .ok (.invokevirtual 54, 3) := by decide +kernel
theorem dX4_pushAll_39 : decode cX4_pushAll 39 = .ok (.aload_n 0, 1) := by decide +kernel
theorem dX4_pushAll_40 : decode cX4_pushAll 40 = .ok (.getfield 29, 3) := by decide +kernel
theorem dX4_pushAll_43 : decode cX4_pushAll 43 = .ok (.iload_n 2, 1) := by decide +kernel
theorem dX4_pushAll_44 : decode cX4_pushAll 44 = .ok (.invokevirtual 54, 3) := by decide +kernel
theorem dX4_pushAll_47 : decode cX4_pushAll 47 = .ok (.iadd, 1) := by decide +kernel
theorem dX4_pushAll_48 : decode cX4_pushAll 48 = .ok (.istore 5, 2) := by decide +kernel
theorem dX4_pushAll_50 : decode cX4_pushAll 50 = .ok (.aload_n 0, 1) := by decide +kernel
theorem dX4_pushAll_51 : decode cX4_pushAll 51 = .ok (.getfield 41, 3) := by decide +kernel
theorem dX4_pushAll_54 : decode cX4_pushAll 54 = .ok (.iload 4, 2) := by decide +kernel
theorem dX4_pushAll_56 : decode cX4_pushAll 56 = .ok (.invokevirtual 54, 3) := by decide +kernel
theorem dX4_pushAll_59 : decode cX4_pushAll 59 = .ok (.aload_n 0, 1) := by decide +kernel
theorem dX4_pushAll_60 : decode cX4_pushAll 60 = .ok (.getfield 29, 3) := by decide +kernel
theorem dX4_pushAll_63 : decode cX4_pushAll 63 = .ok (.iload_n 2, 1) := by decide +kernel
theorem dX4_pushAll_64 : decode cX4_pushAll 64 = .ok (.invokevirtual 54, 3) := by decide +kernel
theorem dX4_pushAll_67 : decode cX4_pushAll 67 = .ok (.isub, 1) := by decide +kernel
theorem dX4_pushAll_68 : decode cX4_pushAll 68 = .ok (.istore 6, 2) := by decide +kernel
theorem dX4_pushAll_70 : decode cX4_pushAll 70 = .ok (.iload 5, 2) := by decide +kernel
theorem dX4_pushAll_72 : decode cX4_pushAll 72 = .ok (.aload_n 0, 1) := by decide +kernel
theorem dX4_pushAll_73 : decode cX4_pushAll 73 = .ok (.getfield 38, 3) := by decide +kernel
theorem dX4_pushAll_76 : decode cX4_pushAll 76 = .ok (.iload 4, 2) := by decide +kernel
theorem dX4_pushAll_78 : decode cX4_pushAll 78 = .ok (.invokevirtual 54, 3) := by decide +kernel
theorem dX4_pushAll_81 : decode cX4_pushAll 81 = .ok (.if_icmp .le 16, 3) := by decide +kernel
theorem dX4_pushAll_84 : decode cX4_pushAll 84 = .ok (.aload_n 0, 1) := by decide +kernel
theorem dX4_pushAll_85 : decode cX4_pushAll 85 = .ok (.getfield 38, 3) := by decide +kernel
theorem dX4_pushAll_88 : decode cX4_pushAll 88 = .ok (.iload 4, 2) := by decide +kernel
theorem dX4_pushAll_90 : decode cX4_pushAll 90 = .ok (.iload 5, 2) := by decide +kernel
theorem dX4_pushAll_92 : decode cX4_pushAll 92 = .ok (.invokevirtual 58, 3) := by decide +kernel
theorem dX4_pushAll_95 : decode cX4_pushAll 95 = .ok (.iconst 1, 1) := by decide +kernel
theorem dX4_pushAll_96 : decode cX4_pushAll 96 = .ok (.istore_n 1, 1) := by decide +kernel
theorem dX4_pushAll_97 : decode cX4_pushAll 97 = .ok (.iload 6, 2) := by decide +kernel
theorem dX4_pushAll_99 : decode cX4_pushAll 99 = .ok (.aload_n 0, 1) := by decide +kernel
theorem dX4_pushAll_100 : decode cX4_pushAll 100 = .ok (.getfield 41, 3) := by decide +kernel
theorem dX4_pushAll_103 : decode cX4_pushAll 103 = .ok (.iload_n 3, 1) := by decide +kernel
theorem dX4_pushAll_104 : decode cX4_pushAll 104 = .ok (.invokevirtual 54, 3) := by decide +kernel
theorem dX4_pushAll_107 : decode cX4_pushAll 107 = .ok (.if_icmp .ge 15, 3) := by decide +kernel
theorem dX4_pushAll_110 : decode cX4_pushAll 110 = .ok (.aload_n 0, 1) := by decide +kernel
theorem dX4_pushAll_111 : decode cX4_pushAll 111 = .ok (.getfield 41, 3) := by decide +kernel
theorem dX4_pushAll_114 : decode cX4_pushAll 114 = .ok (.iload_n 3, 1) := by decide +kernel
theorem dX4_pushAll_115 : decode cX4_pushAll 115 = .ok (.iload 6, 2) := by decide +kernel
theorem dX4_pushAll_117 : decode cX4_pushAll 117 = .ok (.invokevirtual 58, 3) := by decide +kernel
theorem dX4_pushAll_120 : decode cX4_pushAll 120 = .ok (.iconst 1, 1) := by decide +kernel
theorem dX4_pushAll_121 : decode cX4_pushAll 121 = .ok (.istore_n 1, 1) := by decide +kernel
theorem dX4_pushAll_122 : decode cX4_pushAll 122 = .ok (.iinc 2 1, 3) := by decide +kernel
theorem dX4_pushAll_125 : decode cX4_pushAll 125 = .ok (.goto (-121), 3) := by decide +kernel
theorem dX4_pushAll_128 : decode cX4_pushAll 128 = .ok (.iload_n 1, 1) := by decide +kernel
theorem dX4_pushAll_129 : decode cX4_pushAll 129 = .ok (.ireturn, 1) := by decide +kernel
theorem dX4_leavesYears_0 : decode cX4_leavesYears 0 = .ok (.iconst 0, 1) := by decide +kernel
theorem dX4_leavesYears_1 : decode cX4_leavesYears 1 = .ok (.istore_n 1, 1) := by decide +kernel
theorem dX4_leavesYears_2 : decode cX4_leavesYears 2 = .ok (.iload_n 1, 1) := by decide +kernel
theorem dX4_leavesYears_3 : decode cX4_leavesYears 3 = .ok (.bipush 16, 2) := by decide +kernel
theorem dX4_leavesYears_5 : decode cX4_leavesYears 5 = .ok (.if_icmp .ge 30, 3) := by decide +kernel
theorem dX4_leavesYears_8 : decode cX4_leavesYears 8 = .ok (.aload_n 0, 1) := by decide +kernel
theorem dX4_leavesYears_9 : decode cX4_leavesYears 9 = .ok (.getfield 38, 3) := by decide +kernel
theorem dX4_leavesYears_12 : decode cX4_leavesYears 12 = .ok (.iload_n 1, 1) := by decide +kernel
theorem dX4_leavesYears_13 : decode cX4_leavesYears 13 = .ok (.invokevirtual 54, 3) := by decide +kernel
theorem dX4_leavesYears_16 : decode cX4_leavesYears 16 = .ok (.aload_n 0, 1) := by decide +kernel
theorem dX4_leavesYears_17 : decode cX4_leavesYears 17 = .ok (.getfield 41, 3) := by decide +kernel
theorem dX4_leavesYears_20 : decode cX4_leavesYears 20 = .ok (.iload_n 1, 1) := by decide +kernel
theorem dX4_leavesYears_21 : decode cX4_leavesYears 21 = .ok (.invokevirtual 54, 3) := by decide +kernel
theorem dX4_leavesYears_24 : decode cX4_leavesYears 24 = .ok (.if_icmp .le 5, 3) := by decide +kernel
theorem dX4_leavesYears_27 : decode cX4_leavesYears 27 = .ok (.iconst 0, 1) := by decide +kernel
theorem dX4_leavesYears_28 : decode cX4_leavesYears 28 = .ok (.ireturn, 1) := by decide +kernel
theorem dX4_leavesYears_29 : decode cX4_leavesYears 29 = .ok (.iinc 1 1, 3) := by decide +kernel
theorem dX4_leavesYears_32 : decode cX4_leavesYears 32 = .ok (.goto (-30), 3) := by decide +kernel
theorem dX4_leavesYears_35 : decode cX4_leavesYears 35 = .ok (.iconst 1, 1) := by decide +kernel
theorem dX4_leavesYears_36 : decode cX4_leavesYears 36 = .ok (.ireturn, 1) := by decide +kernel
theorem dX4_countMoved_0 : decode cX4_countMoved 0 = .ok (.iconst 0, 1) := by decide +kernel
theorem dX4_countMoved_1 : decode cX4_countMoved 1 = .ok (.istore_n 1, 1) := by decide +kernel
theorem dX4_countMoved_2 : decode cX4_countMoved 2 = .ok (.iconst 0, 1) := by decide +kernel
theorem dX4_countMoved_3 : decode cX4_countMoved 3 = .ok (.istore_n 2, 1) := by decide +kernel
theorem dX4_countMoved_4 : decode cX4_countMoved 4 = .ok (.iload_n 2, 1) := by decide +kernel
theorem dX4_countMoved_5 : decode cX4_countMoved 5 = .ok (.bipush 16, 2) := by decide +kernel
theorem dX4_countMoved_7 : decode cX4_countMoved 7 = .ok (.if_icmp .ge 50, 3) := by decide +kernel
theorem dX4_countMoved_10 : decode cX4_countMoved 10 = .ok (.aload_n 0, 1) := by decide +kernel
theorem dX4_countMoved_11 : decode cX4_countMoved 11 = .ok (.getfield 38, 3) := by decide +kernel
theorem dX4_countMoved_14 : decode cX4_countMoved 14 = .ok (.iload_n 2, 1) := by decide +kernel
theorem dX4_countMoved_15 : decode cX4_countMoved 15 = .ok (.invokevirtual 54, 3) := by decide +kernel
theorem dX4_countMoved_18 : decode cX4_countMoved 18 = .ok (.aload_n 0, 1) := by decide +kernel
theorem dX4_countMoved_19 : decode cX4_countMoved 19 = .ok (.getfield 32, 3) := by decide +kernel
theorem dX4_countMoved_22 : decode cX4_countMoved 22 = .ok (.iload_n 2, 1) := by decide +kernel
theorem dX4_countMoved_23 : decode cX4_countMoved 23 = .ok (.invokevirtual 54, 3) := by decide +kernel
theorem dX4_countMoved_26 : decode cX4_countMoved 26 = .ok (.if_icmp .ne 22, 3) := by decide +kernel
theorem dX4_countMoved_29 : decode cX4_countMoved 29 = .ok (.aload_n 0, 1) := by decide +kernel
theorem dX4_countMoved_30 : decode cX4_countMoved 30 = .ok (.getfield 41, 3) := by decide +kernel
theorem dX4_countMoved_33 : decode cX4_countMoved 33 = .ok (.iload_n 2, 1) := by decide +kernel
theorem dX4_countMoved_34 : decode cX4_countMoved 34 = .ok (.invokevirtual 54, 3) := by decide +kernel
theorem dX4_countMoved_37 : decode cX4_countMoved 37 = .ok (.aload_n 0, 1) := by decide +kernel
theorem dX4_countMoved_38 : decode cX4_countMoved 38 = .ok (.getfield 35, 3) := by decide +kernel
theorem dX4_countMoved_41 : decode cX4_countMoved 41 = .ok (.iload_n 2, 1) := by decide +kernel
theorem dX4_countMoved_42 : decode cX4_countMoved 42 = .ok (.invokevirtual 54, 3) := by decide +kernel
theorem dX4_countMoved_45 : decode cX4_countMoved 45 = .ok (.if_icmp .eq 6, 3) := by decide +kernel
theorem dX4_countMoved_48 : decode cX4_countMoved 48 = .ok (.iinc 1 1, 3) := by decide +kernel
theorem dX4_countMoved_51 : decode cX4_countMoved 51 = .ok (.iinc 2 1, 3) := by decide +kernel
theorem dX4_countMoved_54 : decode cX4_countMoved 54 = .ok (.goto (-50), 3) := by decide +kernel
theorem dX4_countMoved_57 : decode cX4_countMoved 57 = .ok (.iload_n 1, 1) := by decide +kernel
theorem dX4_countMoved_58 : decode cX4_countMoved 58 = .ok (.ireturn, 1) := by decide +kernel
theorem dX4_firstByWays_0 : decode cX4_firstByWays 0 = .ok (.aload_n 0, 1) := by decide +kernel
theorem dX4_firstByWays_1 : decode cX4_firstByWays 1 = .ok (.invokevirtual 99, 3) := by decide +kernel
theorem dX4_firstByWays_4 : decode cX4_firstByWays 4 = .ok (.aload_n 0, 1) := by decide +kernel
theorem dX4_firstByWays_5 : decode cX4_firstByWays 5 = .ok (.getfield 14, 3) := by decide +kernel
theorem dX4_firstByWays_8 : decode cX4_firstByWays 8 = .ok (.iload_n 1, 1) := by decide +kernel
theorem dX4_firstByWays_9 : decode cX4_firstByWays 9 = .ok (.invokevirtual 54, 3) := by decide +kernel
theorem dX4_firstByWays_12 : decode cX4_firstByWays 12 = .ok (.istore_n 2, 1) := by decide +kernel
theorem dX4_firstByWays_13 : decode cX4_firstByWays 13 = .ok (.iconst 0, 1) := by decide +kernel
theorem dX4_firstByWays_14 : decode cX4_firstByWays 14 = .ok (.istore_n 3, 1) := by decide +kernel
theorem dX4_firstByWays_15 : decode cX4_firstByWays 15 = .ok (.iload_n 3, 1) := by decide +kernel
theorem dX4_firstByWays_16 : decode cX4_firstByWays 16 = .ok (.bipush 16, 2) := by decide +kernel
theorem dX4_firstByWays_18 : decode cX4_firstByWays 18 = .ok (.if_icmp .ge 40, 3) := by decide +kernel
theorem dX4_firstByWays_21 : decode cX4_firstByWays 21 = .ok (.aload_n 0, 1) := by decide +kernel
theorem dX4_firstByWays_22 : decode cX4_firstByWays 22 = .ok (.iload_n 3, 1) := by decide +kernel
theorem dX4_firstByWays_23 : decode cX4_firstByWays 23 = .ok (.iload_n 1, 1) := by decide +kernel
theorem dX4_firstByWays_24 : decode cX4_firstByWays 24 = .ok (.invokevirtual 102, 3) := by decide +kernel
theorem dX4_firstByWays_27 : decode cX4_firstByWays 27 = .ok (.istore 4, 2) := by decide +kernel
theorem dX4_firstByWays_29 : decode cX4_firstByWays 29 = .ok (.iload 4, 2) := by decide +kernel
theorem dX4_firstByWays_31 : decode cX4_firstByWays 31 = .ok (.ldc 105, 2) := by decide +kernel
theorem dX4_firstByWays_33 : decode cX4_firstByWays 33 = .ok (.if_icmp .eq 19, 3) := by decide +kernel
theorem dX4_firstByWays_36 : decode cX4_firstByWays 36 = .ok (.iload_n 2, 1) := by decide +kernel
theorem dX4_firstByWays_37 : decode cX4_firstByWays 37 = .ok (.aload_n 0, 1) := by decide +kernel
theorem dX4_firstByWays_38 : decode cX4_firstByWays 38 = .ok (.getfield 14, 3) := by decide +kernel
theorem dX4_firstByWays_41 : decode cX4_firstByWays 41 = .ok (.iload_n 3, 1) := by decide +kernel
theorem dX4_firstByWays_42 : decode cX4_firstByWays 42 = .ok (.invokevirtual 54, 3) := by decide +kernel
theorem dX4_firstByWays_45 : decode cX4_firstByWays 45 = .ok (.iload 4, 2) := by decide +kernel
theorem dX4_firstByWays_47 : decode cX4_firstByWays 47 = .ok (.iadd, 1) := by decide +kernel
theorem dX4_firstByWays_48 : decode cX4_firstByWays 48 = .ok (.invokestatic 73, 3) := by decide +kernel
theorem dX4_firstByWays_51 : decode cX4_firstByWays 51 = .ok (.istore_n 2, 1) := by decide +kernel
theorem dX4_firstByWays_52 : decode cX4_firstByWays 52 = .ok (.iinc 3 1, 3) := by decide +kernel
theorem dX4_firstByWays_55 : decode cX4_firstByWays 55 = .ok (.goto (-40), 3) := by decide +kernel
theorem dX4_firstByWays_58 : decode cX4_firstByWays 58 = .ok (.iload_n 2, 1) := by decide +kernel
theorem dX4_firstByWays_59 : decode cX4_firstByWays 59 = .ok (.ireturn, 1) := by decide +kernel
theorem dX4_lastByWays_0 : decode cX4_lastByWays 0 = .ok (.aload_n 0, 1) := by decide +kernel
theorem dX4_lastByWays_1 : decode cX4_lastByWays 1 = .ok (.invokevirtual 99, 3) := by decide +kernel
theorem dX4_lastByWays_4 : decode cX4_lastByWays 4 = .ok (.aload_n 0, 1) := by decide +kernel
theorem dX4_lastByWays_5 : decode cX4_lastByWays 5 = .ok (.getfield 20, 3) := by decide +kernel
theorem dX4_lastByWays_8 : decode cX4_lastByWays 8 = .ok (.iload_n 1, 1) := by decide +kernel
theorem dX4_lastByWays_9 : decode cX4_lastByWays 9 = .ok (.invokevirtual 54, 3) := by decide +kernel
theorem dX4_lastByWays_12 : decode cX4_lastByWays 12 = .ok (.istore_n 2, 1) := by decide +kernel
theorem dX4_lastByWays_13 : decode cX4_lastByWays 13 = .ok (.iconst 0, 1) := by decide +kernel
theorem dX4_lastByWays_14 : decode cX4_lastByWays 14 = .ok (.istore_n 3, 1) := by decide +kernel
theorem dX4_lastByWays_15 : decode cX4_lastByWays 15 = .ok (.iload_n 3, 1) := by decide +kernel
theorem dX4_lastByWays_16 : decode cX4_lastByWays 16 = .ok (.bipush 16, 2) := by decide +kernel
theorem dX4_lastByWays_18 : decode cX4_lastByWays 18 = .ok (.if_icmp .ge 40, 3) := by decide +kernel
theorem dX4_lastByWays_21 : decode cX4_lastByWays 21 = .ok (.aload_n 0, 1) := by decide +kernel
theorem dX4_lastByWays_22 : decode cX4_lastByWays 22 = .ok (.iload_n 1, 1) := by decide +kernel
theorem dX4_lastByWays_23 : decode cX4_lastByWays 23 = .ok (.iload_n 3, 1) := by decide +kernel
theorem dX4_lastByWays_24 : decode cX4_lastByWays 24 = .ok (.invokevirtual 102, 3) := by decide +kernel
theorem dX4_lastByWays_27 : decode cX4_lastByWays 27 = .ok (.istore 4, 2) := by decide +kernel
theorem dX4_lastByWays_29 : decode cX4_lastByWays 29 = .ok (.iload 4, 2) := by decide +kernel
theorem dX4_lastByWays_31 : decode cX4_lastByWays 31 = .ok (.ldc 105, 2) := by decide +kernel
theorem dX4_lastByWays_33 : decode cX4_lastByWays 33 = .ok (.if_icmp .eq 19, 3) := by decide +kernel
theorem dX4_lastByWays_36 : decode cX4_lastByWays 36 = .ok (.iload_n 2, 1) := by decide +kernel
theorem dX4_lastByWays_37 : decode cX4_lastByWays 37 = .ok (.aload_n 0, 1) := by decide +kernel
theorem dX4_lastByWays_38 : decode cX4_lastByWays 38 = .ok (.getfield 20, 3) := by decide +kernel
theorem dX4_lastByWays_41 : decode cX4_lastByWays 41 = .ok (.iload_n 3, 1) := by decide +kernel
theorem dX4_lastByWays_42 : decode cX4_lastByWays 42 = .ok (.invokevirtual 54, 3) := by decide +kernel
theorem dX4_lastByWays_45 : decode cX4_lastByWays 45 = .ok (.iload 4, 2) := by decide +kernel
theorem dX4_lastByWays_47 : decode cX4_lastByWays 47 = .ok (.isub, 1) := by decide +kernel
theorem dX4_lastByWays_48 : decode cX4_lastByWays 48 = .ok (.invokestatic 79, 3) := by decide +kernel
theorem dX4_lastByWays_51 : decode cX4_lastByWays 51 = .ok (.istore_n 2, 1) := by decide +kernel
theorem dX4_lastByWays_52 : decode cX4_lastByWays 52 = .ok (.iinc 3 1, 3) := by decide +kernel
theorem dX4_lastByWays_55 : decode cX4_lastByWays 55 = .ok (.goto (-40), 3) := by decide +kernel
theorem dX4_lastByWays_58 : decode cX4_lastByWays 58 = .ok (.iload_n 2, 1) := by decide +kernel
theorem dX4_lastByWays_59 : decode cX4_lastByWays 59 = .ok (.ireturn, 1) := by decide +kernel
theorem dX4_measureWays_0 : decode cX4_measureWays 0 = .ok (.aload_n 0, 1) := by decide +kernel
theorem dX4_measureWays_1 : decode cX4_measureWays 1 = .ok (.getfield 44, 3) := by decide +kernel
theorem dX4_measureWays_4 : decode cX4_measureWays 4 = .ok (.ldc 105, 2) := by decide +kernel
theorem dX4_measureWays_6 : decode cX4_measureWays 6 = .ok (.invokevirtual 47, 3) := by decide +kernel
theorem dX4_measureWays_9 : decode cX4_measureWays 9 = .ok (.iconst 0, 1) := by decide +kernel
theorem dX4_measureWays_10 : decode cX4_measureWays 10 = .ok (.istore_n 1, 1) := by decide +kernel
theorem dX4_measureWays_11 : decode cX4_measureWays 11 = .ok (.iload_n 1, 1) := by decide +kernel
theorem dX4_measureWays_12 : decode cX4_measureWays 12 = .ok (.aload_n 0, 1) := by decide +kernel
theorem dX4_measureWays_13 : decode cX4_measureWays 13 = .ok (.getfield 50, 3) := by decide +kernel
theorem dX4_measureWays_16 : decode cX4_measureWays 16 = .ok (.if_icmp .ge 37, 3) := by decide +kernel
theorem dX4_measureWays_19 : decode cX4_measureWays 19 = .ok (.aload_n 0, 1) := by decide +kernel
theorem dX4_measureWays_20 : decode cX4_measureWays 20 = .ok (.aload_n 0, 1) := by decide +kernel
theorem dX4_measureWays_21 : decode cX4_measureWays 21 = .ok (.getfield 23, 3) := by decide +kernel
theorem dX4_measureWays_24 : decode cX4_measureWays 24 = .ok (.iload_n 1, 1) := by decide +kernel
theorem dX4_measureWays_25 : decode cX4_measureWays 25 = .ok (.invokevirtual 54, 3) := by decide +kernel
theorem dX4_measureWays_28 : decode cX4_measureWays 28 = .ok (.aload_n 0, 1) := by decide +kernel
theorem dX4_measureWays_29 : decode cX4_measureWays 29 = .ok (.getfield 26, 3) := by decide +kernel
theorem dX4_measureWays_32 : decode cX4_measureWays 32 = .ok (.iload_n 1, 1) := by decide +kernel
theorem dX4_measureWays_33 : decode cX4_measureWays 33 = .ok (.invokevirtual 54, 3) := by decide +kernel
theorem dX4_measureWays_36 : decode cX4_measureWays 36 = .ok (.aload_n 0, 1) := by decide +kernel
theorem dX4_measureWays_37 : decode cX4_measureWays 37 = .ok (.getfield 29, 3) := by decide +kernel
theorem dX4_measureWays_40 : decode cX4_measureWays 40 = .ok (.iload_n 1, 1) := by decide +kernel
theorem dX4_measureWays_41 : decode cX4_measureWays 41 = .ok (.invokevirtual 54, 3) := by decide +kernel
theorem dX4_measureWays_44 : decode cX4_measureWays 44 = .ok (.invokevirtual 106, 3) := by decide +kernel
theorem dX4_measureWays_47 : decode cX4_measureWays 47 = .ok (.iinc 1 1, 3) := by decide +kernel
theorem dX4_measureWays_50 : decode cX4_measureWays 50 = .ok (.goto (-39), 3) := by decide +kernel
theorem dX4_measureWays_53 : decode cX4_measureWays 53 = .ok (.iconst 0, 1) := by decide +kernel
theorem dX4_measureWays_54 : decode cX4_measureWays 54 = .ok (.istore_n 1, 1) := by decide +kernel
theorem dX4_measureWays_55 : decode cX4_measureWays 55 = .ok (.iload_n 1, 1) := by decide +kernel
theorem dX4_measureWays_56 : decode cX4_measureWays 56 = .ok (.bipush 16, 2) := by decide +kernel
theorem dX4_measureWays_58 : decode cX4_measureWays 58 = .ok (.if_icmp .ge 29, 3) := by decide +kernel
theorem dX4_measureWays_61 : decode cX4_measureWays 61 = .ok (.iconst 0, 1) := by decide +kernel
theorem dX4_measureWays_62 : decode cX4_measureWays 62 = .ok (.istore_n 2, 1) := by decide +kernel
theorem dX4_measureWays_63 : decode cX4_measureWays 63 = .ok (.iload_n 2, 1) := by decide +kernel
theorem dX4_measureWays_64 : decode cX4_measureWays 64 = .ok (.bipush 16, 2) := by decide +kernel
theorem dX4_measureWays_66 : decode cX4_measureWays 66 = .ok (.if_icmp .ge 15, 3) := by decide +kernel
theorem dX4_measureWays_69 : decode cX4_measureWays 69 = .ok (.aload_n 0, 1) := by decide +kernel
theorem dX4_measureWays_70 : decode cX4_measureWays 70 = .ok (.iload_n 2, 1) := by decide +kernel
theorem dX4_measureWays_71 : decode cX4_measureWays 71 = .ok (.iload_n 1, 1) := by decide +kernel
theorem dX4_measureWays_72 : decode cX4_measureWays 72 = .ok (.invokevirtual 110, 3) := by decide +kernel
theorem dX4_measureWays_75 : decode cX4_measureWays 75 = .ok (.iinc 2 1, 3) := by decide +kernel
theorem dX4_measureWays_78 : decode cX4_measureWays 78 = .ok (.goto (-15), 3) := by decide +kernel
theorem dX4_measureWays_81 : decode cX4_measureWays 81 = .ok (.iinc 1 1, 3) := by decide +kernel
theorem dX4_measureWays_84 : decode cX4_measureWays 84 = .ok (.goto (-29), 3) := by decide +kernel
theorem dX4_measureWays_87 : decode cX4_measureWays 87 = .ok (.return_, 1) := by decide +kernel
theorem dX4_lengthenAllVia_0 : decode cX4_lengthenAllVia 0 = .ok (.aload_n 0, 1) := by decide +kernel
theorem dX4_lengthenAllVia_1 : decode cX4_lengthenAllVia 1 = .ok (.iload_n 1, 1) := by decide +kernel
theorem dX4_lengthenAllVia_2 : decode cX4_lengthenAllVia 2 = .ok (.iload_n 2, 1) := by decide +kernel
theorem dX4_lengthenAllVia_3 : decode cX4_lengthenAllVia 3 = .ok (.invokevirtual 102, 3) := by decide +kernel
theorem dX4_lengthenAllVia_6 : decode cX4_lengthenAllVia 6 = .ok (.istore_n 3, 1) := by decide +kernel
theorem dX4_lengthenAllVia_7 : decode cX4_lengthenAllVia 7 = .ok (.iload_n 3, 1) := by decide +kernel
theorem dX4_lengthenAllVia_8 : decode cX4_lengthenAllVia 8 = .ok (.ldc 105, 2) := by decide +kernel
theorem dX4_lengthenAllVia_10 : decode cX4_lengthenAllVia 10 = .ok (.if_icmp .ne 4, 3) := by decide +kernel
theorem dX4_lengthenAllVia_13 : decode cX4_lengthenAllVia 13 = .ok (.return_, 1) := by decide +kernel
theorem dX4_lengthenAllVia_14 : decode cX4_lengthenAllVia 14 = .ok (.iconst 0, 1) := by decide +kernel
theorem dX4_lengthenAllVia_15 : decode cX4_lengthenAllVia 15 = .ok (.istore 4, 2) := by decide +kernel
theorem dX4_lengthenAllVia_17 : decode cX4_lengthenAllVia 17 = .ok (.iload 4, 2) := by decide +kernel
theorem dX4_lengthenAllVia_19 : decode cX4_lengthenAllVia 19 = .ok (.bipush 16, 2) := by decide +kernel
theorem dX4_lengthenAllVia_21 : decode cX4_lengthenAllVia 21 = .ok (.if_icmp .ge 36, 3) := by decide +kernel
theorem dX4_lengthenAllVia_24 : decode cX4_lengthenAllVia 24 = .ok (.aload_n 0, 1) := by decide +kernel
theorem dX4_lengthenAllVia_25 : decode cX4_lengthenAllVia 25 = .ok (.iload_n 2, 1) := by decide +kernel
theorem dX4_lengthenAllVia_26 : decode cX4_lengthenAllVia 26 = .ok (.iload 4, 2) := by decide +kernel
theorem dX4_lengthenAllVia_28 : decode cX4_lengthenAllVia 28 = .ok (.invokevirtual 102, 3) := by decide +kernel
theorem dX4_lengthenAllVia_31 : decode cX4_lengthenAllVia 31 = .ok (.istore 5, 2) := by decide +kernel
theorem dX4_lengthenAllVia_33 : decode cX4_lengthenAllVia 33 = .ok (.iload 5, 2) := by decide +kernel
theorem dX4_lengthenAllVia_35 : decode cX4_lengthenAllVia 35 = .ok (.ldc 105, 2) := by decide +kernel
theorem dX4_lengthenAllVia_37 : decode cX4_lengthenAllVia 37 = .ok (.if_icmp .eq 14, 3) := by decide +kernel
theorem dX4_lengthenAllVia_40 : decode cX4_lengthenAllVia 40 = .ok (.aload_n 0, 1) := by decide +kernel
theorem dX4_lengthenAllVia_41 : decode cX4_lengthenAllVia 41 = .ok (.iload_n 1, 1) := by decide +kernel
theorem dX4_lengthenAllVia_42 : decode cX4_lengthenAllVia 42 = .ok (.iload 4, 2) := by decide +kernel
theorem dX4_lengthenAllVia_44 : decode cX4_lengthenAllVia 44 = .ok (.iload_n 3, 1) := by decide +kernel
theorem dX4_lengthenAllVia_45 : decode cX4_lengthenAllVia 45 = .ok (.iload 5, 2) := by decide +kernel
theorem dX4_lengthenAllVia_47 : decode cX4_lengthenAllVia 47 = .ok (.iadd, 1) := by decide +kernel
theorem dX4_lengthenAllVia_48 : decode cX4_lengthenAllVia 48 = .ok (.invokevirtual 106, 3) := by decide +kernel
theorem dX4_lengthenAllVia_51 : decode cX4_lengthenAllVia 51 = .ok (.iinc 4 1, 3) := by decide +kernel
theorem dX4_lengthenAllVia_54 : decode cX4_lengthenAllVia 54 = .ok (.goto (-37), 3) := by decide +kernel
theorem dX4_lengthenAllVia_57 : decode cX4_lengthenAllVia 57 = .ok (.return_, 1) := by decide +kernel
theorem dX4_wayBetween_0 : decode cX4_wayBetween 0 = .ok (.aload_n 0, 1) := by decide +kernel
theorem dX4_wayBetween_1 : decode cX4_wayBetween 1 = .ok (.getfield 44, 3) := by decide +kernel
theorem dX4_wayBetween_4 : decode cX4_wayBetween 4 = .ok (.iload_n 1, 1) := by decide +kernel
theorem dX4_wayBetween_5 : decode cX4_wayBetween 5 = .ok (.bipush 16, 2) := by decide +kernel
theorem dX4_wayBetween_7 : decode cX4_wayBetween 7 = .ok (.imul, 1) := by decide +kernel
theorem dX4_wayBetween_8 : decode cX4_wayBetween 8 = .ok (.iload_n 2, 1) := by decide +kernel
theorem dX4_wayBetween_9 : decode cX4_wayBetween 9 = .ok (.iadd, 1) := by decide +kernel
theorem dX4_wayBetween_10 : decode cX4_wayBetween 10 = .ok (.invokevirtual 54, 3) := by decide +kernel
theorem dX4_wayBetween_13 : decode cX4_wayBetween 13 = .ok (.ireturn, 1) := by decide +kernel
theorem dX4_lengthen_0 : decode cX4_lengthen 0 = .ok (.aload_n 0, 1) := by decide +kernel
theorem dX4_lengthen_1 : decode cX4_lengthen 1 = .ok (.getfield 44, 3) := by decide +kernel
theorem dX4_lengthen_4 : decode cX4_lengthen 4 = .ok (.iload_n 1, 1) := by decide +kernel
theorem dX4_lengthen_5 : decode cX4_lengthen 5 = .ok (.bipush 16, 2) := by decide +kernel
theorem dX4_lengthen_7 : decode cX4_lengthen 7 = .ok (.imul, 1) := by decide +kernel
theorem dX4_lengthen_8 : decode cX4_lengthen 8 = .ok (.iload_n 2, 1) := by decide +kernel
theorem dX4_lengthen_9 : decode cX4_lengthen 9 = .ok (.iadd, 1) := by decide +kernel
theorem dX4_lengthen_10 : decode cX4_lengthen 10 = .ok (.aload_n 0, 1) := by decide +kernel
theorem dX4_lengthen_11 : decode cX4_lengthen 11 = .ok (.iload_n 1, 1) := by decide +kernel
theorem dX4_lengthen_12 : decode cX4_lengthen 12 = .ok (.iload_n 2, 1) := by decide +kernel
theorem dX4_lengthen_13 : decode cX4_lengthen 13 = .ok (.invokevirtual 102, 3) := by decide +kernel
theorem dX4_lengthen_16 : decode cX4_lengthen 16 = .ok (.iload_n 3, 1) := by decide +kernel
theorem dX4_lengthen_17 : decode cX4_lengthen 17 = .ok (.invokestatic 73, 3) := by decide +kernel
theorem dX4_lengthen_20 : decode cX4_lengthen 20 = .ok (.invokevirtual 58, 3) := by decide +kernel
theorem dX4_lengthen_23 : decode cX4_lengthen 23 = .ok (.return_, 1) := by decide +kernel
theorem dJ6_bitCount_0f7a4_0 : decode cJ6_bitCount_0f7a4 0 = .ok (.iload_n 0, 1) := by decide +kernel
theorem dJ6_bitCount_0f7a4_1 : decode cJ6_bitCount_0f7a4 1 = .ok (.iload_n 0, 1) := by decide +kernel
theorem dJ6_bitCount_0f7a4_2 : decode cJ6_bitCount_0f7a4 2 = .ok (.iconst 1, 1) := by decide +kernel
theorem dJ6_bitCount_0f7a4_3 : decode cJ6_bitCount_0f7a4 3 = .ok (.iushr, 1) := by decide +kernel
theorem dJ6_bitCount_0f7a4_4 : decode cJ6_bitCount_0f7a4 4 = .ok (.ldc_w 265, 3) := by decide +kernel
theorem dJ6_bitCount_0f7a4_7 : decode cJ6_bitCount_0f7a4 7 = .ok (.iand, 1) := by decide +kernel
theorem dJ6_bitCount_0f7a4_8 : decode cJ6_bitCount_0f7a4 8 = .ok (.isub, 1) := by decide +kernel
theorem dJ6_bitCount_0f7a4_9 : decode cJ6_bitCount_0f7a4 9 = .ok (.istore_n 0, 1) := by decide +kernel
theorem dJ6_bitCount_0f7a4_10 : decode cJ6_bitCount_0f7a4 10 = .ok (.iload_n 0, 1) := by decide +kernel
theorem dJ6_bitCount_0f7a4_11 : decode cJ6_bitCount_0f7a4 11 = .ok (.ldc_w 266, 3) := by decide +kernel
theorem dJ6_bitCount_0f7a4_14 : decode cJ6_bitCount_0f7a4 14 = .ok (.iand, 1) := by decide +kernel
theorem dJ6_bitCount_0f7a4_15 : decode cJ6_bitCount_0f7a4 15 = .ok (.iload_n 0, 1) := by decide +kernel
theorem dJ6_bitCount_0f7a4_16 : decode cJ6_bitCount_0f7a4 16 = .ok (.iconst 2, 1) := by decide +kernel
theorem dJ6_bitCount_0f7a4_17 : decode cJ6_bitCount_0f7a4 17 = .ok (.iushr, 1) := by decide +kernel
theorem dJ6_bitCount_0f7a4_18 : decode cJ6_bitCount_0f7a4 18 = .ok (.ldc_w 266, 3) := by decide +kernel
theorem dJ6_bitCount_0f7a4_21 : decode cJ6_bitCount_0f7a4 21 = .ok (.iand, 1) := by decide +kernel
theorem dJ6_bitCount_0f7a4_22 : decode cJ6_bitCount_0f7a4 22 = .ok (.iadd, 1) := by decide +kernel
theorem dJ6_bitCount_0f7a4_23 : decode cJ6_bitCount_0f7a4 23 = .ok (.istore_n 0, 1) := by decide +kernel
theorem dJ6_bitCount_0f7a4_24 : decode cJ6_bitCount_0f7a4 24 = .ok (.iload_n 0, 1) := by decide +kernel
theorem dJ6_bitCount_0f7a4_25 : decode cJ6_bitCount_0f7a4 25 = .ok (.iload_n 0, 1) := by decide +kernel
theorem dJ6_bitCount_0f7a4_26 : decode cJ6_bitCount_0f7a4 26 = .ok (.iconst 4, 1) := by decide +kernel
theorem dJ6_bitCount_0f7a4_27 : decode cJ6_bitCount_0f7a4 27 = .ok (.iushr, 1) := by decide +kernel
theorem dJ6_bitCount_0f7a4_28 : decode cJ6_bitCount_0f7a4 28 = .ok (.iadd, 1) := by decide +kernel
theorem dJ6_bitCount_0f7a4_29 : decode cJ6_bitCount_0f7a4 29 = .ok (.ldc_w 267, 3) := by decide +kernel
theorem dJ6_bitCount_0f7a4_32 : decode cJ6_bitCount_0f7a4 32 = .ok (.iand, 1) := by decide +kernel
theorem dJ6_bitCount_0f7a4_33 : decode cJ6_bitCount_0f7a4 33 = .ok (.istore_n 0, 1) := by decide +kernel
theorem dJ6_bitCount_0f7a4_34 : decode cJ6_bitCount_0f7a4 34 = .ok (.iload_n 0, 1) := by decide +kernel
theorem dJ6_bitCount_0f7a4_35 : decode cJ6_bitCount_0f7a4 35 = .ok (.iload_n 0, 1) := by decide +kernel
theorem dJ6_bitCount_0f7a4_36 : decode cJ6_bitCount_0f7a4 36 = .ok (.bipush 8, 2) := by decide +kernel
theorem dJ6_bitCount_0f7a4_38 : decode cJ6_bitCount_0f7a4 38 = .ok (.iushr, 1) := by decide +kernel
theorem dJ6_bitCount_0f7a4_39 : decode cJ6_bitCount_0f7a4 39 = .ok (.iadd, 1) := by decide +kernel
theorem dJ6_bitCount_0f7a4_40 : decode cJ6_bitCount_0f7a4 40 = .ok (.istore_n 0, 1) := by decide +kernel
theorem dJ6_bitCount_0f7a4_41 : decode cJ6_bitCount_0f7a4 41 = .ok (.iload_n 0, 1) := by decide +kernel
theorem dJ6_bitCount_0f7a4_42 : decode cJ6_bitCount_0f7a4 42 = .ok (.iload_n 0, 1) := by decide +kernel
theorem dJ6_bitCount_0f7a4_43 : decode cJ6_bitCount_0f7a4 43 = .ok (.bipush 16, 2) := by decide +kernel
theorem dJ6_bitCount_0f7a4_45 : decode cJ6_bitCount_0f7a4 45 = .ok (.iushr, 1) := by decide +kernel
theorem dJ6_bitCount_0f7a4_46 : decode cJ6_bitCount_0f7a4 46 = .ok (.iadd, 1) := by decide +kernel
theorem dJ6_bitCount_0f7a4_47 : decode cJ6_bitCount_0f7a4 47 = .ok (.istore_n 0, 1) := by decide +kernel
theorem dJ6_bitCount_0f7a4_48 : decode cJ6_bitCount_0f7a4 48 = .ok (.iload_n 0, 1) := by decide +kernel
theorem dJ6_bitCount_0f7a4_49 : decode cJ6_bitCount_0f7a4 49 = .ok (.bipush 63, 2) := by decide +kernel
theorem dJ6_bitCount_0f7a4_51 : decode cJ6_bitCount_0f7a4 51 = .ok (.iand, 1) := by decide +kernel
theorem dJ6_bitCount_0f7a4_52 : decode cJ6_bitCount_0f7a4 52 = .ok (.ireturn, 1) := by decide +kernel
theorem dJ9_max_7cf53_0 : decode cJ9_max_7cf53 0 = .ok (.iload_n 0, 1) := by decide +kernel
theorem dJ9_max_7cf53_1 : decode cJ9_max_7cf53 1 = .ok (.iload_n 1, 1) := by decide +kernel
theorem dJ9_max_7cf53_2 : decode cJ9_max_7cf53 2 = .ok (.if_icmp .lt 7, 3) := by decide +kernel
theorem dJ9_max_7cf53_5 : decode cJ9_max_7cf53 5 = .ok (.iload_n 0, 1) := by decide +kernel
theorem dJ9_max_7cf53_6 : decode cJ9_max_7cf53 6 = .ok (.goto 4, 3) := by decide +kernel
theorem dJ9_max_7cf53_9 : decode cJ9_max_7cf53 9 = .ok (.iload_n 1, 1) := by decide +kernel
theorem dJ9_max_7cf53_10 : decode cJ9_max_7cf53 10 = .ok (.ireturn, 1) := by decide +kernel
theorem dJ9_min_7cf53_0 : decode cJ9_min_7cf53 0 = .ok (.iload_n 0, 1) := by decide +kernel
theorem dJ9_min_7cf53_1 : decode cJ9_min_7cf53 1 = .ok (.iload_n 1, 1) := by decide +kernel
theorem dJ9_min_7cf53_2 : decode cJ9_min_7cf53 2 = .ok (.if_icmp .gt 7, 3) := by decide +kernel
theorem dJ9_min_7cf53_5 : decode cJ9_min_7cf53 5 = .ok (.iload_n 0, 1) := by decide +kernel
theorem dJ9_min_7cf53_6 : decode cJ9_min_7cf53 6 = .ok (.goto 4, 3) := by decide +kernel
theorem dJ9_min_7cf53_9 : decode cJ9_min_7cf53 9 = .ok (.iload_n 1, 1) := by decide +kernel
theorem dJ9_min_7cf53_10 : decode cJ9_min_7cf53 10 = .ok (.ireturn, 1) := by decide +kernel
