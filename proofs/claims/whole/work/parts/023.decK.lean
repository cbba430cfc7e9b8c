theorem dK_init_0 : decode cK_init 0 = .ok (.aload_n 0, 1) := by decide +kernel
theorem dK_init_1 : decode cK_init 1 = .ok (.invokespecial 1, 3) := by decide +kernel
theorem dK_init_4 : decode cK_init 4 = .ok (.aload_n 0, 1) := by decide +kernel
theorem dK_init_5 : decode cK_init 5 = .ok (.new 7, 3) := by decide +kernel
theorem dK_init_8 : decode cK_init 8 = .ok (.dup, 1) := by decide +kernel
theorem dK_init_9 : decode cK_init 9 = .ok (.invokespecial 9, 3) := by decide +kernel
theorem dK_init_12 : decode cK_init 12 = .ok (.putfield 10, 3) := by decide +kernel
theorem dK_init_15 : decode cK_init 15 = .ok (.aload_n 0, 1) := by decide +kernel
theorem dK_init_16 : decode cK_init 16 = .ok (.new 16, 3) := by decide +kernel
theorem dK_init_19 : decode cK_init 19 = .ok (.dup, 1) := by decide +kernel
theorem dK_init_20 : decode cK_init 20 = .ok (.invokespecial 18, 3) := by decide +kernel
theorem dK_init_23 : decode cK_init 23 = .ok (.putfield 19, 3) := by decide +kernel
theorem dK_init_26 : decode cK_init 26 = .ok (.aload_n 0, 1) := by decide +kernel
theorem dK_init_27 : decode cK_init 27 = .ok (.iconst 3, 1) := by decide +kernel
theorem dK_init_28 : decode cK_init 28 = .ok (.anewarray 23, 3) := by decide +kernel
theorem dK_init_31 : decode cK_init 31 = .ok (.dup, 1) := by decide +kernel
theorem dK_init_32 : decode cK_init 32 = .ok (.iconst 0, 1) := by decide +kernel
theorem dK_init_33 : decode cK_init 33 = .ok (.new 23, 3) := by decide +kernel
theorem dK_init_36 : decode cK_init 36 = .ok (.dup, 1) := by decide +kernel
theorem dK_init_37 : decode cK_init 37 = .ok (.bipush 40, 2) := by decide +kernel
theorem dK_init_39 : decode cK_init 39 = .ok (.iconst 2, 1) := by decide +kernel
theorem dK_init_40 : decode cK_init 40 = .ok (.iconst 1, 1) := by decide +kernel
theorem dK_init_41 : decode cK_init 41 = .ok (.invokespecial 25, 3) := by decide +kernel
theorem dK_init_44 : decode cK_init 44 = .ok (.aastore, 1) := by decide +kernel
theorem dK_init_45 : decode cK_init 45 = .ok (.dup, 1) := by decide +kernel
theorem dK_init_46 : decode cK_init 46 = .ok (.iconst 1, 1) := by decide +kernel
theorem dK_init_47 : decode cK_init 47 = .ok (.new 23, 3) := by decide +kernel
theorem dK_init_50 : decode cK_init 50 = .ok (.dup, 1) := by decide +kernel
theorem dK_init_51 : decode cK_init 51 = .ok (.bipush 20, 2) := by decide +kernel
theorem dK_init_53 : decode cK_init 53 = .ok (.iconst 2, 1) := by decide +kernel
theorem dK_init_54 : decode cK_init 54 = .ok (.iconst 0, 1) := by decide +kernel
theorem dK_init_55 : decode cK_init 55 = .ok (.invokespecial 25, 3) := by decide +kernel
theorem dK_init_58 : decode cK_init 58 = .ok (.aastore, 1) := by decide +kernel
theorem dK_init_59 : decode cK_init 59 = .ok (.dup, 1) := by decide +kernel
theorem dK_init_60 : decode cK_init 60 = .ok (.iconst 2, 1) := by decide +kernel
theorem dK_init_61 : decode cK_init 61 = .ok (.new 23, 3) := by decide +kernel
theorem dK_init_64 : decode cK_init 64 = .ok (.dup, 1) := by decide +kernel
theorem dK_init_65 : decode cK_init 65 = .ok (.bipush 10, 2) := by decide +kernel
theorem dK_init_67 : decode cK_init 67 = .ok (.iconst 1, 1) := by decide +kernel
theorem dK_init_68 : decode cK_init 68 = .ok (.iconst 0, 1) := by decide +kernel
theorem dK_init_69 : decode cK_init 69 = .ok (.invokespecial 25, 3) := by decide +kernel
theorem dK_init_72 : decode cK_init 72 = .ok (.aastore, 1) := by decide +kernel
theorem dK_init_73 : decode cK_init 73 = .ok (.putfield 28, 3) := by decide +kernel
theorem dK_init_76 : decode cK_init 76 = .ok (.aload_n 0, 1) := by decide +kernel
theorem dK_init_77 : decode cK_init 77 = .ok (.new 32, 3) := by decide +kernel
theorem dK_init_80 : decode cK_init 80 = .ok (.dup, 1) := by decide +kernel
theorem dK_init_81 : decode cK_init 81 = .ok (.iconst 0, 1) := by decide +kernel
theorem dK_init_82 : decode cK_init 82 = .ok (.invokespecial 34, 3) := by decide +kernel
theorem dK_init_85 : decode cK_init 85 = .ok (.putfield 37, 3) := by decide +kernel
theorem dK_init_88 : decode cK_init 88 = .ok (.aload_n 0, 1) := by decide +kernel
theorem dK_init_89 : decode cK_init 89 = .ok (.aconst_null, 1) := by decide +kernel
theorem dK_init_90 : decode cK_init 90 = .ok (.putfield 41, 3) := by decide +kernel
theorem dK_init_93 : decode cK_init 93 = .ok (.aload_n 0, 1) := by decide +kernel
theorem dK_init_94 : decode cK_init 94 = .ok (.new 44, 3) := by decide +kernel
theorem dK_init_97 : decode cK_init 97 = .ok (.dup, 1) := by decide +kernel
theorem dK_init_98 : decode cK_init 98 = .ok (.invokespecial 46, 3) := by decide +kernel
theorem dK_init_101 : decode cK_init 101 = .ok (.putfield 47, 3) := by decide +kernel
theorem dK_init_104 : decode cK_init 104 = .ok (.aload_n 0, 1) := by decide +kernel
theorem dK_init_105 : decode cK_init 105 = .ok (.iconst 0, 1) := by decide +kernel
theorem dK_init_106 : decode cK_init 106 = .ok (.putfield 51, 3) := by decide +kernel
theorem dK_init_109 : decode cK_init 109 = .ok (.aload_n 0, 1) := by decide +kernel
theorem dK_init_110 : decode cK_init 110 = .ok (.new 32, 3) := by decide +kernel
theorem dK_init_113 : decode cK_init 113 = .ok (.dup, 1) := by decide +kernel
theorem dK_init_114 : decode cK_init 114 = .ok (.iconst 0, 1) := by decide +kernel
theorem dK_init_115 : decode cK_init 115 = .ok (.invokespecial 34, 3) := by decide +kernel
theorem dK_init_118 : decode cK_init 118 = .ok (.putfield 55, 3) := by decide +kernel
theorem dK_init_121 : decode cK_init 121 = .ok (.aload_n 0, 1) := by decide +kernel
theorem dK_init_122 : decode cK_init 122 = .ok (.iconst 2, 1) := by decide +kernel
theorem dK_init_123 : decode cK_init 123 = .ok (.putfield 58, 3) := by decide +kernel
theorem dK_init_126 : decode cK_init 126 = .ok (.aload_n 0, 1) := by decide +kernel
theorem dK_init_127 : decode cK_init 127 = .ok (.new 44, 3) := by decide +kernel
theorem dK_init_130 : decode cK_init 130 = .ok (.dup, 1) := by decide +kernel
theorem dK_init_131 : decode cK_init 131 = .ok (.invokespecial 46, 3) := by decide +kernel
theorem dK_init_134 : decode cK_init 134 = .ok (.putfield 61, 3) := by decide +kernel
theorem dK_init_137 : decode cK_init 137 = .ok (.return_, 1) := by decide +kernel
theorem dK_now_0 : decode cK_now 0 = .ok (.aload_n 0, 1) := by decide +kernel
theorem dK_now_1 : decode cK_now 1 = .ok (.getfield 37, 3) := by decide +kernel
theorem dK_now_4 : decode cK_now 4 = .ok (.getfield 94, 3) := by decide +kernel
theorem dK_now_7 : decode cK_now 7 = .ok (.ireturn, 1) := by decide +kernel
theorem dK_frozen_0 : decode cK_frozen 0 = .ok (.aload_n 0, 1) := by decide +kernel
theorem dK_frozen_1 : decode cK_frozen 1 = .ok (.getfield 19, 3) := by decide +kernel
theorem dK_frozen_4 : decode cK_frozen 4 = .ok (.iload_n 1, 1) := by decide +kernel
theorem dK_frozen_5 : decode cK_frozen 5 = .ok (.invokevirtual 138, 3) := by decide +kernel
theorem dK_frozen_8 : decode cK_frozen 8 = .ok (.ifCond .eq 15, 3) := by decide +kernel
theorem dK_frozen_11 : decode cK_frozen 11 = .ok (.aload_n 0, 1) := by decide +kernel
theorem dK_frozen_12 : decode cK_frozen 12 = .ok (.getfield 19, 3) := by decide +kernel
theorem dK_frozen_15 : decode cK_frozen 15 = .ok (.iload_n 1, 1) := by decide +kernel
theorem dK_frozen_16 : decode cK_frozen 16 = .ok (.iload_n 2, 1) := by decide +kernel
theorem dK_frozen_17 : decode cK_frozen 17 = .ok (.invokevirtual 142, 3) := by decide +kernel
theorem dK_frozen_20 : decode cK_frozen 20 = .ok (.goto 4, 3) := by decide +kernel
theorem dK_frozen_23 : decode cK_frozen 23 = .ok (.iconst (-1), 1) := by decide +kernel
theorem dK_frozen_24 : decode cK_frozen 24 = .ok (.ireturn, 1) := by decide +kernel
theorem dK_isBelow_0 : decode cK_isBelow 0 = .ok (.iload_n 0, 1) := by decide +kernel
theorem dK_isBelow_1 : decode cK_isBelow 1 = .ok (.ifCond .lt 12, 3) := by decide +kernel
theorem dK_isBelow_4 : decode cK_isBelow 4 = .ok (.iload_n 0, 1) := by decide +kernel
theorem dK_isBelow_5 : decode cK_isBelow 5 = .ok (.iload_n 1, 1) := by decide +kernel
theorem dK_isBelow_6 : decode cK_isBelow 6 = .ok (.if_icmp .ge 7, 3) := by decide +kernel
theorem dK_isBelow_9 : decode cK_isBelow 9 = .ok (.iconst 1, 1) := by decide +kernel
theorem dK_isBelow_10 : decode cK_isBelow 10 = .ok (.goto 4, 3) := by decide +kernel
theorem dK_isBelow_13 : decode cK_isBelow 13 = .ok (.iconst 0, 1) := by decide +kernel
theorem dK_isBelow_14 : decode cK_isBelow 14 = .ok (.ireturn, 1) := by decide +kernel
theorem dK_kept_0 : decode cK_kept 0 = .ok (.aload_n 0, 1) := by decide +kernel
theorem dK_kept_1 : decode cK_kept 1 = .ok (.iload_n 1, 1) := by decide +kernel
theorem dK_kept_2 : decode cK_kept 2 = .ok (.invokevirtual 146, 3) := by decide +kernel
theorem dK_kept_5 : decode cK_kept 5 = .ok (.astore_n 3, 1) := by decide +kernel
theorem dK_kept_6 : decode cK_kept 6 = .ok (.aload_n 3, 1) := by decide +kernel
theorem dK_kept_7 : decode cK_kept 7 = .ok (.ifnonnull 5, 3) := by decide +kernel
theorem dK_kept_10 : decode cK_kept 10 = .ok (.iconst (-1), 1) := by decide +kernel
theorem dK_kept_11 : decode cK_kept 11 = .ok (.ireturn, 1) := by decide +kernel
theorem dK_kept_12 : decode cK_kept 12 = .ok (.iload_n 2, 1) := by decide +kernel
theorem dK_kept_13 : decode cK_kept 13 = .ok (.ifCond .eq 10, 3) := by decide +kernel
theorem dK_kept_16 : decode cK_kept 16 = .ok (.aload_n 3, 1) := by decide +kernel
theorem dK_kept_17 : decode cK_kept 17 = .ok (.invokevirtual 150, 3) := by decide +kernel
theorem dK_kept_20 : decode cK_kept 20 = .ok (.goto 7, 3) := by decide +kernel
theorem dK_kept_23 : decode cK_kept 23 = .ok (.aload_n 3, 1) := by decide +kernel
theorem dK_kept_24 : decode cK_kept 24 = .ok (.invokevirtual 153, 3) := by decide +kernel
theorem dK_kept_27 : decode cK_kept 27 = .ok (.ireturn, 1) := by decide +kernel
theorem dK_storeAt_0 : decode cK_storeAt 0 = .ok (.iload_n 1, 1) := by decide +kernel
theorem dK_storeAt_1 : decode cK_storeAt 1 = .ok (.aload_n 0, 1) := by decide +kernel
theorem dK_storeAt_2 : decode cK_storeAt 2 = .ok (.getfield 28, 3) := by decide +kernel
theorem dK_storeAt_5 : decode cK_storeAt 5 = .ok (.arraylength, 1) := by decide +kernel
theorem dK_storeAt_6 : decode cK_storeAt 6 = .ok (.invokestatic 67, 3) := by decide +kernel
theorem dK_storeAt_9 : decode cK_storeAt 9 = .ok (.ifCond .eq 12, 3) := by decide +kernel
theorem dK_storeAt_12 : decode cK_storeAt 12 = .ok (.aload_n 0, 1) := by decide +kernel
theorem dK_storeAt_13 : decode cK_storeAt 13 = .ok (.getfield 28, 3) := by decide +kernel
theorem dK_storeAt_16 : decode cK_storeAt 16 = .ok (.iload_n 1, 1) := by decide +kernel
theorem dK_storeAt_17 : decode cK_storeAt 17 = .ok (.aaload, 1) := by decide +kernel
theorem dK_storeAt_18 : decode cK_storeAt 18 = .ok (.goto 4, 3) := by decide +kernel
theorem dK_storeAt_21 : decode cK_storeAt 21 = .ok (.aconst_null, 1) := by decide +kernel
theorem dK_storeAt_22 : decode cK_storeAt 22 = .ok (.areturn, 1) := by decide +kernel
theorem dK_free_0 : decode cK_free 0 = .ok (.aload_n 0, 1) := by decide +kernel
theorem dK_free_1 : decode cK_free 1 = .ok (.iload_n 1, 1) := by decide +kernel
theorem dK_free_2 : decode cK_free 2 = .ok (.invokevirtual 146, 3) := by decide +kernel
theorem dK_free_5 : decode cK_free 5 = .ok (.astore_n 2, 1) := by decide +kernel
theorem dK_free_6 : decode cK_free 6 = .ok (.aload_n 2, 1) := by decide +kernel
theorem dK_free_7 : decode cK_free 7 = .ok (.ifnonnull 7, 3) := by decide +kernel
theorem dK_free_10 : decode cK_free 10 = .ok (.iconst (-1), 1) := by decide +kernel
theorem dK_free_11 : decode cK_free 11 = .ok (.goto 7, 3) := by decide +kernel
theorem dK_free_14 : decode cK_free 14 = .ok (.aload_n 2, 1) := by decide +kernel
theorem dK_free_15 : decode cK_free 15 = .ok (.invokevirtual 156, 3) := by decide +kernel
theorem dK_free_18 : decode cK_free 18 = .ok (.ireturn, 1) := by decide +kernel
theorem dK_has_0 : decode cK_has 0 = .ok (.aload_n 0, 1) := by decide +kernel
theorem dK_has_1 : decode cK_has 1 = .ok (.iload_n 1, 1) := by decide +kernel
theorem dK_has_2 : decode cK_has 2 = .ok (.invokevirtual 146, 3) := by decide +kernel
theorem dK_has_5 : decode cK_has 5 = .ok (.astore_n 3, 1) := by decide +kernel
theorem dK_has_6 : decode cK_has 6 = .ok (.aload_n 3, 1) := by decide +kernel
theorem dK_has_7 : decode cK_has 7 = .ok (.ifnull 15, 3) := by decide +kernel
theorem dK_has_10 : decode cK_has 10 = .ok (.aload_n 3, 1) := by decide +kernel
theorem dK_has_11 : decode cK_has 11 = .ok (.iload_n 2, 1) := by decide +kernel
theorem dK_has_12 : decode cK_has 12 = .ok (.invokevirtual 159, 3) := by decide +kernel
theorem dK_has_15 : decode cK_has 15 = .ok (.ifnull 7, 3) := by decide +kernel
theorem dK_has_18 : decode cK_has 18 = .ok (.iconst 1, 1) := by decide +kernel
theorem dK_has_19 : decode cK_has 19 = .ok (.goto 4, 3) := by decide +kernel
theorem dK_has_22 : decode cK_has 22 = .ok (.iconst 0, 1) := by decide +kernel
theorem dK_has_23 : decode cK_has 23 = .ok (.ireturn, 1) := by decide +kernel
theorem dK_replay_0 : decode cK_replay 0 = .ok (.aload_n 0, 1) := by decide +kernel
theorem dK_replay_1 : decode cK_replay 1 = .ok (.iload_n 1, 1) := by decide +kernel
theorem dK_replay_2 : decode cK_replay 2 = .ok (.invokevirtual 146, 3) := by decide +kernel
theorem dK_replay_5 : decode cK_replay 5 = .ok (.astore_n 3, 1) := by decide +kernel
theorem dK_replay_6 : decode cK_replay 6 = .ok (.aload_n 3, 1) := by decide +kernel
theorem dK_replay_7 : decode cK_replay 7 = .ok (.ifnonnull 5, 3) := by decide +kernel
theorem dK_replay_10 : decode cK_replay 10 = .ok (.iconst (-1), 1) := by decide +kernel
theorem dK_replay_11 : decode cK_replay 11 = .ok (.ireturn, 1) := by decide +kernel
theorem dK_replay_12 : decode cK_replay 12 = .ok (.aload_n 3, 1) := by decide +kernel
theorem dK_replay_13 : decode cK_replay 13 = .ok (.iload_n 2, 1) := by decide +kernel
theorem dK_replay_14 : decode cK_replay 14 = .ok (.invokevirtual 159, 3) := by decide +kernel
theorem dK_replay_17 : decode cK_replay 17 = .ok (.astore 4, 2) := by decide +kernel
theorem dK_replay_19 : decode cK_replay 19 = .ok (.aload 4, 2) := by decide +kernel
theorem dK_replay_21 : decode cK_replay 21 = .ok (.ifnonnull 5, 3) := by decide +kernel
theorem dK_replay_24 : decode cK_replay 24 = .ok (.iconst (-1), 1) := by decide +kernel
theorem dK_replay_25 : decode cK_replay 25 = .ok (.ireturn, 1) := by decide +kernel
theorem dK_replay_26 : decode cK_replay 26 = .ok (.aload_n 0, 1) := by decide +kernel
theorem dK_replay_27 : decode cK_replay 27 = .ok (.aload 4, 2) := by decide +kernel
theorem dK_replay_29 : decode cK_replay 29 = .ok (.putfield 55, 3) := by decide +kernel
theorem dK_replay_32 : decode cK_replay 32 = .ok (.aload_n 0, 1) := by decide +kernel
theorem dK_replay_33 : decode cK_replay 33 = .ok (.aload_n 3, 1) := by decide +kernel
theorem dK_replay_34 : decode cK_replay 34 = .ok (.getfield 163, 3) := by decide +kernel
theorem dK_replay_37 : decode cK_replay 37 = .ok (.putfield 58, 3) := by decide +kernel
theorem dK_replay_40 : decode cK_replay 40 = .ok (.aload_n 0, 1) := by decide +kernel
theorem dK_replay_41 : decode cK_replay 41 = .ok (.aload_n 3, 1) := by decide +kernel
theorem dK_replay_42 : decode cK_replay 42 = .ok (.iload_n 2, 1) := by decide +kernel
theorem dK_replay_43 : decode cK_replay 43 = .ok (.invokevirtual 166, 3) := by decide +kernel
theorem dK_replay_46 : decode cK_replay 46 = .ok (.putfield 61, 3) := by decide +kernel
theorem dK_replay_49 : decode cK_replay 49 = .ok (.aload 4, 2) := by decide +kernel
theorem dK_replay_51 : decode cK_replay 51 = .ok (.getfield 170, 3) := by decide +kernel
theorem dK_replay_54 : decode cK_replay 54 = .ok (.ireturn, 1) := by decide +kernel
theorem dK_outSentence_0 : decode cK_outSentence 0 = .ok (.iload_n 1, 1) := by decide +kernel
theorem dK_outSentence_1 : decode cK_outSentence 1 = .ok (.aload_n 0, 1) := by decide +kernel
theorem dK_outSentence_2 : decode cK_outSentence 2 = .ok (.getfield 55, 3) := by decide +kernel
theorem dK_outSentence_5 : decode cK_outSentence 5 = .ok (.getfield 170, 3) := by decide +kernel
theorem dK_outSentence_8 : decode cK_outSentence 8 = .ok (.invokestatic 67, 3) := by decide +kernel
theorem dK_outSentence_11 : decode cK_outSentence 11 = .ok (.ifCond .eq 15, 3) := by decide +kernel
theorem dK_outSentence_14 : decode cK_outSentence 14 = .ok (.aload_n 0, 1) := by decide +kernel
theorem dK_outSentence_15 : decode cK_outSentence 15 = .ok (.getfield 55, 3) := by decide +kernel
theorem dK_outSentence_18 : decode cK_outSentence 18 = .ok (.getfield 173, 3) := by decide +kernel
theorem dK_outSentence_21 : decode cK_outSentence 21 = .ok (.iload_n 1, 1) := by decide +kernel
theorem dK_outSentence_22 : decode cK_outSentence 22 = .ok (.laload, 1) := by decide +kernel
theorem dK_outSentence_23 : decode cK_outSentence 23 = .ok (.goto 4, 3) := by decide +kernel
theorem dK_outSentence_26 : decode cK_outSentence 26 = .ok (.lconst 0, 1) := by decide +kernel
theorem dK_outSentence_27 : decode cK_outSentence 27 = .ok (.lreturn, 1) := by decide +kernel
theorem dK_outSource_0 : decode cK_outSource 0 = .ok (.iload_n 1, 1) := by decide +kernel
theorem dK_outSource_1 : decode cK_outSource 1 = .ok (.aload_n 0, 1) := by decide +kernel
theorem dK_outSource_2 : decode cK_outSource 2 = .ok (.getfield 55, 3) := by decide +kernel
theorem dK_outSource_5 : decode cK_outSource 5 = .ok (.getfield 170, 3) := by decide +kernel
theorem dK_outSource_8 : decode cK_outSource 8 = .ok (.invokestatic 67, 3) := by decide +kernel
theorem dK_outSource_11 : decode cK_outSource 11 = .ok (.ifCond .eq 15, 3) := by decide +kernel
theorem dK_outSource_14 : decode cK_outSource 14 = .ok (.aload_n 0, 1) := by decide +kernel
theorem dK_outSource_15 : decode cK_outSource 15 = .ok (.getfield 55, 3) := by decide +kernel
theorem dK_outSource_18 : decode cK_outSource 18 = .ok (.getfield 177, 3) := by decide +kernel
theorem dK_outSource_21 : decode cK_outSource 21 = .ok (.iload_n 1, 1) := by decide +kernel
theorem dK_outSource_22 : decode cK_outSource 22 = .ok (.iaload, 1) := by decide +kernel
theorem dK_outSource_23 : decode cK_outSource 23 = .ok (.goto 4, 3) := by decide +kernel
theorem dK_outSource_26 : decode cK_outSource 26 = .ok (.iconst (-1), 1) := by decide +kernel
theorem dK_outSource_27 : decode cK_outSource 27 = .ok (.ireturn, 1) := by decide +kernel
theorem dK_outSound_0 : decode cK_outSound 0 = .ok (.iload_n 1, 1) := by decide +kernel
theorem dK_outSound_1 : decode cK_outSound 1 = .ok (.iload_n 2, 1) := by decide +kernel
theorem dK_outSound_2 : decode cK_outSound 2 = .ok (.invokestatic 75, 3) := by decide +kernel
theorem dK_outSound_5 : decode cK_outSound 5 = .ok (.ifCond .ne 5, 3) := by decide +kernel
theorem dK_outSound_8 : decode cK_outSound 8 = .ok (.iconst (-1), 1) := by decide +kernel
theorem dK_outSound_9 : decode cK_outSound 9 = .ok (.ireturn, 1) := by decide +kernel
theorem dK_outSound_10 : decode cK_outSound 10 = .ok (.iload_n 1, 1) := by decide +kernel
theorem dK_outSound_11 : decode cK_outSound 11 = .ok (.aload_n 0, 1) := by decide +kernel
theorem dK_outSound_12 : decode cK_outSound 12 = .ok (.getfield 58, 3) := by decide +kernel
theorem dK_outSound_15 : decode cK_outSound 15 = .ok (.if_icmp .ge 15, 3) := by decide +kernel
theorem dK_outSound_18 : decode cK_outSound 18 = .ok (.aload_n 0, 1) := by decide +kernel
theorem dK_outSound_19 : decode cK_outSound 19 = .ok (.getfield 55, 3) := by decide +kernel
theorem dK_outSound_22 : decode cK_outSound 22 = .ok (.iload_n 1, 1) := by decide +kernel
theorem dK_outSound_23 : decode cK_outSound 23 = .ok (.iload_n 2, 1) := by decide +kernel
theorem dK_outSound_24 : decode cK_outSound 24 = .ok (.invokevirtual 181, 3) := by decide +kernel
theorem dK_outSound_27 : decode cK_outSound 27 = .ok (.goto 4, 3) := by decide +kernel
theorem dK_outSound_30 : decode cK_outSound 30 = .ok (.iconst 0, 1) := by decide +kernel
theorem dK_outSound_31 : decode cK_outSound 31 = .ok (.ireturn, 1) := by decide +kernel
theorem dK_isSoundByte_0 : decode cK_isSoundByte 0 = .ok (.iload_n 0, 1) := by decide +kernel
theorem dK_isSoundByte_1 : decode cK_isSoundByte 1 = .ok (.iconst 2, 1) := by decide +kernel
theorem dK_isSoundByte_2 : decode cK_isSoundByte 2 = .ok (.invokestatic 67, 3) := by decide +kernel
theorem dK_isSoundByte_5 : decode cK_isSoundByte 5 = .ok (.ifCond .eq 15, 3) := by decide +kernel
theorem dK_isSoundByte_8 : decode cK_isSoundByte 8 = .ok (.iload_n 1, 1) := by decide +kernel
theorem dK_isSoundByte_9 : decode cK_isSoundByte 9 = .ok (.iconst 4, 1) := by decide +kernel
theorem dK_isSoundByte_10 : decode cK_isSoundByte 10 = .ok (.invokestatic 67, 3) := by decide +kernel
theorem dK_isSoundByte_13 : decode cK_isSoundByte 13 = .ok (.ifCond .eq 7, 3) := by decide +kernel
theorem dK_isSoundByte_16 : decode cK_isSoundByte 16 = .ok (.iconst 1, 1) := by decide +kernel
theorem dK_isSoundByte_17 : decode cK_isSoundByte 17 = .ok (.goto 4, 3) := by decide +kernel
theorem dK_isSoundByte_20 : decode cK_isSoundByte 20 = .ok (.iconst 0, 1) := by decide +kernel
theorem dK_isSoundByte_21 : decode cK_isSoundByte 21 = .ok (.ireturn, 1) := by decide +kernel
theorem dK_outContacts_0 : decode cK_outContacts 0 = .ok (.aload_n 0, 1) := by decide +kernel
theorem dK_outContacts_1 : decode cK_outContacts 1 = .ok (.getfield 55, 3) := by decide +kernel
theorem dK_outContacts_4 : decode cK_outContacts 4 = .ok (.getfield 184, 3) := by decide +kernel
theorem dK_outContacts_7 : decode cK_outContacts 7 = .ok (.ireturn, 1) := by decide +kernel
theorem dK_outRow_0 : decode cK_outRow 0 = .ok (.aload_n 0, 1) := by decide +kernel
theorem dK_outRow_1 : decode cK_outRow 1 = .ok (.getfield 61, 3) := by decide +kernel
theorem dK_outRow_4 : decode cK_outRow 4 = .ok (.ifnull 23, 3) := by decide +kernel
theorem dK_outRow_7 : decode cK_outRow 7 = .ok (.iload_n 1, 1) := by decide +kernel
theorem dK_outRow_8 : decode cK_outRow 8 = .ok (.bipush 8, 2) := by decide +kernel
theorem dK_outRow_10 : decode cK_outRow 10 = .ok (.invokestatic 67, 3) := by decide +kernel
theorem dK_outRow_13 : decode cK_outRow 13 = .ok (.ifCond .eq 14, 3) := by decide +kernel
theorem dK_outRow_16 : decode cK_outRow 16 = .ok (.aload_n 0, 1) := by decide +kernel
theorem dK_outRow_17 : decode cK_outRow 17 = .ok (.getfield 61, 3) := by decide +kernel
theorem dK_outRow_20 : decode cK_outRow 20 = .ok (.iload_n 1, 1) := by decide +kernel
theorem dK_outRow_21 : decode cK_outRow 21 = .ok (.invokevirtual 187, 3) := by decide +kernel
theorem dK_outRow_24 : decode cK_outRow 24 = .ok (.goto 4, 3) := by decide +kernel
theorem dK_outRow_27 : decode cK_outRow 27 = .ok (.iconst (-1), 1) := by decide +kernel
theorem dK_outRow_28 : decode cK_outRow 28 = .ok (.ireturn, 1) := by decide +kernel
theorem dK_find_0 : decode cK_find 0 = .ok (.aload_n 0, 1) := by decide +kernel
theorem dK_find_1 : decode cK_find 1 = .ok (.iload_n 1, 1) := by decide +kernel
theorem dK_find_2 : decode cK_find 2 = .ok (.invokevirtual 146, 3) := by decide +kernel
theorem dK_find_5 : decode cK_find 5 = .ok (.astore 4, 2) := by decide +kernel
theorem dK_find_7 : decode cK_find 7 = .ok (.aload 4, 2) := by decide +kernel
theorem dK_find_9 : decode cK_find 9 = .ok (.ifnonnull 7, 3) := by decide +kernel
theorem dK_find_12 : decode cK_find 12 = .ok (.iconst (-1), 1) := by decide +kernel
theorem dK_find_13 : decode cK_find 13 = .ok (.goto 10, 3) := by decide +kernel
theorem dK_find_16 : decode cK_find 16 = .ok (.aload 4, 2) := by decide +kernel
theorem dK_find_18 : decode cK_find 18 = .ok (.iload_n 2, 1) := by decide +kernel
theorem dK_find_19 : decode cK_find 19 = .ok (.iload_n 3, 1) := by decide +kernel
theorem dK_find_20 : decode cK_find 20 = .ok (.invokevirtual 191, 3) := by decide +kernel
theorem dK_find_23 : decode cK_find 23 = .ok (.ireturn, 1) := by decide +kernel
theorem dK_fail_0 : decode cK_fail 0 = .ok (.aload_n 0, 1) := by decide +kernel
theorem dK_fail_1 : decode cK_fail 1 = .ok (.iload_n 1, 1) := by decide +kernel
theorem dK_fail_2 : decode cK_fail 2 = .ok (.invokevirtual 146, 3) := by decide +kernel
theorem dK_fail_5 : decode cK_fail 5 = .ok (.astore_n 3, 1) := by decide +kernel
theorem dK_fail_6 : decode cK_fail 6 = .ok (.aload_n 3, 1) := by decide +kernel
theorem dK_fail_7 : decode cK_fail 7 = .ok (.ifnull 11, 3) := by decide +kernel
theorem dK_fail_10 : decode cK_fail 10 = .ok (.aload_n 3, 1) := by decide +kernel
theorem dK_fail_11 : decode cK_fail 11 = .ok (.getfield 194, 3) := by decide +kernel
theorem dK_fail_14 : decode cK_fail 14 = .ok (.iload_n 2, 1) := by decide +kernel
theorem dK_fail_15 : decode cK_fail 15 = .ok (.if_icmp .ne 5, 3) := by decide +kernel
theorem dK_fail_18 : decode cK_fail 18 = .ok (.iconst 0, 1) := by decide +kernel
theorem dK_fail_19 : decode cK_fail 19 = .ok (.ireturn, 1) := by decide +kernel
theorem dK_fail_20 : decode cK_fail 20 = .ok (.aload_n 3, 1) := by decide +kernel
theorem dK_fail_21 : decode cK_fail 21 = .ok (.iload_n 2, 1) := by decide +kernel
theorem dK_fail_22 : decode cK_fail 22 = .ok (.putfield 194, 3) := by decide +kernel
theorem dK_fail_25 : decode cK_fail 25 = .ok (.iconst 1, 1) := by decide +kernel
theorem dK_fail_26 : decode cK_fail 26 = .ok (.ireturn, 1) := by decide +kernel
theorem dK_cutAfter_0 : decode cK_cutAfter 0 = .ok (.aload_n 0, 1) := by decide +kernel
theorem dK_cutAfter_1 : decode cK_cutAfter 1 = .ok (.getfield 10, 3) := by decide +kernel
theorem dK_cutAfter_4 : decode cK_cutAfter 4 = .ok (.invokevirtual 112, 3) := by decide +kernel
theorem dK_cutAfter_7 : decode cK_cutAfter 7 = .ok (.ifCond .eq 12, 3) := by decide +kernel
theorem dK_cutAfter_10 : decode cK_cutAfter 10 = .ok (.iload_n 1, 1) := by decide +kernel
theorem dK_cutAfter_11 : decode cK_cutAfter 11 = .ok (.bipush 101, 2) := by decide +kernel
theorem dK_cutAfter_13 : decode cK_cutAfter 13 = .ok (.invokestatic 67, 3) := by decide +kernel
theorem dK_cutAfter_16 : decode cK_cutAfter 16 = .ok (.ifCond .ne 5, 3) := by decide +kernel
theorem dK_cutAfter_19 : decode cK_cutAfter 19 = .ok (.iconst 0, 1) := by decide +kernel
theorem dK_cutAfter_20 : decode cK_cutAfter 20 = .ok (.ireturn, 1) := by decide +kernel
theorem dK_cutAfter_21 : decode cK_cutAfter 21 = .ok (.aload_n 0, 1) := by decide +kernel
theorem dK_cutAfter_22 : decode cK_cutAfter 22 = .ok (.getfield 10, 3) := by decide +kernel
theorem dK_cutAfter_25 : decode cK_cutAfter 25 = .ok (.iload_n 1, 1) := by decide +kernel
theorem dK_cutAfter_26 : decode cK_cutAfter 26 = .ok (.invokevirtual 198, 3) := by decide +kernel
theorem dK_cutAfter_29 : decode cK_cutAfter 29 = .ok (.iconst 1, 1) := by decide +kernel
theorem dK_cutAfter_30 : decode cK_cutAfter 30 = .ok (.ireturn, 1) := by decide +kernel
theorem dK_start_0 : decode cK_start 0 = .ok (.aload_n 0, 1) := by decide +kernel
theorem dK_start_1 : decode cK_start 1 = .ok (.getfield 10, 3) := by decide +kernel
theorem dK_start_4 : decode cK_start 4 = .ok (.invokevirtual 201, 3) := by decide +kernel
theorem dK_start_7 : decode cK_start 7 = .ok (.ireturn, 1) := by decide +kernel
theorem dK_spoil_0 : decode cK_spoil 0 = .ok (.aload_n 0, 1) := by decide +kernel
theorem dK_spoil_1 : decode cK_spoil 1 = .ok (.iload_n 1, 1) := by decide +kernel
theorem dK_spoil_2 : decode cK_spoil 2 = .ok (.invokevirtual 146, 3) := by decide +kernel
theorem dK_spoil_5 : decode cK_spoil 5 = .ok (.astore_n 3, 1) := by decide +kernel
theorem dK_spoil_6 : decode cK_spoil 6 = .ok (.aload_n 3, 1) := by decide +kernel
theorem dK_spoil_7 : decode cK_spoil 7 = .ok (.ifnull 15, 3) := by decide +kernel
theorem dK_spoil_10 : decode cK_spoil 10 = .ok (.aload_n 3, 1) := by decide +kernel
theorem dK_spoil_11 : decode cK_spoil 11 = .ok (.iload_n 2, 1) := by decide +kernel
theorem dK_spoil_12 : decode cK_spoil 12 = .ok (.invokevirtual 204, 3) := by decide +kernel
theorem dK_spoil_15 : decode cK_spoil 15 = .ok (.ifCond .eq 7, 3) := by decide +kernel
theorem dK_spoil_18 : decode cK_spoil 18 = .ok (.iconst 1, 1) := by decide +kernel
theorem dK_spoil_19 : decode cK_spoil 19 = .ok (.goto 4, 3) := by decide +kernel
theorem dK_spoil_22 : decode cK_spoil 22 = .ok (.iconst 0, 1) := by decide +kernel
theorem dK_spoil_23 : decode cK_spoil 23 = .ok (.ireturn, 1) := by decide +kernel
theorem dK_unreadable_0 : decode cK_unreadable 0 = .ok (.aload_n 0, 1) := by decide +kernel
theorem dK_unreadable_1 : decode cK_unreadable 1 = .ok (.iload_n 1, 1) := by decide +kernel
theorem dK_unreadable_2 : decode cK_unreadable 2 = .ok (.invokevirtual 146, 3) := by decide +kernel
theorem dK_unreadable_5 : decode cK_unreadable 5 = .ok (.astore_n 2, 1) := by decide +kernel
theorem dK_unreadable_6 : decode cK_unreadable 6 = .ok (.aload_n 2, 1) := by decide +kernel
theorem dK_unreadable_7 : decode cK_unreadable 7 = .ok (.ifnonnull 7, 3) := by decide +kernel
theorem dK_unreadable_10 : decode cK_unreadable 10 = .ok (.iconst (-1), 1) := by decide +kernel
theorem dK_unreadable_11 : decode cK_unreadable 11 = .ok (.goto 7, 3) := by decide +kernel
theorem dK_unreadable_14 : decode cK_unreadable 14 = .ok (.aload_n 2, 1) := by decide +kernel
theorem dK_unreadable_15 : decode cK_unreadable 15 = .ok (.invokevirtual 207, 3) := by decide +kernel
theorem dK_unreadable_18 : decode cK_unreadable 18 = .ok (.ireturn, 1) := by decide +kernel
theorem dK_sentence_0 : decode cK_sentence 0 = .ok (.aload_n 0, 1) := by decide +kernel
theorem dK_sentence_1 : decode cK_sentence 1 = .ok (.invokevirtual 64, 3) := by decide +kernel
theorem dK_sentence_4 : decode cK_sentence 4 = .ok (.iload_n 1, 1) := by decide +kernel
theorem dK_sentence_5 : decode cK_sentence 5 = .ok (.iconst 4, 1) := by decide +kernel
theorem dK_sentence_6 : decode cK_sentence 6 = .ok (.invokestatic 67, 3) := by decide +kernel
theorem dK_sentence_9 : decode cK_sentence 9 = .ok (.ifCond .eq 15, 3) := by decide +kernel
theorem dK_sentence_12 : decode cK_sentence 12 = .ok (.aload_n 0, 1) := by decide +kernel
theorem dK_sentence_13 : decode cK_sentence 13 = .ok (.getfield 37, 3) := by decide +kernel
theorem dK_sentence_16 : decode cK_sentence 16 = .ok (.iload_n 1, 1) := by decide +kernel
theorem dK_sentence_17 : decode cK_sentence 17 = .ok (.lload_n 2, 1) := by decide +kernel
theorem dK_sentence_18 : decode cK_sentence 18 = .ok (.invokevirtual 71, 3) := by decide +kernel
theorem dK_sentence_21 : decode cK_sentence 21 = .ok (.goto 4, 3) := by decide +kernel
theorem dK_sentence_24 : decode cK_sentence 24 = .ok (.iconst (-1), 1) := by decide +kernel
theorem dK_sentence_25 : decode cK_sentence 25 = .ok (.ireturn, 1) := by decide +kernel
theorem dK_requirePower_0 : decode cK_requirePower 0 = .ok (.aload_n 0, 1) := by decide +kernel
theorem dK_requirePower_1 : decode cK_requirePower 1 = .ok (.getfield 10, 3) := by decide +kernel
theorem dK_requirePower_4 : decode cK_requirePower 4 = .ok (.invokevirtual 112, 3) := by decide +kernel
theorem dK_requirePower_7 : decode cK_requirePower 7 = .ok (.ifCond .ne 11, 3) := by decide +kernel
theorem dK_requirePower_10 : decode cK_requirePower 10 = .ok (.new 210, 3) := by decide +kernel
theorem dK_requirePower_13 : decode cK_requirePower 13 = .ok (.dup, 1) := by decide +kernel
theorem dK_requirePower_14 : decode cK_requirePower 14 = .ok (.invokespecial 212, 3) := by decide +kernel
theorem dK_requirePower_17 : decode cK_requirePower 17 = .ok (.athrow, 1) := by decide +kernel
theorem dK_requirePower_18 : decode cK_requirePower 18 = .ok (.return_, 1) := by decide +kernel
theorem dK_sound_0 : decode cK_sound 0 = .ok (.aload_n 0, 1) := by decide +kernel
theorem dK_sound_1 : decode cK_sound 1 = .ok (.invokevirtual 64, 3) := by decide +kernel
theorem dK_sound_4 : decode cK_sound 4 = .ok (.iload_n 1, 1) := by decide +kernel
theorem dK_sound_5 : decode cK_sound 5 = .ok (.iload_n 2, 1) := by decide +kernel
theorem dK_sound_6 : decode cK_sound 6 = .ok (.invokestatic 75, 3) := by decide +kernel
theorem dK_sound_9 : decode cK_sound 9 = .ok (.ifCond .eq 13, 3) := by decide +kernel
theorem dK_sound_12 : decode cK_sound 12 = .ok (.iload_n 3, 1) := by decide +kernel
theorem dK_sound_13 : decode cK_sound 13 = .ok (.sipush 256, 3) := by decide +kernel
theorem dK_sound_16 : decode cK_sound 16 = .ok (.invokestatic 67, 3) := by decide +kernel
theorem dK_sound_19 : decode cK_sound 19 = .ok (.ifCond .ne 5, 3) := by decide +kernel
theorem dK_sound_22 : decode cK_sound 22 = .ok (.iconst 0, 1) := by decide +kernel
theorem dK_sound_23 : decode cK_sound 23 = .ok (.ireturn, 1) := by decide +kernel
theorem dK_sound_24 : decode cK_sound 24 = .ok (.aload_n 0, 1) := by decide +kernel
theorem dK_sound_25 : decode cK_sound 25 = .ok (.getfield 37, 3) := by decide +kernel
theorem dK_sound_28 : decode cK_sound 28 = .ok (.iload_n 1, 1) := by decide +kernel
theorem dK_sound_29 : decode cK_sound 29 = .ok (.iload_n 2, 1) := by decide +kernel
theorem dK_sound_30 : decode cK_sound 30 = .ok (.iload_n 3, 1) := by decide +kernel
theorem dK_sound_31 : decode cK_sound 31 = .ok (.invokevirtual 78, 3) := by decide +kernel
theorem dK_sound_34 : decode cK_sound 34 = .ok (.iconst 1, 1) := by decide +kernel
theorem dK_sound_35 : decode cK_sound 35 = .ok (.ireturn, 1) := by decide +kernel
theorem dK_paint_0 : decode cK_paint 0 = .ok (.aload_n 0, 1) := by decide +kernel
theorem dK_paint_1 : decode cK_paint 1 = .ok (.invokevirtual 64, 3) := by decide +kernel
theorem dK_paint_4 : decode cK_paint 4 = .ok (.iload_n 1, 1) := by decide +kernel
theorem dK_paint_5 : decode cK_paint 5 = .ok (.bipush 8, 2) := by decide +kernel
theorem dK_paint_7 : decode cK_paint 7 = .ok (.invokestatic 67, 3) := by decide +kernel
theorem dK_paint_10 : decode cK_paint 10 = .ok (.ifCond .eq 12, 3) := by decide +kernel
theorem dK_paint_13 : decode cK_paint 13 = .ok (.iload_n 2, 1) := by decide +kernel
theorem dK_paint_14 : decode cK_paint 14 = .ok (.ldc 82, 2) := by decide +kernel
theorem dK_paint_16 : decode cK_paint 16 = .ok (.invokestatic 67, 3) := by decide +kernel
theorem dK_paint_19 : decode cK_paint 19 = .ok (.ifCond .ne 5, 3) := by decide +kernel
theorem dK_paint_22 : decode cK_paint 22 = .ok (.iconst 0, 1) := by decide +kernel
theorem dK_paint_23 : decode cK_paint 23 = .ok (.ireturn, 1) := by decide +kernel
theorem dK_paint_24 : decode cK_paint 24 = .ok (.aload_n 0, 1) := by decide +kernel
theorem dK_paint_25 : decode cK_paint 25 = .ok (.getfield 47, 3) := by decide +kernel
theorem dK_paint_28 : decode cK_paint 28 = .ok (.iload_n 1, 1) := by decide +kernel
theorem dK_paint_29 : decode cK_paint 29 = .ok (.iload_n 2, 1) := by decide +kernel
theorem dK_paint_30 : decode cK_paint 30 = .ok (.invokevirtual 83, 3) := by decide +kernel
theorem dK_paint_33 : decode cK_paint 33 = .ok (.iconst 1, 1) := by decide +kernel
theorem dK_paint_34 : decode cK_paint 34 = .ok (.ireturn, 1) := by decide +kernel
theorem dK_show_0 : decode cK_show 0 = .ok (.aload_n 0, 1) := by decide +kernel
theorem dK_show_1 : decode cK_show 1 = .ok (.invokevirtual 64, 3) := by decide +kernel
theorem dK_show_4 : decode cK_show 4 = .ok (.aload_n 0, 1) := by decide +kernel
theorem dK_show_5 : decode cK_show 5 = .ok (.getfield 37, 3) := by decide +kernel
theorem dK_show_8 : decode cK_show 8 = .ok (.getfield 87, 3) := by decide +kernel
theorem dK_show_11 : decode cK_show 11 = .ok (.ifnull 5, 3) := by decide +kernel
theorem dK_show_14 : decode cK_show 14 = .ok (.iconst 0, 1) := by decide +kernel
theorem dK_show_15 : decode cK_show 15 = .ok (.ireturn, 1) := by decide +kernel
theorem dK_show_16 : decode cK_show 16 = .ok (.aload_n 0, 1) := by decide +kernel
theorem dK_show_17 : decode cK_show 17 = .ok (.getfield 37, 3) := by decide +kernel
theorem dK_show_20 : decode cK_show 20 = .ok (.aload_n 0, 1) := by decide +kernel
theorem dK_show_21 : decode cK_show 21 = .ok (.getfield 47, 3) := by decide +kernel
theorem dK_show_24 : decode cK_show 24 = .ok (.invokevirtual 90, 3) := by decide +kernel
theorem dK_show_27 : decode cK_show 27 = .ok (.putfield 87, 3) := by decide +kernel
theorem dK_show_30 : decode cK_show 30 = .ok (.iconst 1, 1) := by decide +kernel
theorem dK_show_31 : decode cK_show 31 = .ok (.ireturn, 1) := by decide +kernel
theorem dK_contact_0 : decode cK_contact 0 = .ok (.aload_n 0, 1) := by decide +kernel
theorem dK_contact_1 : decode cK_contact 1 = .ok (.invokevirtual 64, 3) := by decide +kernel
theorem dK_contact_4 : decode cK_contact 4 = .ok (.iload_n 1, 1) := by decide +kernel
theorem dK_contact_5 : decode cK_contact 5 = .ok (.bipush 16, 2) := by decide +kernel
theorem dK_contact_7 : decode cK_contact 7 = .ok (.invokestatic 67, 3) := by decide +kernel
theorem dK_contact_10 : decode cK_contact 10 = .ok (.ifCond .ne 5, 3) := by decide +kernel
theorem dK_contact_13 : decode cK_contact 13 = .ok (.iconst 0, 1) := by decide +kernel
theorem dK_contact_14 : decode cK_contact 14 = .ok (.ireturn, 1) := by decide +kernel
theorem dK_contact_15 : decode cK_contact 15 = .ok (.aload_n 0, 1) := by decide +kernel
theorem dK_contact_16 : decode cK_contact 16 = .ok (.iload_n 2, 1) := by decide +kernel
theorem dK_contact_17 : decode cK_contact 17 = .ok (.ifCond .eq 14, 3) := by decide +kernel
theorem dK_contact_20 : decode cK_contact 20 = .ok (.aload_n 0, 1) := by decide +kernel
theorem dK_contact_21 : decode cK_contact 21 = .ok (.getfield 51, 3) := by decide +kernel
theorem dK_contact_24 : decode cK_contact 24 = .ok (.iconst 1, 1) := by decide +kernel
theorem dK_contact_25 : decode cK_contact 25 = .ok (.iload_n 1, 1) := by decide +kernel
theorem dK_contact_26 : decode cK_contact 26 = .ok (.ishl, 1) := by decide +kernel
theorem dK_contact_27 : decode cK_contact 27 = .ok (.ior, 1) := by decide +kernel
theorem dK_contact_28 : decode cK_contact 28 = .ok (.goto 13, 3) := by decide +kernel
theorem dK_contact_31 : decode cK_contact 31 = .ok (.aload_n 0, 1) := by decide +kernel
theorem dK_contact_32 : decode cK_contact 32 = .ok (.getfield 51, 3) := by decide +kernel
theorem dK_contact_35 : decode cK_contact 35 = .ok (.iconst 1, 1) := by decide +kernel
theorem dK_contact_36 : decode cK_contact 36 = .ok (.iload_n 1, 1) := by decide +kernel
theorem dK_contact_37 : decode cK_contact 37 = .ok (.ishl, 1) := by decide +kernel
theorem dK_contact_38 : decode cK_contact 38 = .ok (.iconst (-1), 1) := by decide +kernel
theorem dK_contact_39 : decode cK_contact 39 = .ok (.ixor, 1) := by decide +kernel
theorem dK_contact_40 : decode cK_contact 40 = .ok (.iand, 1) := by decide +kernel
theorem dK_contact_41 : decode cK_contact 41 = .ok (.putfield 51, 3) := by decide +kernel
theorem dK_contact_44 : decode cK_contact 44 = .ok (.iconst 1, 1) := by decide +kernel
theorem dK_contact_45 : decode cK_contact 45 = .ok (.ireturn, 1) := by decide +kernel
theorem dK_second_0 : decode cK_second 0 = .ok (.aload_n 0, 1) := by decide +kernel
theorem dK_second_1 : decode cK_second 1 = .ok (.invokevirtual 64, 3) := by decide +kernel
theorem dK_second_4 : decode cK_second 4 = .ok (.iload_n 1, 1) := by decide +kernel
theorem dK_second_5 : decode cK_second 5 = .ok (.aload_n 0, 1) := by decide +kernel
theorem dK_second_6 : decode cK_second 6 = .ok (.getfield 37, 3) := by decide +kernel
theorem dK_second_9 : decode cK_second 9 = .ok (.getfield 94, 3) := by decide +kernel
theorem dK_second_12 : decode cK_second 12 = .ok (.if_icmp .le 10, 3) := by decide +kernel
theorem dK_second_15 : decode cK_second 15 = .ok (.iload_n 1, 1) := by decide +kernel
theorem dK_second_16 : decode cK_second 16 = .ok (.sipush 9999, 3) := by decide +kernel
theorem dK_second_19 : decode cK_second 19 = .ok (.if_icmp .le 11, 3) := by decide +kernel
theorem dK_second_22 : decode cK_second 22 = .ok (.new 97, 3) := by decide +kernel
theorem dK_second_25 : decode cK_second 25 = .ok (.dup, 1) := by decide +kernel
theorem dK_second_26 : decode cK_second 26 = .ok (.invokespecial 99, 3) := by decide +kernel
theorem dK_second_29 : decode cK_second 29 = .ok (.athrow, 1) := by decide +kernel
theorem dK_second_30 : decode cK_second 30 = .ok (.aload_n 0, 1) := by decide +kernel
theorem dK_second_31 : decode cK_second 31 = .ok (.getfield 37, 3) := by decide +kernel
theorem dK_second_34 : decode cK_second 34 = .ok (.aload_n 0, 1) := by decide +kernel
theorem dK_second_35 : decode cK_second 35 = .ok (.getfield 51, 3) := by decide +kernel
theorem dK_second_38 : decode cK_second 38 = .ok (.aload_n 0, 1) := by decide +kernel
theorem dK_second_39 : decode cK_second 39 = .ok (.invokevirtual 100, 3) := by decide +kernel
theorem dK_second_42 : decode cK_second 42 = .ok (.invokevirtual 104, 3) := by decide +kernel
theorem dK_second_45 : decode cK_second 45 = .ok (.aload_n 0, 1) := by decide +kernel
theorem dK_second_46 : decode cK_second 46 = .ok (.aload_n 0, 1) := by decide +kernel
theorem dK_second_47 : decode cK_second 47 = .ok (.getfield 37, 3) := by decide +kernel
theorem dK_second_50 : decode cK_second 50 = .ok (.invokevirtual 108, 3) := by decide +kernel
theorem dK_second_53 : decode cK_second 53 = .ok (.istore_n 2, 1) := by decide +kernel
theorem dK_second_54 : decode cK_second 54 = .ok (.aload_n 0, 1) := by decide +kernel
theorem dK_second_55 : decode cK_second 55 = .ok (.getfield 37, 3) := by decide +kernel
theorem dK_second_58 : decode cK_second 58 = .ok (.getfield 87, 3) := by decide +kernel
theorem dK_second_61 : decode cK_second 61 = .ok (.ifnull 11, 3) := by decide +kernel
theorem dK_second_64 : decode cK_second 64 = .ok (.aload_n 0, 1) := by decide +kernel
theorem dK_second_65 : decode cK_second 65 = .ok (.aload_n 0, 1) := by decide +kernel
theorem dK_second_66 : decode cK_second 66 = .ok (.getfield 37, 3) := by decide +kernel
theorem dK_second_69 : decode cK_second 69 = .ok (.putfield 41, 3) := by decide +kernel
theorem dK_second_72 : decode cK_second 72 = .ok (.aload_n 0, 1) := by decide +kernel
theorem dK_second_73 : decode cK_second 73 = .ok (.new 32, 3) := by decide +kernel
theorem dK_second_76 : decode cK_second 76 = .ok (.dup, 1) := by decide +kernel
theorem dK_second_77 : decode cK_second 77 = .ok (.iload_n 1, 1) := by decide +kernel
theorem dK_second_78 : decode cK_second 78 = .ok (.invokespecial 34, 3) := by decide +kernel
theorem dK_second_81 : decode cK_second 81 = .ok (.putfield 37, 3) := by decide +kernel
theorem dK_second_84 : decode cK_second 84 = .ok (.aload_n 0, 1) := by decide +kernel
theorem dK_second_85 : decode cK_second 85 = .ok (.getfield 10, 3) := by decide +kernel
theorem dK_second_88 : decode cK_second 88 = .ok (.invokevirtual 112, 3) := by decide +kernel
theorem dK_second_91 : decode cK_second 91 = .ok (.ifCond .ne 9, 3) := by decide +kernel
theorem dK_second_94 : decode cK_second 94 = .ok (.aload_n 0, 1) := by decide +kernel
theorem dK_second_95 : decode cK_second 95 = .ok (.invokevirtual 116, 3) := by decide +kernel
theorem dK_second_98 : decode cK_second 98 = .ok (.iconst (-1), 1) := by decide +kernel
theorem dK_second_99 : decode cK_second 99 = .ok (.ireturn, 1) := by decide +kernel
theorem dK_second_100 : decode cK_second 100 = .ok (.iload_n 2, 1) := by decide +kernel
theorem dK_second_101 : decode cK_second 101 = .ok (.ireturn, 1) := by decide +kernel
theorem dK_formerOfMinute_0 : decode cK_formerOfMinute 0 = .ok (.aload_n 0, 1) := by decide +kernel
theorem dK_formerOfMinute_1 : decode cK_formerOfMinute 1 = .ok (.getfield 41, 3) := by decide +kernel
theorem dK_formerOfMinute_4 : decode cK_formerOfMinute 4 = .ok (.ifnull 30, 3) := by decide +kernel
theorem dK_formerOfMinute_7 : decode cK_formerOfMinute 7 = .ok (.aload_n 0, 1) := by decide +kernel
theorem dK_formerOfMinute_8 : decode cK_formerOfMinute 8 = .ok (.getfield 41, 3) := by decide +kernel
theorem dK_formerOfMinute_11 : decode cK_formerOfMinute 11 = .ok (.getfield 94, 3) := by decide +kernel
theorem dK_formerOfMinute_14 : decode cK_formerOfMinute 14 = .ok (.bipush 10, 2) := by decide +kernel
theorem dK_formerOfMinute_16 : decode cK_formerOfMinute 16 = .ok (.idiv, 1) := by decide +kernel
theorem dK_formerOfMinute_17 : decode cK_formerOfMinute 17 = .ok (.aload_n 0, 1) := by decide +kernel
theorem dK_formerOfMinute_18 : decode cK_formerOfMinute 18 = .ok (.getfield 37, 3) := by decide +kernel
theorem dK_formerOfMinute_21 : decode cK_formerOfMinute 21 = .ok (.getfield 94, 3) := by decide +kernel
theorem dK_formerOfMinute_24 : decode cK_formerOfMinute 24 = .ok (.bipush 10, 2) := by decide +kernel
theorem dK_formerOfMinute_26 : decode cK_formerOfMinute 26 = .ok (.idiv, 1) := by decide +kernel
theorem dK_formerOfMinute_27 : decode cK_formerOfMinute 27 = .ok (.if_icmp .ne 7, 3) := by decide +kernel
theorem dK_formerOfMinute_30 : decode cK_formerOfMinute 30 = .ok (.iconst 1, 1) := by decide +kernel
theorem dK_formerOfMinute_31 : decode cK_formerOfMinute 31 = .ok (.goto 4, 3) := by decide +kernel
theorem dK_formerOfMinute_34 : decode cK_formerOfMinute 34 = .ok (.iconst 0, 1) := by decide +kernel
theorem dK_formerOfMinute_35 : decode cK_formerOfMinute 35 = .ok (.istore_n 1, 1) := by decide +kernel
theorem dK_formerOfMinute_36 : decode cK_formerOfMinute 36 = .ok (.iload_n 1, 1) := by decide +kernel
theorem dK_formerOfMinute_37 : decode cK_formerOfMinute 37 = .ok (.ifCond .eq 10, 3) := by decide +kernel
theorem dK_formerOfMinute_40 : decode cK_formerOfMinute 40 = .ok (.aload_n 0, 1) := by decide +kernel
theorem dK_formerOfMinute_41 : decode cK_formerOfMinute 41 = .ok (.getfield 41, 3) := by decide +kernel
theorem dK_formerOfMinute_44 : decode cK_formerOfMinute 44 = .ok (.goto 4, 3) := by decide +kernel
theorem dK_formerOfMinute_47 : decode cK_formerOfMinute 47 = .ok (.aconst_null, 1) := by decide +kernel
theorem dK_formerOfMinute_48 : decode cK_formerOfMinute 48 = .ok (.areturn, 1) := by decide +kernel
theorem dK_writeToStores_0 : decode cK_writeToStores 0 = .ok (.iconst 0, 1) := by decide +kernel
theorem dK_writeToStores_1 : decode cK_writeToStores 1 = .ok (.istore_n 2, 1) := by decide +kernel
theorem dK_writeToStores_2 : decode cK_writeToStores 2 = .ok (.iconst 0, 1) := by decide +kernel
theorem dK_writeToStores_3 : decode cK_writeToStores 3 = .ok (.istore_n 3, 1) := by decide +kernel
theorem dK_writeToStores_4 : decode cK_writeToStores 4 = .ok (.iload_n 3, 1) := by decide +kernel
theorem dK_writeToStores_5 : decode cK_writeToStores 5 = .ok (.aload_n 0, 1) := by decide +kernel
theorem dK_writeToStores_6 : decode cK_writeToStores 6 = .ok (.getfield 28, 3) := by decide +kernel
theorem dK_writeToStores_9 : decode cK_writeToStores 9 = .ok (.arraylength, 1) := by decide +kernel
theorem dK_writeToStores_10 : decode cK_writeToStores 10 = .ok (.if_icmp .ge 43, 3) := by decide +kernel
theorem dK_writeToStores_13 : decode cK_writeToStores 13 = .ok (.aload_n 0, 1) := by decide +kernel
theorem dK_writeToStores_14 : decode cK_writeToStores 14 = .ok (.getfield 10, 3) := by decide +kernel
theorem dK_writeToStores_17 : decode cK_writeToStores 17 = .ok (.invokevirtual 112, 3) := by decide +kernel
theorem dK_writeToStores_20 : decode cK_writeToStores 20 = .ok (.ifCond .eq 33, 3) := by decide +kernel
theorem dK_writeToStores_23 : decode cK_writeToStores 23 = .ok (.aload_n 0, 1) := by decide +kernel
theorem dK_writeToStores_24 : decode cK_writeToStores 24 = .ok (.getfield 28, 3) := by decide +kernel
theorem dK_writeToStores_27 : decode cK_writeToStores 27 = .ok (.iload_n 3, 1) := by decide +kernel
theorem dK_writeToStores_28 : decode cK_writeToStores 28 = .ok (.aaload, 1) := by decide +kernel
theorem dK_writeToStores_29 : decode cK_writeToStores 29 = .ok (.aload_n 1, 1) := by decide +kernel
theorem dK_writeToStores_30 : decode cK_writeToStores 30 = .ok (.aload_n 0, 1) := by decide +kernel
theorem dK_writeToStores_31 : decode cK_writeToStores 31 = .ok (.getfield 19, 3) := by decide +kernel
theorem dK_writeToStores_34 : decode cK_writeToStores 34 = .ok (.aload_n 0, 1) := by decide +kernel
theorem dK_writeToStores_35 : decode cK_writeToStores 35 = .ok (.getfield 10, 3) := by decide +kernel
theorem dK_writeToStores_38 : decode cK_writeToStores 38 = .ok (.invokevirtual 213, 3) := by decide +kernel
theorem dK_writeToStores_41 : decode cK_writeToStores 41 = .ok (.ifCond .eq 6, 3) := by decide +kernel
theorem dK_writeToStores_44 : decode cK_writeToStores 44 = .ok (.iinc 2 1, 3) := by decide +kernel
theorem dK_writeToStores_47 : decode cK_writeToStores 47 = .ok (.iinc 3 1, 3) := by decide +kernel
theorem dK_writeToStores_50 : decode cK_writeToStores 50 = .ok (.goto (-46), 3) := by decide +kernel
theorem dK_writeToStores_53 : decode cK_writeToStores 53 = .ok (.iload_n 2, 1) := by decide +kernel
theorem dK_writeToStores_54 : decode cK_writeToStores 54 = .ok (.ireturn, 1) := by decide +kernel
theorem dK_forgetWhatPowerHeld_0 : decode cK_forgetWhatPowerHeld 0 = .ok (.aload_n 0, 1) := by decide +kernel
theorem dK_forgetWhatPowerHeld_1 : decode cK_forgetWhatPowerHeld 1 = .ok (.aconst_null, 1) := by decide +kernel
theorem dK_forgetWhatPowerHeld_2 : decode cK_forgetWhatPowerHeld 2 = .ok (.putfield 41, 3) := by decide +kernel
theorem dK_forgetWhatPowerHeld_5 : decode cK_forgetWhatPowerHeld 5 = .ok (.aload_n 0, 1) := by decide +kernel
theorem dK_forgetWhatPowerHeld_6 : decode cK_forgetWhatPowerHeld 6 = .ok (.new 44, 3) := by decide +kernel
theorem dK_forgetWhatPowerHeld_9 : decode cK_forgetWhatPowerHeld 9 = .ok (.dup, 1) := by decide +kernel
theorem dK_forgetWhatPowerHeld_10 : decode cK_forgetWhatPowerHeld 10 = .ok (.invokespecial 46, 3) := by decide +kernel
theorem dK_forgetWhatPowerHeld_13 : decode cK_forgetWhatPowerHeld 13 = .ok (.putfield 47, 3) := by decide +kernel
theorem dK_forgetWhatPowerHeld_16 : decode cK_forgetWhatPowerHeld 16 = .ok (.aload_n 0, 1) := by decide +kernel
theorem dK_forgetWhatPowerHeld_17 : decode cK_forgetWhatPowerHeld 17 = .ok (.iconst 0, 1) := by decide +kernel
theorem dK_forgetWhatPowerHeld_18 : decode cK_forgetWhatPowerHeld 18 = .ok (.putfield 51, 3) := by decide +kernel
theorem dK_forgetWhatPowerHeld_21 : decode cK_forgetWhatPowerHeld 21 = .ok (.return_, 1) := by decide +kernel
theorem dK_freeze_0 : decode cK_freeze 0 = .ok (.aload_n 0, 1) := by decide +kernel
theorem dK_freeze_1 : decode cK_freeze 1 = .ok (.invokevirtual 64, 3) := by decide +kernel
theorem dK_freeze_4 : decode cK_freeze 4 = .ok (.iload_n 1, 1) := by decide +kernel
theorem dK_freeze_5 : decode cK_freeze 5 = .ok (.bipush 10, 2) := by decide +kernel
theorem dK_freeze_7 : decode cK_freeze 7 = .ok (.invokestatic 67, 3) := by decide +kernel
theorem dK_freeze_10 : decode cK_freeze 10 = .ok (.ifCond .eq 12, 3) := by decide +kernel
theorem dK_freeze_13 : decode cK_freeze 13 = .ok (.iload_n 2, 1) := by decide +kernel
theorem dK_freeze_14 : decode cK_freeze 14 = .ok (.bipush 10, 2) := by decide +kernel
theorem dK_freeze_16 : decode cK_freeze 16 = .ok (.invokestatic 67, 3) := by decide +kernel
theorem dK_freeze_19 : decode cK_freeze 19 = .ok (.ifCond .ne 5, 3) := by decide +kernel
theorem dK_freeze_22 : decode cK_freeze 22 = .ok (.iconst (-1), 1) := by decide +kernel
theorem dK_freeze_23 : decode cK_freeze 23 = .ok (.ireturn, 1) := by decide +kernel
theorem dK_freeze_24 : decode cK_freeze 24 = .ok (.aload_n 0, 1) := by decide +kernel
theorem dK_freeze_25 : decode cK_freeze 25 = .ok (.getfield 19, 3) := by decide +kernel
theorem dK_freeze_28 : decode cK_freeze 28 = .ok (.invokevirtual 119, 3) := by decide +kernel
theorem dK_freeze_31 : decode cK_freeze 31 = .ok (.istore_n 3, 1) := by decide +kernel
theorem dK_freeze_32 : decode cK_freeze 32 = .ok (.iload_n 3, 1) := by decide +kernel
theorem dK_freeze_33 : decode cK_freeze 33 = .ok (.iconst (-1), 1) := by decide +kernel
theorem dK_freeze_34 : decode cK_freeze 34 = .ok (.if_icmp .ne 5, 3) := by decide +kernel
theorem dK_freeze_37 : decode cK_freeze 37 = .ok (.iconst (-1), 1) := by decide +kernel
theorem dK_freeze_38 : decode cK_freeze 38 = .ok (.ireturn, 1) := by decide +kernel
theorem dK_freeze_39 : decode cK_freeze 39 = .ok (.aload_n 0, 1) := by decide +kernel
theorem dK_freeze_40 : decode cK_freeze 40 = .ok (.getfield 19, 3) := by decide +kernel
theorem dK_freeze_43 : decode cK_freeze 43 = .ok (.iload_n 3, 1) := by decide +kernel
theorem dK_freeze_44 : decode cK_freeze 44 = .ok (.iconst 0, 1) := by decide +kernel
theorem dK_freeze_45 : decode cK_freeze 45 = .ok (.aload_n 0, 1) := by decide +kernel
theorem dK_freeze_46 : decode cK_freeze 46 = .ok (.getfield 37, 3) := by decide +kernel
theorem dK_freeze_49 : decode cK_freeze 49 = .ok (.getfield 94, 3) := by decide +kernel
theorem dK_freeze_52 : decode cK_freeze 52 = .ok (.iload_n 1, 1) := by decide +kernel
theorem dK_freeze_53 : decode cK_freeze 53 = .ok (.isub, 1) := by decide +kernel
theorem dK_freeze_54 : decode cK_freeze 54 = .ok (.invokestatic 123, 3) := by decide +kernel
theorem dK_freeze_57 : decode cK_freeze 57 = .ok (.aload_n 0, 1) := by decide +kernel
theorem dK_freeze_58 : decode cK_freeze 58 = .ok (.getfield 37, 3) := by decide +kernel
theorem dK_freeze_61 : decode cK_freeze 61 = .ok (.getfield 94, 3) := by decide +kernel
theorem dK_freeze_64 : decode cK_freeze 64 = .ok (.iload_n 2, 1) := by decide +kernel
theorem dK_freeze_65 : decode cK_freeze 65 = .ok (.iadd, 1) := by decide +kernel
theorem dK_freeze_66 : decode cK_freeze 66 = .ok (.invokevirtual 129, 3) := by decide +kernel
theorem dK_freeze_69 : decode cK_freeze 69 = .ok (.aload_n 0, 1) := by decide +kernel
theorem dK_freeze_70 : decode cK_freeze 70 = .ok (.invokevirtual 132, 3) := by decide +kernel
theorem dK_freeze_73 : decode cK_freeze 73 = .ok (.bipush 20, 2) := by decide +kernel
theorem dK_freeze_75 : decode cK_freeze 75 = .ok (.if_icmp .le 13, 3) := by decide +kernel
theorem dK_freeze_78 : decode cK_freeze 78 = .ok (.aload_n 0, 1) := by decide +kernel
theorem dK_freeze_79 : decode cK_freeze 79 = .ok (.getfield 19, 3) := by decide +kernel
theorem dK_freeze_82 : decode cK_freeze 82 = .ok (.iload_n 3, 1) := by decide +kernel
theorem dK_freeze_83 : decode cK_freeze 83 = .ok (.invokevirtual 135, 3) := by decide +kernel
theorem dK_freeze_86 : decode cK_freeze 86 = .ok (.iconst (-1), 1) := by decide +kernel
theorem dK_freeze_87 : decode cK_freeze 87 = .ok (.ireturn, 1) := by decide +kernel
theorem dK_freeze_88 : decode cK_freeze 88 = .ok (.iload_n 3, 1) := by decide +kernel
theorem dK_freeze_89 : decode cK_freeze 89 = .ok (.ireturn, 1) := by decide +kernel
theorem dK_pagesForFreezes_0 : decode cK_pagesForFreezes 0 = .ok (.aload_n 0, 1) := by decide +kernel
theorem dK_pagesForFreezes_1 : decode cK_pagesForFreezes 1 = .ok (.getfield 28, 3) := by decide +kernel
theorem dK_pagesForFreezes_4 : decode cK_pagesForFreezes 4 = .ok (.iconst 0, 1) := by decide +kernel
theorem dK_pagesForFreezes_5 : decode cK_pagesForFreezes 5 = .ok (.aaload, 1) := by decide +kernel
theorem dK_pagesForFreezes_6 : decode cK_pagesForFreezes 6 = .ok (.aload_n 0, 1) := by decide +kernel
theorem dK_pagesForFreezes_7 : decode cK_pagesForFreezes 7 = .ok (.getfield 19, 3) := by decide +kernel
theorem dK_pagesForFreezes_10 : decode cK_pagesForFreezes 10 = .ok (.invokevirtual 217, 3) := by decide +kernel
theorem dK_pagesForFreezes_13 : decode cK_pagesForFreezes 13 = .ok (.istore_n 1, 1) := by decide +kernel
theorem dK_pagesForFreezes_14 : decode cK_pagesForFreezes 14 = .ok (.iconst 0, 1) := by decide +kernel
theorem dK_pagesForFreezes_15 : decode cK_pagesForFreezes 15 = .ok (.istore_n 2, 1) := by decide +kernel
theorem dK_pagesForFreezes_16 : decode cK_pagesForFreezes 16 = .ok (.iload_n 2, 1) := by decide +kernel
theorem dK_pagesForFreezes_17 : decode cK_pagesForFreezes 17 = .ok (.bipush 9, 2) := by decide +kernel
theorem dK_pagesForFreezes_19 : decode cK_pagesForFreezes 19 = .ok (.if_icmp .gt 31, 3) := by decide +kernel
theorem dK_pagesForFreezes_22 : decode cK_pagesForFreezes 22 = .ok (.aload_n 0, 1) := by decide +kernel
theorem dK_pagesForFreezes_23 : decode cK_pagesForFreezes 23 = .ok (.getfield 19, 3) := by decide +kernel
theorem dK_pagesForFreezes_26 : decode cK_pagesForFreezes 26 = .ok (.aload_n 0, 1) := by decide +kernel
theorem dK_pagesForFreezes_27 : decode cK_pagesForFreezes 27 = .ok (.getfield 37, 3) := by decide +kernel
theorem dK_pagesForFreezes_30 : decode cK_pagesForFreezes 30 = .ok (.getfield 94, 3) := by decide +kernel
theorem dK_pagesForFreezes_33 : decode cK_pagesForFreezes 33 = .ok (.iload_n 2, 1) := by decide +kernel
theorem dK_pagesForFreezes_34 : decode cK_pagesForFreezes 34 = .ok (.iadd, 1) := by decide +kernel
theorem dK_pagesForFreezes_35 : decode cK_pagesForFreezes 35 = .ok (.invokevirtual 221, 3) := by decide +kernel
theorem dK_pagesForFreezes_38 : decode cK_pagesForFreezes 38 = .ok (.ifCond .eq 6, 3) := by decide +kernel
theorem dK_pagesForFreezes_41 : decode cK_pagesForFreezes 41 = .ok (.iinc 1 5, 3) := by decide +kernel
theorem dK_pagesForFreezes_44 : decode cK_pagesForFreezes 44 = .ok (.iinc 2 1, 3) := by decide +kernel
theorem dK_pagesForFreezes_47 : decode cK_pagesForFreezes 47 = .ok (.goto (-31), 3) := by decide +kernel
theorem dK_pagesForFreezes_50 : decode cK_pagesForFreezes 50 = .ok (.iload_n 1, 1) := by decide +kernel
theorem dK_pagesForFreezes_51 : decode cK_pagesForFreezes 51 = .ok (.ireturn, 1) := by decide +kernel
theorem dK_release_0 : decode cK_release 0 = .ok (.aload_n 0, 1) := by decide +kernel
theorem dK_release_1 : decode cK_release 1 = .ok (.invokevirtual 64, 3) := by decide +kernel
theorem dK_release_4 : decode cK_release 4 = .ok (.aload_n 0, 1) := by decide +kernel
theorem dK_release_5 : decode cK_release 5 = .ok (.getfield 19, 3) := by decide +kernel
theorem dK_release_8 : decode cK_release 8 = .ok (.iload_n 1, 1) := by decide +kernel
theorem dK_release_9 : decode cK_release 9 = .ok (.invokevirtual 138, 3) := by decide +kernel
theorem dK_release_12 : decode cK_release 12 = .ok (.ifCond .ne 5, 3) := by decide +kernel
theorem dK_release_15 : decode cK_release 15 = .ok (.iconst 0, 1) := by decide +kernel
theorem dK_release_16 : decode cK_release 16 = .ok (.ireturn, 1) := by decide +kernel
theorem dK_release_17 : decode cK_release 17 = .ok (.aload_n 0, 1) := by decide +kernel
theorem dK_release_18 : decode cK_release 18 = .ok (.getfield 19, 3) := by decide +kernel
theorem dK_release_21 : decode cK_release 21 = .ok (.iload_n 1, 1) := by decide +kernel
theorem dK_release_22 : decode cK_release 22 = .ok (.invokevirtual 135, 3) := by decide +kernel
theorem dK_release_25 : decode cK_release 25 = .ok (.iconst 1, 1) := by decide +kernel
theorem dK_release_26 : decode cK_release 26 = .ok (.ireturn, 1) := by decide +kernel
